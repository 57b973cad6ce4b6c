
/-- the reference's world -/
def MW (cI cJ cB : ClassId) (h : Nat) (v : Nat → Nat) (i : Nat → Int32) (j : Nat → Int64) (a : Nat → Nat → Int32) (b : Nat → Nat → Int64) : va_W := [(h, .inr (12, mo v i j)), (v 1, .inl (cB, 300000, .inl (a 1))), (v 2, .inl (cB, 300000, .inl (a 2))), (v 3, .inl (cI, 120000, .inl (a 3))), (v 4, .inl (cI, 120000, .inl (a 4))), (v 5, .inl (cI, 120000, .inl (a 5))), (v 6, .inl (cI, 120000, .inl (a 6))), (v 7, .inl (cI, 120000, .inl (a 7))), (v 8, .inl (cI, 120000, .inl (a 8))), (v 9, .inl (cJ, 120000, .inr (.inl (b 9)))), (v 10, .inl (cJ, 90000, .inr (.inl (b 10)))), (v 11, .inl (cJ, 90000, .inr (.inl (b 11)))), (v 12, .inl (cI, 90000, .inl (a 12))), (v 13, .inl (cI, 90000, .inl (a 13))), (v 14, .inl (cI, 90000, .inl (a 14))), (v 15, .inl (cI, 90000, .inl (a 15))), (v 16, .inl (cI, 90000, .inl (a 16))), (v 17, .inl (cI, 90000, .inl (a 17))), (v 22, .inl (cJ, 1300, .inr (.inl (b 22)))), (v 23, .inl (cJ, 1300, .inr (.inl (b 23)))), (v 24, .inl (cB, 40000, .inl (a 24))), (v 26, .inl (cI, 1300, .inl (a 26))), (v 27, .inl (cI, 1300, .inl (a 27))), (v 29, .inl (cI, 40, .inl (a 29))), (v 30, .inl (cI, 40, .inl (a 30))), (v 31, .inl (cI, 200, .inl (a 31))), (v 32, .inl (cJ, 40, .inr (.inl (b 32)))), (v 34, .inl (cI, 64, .inl (a 34))), (v 35, .inl (cJ, 64, .inr (.inl (b 35)))), (v 37, .inl (cI, 8, .inl (a 37))), (v 38, .inl (cI, 8, .inl (a 38))), (v 39, .inl (cI, 8, .inl (a 39))), (v 40, .inl (cI, 8, .inl (a 40))), (v 41, .inl (cI, 8, .inl (a 41))), (v 42, .inl (cI, 8, .inl (a 42))), (v 43, .inl (cI, 8, .inl (a 43))), (v 44, .inl (cI, 4096, .inl (a 44))), (v 45, .inl (cB, 2000, .inl (a 45))), (v 49, .inl (cI, 40, .inl (a 49))), (v 50, .inl (cI, 40, .inl (a 50))), (v 51, .inl (cI, 200, .inl (a 51))), (v 52, .inl (cI, 64, .inl (a 52))), (v 53, .inl (cI, 56, .inl (a 53))), (v 54, .inl (cI, 4096, .inl (a 54))), (v 55, .inl (cJ, 40, .inr (.inl (b 55)))), (v 56, .inl (cJ, 64, .inr (.inl (b 56)))), (v 57, .inl (cB, 2000, .inl (a 57))), (v 71, .inl (cI, 90000, .inl (a 71))), (v 72, .inl (cI, 90000, .inl (a 72))), (v 73, .inl (cB, 4000, .inl (a 73))), (v 77, .inl (cI, 601, .inl (a 77))), (v 78, .inl (cI, 601, .inl (a 78))), (v 79, .inl (cI, 601, .inl (a 79))), (v 80, .inl (cJ, 601, .inr (.inl (b 80)))), (v 82, .inl (cI, 21, .inl (a 82))), (v 83, .inl (cJ, 601, .inr (.inl (b 83)))), (v 87, .inl (cI, 300, .inl (a 87))), (v 88, .inl (cI, 300, .inl (a 88))), (v 89, .inl (cI, 1500, .inl (a 89))), (v 90, .inl (cI, 300, .inl (a 90))), (v 91, .inl (cI, 300, .inl (a 91))), (v 111, .inl (cJ, 36000, .inr (.inl (b 111)))), (v 112, .inl (cI, 150, .inl (a 112))), (v 113, .inl (cI, 150, .inl (a 113))), (v 114, .inl (cI, 1800, .inl (a 114))), (v 115, .inl (cJ, 1800, .inr (.inl (b 115)))), (v 119, .inl (cI, 151, .inl (a 119))), (v 120, .inl (cI, 151, .inl (a 120))), (v 121, .inl (cI, 151, .inl (a 121))), (v 122, .inl (cJ, 151, .inr (.inl (b 122)))), (v 123, .inl (cJ, 151, .inr (.inl (b 123))))]
def updB (b : Nat → Nat → Int64) (k : Nat) (f : Nat → Int64) : Nat → Nat → Int64 := fun q => if q = k then f else b q
abbrev svl (b : Nat → Nat → Int64) (k q : Nat) (x : Int64) : Nat → Nat → Int64 := updB b k (vp_updL (b k) q x)
def om {α β γ δ ε ζ : Type} (x : Option (α × β × γ × δ × ε)) (f : α → β → γ → δ → ε → Option ζ) : Option ζ := match x with
  | none => none
  | some y => f y.1 y.2.1 y.2.2.1 y.2.2.2.1 y.2.2.2.2
theorem om_some {α β γ δ ε ζ : Type} {x : Option (α × β × γ × δ × ε)} {f : α → β → γ → δ → ε → Option ζ} {z : ζ} (h : om x f = some z) : ∃ y1 y2 y3 y4 y5, x = some (y1, y2, y3, y4, y5) ∧ f y1 y2 y3 y4 y5 = some z := by
  match x, h with
  | none, h => cases h
  | some y, h => exact ⟨y.1, y.2.1, y.2.2.1, y.2.2.2.1, y.2.2.2.2, rfl, h⟩
theorem re4m {α β γ δ ε : Type} {x x2 : α} {y y2 : β} {z z2 : γ} {u u2 : δ} {r r2 : ε} (h : some (x, y, z, u, r) = some (x2, y2, z2, u2, r2)) : x = x2 ∧ y = y2 ∧ z = z2 ∧ u = u2 ∧ r = r2 := by
  cases h; exact ⟨rfl, rfl, rfl, rfl, rfl⟩
def cyb {δ : Type} (f : Nat → Int32) (sp m : Int32) (k : Option δ) : Option δ := if (List.range m.toNatClampNeg).all (fun q => fits .byte (.int (f (sp.toNatClampNeg + q)))) = true then k else none
theorem cyb_some {δ : Type} {f : Nat → Int32} {sp m : Int32} {k : Option δ} {z : δ} (h : cyb f sp m k = some z) : (∀ q, q < m.toNatClampNeg → fits .byte (.int (f (sp.toNatClampNeg + q))) = true) ∧ k = some z := by
  unfold cyb at h
  rcases Classical.em ((List.range m.toNatClampNeg).all (fun q => fits .byte (.int (f (sp.toNatClampNeg + q)))) = true) with c | c
  · rw [if_pos c] at h; exact ⟨fun q hq => List.all_eq_true.mp c q (List.mem_range.mpr hq), h⟩
  · rw [if_neg c] at h; cases h
def ct {δ : Type} (t : Nat) (k : Option δ) : Option δ := if t < 34 then k else none
theorem ct_some {δ : Type} {t : Nat} {k : Option δ} {z : δ} (h : ct t k = some z) : t < 34 ∧ k = some z := by
  unfold ct at h
  rcases Classical.em (t < 34) with c | c
  · rw [if_pos c] at h; exact ⟨c, h⟩
  · rw [if_neg c] at h; cases h
def cd {δ : Type} (t : Nat) (k : Option δ) : Option δ := if 37 ≤ t ∧ t ≤ 43 then k else none
theorem cd_some {δ : Type} {t : Nat} {k : Option δ} {z : δ} (h : cd t k = some z) : (37 ≤ t ∧ t ≤ 43) ∧ k = some z := by
  unfold cd at h
  rcases Classical.em (37 ≤ t ∧ t ≤ 43) with c | c
  · rw [if_pos c] at h; exact ⟨c, h⟩
  · rw [if_neg c] at h; cases h
def cs {δ : Type} (x : Int32) (n : Nat) (k : Option δ) : Option δ := if x < 0 ∨ (n : Int) ≤ x.toInt then none else k
theorem cs_some {δ : Type} {x : Int32} {n : Nat} {k : Option δ} {z : δ} (h : cs x n k = some z) : ¬ x < 0 ∧ x.toInt < n ∧ k = some z := by
  unfold cs at h
  rcases Classical.em (x < 0 ∨ (n : Int) ≤ x.toInt) with c | c
  · rw [if_pos c] at h; cases h
  · rw [if_neg c] at h; exact ⟨fun q => c (Or.inl q), Int.not_le.mp (fun q => c (Or.inr q)), h⟩
theorem yo_12 {cI cJ cB : ClassId} {h : Nat} {v : Nat → Nat} {i : Nat → Int32} {j : Nat → Int64} {a : Nat → Nat → Int32} {b : Nat → Nat → Int64} : (MW cI cJ cB h v i j a b)[0]? = some (h, .inr (12, mo v i j)) := rfl
theorem ya_1 {cI cJ cB : ClassId} {h : Nat} {v : Nat → Nat} {i : Nat → Int32} {j : Nat → Int64} {a : Nat → Nat → Int32} {b : Nat → Nat → Int64} : (MW cI cJ cB h v i j a b)[1]? = some (v 1, .inl (cB, 300000, .inl (a 1))) := rfl
theorem ya_2 {cI cJ cB : ClassId} {h : Nat} {v : Nat → Nat} {i : Nat → Int32} {j : Nat → Int64} {a : Nat → Nat → Int32} {b : Nat → Nat → Int64} : (MW cI cJ cB h v i j a b)[2]? = some (v 2, .inl (cB, 300000, .inl (a 2))) := rfl
theorem ya_3 {cI cJ cB : ClassId} {h : Nat} {v : Nat → Nat} {i : Nat → Int32} {j : Nat → Int64} {a : Nat → Nat → Int32} {b : Nat → Nat → Int64} : (MW cI cJ cB h v i j a b)[3]? = some (v 3, .inl (cI, 120000, .inl (a 3))) := rfl
theorem ya_4 {cI cJ cB : ClassId} {h : Nat} {v : Nat → Nat} {i : Nat → Int32} {j : Nat → Int64} {a : Nat → Nat → Int32} {b : Nat → Nat → Int64} : (MW cI cJ cB h v i j a b)[4]? = some (v 4, .inl (cI, 120000, .inl (a 4))) := rfl
theorem ya_5 {cI cJ cB : ClassId} {h : Nat} {v : Nat → Nat} {i : Nat → Int32} {j : Nat → Int64} {a : Nat → Nat → Int32} {b : Nat → Nat → Int64} : (MW cI cJ cB h v i j a b)[5]? = some (v 5, .inl (cI, 120000, .inl (a 5))) := rfl
theorem ya_6 {cI cJ cB : ClassId} {h : Nat} {v : Nat → Nat} {i : Nat → Int32} {j : Nat → Int64} {a : Nat → Nat → Int32} {b : Nat → Nat → Int64} : (MW cI cJ cB h v i j a b)[6]? = some (v 6, .inl (cI, 120000, .inl (a 6))) := rfl
theorem ya_7 {cI cJ cB : ClassId} {h : Nat} {v : Nat → Nat} {i : Nat → Int32} {j : Nat → Int64} {a : Nat → Nat → Int32} {b : Nat → Nat → Int64} : (MW cI cJ cB h v i j a b)[7]? = some (v 7, .inl (cI, 120000, .inl (a 7))) := rfl
theorem ya_8 {cI cJ cB : ClassId} {h : Nat} {v : Nat → Nat} {i : Nat → Int32} {j : Nat → Int64} {a : Nat → Nat → Int32} {b : Nat → Nat → Int64} : (MW cI cJ cB h v i j a b)[8]? = some (v 8, .inl (cI, 120000, .inl (a 8))) := rfl
theorem ya_9 {cI cJ cB : ClassId} {h : Nat} {v : Nat → Nat} {i : Nat → Int32} {j : Nat → Int64} {a : Nat → Nat → Int32} {b : Nat → Nat → Int64} : (MW cI cJ cB h v i j a b)[9]? = some (v 9, .inl (cJ, 120000, .inr (.inl (b 9)))) := rfl
theorem ya_10 {cI cJ cB : ClassId} {h : Nat} {v : Nat → Nat} {i : Nat → Int32} {j : Nat → Int64} {a : Nat → Nat → Int32} {b : Nat → Nat → Int64} : (MW cI cJ cB h v i j a b)[10]? = some (v 10, .inl (cJ, 90000, .inr (.inl (b 10)))) := rfl
theorem ya_11 {cI cJ cB : ClassId} {h : Nat} {v : Nat → Nat} {i : Nat → Int32} {j : Nat → Int64} {a : Nat → Nat → Int32} {b : Nat → Nat → Int64} : (MW cI cJ cB h v i j a b)[11]? = some (v 11, .inl (cJ, 90000, .inr (.inl (b 11)))) := rfl
theorem ya_12 {cI cJ cB : ClassId} {h : Nat} {v : Nat → Nat} {i : Nat → Int32} {j : Nat → Int64} {a : Nat → Nat → Int32} {b : Nat → Nat → Int64} : (MW cI cJ cB h v i j a b)[12]? = some (v 12, .inl (cI, 90000, .inl (a 12))) := rfl
theorem ya_13 {cI cJ cB : ClassId} {h : Nat} {v : Nat → Nat} {i : Nat → Int32} {j : Nat → Int64} {a : Nat → Nat → Int32} {b : Nat → Nat → Int64} : (MW cI cJ cB h v i j a b)[13]? = some (v 13, .inl (cI, 90000, .inl (a 13))) := rfl
theorem ya_14 {cI cJ cB : ClassId} {h : Nat} {v : Nat → Nat} {i : Nat → Int32} {j : Nat → Int64} {a : Nat → Nat → Int32} {b : Nat → Nat → Int64} : (MW cI cJ cB h v i j a b)[14]? = some (v 14, .inl (cI, 90000, .inl (a 14))) := rfl
theorem ya_15 {cI cJ cB : ClassId} {h : Nat} {v : Nat → Nat} {i : Nat → Int32} {j : Nat → Int64} {a : Nat → Nat → Int32} {b : Nat → Nat → Int64} : (MW cI cJ cB h v i j a b)[15]? = some (v 15, .inl (cI, 90000, .inl (a 15))) := rfl
theorem ya_16 {cI cJ cB : ClassId} {h : Nat} {v : Nat → Nat} {i : Nat → Int32} {j : Nat → Int64} {a : Nat → Nat → Int32} {b : Nat → Nat → Int64} : (MW cI cJ cB h v i j a b)[16]? = some (v 16, .inl (cI, 90000, .inl (a 16))) := rfl
theorem ya_17 {cI cJ cB : ClassId} {h : Nat} {v : Nat → Nat} {i : Nat → Int32} {j : Nat → Int64} {a : Nat → Nat → Int32} {b : Nat → Nat → Int64} : (MW cI cJ cB h v i j a b)[17]? = some (v 17, .inl (cI, 90000, .inl (a 17))) := rfl
theorem ya_22 {cI cJ cB : ClassId} {h : Nat} {v : Nat → Nat} {i : Nat → Int32} {j : Nat → Int64} {a : Nat → Nat → Int32} {b : Nat → Nat → Int64} : (MW cI cJ cB h v i j a b)[18]? = some (v 22, .inl (cJ, 1300, .inr (.inl (b 22)))) := rfl
theorem ya_23 {cI cJ cB : ClassId} {h : Nat} {v : Nat → Nat} {i : Nat → Int32} {j : Nat → Int64} {a : Nat → Nat → Int32} {b : Nat → Nat → Int64} : (MW cI cJ cB h v i j a b)[19]? = some (v 23, .inl (cJ, 1300, .inr (.inl (b 23)))) := rfl
theorem ya_24 {cI cJ cB : ClassId} {h : Nat} {v : Nat → Nat} {i : Nat → Int32} {j : Nat → Int64} {a : Nat → Nat → Int32} {b : Nat → Nat → Int64} : (MW cI cJ cB h v i j a b)[20]? = some (v 24, .inl (cB, 40000, .inl (a 24))) := rfl
theorem ya_26 {cI cJ cB : ClassId} {h : Nat} {v : Nat → Nat} {i : Nat → Int32} {j : Nat → Int64} {a : Nat → Nat → Int32} {b : Nat → Nat → Int64} : (MW cI cJ cB h v i j a b)[21]? = some (v 26, .inl (cI, 1300, .inl (a 26))) := rfl
theorem ya_27 {cI cJ cB : ClassId} {h : Nat} {v : Nat → Nat} {i : Nat → Int32} {j : Nat → Int64} {a : Nat → Nat → Int32} {b : Nat → Nat → Int64} : (MW cI cJ cB h v i j a b)[22]? = some (v 27, .inl (cI, 1300, .inl (a 27))) := rfl
theorem ya_29 {cI cJ cB : ClassId} {h : Nat} {v : Nat → Nat} {i : Nat → Int32} {j : Nat → Int64} {a : Nat → Nat → Int32} {b : Nat → Nat → Int64} : (MW cI cJ cB h v i j a b)[23]? = some (v 29, .inl (cI, 40, .inl (a 29))) := rfl
theorem ya_30 {cI cJ cB : ClassId} {h : Nat} {v : Nat → Nat} {i : Nat → Int32} {j : Nat → Int64} {a : Nat → Nat → Int32} {b : Nat → Nat → Int64} : (MW cI cJ cB h v i j a b)[24]? = some (v 30, .inl (cI, 40, .inl (a 30))) := rfl
theorem ya_31 {cI cJ cB : ClassId} {h : Nat} {v : Nat → Nat} {i : Nat → Int32} {j : Nat → Int64} {a : Nat → Nat → Int32} {b : Nat → Nat → Int64} : (MW cI cJ cB h v i j a b)[25]? = some (v 31, .inl (cI, 200, .inl (a 31))) := rfl
theorem ya_32 {cI cJ cB : ClassId} {h : Nat} {v : Nat → Nat} {i : Nat → Int32} {j : Nat → Int64} {a : Nat → Nat → Int32} {b : Nat → Nat → Int64} : (MW cI cJ cB h v i j a b)[26]? = some (v 32, .inl (cJ, 40, .inr (.inl (b 32)))) := rfl
theorem ya_34 {cI cJ cB : ClassId} {h : Nat} {v : Nat → Nat} {i : Nat → Int32} {j : Nat → Int64} {a : Nat → Nat → Int32} {b : Nat → Nat → Int64} : (MW cI cJ cB h v i j a b)[27]? = some (v 34, .inl (cI, 64, .inl (a 34))) := rfl
theorem ya_35 {cI cJ cB : ClassId} {h : Nat} {v : Nat → Nat} {i : Nat → Int32} {j : Nat → Int64} {a : Nat → Nat → Int32} {b : Nat → Nat → Int64} : (MW cI cJ cB h v i j a b)[28]? = some (v 35, .inl (cJ, 64, .inr (.inl (b 35)))) := rfl
theorem ya_37 {cI cJ cB : ClassId} {h : Nat} {v : Nat → Nat} {i : Nat → Int32} {j : Nat → Int64} {a : Nat → Nat → Int32} {b : Nat → Nat → Int64} : (MW cI cJ cB h v i j a b)[29]? = some (v 37, .inl (cI, 8, .inl (a 37))) := rfl
theorem ya_38 {cI cJ cB : ClassId} {h : Nat} {v : Nat → Nat} {i : Nat → Int32} {j : Nat → Int64} {a : Nat → Nat → Int32} {b : Nat → Nat → Int64} : (MW cI cJ cB h v i j a b)[30]? = some (v 38, .inl (cI, 8, .inl (a 38))) := rfl
theorem ya_39 {cI cJ cB : ClassId} {h : Nat} {v : Nat → Nat} {i : Nat → Int32} {j : Nat → Int64} {a : Nat → Nat → Int32} {b : Nat → Nat → Int64} : (MW cI cJ cB h v i j a b)[31]? = some (v 39, .inl (cI, 8, .inl (a 39))) := rfl
theorem ya_40 {cI cJ cB : ClassId} {h : Nat} {v : Nat → Nat} {i : Nat → Int32} {j : Nat → Int64} {a : Nat → Nat → Int32} {b : Nat → Nat → Int64} : (MW cI cJ cB h v i j a b)[32]? = some (v 40, .inl (cI, 8, .inl (a 40))) := rfl
theorem ya_41 {cI cJ cB : ClassId} {h : Nat} {v : Nat → Nat} {i : Nat → Int32} {j : Nat → Int64} {a : Nat → Nat → Int32} {b : Nat → Nat → Int64} : (MW cI cJ cB h v i j a b)[33]? = some (v 41, .inl (cI, 8, .inl (a 41))) := rfl
theorem ya_42 {cI cJ cB : ClassId} {h : Nat} {v : Nat → Nat} {i : Nat → Int32} {j : Nat → Int64} {a : Nat → Nat → Int32} {b : Nat → Nat → Int64} : (MW cI cJ cB h v i j a b)[34]? = some (v 42, .inl (cI, 8, .inl (a 42))) := rfl
theorem ya_43 {cI cJ cB : ClassId} {h : Nat} {v : Nat → Nat} {i : Nat → Int32} {j : Nat → Int64} {a : Nat → Nat → Int32} {b : Nat → Nat → Int64} : (MW cI cJ cB h v i j a b)[35]? = some (v 43, .inl (cI, 8, .inl (a 43))) := rfl
theorem ya_44 {cI cJ cB : ClassId} {h : Nat} {v : Nat → Nat} {i : Nat → Int32} {j : Nat → Int64} {a : Nat → Nat → Int32} {b : Nat → Nat → Int64} : (MW cI cJ cB h v i j a b)[36]? = some (v 44, .inl (cI, 4096, .inl (a 44))) := rfl
theorem ya_45 {cI cJ cB : ClassId} {h : Nat} {v : Nat → Nat} {i : Nat → Int32} {j : Nat → Int64} {a : Nat → Nat → Int32} {b : Nat → Nat → Int64} : (MW cI cJ cB h v i j a b)[37]? = some (v 45, .inl (cB, 2000, .inl (a 45))) := rfl
theorem ya_49 {cI cJ cB : ClassId} {h : Nat} {v : Nat → Nat} {i : Nat → Int32} {j : Nat → Int64} {a : Nat → Nat → Int32} {b : Nat → Nat → Int64} : (MW cI cJ cB h v i j a b)[38]? = some (v 49, .inl (cI, 40, .inl (a 49))) := rfl
theorem ya_50 {cI cJ cB : ClassId} {h : Nat} {v : Nat → Nat} {i : Nat → Int32} {j : Nat → Int64} {a : Nat → Nat → Int32} {b : Nat → Nat → Int64} : (MW cI cJ cB h v i j a b)[39]? = some (v 50, .inl (cI, 40, .inl (a 50))) := rfl
theorem ya_51 {cI cJ cB : ClassId} {h : Nat} {v : Nat → Nat} {i : Nat → Int32} {j : Nat → Int64} {a : Nat → Nat → Int32} {b : Nat → Nat → Int64} : (MW cI cJ cB h v i j a b)[40]? = some (v 51, .inl (cI, 200, .inl (a 51))) := rfl
theorem ya_52 {cI cJ cB : ClassId} {h : Nat} {v : Nat → Nat} {i : Nat → Int32} {j : Nat → Int64} {a : Nat → Nat → Int32} {b : Nat → Nat → Int64} : (MW cI cJ cB h v i j a b)[41]? = some (v 52, .inl (cI, 64, .inl (a 52))) := rfl
theorem ya_53 {cI cJ cB : ClassId} {h : Nat} {v : Nat → Nat} {i : Nat → Int32} {j : Nat → Int64} {a : Nat → Nat → Int32} {b : Nat → Nat → Int64} : (MW cI cJ cB h v i j a b)[42]? = some (v 53, .inl (cI, 56, .inl (a 53))) := rfl
theorem ya_54 {cI cJ cB : ClassId} {h : Nat} {v : Nat → Nat} {i : Nat → Int32} {j : Nat → Int64} {a : Nat → Nat → Int32} {b : Nat → Nat → Int64} : (MW cI cJ cB h v i j a b)[43]? = some (v 54, .inl (cI, 4096, .inl (a 54))) := rfl
theorem ya_55 {cI cJ cB : ClassId} {h : Nat} {v : Nat → Nat} {i : Nat → Int32} {j : Nat → Int64} {a : Nat → Nat → Int32} {b : Nat → Nat → Int64} : (MW cI cJ cB h v i j a b)[44]? = some (v 55, .inl (cJ, 40, .inr (.inl (b 55)))) := rfl
theorem ya_56 {cI cJ cB : ClassId} {h : Nat} {v : Nat → Nat} {i : Nat → Int32} {j : Nat → Int64} {a : Nat → Nat → Int32} {b : Nat → Nat → Int64} : (MW cI cJ cB h v i j a b)[45]? = some (v 56, .inl (cJ, 64, .inr (.inl (b 56)))) := rfl
theorem ya_57 {cI cJ cB : ClassId} {h : Nat} {v : Nat → Nat} {i : Nat → Int32} {j : Nat → Int64} {a : Nat → Nat → Int32} {b : Nat → Nat → Int64} : (MW cI cJ cB h v i j a b)[46]? = some (v 57, .inl (cB, 2000, .inl (a 57))) := rfl
theorem ya_71 {cI cJ cB : ClassId} {h : Nat} {v : Nat → Nat} {i : Nat → Int32} {j : Nat → Int64} {a : Nat → Nat → Int32} {b : Nat → Nat → Int64} : (MW cI cJ cB h v i j a b)[47]? = some (v 71, .inl (cI, 90000, .inl (a 71))) := rfl
theorem ya_72 {cI cJ cB : ClassId} {h : Nat} {v : Nat → Nat} {i : Nat → Int32} {j : Nat → Int64} {a : Nat → Nat → Int32} {b : Nat → Nat → Int64} : (MW cI cJ cB h v i j a b)[48]? = some (v 72, .inl (cI, 90000, .inl (a 72))) := rfl
theorem ya_73 {cI cJ cB : ClassId} {h : Nat} {v : Nat → Nat} {i : Nat → Int32} {j : Nat → Int64} {a : Nat → Nat → Int32} {b : Nat → Nat → Int64} : (MW cI cJ cB h v i j a b)[49]? = some (v 73, .inl (cB, 4000, .inl (a 73))) := rfl
theorem ya_77 {cI cJ cB : ClassId} {h : Nat} {v : Nat → Nat} {i : Nat → Int32} {j : Nat → Int64} {a : Nat → Nat → Int32} {b : Nat → Nat → Int64} : (MW cI cJ cB h v i j a b)[50]? = some (v 77, .inl (cI, 601, .inl (a 77))) := rfl
theorem ya_78 {cI cJ cB : ClassId} {h : Nat} {v : Nat → Nat} {i : Nat → Int32} {j : Nat → Int64} {a : Nat → Nat → Int32} {b : Nat → Nat → Int64} : (MW cI cJ cB h v i j a b)[51]? = some (v 78, .inl (cI, 601, .inl (a 78))) := rfl
theorem ya_79 {cI cJ cB : ClassId} {h : Nat} {v : Nat → Nat} {i : Nat → Int32} {j : Nat → Int64} {a : Nat → Nat → Int32} {b : Nat → Nat → Int64} : (MW cI cJ cB h v i j a b)[52]? = some (v 79, .inl (cI, 601, .inl (a 79))) := rfl
theorem ya_80 {cI cJ cB : ClassId} {h : Nat} {v : Nat → Nat} {i : Nat → Int32} {j : Nat → Int64} {a : Nat → Nat → Int32} {b : Nat → Nat → Int64} : (MW cI cJ cB h v i j a b)[53]? = some (v 80, .inl (cJ, 601, .inr (.inl (b 80)))) := rfl
theorem ya_82 {cI cJ cB : ClassId} {h : Nat} {v : Nat → Nat} {i : Nat → Int32} {j : Nat → Int64} {a : Nat → Nat → Int32} {b : Nat → Nat → Int64} : (MW cI cJ cB h v i j a b)[54]? = some (v 82, .inl (cI, 21, .inl (a 82))) := rfl
theorem ya_83 {cI cJ cB : ClassId} {h : Nat} {v : Nat → Nat} {i : Nat → Int32} {j : Nat → Int64} {a : Nat → Nat → Int32} {b : Nat → Nat → Int64} : (MW cI cJ cB h v i j a b)[55]? = some (v 83, .inl (cJ, 601, .inr (.inl (b 83)))) := rfl
theorem ya_87 {cI cJ cB : ClassId} {h : Nat} {v : Nat → Nat} {i : Nat → Int32} {j : Nat → Int64} {a : Nat → Nat → Int32} {b : Nat → Nat → Int64} : (MW cI cJ cB h v i j a b)[56]? = some (v 87, .inl (cI, 300, .inl (a 87))) := rfl
theorem ya_88 {cI cJ cB : ClassId} {h : Nat} {v : Nat → Nat} {i : Nat → Int32} {j : Nat → Int64} {a : Nat → Nat → Int32} {b : Nat → Nat → Int64} : (MW cI cJ cB h v i j a b)[57]? = some (v 88, .inl (cI, 300, .inl (a 88))) := rfl
theorem ya_89 {cI cJ cB : ClassId} {h : Nat} {v : Nat → Nat} {i : Nat → Int32} {j : Nat → Int64} {a : Nat → Nat → Int32} {b : Nat → Nat → Int64} : (MW cI cJ cB h v i j a b)[58]? = some (v 89, .inl (cI, 1500, .inl (a 89))) := rfl
theorem ya_90 {cI cJ cB : ClassId} {h : Nat} {v : Nat → Nat} {i : Nat → Int32} {j : Nat → Int64} {a : Nat → Nat → Int32} {b : Nat → Nat → Int64} : (MW cI cJ cB h v i j a b)[59]? = some (v 90, .inl (cI, 300, .inl (a 90))) := rfl
theorem ya_91 {cI cJ cB : ClassId} {h : Nat} {v : Nat → Nat} {i : Nat → Int32} {j : Nat → Int64} {a : Nat → Nat → Int32} {b : Nat → Nat → Int64} : (MW cI cJ cB h v i j a b)[60]? = some (v 91, .inl (cI, 300, .inl (a 91))) := rfl
theorem ya_111 {cI cJ cB : ClassId} {h : Nat} {v : Nat → Nat} {i : Nat → Int32} {j : Nat → Int64} {a : Nat → Nat → Int32} {b : Nat → Nat → Int64} : (MW cI cJ cB h v i j a b)[61]? = some (v 111, .inl (cJ, 36000, .inr (.inl (b 111)))) := rfl
theorem ya_112 {cI cJ cB : ClassId} {h : Nat} {v : Nat → Nat} {i : Nat → Int32} {j : Nat → Int64} {a : Nat → Nat → Int32} {b : Nat → Nat → Int64} : (MW cI cJ cB h v i j a b)[62]? = some (v 112, .inl (cI, 150, .inl (a 112))) := rfl
theorem ya_113 {cI cJ cB : ClassId} {h : Nat} {v : Nat → Nat} {i : Nat → Int32} {j : Nat → Int64} {a : Nat → Nat → Int32} {b : Nat → Nat → Int64} : (MW cI cJ cB h v i j a b)[63]? = some (v 113, .inl (cI, 150, .inl (a 113))) := rfl
theorem ya_114 {cI cJ cB : ClassId} {h : Nat} {v : Nat → Nat} {i : Nat → Int32} {j : Nat → Int64} {a : Nat → Nat → Int32} {b : Nat → Nat → Int64} : (MW cI cJ cB h v i j a b)[64]? = some (v 114, .inl (cI, 1800, .inl (a 114))) := rfl
theorem ya_115 {cI cJ cB : ClassId} {h : Nat} {v : Nat → Nat} {i : Nat → Int32} {j : Nat → Int64} {a : Nat → Nat → Int32} {b : Nat → Nat → Int64} : (MW cI cJ cB h v i j a b)[65]? = some (v 115, .inl (cJ, 1800, .inr (.inl (b 115)))) := rfl
theorem ya_119 {cI cJ cB : ClassId} {h : Nat} {v : Nat → Nat} {i : Nat → Int32} {j : Nat → Int64} {a : Nat → Nat → Int32} {b : Nat → Nat → Int64} : (MW cI cJ cB h v i j a b)[66]? = some (v 119, .inl (cI, 151, .inl (a 119))) := rfl
theorem ya_120 {cI cJ cB : ClassId} {h : Nat} {v : Nat → Nat} {i : Nat → Int32} {j : Nat → Int64} {a : Nat → Nat → Int32} {b : Nat → Nat → Int64} : (MW cI cJ cB h v i j a b)[67]? = some (v 120, .inl (cI, 151, .inl (a 120))) := rfl
theorem ya_121 {cI cJ cB : ClassId} {h : Nat} {v : Nat → Nat} {i : Nat → Int32} {j : Nat → Int64} {a : Nat → Nat → Int32} {b : Nat → Nat → Int64} : (MW cI cJ cB h v i j a b)[68]? = some (v 121, .inl (cI, 151, .inl (a 121))) := rfl
theorem ya_122 {cI cJ cB : ClassId} {h : Nat} {v : Nat → Nat} {i : Nat → Int32} {j : Nat → Int64} {a : Nat → Nat → Int32} {b : Nat → Nat → Int64} : (MW cI cJ cB h v i j a b)[69]? = some (v 122, .inl (cJ, 151, .inr (.inl (b 122)))) := rfl
theorem ya_123 {cI cJ cB : ClassId} {h : Nat} {v : Nat → Nat} {i : Nat → Int32} {j : Nat → Int64} {a : Nat → Nat → Int32} {b : Nat → Nat → Int64} : (MW cI cJ cB h v i j a b)[70]? = some (v 123, .inl (cJ, 151, .inr (.inl (b 123)))) := rfl
theorem yg_0 {v : Nat → Nat} {i : Nat → Int32} {j : Nat → Int64} : (mo v i j)[0]? = some (.int (i 0)) := rfl
theorem yl_0 {v : Nat → Nat} {i : Nat → Int32} {j : Nat → Int64} : 0 < (mo v i j).length := Nat.le_of_ble_eq_true rfl
theorem yw_0 {cI cJ cB : ClassId} {h : Nat} {v : Nat → Nat} {i : Nat → Int32} {j : Nat → Int64} {a : Nat → Nat → Int32} {b : Nat → Nat → Int64} {i2 : Nat → Int32} {x : Int32} {D : va_G} {H : Heap} {A : Nat → Prop} (e : i2 = upd i 0 x) (hP : va_P D classes ((MW cI cJ cB h v i j a b).set 0 (h, .inr (12, (mo v i j).set 0 (.int x)))) H) (hD : va_D A ((MW cI cJ cB h v i j a b).set 0 (h, .inr (12, (mo v i j).set 0 (.int x))))) : va_P D classes (MW cI cJ cB h v i2 j a b) H ∧ va_D A (MW cI cJ cB h v i2 j a b) := by
  subst e
  have h9 : (mo v i j).set 0 (.int x) = mo v (upd i 0 x) j := rfl
  rw [h9] at hP hD
  exact ⟨hP, hD⟩
theorem yg_1 {v : Nat → Nat} {i : Nat → Int32} {j : Nat → Int64} : (mo v i j)[1]? = some (.ref ((v 1))) := rfl
theorem yg_2 {v : Nat → Nat} {i : Nat → Int32} {j : Nat → Int64} : (mo v i j)[2]? = some (.ref ((v 2))) := rfl
theorem yg_3 {v : Nat → Nat} {i : Nat → Int32} {j : Nat → Int64} : (mo v i j)[3]? = some (.ref ((v 3))) := rfl
theorem yg_4 {v : Nat → Nat} {i : Nat → Int32} {j : Nat → Int64} : (mo v i j)[4]? = some (.ref ((v 4))) := rfl
theorem yg_5 {v : Nat → Nat} {i : Nat → Int32} {j : Nat → Int64} : (mo v i j)[5]? = some (.ref ((v 5))) := rfl
theorem yg_6 {v : Nat → Nat} {i : Nat → Int32} {j : Nat → Int64} : (mo v i j)[6]? = some (.ref ((v 6))) := rfl
theorem yg_7 {v : Nat → Nat} {i : Nat → Int32} {j : Nat → Int64} : (mo v i j)[7]? = some (.ref ((v 7))) := rfl
theorem yg_8 {v : Nat → Nat} {i : Nat → Int32} {j : Nat → Int64} : (mo v i j)[8]? = some (.ref ((v 8))) := rfl
theorem yg_9 {v : Nat → Nat} {i : Nat → Int32} {j : Nat → Int64} : (mo v i j)[9]? = some (.ref ((v 9))) := rfl
theorem yg_10 {v : Nat → Nat} {i : Nat → Int32} {j : Nat → Int64} : (mo v i j)[10]? = some (.ref ((v 10))) := rfl
theorem yg_11 {v : Nat → Nat} {i : Nat → Int32} {j : Nat → Int64} : (mo v i j)[11]? = some (.ref ((v 11))) := rfl
theorem yg_12 {v : Nat → Nat} {i : Nat → Int32} {j : Nat → Int64} : (mo v i j)[12]? = some (.ref ((v 12))) := rfl
theorem yg_13 {v : Nat → Nat} {i : Nat → Int32} {j : Nat → Int64} : (mo v i j)[13]? = some (.ref ((v 13))) := rfl
theorem yg_14 {v : Nat → Nat} {i : Nat → Int32} {j : Nat → Int64} : (mo v i j)[14]? = some (.ref ((v 14))) := rfl
theorem yg_15 {v : Nat → Nat} {i : Nat → Int32} {j : Nat → Int64} : (mo v i j)[15]? = some (.ref ((v 15))) := rfl
theorem yg_16 {v : Nat → Nat} {i : Nat → Int32} {j : Nat → Int64} : (mo v i j)[16]? = some (.ref ((v 16))) := rfl
theorem yg_17 {v : Nat → Nat} {i : Nat → Int32} {j : Nat → Int64} : (mo v i j)[17]? = some (.ref ((v 17))) := rfl
theorem yg_18 {v : Nat → Nat} {i : Nat → Int32} {j : Nat → Int64} : (mo v i j)[18]? = some (.int (i 18)) := rfl
theorem yl_18 {v : Nat → Nat} {i : Nat → Int32} {j : Nat → Int64} : 18 < (mo v i j).length := Nat.le_of_ble_eq_true rfl
theorem yw_18 {cI cJ cB : ClassId} {h : Nat} {v : Nat → Nat} {i : Nat → Int32} {j : Nat → Int64} {a : Nat → Nat → Int32} {b : Nat → Nat → Int64} {i2 : Nat → Int32} {x : Int32} {D : va_G} {H : Heap} {A : Nat → Prop} (e : i2 = upd i 18 x) (hP : va_P D classes ((MW cI cJ cB h v i j a b).set 0 (h, .inr (12, (mo v i j).set 18 (.int x)))) H) (hD : va_D A ((MW cI cJ cB h v i j a b).set 0 (h, .inr (12, (mo v i j).set 18 (.int x))))) : va_P D classes (MW cI cJ cB h v i2 j a b) H ∧ va_D A (MW cI cJ cB h v i2 j a b) := by
  subst e
  have h9 : (mo v i j).set 18 (.int x) = mo v (upd i 18 x) j := rfl
  rw [h9] at hP hD
  exact ⟨hP, hD⟩
theorem yg_19 {v : Nat → Nat} {i : Nat → Int32} {j : Nat → Int64} : (mo v i j)[19]? = some (.int (i 19)) := rfl
theorem yl_19 {v : Nat → Nat} {i : Nat → Int32} {j : Nat → Int64} : 19 < (mo v i j).length := Nat.le_of_ble_eq_true rfl
theorem yw_19 {cI cJ cB : ClassId} {h : Nat} {v : Nat → Nat} {i : Nat → Int32} {j : Nat → Int64} {a : Nat → Nat → Int32} {b : Nat → Nat → Int64} {i2 : Nat → Int32} {x : Int32} {D : va_G} {H : Heap} {A : Nat → Prop} (e : i2 = upd i 19 x) (hP : va_P D classes ((MW cI cJ cB h v i j a b).set 0 (h, .inr (12, (mo v i j).set 19 (.int x)))) H) (hD : va_D A ((MW cI cJ cB h v i j a b).set 0 (h, .inr (12, (mo v i j).set 19 (.int x))))) : va_P D classes (MW cI cJ cB h v i2 j a b) H ∧ va_D A (MW cI cJ cB h v i2 j a b) := by
  subst e
  have h9 : (mo v i j).set 19 (.int x) = mo v (upd i 19 x) j := rfl
  rw [h9] at hP hD
  exact ⟨hP, hD⟩
theorem yg_20 {v : Nat → Nat} {i : Nat → Int32} {j : Nat → Int64} : (mo v i j)[20]? = some (.int (i 20)) := rfl
theorem yl_20 {v : Nat → Nat} {i : Nat → Int32} {j : Nat → Int64} : 20 < (mo v i j).length := Nat.le_of_ble_eq_true rfl
theorem yw_20 {cI cJ cB : ClassId} {h : Nat} {v : Nat → Nat} {i : Nat → Int32} {j : Nat → Int64} {a : Nat → Nat → Int32} {b : Nat → Nat → Int64} {i2 : Nat → Int32} {x : Int32} {D : va_G} {H : Heap} {A : Nat → Prop} (e : i2 = upd i 20 x) (hP : va_P D classes ((MW cI cJ cB h v i j a b).set 0 (h, .inr (12, (mo v i j).set 20 (.int x)))) H) (hD : va_D A ((MW cI cJ cB h v i j a b).set 0 (h, .inr (12, (mo v i j).set 20 (.int x))))) : va_P D classes (MW cI cJ cB h v i2 j a b) H ∧ va_D A (MW cI cJ cB h v i2 j a b) := by
  subst e
  have h9 : (mo v i j).set 20 (.int x) = mo v (upd i 20 x) j := rfl
  rw [h9] at hP hD
  exact ⟨hP, hD⟩
theorem yg_21 {v : Nat → Nat} {i : Nat → Int32} {j : Nat → Int64} : (mo v i j)[21]? = some (.int (i 21)) := rfl
theorem yl_21 {v : Nat → Nat} {i : Nat → Int32} {j : Nat → Int64} : 21 < (mo v i j).length := Nat.le_of_ble_eq_true rfl
theorem yw_21 {cI cJ cB : ClassId} {h : Nat} {v : Nat → Nat} {i : Nat → Int32} {j : Nat → Int64} {a : Nat → Nat → Int32} {b : Nat → Nat → Int64} {i2 : Nat → Int32} {x : Int32} {D : va_G} {H : Heap} {A : Nat → Prop} (e : i2 = upd i 21 x) (hP : va_P D classes ((MW cI cJ cB h v i j a b).set 0 (h, .inr (12, (mo v i j).set 21 (.int x)))) H) (hD : va_D A ((MW cI cJ cB h v i j a b).set 0 (h, .inr (12, (mo v i j).set 21 (.int x))))) : va_P D classes (MW cI cJ cB h v i2 j a b) H ∧ va_D A (MW cI cJ cB h v i2 j a b) := by
  subst e
  have h9 : (mo v i j).set 21 (.int x) = mo v (upd i 21 x) j := rfl
  rw [h9] at hP hD
  exact ⟨hP, hD⟩
theorem yg_22 {v : Nat → Nat} {i : Nat → Int32} {j : Nat → Int64} : (mo v i j)[22]? = some (.ref ((v 22))) := rfl
theorem yg_23 {v : Nat → Nat} {i : Nat → Int32} {j : Nat → Int64} : (mo v i j)[23]? = some (.ref ((v 23))) := rfl
theorem yg_24 {v : Nat → Nat} {i : Nat → Int32} {j : Nat → Int64} : (mo v i j)[24]? = some (.ref ((v 24))) := rfl
theorem yg_25 {v : Nat → Nat} {i : Nat → Int32} {j : Nat → Int64} : (mo v i j)[25]? = some (.int (i 25)) := rfl
theorem yl_25 {v : Nat → Nat} {i : Nat → Int32} {j : Nat → Int64} : 25 < (mo v i j).length := Nat.le_of_ble_eq_true rfl
theorem yw_25 {cI cJ cB : ClassId} {h : Nat} {v : Nat → Nat} {i : Nat → Int32} {j : Nat → Int64} {a : Nat → Nat → Int32} {b : Nat → Nat → Int64} {i2 : Nat → Int32} {x : Int32} {D : va_G} {H : Heap} {A : Nat → Prop} (e : i2 = upd i 25 x) (hP : va_P D classes ((MW cI cJ cB h v i j a b).set 0 (h, .inr (12, (mo v i j).set 25 (.int x)))) H) (hD : va_D A ((MW cI cJ cB h v i j a b).set 0 (h, .inr (12, (mo v i j).set 25 (.int x))))) : va_P D classes (MW cI cJ cB h v i2 j a b) H ∧ va_D A (MW cI cJ cB h v i2 j a b) := by
  subst e
  have h9 : (mo v i j).set 25 (.int x) = mo v (upd i 25 x) j := rfl
  rw [h9] at hP hD
  exact ⟨hP, hD⟩
theorem yg_26 {v : Nat → Nat} {i : Nat → Int32} {j : Nat → Int64} : (mo v i j)[26]? = some (.ref ((v 26))) := rfl
theorem yg_27 {v : Nat → Nat} {i : Nat → Int32} {j : Nat → Int64} : (mo v i j)[27]? = some (.ref ((v 27))) := rfl
theorem yg_28 {v : Nat → Nat} {i : Nat → Int32} {j : Nat → Int64} : (mo v i j)[28]? = some (.int (i 28)) := rfl
theorem yl_28 {v : Nat → Nat} {i : Nat → Int32} {j : Nat → Int64} : 28 < (mo v i j).length := Nat.le_of_ble_eq_true rfl
theorem yw_28 {cI cJ cB : ClassId} {h : Nat} {v : Nat → Nat} {i : Nat → Int32} {j : Nat → Int64} {a : Nat → Nat → Int32} {b : Nat → Nat → Int64} {i2 : Nat → Int32} {x : Int32} {D : va_G} {H : Heap} {A : Nat → Prop} (e : i2 = upd i 28 x) (hP : va_P D classes ((MW cI cJ cB h v i j a b).set 0 (h, .inr (12, (mo v i j).set 28 (.int x)))) H) (hD : va_D A ((MW cI cJ cB h v i j a b).set 0 (h, .inr (12, (mo v i j).set 28 (.int x))))) : va_P D classes (MW cI cJ cB h v i2 j a b) H ∧ va_D A (MW cI cJ cB h v i2 j a b) := by
  subst e
  have h9 : (mo v i j).set 28 (.int x) = mo v (upd i 28 x) j := rfl
  rw [h9] at hP hD
  exact ⟨hP, hD⟩
theorem yg_29 {v : Nat → Nat} {i : Nat → Int32} {j : Nat → Int64} : (mo v i j)[29]? = some (.ref ((v 29))) := rfl
theorem yg_30 {v : Nat → Nat} {i : Nat → Int32} {j : Nat → Int64} : (mo v i j)[30]? = some (.ref ((v 30))) := rfl
theorem yg_31 {v : Nat → Nat} {i : Nat → Int32} {j : Nat → Int64} : (mo v i j)[31]? = some (.ref ((v 31))) := rfl
theorem yg_32 {v : Nat → Nat} {i : Nat → Int32} {j : Nat → Int64} : (mo v i j)[32]? = some (.ref ((v 32))) := rfl
theorem yg_33 {v : Nat → Nat} {i : Nat → Int32} {j : Nat → Int64} : (mo v i j)[33]? = some (.int (i 33)) := rfl
theorem yl_33 {v : Nat → Nat} {i : Nat → Int32} {j : Nat → Int64} : 33 < (mo v i j).length := Nat.le_of_ble_eq_true rfl
theorem yw_33 {cI cJ cB : ClassId} {h : Nat} {v : Nat → Nat} {i : Nat → Int32} {j : Nat → Int64} {a : Nat → Nat → Int32} {b : Nat → Nat → Int64} {i2 : Nat → Int32} {x : Int32} {D : va_G} {H : Heap} {A : Nat → Prop} (e : i2 = upd i 33 x) (hP : va_P D classes ((MW cI cJ cB h v i j a b).set 0 (h, .inr (12, (mo v i j).set 33 (.int x)))) H) (hD : va_D A ((MW cI cJ cB h v i j a b).set 0 (h, .inr (12, (mo v i j).set 33 (.int x))))) : va_P D classes (MW cI cJ cB h v i2 j a b) H ∧ va_D A (MW cI cJ cB h v i2 j a b) := by
  subst e
  have h9 : (mo v i j).set 33 (.int x) = mo v (upd i 33 x) j := rfl
  rw [h9] at hP hD
  exact ⟨hP, hD⟩
theorem yg_34 {v : Nat → Nat} {i : Nat → Int32} {j : Nat → Int64} : (mo v i j)[34]? = some (.ref ((v 34))) := rfl
theorem yg_35 {v : Nat → Nat} {i : Nat → Int32} {j : Nat → Int64} : (mo v i j)[35]? = some (.ref ((v 35))) := rfl
theorem yg_36 {v : Nat → Nat} {i : Nat → Int32} {j : Nat → Int64} : (mo v i j)[36]? = some (.int (i 36)) := rfl
theorem yl_36 {v : Nat → Nat} {i : Nat → Int32} {j : Nat → Int64} : 36 < (mo v i j).length := Nat.le_of_ble_eq_true rfl
theorem yw_36 {cI cJ cB : ClassId} {h : Nat} {v : Nat → Nat} {i : Nat → Int32} {j : Nat → Int64} {a : Nat → Nat → Int32} {b : Nat → Nat → Int64} {i2 : Nat → Int32} {x : Int32} {D : va_G} {H : Heap} {A : Nat → Prop} (e : i2 = upd i 36 x) (hP : va_P D classes ((MW cI cJ cB h v i j a b).set 0 (h, .inr (12, (mo v i j).set 36 (.int x)))) H) (hD : va_D A ((MW cI cJ cB h v i j a b).set 0 (h, .inr (12, (mo v i j).set 36 (.int x))))) : va_P D classes (MW cI cJ cB h v i2 j a b) H ∧ va_D A (MW cI cJ cB h v i2 j a b) := by
  subst e
  have h9 : (mo v i j).set 36 (.int x) = mo v (upd i 36 x) j := rfl
  rw [h9] at hP hD
  exact ⟨hP, hD⟩
theorem yg_37 {v : Nat → Nat} {i : Nat → Int32} {j : Nat → Int64} : (mo v i j)[37]? = some (.ref ((v 37))) := rfl
theorem yg_38 {v : Nat → Nat} {i : Nat → Int32} {j : Nat → Int64} : (mo v i j)[38]? = some (.ref ((v 38))) := rfl
theorem yg_39 {v : Nat → Nat} {i : Nat → Int32} {j : Nat → Int64} : (mo v i j)[39]? = some (.ref ((v 39))) := rfl
theorem yg_40 {v : Nat → Nat} {i : Nat → Int32} {j : Nat → Int64} : (mo v i j)[40]? = some (.ref ((v 40))) := rfl
theorem yg_41 {v : Nat → Nat} {i : Nat → Int32} {j : Nat → Int64} : (mo v i j)[41]? = some (.ref ((v 41))) := rfl
theorem yg_42 {v : Nat → Nat} {i : Nat → Int32} {j : Nat → Int64} : (mo v i j)[42]? = some (.ref ((v 42))) := rfl
theorem yg_43 {v : Nat → Nat} {i : Nat → Int32} {j : Nat → Int64} : (mo v i j)[43]? = some (.ref ((v 43))) := rfl
theorem yg_44 {v : Nat → Nat} {i : Nat → Int32} {j : Nat → Int64} : (mo v i j)[44]? = some (.ref ((v 44))) := rfl
theorem yg_45 {v : Nat → Nat} {i : Nat → Int32} {j : Nat → Int64} : (mo v i j)[45]? = some (.ref ((v 45))) := rfl
theorem yg_46 {v : Nat → Nat} {i : Nat → Int32} {j : Nat → Int64} : (mo v i j)[46]? = some (.int (i 46)) := rfl
theorem yl_46 {v : Nat → Nat} {i : Nat → Int32} {j : Nat → Int64} : 46 < (mo v i j).length := Nat.le_of_ble_eq_true rfl
theorem yw_46 {cI cJ cB : ClassId} {h : Nat} {v : Nat → Nat} {i : Nat → Int32} {j : Nat → Int64} {a : Nat → Nat → Int32} {b : Nat → Nat → Int64} {i2 : Nat → Int32} {x : Int32} {D : va_G} {H : Heap} {A : Nat → Prop} (e : i2 = upd i 46 x) (hP : va_P D classes ((MW cI cJ cB h v i j a b).set 0 (h, .inr (12, (mo v i j).set 46 (.int x)))) H) (hD : va_D A ((MW cI cJ cB h v i j a b).set 0 (h, .inr (12, (mo v i j).set 46 (.int x))))) : va_P D classes (MW cI cJ cB h v i2 j a b) H ∧ va_D A (MW cI cJ cB h v i2 j a b) := by
  subst e
  have h9 : (mo v i j).set 46 (.int x) = mo v (upd i 46 x) j := rfl
  rw [h9] at hP hD
  exact ⟨hP, hD⟩
theorem yg_47 {v : Nat → Nat} {i : Nat → Int32} {j : Nat → Int64} : (mo v i j)[47]? = some (.int (i 47)) := rfl
theorem yl_47 {v : Nat → Nat} {i : Nat → Int32} {j : Nat → Int64} : 47 < (mo v i j).length := Nat.le_of_ble_eq_true rfl
theorem yw_47 {cI cJ cB : ClassId} {h : Nat} {v : Nat → Nat} {i : Nat → Int32} {j : Nat → Int64} {a : Nat → Nat → Int32} {b : Nat → Nat → Int64} {i2 : Nat → Int32} {x : Int32} {D : va_G} {H : Heap} {A : Nat → Prop} (e : i2 = upd i 47 x) (hP : va_P D classes ((MW cI cJ cB h v i j a b).set 0 (h, .inr (12, (mo v i j).set 47 (.int x)))) H) (hD : va_D A ((MW cI cJ cB h v i j a b).set 0 (h, .inr (12, (mo v i j).set 47 (.int x))))) : va_P D classes (MW cI cJ cB h v i2 j a b) H ∧ va_D A (MW cI cJ cB h v i2 j a b) := by
  subst e
  have h9 : (mo v i j).set 47 (.int x) = mo v (upd i 47 x) j := rfl
  rw [h9] at hP hD
  exact ⟨hP, hD⟩
theorem yg_48 {v : Nat → Nat} {i : Nat → Int32} {j : Nat → Int64} : (mo v i j)[48]? = some (.long (j 48)) := rfl
theorem yl_48 {v : Nat → Nat} {i : Nat → Int32} {j : Nat → Int64} : 48 < (mo v i j).length := Nat.le_of_ble_eq_true rfl
theorem yw_48 {cI cJ cB : ClassId} {h : Nat} {v : Nat → Nat} {i : Nat → Int32} {j : Nat → Int64} {a : Nat → Nat → Int32} {b : Nat → Nat → Int64} {j2 : Nat → Int64} {x : Int64} {D : va_G} {H : Heap} {A : Nat → Prop} (e : j2 = vp_updL j 48 x) (hP : va_P D classes ((MW cI cJ cB h v i j a b).set 0 (h, .inr (12, (mo v i j).set 48 (.long x)))) H) (hD : va_D A ((MW cI cJ cB h v i j a b).set 0 (h, .inr (12, (mo v i j).set 48 (.long x))))) : va_P D classes (MW cI cJ cB h v i j2 a b) H ∧ va_D A (MW cI cJ cB h v i j2 a b) := by
  subst e
  have h9 : (mo v i j).set 48 (.long x) = mo v i (vp_updL j 48 x) := rfl
  rw [h9] at hP hD
  exact ⟨hP, hD⟩
theorem yg_49 {v : Nat → Nat} {i : Nat → Int32} {j : Nat → Int64} : (mo v i j)[49]? = some (.ref ((v 49))) := rfl
theorem yg_50 {v : Nat → Nat} {i : Nat → Int32} {j : Nat → Int64} : (mo v i j)[50]? = some (.ref ((v 50))) := rfl
theorem yg_51 {v : Nat → Nat} {i : Nat → Int32} {j : Nat → Int64} : (mo v i j)[51]? = some (.ref ((v 51))) := rfl
theorem yg_52 {v : Nat → Nat} {i : Nat → Int32} {j : Nat → Int64} : (mo v i j)[52]? = some (.ref ((v 52))) := rfl
theorem yg_53 {v : Nat → Nat} {i : Nat → Int32} {j : Nat → Int64} : (mo v i j)[53]? = some (.ref ((v 53))) := rfl
theorem yg_54 {v : Nat → Nat} {i : Nat → Int32} {j : Nat → Int64} : (mo v i j)[54]? = some (.ref ((v 54))) := rfl
theorem yg_55 {v : Nat → Nat} {i : Nat → Int32} {j : Nat → Int64} : (mo v i j)[55]? = some (.ref ((v 55))) := rfl
theorem yg_56 {v : Nat → Nat} {i : Nat → Int32} {j : Nat → Int64} : (mo v i j)[56]? = some (.ref ((v 56))) := rfl
theorem yg_57 {v : Nat → Nat} {i : Nat → Int32} {j : Nat → Int64} : (mo v i j)[57]? = some (.ref ((v 57))) := rfl
theorem yg_58 {v : Nat → Nat} {i : Nat → Int32} {j : Nat → Int64} : (mo v i j)[58]? = some (.long (j 58)) := rfl
theorem yl_58 {v : Nat → Nat} {i : Nat → Int32} {j : Nat → Int64} : 58 < (mo v i j).length := Nat.le_of_ble_eq_true rfl
theorem yw_58 {cI cJ cB : ClassId} {h : Nat} {v : Nat → Nat} {i : Nat → Int32} {j : Nat → Int64} {a : Nat → Nat → Int32} {b : Nat → Nat → Int64} {j2 : Nat → Int64} {x : Int64} {D : va_G} {H : Heap} {A : Nat → Prop} (e : j2 = vp_updL j 58 x) (hP : va_P D classes ((MW cI cJ cB h v i j a b).set 0 (h, .inr (12, (mo v i j).set 58 (.long x)))) H) (hD : va_D A ((MW cI cJ cB h v i j a b).set 0 (h, .inr (12, (mo v i j).set 58 (.long x))))) : va_P D classes (MW cI cJ cB h v i j2 a b) H ∧ va_D A (MW cI cJ cB h v i j2 a b) := by
  subst e
  have h9 : (mo v i j).set 58 (.long x) = mo v i (vp_updL j 58 x) := rfl
  rw [h9] at hP hD
  exact ⟨hP, hD⟩
theorem yg_59 {v : Nat → Nat} {i : Nat → Int32} {j : Nat → Int64} : (mo v i j)[59]? = some (.int (i 59)) := rfl
theorem yl_59 {v : Nat → Nat} {i : Nat → Int32} {j : Nat → Int64} : 59 < (mo v i j).length := Nat.le_of_ble_eq_true rfl
theorem yw_59 {cI cJ cB : ClassId} {h : Nat} {v : Nat → Nat} {i : Nat → Int32} {j : Nat → Int64} {a : Nat → Nat → Int32} {b : Nat → Nat → Int64} {i2 : Nat → Int32} {x : Int32} {D : va_G} {H : Heap} {A : Nat → Prop} (e : i2 = upd i 59 x) (hP : va_P D classes ((MW cI cJ cB h v i j a b).set 0 (h, .inr (12, (mo v i j).set 59 (.int x)))) H) (hD : va_D A ((MW cI cJ cB h v i j a b).set 0 (h, .inr (12, (mo v i j).set 59 (.int x))))) : va_P D classes (MW cI cJ cB h v i2 j a b) H ∧ va_D A (MW cI cJ cB h v i2 j a b) := by
  subst e
  have h9 : (mo v i j).set 59 (.int x) = mo v (upd i 59 x) j := rfl
  rw [h9] at hP hD
  exact ⟨hP, hD⟩
theorem yg_60 {v : Nat → Nat} {i : Nat → Int32} {j : Nat → Int64} : (mo v i j)[60]? = some (.int (i 60)) := rfl
theorem yl_60 {v : Nat → Nat} {i : Nat → Int32} {j : Nat → Int64} : 60 < (mo v i j).length := Nat.le_of_ble_eq_true rfl
theorem yw_60 {cI cJ cB : ClassId} {h : Nat} {v : Nat → Nat} {i : Nat → Int32} {j : Nat → Int64} {a : Nat → Nat → Int32} {b : Nat → Nat → Int64} {i2 : Nat → Int32} {x : Int32} {D : va_G} {H : Heap} {A : Nat → Prop} (e : i2 = upd i 60 x) (hP : va_P D classes ((MW cI cJ cB h v i j a b).set 0 (h, .inr (12, (mo v i j).set 60 (.int x)))) H) (hD : va_D A ((MW cI cJ cB h v i j a b).set 0 (h, .inr (12, (mo v i j).set 60 (.int x))))) : va_P D classes (MW cI cJ cB h v i2 j a b) H ∧ va_D A (MW cI cJ cB h v i2 j a b) := by
  subst e
  have h9 : (mo v i j).set 60 (.int x) = mo v (upd i 60 x) j := rfl
  rw [h9] at hP hD
  exact ⟨hP, hD⟩
theorem yg_61 {v : Nat → Nat} {i : Nat → Int32} {j : Nat → Int64} : (mo v i j)[61]? = some (.int (i 61)) := rfl
theorem yl_61 {v : Nat → Nat} {i : Nat → Int32} {j : Nat → Int64} : 61 < (mo v i j).length := Nat.le_of_ble_eq_true rfl
theorem yw_61 {cI cJ cB : ClassId} {h : Nat} {v : Nat → Nat} {i : Nat → Int32} {j : Nat → Int64} {a : Nat → Nat → Int32} {b : Nat → Nat → Int64} {i2 : Nat → Int32} {x : Int32} {D : va_G} {H : Heap} {A : Nat → Prop} (e : i2 = upd i 61 x) (hP : va_P D classes ((MW cI cJ cB h v i j a b).set 0 (h, .inr (12, (mo v i j).set 61 (.int x)))) H) (hD : va_D A ((MW cI cJ cB h v i j a b).set 0 (h, .inr (12, (mo v i j).set 61 (.int x))))) : va_P D classes (MW cI cJ cB h v i2 j a b) H ∧ va_D A (MW cI cJ cB h v i2 j a b) := by
  subst e
  have h9 : (mo v i j).set 61 (.int x) = mo v (upd i 61 x) j := rfl
  rw [h9] at hP hD
  exact ⟨hP, hD⟩
theorem yg_62 {v : Nat → Nat} {i : Nat → Int32} {j : Nat → Int64} : (mo v i j)[62]? = some (.int (i 62)) := rfl
theorem yl_62 {v : Nat → Nat} {i : Nat → Int32} {j : Nat → Int64} : 62 < (mo v i j).length := Nat.le_of_ble_eq_true rfl
theorem yw_62 {cI cJ cB : ClassId} {h : Nat} {v : Nat → Nat} {i : Nat → Int32} {j : Nat → Int64} {a : Nat → Nat → Int32} {b : Nat → Nat → Int64} {i2 : Nat → Int32} {x : Int32} {D : va_G} {H : Heap} {A : Nat → Prop} (e : i2 = upd i 62 x) (hP : va_P D classes ((MW cI cJ cB h v i j a b).set 0 (h, .inr (12, (mo v i j).set 62 (.int x)))) H) (hD : va_D A ((MW cI cJ cB h v i j a b).set 0 (h, .inr (12, (mo v i j).set 62 (.int x))))) : va_P D classes (MW cI cJ cB h v i2 j a b) H ∧ va_D A (MW cI cJ cB h v i2 j a b) := by
  subst e
  have h9 : (mo v i j).set 62 (.int x) = mo v (upd i 62 x) j := rfl
  rw [h9] at hP hD
  exact ⟨hP, hD⟩
theorem yg_63 {v : Nat → Nat} {i : Nat → Int32} {j : Nat → Int64} : (mo v i j)[63]? = some (.int (i 63)) := rfl
theorem yl_63 {v : Nat → Nat} {i : Nat → Int32} {j : Nat → Int64} : 63 < (mo v i j).length := Nat.le_of_ble_eq_true rfl
theorem yw_63 {cI cJ cB : ClassId} {h : Nat} {v : Nat → Nat} {i : Nat → Int32} {j : Nat → Int64} {a : Nat → Nat → Int32} {b : Nat → Nat → Int64} {i2 : Nat → Int32} {x : Int32} {D : va_G} {H : Heap} {A : Nat → Prop} (e : i2 = upd i 63 x) (hP : va_P D classes ((MW cI cJ cB h v i j a b).set 0 (h, .inr (12, (mo v i j).set 63 (.int x)))) H) (hD : va_D A ((MW cI cJ cB h v i j a b).set 0 (h, .inr (12, (mo v i j).set 63 (.int x))))) : va_P D classes (MW cI cJ cB h v i2 j a b) H ∧ va_D A (MW cI cJ cB h v i2 j a b) := by
  subst e
  have h9 : (mo v i j).set 63 (.int x) = mo v (upd i 63 x) j := rfl
  rw [h9] at hP hD
  exact ⟨hP, hD⟩
theorem yg_64 {v : Nat → Nat} {i : Nat → Int32} {j : Nat → Int64} : (mo v i j)[64]? = some (.int (i 64)) := rfl
theorem yl_64 {v : Nat → Nat} {i : Nat → Int32} {j : Nat → Int64} : 64 < (mo v i j).length := Nat.le_of_ble_eq_true rfl
theorem yw_64 {cI cJ cB : ClassId} {h : Nat} {v : Nat → Nat} {i : Nat → Int32} {j : Nat → Int64} {a : Nat → Nat → Int32} {b : Nat → Nat → Int64} {i2 : Nat → Int32} {x : Int32} {D : va_G} {H : Heap} {A : Nat → Prop} (e : i2 = upd i 64 x) (hP : va_P D classes ((MW cI cJ cB h v i j a b).set 0 (h, .inr (12, (mo v i j).set 64 (.int x)))) H) (hD : va_D A ((MW cI cJ cB h v i j a b).set 0 (h, .inr (12, (mo v i j).set 64 (.int x))))) : va_P D classes (MW cI cJ cB h v i2 j a b) H ∧ va_D A (MW cI cJ cB h v i2 j a b) := by
  subst e
  have h9 : (mo v i j).set 64 (.int x) = mo v (upd i 64 x) j := rfl
  rw [h9] at hP hD
  exact ⟨hP, hD⟩
theorem yg_65 {v : Nat → Nat} {i : Nat → Int32} {j : Nat → Int64} : (mo v i j)[65]? = some (.int (i 65)) := rfl
theorem yl_65 {v : Nat → Nat} {i : Nat → Int32} {j : Nat → Int64} : 65 < (mo v i j).length := Nat.le_of_ble_eq_true rfl
theorem yw_65 {cI cJ cB : ClassId} {h : Nat} {v : Nat → Nat} {i : Nat → Int32} {j : Nat → Int64} {a : Nat → Nat → Int32} {b : Nat → Nat → Int64} {i2 : Nat → Int32} {x : Int32} {D : va_G} {H : Heap} {A : Nat → Prop} (e : i2 = upd i 65 x) (hP : va_P D classes ((MW cI cJ cB h v i j a b).set 0 (h, .inr (12, (mo v i j).set 65 (.int x)))) H) (hD : va_D A ((MW cI cJ cB h v i j a b).set 0 (h, .inr (12, (mo v i j).set 65 (.int x))))) : va_P D classes (MW cI cJ cB h v i2 j a b) H ∧ va_D A (MW cI cJ cB h v i2 j a b) := by
  subst e
  have h9 : (mo v i j).set 65 (.int x) = mo v (upd i 65 x) j := rfl
  rw [h9] at hP hD
  exact ⟨hP, hD⟩
theorem yg_66 {v : Nat → Nat} {i : Nat → Int32} {j : Nat → Int64} : (mo v i j)[66]? = some (.int (i 66)) := rfl
theorem yl_66 {v : Nat → Nat} {i : Nat → Int32} {j : Nat → Int64} : 66 < (mo v i j).length := Nat.le_of_ble_eq_true rfl
theorem yw_66 {cI cJ cB : ClassId} {h : Nat} {v : Nat → Nat} {i : Nat → Int32} {j : Nat → Int64} {a : Nat → Nat → Int32} {b : Nat → Nat → Int64} {i2 : Nat → Int32} {x : Int32} {D : va_G} {H : Heap} {A : Nat → Prop} (e : i2 = upd i 66 x) (hP : va_P D classes ((MW cI cJ cB h v i j a b).set 0 (h, .inr (12, (mo v i j).set 66 (.int x)))) H) (hD : va_D A ((MW cI cJ cB h v i j a b).set 0 (h, .inr (12, (mo v i j).set 66 (.int x))))) : va_P D classes (MW cI cJ cB h v i2 j a b) H ∧ va_D A (MW cI cJ cB h v i2 j a b) := by
  subst e
  have h9 : (mo v i j).set 66 (.int x) = mo v (upd i 66 x) j := rfl
  rw [h9] at hP hD
  exact ⟨hP, hD⟩
theorem yg_67 {v : Nat → Nat} {i : Nat → Int32} {j : Nat → Int64} : (mo v i j)[67]? = some (.int (i 67)) := rfl
theorem yl_67 {v : Nat → Nat} {i : Nat → Int32} {j : Nat → Int64} : 67 < (mo v i j).length := Nat.le_of_ble_eq_true rfl
theorem yw_67 {cI cJ cB : ClassId} {h : Nat} {v : Nat → Nat} {i : Nat → Int32} {j : Nat → Int64} {a : Nat → Nat → Int32} {b : Nat → Nat → Int64} {i2 : Nat → Int32} {x : Int32} {D : va_G} {H : Heap} {A : Nat → Prop} (e : i2 = upd i 67 x) (hP : va_P D classes ((MW cI cJ cB h v i j a b).set 0 (h, .inr (12, (mo v i j).set 67 (.int x)))) H) (hD : va_D A ((MW cI cJ cB h v i j a b).set 0 (h, .inr (12, (mo v i j).set 67 (.int x))))) : va_P D classes (MW cI cJ cB h v i2 j a b) H ∧ va_D A (MW cI cJ cB h v i2 j a b) := by
  subst e
  have h9 : (mo v i j).set 67 (.int x) = mo v (upd i 67 x) j := rfl
  rw [h9] at hP hD
  exact ⟨hP, hD⟩
theorem yg_68 {v : Nat → Nat} {i : Nat → Int32} {j : Nat → Int64} : (mo v i j)[68]? = some (.int (i 68)) := rfl
theorem yl_68 {v : Nat → Nat} {i : Nat → Int32} {j : Nat → Int64} : 68 < (mo v i j).length := Nat.le_of_ble_eq_true rfl
theorem yw_68 {cI cJ cB : ClassId} {h : Nat} {v : Nat → Nat} {i : Nat → Int32} {j : Nat → Int64} {a : Nat → Nat → Int32} {b : Nat → Nat → Int64} {i2 : Nat → Int32} {x : Int32} {D : va_G} {H : Heap} {A : Nat → Prop} (e : i2 = upd i 68 x) (hP : va_P D classes ((MW cI cJ cB h v i j a b).set 0 (h, .inr (12, (mo v i j).set 68 (.int x)))) H) (hD : va_D A ((MW cI cJ cB h v i j a b).set 0 (h, .inr (12, (mo v i j).set 68 (.int x))))) : va_P D classes (MW cI cJ cB h v i2 j a b) H ∧ va_D A (MW cI cJ cB h v i2 j a b) := by
  subst e
  have h9 : (mo v i j).set 68 (.int x) = mo v (upd i 68 x) j := rfl
  rw [h9] at hP hD
  exact ⟨hP, hD⟩
theorem yg_69 {v : Nat → Nat} {i : Nat → Int32} {j : Nat → Int64} : (mo v i j)[69]? = some (.int (i 69)) := rfl
theorem yl_69 {v : Nat → Nat} {i : Nat → Int32} {j : Nat → Int64} : 69 < (mo v i j).length := Nat.le_of_ble_eq_true rfl
theorem yw_69 {cI cJ cB : ClassId} {h : Nat} {v : Nat → Nat} {i : Nat → Int32} {j : Nat → Int64} {a : Nat → Nat → Int32} {b : Nat → Nat → Int64} {i2 : Nat → Int32} {x : Int32} {D : va_G} {H : Heap} {A : Nat → Prop} (e : i2 = upd i 69 x) (hP : va_P D classes ((MW cI cJ cB h v i j a b).set 0 (h, .inr (12, (mo v i j).set 69 (.int x)))) H) (hD : va_D A ((MW cI cJ cB h v i j a b).set 0 (h, .inr (12, (mo v i j).set 69 (.int x))))) : va_P D classes (MW cI cJ cB h v i2 j a b) H ∧ va_D A (MW cI cJ cB h v i2 j a b) := by
  subst e
  have h9 : (mo v i j).set 69 (.int x) = mo v (upd i 69 x) j := rfl
  rw [h9] at hP hD
  exact ⟨hP, hD⟩
theorem yg_70 {v : Nat → Nat} {i : Nat → Int32} {j : Nat → Int64} : (mo v i j)[70]? = some (.int (i 70)) := rfl
theorem yl_70 {v : Nat → Nat} {i : Nat → Int32} {j : Nat → Int64} : 70 < (mo v i j).length := Nat.le_of_ble_eq_true rfl
theorem yw_70 {cI cJ cB : ClassId} {h : Nat} {v : Nat → Nat} {i : Nat → Int32} {j : Nat → Int64} {a : Nat → Nat → Int32} {b : Nat → Nat → Int64} {i2 : Nat → Int32} {x : Int32} {D : va_G} {H : Heap} {A : Nat → Prop} (e : i2 = upd i 70 x) (hP : va_P D classes ((MW cI cJ cB h v i j a b).set 0 (h, .inr (12, (mo v i j).set 70 (.int x)))) H) (hD : va_D A ((MW cI cJ cB h v i j a b).set 0 (h, .inr (12, (mo v i j).set 70 (.int x))))) : va_P D classes (MW cI cJ cB h v i2 j a b) H ∧ va_D A (MW cI cJ cB h v i2 j a b) := by
  subst e
  have h9 : (mo v i j).set 70 (.int x) = mo v (upd i 70 x) j := rfl
  rw [h9] at hP hD
  exact ⟨hP, hD⟩
theorem yg_71 {v : Nat → Nat} {i : Nat → Int32} {j : Nat → Int64} : (mo v i j)[71]? = some (.ref ((v 71))) := rfl
theorem yg_72 {v : Nat → Nat} {i : Nat → Int32} {j : Nat → Int64} : (mo v i j)[72]? = some (.ref ((v 72))) := rfl
theorem yg_73 {v : Nat → Nat} {i : Nat → Int32} {j : Nat → Int64} : (mo v i j)[73]? = some (.ref ((v 73))) := rfl
theorem yg_74 {v : Nat → Nat} {i : Nat → Int32} {j : Nat → Int64} : (mo v i j)[74]? = some (.int (i 74)) := rfl
theorem yl_74 {v : Nat → Nat} {i : Nat → Int32} {j : Nat → Int64} : 74 < (mo v i j).length := Nat.le_of_ble_eq_true rfl
theorem yw_74 {cI cJ cB : ClassId} {h : Nat} {v : Nat → Nat} {i : Nat → Int32} {j : Nat → Int64} {a : Nat → Nat → Int32} {b : Nat → Nat → Int64} {i2 : Nat → Int32} {x : Int32} {D : va_G} {H : Heap} {A : Nat → Prop} (e : i2 = upd i 74 x) (hP : va_P D classes ((MW cI cJ cB h v i j a b).set 0 (h, .inr (12, (mo v i j).set 74 (.int x)))) H) (hD : va_D A ((MW cI cJ cB h v i j a b).set 0 (h, .inr (12, (mo v i j).set 74 (.int x))))) : va_P D classes (MW cI cJ cB h v i2 j a b) H ∧ va_D A (MW cI cJ cB h v i2 j a b) := by
  subst e
  have h9 : (mo v i j).set 74 (.int x) = mo v (upd i 74 x) j := rfl
  rw [h9] at hP hD
  exact ⟨hP, hD⟩
theorem yg_75 {v : Nat → Nat} {i : Nat → Int32} {j : Nat → Int64} : (mo v i j)[75]? = some (.int (i 75)) := rfl
theorem yl_75 {v : Nat → Nat} {i : Nat → Int32} {j : Nat → Int64} : 75 < (mo v i j).length := Nat.le_of_ble_eq_true rfl
theorem yw_75 {cI cJ cB : ClassId} {h : Nat} {v : Nat → Nat} {i : Nat → Int32} {j : Nat → Int64} {a : Nat → Nat → Int32} {b : Nat → Nat → Int64} {i2 : Nat → Int32} {x : Int32} {D : va_G} {H : Heap} {A : Nat → Prop} (e : i2 = upd i 75 x) (hP : va_P D classes ((MW cI cJ cB h v i j a b).set 0 (h, .inr (12, (mo v i j).set 75 (.int x)))) H) (hD : va_D A ((MW cI cJ cB h v i j a b).set 0 (h, .inr (12, (mo v i j).set 75 (.int x))))) : va_P D classes (MW cI cJ cB h v i2 j a b) H ∧ va_D A (MW cI cJ cB h v i2 j a b) := by
  subst e
  have h9 : (mo v i j).set 75 (.int x) = mo v (upd i 75 x) j := rfl
  rw [h9] at hP hD
  exact ⟨hP, hD⟩
theorem yg_76 {v : Nat → Nat} {i : Nat → Int32} {j : Nat → Int64} : (mo v i j)[76]? = some (.int (i 76)) := rfl
theorem yl_76 {v : Nat → Nat} {i : Nat → Int32} {j : Nat → Int64} : 76 < (mo v i j).length := Nat.le_of_ble_eq_true rfl
theorem yw_76 {cI cJ cB : ClassId} {h : Nat} {v : Nat → Nat} {i : Nat → Int32} {j : Nat → Int64} {a : Nat → Nat → Int32} {b : Nat → Nat → Int64} {i2 : Nat → Int32} {x : Int32} {D : va_G} {H : Heap} {A : Nat → Prop} (e : i2 = upd i 76 x) (hP : va_P D classes ((MW cI cJ cB h v i j a b).set 0 (h, .inr (12, (mo v i j).set 76 (.int x)))) H) (hD : va_D A ((MW cI cJ cB h v i j a b).set 0 (h, .inr (12, (mo v i j).set 76 (.int x))))) : va_P D classes (MW cI cJ cB h v i2 j a b) H ∧ va_D A (MW cI cJ cB h v i2 j a b) := by
  subst e
  have h9 : (mo v i j).set 76 (.int x) = mo v (upd i 76 x) j := rfl
  rw [h9] at hP hD
  exact ⟨hP, hD⟩
theorem yg_77 {v : Nat → Nat} {i : Nat → Int32} {j : Nat → Int64} : (mo v i j)[77]? = some (.ref ((v 77))) := rfl
theorem yg_78 {v : Nat → Nat} {i : Nat → Int32} {j : Nat → Int64} : (mo v i j)[78]? = some (.ref ((v 78))) := rfl
theorem yg_79 {v : Nat → Nat} {i : Nat → Int32} {j : Nat → Int64} : (mo v i j)[79]? = some (.ref ((v 79))) := rfl
theorem yg_80 {v : Nat → Nat} {i : Nat → Int32} {j : Nat → Int64} : (mo v i j)[80]? = some (.ref ((v 80))) := rfl
theorem yg_81 {v : Nat → Nat} {i : Nat → Int32} {j : Nat → Int64} : (mo v i j)[81]? = some (.int (i 81)) := rfl
theorem yl_81 {v : Nat → Nat} {i : Nat → Int32} {j : Nat → Int64} : 81 < (mo v i j).length := Nat.le_of_ble_eq_true rfl
theorem yw_81 {cI cJ cB : ClassId} {h : Nat} {v : Nat → Nat} {i : Nat → Int32} {j : Nat → Int64} {a : Nat → Nat → Int32} {b : Nat → Nat → Int64} {i2 : Nat → Int32} {x : Int32} {D : va_G} {H : Heap} {A : Nat → Prop} (e : i2 = upd i 81 x) (hP : va_P D classes ((MW cI cJ cB h v i j a b).set 0 (h, .inr (12, (mo v i j).set 81 (.int x)))) H) (hD : va_D A ((MW cI cJ cB h v i j a b).set 0 (h, .inr (12, (mo v i j).set 81 (.int x))))) : va_P D classes (MW cI cJ cB h v i2 j a b) H ∧ va_D A (MW cI cJ cB h v i2 j a b) := by
  subst e
  have h9 : (mo v i j).set 81 (.int x) = mo v (upd i 81 x) j := rfl
  rw [h9] at hP hD
  exact ⟨hP, hD⟩
theorem yg_82 {v : Nat → Nat} {i : Nat → Int32} {j : Nat → Int64} : (mo v i j)[82]? = some (.ref ((v 82))) := rfl
theorem yg_83 {v : Nat → Nat} {i : Nat → Int32} {j : Nat → Int64} : (mo v i j)[83]? = some (.ref ((v 83))) := rfl
theorem yg_84 {v : Nat → Nat} {i : Nat → Int32} {j : Nat → Int64} : (mo v i j)[84]? = some (.int (i 84)) := rfl
theorem yl_84 {v : Nat → Nat} {i : Nat → Int32} {j : Nat → Int64} : 84 < (mo v i j).length := Nat.le_of_ble_eq_true rfl
theorem yw_84 {cI cJ cB : ClassId} {h : Nat} {v : Nat → Nat} {i : Nat → Int32} {j : Nat → Int64} {a : Nat → Nat → Int32} {b : Nat → Nat → Int64} {i2 : Nat → Int32} {x : Int32} {D : va_G} {H : Heap} {A : Nat → Prop} (e : i2 = upd i 84 x) (hP : va_P D classes ((MW cI cJ cB h v i j a b).set 0 (h, .inr (12, (mo v i j).set 84 (.int x)))) H) (hD : va_D A ((MW cI cJ cB h v i j a b).set 0 (h, .inr (12, (mo v i j).set 84 (.int x))))) : va_P D classes (MW cI cJ cB h v i2 j a b) H ∧ va_D A (MW cI cJ cB h v i2 j a b) := by
  subst e
  have h9 : (mo v i j).set 84 (.int x) = mo v (upd i 84 x) j := rfl
  rw [h9] at hP hD
  exact ⟨hP, hD⟩
theorem yg_85 {v : Nat → Nat} {i : Nat → Int32} {j : Nat → Int64} : (mo v i j)[85]? = some (.int (i 85)) := rfl
theorem yl_85 {v : Nat → Nat} {i : Nat → Int32} {j : Nat → Int64} : 85 < (mo v i j).length := Nat.le_of_ble_eq_true rfl
theorem yw_85 {cI cJ cB : ClassId} {h : Nat} {v : Nat → Nat} {i : Nat → Int32} {j : Nat → Int64} {a : Nat → Nat → Int32} {b : Nat → Nat → Int64} {i2 : Nat → Int32} {x : Int32} {D : va_G} {H : Heap} {A : Nat → Prop} (e : i2 = upd i 85 x) (hP : va_P D classes ((MW cI cJ cB h v i j a b).set 0 (h, .inr (12, (mo v i j).set 85 (.int x)))) H) (hD : va_D A ((MW cI cJ cB h v i j a b).set 0 (h, .inr (12, (mo v i j).set 85 (.int x))))) : va_P D classes (MW cI cJ cB h v i2 j a b) H ∧ va_D A (MW cI cJ cB h v i2 j a b) := by
  subst e
  have h9 : (mo v i j).set 85 (.int x) = mo v (upd i 85 x) j := rfl
  rw [h9] at hP hD
  exact ⟨hP, hD⟩
theorem yg_86 {v : Nat → Nat} {i : Nat → Int32} {j : Nat → Int64} : (mo v i j)[86]? = some (.int (i 86)) := rfl
theorem yl_86 {v : Nat → Nat} {i : Nat → Int32} {j : Nat → Int64} : 86 < (mo v i j).length := Nat.le_of_ble_eq_true rfl
theorem yw_86 {cI cJ cB : ClassId} {h : Nat} {v : Nat → Nat} {i : Nat → Int32} {j : Nat → Int64} {a : Nat → Nat → Int32} {b : Nat → Nat → Int64} {i2 : Nat → Int32} {x : Int32} {D : va_G} {H : Heap} {A : Nat → Prop} (e : i2 = upd i 86 x) (hP : va_P D classes ((MW cI cJ cB h v i j a b).set 0 (h, .inr (12, (mo v i j).set 86 (.int x)))) H) (hD : va_D A ((MW cI cJ cB h v i j a b).set 0 (h, .inr (12, (mo v i j).set 86 (.int x))))) : va_P D classes (MW cI cJ cB h v i2 j a b) H ∧ va_D A (MW cI cJ cB h v i2 j a b) := by
  subst e
  have h9 : (mo v i j).set 86 (.int x) = mo v (upd i 86 x) j := rfl
  rw [h9] at hP hD
  exact ⟨hP, hD⟩
theorem yg_87 {v : Nat → Nat} {i : Nat → Int32} {j : Nat → Int64} : (mo v i j)[87]? = some (.ref ((v 87))) := rfl
theorem yg_88 {v : Nat → Nat} {i : Nat → Int32} {j : Nat → Int64} : (mo v i j)[88]? = some (.ref ((v 88))) := rfl
theorem yg_89 {v : Nat → Nat} {i : Nat → Int32} {j : Nat → Int64} : (mo v i j)[89]? = some (.ref ((v 89))) := rfl
theorem yg_90 {v : Nat → Nat} {i : Nat → Int32} {j : Nat → Int64} : (mo v i j)[90]? = some (.ref ((v 90))) := rfl
theorem yg_91 {v : Nat → Nat} {i : Nat → Int32} {j : Nat → Int64} : (mo v i j)[91]? = some (.ref ((v 91))) := rfl
theorem yg_92 {v : Nat → Nat} {i : Nat → Int32} {j : Nat → Int64} : (mo v i j)[92]? = some (.int (i 92)) := rfl
theorem yl_92 {v : Nat → Nat} {i : Nat → Int32} {j : Nat → Int64} : 92 < (mo v i j).length := Nat.le_of_ble_eq_true rfl
theorem yw_92 {cI cJ cB : ClassId} {h : Nat} {v : Nat → Nat} {i : Nat → Int32} {j : Nat → Int64} {a : Nat → Nat → Int32} {b : Nat → Nat → Int64} {i2 : Nat → Int32} {x : Int32} {D : va_G} {H : Heap} {A : Nat → Prop} (e : i2 = upd i 92 x) (hP : va_P D classes ((MW cI cJ cB h v i j a b).set 0 (h, .inr (12, (mo v i j).set 92 (.int x)))) H) (hD : va_D A ((MW cI cJ cB h v i j a b).set 0 (h, .inr (12, (mo v i j).set 92 (.int x))))) : va_P D classes (MW cI cJ cB h v i2 j a b) H ∧ va_D A (MW cI cJ cB h v i2 j a b) := by
  subst e
  have h9 : (mo v i j).set 92 (.int x) = mo v (upd i 92 x) j := rfl
  rw [h9] at hP hD
  exact ⟨hP, hD⟩
theorem yg_93 {v : Nat → Nat} {i : Nat → Int32} {j : Nat → Int64} : (mo v i j)[93]? = some (.int (i 93)) := rfl
theorem yl_93 {v : Nat → Nat} {i : Nat → Int32} {j : Nat → Int64} : 93 < (mo v i j).length := Nat.le_of_ble_eq_true rfl
theorem yw_93 {cI cJ cB : ClassId} {h : Nat} {v : Nat → Nat} {i : Nat → Int32} {j : Nat → Int64} {a : Nat → Nat → Int32} {b : Nat → Nat → Int64} {i2 : Nat → Int32} {x : Int32} {D : va_G} {H : Heap} {A : Nat → Prop} (e : i2 = upd i 93 x) (hP : va_P D classes ((MW cI cJ cB h v i j a b).set 0 (h, .inr (12, (mo v i j).set 93 (.int x)))) H) (hD : va_D A ((MW cI cJ cB h v i j a b).set 0 (h, .inr (12, (mo v i j).set 93 (.int x))))) : va_P D classes (MW cI cJ cB h v i2 j a b) H ∧ va_D A (MW cI cJ cB h v i2 j a b) := by
  subst e
  have h9 : (mo v i j).set 93 (.int x) = mo v (upd i 93 x) j := rfl
  rw [h9] at hP hD
  exact ⟨hP, hD⟩
theorem yg_94 {v : Nat → Nat} {i : Nat → Int32} {j : Nat → Int64} : (mo v i j)[94]? = some (.int (i 94)) := rfl
theorem yl_94 {v : Nat → Nat} {i : Nat → Int32} {j : Nat → Int64} : 94 < (mo v i j).length := Nat.le_of_ble_eq_true rfl
theorem yw_94 {cI cJ cB : ClassId} {h : Nat} {v : Nat → Nat} {i : Nat → Int32} {j : Nat → Int64} {a : Nat → Nat → Int32} {b : Nat → Nat → Int64} {i2 : Nat → Int32} {x : Int32} {D : va_G} {H : Heap} {A : Nat → Prop} (e : i2 = upd i 94 x) (hP : va_P D classes ((MW cI cJ cB h v i j a b).set 0 (h, .inr (12, (mo v i j).set 94 (.int x)))) H) (hD : va_D A ((MW cI cJ cB h v i j a b).set 0 (h, .inr (12, (mo v i j).set 94 (.int x))))) : va_P D classes (MW cI cJ cB h v i2 j a b) H ∧ va_D A (MW cI cJ cB h v i2 j a b) := by
  subst e
  have h9 : (mo v i j).set 94 (.int x) = mo v (upd i 94 x) j := rfl
  rw [h9] at hP hD
  exact ⟨hP, hD⟩
theorem yg_95 {v : Nat → Nat} {i : Nat → Int32} {j : Nat → Int64} : (mo v i j)[95]? = some (.int (i 95)) := rfl
theorem yl_95 {v : Nat → Nat} {i : Nat → Int32} {j : Nat → Int64} : 95 < (mo v i j).length := Nat.le_of_ble_eq_true rfl
theorem yw_95 {cI cJ cB : ClassId} {h : Nat} {v : Nat → Nat} {i : Nat → Int32} {j : Nat → Int64} {a : Nat → Nat → Int32} {b : Nat → Nat → Int64} {i2 : Nat → Int32} {x : Int32} {D : va_G} {H : Heap} {A : Nat → Prop} (e : i2 = upd i 95 x) (hP : va_P D classes ((MW cI cJ cB h v i j a b).set 0 (h, .inr (12, (mo v i j).set 95 (.int x)))) H) (hD : va_D A ((MW cI cJ cB h v i j a b).set 0 (h, .inr (12, (mo v i j).set 95 (.int x))))) : va_P D classes (MW cI cJ cB h v i2 j a b) H ∧ va_D A (MW cI cJ cB h v i2 j a b) := by
  subst e
  have h9 : (mo v i j).set 95 (.int x) = mo v (upd i 95 x) j := rfl
  rw [h9] at hP hD
  exact ⟨hP, hD⟩
theorem yg_96 {v : Nat → Nat} {i : Nat → Int32} {j : Nat → Int64} : (mo v i j)[96]? = some (.int (i 96)) := rfl
theorem yl_96 {v : Nat → Nat} {i : Nat → Int32} {j : Nat → Int64} : 96 < (mo v i j).length := Nat.le_of_ble_eq_true rfl
theorem yw_96 {cI cJ cB : ClassId} {h : Nat} {v : Nat → Nat} {i : Nat → Int32} {j : Nat → Int64} {a : Nat → Nat → Int32} {b : Nat → Nat → Int64} {i2 : Nat → Int32} {x : Int32} {D : va_G} {H : Heap} {A : Nat → Prop} (e : i2 = upd i 96 x) (hP : va_P D classes ((MW cI cJ cB h v i j a b).set 0 (h, .inr (12, (mo v i j).set 96 (.int x)))) H) (hD : va_D A ((MW cI cJ cB h v i j a b).set 0 (h, .inr (12, (mo v i j).set 96 (.int x))))) : va_P D classes (MW cI cJ cB h v i2 j a b) H ∧ va_D A (MW cI cJ cB h v i2 j a b) := by
  subst e
  have h9 : (mo v i j).set 96 (.int x) = mo v (upd i 96 x) j := rfl
  rw [h9] at hP hD
  exact ⟨hP, hD⟩
theorem yg_97 {v : Nat → Nat} {i : Nat → Int32} {j : Nat → Int64} : (mo v i j)[97]? = some (.int (i 97)) := rfl
theorem yl_97 {v : Nat → Nat} {i : Nat → Int32} {j : Nat → Int64} : 97 < (mo v i j).length := Nat.le_of_ble_eq_true rfl
theorem yw_97 {cI cJ cB : ClassId} {h : Nat} {v : Nat → Nat} {i : Nat → Int32} {j : Nat → Int64} {a : Nat → Nat → Int32} {b : Nat → Nat → Int64} {i2 : Nat → Int32} {x : Int32} {D : va_G} {H : Heap} {A : Nat → Prop} (e : i2 = upd i 97 x) (hP : va_P D classes ((MW cI cJ cB h v i j a b).set 0 (h, .inr (12, (mo v i j).set 97 (.int x)))) H) (hD : va_D A ((MW cI cJ cB h v i j a b).set 0 (h, .inr (12, (mo v i j).set 97 (.int x))))) : va_P D classes (MW cI cJ cB h v i2 j a b) H ∧ va_D A (MW cI cJ cB h v i2 j a b) := by
  subst e
  have h9 : (mo v i j).set 97 (.int x) = mo v (upd i 97 x) j := rfl
  rw [h9] at hP hD
  exact ⟨hP, hD⟩
theorem yg_98 {v : Nat → Nat} {i : Nat → Int32} {j : Nat → Int64} : (mo v i j)[98]? = some (.int (i 98)) := rfl
theorem yl_98 {v : Nat → Nat} {i : Nat → Int32} {j : Nat → Int64} : 98 < (mo v i j).length := Nat.le_of_ble_eq_true rfl
theorem yw_98 {cI cJ cB : ClassId} {h : Nat} {v : Nat → Nat} {i : Nat → Int32} {j : Nat → Int64} {a : Nat → Nat → Int32} {b : Nat → Nat → Int64} {i2 : Nat → Int32} {x : Int32} {D : va_G} {H : Heap} {A : Nat → Prop} (e : i2 = upd i 98 x) (hP : va_P D classes ((MW cI cJ cB h v i j a b).set 0 (h, .inr (12, (mo v i j).set 98 (.int x)))) H) (hD : va_D A ((MW cI cJ cB h v i j a b).set 0 (h, .inr (12, (mo v i j).set 98 (.int x))))) : va_P D classes (MW cI cJ cB h v i2 j a b) H ∧ va_D A (MW cI cJ cB h v i2 j a b) := by
  subst e
  have h9 : (mo v i j).set 98 (.int x) = mo v (upd i 98 x) j := rfl
  rw [h9] at hP hD
  exact ⟨hP, hD⟩
theorem yg_99 {v : Nat → Nat} {i : Nat → Int32} {j : Nat → Int64} : (mo v i j)[99]? = some (.int (i 99)) := rfl
theorem yl_99 {v : Nat → Nat} {i : Nat → Int32} {j : Nat → Int64} : 99 < (mo v i j).length := Nat.le_of_ble_eq_true rfl
theorem yw_99 {cI cJ cB : ClassId} {h : Nat} {v : Nat → Nat} {i : Nat → Int32} {j : Nat → Int64} {a : Nat → Nat → Int32} {b : Nat → Nat → Int64} {i2 : Nat → Int32} {x : Int32} {D : va_G} {H : Heap} {A : Nat → Prop} (e : i2 = upd i 99 x) (hP : va_P D classes ((MW cI cJ cB h v i j a b).set 0 (h, .inr (12, (mo v i j).set 99 (.int x)))) H) (hD : va_D A ((MW cI cJ cB h v i j a b).set 0 (h, .inr (12, (mo v i j).set 99 (.int x))))) : va_P D classes (MW cI cJ cB h v i2 j a b) H ∧ va_D A (MW cI cJ cB h v i2 j a b) := by
  subst e
  have h9 : (mo v i j).set 99 (.int x) = mo v (upd i 99 x) j := rfl
  rw [h9] at hP hD
  exact ⟨hP, hD⟩
theorem yg_100 {v : Nat → Nat} {i : Nat → Int32} {j : Nat → Int64} : (mo v i j)[100]? = some (.int (i 100)) := rfl
theorem yl_100 {v : Nat → Nat} {i : Nat → Int32} {j : Nat → Int64} : 100 < (mo v i j).length := Nat.le_of_ble_eq_true rfl
theorem yw_100 {cI cJ cB : ClassId} {h : Nat} {v : Nat → Nat} {i : Nat → Int32} {j : Nat → Int64} {a : Nat → Nat → Int32} {b : Nat → Nat → Int64} {i2 : Nat → Int32} {x : Int32} {D : va_G} {H : Heap} {A : Nat → Prop} (e : i2 = upd i 100 x) (hP : va_P D classes ((MW cI cJ cB h v i j a b).set 0 (h, .inr (12, (mo v i j).set 100 (.int x)))) H) (hD : va_D A ((MW cI cJ cB h v i j a b).set 0 (h, .inr (12, (mo v i j).set 100 (.int x))))) : va_P D classes (MW cI cJ cB h v i2 j a b) H ∧ va_D A (MW cI cJ cB h v i2 j a b) := by
  subst e
  have h9 : (mo v i j).set 100 (.int x) = mo v (upd i 100 x) j := rfl
  rw [h9] at hP hD
  exact ⟨hP, hD⟩
theorem yg_101 {v : Nat → Nat} {i : Nat → Int32} {j : Nat → Int64} : (mo v i j)[101]? = some (.long (j 101)) := rfl
theorem yl_101 {v : Nat → Nat} {i : Nat → Int32} {j : Nat → Int64} : 101 < (mo v i j).length := Nat.le_of_ble_eq_true rfl
theorem yw_101 {cI cJ cB : ClassId} {h : Nat} {v : Nat → Nat} {i : Nat → Int32} {j : Nat → Int64} {a : Nat → Nat → Int32} {b : Nat → Nat → Int64} {j2 : Nat → Int64} {x : Int64} {D : va_G} {H : Heap} {A : Nat → Prop} (e : j2 = vp_updL j 101 x) (hP : va_P D classes ((MW cI cJ cB h v i j a b).set 0 (h, .inr (12, (mo v i j).set 101 (.long x)))) H) (hD : va_D A ((MW cI cJ cB h v i j a b).set 0 (h, .inr (12, (mo v i j).set 101 (.long x))))) : va_P D classes (MW cI cJ cB h v i j2 a b) H ∧ va_D A (MW cI cJ cB h v i j2 a b) := by
  subst e
  have h9 : (mo v i j).set 101 (.long x) = mo v i (vp_updL j 101 x) := rfl
  rw [h9] at hP hD
  exact ⟨hP, hD⟩
theorem yg_102 {v : Nat → Nat} {i : Nat → Int32} {j : Nat → Int64} : (mo v i j)[102]? = some (.int (i 102)) := rfl
theorem yl_102 {v : Nat → Nat} {i : Nat → Int32} {j : Nat → Int64} : 102 < (mo v i j).length := Nat.le_of_ble_eq_true rfl
theorem yw_102 {cI cJ cB : ClassId} {h : Nat} {v : Nat → Nat} {i : Nat → Int32} {j : Nat → Int64} {a : Nat → Nat → Int32} {b : Nat → Nat → Int64} {i2 : Nat → Int32} {x : Int32} {D : va_G} {H : Heap} {A : Nat → Prop} (e : i2 = upd i 102 x) (hP : va_P D classes ((MW cI cJ cB h v i j a b).set 0 (h, .inr (12, (mo v i j).set 102 (.int x)))) H) (hD : va_D A ((MW cI cJ cB h v i j a b).set 0 (h, .inr (12, (mo v i j).set 102 (.int x))))) : va_P D classes (MW cI cJ cB h v i2 j a b) H ∧ va_D A (MW cI cJ cB h v i2 j a b) := by
  subst e
  have h9 : (mo v i j).set 102 (.int x) = mo v (upd i 102 x) j := rfl
  rw [h9] at hP hD
  exact ⟨hP, hD⟩
theorem yg_103 {v : Nat → Nat} {i : Nat → Int32} {j : Nat → Int64} : (mo v i j)[103]? = some (.int (i 103)) := rfl
theorem yl_103 {v : Nat → Nat} {i : Nat → Int32} {j : Nat → Int64} : 103 < (mo v i j).length := Nat.le_of_ble_eq_true rfl
theorem yw_103 {cI cJ cB : ClassId} {h : Nat} {v : Nat → Nat} {i : Nat → Int32} {j : Nat → Int64} {a : Nat → Nat → Int32} {b : Nat → Nat → Int64} {i2 : Nat → Int32} {x : Int32} {D : va_G} {H : Heap} {A : Nat → Prop} (e : i2 = upd i 103 x) (hP : va_P D classes ((MW cI cJ cB h v i j a b).set 0 (h, .inr (12, (mo v i j).set 103 (.int x)))) H) (hD : va_D A ((MW cI cJ cB h v i j a b).set 0 (h, .inr (12, (mo v i j).set 103 (.int x))))) : va_P D classes (MW cI cJ cB h v i2 j a b) H ∧ va_D A (MW cI cJ cB h v i2 j a b) := by
  subst e
  have h9 : (mo v i j).set 103 (.int x) = mo v (upd i 103 x) j := rfl
  rw [h9] at hP hD
  exact ⟨hP, hD⟩
theorem yg_104 {v : Nat → Nat} {i : Nat → Int32} {j : Nat → Int64} : (mo v i j)[104]? = some (.int (i 104)) := rfl
theorem yl_104 {v : Nat → Nat} {i : Nat → Int32} {j : Nat → Int64} : 104 < (mo v i j).length := Nat.le_of_ble_eq_true rfl
theorem yw_104 {cI cJ cB : ClassId} {h : Nat} {v : Nat → Nat} {i : Nat → Int32} {j : Nat → Int64} {a : Nat → Nat → Int32} {b : Nat → Nat → Int64} {i2 : Nat → Int32} {x : Int32} {D : va_G} {H : Heap} {A : Nat → Prop} (e : i2 = upd i 104 x) (hP : va_P D classes ((MW cI cJ cB h v i j a b).set 0 (h, .inr (12, (mo v i j).set 104 (.int x)))) H) (hD : va_D A ((MW cI cJ cB h v i j a b).set 0 (h, .inr (12, (mo v i j).set 104 (.int x))))) : va_P D classes (MW cI cJ cB h v i2 j a b) H ∧ va_D A (MW cI cJ cB h v i2 j a b) := by
  subst e
  have h9 : (mo v i j).set 104 (.int x) = mo v (upd i 104 x) j := rfl
  rw [h9] at hP hD
  exact ⟨hP, hD⟩
theorem yg_105 {v : Nat → Nat} {i : Nat → Int32} {j : Nat → Int64} : (mo v i j)[105]? = some (.int (i 105)) := rfl
theorem yl_105 {v : Nat → Nat} {i : Nat → Int32} {j : Nat → Int64} : 105 < (mo v i j).length := Nat.le_of_ble_eq_true rfl
theorem yw_105 {cI cJ cB : ClassId} {h : Nat} {v : Nat → Nat} {i : Nat → Int32} {j : Nat → Int64} {a : Nat → Nat → Int32} {b : Nat → Nat → Int64} {i2 : Nat → Int32} {x : Int32} {D : va_G} {H : Heap} {A : Nat → Prop} (e : i2 = upd i 105 x) (hP : va_P D classes ((MW cI cJ cB h v i j a b).set 0 (h, .inr (12, (mo v i j).set 105 (.int x)))) H) (hD : va_D A ((MW cI cJ cB h v i j a b).set 0 (h, .inr (12, (mo v i j).set 105 (.int x))))) : va_P D classes (MW cI cJ cB h v i2 j a b) H ∧ va_D A (MW cI cJ cB h v i2 j a b) := by
  subst e
  have h9 : (mo v i j).set 105 (.int x) = mo v (upd i 105 x) j := rfl
  rw [h9] at hP hD
  exact ⟨hP, hD⟩
theorem yg_106 {v : Nat → Nat} {i : Nat → Int32} {j : Nat → Int64} : (mo v i j)[106]? = some (.int (i 106)) := rfl
theorem yl_106 {v : Nat → Nat} {i : Nat → Int32} {j : Nat → Int64} : 106 < (mo v i j).length := Nat.le_of_ble_eq_true rfl
theorem yw_106 {cI cJ cB : ClassId} {h : Nat} {v : Nat → Nat} {i : Nat → Int32} {j : Nat → Int64} {a : Nat → Nat → Int32} {b : Nat → Nat → Int64} {i2 : Nat → Int32} {x : Int32} {D : va_G} {H : Heap} {A : Nat → Prop} (e : i2 = upd i 106 x) (hP : va_P D classes ((MW cI cJ cB h v i j a b).set 0 (h, .inr (12, (mo v i j).set 106 (.int x)))) H) (hD : va_D A ((MW cI cJ cB h v i j a b).set 0 (h, .inr (12, (mo v i j).set 106 (.int x))))) : va_P D classes (MW cI cJ cB h v i2 j a b) H ∧ va_D A (MW cI cJ cB h v i2 j a b) := by
  subst e
  have h9 : (mo v i j).set 106 (.int x) = mo v (upd i 106 x) j := rfl
  rw [h9] at hP hD
  exact ⟨hP, hD⟩
theorem yg_107 {v : Nat → Nat} {i : Nat → Int32} {j : Nat → Int64} : (mo v i j)[107]? = some (.int (i 107)) := rfl
theorem yl_107 {v : Nat → Nat} {i : Nat → Int32} {j : Nat → Int64} : 107 < (mo v i j).length := Nat.le_of_ble_eq_true rfl
theorem yw_107 {cI cJ cB : ClassId} {h : Nat} {v : Nat → Nat} {i : Nat → Int32} {j : Nat → Int64} {a : Nat → Nat → Int32} {b : Nat → Nat → Int64} {i2 : Nat → Int32} {x : Int32} {D : va_G} {H : Heap} {A : Nat → Prop} (e : i2 = upd i 107 x) (hP : va_P D classes ((MW cI cJ cB h v i j a b).set 0 (h, .inr (12, (mo v i j).set 107 (.int x)))) H) (hD : va_D A ((MW cI cJ cB h v i j a b).set 0 (h, .inr (12, (mo v i j).set 107 (.int x))))) : va_P D classes (MW cI cJ cB h v i2 j a b) H ∧ va_D A (MW cI cJ cB h v i2 j a b) := by
  subst e
  have h9 : (mo v i j).set 107 (.int x) = mo v (upd i 107 x) j := rfl
  rw [h9] at hP hD
  exact ⟨hP, hD⟩
theorem yg_108 {v : Nat → Nat} {i : Nat → Int32} {j : Nat → Int64} : (mo v i j)[108]? = some (.long (j 108)) := rfl
theorem yl_108 {v : Nat → Nat} {i : Nat → Int32} {j : Nat → Int64} : 108 < (mo v i j).length := Nat.le_of_ble_eq_true rfl
theorem yw_108 {cI cJ cB : ClassId} {h : Nat} {v : Nat → Nat} {i : Nat → Int32} {j : Nat → Int64} {a : Nat → Nat → Int32} {b : Nat → Nat → Int64} {j2 : Nat → Int64} {x : Int64} {D : va_G} {H : Heap} {A : Nat → Prop} (e : j2 = vp_updL j 108 x) (hP : va_P D classes ((MW cI cJ cB h v i j a b).set 0 (h, .inr (12, (mo v i j).set 108 (.long x)))) H) (hD : va_D A ((MW cI cJ cB h v i j a b).set 0 (h, .inr (12, (mo v i j).set 108 (.long x))))) : va_P D classes (MW cI cJ cB h v i j2 a b) H ∧ va_D A (MW cI cJ cB h v i j2 a b) := by
  subst e
  have h9 : (mo v i j).set 108 (.long x) = mo v i (vp_updL j 108 x) := rfl
  rw [h9] at hP hD
  exact ⟨hP, hD⟩
theorem yg_109 {v : Nat → Nat} {i : Nat → Int32} {j : Nat → Int64} : (mo v i j)[109]? = some (.long (j 109)) := rfl
theorem yl_109 {v : Nat → Nat} {i : Nat → Int32} {j : Nat → Int64} : 109 < (mo v i j).length := Nat.le_of_ble_eq_true rfl
theorem yw_109 {cI cJ cB : ClassId} {h : Nat} {v : Nat → Nat} {i : Nat → Int32} {j : Nat → Int64} {a : Nat → Nat → Int32} {b : Nat → Nat → Int64} {j2 : Nat → Int64} {x : Int64} {D : va_G} {H : Heap} {A : Nat → Prop} (e : j2 = vp_updL j 109 x) (hP : va_P D classes ((MW cI cJ cB h v i j a b).set 0 (h, .inr (12, (mo v i j).set 109 (.long x)))) H) (hD : va_D A ((MW cI cJ cB h v i j a b).set 0 (h, .inr (12, (mo v i j).set 109 (.long x))))) : va_P D classes (MW cI cJ cB h v i j2 a b) H ∧ va_D A (MW cI cJ cB h v i j2 a b) := by
  subst e
  have h9 : (mo v i j).set 109 (.long x) = mo v i (vp_updL j 109 x) := rfl
  rw [h9] at hP hD
  exact ⟨hP, hD⟩
theorem yg_110 {v : Nat → Nat} {i : Nat → Int32} {j : Nat → Int64} : (mo v i j)[110]? = some (.long (j 110)) := rfl
theorem yl_110 {v : Nat → Nat} {i : Nat → Int32} {j : Nat → Int64} : 110 < (mo v i j).length := Nat.le_of_ble_eq_true rfl
theorem yw_110 {cI cJ cB : ClassId} {h : Nat} {v : Nat → Nat} {i : Nat → Int32} {j : Nat → Int64} {a : Nat → Nat → Int32} {b : Nat → Nat → Int64} {j2 : Nat → Int64} {x : Int64} {D : va_G} {H : Heap} {A : Nat → Prop} (e : j2 = vp_updL j 110 x) (hP : va_P D classes ((MW cI cJ cB h v i j a b).set 0 (h, .inr (12, (mo v i j).set 110 (.long x)))) H) (hD : va_D A ((MW cI cJ cB h v i j a b).set 0 (h, .inr (12, (mo v i j).set 110 (.long x))))) : va_P D classes (MW cI cJ cB h v i j2 a b) H ∧ va_D A (MW cI cJ cB h v i j2 a b) := by
  subst e
  have h9 : (mo v i j).set 110 (.long x) = mo v i (vp_updL j 110 x) := rfl
  rw [h9] at hP hD
  exact ⟨hP, hD⟩
theorem yg_111 {v : Nat → Nat} {i : Nat → Int32} {j : Nat → Int64} : (mo v i j)[111]? = some (.ref ((v 111))) := rfl
theorem yg_112 {v : Nat → Nat} {i : Nat → Int32} {j : Nat → Int64} : (mo v i j)[112]? = some (.ref ((v 112))) := rfl
theorem yg_113 {v : Nat → Nat} {i : Nat → Int32} {j : Nat → Int64} : (mo v i j)[113]? = some (.ref ((v 113))) := rfl
theorem yg_114 {v : Nat → Nat} {i : Nat → Int32} {j : Nat → Int64} : (mo v i j)[114]? = some (.ref ((v 114))) := rfl
theorem yg_115 {v : Nat → Nat} {i : Nat → Int32} {j : Nat → Int64} : (mo v i j)[115]? = some (.ref ((v 115))) := rfl
theorem yg_116 {v : Nat → Nat} {i : Nat → Int32} {j : Nat → Int64} : (mo v i j)[116]? = some (.int (i 116)) := rfl
theorem yl_116 {v : Nat → Nat} {i : Nat → Int32} {j : Nat → Int64} : 116 < (mo v i j).length := Nat.le_of_ble_eq_true rfl
theorem yw_116 {cI cJ cB : ClassId} {h : Nat} {v : Nat → Nat} {i : Nat → Int32} {j : Nat → Int64} {a : Nat → Nat → Int32} {b : Nat → Nat → Int64} {i2 : Nat → Int32} {x : Int32} {D : va_G} {H : Heap} {A : Nat → Prop} (e : i2 = upd i 116 x) (hP : va_P D classes ((MW cI cJ cB h v i j a b).set 0 (h, .inr (12, (mo v i j).set 116 (.int x)))) H) (hD : va_D A ((MW cI cJ cB h v i j a b).set 0 (h, .inr (12, (mo v i j).set 116 (.int x))))) : va_P D classes (MW cI cJ cB h v i2 j a b) H ∧ va_D A (MW cI cJ cB h v i2 j a b) := by
  subst e
  have h9 : (mo v i j).set 116 (.int x) = mo v (upd i 116 x) j := rfl
  rw [h9] at hP hD
  exact ⟨hP, hD⟩
theorem yg_117 {v : Nat → Nat} {i : Nat → Int32} {j : Nat → Int64} : (mo v i j)[117]? = some (.int (i 117)) := rfl
theorem yl_117 {v : Nat → Nat} {i : Nat → Int32} {j : Nat → Int64} : 117 < (mo v i j).length := Nat.le_of_ble_eq_true rfl
theorem yw_117 {cI cJ cB : ClassId} {h : Nat} {v : Nat → Nat} {i : Nat → Int32} {j : Nat → Int64} {a : Nat → Nat → Int32} {b : Nat → Nat → Int64} {i2 : Nat → Int32} {x : Int32} {D : va_G} {H : Heap} {A : Nat → Prop} (e : i2 = upd i 117 x) (hP : va_P D classes ((MW cI cJ cB h v i j a b).set 0 (h, .inr (12, (mo v i j).set 117 (.int x)))) H) (hD : va_D A ((MW cI cJ cB h v i j a b).set 0 (h, .inr (12, (mo v i j).set 117 (.int x))))) : va_P D classes (MW cI cJ cB h v i2 j a b) H ∧ va_D A (MW cI cJ cB h v i2 j a b) := by
  subst e
  have h9 : (mo v i j).set 117 (.int x) = mo v (upd i 117 x) j := rfl
  rw [h9] at hP hD
  exact ⟨hP, hD⟩
theorem yg_118 {v : Nat → Nat} {i : Nat → Int32} {j : Nat → Int64} : (mo v i j)[118]? = some (.int (i 118)) := rfl
theorem yl_118 {v : Nat → Nat} {i : Nat → Int32} {j : Nat → Int64} : 118 < (mo v i j).length := Nat.le_of_ble_eq_true rfl
theorem yw_118 {cI cJ cB : ClassId} {h : Nat} {v : Nat → Nat} {i : Nat → Int32} {j : Nat → Int64} {a : Nat → Nat → Int32} {b : Nat → Nat → Int64} {i2 : Nat → Int32} {x : Int32} {D : va_G} {H : Heap} {A : Nat → Prop} (e : i2 = upd i 118 x) (hP : va_P D classes ((MW cI cJ cB h v i j a b).set 0 (h, .inr (12, (mo v i j).set 118 (.int x)))) H) (hD : va_D A ((MW cI cJ cB h v i j a b).set 0 (h, .inr (12, (mo v i j).set 118 (.int x))))) : va_P D classes (MW cI cJ cB h v i2 j a b) H ∧ va_D A (MW cI cJ cB h v i2 j a b) := by
  subst e
  have h9 : (mo v i j).set 118 (.int x) = mo v (upd i 118 x) j := rfl
  rw [h9] at hP hD
  exact ⟨hP, hD⟩
theorem yg_119 {v : Nat → Nat} {i : Nat → Int32} {j : Nat → Int64} : (mo v i j)[119]? = some (.ref ((v 119))) := rfl
theorem yg_120 {v : Nat → Nat} {i : Nat → Int32} {j : Nat → Int64} : (mo v i j)[120]? = some (.ref ((v 120))) := rfl
theorem yg_121 {v : Nat → Nat} {i : Nat → Int32} {j : Nat → Int64} : (mo v i j)[121]? = some (.ref ((v 121))) := rfl
theorem yg_122 {v : Nat → Nat} {i : Nat → Int32} {j : Nat → Int64} : (mo v i j)[122]? = some (.ref ((v 122))) := rfl
theorem yg_123 {v : Nat → Nat} {i : Nat → Int32} {j : Nat → Int64} : (mo v i j)[123]? = some (.ref ((v 123))) := rfl
theorem yg_124 {v : Nat → Nat} {i : Nat → Int32} {j : Nat → Int64} : (mo v i j)[124]? = some (.long (j 124)) := rfl
theorem yl_124 {v : Nat → Nat} {i : Nat → Int32} {j : Nat → Int64} : 124 < (mo v i j).length := Nat.le_of_ble_eq_true rfl
theorem yw_124 {cI cJ cB : ClassId} {h : Nat} {v : Nat → Nat} {i : Nat → Int32} {j : Nat → Int64} {a : Nat → Nat → Int32} {b : Nat → Nat → Int64} {j2 : Nat → Int64} {x : Int64} {D : va_G} {H : Heap} {A : Nat → Prop} (e : j2 = vp_updL j 124 x) (hP : va_P D classes ((MW cI cJ cB h v i j a b).set 0 (h, .inr (12, (mo v i j).set 124 (.long x)))) H) (hD : va_D A ((MW cI cJ cB h v i j a b).set 0 (h, .inr (12, (mo v i j).set 124 (.long x))))) : va_P D classes (MW cI cJ cB h v i j2 a b) H ∧ va_D A (MW cI cJ cB h v i j2 a b) := by
  subst e
  have h9 : (mo v i j).set 124 (.long x) = mo v i (vp_updL j 124 x) := rfl
  rw [h9] at hP hD
  exact ⟨hP, hD⟩
theorem yg_125 {v : Nat → Nat} {i : Nat → Int32} {j : Nat → Int64} : (mo v i j)[125]? = some (.long (j 125)) := rfl
theorem yl_125 {v : Nat → Nat} {i : Nat → Int32} {j : Nat → Int64} : 125 < (mo v i j).length := Nat.le_of_ble_eq_true rfl
theorem yw_125 {cI cJ cB : ClassId} {h : Nat} {v : Nat → Nat} {i : Nat → Int32} {j : Nat → Int64} {a : Nat → Nat → Int32} {b : Nat → Nat → Int64} {j2 : Nat → Int64} {x : Int64} {D : va_G} {H : Heap} {A : Nat → Prop} (e : j2 = vp_updL j 125 x) (hP : va_P D classes ((MW cI cJ cB h v i j a b).set 0 (h, .inr (12, (mo v i j).set 125 (.long x)))) H) (hD : va_D A ((MW cI cJ cB h v i j a b).set 0 (h, .inr (12, (mo v i j).set 125 (.long x))))) : va_P D classes (MW cI cJ cB h v i j2 a b) H ∧ va_D A (MW cI cJ cB h v i j2 a b) := by
  subst e
  have h9 : (mo v i j).set 125 (.long x) = mo v i (vp_updL j 125 x) := rfl
  rw [h9] at hP hD
  exact ⟨hP, hD⟩
theorem yg_126 {v : Nat → Nat} {i : Nat → Int32} {j : Nat → Int64} : (mo v i j)[126]? = some (.int (i 126)) := rfl
theorem yl_126 {v : Nat → Nat} {i : Nat → Int32} {j : Nat → Int64} : 126 < (mo v i j).length := Nat.le_of_ble_eq_true rfl
theorem yw_126 {cI cJ cB : ClassId} {h : Nat} {v : Nat → Nat} {i : Nat → Int32} {j : Nat → Int64} {a : Nat → Nat → Int32} {b : Nat → Nat → Int64} {i2 : Nat → Int32} {x : Int32} {D : va_G} {H : Heap} {A : Nat → Prop} (e : i2 = upd i 126 x) (hP : va_P D classes ((MW cI cJ cB h v i j a b).set 0 (h, .inr (12, (mo v i j).set 126 (.int x)))) H) (hD : va_D A ((MW cI cJ cB h v i j a b).set 0 (h, .inr (12, (mo v i j).set 126 (.int x))))) : va_P D classes (MW cI cJ cB h v i2 j a b) H ∧ va_D A (MW cI cJ cB h v i2 j a b) := by
  subst e
  have h9 : (mo v i j).set 126 (.int x) = mo v (upd i 126 x) j := rfl
  rw [h9] at hP hD
  exact ⟨hP, hD⟩
theorem yv_1 {cI cJ cB : ClassId} {h : Nat} {v : Nat → Nat} {i : Nat → Int32} {j : Nat → Int64} {a : Nat → Nat → Int32} {b : Nat → Nat → Int64} {a2 : Nat → Nat → Int32} {f : Nat → Int32} {D : va_G} {H : Heap} {A : Nat → Prop} (e : a2 = updA a 1 f) (hP : va_P D classes ((MW cI cJ cB h v i j a b).set 1 (v 1, .inl (cB, 300000, .inl f))) H) (hD : va_D A ((MW cI cJ cB h v i j a b).set 1 (v 1, .inl (cB, 300000, .inl f)))) : va_P D classes (MW cI cJ cB h v i j a2 b) H ∧ va_D A (MW cI cJ cB h v i j a2 b) := by
  subst e
  have h9 : (MW cI cJ cB h v i j a b).set 1 (v 1, .inl (cB, 300000, .inl f)) = MW cI cJ cB h v i j (updA a 1 f) b := rfl
  rw [h9] at hP hD
  exact ⟨hP, hD⟩
theorem yv_2 {cI cJ cB : ClassId} {h : Nat} {v : Nat → Nat} {i : Nat → Int32} {j : Nat → Int64} {a : Nat → Nat → Int32} {b : Nat → Nat → Int64} {a2 : Nat → Nat → Int32} {f : Nat → Int32} {D : va_G} {H : Heap} {A : Nat → Prop} (e : a2 = updA a 2 f) (hP : va_P D classes ((MW cI cJ cB h v i j a b).set 2 (v 2, .inl (cB, 300000, .inl f))) H) (hD : va_D A ((MW cI cJ cB h v i j a b).set 2 (v 2, .inl (cB, 300000, .inl f)))) : va_P D classes (MW cI cJ cB h v i j a2 b) H ∧ va_D A (MW cI cJ cB h v i j a2 b) := by
  subst e
  have h9 : (MW cI cJ cB h v i j a b).set 2 (v 2, .inl (cB, 300000, .inl f)) = MW cI cJ cB h v i j (updA a 2 f) b := rfl
  rw [h9] at hP hD
  exact ⟨hP, hD⟩
theorem yv_3 {cI cJ cB : ClassId} {h : Nat} {v : Nat → Nat} {i : Nat → Int32} {j : Nat → Int64} {a : Nat → Nat → Int32} {b : Nat → Nat → Int64} {a2 : Nat → Nat → Int32} {f : Nat → Int32} {D : va_G} {H : Heap} {A : Nat → Prop} (e : a2 = updA a 3 f) (hP : va_P D classes ((MW cI cJ cB h v i j a b).set 3 (v 3, .inl (cI, 120000, .inl f))) H) (hD : va_D A ((MW cI cJ cB h v i j a b).set 3 (v 3, .inl (cI, 120000, .inl f)))) : va_P D classes (MW cI cJ cB h v i j a2 b) H ∧ va_D A (MW cI cJ cB h v i j a2 b) := by
  subst e
  have h9 : (MW cI cJ cB h v i j a b).set 3 (v 3, .inl (cI, 120000, .inl f)) = MW cI cJ cB h v i j (updA a 3 f) b := rfl
  rw [h9] at hP hD
  exact ⟨hP, hD⟩
theorem yv_4 {cI cJ cB : ClassId} {h : Nat} {v : Nat → Nat} {i : Nat → Int32} {j : Nat → Int64} {a : Nat → Nat → Int32} {b : Nat → Nat → Int64} {a2 : Nat → Nat → Int32} {f : Nat → Int32} {D : va_G} {H : Heap} {A : Nat → Prop} (e : a2 = updA a 4 f) (hP : va_P D classes ((MW cI cJ cB h v i j a b).set 4 (v 4, .inl (cI, 120000, .inl f))) H) (hD : va_D A ((MW cI cJ cB h v i j a b).set 4 (v 4, .inl (cI, 120000, .inl f)))) : va_P D classes (MW cI cJ cB h v i j a2 b) H ∧ va_D A (MW cI cJ cB h v i j a2 b) := by
  subst e
  have h9 : (MW cI cJ cB h v i j a b).set 4 (v 4, .inl (cI, 120000, .inl f)) = MW cI cJ cB h v i j (updA a 4 f) b := rfl
  rw [h9] at hP hD
  exact ⟨hP, hD⟩
theorem yv_5 {cI cJ cB : ClassId} {h : Nat} {v : Nat → Nat} {i : Nat → Int32} {j : Nat → Int64} {a : Nat → Nat → Int32} {b : Nat → Nat → Int64} {a2 : Nat → Nat → Int32} {f : Nat → Int32} {D : va_G} {H : Heap} {A : Nat → Prop} (e : a2 = updA a 5 f) (hP : va_P D classes ((MW cI cJ cB h v i j a b).set 5 (v 5, .inl (cI, 120000, .inl f))) H) (hD : va_D A ((MW cI cJ cB h v i j a b).set 5 (v 5, .inl (cI, 120000, .inl f)))) : va_P D classes (MW cI cJ cB h v i j a2 b) H ∧ va_D A (MW cI cJ cB h v i j a2 b) := by
  subst e
  have h9 : (MW cI cJ cB h v i j a b).set 5 (v 5, .inl (cI, 120000, .inl f)) = MW cI cJ cB h v i j (updA a 5 f) b := rfl
  rw [h9] at hP hD
  exact ⟨hP, hD⟩
theorem yv_6 {cI cJ cB : ClassId} {h : Nat} {v : Nat → Nat} {i : Nat → Int32} {j : Nat → Int64} {a : Nat → Nat → Int32} {b : Nat → Nat → Int64} {a2 : Nat → Nat → Int32} {f : Nat → Int32} {D : va_G} {H : Heap} {A : Nat → Prop} (e : a2 = updA a 6 f) (hP : va_P D classes ((MW cI cJ cB h v i j a b).set 6 (v 6, .inl (cI, 120000, .inl f))) H) (hD : va_D A ((MW cI cJ cB h v i j a b).set 6 (v 6, .inl (cI, 120000, .inl f)))) : va_P D classes (MW cI cJ cB h v i j a2 b) H ∧ va_D A (MW cI cJ cB h v i j a2 b) := by
  subst e
  have h9 : (MW cI cJ cB h v i j a b).set 6 (v 6, .inl (cI, 120000, .inl f)) = MW cI cJ cB h v i j (updA a 6 f) b := rfl
  rw [h9] at hP hD
  exact ⟨hP, hD⟩
theorem yv_7 {cI cJ cB : ClassId} {h : Nat} {v : Nat → Nat} {i : Nat → Int32} {j : Nat → Int64} {a : Nat → Nat → Int32} {b : Nat → Nat → Int64} {a2 : Nat → Nat → Int32} {f : Nat → Int32} {D : va_G} {H : Heap} {A : Nat → Prop} (e : a2 = updA a 7 f) (hP : va_P D classes ((MW cI cJ cB h v i j a b).set 7 (v 7, .inl (cI, 120000, .inl f))) H) (hD : va_D A ((MW cI cJ cB h v i j a b).set 7 (v 7, .inl (cI, 120000, .inl f)))) : va_P D classes (MW cI cJ cB h v i j a2 b) H ∧ va_D A (MW cI cJ cB h v i j a2 b) := by
  subst e
  have h9 : (MW cI cJ cB h v i j a b).set 7 (v 7, .inl (cI, 120000, .inl f)) = MW cI cJ cB h v i j (updA a 7 f) b := rfl
  rw [h9] at hP hD
  exact ⟨hP, hD⟩
theorem yv_8 {cI cJ cB : ClassId} {h : Nat} {v : Nat → Nat} {i : Nat → Int32} {j : Nat → Int64} {a : Nat → Nat → Int32} {b : Nat → Nat → Int64} {a2 : Nat → Nat → Int32} {f : Nat → Int32} {D : va_G} {H : Heap} {A : Nat → Prop} (e : a2 = updA a 8 f) (hP : va_P D classes ((MW cI cJ cB h v i j a b).set 8 (v 8, .inl (cI, 120000, .inl f))) H) (hD : va_D A ((MW cI cJ cB h v i j a b).set 8 (v 8, .inl (cI, 120000, .inl f)))) : va_P D classes (MW cI cJ cB h v i j a2 b) H ∧ va_D A (MW cI cJ cB h v i j a2 b) := by
  subst e
  have h9 : (MW cI cJ cB h v i j a b).set 8 (v 8, .inl (cI, 120000, .inl f)) = MW cI cJ cB h v i j (updA a 8 f) b := rfl
  rw [h9] at hP hD
  exact ⟨hP, hD⟩
theorem yv_9 {cI cJ cB : ClassId} {h : Nat} {v : Nat → Nat} {i : Nat → Int32} {j : Nat → Int64} {a : Nat → Nat → Int32} {b : Nat → Nat → Int64} {b2 : Nat → Nat → Int64} {f : Nat → Int64} {D : va_G} {H : Heap} {A : Nat → Prop} (e : b2 = updB b 9 f) (hP : va_P D classes ((MW cI cJ cB h v i j a b).set 9 (v 9, .inl (cJ, 120000, .inr (.inl f)))) H) (hD : va_D A ((MW cI cJ cB h v i j a b).set 9 (v 9, .inl (cJ, 120000, .inr (.inl f))))) : va_P D classes (MW cI cJ cB h v i j a b2) H ∧ va_D A (MW cI cJ cB h v i j a b2) := by
  subst e
  have h9 : (MW cI cJ cB h v i j a b).set 9 (v 9, .inl (cJ, 120000, .inr (.inl f))) = MW cI cJ cB h v i j a (updB b 9 f) := rfl
  rw [h9] at hP hD
  exact ⟨hP, hD⟩
theorem yv_10 {cI cJ cB : ClassId} {h : Nat} {v : Nat → Nat} {i : Nat → Int32} {j : Nat → Int64} {a : Nat → Nat → Int32} {b : Nat → Nat → Int64} {b2 : Nat → Nat → Int64} {f : Nat → Int64} {D : va_G} {H : Heap} {A : Nat → Prop} (e : b2 = updB b 10 f) (hP : va_P D classes ((MW cI cJ cB h v i j a b).set 10 (v 10, .inl (cJ, 90000, .inr (.inl f)))) H) (hD : va_D A ((MW cI cJ cB h v i j a b).set 10 (v 10, .inl (cJ, 90000, .inr (.inl f))))) : va_P D classes (MW cI cJ cB h v i j a b2) H ∧ va_D A (MW cI cJ cB h v i j a b2) := by
  subst e
  have h9 : (MW cI cJ cB h v i j a b).set 10 (v 10, .inl (cJ, 90000, .inr (.inl f))) = MW cI cJ cB h v i j a (updB b 10 f) := rfl
  rw [h9] at hP hD
  exact ⟨hP, hD⟩
theorem yv_11 {cI cJ cB : ClassId} {h : Nat} {v : Nat → Nat} {i : Nat → Int32} {j : Nat → Int64} {a : Nat → Nat → Int32} {b : Nat → Nat → Int64} {b2 : Nat → Nat → Int64} {f : Nat → Int64} {D : va_G} {H : Heap} {A : Nat → Prop} (e : b2 = updB b 11 f) (hP : va_P D classes ((MW cI cJ cB h v i j a b).set 11 (v 11, .inl (cJ, 90000, .inr (.inl f)))) H) (hD : va_D A ((MW cI cJ cB h v i j a b).set 11 (v 11, .inl (cJ, 90000, .inr (.inl f))))) : va_P D classes (MW cI cJ cB h v i j a b2) H ∧ va_D A (MW cI cJ cB h v i j a b2) := by
  subst e
  have h9 : (MW cI cJ cB h v i j a b).set 11 (v 11, .inl (cJ, 90000, .inr (.inl f))) = MW cI cJ cB h v i j a (updB b 11 f) := rfl
  rw [h9] at hP hD
  exact ⟨hP, hD⟩
theorem yv_12 {cI cJ cB : ClassId} {h : Nat} {v : Nat → Nat} {i : Nat → Int32} {j : Nat → Int64} {a : Nat → Nat → Int32} {b : Nat → Nat → Int64} {a2 : Nat → Nat → Int32} {f : Nat → Int32} {D : va_G} {H : Heap} {A : Nat → Prop} (e : a2 = updA a 12 f) (hP : va_P D classes ((MW cI cJ cB h v i j a b).set 12 (v 12, .inl (cI, 90000, .inl f))) H) (hD : va_D A ((MW cI cJ cB h v i j a b).set 12 (v 12, .inl (cI, 90000, .inl f)))) : va_P D classes (MW cI cJ cB h v i j a2 b) H ∧ va_D A (MW cI cJ cB h v i j a2 b) := by
  subst e
  have h9 : (MW cI cJ cB h v i j a b).set 12 (v 12, .inl (cI, 90000, .inl f)) = MW cI cJ cB h v i j (updA a 12 f) b := rfl
  rw [h9] at hP hD
  exact ⟨hP, hD⟩
theorem yv_13 {cI cJ cB : ClassId} {h : Nat} {v : Nat → Nat} {i : Nat → Int32} {j : Nat → Int64} {a : Nat → Nat → Int32} {b : Nat → Nat → Int64} {a2 : Nat → Nat → Int32} {f : Nat → Int32} {D : va_G} {H : Heap} {A : Nat → Prop} (e : a2 = updA a 13 f) (hP : va_P D classes ((MW cI cJ cB h v i j a b).set 13 (v 13, .inl (cI, 90000, .inl f))) H) (hD : va_D A ((MW cI cJ cB h v i j a b).set 13 (v 13, .inl (cI, 90000, .inl f)))) : va_P D classes (MW cI cJ cB h v i j a2 b) H ∧ va_D A (MW cI cJ cB h v i j a2 b) := by
  subst e
  have h9 : (MW cI cJ cB h v i j a b).set 13 (v 13, .inl (cI, 90000, .inl f)) = MW cI cJ cB h v i j (updA a 13 f) b := rfl
  rw [h9] at hP hD
  exact ⟨hP, hD⟩
theorem yv_14 {cI cJ cB : ClassId} {h : Nat} {v : Nat → Nat} {i : Nat → Int32} {j : Nat → Int64} {a : Nat → Nat → Int32} {b : Nat → Nat → Int64} {a2 : Nat → Nat → Int32} {f : Nat → Int32} {D : va_G} {H : Heap} {A : Nat → Prop} (e : a2 = updA a 14 f) (hP : va_P D classes ((MW cI cJ cB h v i j a b).set 14 (v 14, .inl (cI, 90000, .inl f))) H) (hD : va_D A ((MW cI cJ cB h v i j a b).set 14 (v 14, .inl (cI, 90000, .inl f)))) : va_P D classes (MW cI cJ cB h v i j a2 b) H ∧ va_D A (MW cI cJ cB h v i j a2 b) := by
  subst e
  have h9 : (MW cI cJ cB h v i j a b).set 14 (v 14, .inl (cI, 90000, .inl f)) = MW cI cJ cB h v i j (updA a 14 f) b := rfl
  rw [h9] at hP hD
  exact ⟨hP, hD⟩
theorem yv_15 {cI cJ cB : ClassId} {h : Nat} {v : Nat → Nat} {i : Nat → Int32} {j : Nat → Int64} {a : Nat → Nat → Int32} {b : Nat → Nat → Int64} {a2 : Nat → Nat → Int32} {f : Nat → Int32} {D : va_G} {H : Heap} {A : Nat → Prop} (e : a2 = updA a 15 f) (hP : va_P D classes ((MW cI cJ cB h v i j a b).set 15 (v 15, .inl (cI, 90000, .inl f))) H) (hD : va_D A ((MW cI cJ cB h v i j a b).set 15 (v 15, .inl (cI, 90000, .inl f)))) : va_P D classes (MW cI cJ cB h v i j a2 b) H ∧ va_D A (MW cI cJ cB h v i j a2 b) := by
  subst e
  have h9 : (MW cI cJ cB h v i j a b).set 15 (v 15, .inl (cI, 90000, .inl f)) = MW cI cJ cB h v i j (updA a 15 f) b := rfl
  rw [h9] at hP hD
  exact ⟨hP, hD⟩
theorem yv_16 {cI cJ cB : ClassId} {h : Nat} {v : Nat → Nat} {i : Nat → Int32} {j : Nat → Int64} {a : Nat → Nat → Int32} {b : Nat → Nat → Int64} {a2 : Nat → Nat → Int32} {f : Nat → Int32} {D : va_G} {H : Heap} {A : Nat → Prop} (e : a2 = updA a 16 f) (hP : va_P D classes ((MW cI cJ cB h v i j a b).set 16 (v 16, .inl (cI, 90000, .inl f))) H) (hD : va_D A ((MW cI cJ cB h v i j a b).set 16 (v 16, .inl (cI, 90000, .inl f)))) : va_P D classes (MW cI cJ cB h v i j a2 b) H ∧ va_D A (MW cI cJ cB h v i j a2 b) := by
  subst e
  have h9 : (MW cI cJ cB h v i j a b).set 16 (v 16, .inl (cI, 90000, .inl f)) = MW cI cJ cB h v i j (updA a 16 f) b := rfl
  rw [h9] at hP hD
  exact ⟨hP, hD⟩
theorem yv_17 {cI cJ cB : ClassId} {h : Nat} {v : Nat → Nat} {i : Nat → Int32} {j : Nat → Int64} {a : Nat → Nat → Int32} {b : Nat → Nat → Int64} {a2 : Nat → Nat → Int32} {f : Nat → Int32} {D : va_G} {H : Heap} {A : Nat → Prop} (e : a2 = updA a 17 f) (hP : va_P D classes ((MW cI cJ cB h v i j a b).set 17 (v 17, .inl (cI, 90000, .inl f))) H) (hD : va_D A ((MW cI cJ cB h v i j a b).set 17 (v 17, .inl (cI, 90000, .inl f)))) : va_P D classes (MW cI cJ cB h v i j a2 b) H ∧ va_D A (MW cI cJ cB h v i j a2 b) := by
  subst e
  have h9 : (MW cI cJ cB h v i j a b).set 17 (v 17, .inl (cI, 90000, .inl f)) = MW cI cJ cB h v i j (updA a 17 f) b := rfl
  rw [h9] at hP hD
  exact ⟨hP, hD⟩
theorem yv_22 {cI cJ cB : ClassId} {h : Nat} {v : Nat → Nat} {i : Nat → Int32} {j : Nat → Int64} {a : Nat → Nat → Int32} {b : Nat → Nat → Int64} {b2 : Nat → Nat → Int64} {f : Nat → Int64} {D : va_G} {H : Heap} {A : Nat → Prop} (e : b2 = updB b 22 f) (hP : va_P D classes ((MW cI cJ cB h v i j a b).set 18 (v 22, .inl (cJ, 1300, .inr (.inl f)))) H) (hD : va_D A ((MW cI cJ cB h v i j a b).set 18 (v 22, .inl (cJ, 1300, .inr (.inl f))))) : va_P D classes (MW cI cJ cB h v i j a b2) H ∧ va_D A (MW cI cJ cB h v i j a b2) := by
  subst e
  have h9 : (MW cI cJ cB h v i j a b).set 18 (v 22, .inl (cJ, 1300, .inr (.inl f))) = MW cI cJ cB h v i j a (updB b 22 f) := rfl
  rw [h9] at hP hD
  exact ⟨hP, hD⟩
theorem yv_23 {cI cJ cB : ClassId} {h : Nat} {v : Nat → Nat} {i : Nat → Int32} {j : Nat → Int64} {a : Nat → Nat → Int32} {b : Nat → Nat → Int64} {b2 : Nat → Nat → Int64} {f : Nat → Int64} {D : va_G} {H : Heap} {A : Nat → Prop} (e : b2 = updB b 23 f) (hP : va_P D classes ((MW cI cJ cB h v i j a b).set 19 (v 23, .inl (cJ, 1300, .inr (.inl f)))) H) (hD : va_D A ((MW cI cJ cB h v i j a b).set 19 (v 23, .inl (cJ, 1300, .inr (.inl f))))) : va_P D classes (MW cI cJ cB h v i j a b2) H ∧ va_D A (MW cI cJ cB h v i j a b2) := by
  subst e
  have h9 : (MW cI cJ cB h v i j a b).set 19 (v 23, .inl (cJ, 1300, .inr (.inl f))) = MW cI cJ cB h v i j a (updB b 23 f) := rfl
  rw [h9] at hP hD
  exact ⟨hP, hD⟩
theorem yv_24 {cI cJ cB : ClassId} {h : Nat} {v : Nat → Nat} {i : Nat → Int32} {j : Nat → Int64} {a : Nat → Nat → Int32} {b : Nat → Nat → Int64} {a2 : Nat → Nat → Int32} {f : Nat → Int32} {D : va_G} {H : Heap} {A : Nat → Prop} (e : a2 = updA a 24 f) (hP : va_P D classes ((MW cI cJ cB h v i j a b).set 20 (v 24, .inl (cB, 40000, .inl f))) H) (hD : va_D A ((MW cI cJ cB h v i j a b).set 20 (v 24, .inl (cB, 40000, .inl f)))) : va_P D classes (MW cI cJ cB h v i j a2 b) H ∧ va_D A (MW cI cJ cB h v i j a2 b) := by
  subst e
  have h9 : (MW cI cJ cB h v i j a b).set 20 (v 24, .inl (cB, 40000, .inl f)) = MW cI cJ cB h v i j (updA a 24 f) b := rfl
  rw [h9] at hP hD
  exact ⟨hP, hD⟩
theorem yv_26 {cI cJ cB : ClassId} {h : Nat} {v : Nat → Nat} {i : Nat → Int32} {j : Nat → Int64} {a : Nat → Nat → Int32} {b : Nat → Nat → Int64} {a2 : Nat → Nat → Int32} {f : Nat → Int32} {D : va_G} {H : Heap} {A : Nat → Prop} (e : a2 = updA a 26 f) (hP : va_P D classes ((MW cI cJ cB h v i j a b).set 21 (v 26, .inl (cI, 1300, .inl f))) H) (hD : va_D A ((MW cI cJ cB h v i j a b).set 21 (v 26, .inl (cI, 1300, .inl f)))) : va_P D classes (MW cI cJ cB h v i j a2 b) H ∧ va_D A (MW cI cJ cB h v i j a2 b) := by
  subst e
  have h9 : (MW cI cJ cB h v i j a b).set 21 (v 26, .inl (cI, 1300, .inl f)) = MW cI cJ cB h v i j (updA a 26 f) b := rfl
  rw [h9] at hP hD
  exact ⟨hP, hD⟩
theorem yv_27 {cI cJ cB : ClassId} {h : Nat} {v : Nat → Nat} {i : Nat → Int32} {j : Nat → Int64} {a : Nat → Nat → Int32} {b : Nat → Nat → Int64} {a2 : Nat → Nat → Int32} {f : Nat → Int32} {D : va_G} {H : Heap} {A : Nat → Prop} (e : a2 = updA a 27 f) (hP : va_P D classes ((MW cI cJ cB h v i j a b).set 22 (v 27, .inl (cI, 1300, .inl f))) H) (hD : va_D A ((MW cI cJ cB h v i j a b).set 22 (v 27, .inl (cI, 1300, .inl f)))) : va_P D classes (MW cI cJ cB h v i j a2 b) H ∧ va_D A (MW cI cJ cB h v i j a2 b) := by
  subst e
  have h9 : (MW cI cJ cB h v i j a b).set 22 (v 27, .inl (cI, 1300, .inl f)) = MW cI cJ cB h v i j (updA a 27 f) b := rfl
  rw [h9] at hP hD
  exact ⟨hP, hD⟩
theorem yv_29 {cI cJ cB : ClassId} {h : Nat} {v : Nat → Nat} {i : Nat → Int32} {j : Nat → Int64} {a : Nat → Nat → Int32} {b : Nat → Nat → Int64} {a2 : Nat → Nat → Int32} {f : Nat → Int32} {D : va_G} {H : Heap} {A : Nat → Prop} (e : a2 = updA a 29 f) (hP : va_P D classes ((MW cI cJ cB h v i j a b).set 23 (v 29, .inl (cI, 40, .inl f))) H) (hD : va_D A ((MW cI cJ cB h v i j a b).set 23 (v 29, .inl (cI, 40, .inl f)))) : va_P D classes (MW cI cJ cB h v i j a2 b) H ∧ va_D A (MW cI cJ cB h v i j a2 b) := by
  subst e
  have h9 : (MW cI cJ cB h v i j a b).set 23 (v 29, .inl (cI, 40, .inl f)) = MW cI cJ cB h v i j (updA a 29 f) b := rfl
  rw [h9] at hP hD
  exact ⟨hP, hD⟩
theorem yv_30 {cI cJ cB : ClassId} {h : Nat} {v : Nat → Nat} {i : Nat → Int32} {j : Nat → Int64} {a : Nat → Nat → Int32} {b : Nat → Nat → Int64} {a2 : Nat → Nat → Int32} {f : Nat → Int32} {D : va_G} {H : Heap} {A : Nat → Prop} (e : a2 = updA a 30 f) (hP : va_P D classes ((MW cI cJ cB h v i j a b).set 24 (v 30, .inl (cI, 40, .inl f))) H) (hD : va_D A ((MW cI cJ cB h v i j a b).set 24 (v 30, .inl (cI, 40, .inl f)))) : va_P D classes (MW cI cJ cB h v i j a2 b) H ∧ va_D A (MW cI cJ cB h v i j a2 b) := by
  subst e
  have h9 : (MW cI cJ cB h v i j a b).set 24 (v 30, .inl (cI, 40, .inl f)) = MW cI cJ cB h v i j (updA a 30 f) b := rfl
  rw [h9] at hP hD
  exact ⟨hP, hD⟩
theorem yv_31 {cI cJ cB : ClassId} {h : Nat} {v : Nat → Nat} {i : Nat → Int32} {j : Nat → Int64} {a : Nat → Nat → Int32} {b : Nat → Nat → Int64} {a2 : Nat → Nat → Int32} {f : Nat → Int32} {D : va_G} {H : Heap} {A : Nat → Prop} (e : a2 = updA a 31 f) (hP : va_P D classes ((MW cI cJ cB h v i j a b).set 25 (v 31, .inl (cI, 200, .inl f))) H) (hD : va_D A ((MW cI cJ cB h v i j a b).set 25 (v 31, .inl (cI, 200, .inl f)))) : va_P D classes (MW cI cJ cB h v i j a2 b) H ∧ va_D A (MW cI cJ cB h v i j a2 b) := by
  subst e
  have h9 : (MW cI cJ cB h v i j a b).set 25 (v 31, .inl (cI, 200, .inl f)) = MW cI cJ cB h v i j (updA a 31 f) b := rfl
  rw [h9] at hP hD
  exact ⟨hP, hD⟩
theorem yv_32 {cI cJ cB : ClassId} {h : Nat} {v : Nat → Nat} {i : Nat → Int32} {j : Nat → Int64} {a : Nat → Nat → Int32} {b : Nat → Nat → Int64} {b2 : Nat → Nat → Int64} {f : Nat → Int64} {D : va_G} {H : Heap} {A : Nat → Prop} (e : b2 = updB b 32 f) (hP : va_P D classes ((MW cI cJ cB h v i j a b).set 26 (v 32, .inl (cJ, 40, .inr (.inl f)))) H) (hD : va_D A ((MW cI cJ cB h v i j a b).set 26 (v 32, .inl (cJ, 40, .inr (.inl f))))) : va_P D classes (MW cI cJ cB h v i j a b2) H ∧ va_D A (MW cI cJ cB h v i j a b2) := by
  subst e
  have h9 : (MW cI cJ cB h v i j a b).set 26 (v 32, .inl (cJ, 40, .inr (.inl f))) = MW cI cJ cB h v i j a (updB b 32 f) := rfl
  rw [h9] at hP hD
  exact ⟨hP, hD⟩
theorem yv_34 {cI cJ cB : ClassId} {h : Nat} {v : Nat → Nat} {i : Nat → Int32} {j : Nat → Int64} {a : Nat → Nat → Int32} {b : Nat → Nat → Int64} {a2 : Nat → Nat → Int32} {f : Nat → Int32} {D : va_G} {H : Heap} {A : Nat → Prop} (e : a2 = updA a 34 f) (hP : va_P D classes ((MW cI cJ cB h v i j a b).set 27 (v 34, .inl (cI, 64, .inl f))) H) (hD : va_D A ((MW cI cJ cB h v i j a b).set 27 (v 34, .inl (cI, 64, .inl f)))) : va_P D classes (MW cI cJ cB h v i j a2 b) H ∧ va_D A (MW cI cJ cB h v i j a2 b) := by
  subst e
  have h9 : (MW cI cJ cB h v i j a b).set 27 (v 34, .inl (cI, 64, .inl f)) = MW cI cJ cB h v i j (updA a 34 f) b := rfl
  rw [h9] at hP hD
  exact ⟨hP, hD⟩
theorem yv_35 {cI cJ cB : ClassId} {h : Nat} {v : Nat → Nat} {i : Nat → Int32} {j : Nat → Int64} {a : Nat → Nat → Int32} {b : Nat → Nat → Int64} {b2 : Nat → Nat → Int64} {f : Nat → Int64} {D : va_G} {H : Heap} {A : Nat → Prop} (e : b2 = updB b 35 f) (hP : va_P D classes ((MW cI cJ cB h v i j a b).set 28 (v 35, .inl (cJ, 64, .inr (.inl f)))) H) (hD : va_D A ((MW cI cJ cB h v i j a b).set 28 (v 35, .inl (cJ, 64, .inr (.inl f))))) : va_P D classes (MW cI cJ cB h v i j a b2) H ∧ va_D A (MW cI cJ cB h v i j a b2) := by
  subst e
  have h9 : (MW cI cJ cB h v i j a b).set 28 (v 35, .inl (cJ, 64, .inr (.inl f))) = MW cI cJ cB h v i j a (updB b 35 f) := rfl
  rw [h9] at hP hD
  exact ⟨hP, hD⟩
theorem yv_37 {cI cJ cB : ClassId} {h : Nat} {v : Nat → Nat} {i : Nat → Int32} {j : Nat → Int64} {a : Nat → Nat → Int32} {b : Nat → Nat → Int64} {a2 : Nat → Nat → Int32} {f : Nat → Int32} {D : va_G} {H : Heap} {A : Nat → Prop} (e : a2 = updA a 37 f) (hP : va_P D classes ((MW cI cJ cB h v i j a b).set 29 (v 37, .inl (cI, 8, .inl f))) H) (hD : va_D A ((MW cI cJ cB h v i j a b).set 29 (v 37, .inl (cI, 8, .inl f)))) : va_P D classes (MW cI cJ cB h v i j a2 b) H ∧ va_D A (MW cI cJ cB h v i j a2 b) := by
  subst e
  have h9 : (MW cI cJ cB h v i j a b).set 29 (v 37, .inl (cI, 8, .inl f)) = MW cI cJ cB h v i j (updA a 37 f) b := rfl
  rw [h9] at hP hD
  exact ⟨hP, hD⟩
theorem yv_38 {cI cJ cB : ClassId} {h : Nat} {v : Nat → Nat} {i : Nat → Int32} {j : Nat → Int64} {a : Nat → Nat → Int32} {b : Nat → Nat → Int64} {a2 : Nat → Nat → Int32} {f : Nat → Int32} {D : va_G} {H : Heap} {A : Nat → Prop} (e : a2 = updA a 38 f) (hP : va_P D classes ((MW cI cJ cB h v i j a b).set 30 (v 38, .inl (cI, 8, .inl f))) H) (hD : va_D A ((MW cI cJ cB h v i j a b).set 30 (v 38, .inl (cI, 8, .inl f)))) : va_P D classes (MW cI cJ cB h v i j a2 b) H ∧ va_D A (MW cI cJ cB h v i j a2 b) := by
  subst e
  have h9 : (MW cI cJ cB h v i j a b).set 30 (v 38, .inl (cI, 8, .inl f)) = MW cI cJ cB h v i j (updA a 38 f) b := rfl
  rw [h9] at hP hD
  exact ⟨hP, hD⟩
theorem yv_39 {cI cJ cB : ClassId} {h : Nat} {v : Nat → Nat} {i : Nat → Int32} {j : Nat → Int64} {a : Nat → Nat → Int32} {b : Nat → Nat → Int64} {a2 : Nat → Nat → Int32} {f : Nat → Int32} {D : va_G} {H : Heap} {A : Nat → Prop} (e : a2 = updA a 39 f) (hP : va_P D classes ((MW cI cJ cB h v i j a b).set 31 (v 39, .inl (cI, 8, .inl f))) H) (hD : va_D A ((MW cI cJ cB h v i j a b).set 31 (v 39, .inl (cI, 8, .inl f)))) : va_P D classes (MW cI cJ cB h v i j a2 b) H ∧ va_D A (MW cI cJ cB h v i j a2 b) := by
  subst e
  have h9 : (MW cI cJ cB h v i j a b).set 31 (v 39, .inl (cI, 8, .inl f)) = MW cI cJ cB h v i j (updA a 39 f) b := rfl
  rw [h9] at hP hD
  exact ⟨hP, hD⟩
theorem yv_40 {cI cJ cB : ClassId} {h : Nat} {v : Nat → Nat} {i : Nat → Int32} {j : Nat → Int64} {a : Nat → Nat → Int32} {b : Nat → Nat → Int64} {a2 : Nat → Nat → Int32} {f : Nat → Int32} {D : va_G} {H : Heap} {A : Nat → Prop} (e : a2 = updA a 40 f) (hP : va_P D classes ((MW cI cJ cB h v i j a b).set 32 (v 40, .inl (cI, 8, .inl f))) H) (hD : va_D A ((MW cI cJ cB h v i j a b).set 32 (v 40, .inl (cI, 8, .inl f)))) : va_P D classes (MW cI cJ cB h v i j a2 b) H ∧ va_D A (MW cI cJ cB h v i j a2 b) := by
  subst e
  have h9 : (MW cI cJ cB h v i j a b).set 32 (v 40, .inl (cI, 8, .inl f)) = MW cI cJ cB h v i j (updA a 40 f) b := rfl
  rw [h9] at hP hD
  exact ⟨hP, hD⟩
theorem yv_41 {cI cJ cB : ClassId} {h : Nat} {v : Nat → Nat} {i : Nat → Int32} {j : Nat → Int64} {a : Nat → Nat → Int32} {b : Nat → Nat → Int64} {a2 : Nat → Nat → Int32} {f : Nat → Int32} {D : va_G} {H : Heap} {A : Nat → Prop} (e : a2 = updA a 41 f) (hP : va_P D classes ((MW cI cJ cB h v i j a b).set 33 (v 41, .inl (cI, 8, .inl f))) H) (hD : va_D A ((MW cI cJ cB h v i j a b).set 33 (v 41, .inl (cI, 8, .inl f)))) : va_P D classes (MW cI cJ cB h v i j a2 b) H ∧ va_D A (MW cI cJ cB h v i j a2 b) := by
  subst e
  have h9 : (MW cI cJ cB h v i j a b).set 33 (v 41, .inl (cI, 8, .inl f)) = MW cI cJ cB h v i j (updA a 41 f) b := rfl
  rw [h9] at hP hD
  exact ⟨hP, hD⟩
theorem yv_42 {cI cJ cB : ClassId} {h : Nat} {v : Nat → Nat} {i : Nat → Int32} {j : Nat → Int64} {a : Nat → Nat → Int32} {b : Nat → Nat → Int64} {a2 : Nat → Nat → Int32} {f : Nat → Int32} {D : va_G} {H : Heap} {A : Nat → Prop} (e : a2 = updA a 42 f) (hP : va_P D classes ((MW cI cJ cB h v i j a b).set 34 (v 42, .inl (cI, 8, .inl f))) H) (hD : va_D A ((MW cI cJ cB h v i j a b).set 34 (v 42, .inl (cI, 8, .inl f)))) : va_P D classes (MW cI cJ cB h v i j a2 b) H ∧ va_D A (MW cI cJ cB h v i j a2 b) := by
  subst e
  have h9 : (MW cI cJ cB h v i j a b).set 34 (v 42, .inl (cI, 8, .inl f)) = MW cI cJ cB h v i j (updA a 42 f) b := rfl
  rw [h9] at hP hD
  exact ⟨hP, hD⟩
theorem yv_43 {cI cJ cB : ClassId} {h : Nat} {v : Nat → Nat} {i : Nat → Int32} {j : Nat → Int64} {a : Nat → Nat → Int32} {b : Nat → Nat → Int64} {a2 : Nat → Nat → Int32} {f : Nat → Int32} {D : va_G} {H : Heap} {A : Nat → Prop} (e : a2 = updA a 43 f) (hP : va_P D classes ((MW cI cJ cB h v i j a b).set 35 (v 43, .inl (cI, 8, .inl f))) H) (hD : va_D A ((MW cI cJ cB h v i j a b).set 35 (v 43, .inl (cI, 8, .inl f)))) : va_P D classes (MW cI cJ cB h v i j a2 b) H ∧ va_D A (MW cI cJ cB h v i j a2 b) := by
  subst e
  have h9 : (MW cI cJ cB h v i j a b).set 35 (v 43, .inl (cI, 8, .inl f)) = MW cI cJ cB h v i j (updA a 43 f) b := rfl
  rw [h9] at hP hD
  exact ⟨hP, hD⟩
theorem yv_44 {cI cJ cB : ClassId} {h : Nat} {v : Nat → Nat} {i : Nat → Int32} {j : Nat → Int64} {a : Nat → Nat → Int32} {b : Nat → Nat → Int64} {a2 : Nat → Nat → Int32} {f : Nat → Int32} {D : va_G} {H : Heap} {A : Nat → Prop} (e : a2 = updA a 44 f) (hP : va_P D classes ((MW cI cJ cB h v i j a b).set 36 (v 44, .inl (cI, 4096, .inl f))) H) (hD : va_D A ((MW cI cJ cB h v i j a b).set 36 (v 44, .inl (cI, 4096, .inl f)))) : va_P D classes (MW cI cJ cB h v i j a2 b) H ∧ va_D A (MW cI cJ cB h v i j a2 b) := by
  subst e
  have h9 : (MW cI cJ cB h v i j a b).set 36 (v 44, .inl (cI, 4096, .inl f)) = MW cI cJ cB h v i j (updA a 44 f) b := rfl
  rw [h9] at hP hD
  exact ⟨hP, hD⟩
theorem yv_45 {cI cJ cB : ClassId} {h : Nat} {v : Nat → Nat} {i : Nat → Int32} {j : Nat → Int64} {a : Nat → Nat → Int32} {b : Nat → Nat → Int64} {a2 : Nat → Nat → Int32} {f : Nat → Int32} {D : va_G} {H : Heap} {A : Nat → Prop} (e : a2 = updA a 45 f) (hP : va_P D classes ((MW cI cJ cB h v i j a b).set 37 (v 45, .inl (cB, 2000, .inl f))) H) (hD : va_D A ((MW cI cJ cB h v i j a b).set 37 (v 45, .inl (cB, 2000, .inl f)))) : va_P D classes (MW cI cJ cB h v i j a2 b) H ∧ va_D A (MW cI cJ cB h v i j a2 b) := by
  subst e
  have h9 : (MW cI cJ cB h v i j a b).set 37 (v 45, .inl (cB, 2000, .inl f)) = MW cI cJ cB h v i j (updA a 45 f) b := rfl
  rw [h9] at hP hD
  exact ⟨hP, hD⟩
theorem yv_49 {cI cJ cB : ClassId} {h : Nat} {v : Nat → Nat} {i : Nat → Int32} {j : Nat → Int64} {a : Nat → Nat → Int32} {b : Nat → Nat → Int64} {a2 : Nat → Nat → Int32} {f : Nat → Int32} {D : va_G} {H : Heap} {A : Nat → Prop} (e : a2 = updA a 49 f) (hP : va_P D classes ((MW cI cJ cB h v i j a b).set 38 (v 49, .inl (cI, 40, .inl f))) H) (hD : va_D A ((MW cI cJ cB h v i j a b).set 38 (v 49, .inl (cI, 40, .inl f)))) : va_P D classes (MW cI cJ cB h v i j a2 b) H ∧ va_D A (MW cI cJ cB h v i j a2 b) := by
  subst e
  have h9 : (MW cI cJ cB h v i j a b).set 38 (v 49, .inl (cI, 40, .inl f)) = MW cI cJ cB h v i j (updA a 49 f) b := rfl
  rw [h9] at hP hD
  exact ⟨hP, hD⟩
theorem yv_50 {cI cJ cB : ClassId} {h : Nat} {v : Nat → Nat} {i : Nat → Int32} {j : Nat → Int64} {a : Nat → Nat → Int32} {b : Nat → Nat → Int64} {a2 : Nat → Nat → Int32} {f : Nat → Int32} {D : va_G} {H : Heap} {A : Nat → Prop} (e : a2 = updA a 50 f) (hP : va_P D classes ((MW cI cJ cB h v i j a b).set 39 (v 50, .inl (cI, 40, .inl f))) H) (hD : va_D A ((MW cI cJ cB h v i j a b).set 39 (v 50, .inl (cI, 40, .inl f)))) : va_P D classes (MW cI cJ cB h v i j a2 b) H ∧ va_D A (MW cI cJ cB h v i j a2 b) := by
  subst e
  have h9 : (MW cI cJ cB h v i j a b).set 39 (v 50, .inl (cI, 40, .inl f)) = MW cI cJ cB h v i j (updA a 50 f) b := rfl
  rw [h9] at hP hD
  exact ⟨hP, hD⟩
theorem yv_51 {cI cJ cB : ClassId} {h : Nat} {v : Nat → Nat} {i : Nat → Int32} {j : Nat → Int64} {a : Nat → Nat → Int32} {b : Nat → Nat → Int64} {a2 : Nat → Nat → Int32} {f : Nat → Int32} {D : va_G} {H : Heap} {A : Nat → Prop} (e : a2 = updA a 51 f) (hP : va_P D classes ((MW cI cJ cB h v i j a b).set 40 (v 51, .inl (cI, 200, .inl f))) H) (hD : va_D A ((MW cI cJ cB h v i j a b).set 40 (v 51, .inl (cI, 200, .inl f)))) : va_P D classes (MW cI cJ cB h v i j a2 b) H ∧ va_D A (MW cI cJ cB h v i j a2 b) := by
  subst e
  have h9 : (MW cI cJ cB h v i j a b).set 40 (v 51, .inl (cI, 200, .inl f)) = MW cI cJ cB h v i j (updA a 51 f) b := rfl
  rw [h9] at hP hD
  exact ⟨hP, hD⟩
theorem yv_52 {cI cJ cB : ClassId} {h : Nat} {v : Nat → Nat} {i : Nat → Int32} {j : Nat → Int64} {a : Nat → Nat → Int32} {b : Nat → Nat → Int64} {a2 : Nat → Nat → Int32} {f : Nat → Int32} {D : va_G} {H : Heap} {A : Nat → Prop} (e : a2 = updA a 52 f) (hP : va_P D classes ((MW cI cJ cB h v i j a b).set 41 (v 52, .inl (cI, 64, .inl f))) H) (hD : va_D A ((MW cI cJ cB h v i j a b).set 41 (v 52, .inl (cI, 64, .inl f)))) : va_P D classes (MW cI cJ cB h v i j a2 b) H ∧ va_D A (MW cI cJ cB h v i j a2 b) := by
  subst e
  have h9 : (MW cI cJ cB h v i j a b).set 41 (v 52, .inl (cI, 64, .inl f)) = MW cI cJ cB h v i j (updA a 52 f) b := rfl
  rw [h9] at hP hD
  exact ⟨hP, hD⟩
theorem yv_53 {cI cJ cB : ClassId} {h : Nat} {v : Nat → Nat} {i : Nat → Int32} {j : Nat → Int64} {a : Nat → Nat → Int32} {b : Nat → Nat → Int64} {a2 : Nat → Nat → Int32} {f : Nat → Int32} {D : va_G} {H : Heap} {A : Nat → Prop} (e : a2 = updA a 53 f) (hP : va_P D classes ((MW cI cJ cB h v i j a b).set 42 (v 53, .inl (cI, 56, .inl f))) H) (hD : va_D A ((MW cI cJ cB h v i j a b).set 42 (v 53, .inl (cI, 56, .inl f)))) : va_P D classes (MW cI cJ cB h v i j a2 b) H ∧ va_D A (MW cI cJ cB h v i j a2 b) := by
  subst e
  have h9 : (MW cI cJ cB h v i j a b).set 42 (v 53, .inl (cI, 56, .inl f)) = MW cI cJ cB h v i j (updA a 53 f) b := rfl
  rw [h9] at hP hD
  exact ⟨hP, hD⟩
theorem yv_54 {cI cJ cB : ClassId} {h : Nat} {v : Nat → Nat} {i : Nat → Int32} {j : Nat → Int64} {a : Nat → Nat → Int32} {b : Nat → Nat → Int64} {a2 : Nat → Nat → Int32} {f : Nat → Int32} {D : va_G} {H : Heap} {A : Nat → Prop} (e : a2 = updA a 54 f) (hP : va_P D classes ((MW cI cJ cB h v i j a b).set 43 (v 54, .inl (cI, 4096, .inl f))) H) (hD : va_D A ((MW cI cJ cB h v i j a b).set 43 (v 54, .inl (cI, 4096, .inl f)))) : va_P D classes (MW cI cJ cB h v i j a2 b) H ∧ va_D A (MW cI cJ cB h v i j a2 b) := by
  subst e
  have h9 : (MW cI cJ cB h v i j a b).set 43 (v 54, .inl (cI, 4096, .inl f)) = MW cI cJ cB h v i j (updA a 54 f) b := rfl
  rw [h9] at hP hD
  exact ⟨hP, hD⟩
theorem yv_55 {cI cJ cB : ClassId} {h : Nat} {v : Nat → Nat} {i : Nat → Int32} {j : Nat → Int64} {a : Nat → Nat → Int32} {b : Nat → Nat → Int64} {b2 : Nat → Nat → Int64} {f : Nat → Int64} {D : va_G} {H : Heap} {A : Nat → Prop} (e : b2 = updB b 55 f) (hP : va_P D classes ((MW cI cJ cB h v i j a b).set 44 (v 55, .inl (cJ, 40, .inr (.inl f)))) H) (hD : va_D A ((MW cI cJ cB h v i j a b).set 44 (v 55, .inl (cJ, 40, .inr (.inl f))))) : va_P D classes (MW cI cJ cB h v i j a b2) H ∧ va_D A (MW cI cJ cB h v i j a b2) := by
  subst e
  have h9 : (MW cI cJ cB h v i j a b).set 44 (v 55, .inl (cJ, 40, .inr (.inl f))) = MW cI cJ cB h v i j a (updB b 55 f) := rfl
  rw [h9] at hP hD
  exact ⟨hP, hD⟩
theorem yv_56 {cI cJ cB : ClassId} {h : Nat} {v : Nat → Nat} {i : Nat → Int32} {j : Nat → Int64} {a : Nat → Nat → Int32} {b : Nat → Nat → Int64} {b2 : Nat → Nat → Int64} {f : Nat → Int64} {D : va_G} {H : Heap} {A : Nat → Prop} (e : b2 = updB b 56 f) (hP : va_P D classes ((MW cI cJ cB h v i j a b).set 45 (v 56, .inl (cJ, 64, .inr (.inl f)))) H) (hD : va_D A ((MW cI cJ cB h v i j a b).set 45 (v 56, .inl (cJ, 64, .inr (.inl f))))) : va_P D classes (MW cI cJ cB h v i j a b2) H ∧ va_D A (MW cI cJ cB h v i j a b2) := by
  subst e
  have h9 : (MW cI cJ cB h v i j a b).set 45 (v 56, .inl (cJ, 64, .inr (.inl f))) = MW cI cJ cB h v i j a (updB b 56 f) := rfl
  rw [h9] at hP hD
  exact ⟨hP, hD⟩
theorem yv_57 {cI cJ cB : ClassId} {h : Nat} {v : Nat → Nat} {i : Nat → Int32} {j : Nat → Int64} {a : Nat → Nat → Int32} {b : Nat → Nat → Int64} {a2 : Nat → Nat → Int32} {f : Nat → Int32} {D : va_G} {H : Heap} {A : Nat → Prop} (e : a2 = updA a 57 f) (hP : va_P D classes ((MW cI cJ cB h v i j a b).set 46 (v 57, .inl (cB, 2000, .inl f))) H) (hD : va_D A ((MW cI cJ cB h v i j a b).set 46 (v 57, .inl (cB, 2000, .inl f)))) : va_P D classes (MW cI cJ cB h v i j a2 b) H ∧ va_D A (MW cI cJ cB h v i j a2 b) := by
  subst e
  have h9 : (MW cI cJ cB h v i j a b).set 46 (v 57, .inl (cB, 2000, .inl f)) = MW cI cJ cB h v i j (updA a 57 f) b := rfl
  rw [h9] at hP hD
  exact ⟨hP, hD⟩
theorem yv_71 {cI cJ cB : ClassId} {h : Nat} {v : Nat → Nat} {i : Nat → Int32} {j : Nat → Int64} {a : Nat → Nat → Int32} {b : Nat → Nat → Int64} {a2 : Nat → Nat → Int32} {f : Nat → Int32} {D : va_G} {H : Heap} {A : Nat → Prop} (e : a2 = updA a 71 f) (hP : va_P D classes ((MW cI cJ cB h v i j a b).set 47 (v 71, .inl (cI, 90000, .inl f))) H) (hD : va_D A ((MW cI cJ cB h v i j a b).set 47 (v 71, .inl (cI, 90000, .inl f)))) : va_P D classes (MW cI cJ cB h v i j a2 b) H ∧ va_D A (MW cI cJ cB h v i j a2 b) := by
  subst e
  have h9 : (MW cI cJ cB h v i j a b).set 47 (v 71, .inl (cI, 90000, .inl f)) = MW cI cJ cB h v i j (updA a 71 f) b := rfl
  rw [h9] at hP hD
  exact ⟨hP, hD⟩
theorem yv_72 {cI cJ cB : ClassId} {h : Nat} {v : Nat → Nat} {i : Nat → Int32} {j : Nat → Int64} {a : Nat → Nat → Int32} {b : Nat → Nat → Int64} {a2 : Nat → Nat → Int32} {f : Nat → Int32} {D : va_G} {H : Heap} {A : Nat → Prop} (e : a2 = updA a 72 f) (hP : va_P D classes ((MW cI cJ cB h v i j a b).set 48 (v 72, .inl (cI, 90000, .inl f))) H) (hD : va_D A ((MW cI cJ cB h v i j a b).set 48 (v 72, .inl (cI, 90000, .inl f)))) : va_P D classes (MW cI cJ cB h v i j a2 b) H ∧ va_D A (MW cI cJ cB h v i j a2 b) := by
  subst e
  have h9 : (MW cI cJ cB h v i j a b).set 48 (v 72, .inl (cI, 90000, .inl f)) = MW cI cJ cB h v i j (updA a 72 f) b := rfl
  rw [h9] at hP hD
  exact ⟨hP, hD⟩
theorem yv_73 {cI cJ cB : ClassId} {h : Nat} {v : Nat → Nat} {i : Nat → Int32} {j : Nat → Int64} {a : Nat → Nat → Int32} {b : Nat → Nat → Int64} {a2 : Nat → Nat → Int32} {f : Nat → Int32} {D : va_G} {H : Heap} {A : Nat → Prop} (e : a2 = updA a 73 f) (hP : va_P D classes ((MW cI cJ cB h v i j a b).set 49 (v 73, .inl (cB, 4000, .inl f))) H) (hD : va_D A ((MW cI cJ cB h v i j a b).set 49 (v 73, .inl (cB, 4000, .inl f)))) : va_P D classes (MW cI cJ cB h v i j a2 b) H ∧ va_D A (MW cI cJ cB h v i j a2 b) := by
  subst e
  have h9 : (MW cI cJ cB h v i j a b).set 49 (v 73, .inl (cB, 4000, .inl f)) = MW cI cJ cB h v i j (updA a 73 f) b := rfl
  rw [h9] at hP hD
  exact ⟨hP, hD⟩
theorem yv_77 {cI cJ cB : ClassId} {h : Nat} {v : Nat → Nat} {i : Nat → Int32} {j : Nat → Int64} {a : Nat → Nat → Int32} {b : Nat → Nat → Int64} {a2 : Nat → Nat → Int32} {f : Nat → Int32} {D : va_G} {H : Heap} {A : Nat → Prop} (e : a2 = updA a 77 f) (hP : va_P D classes ((MW cI cJ cB h v i j a b).set 50 (v 77, .inl (cI, 601, .inl f))) H) (hD : va_D A ((MW cI cJ cB h v i j a b).set 50 (v 77, .inl (cI, 601, .inl f)))) : va_P D classes (MW cI cJ cB h v i j a2 b) H ∧ va_D A (MW cI cJ cB h v i j a2 b) := by
  subst e
  have h9 : (MW cI cJ cB h v i j a b).set 50 (v 77, .inl (cI, 601, .inl f)) = MW cI cJ cB h v i j (updA a 77 f) b := rfl
  rw [h9] at hP hD
  exact ⟨hP, hD⟩
theorem yv_78 {cI cJ cB : ClassId} {h : Nat} {v : Nat → Nat} {i : Nat → Int32} {j : Nat → Int64} {a : Nat → Nat → Int32} {b : Nat → Nat → Int64} {a2 : Nat → Nat → Int32} {f : Nat → Int32} {D : va_G} {H : Heap} {A : Nat → Prop} (e : a2 = updA a 78 f) (hP : va_P D classes ((MW cI cJ cB h v i j a b).set 51 (v 78, .inl (cI, 601, .inl f))) H) (hD : va_D A ((MW cI cJ cB h v i j a b).set 51 (v 78, .inl (cI, 601, .inl f)))) : va_P D classes (MW cI cJ cB h v i j a2 b) H ∧ va_D A (MW cI cJ cB h v i j a2 b) := by
  subst e
  have h9 : (MW cI cJ cB h v i j a b).set 51 (v 78, .inl (cI, 601, .inl f)) = MW cI cJ cB h v i j (updA a 78 f) b := rfl
  rw [h9] at hP hD
  exact ⟨hP, hD⟩
theorem yv_79 {cI cJ cB : ClassId} {h : Nat} {v : Nat → Nat} {i : Nat → Int32} {j : Nat → Int64} {a : Nat → Nat → Int32} {b : Nat → Nat → Int64} {a2 : Nat → Nat → Int32} {f : Nat → Int32} {D : va_G} {H : Heap} {A : Nat → Prop} (e : a2 = updA a 79 f) (hP : va_P D classes ((MW cI cJ cB h v i j a b).set 52 (v 79, .inl (cI, 601, .inl f))) H) (hD : va_D A ((MW cI cJ cB h v i j a b).set 52 (v 79, .inl (cI, 601, .inl f)))) : va_P D classes (MW cI cJ cB h v i j a2 b) H ∧ va_D A (MW cI cJ cB h v i j a2 b) := by
  subst e
  have h9 : (MW cI cJ cB h v i j a b).set 52 (v 79, .inl (cI, 601, .inl f)) = MW cI cJ cB h v i j (updA a 79 f) b := rfl
  rw [h9] at hP hD
  exact ⟨hP, hD⟩
theorem yv_80 {cI cJ cB : ClassId} {h : Nat} {v : Nat → Nat} {i : Nat → Int32} {j : Nat → Int64} {a : Nat → Nat → Int32} {b : Nat → Nat → Int64} {b2 : Nat → Nat → Int64} {f : Nat → Int64} {D : va_G} {H : Heap} {A : Nat → Prop} (e : b2 = updB b 80 f) (hP : va_P D classes ((MW cI cJ cB h v i j a b).set 53 (v 80, .inl (cJ, 601, .inr (.inl f)))) H) (hD : va_D A ((MW cI cJ cB h v i j a b).set 53 (v 80, .inl (cJ, 601, .inr (.inl f))))) : va_P D classes (MW cI cJ cB h v i j a b2) H ∧ va_D A (MW cI cJ cB h v i j a b2) := by
  subst e
  have h9 : (MW cI cJ cB h v i j a b).set 53 (v 80, .inl (cJ, 601, .inr (.inl f))) = MW cI cJ cB h v i j a (updB b 80 f) := rfl
  rw [h9] at hP hD
  exact ⟨hP, hD⟩
theorem yv_82 {cI cJ cB : ClassId} {h : Nat} {v : Nat → Nat} {i : Nat → Int32} {j : Nat → Int64} {a : Nat → Nat → Int32} {b : Nat → Nat → Int64} {a2 : Nat → Nat → Int32} {f : Nat → Int32} {D : va_G} {H : Heap} {A : Nat → Prop} (e : a2 = updA a 82 f) (hP : va_P D classes ((MW cI cJ cB h v i j a b).set 54 (v 82, .inl (cI, 21, .inl f))) H) (hD : va_D A ((MW cI cJ cB h v i j a b).set 54 (v 82, .inl (cI, 21, .inl f)))) : va_P D classes (MW cI cJ cB h v i j a2 b) H ∧ va_D A (MW cI cJ cB h v i j a2 b) := by
  subst e
  have h9 : (MW cI cJ cB h v i j a b).set 54 (v 82, .inl (cI, 21, .inl f)) = MW cI cJ cB h v i j (updA a 82 f) b := rfl
  rw [h9] at hP hD
  exact ⟨hP, hD⟩
theorem yv_83 {cI cJ cB : ClassId} {h : Nat} {v : Nat → Nat} {i : Nat → Int32} {j : Nat → Int64} {a : Nat → Nat → Int32} {b : Nat → Nat → Int64} {b2 : Nat → Nat → Int64} {f : Nat → Int64} {D : va_G} {H : Heap} {A : Nat → Prop} (e : b2 = updB b 83 f) (hP : va_P D classes ((MW cI cJ cB h v i j a b).set 55 (v 83, .inl (cJ, 601, .inr (.inl f)))) H) (hD : va_D A ((MW cI cJ cB h v i j a b).set 55 (v 83, .inl (cJ, 601, .inr (.inl f))))) : va_P D classes (MW cI cJ cB h v i j a b2) H ∧ va_D A (MW cI cJ cB h v i j a b2) := by
  subst e
  have h9 : (MW cI cJ cB h v i j a b).set 55 (v 83, .inl (cJ, 601, .inr (.inl f))) = MW cI cJ cB h v i j a (updB b 83 f) := rfl
  rw [h9] at hP hD
  exact ⟨hP, hD⟩
theorem yv_87 {cI cJ cB : ClassId} {h : Nat} {v : Nat → Nat} {i : Nat → Int32} {j : Nat → Int64} {a : Nat → Nat → Int32} {b : Nat → Nat → Int64} {a2 : Nat → Nat → Int32} {f : Nat → Int32} {D : va_G} {H : Heap} {A : Nat → Prop} (e : a2 = updA a 87 f) (hP : va_P D classes ((MW cI cJ cB h v i j a b).set 56 (v 87, .inl (cI, 300, .inl f))) H) (hD : va_D A ((MW cI cJ cB h v i j a b).set 56 (v 87, .inl (cI, 300, .inl f)))) : va_P D classes (MW cI cJ cB h v i j a2 b) H ∧ va_D A (MW cI cJ cB h v i j a2 b) := by
  subst e
  have h9 : (MW cI cJ cB h v i j a b).set 56 (v 87, .inl (cI, 300, .inl f)) = MW cI cJ cB h v i j (updA a 87 f) b := rfl
  rw [h9] at hP hD
  exact ⟨hP, hD⟩
theorem yv_88 {cI cJ cB : ClassId} {h : Nat} {v : Nat → Nat} {i : Nat → Int32} {j : Nat → Int64} {a : Nat → Nat → Int32} {b : Nat → Nat → Int64} {a2 : Nat → Nat → Int32} {f : Nat → Int32} {D : va_G} {H : Heap} {A : Nat → Prop} (e : a2 = updA a 88 f) (hP : va_P D classes ((MW cI cJ cB h v i j a b).set 57 (v 88, .inl (cI, 300, .inl f))) H) (hD : va_D A ((MW cI cJ cB h v i j a b).set 57 (v 88, .inl (cI, 300, .inl f)))) : va_P D classes (MW cI cJ cB h v i j a2 b) H ∧ va_D A (MW cI cJ cB h v i j a2 b) := by
  subst e
  have h9 : (MW cI cJ cB h v i j a b).set 57 (v 88, .inl (cI, 300, .inl f)) = MW cI cJ cB h v i j (updA a 88 f) b := rfl
  rw [h9] at hP hD
  exact ⟨hP, hD⟩
theorem yv_89 {cI cJ cB : ClassId} {h : Nat} {v : Nat → Nat} {i : Nat → Int32} {j : Nat → Int64} {a : Nat → Nat → Int32} {b : Nat → Nat → Int64} {a2 : Nat → Nat → Int32} {f : Nat → Int32} {D : va_G} {H : Heap} {A : Nat → Prop} (e : a2 = updA a 89 f) (hP : va_P D classes ((MW cI cJ cB h v i j a b).set 58 (v 89, .inl (cI, 1500, .inl f))) H) (hD : va_D A ((MW cI cJ cB h v i j a b).set 58 (v 89, .inl (cI, 1500, .inl f)))) : va_P D classes (MW cI cJ cB h v i j a2 b) H ∧ va_D A (MW cI cJ cB h v i j a2 b) := by
  subst e
  have h9 : (MW cI cJ cB h v i j a b).set 58 (v 89, .inl (cI, 1500, .inl f)) = MW cI cJ cB h v i j (updA a 89 f) b := rfl
  rw [h9] at hP hD
  exact ⟨hP, hD⟩
theorem yv_90 {cI cJ cB : ClassId} {h : Nat} {v : Nat → Nat} {i : Nat → Int32} {j : Nat → Int64} {a : Nat → Nat → Int32} {b : Nat → Nat → Int64} {a2 : Nat → Nat → Int32} {f : Nat → Int32} {D : va_G} {H : Heap} {A : Nat → Prop} (e : a2 = updA a 90 f) (hP : va_P D classes ((MW cI cJ cB h v i j a b).set 59 (v 90, .inl (cI, 300, .inl f))) H) (hD : va_D A ((MW cI cJ cB h v i j a b).set 59 (v 90, .inl (cI, 300, .inl f)))) : va_P D classes (MW cI cJ cB h v i j a2 b) H ∧ va_D A (MW cI cJ cB h v i j a2 b) := by
  subst e
  have h9 : (MW cI cJ cB h v i j a b).set 59 (v 90, .inl (cI, 300, .inl f)) = MW cI cJ cB h v i j (updA a 90 f) b := rfl
  rw [h9] at hP hD
  exact ⟨hP, hD⟩
theorem yv_91 {cI cJ cB : ClassId} {h : Nat} {v : Nat → Nat} {i : Nat → Int32} {j : Nat → Int64} {a : Nat → Nat → Int32} {b : Nat → Nat → Int64} {a2 : Nat → Nat → Int32} {f : Nat → Int32} {D : va_G} {H : Heap} {A : Nat → Prop} (e : a2 = updA a 91 f) (hP : va_P D classes ((MW cI cJ cB h v i j a b).set 60 (v 91, .inl (cI, 300, .inl f))) H) (hD : va_D A ((MW cI cJ cB h v i j a b).set 60 (v 91, .inl (cI, 300, .inl f)))) : va_P D classes (MW cI cJ cB h v i j a2 b) H ∧ va_D A (MW cI cJ cB h v i j a2 b) := by
  subst e
  have h9 : (MW cI cJ cB h v i j a b).set 60 (v 91, .inl (cI, 300, .inl f)) = MW cI cJ cB h v i j (updA a 91 f) b := rfl
  rw [h9] at hP hD
  exact ⟨hP, hD⟩
theorem yv_111 {cI cJ cB : ClassId} {h : Nat} {v : Nat → Nat} {i : Nat → Int32} {j : Nat → Int64} {a : Nat → Nat → Int32} {b : Nat → Nat → Int64} {b2 : Nat → Nat → Int64} {f : Nat → Int64} {D : va_G} {H : Heap} {A : Nat → Prop} (e : b2 = updB b 111 f) (hP : va_P D classes ((MW cI cJ cB h v i j a b).set 61 (v 111, .inl (cJ, 36000, .inr (.inl f)))) H) (hD : va_D A ((MW cI cJ cB h v i j a b).set 61 (v 111, .inl (cJ, 36000, .inr (.inl f))))) : va_P D classes (MW cI cJ cB h v i j a b2) H ∧ va_D A (MW cI cJ cB h v i j a b2) := by
  subst e
  have h9 : (MW cI cJ cB h v i j a b).set 61 (v 111, .inl (cJ, 36000, .inr (.inl f))) = MW cI cJ cB h v i j a (updB b 111 f) := rfl
  rw [h9] at hP hD
  exact ⟨hP, hD⟩
theorem yv_112 {cI cJ cB : ClassId} {h : Nat} {v : Nat → Nat} {i : Nat → Int32} {j : Nat → Int64} {a : Nat → Nat → Int32} {b : Nat → Nat → Int64} {a2 : Nat → Nat → Int32} {f : Nat → Int32} {D : va_G} {H : Heap} {A : Nat → Prop} (e : a2 = updA a 112 f) (hP : va_P D classes ((MW cI cJ cB h v i j a b).set 62 (v 112, .inl (cI, 150, .inl f))) H) (hD : va_D A ((MW cI cJ cB h v i j a b).set 62 (v 112, .inl (cI, 150, .inl f)))) : va_P D classes (MW cI cJ cB h v i j a2 b) H ∧ va_D A (MW cI cJ cB h v i j a2 b) := by
  subst e
  have h9 : (MW cI cJ cB h v i j a b).set 62 (v 112, .inl (cI, 150, .inl f)) = MW cI cJ cB h v i j (updA a 112 f) b := rfl
  rw [h9] at hP hD
  exact ⟨hP, hD⟩
theorem yv_113 {cI cJ cB : ClassId} {h : Nat} {v : Nat → Nat} {i : Nat → Int32} {j : Nat → Int64} {a : Nat → Nat → Int32} {b : Nat → Nat → Int64} {a2 : Nat → Nat → Int32} {f : Nat → Int32} {D : va_G} {H : Heap} {A : Nat → Prop} (e : a2 = updA a 113 f) (hP : va_P D classes ((MW cI cJ cB h v i j a b).set 63 (v 113, .inl (cI, 150, .inl f))) H) (hD : va_D A ((MW cI cJ cB h v i j a b).set 63 (v 113, .inl (cI, 150, .inl f)))) : va_P D classes (MW cI cJ cB h v i j a2 b) H ∧ va_D A (MW cI cJ cB h v i j a2 b) := by
  subst e
  have h9 : (MW cI cJ cB h v i j a b).set 63 (v 113, .inl (cI, 150, .inl f)) = MW cI cJ cB h v i j (updA a 113 f) b := rfl
  rw [h9] at hP hD
  exact ⟨hP, hD⟩
theorem yv_114 {cI cJ cB : ClassId} {h : Nat} {v : Nat → Nat} {i : Nat → Int32} {j : Nat → Int64} {a : Nat → Nat → Int32} {b : Nat → Nat → Int64} {a2 : Nat → Nat → Int32} {f : Nat → Int32} {D : va_G} {H : Heap} {A : Nat → Prop} (e : a2 = updA a 114 f) (hP : va_P D classes ((MW cI cJ cB h v i j a b).set 64 (v 114, .inl (cI, 1800, .inl f))) H) (hD : va_D A ((MW cI cJ cB h v i j a b).set 64 (v 114, .inl (cI, 1800, .inl f)))) : va_P D classes (MW cI cJ cB h v i j a2 b) H ∧ va_D A (MW cI cJ cB h v i j a2 b) := by
  subst e
  have h9 : (MW cI cJ cB h v i j a b).set 64 (v 114, .inl (cI, 1800, .inl f)) = MW cI cJ cB h v i j (updA a 114 f) b := rfl
  rw [h9] at hP hD
  exact ⟨hP, hD⟩
theorem yv_115 {cI cJ cB : ClassId} {h : Nat} {v : Nat → Nat} {i : Nat → Int32} {j : Nat → Int64} {a : Nat → Nat → Int32} {b : Nat → Nat → Int64} {b2 : Nat → Nat → Int64} {f : Nat → Int64} {D : va_G} {H : Heap} {A : Nat → Prop} (e : b2 = updB b 115 f) (hP : va_P D classes ((MW cI cJ cB h v i j a b).set 65 (v 115, .inl (cJ, 1800, .inr (.inl f)))) H) (hD : va_D A ((MW cI cJ cB h v i j a b).set 65 (v 115, .inl (cJ, 1800, .inr (.inl f))))) : va_P D classes (MW cI cJ cB h v i j a b2) H ∧ va_D A (MW cI cJ cB h v i j a b2) := by
  subst e
  have h9 : (MW cI cJ cB h v i j a b).set 65 (v 115, .inl (cJ, 1800, .inr (.inl f))) = MW cI cJ cB h v i j a (updB b 115 f) := rfl
  rw [h9] at hP hD
  exact ⟨hP, hD⟩
theorem yv_119 {cI cJ cB : ClassId} {h : Nat} {v : Nat → Nat} {i : Nat → Int32} {j : Nat → Int64} {a : Nat → Nat → Int32} {b : Nat → Nat → Int64} {a2 : Nat → Nat → Int32} {f : Nat → Int32} {D : va_G} {H : Heap} {A : Nat → Prop} (e : a2 = updA a 119 f) (hP : va_P D classes ((MW cI cJ cB h v i j a b).set 66 (v 119, .inl (cI, 151, .inl f))) H) (hD : va_D A ((MW cI cJ cB h v i j a b).set 66 (v 119, .inl (cI, 151, .inl f)))) : va_P D classes (MW cI cJ cB h v i j a2 b) H ∧ va_D A (MW cI cJ cB h v i j a2 b) := by
  subst e
  have h9 : (MW cI cJ cB h v i j a b).set 66 (v 119, .inl (cI, 151, .inl f)) = MW cI cJ cB h v i j (updA a 119 f) b := rfl
  rw [h9] at hP hD
  exact ⟨hP, hD⟩
theorem yv_120 {cI cJ cB : ClassId} {h : Nat} {v : Nat → Nat} {i : Nat → Int32} {j : Nat → Int64} {a : Nat → Nat → Int32} {b : Nat → Nat → Int64} {a2 : Nat → Nat → Int32} {f : Nat → Int32} {D : va_G} {H : Heap} {A : Nat → Prop} (e : a2 = updA a 120 f) (hP : va_P D classes ((MW cI cJ cB h v i j a b).set 67 (v 120, .inl (cI, 151, .inl f))) H) (hD : va_D A ((MW cI cJ cB h v i j a b).set 67 (v 120, .inl (cI, 151, .inl f)))) : va_P D classes (MW cI cJ cB h v i j a2 b) H ∧ va_D A (MW cI cJ cB h v i j a2 b) := by
  subst e
  have h9 : (MW cI cJ cB h v i j a b).set 67 (v 120, .inl (cI, 151, .inl f)) = MW cI cJ cB h v i j (updA a 120 f) b := rfl
  rw [h9] at hP hD
  exact ⟨hP, hD⟩
theorem yv_121 {cI cJ cB : ClassId} {h : Nat} {v : Nat → Nat} {i : Nat → Int32} {j : Nat → Int64} {a : Nat → Nat → Int32} {b : Nat → Nat → Int64} {a2 : Nat → Nat → Int32} {f : Nat → Int32} {D : va_G} {H : Heap} {A : Nat → Prop} (e : a2 = updA a 121 f) (hP : va_P D classes ((MW cI cJ cB h v i j a b).set 68 (v 121, .inl (cI, 151, .inl f))) H) (hD : va_D A ((MW cI cJ cB h v i j a b).set 68 (v 121, .inl (cI, 151, .inl f)))) : va_P D classes (MW cI cJ cB h v i j a2 b) H ∧ va_D A (MW cI cJ cB h v i j a2 b) := by
  subst e
  have h9 : (MW cI cJ cB h v i j a b).set 68 (v 121, .inl (cI, 151, .inl f)) = MW cI cJ cB h v i j (updA a 121 f) b := rfl
  rw [h9] at hP hD
  exact ⟨hP, hD⟩
theorem yv_122 {cI cJ cB : ClassId} {h : Nat} {v : Nat → Nat} {i : Nat → Int32} {j : Nat → Int64} {a : Nat → Nat → Int32} {b : Nat → Nat → Int64} {b2 : Nat → Nat → Int64} {f : Nat → Int64} {D : va_G} {H : Heap} {A : Nat → Prop} (e : b2 = updB b 122 f) (hP : va_P D classes ((MW cI cJ cB h v i j a b).set 69 (v 122, .inl (cJ, 151, .inr (.inl f)))) H) (hD : va_D A ((MW cI cJ cB h v i j a b).set 69 (v 122, .inl (cJ, 151, .inr (.inl f))))) : va_P D classes (MW cI cJ cB h v i j a b2) H ∧ va_D A (MW cI cJ cB h v i j a b2) := by
  subst e
  have h9 : (MW cI cJ cB h v i j a b).set 69 (v 122, .inl (cJ, 151, .inr (.inl f))) = MW cI cJ cB h v i j a (updB b 122 f) := rfl
  rw [h9] at hP hD
  exact ⟨hP, hD⟩
theorem yv_123 {cI cJ cB : ClassId} {h : Nat} {v : Nat → Nat} {i : Nat → Int32} {j : Nat → Int64} {a : Nat → Nat → Int32} {b : Nat → Nat → Int64} {b2 : Nat → Nat → Int64} {f : Nat → Int64} {D : va_G} {H : Heap} {A : Nat → Prop} (e : b2 = updB b 123 f) (hP : va_P D classes ((MW cI cJ cB h v i j a b).set 70 (v 123, .inl (cJ, 151, .inr (.inl f)))) H) (hD : va_D A ((MW cI cJ cB h v i j a b).set 70 (v 123, .inl (cJ, 151, .inr (.inl f))))) : va_P D classes (MW cI cJ cB h v i j a b2) H ∧ va_D A (MW cI cJ cB h v i j a b2) := by
  subst e
  have h9 : (MW cI cJ cB h v i j a b).set 70 (v 123, .inl (cJ, 151, .inr (.inl f))) = MW cI cJ cB h v i j a (updB b 123 f) := rfl
  rw [h9] at hP hD
  exact ⟨hP, hD⟩
theorem ya_t {cI cJ cB : ClassId} {h : Nat} {v : Nat → Nat} {i : Nat → Int32} {j : Nat → Int64} {a : Nat → Nat → Int32} {b : Nat → Nat → Int64} : ∀ t : Nat, 37 ≤ t ∧ t ≤ 43 → (MW cI cJ cB h v i j a b)[29 + (t - 37)]? = some (v t, .inl (cI, 8, .inl (a t))) := by
  intro t ht
  rcases (show t = 37 ∨ t = 38 ∨ t = 39 ∨ t = 40 ∨ t = 41 ∨ t = 42 ∨ t = 43 by omega) with h | h | h | h | h | h | h <;> subst h <;> rfl
theorem yv_t {cI cJ cB : ClassId} {h : Nat} {v : Nat → Nat} {i : Nat → Int32} {j : Nat → Int64} {a : Nat → Nat → Int32} {b : Nat → Nat → Int64} {a2 : Nat → Nat → Int32} {f : Nat → Int32} {D : va_G} {H : Heap} {A : Nat → Prop} {t : Nat} (ht : 37 ≤ t ∧ t ≤ 43) (e : a2 = updA a t f) (hP : va_P D classes ((MW cI cJ cB h v i j a b).set (29 + (t - 37)) (v t, .inl (cI, 8, .inl f))) H) (hD : va_D A ((MW cI cJ cB h v i j a b).set (29 + (t - 37)) (v t, .inl (cI, 8, .inl f)))) : va_P D classes (MW cI cJ cB h v i j a2 b) H ∧ va_D A (MW cI cJ cB h v i j a2 b) := by
  rcases (show t = 37 ∨ t = 38 ∨ t = 39 ∨ t = 40 ∨ t = 41 ∨ t = 42 ∨ t = 43 by omega) with h | h | h | h | h | h | h <;> subst h
  · exact yv_37 e hP hD
  · exact yv_38 e hP hD
  · exact yv_39 e hP hD
  · exact yv_40 e hP hD
  · exact yv_41 e hP hD
  · exact yv_42 e hP hD
  · exact yv_43 e hP hD
abbrev yE (dC : Nat → ClassId) (dI : Nat → Nat → Nat) (cI cJ cB : ClassId) (adK adV adA : Nat → Nat) (h : Nat) (v : Nat → Nat) (i : Nat → Int32) (j : Nat → Int64) (a : Nat → Nat → Int32) (b : Nat → Nat → Int64) (sz : Nat) : State → Prop := fun U => U.heap.size = sz ∧ va_P (dC, dI) classes (MW cI cJ cB h v i j a b) U.heap ∧ va_K (dC, dI) classes [(cI, .int), (cJ, .long), (cB, .byte)] U ∧ tw_E adK adV adA (va_A (MW cI cJ cB h v i j a b) sz) U U.heap ∧ va_D (fun _ => True) (MW cI cJ cB h v i j a b)
abbrev yEr (dC : Nat → ClassId) (dI : Nat → Nat → Nat) (cI cJ cB : ClassId) (adK adV adA : Nat → Nat) (h : Nat) (v : Nat → Nat) (i : Nat → Int32) (j : Nat → Int64) (a : Nat → Nat → Int32) (b : Nat → Nat → Int64) (sz : Nat) : State → Prop := fun U => U.heap.size = sz ∧ va_P (dC, dI) classes (MW cI cJ cB h v i j a b) U.heap ∧ va_K (dC, dI) classes [(cI, .int), (cJ, .long), (cB, .byte)] U ∧ tw_E adK adV adA (xN sz) U U.heap
abbrev yB (dC : Nat → ClassId) (dI : Nat → Nat → Nat) (cI cJ cB : ClassId) (h : Nat) (v : Nat → Nat) (i : Nat → Int32) (j : Nat → Int64) (a : Nat → Nat → Int32) (b : Nat → Nat → Int64) (A : Nat → Prop) : Unit → State → Prop := fun _ t => va_P (dC, dI) classes (MW cI cJ cB h v i j a b) t.heap ∧ va_D A (MW cI cJ cB h v i j a b)
theorem y_aft {A A1 : Nat → Prop} {dC : Nat → ClassId} {dI : Nat → Nat → Nat} {cI cJ cB : ClassId} {h : Nat} {v : Nat → Nat} {i : Nat → Int32} {j : Nat → Int64} {a : Nat → Nat → Int32} {b : Nat → Nat → Int64} {t : State} {H : Heap} {x : Unit} (hB : yB dC dI cI cJ cB h v i j a b A1 x t) (ht : t.heap = H) (hF : ∀ q, A1 q → A q) : va_P (dC, dI) classes (MW cI cJ cB h v i j a b) H ∧ va_D A (MW cI cJ cB h v i j a b) := by
  subst ht
  exact ⟨hB.1, hB.2.weaken (fun _ _ _ h => hF _ h)⟩
theorem y_eq {A : Nat → Prop} {dC : Nat → ClassId} {dI : Nat → Nat → Nat} {cI cJ cB : ClassId} {h : Nat} {v : Nat → Nat} {i : Nat → Int32} {j : Nat → Int64} {a : Nat → Nat → Int32} {b : Nat → Nat → Int64} {i2 : Nat → Int32} {j2 : Nat → Int64} {a2 : Nat → Nat → Int32} {b2 : Nat → Nat → Int64} {H : Heap} (e1 : i = i2) (e2 : j = j2) (e3 : a = a2) (e4 : b = b2) (hP : va_P (dC, dI) classes (MW cI cJ cB h v i j a b) H) (hD : va_D A (MW cI cJ cB h v i j a b)) : va_P (dC, dI) classes (MW cI cJ cB h v i2 j2 a2 b2) H ∧ va_D A (MW cI cJ cB h v i2 j2 a2 b2) := by
  subst e1; subst e2; subst e3; subst e4
  exact ⟨hP, hD⟩
theorem ypV {A : Nat → Prop} {dC : Nat → ClassId} {dI : Nat → Nat → Nat} {cI cJ cB : ClassId} {adK adV adA : Nat → Nat} {h : Nat} {v : Nat → Nat} {i : Nat → Int32} {j : Nat → Int64} {a : Nat → Nat → Int32} {b : Nat → Nat → Int64} {s : State} {H : Heap} {locs : List Loc} {As : List Value} {C : String} {T : u_T} {N q0 ad : Nat} {fs : List Value} (hK : va_K (dC, dI) classes [(cI, .int), (cJ, .long), (cB, .byte)] s) (hP : va_P (dC, dI) classes (MW cI cJ cB h v i j a b) H) (hD : va_D A (MW cI cJ cB h v i j a b)) (hS : va_S A s.heap H locs) (hE : tw_E adK adV adA A s s.heap) (hF : ∀ q, va_A (MW cI cJ cB h v i j a b) H.size q → A q) (he : (MW cI cJ cB h v i j a b)[q0]? = some (ad, .inr (12, fs))) (hc : classes[12]? = some (C, T, N)) : PreV s H C ad (va_Pc (.ref ad :: As) (yE dC dI cI cJ cB adK adV adA h v i j a b H.size)) As :=
  ⟨fun x U gg mk z => by obtain ⟨q0, q1, qP, qK, qE, qD⟩ := z; exact ⟨q0, q1, qP, va_K.moved (u := U) (U := U.calling gg mk x) (Vm.Alike.refl U.vm) qK, qE.blind, qD⟩, va_recv hK hP hc he, fun U hU hW => ⟨rfl, by rw [hU], by rw [hU]; exact hP, va_K.moved hW.alike hK, tw_E.pass hE hS hF hW hU, hD.weaken (fun _ _ _ _ => trivial)⟩⟩
theorem ypVr {A : Nat → Prop} {dC : Nat → ClassId} {dI : Nat → Nat → Nat} {cI cJ cB : ClassId} {adK adV adA : Nat → Nat} {h : Nat} {v : Nat → Nat} {i : Nat → Int32} {j : Nat → Int64} {a : Nat → Nat → Int32} {b : Nat → Nat → Int64} {s : State} {H : Heap} {locs : List Loc} {As : List Value} {C : String} {T : u_T} {N q0 ad : Nat} {fs : List Value} (hK : va_K (dC, dI) classes [(cI, .int), (cJ, .long), (cB, .byte)] s) (hP : va_P (dC, dI) classes (MW cI cJ cB h v i j a b) H) (hS : va_S A s.heap H locs) (hE : tw_E adK adV adA A s s.heap) (hF : ∀ q, xN H.size q → A q) (he : (MW cI cJ cB h v i j a b)[q0]? = some (ad, .inr (12, fs))) (hc : classes[12]? = some (C, T, N)) : PreV s H C ad (va_Pc (.ref ad :: As) (yEr dC dI cI cJ cB adK adV adA h v i j a b H.size)) As :=
  ⟨fun x U gg mk z => by obtain ⟨q0, q1, qP, qK, qE⟩ := z; exact ⟨q0, q1, qP, va_K.moved (u := U) (U := U.calling gg mk x) (Vm.Alike.refl U.vm) qK, qE.blind⟩, va_recv hK hP hc he, fun U hU hW => ⟨rfl, by rw [hU], by rw [hU]; exact hP, va_K.moved hW.alike hK, tw_E.pass hE hS hF hW hU⟩⟩
theorem ypSr {A : Nat → Prop} {dC : Nat → ClassId} {dI : Nat → Nat → Nat} {cI cJ cB : ClassId} {adK adV adA : Nat → Nat} {h : Nat} {v : Nat → Nat} {i : Nat → Int32} {j : Nat → Int64} {a : Nat → Nat → Int32} {b : Nat → Nat → Int64} {s : State} {H : Heap} {locs : List Loc} {As : List Value} (hK : va_K (dC, dI) classes [(cI, .int), (cJ, .long), (cB, .byte)] s) (hP : va_P (dC, dI) classes (MW cI cJ cB h v i j a b) H) (hS : va_S A s.heap H locs) (hE : tw_E adK adV adA A s s.heap) (hF : ∀ q, xN H.size q → A q) : PreS s H (va_Pc As (yEr dC dI cI cJ cB adK adV adA h v i j a b H.size)) As :=
  ⟨fun x U gg mk z => by obtain ⟨q0, q1, qP, qK, qE⟩ := z; exact ⟨q0, q1, qP, va_K.moved (u := U) (U := U.calling gg mk x) (Vm.Alike.refl U.vm) qK, qE.blind⟩, fun U hU hW => ⟨rfl, by rw [hU], by rw [hU]; exact hP, va_K.moved hW.alike hK, tw_E.pass hE hS hF hW hU⟩⟩
theorem ypStr {A : Nat → Prop} {dC : Nat → ClassId} {dI : Nat → Nat → Nat} {s : State} {H : Heap} {locs : List Loc} {As : List Value} {t w N : Nat} {f : Nat → Int32} {tys : List (ClassId × FieldType)} (hK : va_K (dC, dI) classes tys s) (hS : va_S A s.heap H locs) (hE : tw_str t w N f A s s.heap) (hF : ∀ q, xN H.size q → A q) : PreV s H "java/lang/String" t (va_Pc (.ref t :: As) (fun U => U.heap.size = H.size ∧ va_P (dC, dI) classes ([] : va_W) U.heap ∧ va_K (dC, dI) classes [] U ∧ va_D (fun _ => True) ([] : va_W) ∧ tw_str t w N f (va_A ([] : va_W) H.size) U U.heap)) As :=
  ⟨fun x U gg mk z => by obtain ⟨q0, q1, qP, qK, qD, qE⟩ := z; exact ⟨q0, q1, qP, va_K.moved (u := U) (U := U.calling gg mk x) (Vm.Alike.refl U.vm) qK, qD, qE.blind⟩, tw_str.recv hE hS, fun U hU hW => ⟨rfl, by rw [hU], fun k q h => by simp at h, va_K.moved hW.alike (hK.sub [] rfl), ⟨fun i j p q h => by simp at h, fun k q h => by simp at h⟩, tw_str.pass hE hS hF hW hU⟩⟩
abbrev xQs (adr : Nat → Nat) (r2 : Nat) : Unit → Nat → State → Prop := fun _ a9 _ => a9 = adr r2
