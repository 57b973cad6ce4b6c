/-! words that are applied, but for those that run lists -/
theorem om_id {o : Option ((Nat → Int32) × (Nat → Int64) × (Nat → Nat → Int32) × (Nat → Nat → Int64) × Int64)} : om o (fun i j a b r => some (i, j, a, b, r)) = o := by
  cases o with
  | none => rfl
  | some p => rfl
theorem kLs_le : ∀ p, p < 74 → (kLs.getD p []).length ≤ (aKind (pCode p)).length ∧ kT.getD p 0 < 34 := by decide +kernel
theorem r_fitsA {n : Nat} {i : Nat → Int32} {j : Nat → Int64} {a : Nat → Nat → Int32} {b : Nat → Nat → Int64} {B : RB4} {p base : Nat} {vs : List Tr} (hn : 100 ≤ n) (hp : p < 74) (hl : vs.length = (aKind (pCode p)).length) (hb : base + 5 ≤ 36000) (hv : ∀ k (h : k < vs.length), rV a b B (vs[k]'h) none (b 111 (base + k))) : m_Model_fits n i j a b (nI base) (kT.getD p 0) = if rFits (kLs.getD p []) (vs.take (kLs.getD p []).length) = true then some (i, j, a, b, 1) else some (rFail i 3, j, a, b, 0) := by
  obtain ⟨k1, k2⟩ := kLs_le p hp
  have k3 := aKind_le (pCode p)
  have hl2 : (vs.take (kLs.getD p []).length).length = (kLs.getD p []).length := by rw [List.length_take]; omega
  have := r_fits_b (n := n) (i := i) (j := j) (a := a) (b := b) (B := B) (ks := kLs.getD p []) (vs := vs.take (kLs.getD p []).length) (p := base) hn (r_kindL p hp) hl2 (by omega) (fun k h => by rw [List.getElem_take]; exact hv k (by omega)) (kLs.getD p []).length 0 n (by omega) (by omega)
  unfold m_Model_fits ct
  rw [if_pos k2, show (0 : Int32) = nI 0 from rfl, this]
  rfl
theorem fitK : ∀ (ks : List Nat) (vs : List Tr) (k c : Nat), aFits ks vs = true → ks[k]? = some c → aFit1 c (vs.getD k .nil) = true := by
  intro ks
  induction ks with
  | nil => intro vs k c _ h; cases h
  | cons q ks ih =>
    intro vs k c hf hk
    cases vs with
    | nil => cases hf
    | cons v vs =>
      rw [aFits, Bool.and_eq_true] at hf
      cases k with
      | zero =>
        have e : q = c := by simpa using hk
        subst e
        exact hf.1
      | succ k => exact ih vs k c hf.2 (by simpa using hk)
theorem numAt {n : Nat} {a : Nat → Nat → Int32} {b : Nat → Nat → Int64} {B : RB4} {v : Tr} {x : Int64} (h : rV a b B v none x) (hn : isN v = true) : m_Model_what n x = some (Int32.ofInt (tNum v)) ∧ -1000000000 ≤ tNum v ∧ tNum v ≤ 1000000000 := by
  rcases rV_cases h with ⟨k, rfl, h1, h2, rfl⟩ | ⟨l, w, rfl, _, h3⟩ | ⟨ms, l, p, rfl, _⟩
  · exact ⟨r_whatN h1 h2, h1, h2⟩
  · rw [isN_tW] at hn; cases hn
  · rw [isN_tL] at hn; cases hn
theorem r_whatA (n : Nat) (x : Int64) : ∃ w, m_Model_what n x = some w := ⟨_, rfl⟩
theorem len2 {α : Type} {l : List α} (h : l.length = 2) : ∃ v u, l = [v, u] := by
  match l, h with
  | [v, u], _ => exact ⟨v, u, rfl⟩
/-- does p run lists, or leave? -/
def pRuns (p : Nat) : Bool := [56, 57, 58, 59, 61, 62, 64, 65, 66, 67, 68, 69].contains p
theorem pRest : ∀ p, p < 74 → 56 ≤ p → pRuns p = false → p = 60 ∨ p = 63 ∨ p = 70 ∨ p = 71 ∨ p = 72 ∨ p = 73 := by decide +kernel

def apT (n : Nat) (G : GB) (i : Nat → Int32) (j : Nat → Int64) (a : Nat → Nat → Int32) (b : Nat → Nat → Int64) (v1 v2 : Int32) (x_11 x_13 : Int64) : Option ((Nat → Int32) × (Nat → Int64) × (Nat → Nat → Int32) × (Nat → Nat → Int64) × Int64) := if ((18 : Int32)) < v1 then if ((31 : Int32)) < v1 then if ((48 : Int32)) < v1 then if ((55 : Int32)) < v1 then ck ((v2 + 2)) 36000 (om (G.2.2.2.2.2.1 i j a b v1 x_11 x_13 (b 111 (v2 + 2).toNatClampNeg)) (fun i_20 j_21 a_22 b_23 r_24 => some (i_20, j_21, a_22, b_23, r_24))) else om (m_Model_named n i j a b v1 x_11 x_13) (fun i_26 j_27 a_28 b_29 r_30 => some (i_26, j_27, a_28, b_29, r_30)) else om (m_Model_values n i j a b v1 x_11 x_13) (fun i_32 j_33 a_34 b_35 r_36 => some (i_32, j_33, a_34, b_35, r_36)) else if v1 = ((31 : Int32)) then om (m_Model_equal n i j a b x_11 x_13) (fun i_79 j_80 a_81 b_82 r_83 => ob0 (m_Model_truth n i_79 j_80 a_81 b_82 r_83) (fun r_85 => some (i_79, j_80, a_81, b_82, r_85))) else if v1 = ((28 : Int32)) then ob0 (m_Model_isTrue n i j a b x_11) (fun r_67 => if r_67 = ((0 : Int32)) then ob0 (m_Model_truth n i j a b (0 : Int32)) (fun r_70 => some (i, j, a, b, r_70)) else ob0 (m_Model_isTrue n i j a b x_13) (fun r_72 => if r_72 = ((0 : Int32)) then ob0 (m_Model_truth n i j a b (0 : Int32)) (fun r_75 => some (i, j, a, b, r_75)) else ob0 (m_Model_truth n i j a b (1 : Int32)) (fun r_77 => some (i, j, a, b, r_77)))) else if v1 = ((29 : Int32)) then ob0 (m_Model_isTrue n i j a b x_11) (fun r_59 => if r_59 = ((0 : Int32)) then ob0 (m_Model_isTrue n i j a b x_13) (fun r_62 => if r_62 = ((0 : Int32)) then ob0 (m_Model_truth n i j a b (0 : Int32)) (fun r_65 => some (i, j, a, b, r_65)) else m_Model_applied_b139 n G i j a b) else m_Model_applied_b139 n G i j a b) else if v1 = ((30 : Int32)) then ob0 (m_Model_isTrue n i j a b x_11) (fun r_52 => if r_52 = ((0 : Int32)) then ob0 (m_Model_truth n i j a b (1 : Int32)) (fun r_57 => some (i, j, a, b, r_57)) else ob0 (m_Model_truth n i j a b (0 : Int32)) (fun r_55 => some (i, j, a, b, r_55))) else ob0 (m_Model_what n x_11) (fun r_42 => ob0 (m_Model_what n x_13) (fun r_44 => om (m_Model_numbers n i j a b v1 r_42 r_44) (fun i_46 j_47 a_48 b_49 r_50 => some (i_46, j_47, a_48, b_49, r_50)))) else ob0 (m_Model_what n x_11) (fun r_87 => ob0 (m_Model_what n x_13) (fun r_89 => om (m_Model_turtles n i j a b v1 r_87 r_89) (fun i_91 j_92 a_93 b_94 r_95 => some (i_91, j_92, a_93, b_94, r_95))))
/-- the inputs fit: the word's result -/
theorem ap_tur {n : Nat} {i : Nat → Int32} {j : Nat → Int64} {a : Nat → Nat → Int32} {b : Nat → Nat → Int64} {B : RB4} {bd : Nat} {G : GS} {N : LN} {F : List Fr} {code : Nat} {vs : List Tr} {x y : Int64} {v2 v3 : Int32} (hn : 100000 ≤ n) (h : rWo i j a b B bd G N F) (hg : gOk G) (hc : 1 ≤ code ∧ code ≤ 19) (hf : aFits (aKind code) vs = true) (hx : 1 ≤ (aKind code).length → rV a b B (vs.getD 0 .nil) none x) (hy : 2 ≤ (aKind code).length → rV a b B (vs.getD 1 .nil) none y) (h2 : m_Model_what n x = some v2) (h3 : m_Model_what n y = some v3) (h7 : code = 12 ∨ code = 19 → 0 ≤ tNum (vs.getD 0 .nil) ∧ tNum (vs.getD 0 .nil) ≤ 7) (h8 : code = 19 → 0 ≤ tNum (vs.getD 1 .nil) ∧ tNum (vs.getD 1 .nil) ≤ 7) : VR i j a b B bd G N F (rTG N F (aTurtle code (tNum (vs.getD 0 .nil)) (tNum (vs.getD 1 .nil)) G)) (m_Model_turtles n i j a b (nI (code - 1)) v2 v3) := by
  have hT := h.2.2.2.2.2.1
  have num : ∀ (v : Tr) (z : Int64) (w : Int32), rV a b B v none z → aFit1 110 v = true → m_Model_what n z = some w → w = Int32.ofInt (tNum v) ∧ -1000000000 ≤ tNum v ∧ tNum v ≤ 1000000000 := fun v z w hz hv hw => by
    obtain ⟨e1, e2, e3⟩ := numAt (n := n) hz hv
    rw [hw] at e1
    exact ⟨Option.some.inj e1, e2, e3⟩
  refine VR_tur h ?_
  rcases (by omega : code = 1 ∨ code = 2 ∨ code = 3 ∨ code = 4 ∨ code = 5 ∨ code = 6 ∨ code = 7 ∨ code = 8 ∨ code = 9 ∨ code = 10 ∨ code = 11 ∨ code = 12 ∨ code = 13 ∨ code = 14 ∨ code = 15 ∨ code = 16 ∨ code = 17 ∨ code = 18 ∨ code = 19) with rfl | rfl | rfl | rfl | rfl | rfl | rfl | rfl | rfl | rfl | rfl | rfl | rfl | rfl | rfl | rfl | rfl | rfl | rfl
  · exact r_tur1 (by omega) hT hg (num _ _ _ (hx (by decide)) (fitK _ vs 0 110 hf (by decide)) h2)
  · exact r_tur2 (by omega) hT hg (num _ _ _ (hx (by decide)) (fitK _ vs 0 110 hf (by decide)) h2)
  · exact r_tur3 (by omega) hT hg (num _ _ _ (hx (by decide)) (fitK _ vs 0 110 hf (by decide)) h2)
  · exact r_tur4 (by omega) hT hg (num _ _ _ (hx (by decide)) (fitK _ vs 0 110 hf (by decide)) h2)
  · exact r_tur5 (by omega) hT hg (num _ _ _ (hx (by decide)) (fitK _ vs 0 110 hf (by decide)) h2)
  · exact r_tur6 (by omega) hT hg
  · exact r_tur7 (by omega) hT hg
  · exact r_tur8 (by omega) hT hg (num _ _ _ (hx (by decide)) (fitK _ vs 0 110 hf (by decide)) h2)
  · exact r_tur9 (by omega) hT hg
  · exact r_tur10 (by omega) hT hg (num _ _ _ (hx (by decide)) (fitK _ vs 0 110 hf (by decide)) h2) (num _ _ _ (hy (by decide)) (fitK _ vs 1 110 hf (by decide)) h3)
  · exact r_tur11 (by omega) hT hg
  · exact r_tur12 (by omega) hT hg (num _ _ _ (hx (by decide)) (fitK _ vs 0 110 hf (by decide)) h2) (h7 (by omega))
  · exact r_tur13 (by omega) hT hg
  · exact r_tur14 (by omega) hT hg
  · exact r_tur15 (by omega) hT hg
  · exact r_tur16 (by omega) hT hg
  · exact r_tur17 (by omega) hT hg
  · exact r_tur18 (by omega) hT hg
  · exact r_tur19 (by omega) hT hg (num _ _ _ (hx (by decide)) (fitK _ vs 0 110 hf (by decide)) h2) (num _ _ _ (hy (by decide)) (fitK _ vs 1 110 hf (by decide)) h3) (h7 (by omega)) (h8 (by omega)) h.2.1
theorem kd0 : ∀ code, 20 ≤ code → code ≤ 28 → (aKind code)[0]? = some 110 ∧ 1 ≤ (aKind code).length ∧ (code ≠ 25 → code ≠ 28 → (aKind code)[1]? = some 110 ∧ 2 ≤ (aKind code).length) := by
  intro code h1 h2
  rcases (by omega : code = 20 ∨ code = 21 ∨ code = 22 ∨ code = 23 ∨ code = 24 ∨ code = 25 ∨ code = 26 ∨ code = 27 ∨ code = 28) with rfl | rfl | rfl | rfl | rfl | rfl | rfl | rfl | rfl <;> decide
theorem kd1 : ∀ code, 33 ≤ code → code ≤ 48 → 1 ≤ (aKind code).length ∧ ((code ≤ 41 ∨ code = 48) ∨ 2 ≤ (aKind code).length) ∧ ((37 ≤ code ∧ code ≤ 41) ∨ code = 48 → (aKind code)[0]? = some 108) ∧ (code = 42 → (aKind code)[0]? = some 110 ∧ (aKind code)[1]? = some 108) ∧ (code = 43 ∨ code = 44 ∨ code = 47 → (aKind code)[1]? = some 108) := by
  intro code h1 h2
  rcases (by omega : code = 33 ∨ code = 34 ∨ code = 35 ∨ code = 36 ∨ code = 37 ∨ code = 38 ∨ code = 39 ∨ code = 40 ∨ code = 41 ∨ code = 42 ∨ code = 43 ∨ code = 44 ∨ code = 45 ∨ code = 46 ∨ code = 47 ∨ code = 48) with rfl | rfl | rfl | rfl | rfl | rfl | rfl | rfl | rfl | rfl | rfl | rfl | rfl | rfl | rfl | rfl <;> decide
theorem kd2 : ∀ code, 50 ≤ code → code ≤ 56 → 1 ≤ (aKind code).length ∧ (aKind code)[0]? = some 119 ∧ (code = 50 ∨ code = 54 → 2 ≤ (aKind code).length) ∧ (code = 54 → (aKind code)[1]? = some 108) := by
  intro code h1 h2
  rcases (by omega : code = 50 ∨ code = 51 ∨ code = 52 ∨ code = 53 ∨ code = 54 ∨ code = 55 ∨ code = 56) with rfl | rfl | rfl | rfl | rfl | rfl | rfl <;> decide
theorem fitB {v : Tr} (h : aFit1 98 v = true) : isW v = true := by
  have h : (isW v && (tLet v == wTrue || tLet v == wFalse)) = true := h
  rw [Bool.and_eq_true] at h
  exact h.1
theorem kLs_11 : kLs.getD 11 [] = [116] ∧ kLs.getD 18 [] = [116, 116] ∧ kLs.getD 48 [] = [] ∧ kLs.getD 65 [] = [116, 108] := by decide
theorem b1_n0 (q : Bool) : (b1 q = (0 : Int32)) = (q = false) := by cases q <;> decide
/-- the two, after the inputs were looked at -/
theorem ap_rest {n : Nat} {g g' : GB} {i : Nat → Int32} {j : Nat → Int64} {a : Nat → Nat → Int32} {b : Nat → Nat → Int64} {B : RB4} {bd : Nat} {G : GS} {N : LN} {F : List Fr} {L : List Lv} {p base : Nat} {vs : List Tr} (hn : 100000 ≤ n) (hg6 : g.2.2.2.2.2.1 = m_Model_running n g') (h : rWo i j a b B bd G N F) (hs : (gOut G).length + 8001 * (20001 - nDone N) + 8001 < gOb G) (hI : IV G N F L) (hr : rRow a b B L) (hlc : rLc i L) (hp : p < 74) (hpr : pRuns p = false) (hl : vs.length = (aKind (pCode p)).length) (hb : base + 5 ≤ 36000) (hv : ∀ k (h : k < vs.length), rV a b B (vs[k]'h) none (b 111 (base + k))) : ∃ r, aDo (pCode p) vs G N F L = eC r G N F L ∧ VR i j a b B bd G N F r (m_Model_applied n g i j a b (nI p) (nI base)) := by
  obtain ⟨hgk, hnk, hlv, _⟩ := hI
  have hm : nMade N ≤ 30000 := hnk.2.2.2.1
  have hca : nCaught N ≤ 13 := hnk.2.2.2.2
  have hF : F.length ≤ 150 := by rw [hlv.2.2.2.2.1]; exact Nat.le_trans (lvCalls_le L) hlv.2.1
  have hge : ∀ k, k < (aKind (pCode p)).length → rV a b B (vs.getD k .nil) none (b 111 (base + k)) := fun k hk => by
    rw [List.getD_eq_getElem?_getD, List.getElem?_eq_getElem (by omega)]
    exact hv k (by omega)
  have fits := r_fitsA (n := n) (i := i) (j := j) (by omega) hp hl hb hv
  have hfe := fun h1 => (fits_eq (vs := vs) hp h1 hl).1
  have ap : m_Model_applied n g i j a b (nI p) (nI base) = if rFits (kLs.getD p []) (vs.take (kLs.getD p []).length) = true then apT n g i j a b (nI p) (nI base) (b 111 base) (b 111 (base + 1)) else some (rFail i 3, j, a, b, 3) := by
    unfold m_Model_applied
    rw [r_kindT hp, ob0_s]
    unfold ct
    rw [if_pos (kLs_le p hp).2, fits]
    split
    · rw [om_s, if_neg (by decide), ck_n (by omega), ob1_s, show nI base + (1 : Int32) = nI (base + 1) from nI_add base 1, ck_n (by omega), ob1_s, cl_n (by omega), cl_n (by omega)]
      rfl
    · rw [om_s, if_pos (by decide)]
  have bad : aFits (aKind (pCode p)) vs = false → aDo (pCode p) vs G N F L = eC (.error 3) G N F L := fun e => by
    unfold aDo
    dsimp only
    rw [if_pos e]
    rfl
  have good : aFits (aKind (pCode p)) vs = true → aDo (pCode p) vs G N F L = if pCode p ≤ 19 then retG G N F L (aTurtle (pCode p) (tNum (vs.getD 0 .nil)) (tNum (vs.getD 1 .nil)) G) else if pCode p ≤ 31 then retG G N F L (aNumber (pCode p) (tNum (vs.getD 0 .nil)) (tNum (vs.getD 1 .nil)) (vs.getD 0 .nil) (vs.getD 1 .nil) G) else if pCode p ≤ 49 then retM G N F L (aValue (pCode p) (vs.getD 0 .nil) (vs.getD 1 .nil) (nMade N)) else if pCode p ≤ 59 then aOther (pCode p) (vs.getD 0 .nil) (vs.getD 1 .nil) G N F L else aRunning (pCode p) (vs.getD 0 .nil) (vs.getD 1 .nil) (vs.getD 2 .nil) G N F L := fun e => by
    unfold aDo
    dsimp only
    rw [if_neg (by rw [e]; decide)]
  have vbad : VR i j a b B bd G N F (.error 3) (some (rFail i 3, j, a, b, 3)) := VR_fail h rfl
  obtain ⟨x, ex⟩ : ∃ x, x = b 111 base := ⟨_, rfl⟩
  obtain ⟨y, ey⟩ : ∃ y, y = b 111 (base + 1) := ⟨_, rfl⟩
  have hx : 1 ≤ (aKind (pCode p)).length → rV a b B (vs.getD 0 .nil) none x := fun h0 => by rw [ex]; exact hge 0 (by omega)
  have hy : 2 ≤ (aKind (pCode p)).length → rV a b B (vs.getD 1 .nil) none y := fun h0 => by rw [ey]; exact hge 1 (by omega)
  obtain ⟨x2, hx2⟩ := r_whatA n x
  obtain ⟨y2, hy2⟩ := r_whatA n y
  rw [← ex, ← ey] at ap
  have c18 : p ≤ 18 → apT n g i j a b (nI p) (nI base) x y = m_Model_turtles n i j a b (nI p) x2 y2 := fun hq => by
    unfold apT
    rw [show (18 : Int32) = nI 18 from rfl, ilt_n (by omega), hx2, ob0_s, hy2, ob0_s, om_id]
  have pc : p ≤ 55 → pCode p = p + 1 := fun hq => by unfold pCode; rw [if_pos (by omega)]
  rcases Classical.em (p = 11 ∨ p = 18) with sp | sp
  · have p1 : 1 ≤ (aKind (pCode p)).length ∧ (aKind (pCode p)) = List.replicate (aKind (pCode p)).length 110 ∧ kLs.getD p [] = List.replicate (aKind (pCode p)).length 116 := by rcases sp with rfl | rfl <;> decide
    have hlen : vs.length = 1 ∨ vs.length = 2 := by rcases sp with rfl | rfl; exact Or.inl hl; exact Or.inr hl
    have pv := pc (by omega)
    rw [ap, p1.2.2]
    cases hf : aFits (aKind (pCode p)) vs with
    | false =>
      refine ⟨_, bad hf, ?_⟩
      have : rFits (List.replicate (aKind (pCode p)).length 116) (vs.take (List.replicate (aKind (pCode p)).length 116).length) = false := by
        rcases sp with rfl | rfl
        · obtain ⟨v, rfl⟩ := List.length_eq_one_iff.mp hl
          change (isN v && true) = false at hf
          show (isN v && decide (0 ≤ tNum v ∧ tNum v < 8) && true) = false
          rw [Bool.and_true] at hf
          rw [hf]; rfl
        · obtain ⟨v, u, rfl⟩ := len2 hl
          change (isN v && (isN u && true)) = false at hf
          show (isN v && decide (0 ≤ tNum v ∧ tNum v < 8) && (isN u && decide (0 ≤ tNum u ∧ tNum u < 8) && true)) = false
          cases hv9 : isN v with
          | false => rfl
          | true =>
            rw [hv9, Bool.true_and, Bool.and_true] at hf
            rw [hf]
            simp
      rw [this]
      exact vbad
    | true =>
      rw [good hf, if_pos (by omega), eC_G]
      refine ⟨_, rfl, ?_⟩
      cases hr9 : rFits (List.replicate (aKind (pCode p)).length 116) (vs.take (List.replicate (aKind (pCode p)).length 116).length) with
      | false =>
        have : aTurtle (pCode p) (tNum (vs.getD 0 .nil)) (tNum (vs.getD 1 .nil)) G = .error 3 := by
          rcases sp with rfl | rfl
          · obtain ⟨v, rfl⟩ := List.length_eq_one_iff.mp hl
            change (isN v && true) = true at hf
            change (isN v && decide (0 ≤ tNum v ∧ tNum v < 8) && true) = false at hr9
            rw [Bool.and_true] at hf hr9
            rw [hf, Bool.true_and] at hr9
            have := of_decide_eq_false hr9
            show (if tNum v < 0 ∨ 7 < tNum v then _ else _) = _
            rw [if_pos (by omega)]
          · obtain ⟨v, u, rfl⟩ := len2 hl
            change (isN v && (isN u && true)) = true at hf
            change (isN v && decide (0 ≤ tNum v ∧ tNum v < 8) && (isN u && decide (0 ≤ tNum u ∧ tNum u < 8) && true)) = false at hr9
            rw [Bool.and_true, Bool.and_eq_true] at hf
            rw [hf.1, hf.2, Bool.true_and, Bool.true_and, Bool.and_true, Bool.and_eq_false_iff] at hr9
            show (if tNum v < 0 ∨ 7 < tNum v ∨ tNum u < 0 ∨ 7 < tNum u then _ else _) = _
            rw [if_pos (by rcases hr9 with e | e <;> have := of_decide_eq_false e <;> omega)]
        rw [this]
        exact vbad
      | true =>
        rw [if_pos rfl, c18 (by omega)]
        have hb7 : (0 ≤ tNum (vs.getD 0 .nil) ∧ tNum (vs.getD 0 .nil) ≤ 7) ∧ (p = 18 → 0 ≤ tNum (vs.getD 1 .nil) ∧ tNum (vs.getD 1 .nil) ≤ 7) := by
          rcases sp with rfl | rfl
          · obtain ⟨v, rfl⟩ := List.length_eq_one_iff.mp hl
            change (isN v && decide (0 ≤ tNum v ∧ tNum v < 8) && true) = true at hr9
            rw [Bool.and_true, Bool.and_eq_true] at hr9
            have := of_decide_eq_true hr9.2
            exact ⟨⟨this.1, by show tNum v ≤ 7; omega⟩, fun e => by omega⟩
          · obtain ⟨v, u, rfl⟩ := len2 hl
            change (isN v && decide (0 ≤ tNum v ∧ tNum v < 8) && (isN u && decide (0 ≤ tNum u ∧ tNum u < 8) && true)) = true at hr9
            rw [Bool.and_true, Bool.and_eq_true, Bool.and_eq_true, Bool.and_eq_true] at hr9
            have t1 := of_decide_eq_true hr9.1.2
            have t2 := of_decide_eq_true hr9.2.2
            exact ⟨⟨t1.1, by show tNum v ≤ 7; omega⟩, fun _ => ⟨t2.1, by show tNum u ≤ 7; omega⟩⟩
        have := ap_tur (code := pCode p) hn h hgk (by omega) hf hx hy hx2 hy2 (fun _ => hb7.1) (fun e => hb7.2 (by omega))
        rw [pv] at this ⊢
        exact this
  rcases Classical.em (p = 48) with s48 | s48
  · subst s48
    have r9 : rFits (kLs.getD 48 []) (vs.take (kLs.getD 48 []).length) = true := by rw [kLs_11.2.2.1]; rfl
    rw [ap, r9, if_pos rfl]
    have e9 : apT n g i j a b (nI 48) (nI base) x y = m_Model_values n i j a b (nI 48) x y := by
      unfold apT
      rw [if_pos (by decide), if_pos (by decide), if_neg (by decide), om_id]
    rw [e9]
    have vj := VR_join (n := n) (by omega) h hm (hx (by decide)) (hy (by decide))
    refine ⟨_, ?_, vj⟩
    obtain ⟨v, u, rfl⟩ := len2 hl
    have ea : aFits (aKind (pCode 48)) [v, u] = (!isL v && (!isL u && true)) := rfl
    show _ = eC (if isL v || isL u then _ else _) G N F L
    cases h1 : isL v with
    | true =>
      rw [h1] at ea
      rw [bad (by rw [ea]; rfl)]
      rfl
    | false =>
      cases h2 : isL u with
      | true =>
        rw [h1, h2] at ea
        rw [bad (by rw [ea]; rfl)]
        rfl
      | false =>
        rw [h1, h2] at ea
        rw [good (by rw [ea]; rfl), if_neg (by decide), if_neg (by decide), if_pos (by decide), eC_M]
        rfl
  have hspec : p ≠ 11 ∧ p ≠ 18 ∧ p ≠ 48 ∧ p ≠ 65 := ⟨fun e => sp (Or.inl e), fun e => sp (Or.inr e), s48, fun e => by rw [e] at hpr; revert hpr; decide⟩
  rw [ap, hfe hspec]
  cases hf : aFits (aKind (pCode p)) vs with
  | false => exact ⟨_, bad hf, vbad⟩
  | true =>
    rw [if_pos rfl, good hf]
    have F1 : ∀ k c, (aKind (pCode p))[k]? = some c → aFit1 c (vs.getD k .nil) = true := fun k c hk => fitK _ vs k c hf hk
    rcases Nat.lt_or_ge p 19 with q1 | q1
    · have pv := pc (by omega)
      rw [if_pos (by omega), eC_G, c18 (by omega)]
      refine ⟨_, rfl, ?_⟩
      have := ap_tur (code := pCode p) hn h hgk (by omega) hf hx hy hx2 hy2 (fun e => by omega) (fun e => by omega)
      rw [pv] at this ⊢
      exact this
    rw [if_neg (show ¬ pCode p ≤ 19 by unfold pCode; split <;> (try split) <;> omega)]
    rcases Nat.lt_or_ge p 32 with q2 | q2
    · have pv := pc (by omega)
      have e9 : apT n g i j a b (nI p) (nI base) x y = (if nI p = (31 : Int32) then om (m_Model_equal n i j a b x y) (fun i j a b r => ob0 (m_Model_truth n i j a b r) (fun r => some (i, j, a, b, r))) else if nI p = (28 : Int32) then ob0 (m_Model_isTrue n i j a b x) (fun r_67 => if r_67 = ((0 : Int32)) then ob0 (m_Model_truth n i j a b (0 : Int32)) (fun r_70 => some (i, j, a, b, r_70)) else ob0 (m_Model_isTrue n i j a b y) (fun r_72 => if r_72 = ((0 : Int32)) then ob0 (m_Model_truth n i j a b (0 : Int32)) (fun r_75 => some (i, j, a, b, r_75)) else ob0 (m_Model_truth n i j a b (1 : Int32)) (fun r_77 => some (i, j, a, b, r_77)))) else if nI p = (29 : Int32) then ob0 (m_Model_isTrue n i j a b x) (fun r_59 => if r_59 = ((0 : Int32)) then ob0 (m_Model_isTrue n i j a b y) (fun r_62 => if r_62 = ((0 : Int32)) then ob0 (m_Model_truth n i j a b (0 : Int32)) (fun r_65 => some (i, j, a, b, r_65)) else m_Model_applied_b139 n g i j a b) else m_Model_applied_b139 n g i j a b) else if nI p = (30 : Int32) then ob0 (m_Model_isTrue n i j a b x) (fun r_52 => if r_52 = ((0 : Int32)) then ob0 (m_Model_truth n i j a b (1 : Int32)) (fun r_57 => some (i, j, a, b, r_57)) else ob0 (m_Model_truth n i j a b (0 : Int32)) (fun r_55 => some (i, j, a, b, r_55))) else m_Model_numbers n i j a b (nI p) x2 y2) := by
        unfold apT
        rw [show (18 : Int32) = nI 18 from rfl, ilt_p (by omega), if_neg (show ¬ (31 : Int32) < nI p from nI_nlt (a := 31) (by omega) (by omega)), hx2, ob0_s, hy2, ob0_s, om_id]
      rw [e9]
      have T0 := VR_truth (n := n) false h
      have T1 := VR_truth (n := n) true h
      rcases Nat.lt_or_ge p 28 with q3 | q3
      · obtain ⟨k1, k2, k3⟩ := kd0 (pCode p) (by omega) (by omega)
        obtain ⟨g1, g2, g3⟩ := numAt (n := n) (hx k2) (F1 0 110 k1)
        rw [hx2] at g1
        have g1 := Option.some.inj g1
        rw [if_pos (by omega), eC_G]
        refine ⟨_, rfl, ?_⟩
        rw [show (31 : Int32) = nI 31 from rfl, show (28 : Int32) = nI 28 from rfl, show (29 : Int32) = nI 29 from rfl, show (30 : Int32) = nI 30 from rfl, ieq_n (by omega), ieq_n (by omega), ieq_n (by omega), ieq_n (by omega), g1]
        have := VR_num (n := n) (code := pCode p) (x := tNum (vs.getD 0 .nil)) (y := tNum (vs.getD 1 .nil)) (y' := y2) (v := vs.getD 0 .nil) (u := vs.getD 1 .nil) h (by omega) ⟨g2, g3⟩ (fun e1 e2 => by
          obtain ⟨k4, k5⟩ := k3 e1 e2
          obtain ⟨f1, f2, f3⟩ := numAt (n := n) (hy k5) (F1 1 110 k4)
          rw [hy2] at f1
          exact ⟨Option.some.inj f1, f2, f3⟩)
        rw [pv] at this ⊢
        exact this
      rcases (by omega : p = 28 ∨ p = 29 ∨ p = 30 ∨ p = 31) with rfl | rfl | rfl | rfl
      · have i1 := r_isTrue (n := n) (i := i) (j := j) (by omega) (hx (by decide)) (fitB (F1 0 98 (by decide)))
        have i2 := r_isTrue (n := n) (i := i) (j := j) (by omega) (hy (by decide)) (fitB (F1 1 98 (by decide)))
        refine ⟨.ok (G, N, F, some (aTruth (tLet (vs.getD 0 .nil) == wTrue && tLet (vs.getD 1 .nil) == wTrue))), rfl, ?_⟩
        rw [if_neg (by decide), if_pos (by decide), i1, ob0_s]
        cases tLet (vs.getD 0 .nil) == wTrue with
        | false => rw [if_pos (by decide)]; exact T0
        | true =>
          rw [if_neg (by decide), i2, ob0_s]
          cases tLet (vs.getD 1 .nil) == wTrue with
          | false => rw [if_pos (by decide)]; exact T0
          | true => rw [if_neg (by decide)]; exact T1
      · have i1 := r_isTrue (n := n) (i := i) (j := j) (by omega) (hx (by decide)) (fitB (F1 0 98 (by decide)))
        have i2 := r_isTrue (n := n) (i := i) (j := j) (by omega) (hy (by decide)) (fitB (F1 1 98 (by decide)))
        refine ⟨.ok (G, N, F, some (aTruth (tLet (vs.getD 0 .nil) == wTrue || tLet (vs.getD 1 .nil) == wTrue))), rfl, ?_⟩
        rw [if_neg (by decide), if_neg (by decide), if_pos (by decide), i1, ob0_s]
        cases tLet (vs.getD 0 .nil) == wTrue with
        | true => rw [if_neg (by decide)]; exact T1
        | false =>
          rw [if_pos (by decide), i2, ob0_s]
          cases tLet (vs.getD 1 .nil) == wTrue with
          | false => rw [if_pos (by decide)]; exact T0
          | true => rw [if_neg (by decide)]; exact T1
      · have i1 := r_isTrue (n := n) (i := i) (j := j) (by omega) (hx (by decide)) (fitB (F1 0 98 (by decide)))
        refine ⟨.ok (G, N, F, some (aTruth (!(tLet (vs.getD 0 .nil) == wTrue)))), rfl, ?_⟩
        rw [if_neg (by decide), if_neg (by decide), if_neg (by decide), if_pos (by decide), i1, ob0_s]
        cases tLet (vs.getD 0 .nil) == wTrue with
        | false => rw [if_pos (by decide)]; exact T1
        | true => rw [if_neg (by decide)]; exact T0
      · refine ⟨.ok (G, N, F, some (aTruth (dec (vs.getD 0 .nil = vs.getD 1 .nil)))), rfl, ?_⟩
        rw [if_pos (by decide)]
        exact VR_equal (by omega) h (hx (by decide)) (hy (by decide))
    rcases Nat.lt_or_ge p 49 with q3 | q3
    · have pv := pc (by omega)
      obtain ⟨k1, k2, k3, k4, k5⟩ := kd1 (pCode p) (by omega) (by omega)
      have e9 : apT n g i j a b (nI p) (nI base) x y = m_Model_values n i j a b (nI p) x y := by
        unfold apT
        rw [show (18 : Int32) = nI 18 from rfl, ilt_p (by omega), if_pos (show (31 : Int32) < nI p from nI_lt (a := 31) (by omega) (by omega)), if_neg (show ¬ (48 : Int32) < nI p from nI_nlt (a := 48) (by omega) (by omega)), om_id]
      rw [if_neg (by omega), if_pos (by omega), eC_M, e9]
      refine ⟨_, rfl, ?_⟩
      have := VR_values (n := n) (code := pCode p) (y := y) (u := vs.getD 1 .nil) hn h hm (by omega) (hx k1) (k2.elim Or.inl (fun e => Or.inr (hy e))) (fun e => F1 0 108 (k3 e)) (fun e => ⟨F1 0 110 (k4 e).1, F1 1 108 (k4 e).2⟩) (fun e => F1 1 108 (k5 e))
      rw [pv] at this ⊢
      exact this
    rcases Nat.lt_or_ge p 56 with q4 | q4
    · have pv := pc (by omega)
      obtain ⟨k1, k2, k3, k4⟩ := kd2 (pCode p) (by omega) (by omega)
      have e9 : apT n g i j a b (nI p) (nI base) x y = m_Model_named n i j a b (nI p) x y := by
        unfold apT
        rw [show (18 : Int32) = nI 18 from rfl, ilt_p (by omega), if_pos (show (31 : Int32) < nI p from nI_lt (a := 31) (by omega) (by omega)), if_pos (show (48 : Int32) < nI p from nI_lt (a := 48) (by omega) (by omega)), if_neg (show ¬ (55 : Int32) < nI p from nI_nlt (a := 55) (by omega) (by omega)), om_id]
      rw [if_neg (by omega), if_neg (by omega), if_pos (by omega), eC_O, e9]
      refine ⟨_, rfl, ?_⟩
      have := VR_named (n := n) (code := pCode p) (y := y) (u := vs.getD 1 .nil) (by omega) h hF (by omega) (hx k1) (F1 0 119 k2) (fun e => hy (k3 e)) (fun e => F1 1 108 (k4 e))
      rw [pv] at this ⊢
      exact this
    have e9 : apT n g i j a b (nI p) (nI base) x y = m_Model_running n g' i j a b (nI p) x y (b 111 (base + 2)) := by
      unfold apT
      rw [show (18 : Int32) = nI 18 from rfl, ilt_p (by omega), if_pos (show (31 : Int32) < nI p from nI_lt (a := 31) (by omega) (by omega)), if_pos (show (48 : Int32) < nI p from nI_lt (a := 48) (by omega) (by omega)), if_pos (show (55 : Int32) < nI p from nI_lt (a := 55) (by omega) (by omega)), show nI base + (2 : Int32) = nI (base + 2) from nI_add base 2, ck_n (by omega), cl_n (by omega), hg6, om_id]
    rw [e9]
    have hlT : ∀ l ∈ L, lTurns l ≤ 1000000000 := fun l hl9 => (hlv.1 l hl9).2.2.2.2.1
    have rest : p = 60 ∨ p = 63 ∨ p = 70 ∨ p = 71 ∨ p = 72 ∨ p = 73 := by
      exact pRest p hp q4 hpr
    rcases rest with rfl | rfl | rfl | rfl | rfl | rfl
    · refine ⟨_, eC_R (v := vs.getD 0 .nil) (u := vs.getD 1 .nil) (z := vs.getD 2 .nil) (Or.inl rfl), VR_run (code := 64) h hca hr hlc hlv.2.1 hlT hlv.2.2.2.2.1 (Or.inl rfl)⟩
    · refine ⟨_, eC_R (v := vs.getD 0 .nil) (u := vs.getD 1 .nil) (z := vs.getD 2 .nil) (Or.inr (Or.inl rfl)), VR_run (code := 67) h hca hr hlc hlv.2.1 hlT hlv.2.2.2.2.1 (Or.inr (Or.inl rfl))⟩
    · refine ⟨_, eC_R (v := vs.getD 0 .nil) (u := vs.getD 1 .nil) (z := vs.getD 2 .nil) (Or.inr (Or.inr rfl)), VR_run (code := 74) h hca hr hlc hlv.2.1 hlT hlv.2.2.2.2.1 (Or.inr (Or.inr rfl))⟩
    · refine ⟨.ok (aPrint (vs.getD 0 .nil) true true G, N, F, none), rfl, ?_⟩
      have := VR_print (n := n) (g := g') (c := 71) (bare := true) (by omega) h hs (hx (by decide)) (Or.inl rfl)
      unfold m_Model_running
      rw [if_neg (by decide), if_neg (by decide), if_neg (by decide), if_neg (by decide), if_neg (by decide), if_neg (by decide), if_neg (by decide), if_neg (by decide), if_neg (by decide), if_neg (by decide), if_neg (by decide), if_neg (by decide), if_neg (by decide), if_neg (by decide), if_neg (by decide), if_neg (by decide)]
      exact this
    · refine ⟨.ok (aPrint (vs.getD 0 .nil) false true G, N, F, none), rfl, ?_⟩
      have := VR_print (n := n) (g := g') (c := 72) (bare := false) (by omega) h hs (hx (by decide)) (Or.inr (Or.inl rfl))
      unfold m_Model_running
      rw [if_neg (by decide), if_neg (by decide), if_neg (by decide), if_neg (by decide), if_neg (by decide), if_neg (by decide), if_neg (by decide), if_neg (by decide), if_neg (by decide), if_neg (by decide), if_neg (by decide), if_neg (by decide), if_neg (by decide), if_neg (by decide), if_neg (by decide), if_pos (by decide)]
      exact this
    · refine ⟨.ok (aPrint (vs.getD 0 .nil) true false G, N, F, none), rfl, ?_⟩
      have := VR_print (n := n) (g := g') (c := 73) (bare := true) (by omega) h hs (hx (by decide)) (Or.inr (Or.inr rfl))
      unfold m_Model_running
      rw [if_neg (by decide), if_neg (by decide), if_neg (by decide), if_neg (by decide), if_neg (by decide), if_neg (by decide), if_neg (by decide), if_neg (by decide), if_neg (by decide), if_neg (by decide), if_neg (by decide), if_neg (by decide), if_neg (by decide), if_neg (by decide), if_neg (by decide), if_neg (by decide)]
      exact this

