/-! what is said, and what levels tell -/
theorem VR_print {n : Nat} {g : GB} {i : Nat → Int32} {j : Nat → Int64} {a : Nat → Nat → Int32} {b : Nat → Nat → Int64} {B : RB4} {bd : Nat} {G : GS} {N : LN} {F : List Fr} {t : Tr} {x : Int64} {c : Nat} {bare : Bool} (hn : 50000 ≤ n) (h : rWo i j a b B bd G N F) (hs : (gOut G).length + 8001 * (20001 - nDone N) + 8001 < gOb G) (ht : rV a b B t none x) (hc : c = 71 ∨ c = 72 ∨ c = 73) : VR i j a b B bd G N F (.ok (aPrint t bare (decide (c ≠ 73)) G, N, F, none)) (m_Model_running_b404 n g i j a b (nI c) (b1 bare) x) := by
  obtain ⟨⟨w1, w2, w3⟩, w4, ⟨w5, w6, w7⟩, w8, ⟨w9, w10⟩, w11, ⟨w12, w13⟩, w14, ⟨w15, w16, w17⟩, w18, w19⟩ := id h
  have hob := gOb_le G
  obtain ⟨i1, a1, e1, e2, e3⟩ := r_show (n := n) (i := i) (j := j) (bare := bare) (by omega) (rWo_B h) ht
  obtain ⟨s1, s2⟩ := aShow_low ht bare
  have o1 : rOut j a1 (gOut G) := rOut_up w12 rfl (e3.2 45 (by decide) (by decide) (by decide))
  obtain ⟨j2, a2, f1, f2, f3, f4⟩ := r_print_b (n := n) (G := g) (i := i1) (b := b) (c := c) hc (by omega) s1 (aShow t bare).length 0 n j a1 (gOut G) (by omega) (by omega) e2 o1 (by omega)
  unfold m_Model_running_b404
  rw [e1, om_s, show (0 : Int32) = nI 0 from rfl, f1]
  rw [List.drop_zero] at f2
  have ha : ∀ q, q ∉ [24, 26, 27, 45] → a2 q = a q := fun q hq => (f4 q (nm_ne hq (by decide))).trans (e3.2 q (nm_ne hq (by decide)) (nm_ne hq (by decide)) (nm_ne hq (by decide)))
  have hi : ∀ q, q ≠ 25 → i1 q = i q := e3.1
  have hsm : rSame a a2 b b := ⟨ha 1 (by decide), ha 3 (by decide), ha 4 (by decide), ha 12 (by decide), ha 13 (by decide), ha 14 (by decide), rfl⟩
  have hu := rUp_same hsm (rWo_B h)
  have eo : gOut (aPrint t bare (decide (c ≠ 73)) G) = (aShow t bare ++ (if c = 73 then [] else [10])).reverse ++ gOut G := by
    show (aShow t bare ++ (if decide (c ≠ 73) = true then [10] else [])).reverse ++ gOut G = _
    rcases Classical.em (c = 73) with d | d
    · rw [if_pos d, if_neg (by simp [d])]
    · rw [if_neg d, if_pos (by simp [d])]
  refine ⟨i1, j2, a2, b, 3, B, rfl, hu, ⟨fun q hq => hi q (nm_ne hq (by decide)), fun q hq => f3 q (nm_ne hq (by decide)), fun q hq => ha q (fun hm => hq ((show ∀ q ∈ [24, 26, 27, 45], q ∈ chA by decide) q hm)), fun _ _ => rfl⟩, ⟨fun q hq => hi q (fun e => by subst e; revert hq; decide), fun q hq => ha q ((show ∀ q ∈ ctA, q ∉ [24, 26, 27, 45] by decide) q hq), fun _ _ => rfl⟩, hi 102 (by decide), ⟨⟨rB_i w1 (hi 18 (by decide)) (hi 19 (by decide)) (hi 20 (by decide)) (hi 21 (by decide)), rC_same hsm (ha 7 (by decide)) rfl (rWo_B h) w2, w3⟩, rTr_up hu w4 (f3 124 (by decide)) (f3 125 (by decide)), ⟨rFr_up hu F (fun x _ => by rw [ha 113 (by decide)]) (fun x _ => by rw [ha 114 (by decide)]; exact ⟨rfl, rfl⟩) w5, rCp_up (ha 112 (by decide)) F w6, (hi 99 (by decide)).trans w7⟩, rGl_up hu (hi 36 (by decide)) (fun m _ => by rw [ha 34 (by decide)]; exact ⟨rfl, rfl⟩) w8, ⟨rPr_up hu (hi 33 (by decide)) (fun m _ => by rw [ha 29 (by decide), ha 30 (by decide)]; exact ⟨rfl, rfl, rfl⟩) (fun m _ => by rw [ha 31 (by decide)]) w9, w10⟩, rTu_up w11 (fun q h1 h2 => ha q (by simp; omega)) (hi 47 (by decide)), ⟨by rw [eo]; exact f2, ?_⟩, (hi 46 (by decide)).trans w14, ⟨(hi 93 (by decide)).trans w15, (hi 95 (by decide)).trans w16, (hi 96 (by decide)).trans w17⟩, (f3 108 (by decide)).trans w18, w19⟩, rfl, gR_refl⟩
  rw [eo, List.length_append, List.length_reverse, List.length_append]
  have : (if c = 73 then ([] : List Nat) else [10]).length ≤ 1 := by split <;> simp
  show _ < gOb G
  omega
theorem rep_lem {a : Nat → Nat → Int32} {b : Nat → Nat → Int64} {B : RB4} : ∀ L : List Lv, rRow a b B L → (lvCn k3 L = 0 → lvNewest 3 3 L = none) ∧ (0 < lvCn k3 L → ∃ m, a 120 (lvCn k3 L - 1) = nI m ∧ m ≤ lvCalls L ∧ (m = lvCalls L → ∃ l, l ∈ L ∧ lvNewest 3 3 L = some l ∧ a 119 (lvCn k3 L - 1) = nI (lTurns l)) ∧ (m < lvCalls L → lvNewest 3 3 L = none)) := by
  intro L
  induction L with
  | nil => intro _; exact ⟨fun _ => rfl, fun h => absurd h (Nat.lt_irrefl 0)⟩
  | cons l R ih =>
    intro h
    obtain ⟨h1, h2, h3, h4⟩ := h
    obtain ⟨i1, i2⟩ := ih h4
    have c3 : lvCn k3 (l :: R) = (if k3 (lK l) then 1 else 0) + lvCn k3 R := rfl
    have cc : lvCalls (l :: R) = (if lK l = 1 then 1 else 0) + lvCalls R := rfl
    rcases (by omega : lK l = 1 ∨ lK l = 3 ∨ (lK l ≠ 1 ∧ lK l ≠ 3)) with e | e | ⟨e, e'⟩
    · have en : lvNewest 3 3 (l :: R) = none := by rw [lvNewest, if_pos e]
      rw [if_neg (by rw [e]; decide)] at c3
      rw [if_pos e] at cc
      rw [Nat.zero_add] at c3
      rw [c3]
      refine ⟨fun _ => en, fun hp => ?_⟩
      obtain ⟨m, g1, g2, g3, g4⟩ := i2 hp
      exact ⟨m, g1, by omega, fun hm => by omega, fun _ => en⟩
    · have en : lvNewest 3 3 (l :: R) = some l := by rw [lvNewest, if_neg (by omega), if_pos (Or.inl e)]
      rw [if_pos (by rw [e]; rfl)] at c3
      rw [if_neg (by omega), Nat.zero_add] at cc
      refine ⟨fun hz => by omega, fun hp => ?_⟩
      rw [c3, Nat.add_sub_cancel_left, cc]
      exact ⟨lvCalls R, (h1 e).2, Nat.le_refl _, fun _ => ⟨l, List.mem_cons_self, en, (h1 e).1⟩, fun hm => absurd hm (Nat.lt_irrefl _)⟩
    · have en : lvNewest 3 3 (l :: R) = lvNewest 3 3 R := by rw [lvNewest, if_neg e, if_neg (by omega)]
      rw [if_neg (by unfold k3; simp; omega), Nat.zero_add] at c3
      rw [if_neg e, Nat.zero_add] at cc
      rw [c3, cc, en]
      refine ⟨i1, fun hp => ?_⟩
      obtain ⟨m, g1, g2, g3, g4⟩ := i2 hp
      refine ⟨m, g1, g2, fun hm => ?_, g4⟩
      obtain ⟨x, x1, x2, x3⟩ := g3 hm
      exact ⟨x, List.mem_cons_of_mem _ x1, x2, x3⟩
theorem each_lem {a : Nat → Nat → Int32} {b : Nat → Nat → Int64} {B : RB4} : ∀ L : List Lv, rRow a b B L → (lvCn k5 L = 0 → lvNewest 5 10 L = none) ∧ (0 < lvCn k5 L → ∃ m, a 121 (lvCn k5 L - 1) = nI m ∧ m ≤ lvCalls L ∧ (m = lvCalls L → ∃ l x, lvNewest 5 10 L = some l ∧ (tMem (lOth l))[lTurns l - 1]? = some x ∧ rV a b B x none (b 122 (lvCn k5 L - 1))) ∧ (m < lvCalls L → lvNewest 5 10 L = none)) := by
  intro L
  induction L with
  | nil => intro _; exact ⟨fun _ => rfl, fun h => absurd h (Nat.lt_irrefl 0)⟩
  | cons l R ih =>
    intro h
    obtain ⟨h1, h2, h3, h4⟩ := h
    obtain ⟨i1, i2⟩ := ih h4
    have c3 : lvCn k5 (l :: R) = (if k5 (lK l) then 1 else 0) + lvCn k5 R := rfl
    have cc : lvCalls (l :: R) = (if lK l = 1 then 1 else 0) + lvCalls R := rfl
    rcases (by omega : lK l = 1 ∨ (lK l = 5 ∨ lK l = 10) ∨ (lK l ≠ 1 ∧ lK l ≠ 5 ∧ lK l ≠ 10)) with e | e | ⟨e, e', e2⟩
    · have en : lvNewest 5 10 (l :: R) = none := by rw [lvNewest, if_pos e]
      rw [if_neg (by rw [e]; decide)] at c3
      rw [if_pos e] at cc
      rw [Nat.zero_add] at c3
      rw [c3]
      refine ⟨fun _ => en, fun hp => ?_⟩
      obtain ⟨m, g1, g2, g3, g4⟩ := i2 hp
      exact ⟨m, g1, by omega, fun hm => by omega, fun _ => en⟩
    · have en : lvNewest 5 10 (l :: R) = some l := by rw [lvNewest, if_neg (by omega), if_pos e]
      rw [if_pos (by rcases e with e | e <;> rw [e] <;> rfl)] at c3
      rw [if_neg (by omega), Nat.zero_add] at cc
      refine ⟨fun hz => by omega, fun hp => ?_⟩
      rw [c3, Nat.add_sub_cancel_left, cc]
      obtain ⟨f1, x, f2, f3⟩ := h2 e
      exact ⟨lvCalls R, f1, Nat.le_refl _, fun _ => ⟨l, x, en, f2, f3⟩, fun hm => absurd hm (Nat.lt_irrefl _)⟩
    · have en : lvNewest 5 10 (l :: R) = lvNewest 5 10 R := by rw [lvNewest, if_neg e, if_neg (by omega)]
      rw [if_neg (by unfold k5; simp; omega), Nat.zero_add] at c3
      rw [if_neg e, Nat.zero_add] at cc
      rw [c3, cc, en]
      exact ⟨i1, i2⟩
/-- what running words without a level of their own give -/
def rRun (code : Nat) (G : GS) (N : LN) (F : List Fr) (L : List Lv) : VRes :=
  if code = 64 then .ok (G, N, F, some (tN (match lvNewest 3 3 L with
    | none => 0
    | some l => (lTurns l : Int))))
  else if code = 67 then (match lvNewest 5 10 L with
    | none => .error 1
    | some l => match (tMem (lOth l))[lTurns l - 1]? with
      | none => .error 1
      | some x => .ok (G, N, F, some x))
  else .ok (G, nSetCaught N 0, F, some (tN (nCaught N)))
theorem eC_R {code : Nat} {v u z : Tr} {G : GS} {N : LN} {F : List Fr} {L : List Lv} (hc : code = 64 ∨ code = 67 ∨ code = 74) : aRunning code v u z G N F L = eC (rRun code G N F L) G N F L := by
  rcases hc with rfl | rfl | rfl
  · rfl
  · show (match lvNewest 5 10 L with | none => _ | some l => _) = eC (match lvNewest 5 10 L with | none => _ | some l => _) G N F L
    cases lvNewest 5 10 L with
    | none => rfl
    | some l =>
      dsimp only
      cases (tMem (lOth l))[lTurns l - 1]? with
      | none => rfl
      | some x => rfl
  · rfl
theorem rI_pred {k : Nat} (h : 0 < k) (h2 : k < 100000) : nI k - (1 : Int32) = nI (k - 1) := by rw [show (1 : Int32) = nI 1 from rfl]; exact sub_n (by omega)
theorem VR_run {n : Nat} {g : GB} {i : Nat → Int32} {j : Nat → Int64} {a : Nat → Nat → Int32} {b : Nat → Nat → Int64} {B : RB4} {bd : Nat} {G : GS} {N : LN} {F : List Fr} {L : List Lv} {code : Nat} {x y z : Int64} (h : rWo i j a b B bd G N F) (hN : nCaught N ≤ 13) (hr : rRow a b B L) (hl : rLc i L) (hL : L.length ≤ 150) (hk : ∀ l ∈ L, lTurns l ≤ 1000000000) (hF : F.length = lvCalls L) (hc : code = 64 ∨ code = 67 ∨ code = 74) : VR i j a b B bd G N F (rRun code G N F L) (m_Model_running n g i j a b (nI (code - 4)) x y z) := by
  obtain ⟨⟨w1, w2, w3⟩, w4, ⟨w5, w6, w7⟩, w8, ⟨w9, w10⟩, w11, ⟨w12, w13⟩, w14, ⟨w15, w16, w17⟩, w18, w19⟩ := id h
  obtain ⟨l1, l2, l3, l4⟩ := hl
  have b3 := lvCn_le k3 L
  have b5 := lvCn_le k5 L
  have bc := lvCalls_le L
  rcases hc with rfl | rfl | rfl
  · obtain ⟨r1, r2⟩ := rep_lem L hr
    unfold m_Model_running
    rw [show (64 - 4 : Nat) = 60 from rfl, if_neg (by decide), if_neg (by decide), if_neg (by decide), if_neg (by decide), if_pos (by decide), l3, show (0 : Int32) = nI 0 from rfl]
    rcases Nat.eq_zero_or_pos (lvCn k3 L) with c | c
    · rw [ile_p (by omega)]
      show VR i j a b B bd G N F (.ok (G, N, F, some (tN (match lvNewest 3 3 L with | none => 0 | some l => (lTurns l : Int))))) _
      rw [r1 c]
      rw [show nI 0 = Int32.ofInt 0 from rfl, r_number (by decide) (by decide), ob0_s]
      exact VR_v h rfl (show rV a b B (tN 0) none (vN 0) from rV_tN.mpr ⟨by decide, by decide, rfl⟩)
    · obtain ⟨m, g1, g2, g3, g4⟩ := r2 c
      rw [ile_n (by omega), rI_pred c (by omega), ck_n (by omega), cl_n (by omega), g1, w7, ck_n (by omega)]
      show VR i j a b B bd G N F (.ok (G, N, F, some (tN (match lvNewest 3 3 L with | none => 0 | some l => (lTurns l : Int))))) _
      rcases (by omega : m = lvCalls L ∨ m < lvCalls L) with d | d
      · obtain ⟨q, q0, q1, q2⟩ := g3 d
        have := hk q q0
        rw [ieq_p (by omega), q1, q2, nI_ofInt, r_number (by omega) (by omega), ob0_s]
        exact VR_v h rfl (show rV a b B (tN (lTurns q : Int)) none (vN (lTurns q : Int)) from rV_tN.mpr ⟨by omega, by omega, rfl⟩)
      · rw [ieq_n (by omega), g4 d, show nI 0 = Int32.ofInt 0 from rfl, r_number (by decide) (by decide), ob0_s]
        exact VR_v h rfl (show rV a b B (tN 0) none (vN 0) from rV_tN.mpr ⟨by decide, by decide, rfl⟩)
  · obtain ⟨r1, r2⟩ := each_lem L hr
    unfold m_Model_running
    rw [show (67 - 4 : Nat) = 63 from rfl, if_neg (by decide), if_neg (by decide), if_neg (by decide), if_neg (by decide), if_neg (by decide), if_neg (by decide), if_neg (by decide), if_pos (by decide), l4, show (0 : Int32) = nI 0 from rfl]
    show VR i j a b B bd G N F (match lvNewest 5 10 L with | none => .error 1 | some l => match (tMem (lOth l))[lTurns l - 1]? with | none => .error 1 | some x => .ok (G, N, F, some x)) _
    rcases Nat.eq_zero_or_pos (lvCn k5 L) with c | c
    · rw [ile_p (by omega), r1 c]
      exact VR_fail h rfl
    · obtain ⟨m, g1, g2, g3, g4⟩ := r2 c
      rw [ile_n (by omega), rI_pred c (by omega), ck_n (by omega), cl_n (by omega), g1, w7, ck_n (by omega)]
      rcases (by omega : m = lvCalls L ∨ m < lvCalls L) with d | d
      · obtain ⟨q, y, q1, q2, q3⟩ := g3 d
        rw [ieq_p (by omega), q1]
        dsimp only
        rw [q2]
        exact VR_v h rfl q3
      · rw [ieq_n (by omega), g4 d]
        exact VR_fail h rfl
  · unfold m_Model_running
    rw [show (74 - 4 : Nat) = 70 from rfl, if_neg (by decide), if_neg (by decide), if_neg (by decide), if_neg (by decide), if_neg (by decide), if_neg (by decide), if_neg (by decide), if_neg (by decide), if_neg (by decide), if_neg (by decide), if_neg (by decide), if_neg (by decide), if_neg (by decide), if_neg (by decide), if_pos (by decide), ob1_s, ob1_s, w16, nI_ofInt, r_number (by omega) (by omega), ob0_s]
    have hi : ∀ q, q ≠ 95 → upd i 95 0 q = i q := fun q hq => upd_ne hq
    refine ⟨upd i 95 0, j, a, b, _, B, rfl, rUp_refl (rWo_B h), rFm_i (by decide), ⟨fun q hq => hi q (fun e => by subst e; revert hq; decide), fun _ _ => rfl, fun _ _ => rfl⟩, hi 102 (by decide), ⟨⟨rB_i w1 (hi 18 (by decide)) (hi 19 (by decide)) (hi 20 (by decide)) (hi 21 (by decide)), w2, w3⟩, w4, ⟨w5, w6, (hi 99 (by decide)).trans w7⟩, rGl_up (rUp_refl (rWo_B h)) (hi 36 (by decide)) (fun _ _ => ⟨rfl, rfl⟩) w8, ⟨rPr_up (rUp_refl (rWo_B h)) (hi 33 (by decide)) (fun _ _ => ⟨rfl, rfl, rfl⟩) (fun _ _ => rfl) w9, w10⟩, rTu_up w11 (fun _ _ _ => rfl) (hi 47 (by decide)), ⟨w12, w13⟩, (hi 46 (by decide)).trans w14, ⟨(hi 93 (by decide)).trans w15, upd_at, (hi 96 (by decide)).trans w17⟩, w18, w19⟩, ?_, gR_refl⟩
    exact (show rV a b B (tN (nCaught N : Int)) none (vN (nCaught N : Int)) from rV_tN.mpr ⟨by omega, by omega, rfl⟩)

