/-! the words of values -/
theorem aItem_cases (k : Int) (l : Tr) : (∃ t, aItem k l = .ok t) ∨ aItem k l = .error 3 := by
  unfold aItem
  split
  · split
    · exact Or.inl ⟨_, rfl⟩
    · exact Or.inr rfl
  · exact Or.inr rfl
theorem nSetMade_self (n : LN) : nSetMade n (nMade n) = n := rfl
theorem h_valueWord {n : Nat} {g : Nat → Nat} {i : Nat → Int32} {a : Nat → Nat → Int32} {T : Nat} {G : GS} {N : LN} {F : List Fr} {L : List Lv} {vs : List Tr} {T0 code : Nat} {v u : Tr} (hn : 300000 ≤ n) (h : INP g i a T G N F L vs) (h1 : 32 ≤ code) (h2 : code ≤ 49) (hv : vs.getD 0 .nil = v) (hu : vs.getD 1 .nil = u) (hl : vs.length = (aKind code).length) (hf : aFits (aKind code) vs = true) (hr : T + mapPot L ≤ T0 + 3 * nMade N) (hT0 : T0 ≤ 250000) : TG n g T T0 (m_Deeds_valueWord n g i a (nI code)) (retM G N F L (aValue code v u (nMade N))) := by
  obtain ⟨x0, q1, _⟩ := h_input (n := n) (k := 0) h (by decide)
  obtain ⟨y0, q3, _⟩ := h_input (n := n) (k := 1) h (by decide)
  have hI := h
  obtain ⟨hc, hl9, hg, hNn, h44, h43, h46, hroom, hvs⟩ := h
  obtain ⟨a1, a2, a3, a4, a5, a6, a7, a8, a9⟩ := hc.1
  have in0 : ∀ c, (aKind code)[0]? = some c → cV (a 0) T v none x0 ∧ aFit1 c v = true ∧ vs[0]? = some v := by
    intro c hc9
    obtain ⟨x, p1, p2, p3, p4⟩ := h_in (n := n) hI hl hf hv hc9 (by decide)
    rw [q1] at p1
    cases p1
    exact ⟨p2, p3, p4⟩
  have in1 : ∀ c, (aKind code)[1]? = some c → cV (a 0) T u none y0 ∧ aFit1 c u = true := by
    intro c hc9
    obtain ⟨x, p1, p2, p3, p4⟩ := h_in (n := n) hI hl hf hu hc9 (by decide)
    rw [q3] at p1
    cases p1
    exact ⟨p2, p3⟩
  have val : ∀ (r : Except Nat Tr) (a' : Nat → Nat → Int32) (y : Int32) (o : Option ((Nat → Int32) × (Nat → Nat → Int32) × (Nat → Nat) × (Nat × Nat) × Int32)), CI g i a' T G N F L → o = some (i, a', g, (0, 0), y) → gV (a' 0) T (match r with
      | .ok t => .ok (some t)
      | .error e => .error e) y → rsOk (match r with
      | .ok t => .ok (some t)
      | .error e => .error e) → TG n g T T0 o (retM G N F L (match r with
      | .ok t => .ok (nMade N, t)
      | .error e => .error e)) := by
    intro r a' y o hci ho hy hr9
    have ht := TK_gv (n := n) (o := some (i, a', y)) rfl (by omega) hci hl9 h44 h43 hy hr9
    have := TG_of ht a5 hr (aTake_mp _ _ _ _ _)
    rw [ob_s, ← ho] at this
    cases r with
    | ok t => exact this
    | error e => exact this
  have bol : ∀ (b : Bool) (a' : Nat → Nat → Int32) (o : Option ((Nat → Int32) × (Nat → Nat → Int32) × (Nat → Nat) × (Nat × Nat) × Int32)), CI g i a' T G N F L → o = ob0 (m_Heap_truth n g i a' (b1 b)) (fun r => some (i, a', g, (0, 0), r)) → TG n g T T0 o (retM G N F L (.ok (nMade N, aTruth b))) := by
    intro b a' o hci ho
    obtain ⟨y, p1, p2⟩ := h_truth (n := n) (b := b) hci
    rw [p1, ob0_s] at ho
    exact val (.ok (aTruth b)) a' y o hci ho p2 trivial
  have num : ∀ (z : Int) (o : Option ((Nat → Int32) × (Nat → Nat → Int32) × (Nat → Nat) × (Nat × Nat) × Int32)), -1000000000 ≤ z → z ≤ 1000000000 → o = some (i, a, g, (0, 0), hN z) → TG n g T T0 o (retM G N F L (.ok (nMade N, tN z))) := by
    intro z o hz1 hz2 ho
    exact val (.ok (tN z)) a (hN z) o hc ho (cV_num hz1 hz2) trivial
  have itm : ∀ (k : Int) (l : Tr) (x kk : Int32) (o : Option ((Nat → Int32) × (Nat → Nat → Int32) × (Nat → Nat) × (Nat × Nat) × Int32)), cV (a 0) T l none x → isL l = true → kk = Int32.ofInt k → -1000000000 ≤ k → k ≤ 1000000000 → o = ob0 (m_Deeds_item n g i a kk x) (fun r => some (i, a, g, (0, 0), r)) → TG n g T T0 o (retM G N F L (match aItem k l with
      | .ok t => .ok (nMade N, t)
      | .error e => .error e)) := by
    intro k l x kk o hx hli hk hk1 hk2 ho
    obtain ⟨y, p1, p2⟩ := h_item (n := n) hc hx hli hk hk1 hk2
    rw [p1, ob0_s] at ho
    refine val (aItem k l) a y o hc ho p2 ?_
    rcases aItem_cases k l with ⟨t, e⟩ | e
    · rw [e]; trivial
    · rw [e]; exact ⟨by decide, by decide⟩
  have grow : ∀ (o : Option ((Nat → Int32) × (Nat → Nat → Int32) × (Nat → Nat) × (Nat × Nat) × Int32)) (c : Cfg), TG n g T T0 o c → TG n g T T0 (obG o (fun i a g r => some (i, a, g, (0, 0), r))) c := by
    rintro o c ⟨i', a', g', k, x, i2, T', p1, p2, p3, p4, p5⟩
    refine ⟨i', a', g', (k.1 + 0, k.2 + 0), x, i2, T', ?_, p2, p3, by rw [Nat.add_zero, Nat.add_zero]; exact p4, p5⟩
    rw [p1]
    refine obG_s (k' := (0, 0)) ?_
    rfl
  unfold m_Deeds_valueWord
  rw [show (0 : Int32) = nI 0 from rfl, show (1 : Int32) = nI 1 from rfl, q1, ob0_s, q3, ob0_s]
  rcases (by omega : code = 32 ∨ code = 33 ∨ code = 34 ∨ code = 35 ∨ code = 36 ∨ code = 37 ∨ code = 38 ∨ code = 39 ∨ code = 40 ∨ code = 41 ∨ code = 42 ∨ code = 43 ∨ code = 44 ∨ code = 45 ∨ code = 46 ∨ code = 47 ∨ code = 48 ∨ code = 49) with rfl | rfl | rfl | rfl | rfl | rfl | rfl | rfl | rfl | rfl | rfl | rfl | rfl | rfl | rfl | rfl | rfl | rfl
  · obtain ⟨p1, p2, p3⟩ := in0 118 rfl
    obtain ⟨r1, r2⟩ := in1 118 rfl
    obtain ⟨g2, g3, g4, w⟩ := h_equal (n := n) (i := i) a3 a5 hn p1 r1
    rw [if_pos (show nI 32 = (32 : Int32) from rfl), w, ob_s]
    show TG n g T T0 _ (retM G N F L (aValue 32 v u (nMade N)))
    unfold aValue
    simp only [Nat.reduceEqDiff, if_true, if_false]
    exact bol (dec (v = u)) _ _ (CI_eq hc) rfl
  · obtain ⟨p1, p2, p3⟩ := in0 118 rfl
    obtain ⟨kw, kl, kn⟩ := cV_kinds (by omega) p1 n
    rw [if_neg (show ¬ nI 33 = (32 : Int32) by decide), if_pos (show nI 33 = (33 : Int32) from rfl), kl, ob0_s]
    show TG n g T T0 _ (retM G N F L (aValue 33 v u (nMade N)))
    unfold aValue
    simp only [Nat.reduceEqDiff, if_true, if_false]
    exact bol (isL v) _ _ hc rfl
  · obtain ⟨p1, p2, p3⟩ := in0 118 rfl
    obtain ⟨kw, kl, kn⟩ := cV_kinds (by omega) p1 n
    rw [if_neg (show ¬ nI 34 = (32 : Int32) by decide), if_neg (show ¬ nI 34 = (33 : Int32) by decide), if_pos (show nI 34 = (34 : Int32) from rfl), kw, ob0_s]
    show TG n g T T0 _ (retM G N F L (aValue 34 v u (nMade N)))
    unfold aValue
    simp only [Nat.reduceEqDiff, if_true, if_false]
    exact bol (isW v) _ _ hc rfl
  · obtain ⟨p1, p2, p3⟩ := in0 118 rfl
    obtain ⟨kw, kl, kn⟩ := cV_kinds (by omega) p1 n
    rw [if_neg (show ¬ nI 35 = (32 : Int32) by decide), if_neg (show ¬ nI 35 = (33 : Int32) by decide), if_neg (show ¬ nI 35 = (34 : Int32) by decide), if_pos (show nI 35 = (35 : Int32) from rfl), kn, ob0_s]
    show TG n g T T0 _ (retM G N F L (aValue 35 v u (nMade N)))
    unfold aValue
    simp only [Nat.reduceEqDiff, if_true, if_false]
    exact bol (isN v) _ _ hc rfl
  · obtain ⟨p1, p2, p3⟩ := in0 118 rfl
    obtain ⟨kw, kl, kn⟩ := cV_kinds (by omega) p1 n
    have hcnt := h_count (n := n) (i := i) a3 a5 p1
    rw [if_neg (show ¬ nI 36 = (32 : Int32) by decide), if_neg (show ¬ nI 36 = (33 : Int32) by decide), if_neg (show ¬ nI 36 = (34 : Int32) by decide), if_neg (show ¬ nI 36 = (35 : Int32) by decide), if_pos (show nI 36 = (36 : Int32) from rfl), kl, ob0_s]
    show TG n g T T0 _ (retM G N F L (aValue 36 v u (nMade N)))
    unfold aValue
    simp only [Nat.reduceEqDiff, if_true, if_false]
    cases hh : isL v with
    | false =>
      rw [b1_f, if_pos rfl, h_num (nI_ofInt 1), ob0_s, if_neg (by decide)]
      exact num 1 _ (by decide) (by decide) rfl
    | true =>
      have hc6 := cV_cnt p1 hh
      rw [b1_t, if_neg (by decide), hcnt, ob0_s, h_num (nI_ofInt (tMem v).length), ob0_s, if_pos rfl]
      exact num (tMem v).length _ (by omega) (by omega) rfl
  · obtain ⟨p1, p2, p3⟩ := in0 108 rfl
    have hcnt := h_count (n := n) (i := i) a3 a5 p1
    have hc6 := cV_cnt p1 p2
    rw [if_neg (show ¬ nI 37 = (32 : Int32) by decide), if_neg (show ¬ nI 37 = (33 : Int32) by decide), if_neg (show ¬ nI 37 = (34 : Int32) by decide), if_neg (show ¬ nI 37 = (35 : Int32) by decide), if_neg (show ¬ nI 37 = (36 : Int32) by decide), if_pos (show nI 37 = (37 : Int32) from rfl), hcnt, ob0_s]
    show TG n g T T0 _ (retM G N F L (aValue 37 v u (nMade N)))
    unfold aValue
    simp only [Nat.reduceEqDiff, if_true, if_false]
    rcases Classical.em (tMem v = []) with he | he
    · rw [he, if_pos (show nI ([] : List Tr).length = nI 0 from rfl)]
      exact bol true _ _ hc rfl
    · rw [if_neg (show ¬ nI (tMem v).length = nI 0 from fun e => he (List.length_eq_zero_iff.mp ((nI_eq (by omega) (by omega)).mp e)))]
      have eb : (tMem v).isEmpty = false := by
        cases hm : tMem v with
        | nil => exact absurd hm he
        | cons z zs => rfl
      rw [eb]
      exact bol false _ _ hc rfl
  · obtain ⟨p1, p2, p3⟩ := in0 108 rfl
    rw [if_neg (show ¬ nI 38 = (32 : Int32) by decide), if_neg (show ¬ nI 38 = (33 : Int32) by decide), if_neg (show ¬ nI 38 = (34 : Int32) by decide), if_neg (show ¬ nI 38 = (35 : Int32) by decide), if_neg (show ¬ nI 38 = (36 : Int32) by decide), if_neg (show ¬ nI 38 = (37 : Int32) by decide), if_pos (show nI 38 = (38 : Int32) from rfl)]
    show TG n g T T0 _ (retM G N F L (aValue 38 v u (nMade N)))
    unfold aValue
    simp only [Nat.reduceEqDiff, if_true, if_false]
    exact itm 1 v x0 (nI 1) _ p1 p2 (nI_ofInt 1) (by decide) (by decide) rfl
  · obtain ⟨p1, p2, p3⟩ := in0 108 rfl
    have hcnt := h_count (n := n) (i := i) a3 a5 p1
    have hc6 := cV_cnt p1 p2
    rw [if_neg (show ¬ nI 39 = (32 : Int32) by decide), if_neg (show ¬ nI 39 = (33 : Int32) by decide), if_neg (show ¬ nI 39 = (34 : Int32) by decide), if_neg (show ¬ nI 39 = (35 : Int32) by decide), if_neg (show ¬ nI 39 = (36 : Int32) by decide), if_neg (show ¬ nI 39 = (37 : Int32) by decide), if_neg (show ¬ nI 39 = (38 : Int32) by decide), if_pos (show nI 39 = (39 : Int32) from rfl), hcnt, ob0_s]
    show TG n g T T0 _ (retM G N F L (aValue 39 v u (nMade N)))
    unfold aValue
    simp only [Nat.reduceEqDiff, if_true, if_false]
    exact itm (tMem v).length v x0 (nI (tMem v).length) _ p1 p2 (nI_ofInt _) (by omega) (by omega) rfl
  · obtain ⟨p1, p2, p3⟩ := in0 108 rfl
    have ev := isL_eq p1 p2
    rw [ev] at p1
    have hcnt2 := h_count (n := n) (i := i) a3 a5 p1
    rw [tMem_tL] at hcnt2
    have hc6 := cV_cnt p1 (isL_tL _)
    rw [tMem_tL] at hc6
    rw [if_neg (show ¬ nI 40 = (32 : Int32) by decide), if_neg (show ¬ nI 40 = (33 : Int32) by decide), if_neg (show ¬ nI 40 = (34 : Int32) by decide), if_neg (show ¬ nI 40 = (35 : Int32) by decide), if_neg (show ¬ nI 40 = (36 : Int32) by decide), if_neg (show ¬ nI 40 = (37 : Int32) by decide), if_neg (show ¬ nI 40 = (38 : Int32) by decide), if_neg (show ¬ nI 40 = (39 : Int32) by decide), if_pos (show nI 40 = (40 : Int32) from rfl)]
    show TG n g T T0 _ (retM G N F L (aValue 40 v u (nMade N)))
    unfold aValue
    simp only [Nat.reduceEqDiff, if_true, if_false]
    rcases Classical.em (tMem v = []) with he | he
    · rw [if_pos he]
      refine val (.error 3) a (-nI 2147483645) _ hc ?_ rfl ⟨by decide, by decide⟩
      rw [he] at hcnt2
      unfold m_Deeds_without
      rw [hcnt2, ob0_s, ob1_s, show nI ([] : List Tr).length - 1 = -nI 1 from by decide, if_neg (by decide)]
      refine obG_s (k := (0, 0)) (k' := (0, 0)) ?_
      rfl
    · rw [if_neg he]
      have hp : 1 ≤ (tMem v).length := by
        rcases Nat.eq_zero_or_pos (tMem v).length with h0 | h0
        · exact absurd (List.length_eq_zero_iff.mp h0) he
        · exact h0
      have hh := h_without (n := n) (T0 := T0) (gone := 0) (first := 1) (by omega) hc hl9 hNn h44 h43 hr hT0 p1 he (Or.inl ⟨rfl, rfl⟩)
      rw [if_pos rfl] at hh
      
      exact grow _ _ hh
  · obtain ⟨p1, p2, p3⟩ := in0 108 rfl
    have ev := isL_eq p1 p2
    rw [ev] at p1
    have hcnt2 := h_count (n := n) (i := i) a3 a5 p1
    rw [tMem_tL] at hcnt2
    have hc6 := cV_cnt p1 (isL_tL _)
    rw [tMem_tL] at hc6
    rw [if_neg (show ¬ nI 41 = (32 : Int32) by decide), if_neg (show ¬ nI 41 = (33 : Int32) by decide), if_neg (show ¬ nI 41 = (34 : Int32) by decide), if_neg (show ¬ nI 41 = (35 : Int32) by decide), if_neg (show ¬ nI 41 = (36 : Int32) by decide), if_neg (show ¬ nI 41 = (37 : Int32) by decide), if_neg (show ¬ nI 41 = (38 : Int32) by decide), if_neg (show ¬ nI 41 = (39 : Int32) by decide), if_neg (show ¬ nI 41 = (40 : Int32) by decide), if_pos (show nI 41 = (41 : Int32) from rfl), hcnt2, ob0_s]
    show TG n g T T0 _ (retM G N F L (aValue 41 v u (nMade N)))
    unfold aValue
    simp only [Nat.reduceEqDiff, if_true, if_false]
    rcases Classical.em (tMem v = []) with he | he
    · rw [if_pos he]
      refine val (.error 3) a (-nI 2147483645) _ hc ?_ rfl ⟨by decide, by decide⟩
      rw [he] at hcnt2
      unfold m_Deeds_without
      rw [hcnt2, ob0_s, ob1_s, show nI ([] : List Tr).length - 1 = -nI 1 from by decide, if_neg (by decide)]
      refine obG_s (k := (0, 0)) (k' := (0, 0)) ?_
      rfl
    · rw [if_neg he]
      have hp : 1 ≤ (tMem v).length := by
        rcases Nat.eq_zero_or_pos (tMem v).length with h0 | h0
        · exact absurd (List.length_eq_zero_iff.mp h0) he
        · exact h0
      have hh := h_without (n := n) (T0 := T0) (gone := ((tMem v).length - 1)) (first := 0) (by omega) hc hl9 hNn h44 h43 hr hT0 p1 he (Or.inr ⟨rfl, rfl⟩)
      rw [if_neg (by decide)] at hh
      rw [sub_n hp]
      exact grow _ _ hh
  · obtain ⟨p1, p2, p3⟩ := in0 110 rfl
    obtain ⟨r1, r2⟩ := in1 108 rfl
    obtain ⟨w1, w2, w3, w4⟩ := isN_num p1 p2
    rw [if_neg (show ¬ nI 42 = (32 : Int32) by decide), if_neg (show ¬ nI 42 = (33 : Int32) by decide), if_neg (show ¬ nI 42 = (34 : Int32) by decide), if_neg (show ¬ nI 42 = (35 : Int32) by decide), if_neg (show ¬ nI 42 = (36 : Int32) by decide), if_neg (show ¬ nI 42 = (37 : Int32) by decide), if_neg (show ¬ nI 42 = (38 : Int32) by decide), if_neg (show ¬ nI 42 = (39 : Int32) by decide), if_neg (show ¬ nI 42 = (40 : Int32) by decide), if_neg (show ¬ nI 42 = (41 : Int32) by decide), if_pos (show nI 42 = (42 : Int32) from rfl), w4, show (31 : Int32) = nI 31 from rfl, hN_32 w2 w3]
    show TG n g T T0 _ (retM G N F L (aValue 42 v u (nMade N)))
    unfold aValue
    simp only [Nat.reduceEqDiff, if_true, if_false]
    exact itm (tNum v) u y0 (Int32.ofInt (tNum v)) _ r1 r2 rfl w2 w3 rfl
  · obtain ⟨p1, p2, p3⟩ := in0 118 rfl
    obtain ⟨r1, r2⟩ := in1 108 rfl
    rw [if_neg (show ¬ nI 43 = (32 : Int32) by decide), if_neg (show ¬ nI 43 = (33 : Int32) by decide), if_neg (show ¬ nI 43 = (34 : Int32) by decide), if_neg (show ¬ nI 43 = (35 : Int32) by decide), if_neg (show ¬ nI 43 = (36 : Int32) by decide), if_neg (show ¬ nI 43 = (37 : Int32) by decide), if_neg (show ¬ nI 43 = (38 : Int32) by decide), if_neg (show ¬ nI 43 = (39 : Int32) by decide), if_neg (show ¬ nI 43 = (40 : Int32) by decide), if_neg (show ¬ nI 43 = (41 : Int32) by decide), if_neg (show ¬ nI 43 = (42 : Int32) by decide), if_pos (show nI 43 = (43 : Int32) from rfl)]
    show TG n g T T0 _ (retM G N F L (aValue 43 v u (nMade N)))
    unfold aValue
    simp only [Nat.reduceEqDiff, if_true, if_false]
    exact grow _ _ (h_join (n := n) (T0 := T0) (oa := true) (ob := false) (by omega) hc hl9 hNn h44 h43 hr hT0 p1 r1 (fun h => by cases h) (fun _ => r2))
  · obtain ⟨p1, p2, p3⟩ := in0 118 rfl
    obtain ⟨r1, r2⟩ := in1 108 rfl
    rw [if_neg (show ¬ nI 44 = (32 : Int32) by decide), if_neg (show ¬ nI 44 = (33 : Int32) by decide), if_neg (show ¬ nI 44 = (34 : Int32) by decide), if_neg (show ¬ nI 44 = (35 : Int32) by decide), if_neg (show ¬ nI 44 = (36 : Int32) by decide), if_neg (show ¬ nI 44 = (37 : Int32) by decide), if_neg (show ¬ nI 44 = (38 : Int32) by decide), if_neg (show ¬ nI 44 = (39 : Int32) by decide), if_neg (show ¬ nI 44 = (40 : Int32) by decide), if_neg (show ¬ nI 44 = (41 : Int32) by decide), if_neg (show ¬ nI 44 = (42 : Int32) by decide), if_neg (show ¬ nI 44 = (43 : Int32) by decide), if_pos (show nI 44 = (44 : Int32) from rfl)]
    show TG n g T T0 _ (retM G N F L (aValue 44 v u (nMade N)))
    unfold aValue
    simp only [Nat.reduceEqDiff, if_true, if_false]
    exact grow _ _ (h_join (n := n) (T0 := T0) (oa := false) (ob := true) (by omega) hc hl9 hNn h44 h43 hr hT0 r1 p1 (fun _ => r2) (fun h => by cases h))
  · obtain ⟨p1, p2, p3⟩ := in0 118 rfl
    obtain ⟨r1, r2⟩ := in1 118 rfl
    obtain ⟨_, kl, _⟩ := cV_kinds (by omega) p1 n
    obtain ⟨_, kl2, _⟩ := cV_kinds (by omega) r1 n
    rw [if_neg (show ¬ nI 45 = (32 : Int32) by decide), if_neg (show ¬ nI 45 = (33 : Int32) by decide), if_neg (show ¬ nI 45 = (34 : Int32) by decide), if_neg (show ¬ nI 45 = (35 : Int32) by decide), if_neg (show ¬ nI 45 = (36 : Int32) by decide), if_neg (show ¬ nI 45 = (37 : Int32) by decide), if_neg (show ¬ nI 45 = (38 : Int32) by decide), if_neg (show ¬ nI 45 = (39 : Int32) by decide), if_neg (show ¬ nI 45 = (40 : Int32) by decide), if_neg (show ¬ nI 45 = (41 : Int32) by decide), if_neg (show ¬ nI 45 = (42 : Int32) by decide), if_neg (show ¬ nI 45 = (43 : Int32) by decide), if_neg (show ¬ nI 45 = (44 : Int32) by decide), if_pos (show nI 45 = (45 : Int32) from rfl), kl, ob0_s]
    show TG n g T T0 _ (retM G N F L (aValue 45 v u (nMade N)))
    unfold aValue
    simp only [Nat.reduceEqDiff, if_true, if_false]
    have key : ∀ oa : Bool, oa = !isL v → TG n g T T0 (m_Deeds_valueWord_b291 n i a g y0 (b1 oa) x0) (retM G N F L (aList (nMade N) (aSen v ++ aSen u))) := by
      intro oa hoa
      have sa : aSen v = prt oa v := by
        unfold aSen prt
        rw [hoa]
        cases isL v <;> rfl
      unfold m_Deeds_valueWord_b291
      rw [kl2, ob0_s, sa]
      cases hlu : isL u with
      | false =>
        have sb : aSen u = prt true u := by
          unfold aSen prt
          rw [hlu]
          rfl
        rw [b1_f, if_pos (show nI 0 = (0 : Int32) from rfl), sb]
        exact grow _ _ (h_join (n := n) (T0 := T0) (oa := oa) (ob := true) (by omega) hc hl9 hNn h44 h43 hr hT0 p1 r1 (fun h => by rw [h] at hoa; cases hq : isL v with
          | true => rfl
          | false => rw [hq] at hoa; cases hoa) (fun h => by cases h))
      | true =>
        have sb : aSen u = prt false u := by
          unfold aSen prt
          rw [hlu]
          rfl
        rw [b1_t, if_neg (by decide), sb]
        exact grow _ _ (h_join (n := n) (T0 := T0) (oa := oa) (ob := false) (by omega) hc hl9 hNn h44 h43 hr hT0 p1 r1 (fun h => by rw [h] at hoa; cases hq : isL v with
          | true => rfl
          | false => rw [hq] at hoa; cases hoa) (fun _ => hlu))
    cases hlv : isL v with
    | false =>
      rw [b1_f, if_pos rfl]
      exact key true (by rw [hlv]; rfl)
    | true =>
      rw [b1_t, if_neg (by decide)]
      exact key false (by rw [hlv]; rfl)
  · obtain ⟨p1, p2, p3⟩ := in0 118 rfl
    obtain ⟨r1, r2⟩ := in1 118 rfl
    rw [if_neg (show ¬ nI 46 = (32 : Int32) by decide), if_neg (show ¬ nI 46 = (33 : Int32) by decide), if_neg (show ¬ nI 46 = (34 : Int32) by decide), if_neg (show ¬ nI 46 = (35 : Int32) by decide), if_neg (show ¬ nI 46 = (36 : Int32) by decide), if_neg (show ¬ nI 46 = (37 : Int32) by decide), if_neg (show ¬ nI 46 = (38 : Int32) by decide), if_neg (show ¬ nI 46 = (39 : Int32) by decide), if_neg (show ¬ nI 46 = (40 : Int32) by decide), if_neg (show ¬ nI 46 = (41 : Int32) by decide), if_neg (show ¬ nI 46 = (42 : Int32) by decide), if_neg (show ¬ nI 46 = (43 : Int32) by decide), if_neg (show ¬ nI 46 = (44 : Int32) by decide), if_neg (show ¬ nI 46 = (45 : Int32) by decide), if_pos (show nI 46 = (46 : Int32) from rfl)]
    show TG n g T T0 _ (retM G N F L (aValue 46 v u (nMade N)))
    unfold aValue
    simp only [Nat.reduceEqDiff, if_true, if_false]
    exact grow _ _ (h_join (n := n) (T0 := T0) (oa := true) (ob := true) (by omega) hc hl9 hNn h44 h43 hr hT0 p1 r1 (fun h => by cases h) (fun h => by cases h))
  · obtain ⟨p1, p2, p3⟩ := in0 118 rfl
    obtain ⟨r1, r2⟩ := in1 108 rfl
    have eu := isL_eq r1 r2
    rw [eu] at r1
    obtain ⟨g2, g3, g4, w⟩ := h_isMember (n := n) (i := i) a3 a5 hn p1 r1
    rw [if_neg (show ¬ nI 47 = (32 : Int32) by decide), if_neg (show ¬ nI 47 = (33 : Int32) by decide), if_neg (show ¬ nI 47 = (34 : Int32) by decide), if_neg (show ¬ nI 47 = (35 : Int32) by decide), if_neg (show ¬ nI 47 = (36 : Int32) by decide), if_neg (show ¬ nI 47 = (37 : Int32) by decide), if_neg (show ¬ nI 47 = (38 : Int32) by decide), if_neg (show ¬ nI 47 = (39 : Int32) by decide), if_neg (show ¬ nI 47 = (40 : Int32) by decide), if_neg (show ¬ nI 47 = (41 : Int32) by decide), if_neg (show ¬ nI 47 = (42 : Int32) by decide), if_neg (show ¬ nI 47 = (43 : Int32) by decide), if_neg (show ¬ nI 47 = (44 : Int32) by decide), if_neg (show ¬ nI 47 = (45 : Int32) by decide), if_neg (show ¬ nI 47 = (46 : Int32) by decide), if_pos (show nI 47 = (47 : Int32) from rfl), w, ob_s]
    show TG n g T T0 _ (retM G N F L (aValue 47 v u (nMade N)))
    unfold aValue
    simp only [Nat.reduceEqDiff, if_true, if_false]
    exact bol (dec (v ∈ tMem u)) _ _ (CI_eq hc) rfl
  · obtain ⟨p1, p2, p3⟩ := in0 108 rfl
    rw [isL_eq p1 p2] at p1
    rw [if_neg (show ¬ nI 48 = (32 : Int32) by decide), if_neg (show ¬ nI 48 = (33 : Int32) by decide), if_neg (show ¬ nI 48 = (34 : Int32) by decide), if_neg (show ¬ nI 48 = (35 : Int32) by decide), if_neg (show ¬ nI 48 = (36 : Int32) by decide), if_neg (show ¬ nI 48 = (37 : Int32) by decide), if_neg (show ¬ nI 48 = (38 : Int32) by decide), if_neg (show ¬ nI 48 = (39 : Int32) by decide), if_neg (show ¬ nI 48 = (40 : Int32) by decide), if_neg (show ¬ nI 48 = (41 : Int32) by decide), if_neg (show ¬ nI 48 = (42 : Int32) by decide), if_neg (show ¬ nI 48 = (43 : Int32) by decide), if_neg (show ¬ nI 48 = (44 : Int32) by decide), if_neg (show ¬ nI 48 = (45 : Int32) by decide), if_neg (show ¬ nI 48 = (46 : Int32) by decide), if_neg (show ¬ nI 48 = (47 : Int32) by decide), if_pos (show nI 48 = (48 : Int32) from rfl)]
    show TG n g T T0 _ (retM G N F L (aValue 48 v u (nMade N)))
    unfold aValue
    simp only [Nat.reduceEqDiff, if_true, if_false]
    exact grow _ _ (h_reverse (n := n) (T0 := T0) (by omega) hc hl9 hNn h44 h43 hr hT0 p1)
  · obtain ⟨p1, p2, p3⟩ := in0 116 rfl
    obtain ⟨r1, r2⟩ := in1 116 rfl
    have n1 : isL v = false := by
      have p2 : (!isL v) = true := p2
      cases hq : isL v with
      | false => rfl
      | true => rw [hq] at p2; cases p2
    have n2 : isL u = false := by
      have r2 : (!isL u) = true := r2
      cases hq : isL u with
      | false => rfl
      | true => rw [hq] at r2; cases r2
    rw [if_neg (show ¬ nI 49 = (32 : Int32) by decide), if_neg (show ¬ nI 49 = (33 : Int32) by decide), if_neg (show ¬ nI 49 = (34 : Int32) by decide), if_neg (show ¬ nI 49 = (35 : Int32) by decide), if_neg (show ¬ nI 49 = (36 : Int32) by decide), if_neg (show ¬ nI 49 = (37 : Int32) by decide), if_neg (show ¬ nI 49 = (38 : Int32) by decide), if_neg (show ¬ nI 49 = (39 : Int32) by decide), if_neg (show ¬ nI 49 = (40 : Int32) by decide), if_neg (show ¬ nI 49 = (41 : Int32) by decide), if_neg (show ¬ nI 49 = (42 : Int32) by decide), if_neg (show ¬ nI 49 = (43 : Int32) by decide), if_neg (show ¬ nI 49 = (44 : Int32) by decide), if_neg (show ¬ nI 49 = (45 : Int32) by decide), if_neg (show ¬ nI 49 = (46 : Int32) by decide), if_neg (show ¬ nI 49 = (47 : Int32) by decide), if_neg (show ¬ nI 49 = (48 : Int32) by decide), if_pos (show nI 49 = (49 : Int32) from rfl)]
    show TG n g T T0 _ (retM G N F L (aValue 49 v u (nMade N)))
    unfold aValue
    simp only [Nat.reduceEqDiff, if_true, if_false]
    exact grow _ _ (h_joinW (n := n) (T0 := T0) hn hc hl9 hNn h44 h43 hr hT0 p1 r1 n1 n2)
