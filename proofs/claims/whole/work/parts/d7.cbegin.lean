/-! a line begins, and goes on by at most so many instructions -/
theorem h_goOn {n : Nat} {g : Nat → Nat} {i : Nat → Int32} {a : Nat → Nat → Int32} {T T0 z : Nat} {c : Cfg} (hn : 1000000 ≤ n) (hT0 : T0 ≤ 250000) (hz : z < 2147483648) (hst : atRest c) (h : CR g i a T c) (hv : aInv2 c) (hr : RM T T0 c) : ∃ j c' i' a' g' k T', m_Machine_goOn n g i a (nI z) = some (i', a', g', k, nI (cDone c' - cDone c)) ∧ aIt (cDone c + min z 20000) j c = c' ∧ cDone c ≤ cDone c' ∧ aStands (cDone c + min z 20000) c' ∧ atRest c' ∧ CR g' i' a' T' c' ∧ aInv2 c' ∧ hGrow g g' k ∧ T ≤ T' ∧ RM T' T0 c' := by
  have hm : m_Math_min n (nI z) (20000 : Int32) = some (nI (min z 20000)) := by
    unfold m_Math_min
    rcases Nat.lt_or_ge 20000 z with h1 | h1
    · rw [if_pos (show (20000 : Int32) < nI z from nI_lt (a := 20000) h1 hz), Nat.min_eq_right (by omega)]
      rfl
    · rw [if_neg (show ¬ (20000 : Int32) < nI z from nI_nlt (a := 20000) h1 (by decide)), Nat.min_eq_left h1]
  unfold m_Machine_goOn
  rw [hm, ob0_s]
  have := h_go hn hT0 (min z 20000) g i a T c n 0 0 hst (by omega) (by omega) (by omega) h hv hr
  rw [Nat.zero_add] at this
  obtain ⟨j, c', i', a', g', k, T', p1, p2⟩ := this
  rw [Nat.zero_add] at p1
  exact ⟨j, c', i', a', g', k, T', p1, p2⟩
/-- nothing is done where the number is below 1 -/
theorem h_goNo {n : Nat} {g : Nat → Nat} {i : Nat → Int32} {a : Nat → Nat → Int32} {x : Int32} (hn : 1 ≤ n) (hx : x < 0) : m_Machine_goOn n g i a x = some (i, a, g, (0, 0), nI 0) := by
  have hm : m_Math_min n x (20000 : Int32) = some x := by
    unfold m_Math_min
    rw [if_neg]
    intro h
    rw [Int32.lt_iff_toInt_lt] at h hx
    have e1 : (20000 : Int32).toInt = 20000 := by decide
    have e2 : (0 : Int32).toInt = 0 := by decide
    omega
  unfold m_Machine_goOn
  rw [hm, ob0_s]
  match n, hn with
  | n + 1, _ =>
    rw [m_Machine_goOn_b13, if_pos]
    · rfl
    · rw [Int32.le_iff_toInt_le]
      rw [Int32.lt_iff_toInt_lt] at hx
      have e2 : (0 : Int32).toInt = 0 := by decide
      omega
theorem iv_begin {G : GS} {l : Tr} (hg : gOk G) (hl : isL l = true) : aInv2 (aBegin G l) := by
  refine iv_0 ⟨hg, ⟨by show 1 ≤ 4; decide, Nat.zero_le _, Nat.zero_le _, Nat.zero_le _, Nat.zero_le _⟩, ⟨fun x hx => ?_, by show 1 ≤ 150; decide, Nat.zero_le _, Nat.zero_le _, rfl, (fun f hf => by cases hf), (fun f hf => by cases hf)⟩, fun _ => ⟨[], _, rfl, rfl⟩⟩
  rw [List.mem_singleton.mp hx]
  exact lOk_new (by decide) hl (by decide) (fun e => by cases e) (fun e => by rcases e with e | e <;> cases e) (fun e => by rcases e with e | e | e | e <;> cases e) (fun e => by cases e) (fun e => by cases e) (fun e => by cases e) (fun e => by cases e)
theorem h_begin {n : Nat} {g : Nat → Nat} {i : Nat → Int32} {a : Nat → Nat → Int32} {T T0 : Nat} {G : GS} {N : LN} {l : Tr} {x : Int32} (hn : 1000000 ≤ n) (hT0 : T0 ≤ 250000) (hT : T ≤ T0) (h : CI g i a T G N [] []) (hg : gOk G) (hx : cV (a 0) T l none x) (hl : isL l = true) : AD n g T T0 (aBegin G l) (m_Machine_begin n g i a x) := by
  obtain ⟨⟨a1, a2, a3, a4, a5, a6, a7, a8, a9⟩, ⟨b1, b2, b3, b4, b5, b6, b7⟩, c1, ⟨d1, d2, d3⟩, ⟨e1, e2, e3, e4⟩⟩ := id h
  obtain ⟨i1, hi1⟩ : ∃ i1, i1 = upd (upd (upd (upd (upd (upd (upd (upd (upd (upd i 35 1) 36 0) 37 0) 38 0) 39 0) 40 0) 41 0) 42 0) 43 0) 44 0 := ⟨_, rfl⟩
  have e13 : i1 13 = nI 0 := by rw [hi1]; exact d1
  have hc1 : CI g i1 a T G (1, 0, 0, 0, 0) [] [] := by
    subst hi1
    exact ⟨⟨a1, a2, a3, a4, a5, a6, a7, a8, a9⟩, ⟨b1, b2, b3, b4, b5, b6, b7⟩, ⟨rfl, rfl, rfl, rfl, rfl⟩, ⟨d1, d2, d3⟩, ⟨rfl, rfl, rfl, e4⟩⟩
  have e43 : i1 43 = nI (lvVals []) := by rw [hi1]; rfl
  have e44 : i1 44 = nI 0 := by rw [hi1]; rfl
  have eo := h_Lopen (n := n) (v1 := nI 0) (v2 := x) hc1 e43 (by show 0 < 150; decide)
  have hc2 : CI g (upd (upd i1 40 (nI (0 + 1))) 46 0) (opA a 0 (nI 0) x (nI 0) (nI 0)) T G (1, 0, 0, 0, 0) [] [lNew 0 l 1 .nil 0 .nil] := by
    obtain ⟨q1, q2, q3, q4, q5, q6, q7, q8⟩ := hc1
    refine ⟨q1, q2, q3, q4, rfl, q6, q7, ?_⟩
    refine lev_begin (L := []) (F := []) e4 (fun d hd => absurd hd (Nat.not_lt_zero _)) (by show upd (a 37) 0 (nI 0) 0 = nI 0; exact upd_at) ?_ (by show upd (a 39) 0 (nI 0) 0 = nI 0; exact upd_at) (by show upd (a 40) 0 (nI 1) 0 = nI 1; exact upd_at) (by show upd (a 41) 0 (nI 1) 0 = nI 1; exact upd_at) (fun q => by rcases q with q | q | q | q <;> cases q) (fun q => by rcases q with q | q <;> cases q) (fun q => by cases q) (by show upd (a 44) 0 (nI 0) 0 = nI 0; exact upd_at) (by show upd (a 45) 0 (nI 0) 0 = nI 0; exact upd_at) (by rw [if_neg (by decide)])
    show cV (a 0) T l none (upd (a 38) 0 x 0)
    rw [upd_at]; exact hx
  have hCR : CR g (upd (upd i1 40 (nI (0 + 1))) 46 0) (opA a 0 (nI 0) x (nI 0) (nI 0)) T (aBegin G l) := CR_0 hc2 rfl e44 e43
  obtain ⟨j, c', i', a', g', k, T', p1, p2⟩ := h_advance (n := n) hn hT0 hCR (iv_begin hg hl) (show T + 0 ≤ T0 + 3 * 0 by omega)
  refine ⟨j, c', i', a', g', (k.1 + 0, k.2 + 0), T', ?_, p2⟩
  unfold m_Machine_begin m_Line_begin m_Waiting_begin m_Names_dropLocals
  simp only [ob_s, ob1_s]
  rw [if_neg (by decide), ← hi1, if_pos (show i1 13 ≤ (0 : Int32) by rw [e13]; decide), ob_s, show m_Line_open n g i1 a (0 : Int32) x = _ from eo, ob_s]
  show obG (m_Machine_advance n g (upd (upd i1 40 (nI (0 + 1))) 46 0) (opA a 0 (nI 0) x (nI 0) (nI 0))) _ = _
  rw [p1]
  exact obG_s (k' := (0, 0)) rfl

