/-! stop -/
theorem iv_fin {g : GS} {n : LN} {F : List Fr} {L : List Lv} {st e : Nat} (h : IV g n F L) (hs : st ≤ 4) (hs1 : st ≠ 1) (he : e ≤ 13) : aInv2 (aFinish st e g n L) := by
  obtain ⟨h1, ⟨n1, n2, n3, n4, n5⟩, h3, h4⟩ := h
  exact ⟨⟨gOk_told h1 (lvTold_lt L _ h3.1 h1.1), ⟨hs, he, n3, n4, n5⟩, ⟨(fun l hl => by cases hl), Nat.zero_le _, Nat.zero_le _, Nat.zero_le _, rfl, (fun l hl => by cases hl), (fun l hl => by cases hl)⟩, by show 1 ≤ 4; decide, fun e9 => absurd e9 hs1⟩, fun e9 => absurd e9 hs1⟩
/-- what stop makes of it -/
def aHalt (c : Cfg) : Cfg := if cSt c = 1 then aFinish 4 0 c.1 c.2.1 c.2.2.2.1 else c
theorem h_stopW {n : Nat} {g : Nat → Nat} {i : Nat → Int32} {a : Nat → Nat → Int32} {T T0 : Nat} {c : Cfg} (hn : 1000 ≤ n) (h : CR g i a T c) (hv : aInv2 c) (hr : RM T T0 c) : ∃ i', m_World_stop n g i a = some (i', a, if cSt c = 1 then nI 1 else nI 0) ∧ CR g i' a T (aHalt c) ∧ aInv2 (aHalt c) ∧ RM T T0 (aHalt c) ∧ cSt (aHalt c) ≠ 1 := by
  obtain ⟨G, N, F, L, ph, got, rd⟩ := c
  have e35 : i 35 = nI (nState N) := h.1.2.2.1.1
  have n1 : nState N ≤ 4 := hv.1.2.1.1
  unfold m_World_stop aHalt
  by_cases hs : cSt (G, N, F, L, ph, got, rd) = 1
  · rw [if_pos hs, if_pos hs]
    have hs : nState N = 1 := hs
    obtain ⟨i', q1, q2⟩ := h_finish (n := n) (st := 4) (e := 0) (by omega) h.1 hv.1.2.2.1 (by decide)
    refine ⟨i', ?_, q2, iv_fin (F := F) (iv_of hv) (by decide) (by decide) (by decide), ?_, by show ¬ 4 = 1; decide⟩
    · rw [if_pos (show i 35 = (1 : Int32) by rw [e35, hs]; rfl), show m_Machine_finishLine n g i a (4 : Int32) (0 : Int32) = some (i', a, nI 0) from q1, ob_s]
      rfl
    · have hr : T + mapPot L ≤ T0 + 3 * nMade N := hr
      show T + 0 ≤ T0 + 3 * nMade N
      omega
  · rw [if_neg hs, if_neg hs]
    have hs2 : ¬ nState N = 1 := hs
    refine ⟨i, ?_, h, hv, hr, hs⟩
    rw [if_neg (show ¬ i 35 = (1 : Int32) by rw [e35]; exact fun e => hs2 ((nI_eq (b := 1) (by omega) (by decide)).mp e))]
    rfl

