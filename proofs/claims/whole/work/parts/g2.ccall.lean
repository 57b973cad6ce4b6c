/-! the calls that are under way -/
theorem lv_call {f : Nat → Int32} {T : Nat} {k1 k2 k3 k4 k5 k6 k7 k8 k9 k10 w1 w2 w3 w4 w5 w6 w7 w8 : Nat → Int32} : ∀ (L : List Lv) (F : List Fr) (q : Nat), lvR f T k1 k2 k3 k4 k5 k6 k7 k8 k9 k10 w1 w2 w3 w4 w5 w6 w7 w8 L F → (lvCall q L = none ∧ F[q]? = none) ∨ (∃ d fr, lvCall q L = some d ∧ d < L.length ∧ F[q]? = some fr ∧ k7 (L.length - 1 - d) = nI fr.1 ∧ k10 (L.length - 1 - d) = nI (frLocs (F.drop (q + 1)))) := by
  intro L
  induction L with
  | nil => intro F q h; have h : F = [] := h; subst h; exact Or.inl ⟨rfl, rfl⟩
  | cons x L ih =>
    intro F q h
    rw [lvR] at h
    obtain ⟨h1, h2⟩ := h
    rw [lvCall]
    rcases Classical.em (lK x = 1) with c | c
    · rw [if_pos c] at h2 ⊢
      obtain ⟨fr, F', rfl, e2, e3, e4⟩ := h2
      cases q with
      | zero =>
        right
        refine ⟨0, fr, if_pos rfl, by simp, rfl, ?_, ?_⟩
        · show k7 (L.length + 1 - 1 - 0) = _
          rw [show L.length + 1 - 1 - 0 = L.length by omega, h1.2.2.2.2.2.2.1 (Or.inl c), e2]
        · show k10 (L.length + 1 - 1 - 0) = _
          rw [show L.length + 1 - 1 - 0 = L.length by omega, e3]
          rfl
      | succ q =>
        rw [if_neg (by omega), Nat.add_sub_cancel]
        rcases ih F' q e4 with ⟨z1, z2⟩ | ⟨d, fr', z1, z2, z3, z4, z5⟩
        · left; rw [z1]; exact ⟨rfl, z2⟩
        · right
          refine ⟨d + 1, fr', by rw [z1]; rfl, by simp; omega, z3, ?_, ?_⟩
          · show k7 (L.length + 1 - 1 - (d + 1)) = _
            rw [show L.length + 1 - 1 - (d + 1) = L.length - 1 - d by omega]; exact z4
          · show k10 (L.length + 1 - 1 - (d + 1)) = _
            rw [show L.length + 1 - 1 - (d + 1) = L.length - 1 - d by omega]; exact z5
    · rw [if_neg c] at h2 ⊢
      rcases ih F q h2 with ⟨z1, z2⟩ | ⟨d, fr', z1, z2, z3, z4, z5⟩
      · left; rw [z1]; exact ⟨rfl, z2⟩
      · right
        refine ⟨d + 1, fr', by rw [z1]; rfl, by simp; omega, z3, ?_, ?_⟩
        · show k7 (L.length + 1 - 1 - (d + 1)) = _
          rw [show L.length + 1 - 1 - (d + 1) = L.length - 1 - d by omega]; exact z4
        · show k10 (L.length + 1 - 1 - (d + 1)) = _
          rw [show L.length + 1 - 1 - (d + 1) = L.length - 1 - d by omega]; exact z5
theorem h_callNeg_b {n : Nat} {g : Nat → Nat} {i : Nat → Int32} {a : Nat → Nat → Int32} {T : Nat} {x : Int32} (hx : x < 0) : ∀ (L : List Lv) (F : List Fr) (f s : Nat), lvR (a 0) T (a 37) (a 38) (a 39) (a 40) (a 41) (a 42) (a 43) (a 44) (a 45) (a 46) (a 47) (a 48) (a 49) (a 50) (a 51) (a 52) (a 53) (a 54) L F → (∀ l ∈ L, lOk l) → L.length ≤ 150 → L.length < f → s + L.length ≤ 1000 → m_Line_callAt_b9 n g i a f x (nI s) (nI L.length - nI 1) = some (-nI 1) := by
  intro L
  induction L with
  | nil =>
    intro F f s h hl hL hf hs
    obtain ⟨f, rfl⟩ : ∃ f', f = f' + 1 := ⟨f - 1, by omega⟩
    rw [m_Line_callAt_b9, i32_lit, if_pos (show nI ([] : List Lv).length - nI 1 < nI 0 from m1_lt 0 (by decide))]
    rfl
  | cons y R ih =>
    intro F f s h hl hL hf hs
    obtain ⟨f, rfl⟩ : ∃ f', f = f' + 1 := ⟨f - 1, by omega⟩
    simp only [List.length_cons] at hL hf hs ⊢
    rw [lvR] at h
    obtain ⟨l1, _⟩ := h.1
    have hy := (hl y List.mem_cons_self).1
    have hR : ∃ F', lvR (a 0) T (a 37) (a 38) (a 39) (a 40) (a 41) (a 42) (a 43) (a 44) (a 45) (a 46) (a 47) (a 48) (a 49) (a 50) (a 51) (a 52) (a 53) (a 54) R F' := by
      have := h.2
      split at this
      · obtain ⟨fr, F', _, _, _, e⟩ := this; exact ⟨F', e⟩
      · exact ⟨F, this⟩
    obtain ⟨F', hR⟩ := hR
    have hneg : nI R.length + -nI 1 = nI R.length - nI 1 := (Int32.sub_eq_add_neg _ _).symm
    have hne : ¬ nI s = x := by
      intro e
      rw [← e] at hx
      exact nI_pos (by omega) hx
    rw [m_Line_callAt_b9, sub_n (by omega : 1 ≤ R.length + 1), show R.length + 1 - 1 = R.length by omega]
    unfold m_Line_callAt_b33
    simp (disch := omega) only [ob_s, ob0_s, ob1_s, i32_lit, ile_p, ile_n, ilt_p, ilt_n, ieq_p, ieq_n, ck_n, cl_n, sub_n, nI_add, sh_w, sh_l, an3_w, an3_l, an1_w, an1_l, hN_1, hN_3w, hN_3l, if_true, if_false, l1, hneg, hne]
    rw [ih F' f (s + 1) hR (fun l h => hl l (List.mem_cons_of_mem _ h)) (by omega) (by omega) (by omega), ih F' f s hR (fun l h => hl l (List.mem_cons_of_mem _ h)) (by omega) (by omega) (by omega), ite_self]
def vCnt : List Loc → Nat
  | [] => 0
  | l :: ls => (if l.2.isSome then 1 else 0) + vCnt ls
theorem vCnt_le : ∀ (ls : List Loc), vCnt ls ≤ ls.length := by
  intro ls
  induction ls with
  | nil => exact Nat.le_refl _
  | cons l ls ih => rw [vCnt, List.length_cons]; split <;> omega
theorem fVl_drop : ∀ (q : Nat) (F : List Fr) (k : Nat), k < frLocs (F.drop q) → fVl F k = fVl (F.drop q) k ∧ k < frLocs F := by
  intro q
  induction q with
  | zero => intro F k h; exact ⟨rfl, h⟩
  | succ q ih =>
    intro F k h
    cases F with
    | nil => exact absurd h (Nat.not_lt_zero _)
    | cons f F =>
      have h : k < frLocs (F.drop q) := h
      obtain ⟨h1, h2⟩ := ih F k h
      refine ⟨?_, ?_⟩
      · show fVl (f :: F) k = fVl (F.drop q) k
        rw [fVl, if_neg (by omega)]
        exact h1
      · rw [frLocs]; omega
theorem h_cntV_b {n : Nat} {g : Nat → Nat} {i : Nat → Int32} {a : Nat → Nat → Int32} {T : Nat} {F : List Fr} {fr : Fr} {F' : List Fr} {q : Nat} (hT : T ≤ 340000) (hr : rLoc (a 0) T (i 13) (a 12) (a 13) F) (hd : F.drop q = fr :: F') : ∀ (m j f s : Nat), fr.2.length = j + m → m < f → s + m ≤ 2000 → m_Names_countValues_b9 n g i a f (nI (frLocs F' + fr.2.length)) (nI s) (nI (frLocs F' + j)) = some (nI (s + vCnt (fr.2.drop j))) := by
  have h18 := hr.2.1
  have hall : ∀ k, k < frLocs (F.drop q) → fVl F k = fVl (F.drop q) k ∧ k < frLocs F := fun k hk => fVl_drop q F k hk
  rw [hd] at hall
  have e0 : frLocs (fr :: F') = fr.2.length + frLocs F' := by rw [frLocs]
  have htot : fr.2.length + frLocs F' ≤ 1800 := by
    rcases Nat.eq_zero_or_pos (fr.2.length + frLocs F') with e | e
    · omega
    · have := (hall (fr.2.length + frLocs F' - 1) (by rw [e0]; omega)).2
      omega
  intro m
  induction m with
  | zero =>
    intro j f s e hf hs
    obtain ⟨f, rfl⟩ : ∃ f', f = f' + 1 := ⟨f - 1, by omega⟩
    rw [m_Names_countValues_b9, ile_p (by omega), List.drop_of_length_le (by omega)]
    rfl
  | succ m ih =>
    intro j f s e hf hs
    obtain ⟨f, rfl⟩ : ∃ f', f = f' + 1 := ⟨f - 1, by omega⟩
    have hj : j < fr.2.length := by omega
    have hk := hall (frLocs F' + j) (by rw [e0]; omega)
    have hv := (hr.2.2 (frLocs F' + j) hk.2).2
    rw [hk.1, fVl, if_pos (by omega), show frLocs F' + j - frLocs F' = j by omega, getD_in hj] at hv
    have ed : fr.2.drop j = (fr.2[j]'hj) :: fr.2.drop (j + 1) := List.drop_eq_getElem_cons hj
    rw [m_Names_countValues_b9, ile_n (by omega), if_neg (show ¬ (1800 : Int32) ≤ nI (frLocs F' + j) from nI_ge (b := 1800) (by omega) (by decide)), ck_n (by omega), cl_n (by omega), ed, vCnt]
    unfold m_Names_countValues_b38
    simp only [i32_lit, ob1_s, nI_add]
    cases ho : (fr.2[j]'hj).2 with
    | none =>
      rw [ho] at hv
      have hv : a 13 (frLocs F' + j) = -nI 2147483648 := hv
      rw [hv, if_pos rfl]
      have := ih (j + 1) f s (by omega) (by omega) (by omega)
      rw [show frLocs F' + (j + 1) = frLocs F' + j + 1 by omega] at this
      rw [this]
      simp
    | some t =>
      rw [ho] at hv
      have hv : cV (a 0) T t none (a 13 (frLocs F' + j)) := hv
      rw [if_neg (cV_no hT hv)]
      have := ih (j + 1) f (s + 1) (by omega) (by omega) (by omega)
      rw [show frLocs F' + (j + 1) = frLocs F' + j + 1 by omega] at this
      rw [this]
      congr 2
      simp
      omega
def aCallW (F : List Fr) (k x : Int32) : Int32 := if k < 0 then -1 else match F[k.toNatClampNeg]? with
  | none => -1
  | some fr => if x = 0 then nI fr.1 else if x = 1 then nI fr.2.length else if x = 2 then nI (vCnt fr.2) else -1
theorem W_call {n : Nat} {g : Nat → Nat} {i : Nat → Int32} {a : Nat → Nat → Int32} {cc : Nat} {c : Cfg} {G0 : GS} {tl : Tr} {bk : Bool} {tp : Nat → Nat} {N fk fp : Nat} {x y : Int32} (hn : 5000 ≤ n) (h : WC g i a cc (c, G0, tl, bk, tp, N, fk, fp)) : m_World_call n g i a x y = some (aCallW c.2.2.1 x y) := by
  obtain ⟨T, ks, hci, hv, hw⟩ := WC_ci h
  obtain ⟨G, N', F, L, ph, got, rd⟩ := c
  obtain ⟨⟨a1, a2, a3, a4, a5, a6⟩, h2, h3, hr, ⟨e1, e2, e3, e4⟩⟩ := id hci
  have hl : lvOk F L (nMade N') := hv.1.2.2.1
  have hL := hl.2.1
  have at_ : ∀ z, z < 2147483648 → m_Line_callAt n g i a (nI z) = some (ixR L.length (lvCall z L)) := by
    intro z hz
    unfold m_Line_callAt
    simp only [ob1_s, i32_lit, e1]
    have := h_call_b (n := n) (g := g) (i := i) (q := z) hz L F n 0 e4 hl.1 hl.2.1 (by omega) (Nat.zero_le _)
    rw [Nat.sub_zero] at this
    exact this
  have neg : ∀ u : Int32, u < 0 → m_Line_callAt n g i a u = some (-nI 1) := by
    intro u hu
    unfold m_Line_callAt
    simp only [ob1_s, i32_lit, e1]
    exact h_callNeg_b hu L F n 0 e4 hl.1 hl.2.1 (by omega) (by omega)
  have nlt : -nI 1 < (0 : Int32) := by decide
  unfold m_World_call aCallW
  show _ = some (if x < 0 then -1 else match F[x.toNatClampNeg]? with
    | none => -1
    | some fr => if y = 0 then nI fr.1 else if y = 1 then nI fr.2.length else if y = 2 then nI (vCnt fr.2) else -1)
  rcases i32_cases x with hx | ⟨hx, z, hz, rfl⟩
  · rw [neg x hx, ob0_s, if_pos nlt, if_pos hx]
  rw [if_neg hx, at_ z hz, ob0_s, cl_n hz]
  rcases lv_call L F z e4 with ⟨z1, z2⟩ | ⟨d, fr, z1, z2, z3, z4, z5⟩
  · rw [z1, z2]
    exact if_pos nlt
  rw [z1, z3, show ixR L.length (some d) = nI (L.length - 1 - d) from rfl]
  rw [if_neg (nI_pos (by omega))]
  have hdrop : F.drop z = fr :: F.drop (z + 1) := by
    have hzl : z < F.length := by
      rcases Nat.lt_or_ge z F.length with q | q
      · exact q
      · rw [List.getElem?_eq_none q] at z3; cases z3
    rw [List.drop_eq_getElem_cons hzl]
    rw [List.getElem?_eq_getElem hzl] at z3
    rw [Option.some.inj z3]
  have hlocs : frLocs (F.drop z) = frLocs (F.drop (z + 1)) + fr.2.length := by rw [hdrop, frLocs]; omega
  have hle : frLocs (F.drop z) ≤ frLocs F := by
    rcases Nat.eq_zero_or_pos (frLocs (F.drop z)) with q | q
    · omega
    · have := (fVl_drop z F (frLocs (F.drop z) - 1) (by omega)).2
      omega
  have h18 : frLocs F ≤ 1800 := hr.2.1
  rcases i32_cases y with hy | ⟨hy, u, hu, rfl⟩
  · rw [if_pos hy]
    have n0 : ¬ y = 0 := fun e => by rw [e] at hy; exact absurd hy (by decide)
    have n1 : ¬ y = 1 := fun e => by rw [e] at hy; exact absurd hy (by decide)
    have n2 : ¬ y = 2 := fun e => by rw [e] at hy; exact absurd hy (by decide)
    dsimp only
    rw [if_neg n0, if_neg n1, if_neg n2]
  rw [if_neg hy]
  simp only [i32_lit]
  rcases Nat.lt_or_ge 2 u with c1 | c1
  · rw [ile_n (by omega), ieq_n (by omega), ieq_n (by omega), ieq_n (by omega)]
  rw [ile_p (by omega)]
  rcases Nat.eq_zero_or_pos u with c2 | c2
  · subst c2
    rw [ieq_p rfl, ieq_p rfl, ck_n (by omega), cl_n (by omega), z4]
  rw [ieq_n (by omega), ieq_n (by omega), ck_n (by omega), ob1_s, cl_n (by omega), z5]
  have fin : m_World_call_b86 n g i a (nI u) (nI (frLocs (F.drop (z + 1)))) (nI (frLocs (F.drop z))) = some (if nI u = nI 1 then nI fr.2.length else if nI u = nI 2 then nI (vCnt fr.2) else -nI 1) := by
    unfold m_World_call_b86 m_Names_countValues
    simp only [i32_lit]
    rcases Nat.lt_or_ge 1 u with c3 | c3
    · rw [ieq_n (by omega), ieq_n (by omega), ieq_p (show u = 2 by omega), show m_Math_max n (nI (frLocs (F.drop (z + 1)))) (nI 0) = some (nI (max (frLocs (F.drop (z + 1))) 0)) from mmax_n (by omega) (by omega), ob0_s, show max (frLocs (F.drop (z + 1))) 0 = frLocs (F.drop (z + 1)) + 0 by omega, hlocs, h_cntV_b (by omega) hr hdrop fr.2.length 0 n 0 (by omega) (by omega) (by omega), ob0_s, List.drop_zero, Nat.zero_add]
    · rw [ieq_p (show u = 1 by omega), ieq_p (show u = 1 by omega), sub_n (by omega), hlocs, show frLocs (F.drop (z + 1)) + fr.2.length - frLocs (F.drop (z + 1)) = fr.2.length by omega]
  rcases Nat.eq_zero_or_pos z with c4 | c4
  · subst c4
    rw [neg (nI 0 - nI 1) (by decide), ob0_s, if_neg (show ¬ nI 0 ≤ -nI 1 from by decide), hr.1]
    exact fin
  · rw [sub_n (by omega), at_ (z - 1) (by omega), ob0_s]
    rcases lv_call L F (z - 1) e4 with ⟨y1, y2⟩ | ⟨d', fr', y1, y2, y3, y4, y5⟩
    · exfalso
      have hzl : z < F.length := by
        rcases Nat.lt_or_ge z F.length with q | q
        · exact q
        · rw [List.getElem?_eq_none q] at z3; cases z3
      rw [List.getElem?_eq_getElem (by omega)] at y2
      cases y2
    · rw [y1, show ixR L.length (some d') = nI (L.length - 1 - d') from rfl]
      rw [if_pos (nI_le (Nat.zero_le _) (by omega)), ck_n (by omega)]
      show m_World_call_b86 n g i a (nI u) _ (a 46 (nI (L.length - 1 - d')).toNatClampNeg) = _
      rw [cl_n (by omega), y5, show z - 1 + 1 = z by omega]
      exact fin

