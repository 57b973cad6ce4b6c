/-! the class goes on by instructions -/
theorem dn_fail (e : Nat) (g : GS) (n : LN) (F : List Fr) (L : List Lv) : cDone (aFail e g n F L) = nDone n := by
  unfold aFail
  split <;> rfl
theorem dn_take (g : GS) (n : LN) (F : List Fr) (L : List Lv) (r : Rs) : cDone (aTake g n F L r) = nDone n := by
  unfold aTake
  split
  · rfl
  · exact dn_fail _ _ _ _ _
theorem dn_last (g : GS) (n : LN) (F : List Fr) (L : List Lv) (w : Wt) : cDone (aSettleLast g n F L w) = nDone n := by
  unfold aSettleLast
  repeat' split
  all_goals first | rfl | exact dn_fail _ _ _ _ _
theorem dn_meetW (g : GS) (n : LN) (F : List Fr) (L : List Lv) (l : List Nat) : cDone (aMeetW g n F L l) = nDone n := by
  unfold aMeetW
  dsimp only
  repeat' split
  all_goals first | exact dn_take _ _ _ _ _ | exact dn_fail _ _ _ _ _ | exact dn_last _ _ _ _ _
theorem dn_meet (g : GS) (n : LN) (F : List Fr) (l : Lv) (R : List Lv) : cDone (aMeet g n F l R) = nDone n := by
  unfold aMeet
  repeat' split
  all_goals first | rfl | exact dn_fail _ _ _ _ _ | exact dn_meetW _ _ _ _ _
theorem dn_inner (g : GS) (n : LN) (F : List Fr) (l : Lv) (R : List Lv) (got : Option Tr) : cDone (aInner g n F l R got) = nDone n := by
  unfold aInner aSettleWhole aClose aSupply
  dsimp only
  repeat' split
  all_goals first | rfl | exact dn_fail _ _ _ _ _
theorem dn_settle (g : GS) (n : LN) (F : List Fr) (l : Lv) (R : List Lv) (got : Option Tr) : cDone (aSettle g n F l R got) = nDone n := by
  unfold aSettle aMeetSign
  repeat' split
  all_goals first | exact dn_inner _ _ _ _ _ _ | exact dn_fail _ _ _ _ _ | exact dn_last _ _ _ _ _
theorem dn_done (g : GS) (n : LN) (F : List Fr) (l : Lv) (R : List Lv) (got : Option Tr) : cDone (aDone g n F l R got) = nDone n := by
  unfold aDone aTest aMapped
  repeat' split
  all_goals first | rfl | exact dn_fail _ _ _ _ _
theorem dn_micro (c : Cfg) : cDone (aMicro c) = cDone c := by
  obtain ⟨g, n, F, L, ph, got, rd⟩ := c
  cases L with
  | nil => rfl
  | cons l R =>
    show cDone (if ph = 0 then aMeet g n F l R else if ph = 1 then aSettle g n F l R got else aDone g n F l R got) = nDone n
    repeat' split
    · exact dn_meet _ _ _ _ _
    · exact dn_settle _ _ _ _ _ _
    · exact dn_done _ _ _ _ _ _
theorem dn_retG (g : GS) (n : LN) (F : List Fr) (L : List Lv) (r : Except Nat (GS × Option Tr)) : cDone (retG g n F L r) = nDone n := by
  unfold retG
  split
  · rfl
  · exact dn_fail _ _ _ _ _
theorem dn_retM (g : GS) (n : LN) (F : List Fr) (L : List Lv) (r : Except Nat (Nat × Tr)) : cDone (retM g n F L r) = nDone n := by
  unfold retM
  split
  · rfl
  · exact dn_fail _ _ _ _ _
theorem dn_open (g : GS) (n : LN) (F : List Fr) (L : List Lv) (l : Lv) : cDone (aOpen g n F L l) = nDone n := by
  unfold aOpen
  split
  · exact dn_fail _ _ _ _ _
  · rfl
theorem dn_other (code : Nat) (v u : Tr) (g : GS) (n : LN) (F : List Fr) (L : List Lv) : cDone (aOther code v u g n F L) = nDone n := by
  unfold aOther
  by_cases c50 : code = 50
  · rw [if_pos c50]
    split
    · rfl
    · exact dn_fail _ _ _ _ _
  rw [if_neg c50]
  by_cases c51 : code = 51
  · rw [if_pos c51]
    split
    · rfl
    · exact dn_fail _ _ _ _ _
  rw [if_neg c51]
  by_cases c52 : code = 52
  · rw [if_pos c52]
    split
    · exact dn_fail _ _ _ _ _
    · rfl
  rw [if_neg c52]
  by_cases c53 : code = 53
  · rw [if_pos c53]
    rfl
  rw [if_neg c53]
  by_cases c54 : code = 54
  · rw [if_pos c54]
    split
    · rfl
    · exact dn_fail _ _ _ _ _
  rw [if_neg c54]
  by_cases c55 : code = 55
  · rw [if_pos c55]
    rfl
  rw [if_neg c55]
  by_cases c56 : code = 56
  · rw [if_pos c56]
    split
    · exact dn_fail _ _ _ _ _
    · split
      · exact dn_fail _ _ _ _ _
      · rfl
  rw [if_neg c56]
  by_cases c57 : code = 57
  · rw [if_pos c57]
    rfl
  rw [if_neg c57]
  by_cases c58 : code = 58
  · rw [if_pos c58]
    rfl
  rw [if_neg c58]
  rfl
theorem dn_running (code : Nat) (v u z : Tr) (g : GS) (n : LN) (F : List Fr) (L : List Lv) : cDone (aRunning code v u z g n F L) = nDone n := by
  unfold aRunning
  by_cases c60 : code = 60
  · rw [if_pos c60]
    exact dn_open _ _ _ _ _
  rw [if_neg c60]
  by_cases c61 : code = 61
  · rw [if_pos c61]
    split
    · exact dn_open _ _ _ _ _
    · rfl
  rw [if_neg c61]
  by_cases c62 : code = 62
  · rw [if_pos c62]
    exact dn_open _ _ _ _ _
  rw [if_neg c62]
  by_cases c63 : code = 63
  · rw [if_pos c63]
    split
    · rfl
    · exact dn_open _ _ _ _ _
  rw [if_neg c63]
  by_cases c64 : code = 64
  · rw [if_pos c64]
    rfl
  rw [if_neg c64]
  by_cases c65 : code = 65
  · rw [if_pos c65]
    exact dn_open _ _ _ _ _
  rw [if_neg c65]
  by_cases c66 : code = 66
  · rw [if_pos c66]
    split
    · rfl
    · exact dn_open _ _ _ _ _
  rw [if_neg c66]
  by_cases c67 : code = 67
  · rw [if_pos c67]
    split
    · exact dn_fail _ _ _ _ _
    · split
      · exact dn_fail _ _ _ _ _
      · rfl
  rw [if_neg c67]
  by_cases c68 : code = 68
  · rw [if_pos c68]
    split
    · exact dn_fail _ _ _ _ _
    · split
      · rfl
      · split
        · exact dn_fail _ _ _ _ _
        · rfl
  rw [if_neg c68]
  by_cases c69 : code = 69
  · rw [if_pos c69]
    split
    · exact dn_fail _ _ _ _ _
    · split
      · exact dn_fail _ _ _ _ _
      · rfl
  rw [if_neg c69]
  by_cases c70 : code = 70
  · rw [if_pos c70]
    unfold aStop
    split
    · rfl
    · rfl
  rw [if_neg c70]
  by_cases c71 : code = 71
  · rw [if_pos c71]
    unfold aOutput
    split
    · exact dn_fail _ _ _ _ _
    · rfl
  rw [if_neg c71]
  by_cases c72 : code = 72
  · rw [if_pos c72]
    exact dn_open _ _ _ _ _
  rw [if_neg c72]
  by_cases c73 : code = 73
  · rw [if_pos c73]
    unfold aThrow
    split
    · exact dn_fail _ _ _ _ _
    · rfl
  rw [if_neg c73]
  rfl
theorem dn_call (w : Wt) (g : GS) (n : LN) (F : List Fr) (L : List Lv) : cDone (aCall w g n F L) = nDone n := by
  unfold aCall
  split
  · exact dn_fail _ _ _ _ _
  · rfl
theorem dn_apply (c : Cfg) : cDone (aApply c) = cDone c + 1 := by
  obtain ⟨g, n, F, L, ph, got, rd⟩ := c
  unfold aApply
  dsimp only
  split
  · split <;> rfl
  · split
    · rfl
    · split
      · exact dn_call _ _ _ _ _
      · unfold aDo
        dsimp only
        split
        · exact dn_fail _ _ _ _ _
        split
        · exact dn_retG _ _ _ _ _
        split
        · exact dn_retG _ _ _ _ _
        split
        · exact dn_retM _ _ _ _ _
        split
        · exact dn_other _ _ _ _ _ _ _
        · exact dn_running _ _ _ _ _ _ _ _
theorem dn_step0 (c : Cfg) : cDone (aStep 0 c) = cDone c := by
  unfold aStep
  split
  · rfl
  split
  · exact dn_micro c
  split
  · rfl
  · rw [if_pos (Nat.zero_le _)]
theorem dn_it0 : ∀ (j : Nat) (c : Cfg), cDone (aIt 0 j c) = cDone c := by
  intro j
  induction j with
  | zero => intro c; rfl
  | succ j ih => intro c; rw [aIt, ih, dn_step0]
theorem CR_fine {g : Nat → Nat} {i : Nat → Int32} {a : Nat → Nat → Int32} {T : Nat} {G : GS} {N : LN} {F : List Fr} {L : List Lv} {ph : Nat} {got : Option Tr} {rd : Option Wt} (h : CR g i a T (G, N, F, L, ph, got, rd)) (hv : aInv2 (G, N, F, L, ph, got, rd)) (hs : nState N = 1) : (ph = 3 → ∀ w, rd = some w → ∀ v ∈ wVals w, isN v = true → -1000000000 ≤ tNum v ∧ tNum v ≤ 1000000000) ∧ (∀ l R, L = l :: R → (lK l = 5 ∨ lK l = 10) → (tMem (lOth l)).length ≤ 1000000000) := by
  obtain ⟨hc, hcs⟩ := h
  obtain ⟨s0, s1, s2, s3, s4⟩ := hcs hs
  constructor
  · intro hp w hw v hvm hN
    obtain ⟨w', e1, e2, e3, e4⟩ := s3 hp
    rw [hw] at e1
    cases e1
    obtain ⟨k, hk, ek⟩ := List.getElem_of_mem hvm
    have := e4.2.2.2.2.2.2 k hk
    rw [ek] at this
    obtain ⟨_, h1, h2, _⟩ := isN_num this hN
    exact ⟨h1, h2⟩
  · intro l R hL hk
    subst hL
    have ho := hv.1.2.2.1.1 l List.mem_cons_self
    obtain ⟨x, hx⟩ := (lv_lists _ F hc.2.2.2.2.2.2.2 l List.mem_cons_self).2 (by omega)
    have := cV_cnt hx (ho.2.2.2.2.2.2.2.2.1 (by omega))
    omega
def atRest (c : Cfg) : Prop := cSt c ≠ 1 ∨ (3 ≤ cPh c ∧ cDone c < 20000)
theorem h_go {n : Nat} {T0 : Nat} (hn : 1000000 ≤ n) (hT0 : T0 ≤ 250000) : ∀ (m : Nat) (g : Nat → Nat) (i : Nat → Int32) (a : Nat → Nat → Int32) (T : Nat) (c : Cfg) (f v3 v4 : Nat), atRest c → m < f → v4 + m ≤ 20000 → v3 + m ≤ 1000000 → CR g i a T c → aInv2 c → RM T T0 c → ∃ j c' i' a' g' k T', m_Machine_goOn_b13 n f i a g (nI (v4 + m)) (nI v3) (nI v4) = some (i', a', g', k, nI (v3 + (cDone c' - cDone c))) ∧ aIt (cDone c + m) j c = c' ∧ cDone c ≤ cDone c' ∧ aStands (cDone c + m) c' ∧ atRest c' ∧ CR g' i' a' T' c' ∧ aInv2 c' ∧ hGrow g g' k ∧ T ≤ T' ∧ RM T' T0 c' := by
  intro m
  induction m with
  | zero =>
    intro g i a T c f v3 v4 hst hf h4 h3 h hv hr
    have hga : g 0 ≤ 340000 := by
      obtain ⟨G, N, F, L, ph, got, rd⟩ := c
      exact h.1.1.2.2.2.2.1
    match f, hf with
    | f + 1, _ =>
      refine ⟨0, c, i, a, g, (0, 0), T, ?_, rfl, Nat.le_refl _, ?_, hst, h, hv, hGrow_refl hga, Nat.le_refl _, hr⟩
      · rw [m_Machine_goOn_b13, if_pos (show nI (v4 + 0) ≤ nI v4 from nI_le (by omega) (by omega)), Nat.sub_self]
        rfl
      · rcases hst with h1 | ⟨h1, h2⟩
        · exact Or.inl h1
        · exact Or.inr ⟨h1, h2, Nat.le_refl _⟩
  | succ m ih =>
    intro g i a T c f v3 v4 hst hf h4 h3 h hv hr
    have hga : g 0 ≤ 340000 := by
      obtain ⟨G, N, F, L, ph, got, rd⟩ := c
      exact h.1.1.2.2.2.2.1
    match f, hf with
    | f + 1, hf =>
      rw [m_Machine_goOn_b13, if_neg (show ¬ nI (v4 + (m + 1)) ≤ nI v4 from nI_ge (by omega) (by omega))]
      have n1 : cSt c ≤ 4 := by
        obtain ⟨G, N, F, L, ph, got, rd⟩ := c
        exact hv.1.2.1.1
      have e35 : i 35 = nI (cSt c) := by
        obtain ⟨G, N, F, L, ph, got, rd⟩ := c
        exact h.1.2.2.1.1
      by_cases hs : cSt c = 1
      · obtain ⟨hp, hd⟩ : 3 ≤ cPh c ∧ cDone c < 20000 := by
          rcases hst with h1 | h1
          · exact absurd hs h1
          · exact h1
        have hap : TG n g T T0 (m_Machine_applyReady n g (upd (upd i 37 (i 37 + 1)) 46 0) a) (aApply c) ∧ aInv2 (aApply c) := by
          obtain ⟨G, N, F, L, ph, got, rd⟩ := c
          have hs : nState N = 1 := hs
          have hp4 : ph ≤ 4 := hv.1.2.2.2.1
          have hph : ph = 3 ∨ ph = 4 := by
            have hp : 3 ≤ ph := hp
            omega
          obtain ⟨b1, b2⟩ := CR_fine h hv hs
          refine ⟨h_apply (by omega) h hv.1 hs hph hd hr hT0, ?_⟩
          rcases hph with rfl | rfl
          · exact iv_apply hv hs (Or.inl rfl) hd (b1 rfl) b2
          · have e9 : aApply (G, N, F, L, 4, got, rd) = aApply (G, N, F, L, 4, got, none) := rfl
            have hv0 : aInv2 (G, N, F, L, 4, got, none) := ⟨⟨hv.1.1, hv.1.2.1, hv.1.2.2.1, by decide, fun hs9 => ⟨(hv.1.2.2.2.2 hs9).1, (fun e => by cases e), (hv.1.2.2.2.2 hs9).2.2.1, (fun e => by cases e)⟩⟩, hv.2⟩
            rw [e9]
            exact iv_apply hv0 hs (Or.inr rfl) hd (fun w hw => by cases hw) b2
        obtain ⟨⟨i1, a1, g1, k1, x, i2, T1, r1, r2, r3, r4, r5, r6⟩, hv1⟩ := hap
        obtain ⟨j2, c2, i3, a3, g3, k3, T3, p1, p2, p3, p4, p5, p6, p7, p8⟩ := h_advance hn hT0 r3 hv1 r6
        have d2 : cDone c2 = cDone c + 1 := by rw [← p2 0, dn_it0, dn_apply]
        obtain ⟨j4, c4, i5, a5, g5, k5, T5, s1, s2, s3, s4, s5, s6, s7, s8, s9, s10⟩ := ih g3 i3 a3 T3 c2 f (v3 + 1) (v4 + 1) p5 (by omega) (by omega) (by omega) p3 p4 p8
        rw [d2] at s1 s2 s3 s4
        have eb : cDone c + 1 + m = cDone c + (m + 1) := by omega
        rw [eb] at s2 s4
        refine ⟨1 + j2 + j4, c4, i5, a5, g5, (k1.1 + (k3.1 + k5.1), k1.2 + (k3.2 + k5.2)), T5, ?_, ?_, by omega, s4, s5, s6, s7, hGrow_trans r4 (hGrow_trans p6 s8), by omega, s10⟩
        · rw [if_pos (show i 35 = (1 : Int32) by rw [e35, hs]; rfl), ob1_s, ob1_s, ob1_s, ob1_s, r1]
          refine obG_s (k' := (k3.1 + k5.1, k3.2 + k5.2)) ?_
          rw [r2, ob_s, p1]
          refine obG_s (k' := k5) ?_
          rw [ob1_s, show nI v4 + (1 : Int32) = nI (v4 + 1) from nI_add v4 1, show nI v3 + (1 : Int32) = nI (v3 + 1) from nI_add v3 1, show v4 + (m + 1) = v4 + 1 + m by omega, show v3 + (cDone c4 - cDone c) = v3 + 1 + (cDone c4 - (cDone c + 1)) by omega]
          exact s1
        · rw [aIt_add, aIt_add]
          have e1 : aIt (cDone c + (m + 1)) 1 c = aApply c := by
            show aStep (cDone c + (m + 1)) c = aApply c
            unfold aStep
            rw [if_neg (fun e => e hs), if_neg (by omega), if_neg (by omega), if_neg (by omega)]
          rw [e1, p2]
          exact s2
      · refine ⟨0, c, i, a, g, (0, 0), T, ?_, rfl, Nat.le_refl _, Or.inl hs, hst, h, hv, hGrow_refl hga, Nat.le_refl _, hr⟩
        rw [if_neg (show ¬ i 35 = (1 : Int32) by rw [e35]; exact fun e => hs ((nI_eq (b := 1) (by omega) (by decide)).mp e)), Nat.sub_self]
        rfl

