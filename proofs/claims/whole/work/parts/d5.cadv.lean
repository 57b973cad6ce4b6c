/-! the class goes on up to the next instruction -/
theorem lv_lists {f : Nat → Int32} {T : Nat} {k1 k2 k3 k4 k5 k6 k7 k8 k9 k10 w1 w2 w3 w4 w5 w6 w7 w8 : Nat → Int32} : ∀ (L : List Lv) (F : List Fr), lvR f T k1 k2 k3 k4 k5 k6 k7 k8 k9 k10 w1 w2 w3 w4 w5 w6 w7 w8 L F → ∀ l ∈ L, (∃ x, cV f T (lLst l) none x) ∧ (lK l = 4 ∨ lK l = 5 ∨ lK l = 9 ∨ lK l = 10 → ∃ x, cV f T (lOth l) none x) := by
  intro L
  induction L with
  | nil => intro F _ l hl; cases hl
  | cons x L ih =>
    intro F h l hl
    rw [lvR] at h
    obtain ⟨⟨a1, a2, a3, a4, a5, a6, _⟩, h2⟩ := h
    rcases List.mem_cons.mp hl with e | e
    · rw [e]
      exact ⟨⟨_, a2⟩, fun hk => ⟨_, a6 hk⟩⟩
    · split at h2
      · obtain ⟨fr, F', _, _, _, h3⟩ := h2
        exact ih F' h3 l e
      · exact ih F h2 l e
theorem lM_le {l : Lv} (ho : lOk l) {f : Nat → Int32} {T : Nat} (h : (∃ x, cV f T (lLst l) none x) ∧ (lK l = 4 ∨ lK l = 5 ∨ lK l = 9 ∨ lK l = 10 → ∃ x, cV f T (lOth l) none x)) : lM l ≤ 1202 := by
  obtain ⟨⟨x, hx⟩, h2⟩ := h
  have h1 := cV_cnt hx ho.2.1
  unfold lM
  split
  · next h9 =>
    obtain ⟨y, hy⟩ := h2 (Or.inr (Or.inr (Or.inl h9)))
    have := cV_cnt hy (ho.2.2.2.2.2.2.2.2.1 (Or.inr (Or.inr (Or.inl h9))))
    omega
  · omega
theorem lvM_le : ∀ (L : List Lv), (∀ l ∈ L, lM l ≤ 1202) → lvM L ≤ 1202 * L.length := by
  intro L
  induction L with
  | nil => intro _; exact Nat.le_refl _
  | cons l L ih =>
    intro h
    have h1 := h l List.mem_cons_self
    have h2 := ih (fun x hx => h x (List.mem_cons_of_mem _ hx))
    rw [lvM, List.length_cons]
    omega
theorem cM_le {g : Nat → Nat} {i : Nat → Int32} {a : Nat → Nat → Int32} {T : Nat} {c : Cfg} (h : CR g i a T c) (hv : aInv2 c) : cM c ≤ 541000 := by
  obtain ⟨G, N, F, L, ph, got, rd⟩ := c
  have hl := hv.1.2.2.1
  have h4 := h.1.2.2.2.2.2.2.2
  have h1 := lvM_le L (fun l hx => lM_le (hl.1 l hx) (lv_lists L F h4 l hx))
  have h2 := hl.2.1
  have h3 := phM_le ph
  show 3 * lvM L + phM ph ≤ 541000
  omega
/-- room -/
def RM (T T0 : Nat) (c : Cfg) : Prop := T + cMp c ≤ T0 + 3 * cMd c
/-- a step that is no instruction -/
theorem h_micro {n : Nat} {g : Nat → Nat} {i : Nat → Int32} {a : Nat → Nat → Int32} {T T0 : Nat} {c : Cfg} (hn : 300000 ≤ n) (h : CR g i a T c) (hv : aInv2 c) (hs : cSt c = 1) (hp : cPh c < 3) (hr : RM T T0 c) (hT0 : T0 ≤ 250000) : (i 46 = nI 0 ∧ TK n g T (m_Machine_meet n g i a) (aMicro c) ∧ RM T T0 (aMicro c)) ∨ (i 46 = nI 1 ∧ TK n g T (m_Machine_settle n g i a) (aMicro c) ∧ RM T T0 (aMicro c)) ∨ (i 46 = nI 2 ∧ TG n g T T0 (m_Machine_finishList n g i a) (aMicro c)) := by
  obtain ⟨G, N, F, L, ph, got, rd⟩ := c
  obtain ⟨⟨hg, hN, hl, _, h5⟩, _⟩ := hv
  obtain ⟨t1, t3, t4, t2⟩ := h5 hs
  obtain ⟨hc, hcs⟩ := h
  obtain ⟨s0, s1, s2, s3, s4⟩ := hcs hs
  have hr : T + mapPot L ≤ T0 + 3 * nMade N := hr
  cases L with
  | nil => exact absurd rfl t1
  | cons l R =>
    have hp : ph < 3 := hp
    rcases (by omega : ph = 0 ∨ ph = 1 ∨ ph = 2) with rfl | rfl | rfl
    · obtain ⟨e1, e2, e3⟩ := s0 rfl
      have hm := aMeet_mp G N F l R
      exact Or.inl ⟨e1, h_meetM (by omega) hc hl hg e1 e2 e3, by show T + cMp (aMeet G N F l R) ≤ T0 + 3 * cMd (aMeet G N F l R); rw [hm.2]; omega⟩
    · obtain ⟨e1, e2, e3, e4⟩ := s1 rfl
      have hm := aSettle_mp G N F l R got
      exact Or.inr (Or.inl ⟨e1, h_settle (by omega) hc hl hN e1 e2 e3 e4, by show T + cMp (aSettle G N F l R got) ≤ T0 + 3 * cMd (aSettle G N F l R got); rw [hm.2]; omega⟩)
    · obtain ⟨e1, e2, e3, e4⟩ := s2 rfl
      obtain ⟨l', R', e, hw, _⟩ := t2 rfl
      cases e
      exact Or.inr (Or.inr ⟨e1, h_done (by omega) hc hl hN e1 e2 e3 e4 hw hr hT0⟩)
/-- what comes out of going on -/
def AD (n : Nat) (g : Nat → Nat) (T T0 : Nat) (c : Cfg) (o : Option ((Nat → Int32) × (Nat → Nat → Int32) × (Nat → Nat) × (Nat × Nat) × Int32)) : Prop := ∃ j c' i' a' g' k T', o = some (i', a', g', k, nI 0) ∧ (∀ b, aIt b j c = c') ∧ CR g' i' a' T' c' ∧ aInv2 c' ∧ (cSt c' ≠ 1 ∨ (3 ≤ cPh c' ∧ cDone c' < 20000)) ∧ hGrow g g' k ∧ T ≤ T' ∧ RM T' T0 c'
theorem aStep_micro {b : Nat} {c : Cfg} (hs : cSt c = 1) (hp : cPh c < 3) : aStep b c = aMicro c := by
  unfold aStep
  rw [if_neg (fun e => e hs), if_pos hp]
theorem h_adv72 {n : Nat} {g : Nat → Nat} {i : Nat → Int32} {a : Nat → Nat → Int32} {T T0 : Nat} {c : Cfg} (hn : 1000000 ≤ n) (h : CR g i a T c) (hv : aInv2 c) (hq : ¬ (cSt c = 1 ∧ cPh c < 3)) (hr : RM T T0 c) : AD n g T T0 c (m_Machine_advance_b72 n i a g) := by
  obtain ⟨G, N, F, L, ph, got, rd⟩ := c
  obtain ⟨hc, hcs⟩ := id h
  have hN : nOk N := hv.1.2.1
  have e35 : i 35 = nI (nState N) := hc.2.2.1.1
  have e37 : i 37 = nI (nDone N) := hc.2.2.1.2.2.1
  have ga : g 0 ≤ 340000 := hc.1.2.2.2.2.1
  obtain ⟨n1, n2, n3, n4, n5⟩ := hN
  unfold m_Machine_advance_b72
  rw [e35, e37]
  by_cases hs : nState N = 1
  · rw [if_pos (show nI (nState N) = (1 : Int32) by rw [hs]; rfl)]
    have hp : ¬ ph < 3 := fun e => hq ⟨hs, e⟩
    by_cases hd : nDone N < 20000
    · rw [if_pos (show nI (nDone N) < (20000 : Int32) from nI_lt (b := 20000) hd (by decide))]
      exact ⟨0, _, i, a, g, (0, 0), T, rfl, fun b => rfl, h, hv, Or.inr ⟨by show 3 ≤ ph; omega, hd⟩, hGrow_refl ga, Nat.le_refl _, hr⟩
    · rw [if_neg (show ¬ nI (nDone N) < (20000 : Int32) from nI_nlt (b := 20000) (by omega) (by omega))]
      obtain ⟨i', q1, q2⟩ := h_finish (n := n) (st := 3) (e := 13) (by omega) hc hv.1.2.2.1 (by decide)
      rw [show m_Machine_finishLine n g i a (3 : Int32) (13 : Int32) = some (i', a, nI 0) from q1, ob_s]
      refine ⟨1, aFinish 3 13 G N L, i', a, g, (0, 0), T, rfl, fun b => ?_, q2, iv_finish (F := F) (iv_of hv) (Or.inr rfl) (by decide), Or.inl (by show ¬ 3 = 1; decide), hGrow_refl ga, Nat.le_refl _, ?_⟩
      · show aStep b (G, N, F, L, ph, got, rd) = _
        unfold aStep
        rw [if_neg (fun e => e hs), if_neg (show ¬ cPh (G, N, F, L, ph, got, rd) < 3 from hp), if_pos (show 20000 ≤ cDone (G, N, F, L, ph, got, rd) by show 20000 ≤ nDone N; omega)]
      · have hr : T + mapPot L ≤ T0 + 3 * nMade N := hr
        show T + 0 ≤ T0 + 3 * nMade N
        omega
  · rw [if_neg (show ¬ nI (nState N) = (1 : Int32) from fun e => hs ((nI_eq (b := 1) (by omega) (by decide)).mp e))]
    exact ⟨0, _, i, a, g, (0, 0), T, rfl, fun b => rfl, h, hv, Or.inl hs, hGrow_refl ga, Nat.le_refl _, hr⟩
theorem h_adv {n : Nat} {T0 : Nat} (hn : 1000000 ≤ n) (hT0 : T0 ≤ 250000) : ∀ (M : Nat) (g : Nat → Nat) (i : Nat → Int32) (a : Nat → Nat → Int32) (T : Nat) (c : Cfg) (f v : Nat), nearer c M → v + M < 1000000 → M < f → CR g i a T c → aInv2 c → RM T T0 c → AD n g T T0 c (m_Machine_advance_b2 n f i a g (nI v)) := by
  intro M
  induction M with
  | zero =>
    intro g i a T c f v hM hvM hf h hv hr
    have hq : ¬ (cSt c = 1 ∧ cPh c < 3) := fun e => absurd (hM e.1 e.2) (Nat.not_lt_zero _)
    match f, hf with
    | f + 1, _ =>
      rw [m_Machine_advance_b2, if_neg (show ¬ (1000000 : Int32) ≤ nI v from nI_ge (a := v) (b := 1000000) (by omega) (by decide))]
      have fin := h_adv72 (n := n) hn h hv hq hr
      by_cases h1 : i 35 = (1 : Int32)
      · rw [if_pos h1]
        have h44 : ¬ i 44 = (0 : Int32) := by
          obtain ⟨G, N, F, L, ph, got, rd⟩ := c
          obtain ⟨hc, hcs⟩ := id h
          have e35 : i 35 = nI (nState N) := hc.2.2.1.1
          have n1 := hv.1.2.1.1
          have hs : nState N = 1 := by
            rw [e35] at h1
            exact (nI_eq (b := 1) (by omega) (by decide)).mp h1
          have hp : ¬ ph < 3 := fun e => hq ⟨hs, e⟩
          obtain ⟨s0, s1, s2, s3, s4⟩ := hcs hs
          obtain ⟨⟨_, _, _, hp4, h5⟩, _⟩ := hv
          obtain ⟨t1, t3, t4, t2⟩ := h5 hs
          rcases (by omega : ph = 3 ∨ ph = 4) with rfl | rfl
          · obtain ⟨w, e1, e2, _⟩ := s3 rfl
            obtain ⟨w', f1, f2, f3, f4⟩ := t3 rfl
            rw [e1] at f1
            cases f1
            rw [e2]
            rcases f2.2.2.2.1 with e9 | e9 | e9 <;> rw [e9] <;> decide
          · rw [(s4 rfl).1]; decide
        rw [if_neg h44]
        exact fin
      · rw [if_neg h1]
        exact fin
  | succ M ih =>
    intro g i a T c f v hM hvM hf h hv hr
    by_cases hq : cSt c = 1 ∧ cPh c < 3
    · obtain ⟨hs, hp⟩ := hq
      have hcM := hM hs hp
      have hnr : nearer (aMicro c) M := fun e1 e2 => by have := nr_micro hv hs hp e1 e2; omega
      have hv2 := iv_micro hv hs hp
      have e35 : i 35 = (1 : Int32) := by
        obtain ⟨G, N, F, L, ph, got, rd⟩ := c
        have : i 35 = nI (nState N) := h.1.2.2.1.1
        have hs : nState N = 1 := hs
        rw [this, hs]
        rfl
      have e44 : i 44 = (0 : Int32) := by
        obtain ⟨G, N, F, L, ph, got, rd⟩ := c
        obtain ⟨s0, s1, s2, s3, s4⟩ := h.2 hs
        have hp : ph < 3 := hp
        rcases (by omega : ph = 0 ∨ ph = 1 ∨ ph = 2) with rfl | rfl | rfl
        · exact (s0 rfl).2.1
        · exact (s1 rfl).2.1
        · exact (s2 rfl).2.1
      match f, hf with
      | f + 1, hf =>
        rw [m_Machine_advance_b2, if_neg (show ¬ (1000000 : Int32) ≤ nI v from nI_ge (a := v) (b := 1000000) (by omega) (by decide)), if_pos e35, if_pos e44]
        have more : ∀ {g2 : Nat → Nat} {T2 : Nat} {o : Option ((Nat → Int32) × (Nat → Nat → Int32) × (Nat → Nat) × (Nat × Nat) × Int32)}, hGrow g g2 (0, 0) → T ≤ T2 → AD n g2 T2 T0 (aMicro c) o → AD n g T T0 c o := by
          intro g2 T2 o hg hT hA
          obtain ⟨j, c', i', a', g', k, T', p1, p2, p3, p4, p5, p6, p7, p8⟩ := hA
          refine ⟨j + 1, c', i', a', g', k, T', p1, fun b => ?_, p3, p4, p5, ?_, by omega, p8⟩
          · show aIt b j (aStep b c) = c'
            rw [aStep_micro hs hp]
            exact p2 b
          · have := hGrow_trans hg p6
            rw [Nat.zero_add, Nat.zero_add] at this
            exact this
        rcases h_micro (n := n) (by omega) h hv hs hp hr hT0 with ⟨q1, q2, q3⟩ | ⟨q1, q2, q3⟩ | ⟨q1, q2⟩
        · obtain ⟨i', a', x, i2, r1, r2, r3⟩ := q2
          rw [if_pos (show i 46 = (0 : Int32) from q1), r1, ob_s]
          unfold m_Machine_advance_b63
          rw [r2, ob_s, ob1_s, show nI v + (1 : Int32) = nI (v + 1) from nI_add v 1]
          have hga : g 0 ≤ 340000 := by
            obtain ⟨G, N, F, L, ph, got, rd⟩ := c
            exact h.1.1.2.2.2.2.1
          exact more (hGrow_refl hga) (Nat.le_refl _) (ih g i2 a' T (aMicro c) f (v + 1) hnr (by omega) (by omega) r3 hv2 q3)
        · obtain ⟨i', a', x, i2, r1, r2, r3⟩ := q2
          rw [if_neg (show ¬ i 46 = (0 : Int32) by rw [q1]; decide), if_pos (show i 46 = (1 : Int32) from q1), r1, ob_s]
          unfold m_Machine_advance_b63
          rw [r2, ob_s, ob1_s, show nI v + (1 : Int32) = nI (v + 1) from nI_add v 1]
          have hga : g 0 ≤ 340000 := by
            obtain ⟨G, N, F, L, ph, got, rd⟩ := c
            exact h.1.1.2.2.2.2.1
          exact more (hGrow_refl hga) (Nat.le_refl _) (ih g i2 a' T (aMicro c) f (v + 1) hnr (by omega) (by omega) r3 hv2 q3)
        · obtain ⟨i', a', g', k, x, i2, T', r1, r2, r3, r4, r5, r6⟩ := q2
          rw [if_neg (show ¬ i 46 = (0 : Int32) by rw [q1]; decide), if_neg (show ¬ i 46 = (1 : Int32) by rw [q1]; decide), r1]
          have hA := ih g' i2 a' T' (aMicro c) f (v + 1) hnr (by omega) (by omega) r3 hv2 r6
          obtain ⟨j, c', i3, a3, g3, k3, T3, p1, p2, p3, p4, p5, p6, p7, p8⟩ := hA
          refine ⟨j + 1, c', i3, a3, g3, (k.1 + k3.1, k.2 + k3.2), T3, ?_, fun b => ?_, p3, p4, p5, hGrow_trans r4 p6, by omega, p8⟩
          · refine obG_s (k' := k3) ?_
            unfold m_Machine_advance_b63
            rw [r2, ob_s, ob1_s, show nI v + (1 : Int32) = nI (v + 1) from nI_add v 1]
            exact p1
          · show aIt b j (aStep b c) = c'
            rw [aStep_micro hs hp]
            exact p2 b
    · exact (show AD n g T T0 c (m_Machine_advance_b2 n f i a g (nI v)) from by
        have hM0 : nearer c 0 := fun e1 e2 => absurd ⟨e1, e2⟩ hq
        have hf0 : 0 < f := by omega
        have fin := h_adv72 (n := n) hn h hv hq hr
        match f, hf0 with
        | f + 1, _ =>
          rw [m_Machine_advance_b2, if_neg (show ¬ (1000000 : Int32) ≤ nI v from nI_ge (a := v) (b := 1000000) (by omega) (by decide))]
          by_cases h1 : i 35 = (1 : Int32)
          · rw [if_pos h1]
            have h44 : ¬ i 44 = (0 : Int32) := by
              obtain ⟨G, N, F, L, ph, got, rd⟩ := c
              obtain ⟨hc, hcs⟩ := id h
              have e35 : i 35 = nI (nState N) := hc.2.2.1.1
              have n1 := hv.1.2.1.1
              have hs : nState N = 1 := by
                rw [e35] at h1
                exact (nI_eq (b := 1) (by omega) (by decide)).mp h1
              have hp : ¬ ph < 3 := fun e => hq ⟨hs, e⟩
              obtain ⟨s0, s1, s2, s3, s4⟩ := hcs hs
              obtain ⟨⟨_, _, _, hp4, h5⟩, _⟩ := hv
              obtain ⟨t1, t3, t4, t2⟩ := h5 hs
              rcases (by omega : ph = 3 ∨ ph = 4) with rfl | rfl
              · obtain ⟨w, e1, e2, _⟩ := s3 rfl
                obtain ⟨w', f1, f2, f3, f4⟩ := t3 rfl
                rw [e1] at f1
                cases f1
                rw [e2]
                rcases f2.2.2.2.1 with e9 | e9 | e9 <;> rw [e9] <;> decide
              · rw [(s4 rfl).1]; decide
            rw [if_neg h44]
            exact fin
          · rw [if_neg h1]
            exact fin)
theorem h_advance {n : Nat} {g : Nat → Nat} {i : Nat → Int32} {a : Nat → Nat → Int32} {T T0 : Nat} {c : Cfg} (hn : 1000000 ≤ n) (hT0 : T0 ≤ 250000) (h : CR g i a T c) (hv : aInv2 c) (hr : RM T T0 c) : AD n g T T0 c (m_Machine_advance n g i a) := by
  have := cM_le h hv
  exact h_adv hn hT0 (cM c + 1) g i a T c n 0 (fun _ _ => Nat.lt_succ_self _) (by omega) (by omega) h hv hr

