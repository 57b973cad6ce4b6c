/-! the class reads a token of any kind -/
theorem obG_0 {α β γ δ ε : Type} {x : α} {y : β} {z : γ} {r : ε} {f : α → β → γ → ε → Option (α × β × γ × (Nat × Nat) × δ)} : obG (some (x, y, z, (0, 0), r)) f = f x y z r := by
  unfold obG
  cases h : f x y z r with
  | none => simp only [h]
  | some v =>
    obtain ⟨v1, v2, v3, v4, v5⟩ := v
    simp only [h, Nat.zero_add]
theorem RO_up {g : Nat → Nat} {i : Nat → Int32} {a : Nat → Nat → Int32} {i' : Nat → Int32} {a' : Nat → Nat → Int32} {g' : Nat → Nat} {k : Nat × Nat} {T T' B e : Nat} {dfn : Bool} {P : List Proc} {r' : Rd} {o : Option ((Nat → Int32) × (Nat → Nat → Int32) × (Nat → Nat) × (Nat × Nat) × Int32)} (hG : hGrow g g' k) (hT : T ≤ T') (hf : rFrm i a T i' a') (h : RO g' i' a' T' dfn P B e r' o) : ∃ i2 a2 g2 k2 T2, o = some (i2, a2, g2, k2, nI 0) ∧ hGrow g g2 (k.1 + k2.1, k.2 + k2.2) ∧ T ≤ T2 ∧ rFrm i a T i2 a2 ∧ (rdF r' = 0 → RB g2 i2 a2 T2 dfn P B e 0 0 0 0 r' ∧ r'.2.2.1 ≤ 600) ∧ (rdF r' ≠ 0 → i2 26 = nI (rdF r') ∧ i2 25 = nI (rdP r') ∧ FL g2 i2 a2 T2 dfn P) := by
  obtain ⟨i2, a2, g2, k2, T2, z1, z2, z3, z4, z5, z6⟩ := h
  exact ⟨i2, a2, g2, k2, T2, z1, hGrow_trans hG z2, by omega, rFrm_trans hf hT z4, z5, z6⟩
theorem h_addM {n : Nat} {g : Nat → Nat} {i : Nat → Int32} {a : Nat → Nat → Int32} {T B e s c : Nat} {dfn : Bool} {P : List Proc} {r : Rd} {v : Tr} {x : Int32} (h : RB g i a T dfn P B e s c 1 1 r) (hc : 1 ≤ c) (hx : cV (a 0) T v none x) (hv : isL v = false) (hs : (aSh v 0).length ≤ s) (ht : r.2.2.1 ≤ 600) (h3 : r.1 = 3) (hf0 : rdF r = 0) : ∃ i' a', m_Reader_addMember n g i a x = some (i', a', nI 0) ∧ RO g i a T dfn P B e (r.1, aKAdd r.2.1 v, r.2.2) (some (i', a', g, (0, 0), nI 0)) := by
  obtain ⟨st, K, tok, D, cw, ci, fr, fk, fp⟩ := r
  have hf0 : fk = 0 := hf0
  dsimp only at h3 ht
  cases K with
  | nil => exact absurd rfl h.2.2.2.1
  | cons m R =>
    have h28 := h.2.1.2.1
    have hl : kHt (m :: R) + 1 ≤ tok := h.2.2.2.2.2.1
    refine ⟨_, _, h_addMember h28 (by show kHt (m :: R) < 600; omega), RO_w h.1.2.2.2.2.1 ⟨fun q h1 h2 => upd_ne (by omega), fun q h1 h2 => updA_ne (by omega), fun z hz => ?_⟩ (RB_add h hx (by omega) (by rw [tDp_flat hv]; omega) hc (by decide) (Or.inl h3)) ht hf0⟩
    show updA a 32 _ 0 z = _
    rw [updA_ne (by decide)]
theorem h_plain76 {n : Nat} {g : Nat → Nat} {i : Nat → Int32} {a : Nat → Nat → Int32} {T B e s c p : Nat} {dfn : Bool} {P : List Proc} {r : Rd} {v : Tr} {x : Int32} (hn : 10000 ≤ n) (h : RB g i a T dfn P B e s c 1 1 r) (hB : B + 4 * e + 1 ≤ 340000) (he : e ≤ 4000) (hc : 1 ≤ c) (hx : cV (a 0) T v none x) (hv : isL v = false) (hs : (aSh v 0).length ≤ s) (ht : r.2.2.1 ≤ 600) (h2 : 2 ≤ r.1) (hf0 : rdF r = 0) : RO g i a T dfn P B e (if dfn = true ∧ (aCI r).2.1.length = 1 ∧ aMean v = 85 then aBody (aCI r) else ((aCI r).1, aKAdd (aCI r).2.1 v, (aCI r).2.2)) (m_Reader_takePlain_b76 n i a g x (nI p) (nI (aMean v))) := by
  have h9 := h.2.2.2.2.2.2.2.2.2.2.2.1
  obtain ⟨i', a', g', k, T', q1, q2, q3, q4, q5⟩ := h_closeInputs hn h hB he ht h2
  obtain ⟨y1, y2, y3, y4⟩ := aCI_3 (r := r) h2 h9
  generalize aCI r = r1 at q5 y1 y2 y3 y4 ⊢
  have hx' : cV (a' 0) T' v none x := cV_up hx q3 q4.2.2
  have ht1 : r1.2.2.1 ≤ 600 := by omega
  have hf1 : rdF r1 = 0 := y4.trans hf0
  have hK1 : 1 ≤ r1.2.1.length := by
    have := q5.2.2.2.1
    cases e9 : r1.2.1 with
    | nil => exact absurd e9 this
    | cons a b => simp
  have hK2 := q5.2.2.2.2.1
  have e29 := q5.2.1.2.2.1
  have e31 : i' 31 = b1 dfn := q5.2.1.2.2.2.2.1
  have add : ∃ i2 a2 g2 k2 T2, ob (m_Reader_addMember n g' i' a' x) (fun i_13 a_14 r_15 => some (i_13, a_14, g', (0, 0), (0 : Int32))) = some (i2, a2, g2, k2, nI 0) ∧ hGrow g g2 (k.1 + k2.1, k.2 + k2.2) ∧ T ≤ T2 ∧ rFrm i a T i2 a2 ∧ (rdF (r1.1, aKAdd r1.2.1 v, r1.2.2) = 0 → RB g2 i2 a2 T2 dfn P B e 0 0 0 0 (r1.1, aKAdd r1.2.1 v, r1.2.2) ∧ (r1.1, aKAdd r1.2.1 v, r1.2.2).2.2.1 ≤ 600) ∧ (rdF (r1.1, aKAdd r1.2.1 v, r1.2.2) ≠ 0 → i2 26 = nI (rdF (r1.1, aKAdd r1.2.1 v, r1.2.2)) ∧ i2 25 = nI (rdP (r1.1, aKAdd r1.2.1 v, r1.2.2)) ∧ FL g2 i2 a2 T2 dfn P) := by
    obtain ⟨i2, a2, z1, z2⟩ := h_addM (n := n) q5 hc hx' hv hs ht1 y1 hf1
    rw [z1, ob_s]
    exact RO_up q2 q3 q4 z2
  unfold m_Reader_takePlain_b76
  rw [q1]
  cases dfn with
  | false =>
    rw [if_neg (fun hh => by cases hh.1)]
    obtain ⟨i2, a2, g2, k2, T2, z1, z2, z3, z4, z5, z6⟩ := add
    refine ⟨i2, a2, g2, (k.1 + k2.1, k.2 + k2.2), T2, obG_s ?_, z2, z3, z4, z5, z6⟩
    rw [e31, if_pos (show b1 false = (0 : Int32) from rfl)]
    exact z1
  | true =>
    have n31 : ¬ b1 true = (0 : Int32) := fun e => absurd ((nI_eq (a := 1) (b := 0) (by omega) (by omega)).mp e) (by decide)
    rcases Classical.em (r1.2.1.length = 1) with c1 | c1
    · rcases Classical.em (aMean v = 85) with c2 | c2
      · rw [if_pos ⟨rfl, c1, c2⟩]
        obtain ⟨i2, a2, g2, k2, T2, z1, z2, z3, z4, z5, z6⟩ := RO_up q2 q3 q4 (h_closeBody (p := p) hn q5 hB he ht1 y1 c1 hf1)
        refine ⟨i2, a2, g2, (k.1 + (k2.1 + 0), k.2 + (k2.2 + 0)), T2, obG_s (k' := (k2.1 + 0, k2.2 + 0)) ?_, z2, z3, z4, z5, z6⟩
        rw [e31, if_neg n31, e29, c1, if_pos (show nI (1 - 1) = (0 : Int32) from rfl), c2, if_pos (show nI 85 = (85 : Int32) from rfl), z1]
        exact obG_s (k' := (0, 0)) rfl
      · rw [if_neg (fun hh => c2 hh.2.2)]
        obtain ⟨i2, a2, g2, k2, T2, z1, z2, z3, z4, z5, z6⟩ := add
        refine ⟨i2, a2, g2, (k.1 + k2.1, k.2 + k2.2), T2, obG_s ?_, z2, z3, z4, z5, z6⟩
        have hl : aMean v < 88 := by
          unfold aMean
          split
          · exact aLex_lt _
          · decide
        rw [e31, if_neg n31, e29, c1, if_pos (show nI (1 - 1) = (0 : Int32) from rfl), if_neg (show ¬ nI (aMean v) = (85 : Int32) from fun e => c2 ((nI_eq (by omega) (by omega)).mp e))]
        exact z1
    · rw [if_neg (fun hh => c1 hh.2.1)]
      obtain ⟨i2, a2, g2, k2, T2, z1, z2, z3, z4, z5, z6⟩ := add
      refine ⟨i2, a2, g2, (k.1 + k2.1, k.2 + k2.2), T2, obG_s ?_, z2, z3, z4, z5, z6⟩
      rw [e31, if_neg n31, e29, if_neg (show ¬ nI (r1.2.1.length - 1) = (0 : Int32) from fun e => absurd ((nI_eq (b := 0) (by omega) (by omega)).mp e) (by omega))]
      exact z1
theorem h_plain19 {n : Nat} {g : Nat → Nat} {i : Nat → Int32} {a : Nat → Nat → Int32} {T B e s c p : Nat} {dfn : Bool} {P : List Proc} {r : Rd} {v : Tr} {x : Int32} (hn : 10000 ≤ n) (h : RB g i a T dfn P B e s c 1 1 r) (hB : B + 4 * e + 1 ≤ 340000) (he : e ≤ 4000) (hc : 1 ≤ c) (hx : cV (a 0) T v none x) (hv : isL v = false) (hs : (aSh v 0).length ≤ s) (ht : r.2.2.1 ≤ 600) (hf0 : rdF r = 0) : RO g i a T dfn P B e (aPlain dfn P p v r) (m_Reader_takePlain_b19 n i a g x (nI p) (nI (aMean v))) := by
  have hg : g 0 ≤ 340000 := h.1.2.2.2.2.1
  have h26 := h.2.1.1
  have hF := RB_FL h hB (by have := h.2.2.2.2.2.1; have := h.2.2.2.2.2.2.2.2.2.2.2.2.2.2.2.2; omega) he
  have h32 := h.2.1.2.2.2.2.2.1
  have h9 := h.2.2.2.2.2.2.2.2.2.2.2.1
  have hl : aMean v < 88 := by
    unfold aMean
    split
    · exact aLex_lt _
    · decide
  unfold m_Reader_takePlain_b19 aPlain
  simp only [i32_lit, h32]
  rcases Classical.em (r.1 = 0) with c1 | c1
  · rw [if_pos c1, ieq_p c1]
    unfold m_Reader_takeTo
    rcases Classical.em (aMean v = 84) with c2 | c2
    · rw [if_pos c2, c2, if_pos (show nI 84 = (84 : Int32) from rfl), ob1_s, ob_s]
      exact RO_w hg ⟨fun q h1 h2 => upd_ne (by omega), fun _ _ _ => rfl, fun _ _ => rfl⟩ (RB_to h c1 hc) ht hf0
    · rw [if_neg c2, if_neg (show ¬ nI (aMean v) = (84 : Int32) from fun e => c2 ((nI_eq (by omega) (by omega)).mp e)), show (7 : Int32) = nI 7 from rfl, h_blame h26, ob_s, ob_s]
      exact RO_bad hF (by decide)
  rw [if_neg c1, ieq_n ⟨c1, by omega, by omega⟩]
  rcases Classical.em (r.1 = 1) with c3 | c3
  · rw [if_pos c3, ieq_p c3]
    obtain ⟨i', a', z1, z2⟩ := h_takeName (n := n) (p := p) hn h hB he hc hx ht c3
    rw [z1, ob_s]
    exact z2
  rw [if_neg c3, ieq_n ⟨c3, by omega, by omega⟩]
  rcases Classical.em (r.1 = 2) with c4 | c4
  · rw [ieq_p c4]
    rcases Classical.em (aMean v = 87) with c5 | c5
    · rw [if_pos ⟨c4, c5⟩, ieq_p c5]
      have hw : isW v = true := by
        unfold aMean at c5
        split at c5
        · assumption
        · cases c5
      unfold aMean at c5
      rw [if_pos hw] at c5
      have ev := isW_eq hx hw
      cases el : tLet v with
      | nil =>
        rw [ev, el] at hx
        exact absurd rfl (cV_tW.mp hx).choose_spec.2.2.1
      | cons d b =>
        rw [el] at c5 ev
        have ed := aLex_58 c5
        subst ed
        rw [ev] at hx hs ⊢
        have hok : okLs (58 :: b) := (cV_tW.mp hx).choose_spec.2.2.2.2.2.1
        rw [(small_ok (tW (58 :: b))).2.1 (tOk_tW hok), tSz_tW] at hs
        obtain ⟨i', a', z1, z2⟩ := h_takeInput (n := n) (p := p) hn h hB he hc hx hs ht c4 hf0
        rw [z1, ob_s]
        exact z2
    · rw [if_neg (fun hh => c5 hh.2), ieq_n ⟨c5, by omega, by omega⟩]
      exact h_plain76 hn h hB he hc hx hv hs ht (by omega) hf0
  · rw [if_neg (fun hh => c4 hh.1), ieq_n ⟨c4, by omega, by omega⟩]
    exact h_plain76 hn h hB he hc hx hv hs ht (by omega) hf0
theorem h_takePlain {n : Nat} {g : Nat → Nat} {i : Nat → Int32} {a : Nat → Nat → Int32} {T B e s c p : Nat} {dfn : Bool} {P : List Proc} {r : Rd} {v : Tr} {x : Int32} (hn : 10000 ≤ n) (h : RB g i a T dfn P B e s c 1 1 r) (hB : B + 4 * e + 1 ≤ 340000) (he : e ≤ 4000) (hc : 1 ≤ c) (hx : cV (a 0) T v none x) (hv : isL v = false) (hs : (aSh v 0).length ≤ s) (ht : r.2.2.1 ≤ 600) (hf0 : rdF r = 0) : RO g i a T dfn P B e (aPlain dfn P p v r) (m_Reader_takePlain n g i a x (nI p)) := by
  have hg : g 0 ≤ 340000 := h.1.2.2.2.2.1
  have hT : T ≤ g 0 := h.1.2.2.1
  have key := h_plain19 (p := p) hn h hB he hc hx hv hs ht hf0
  unfold m_Reader_takePlain
  rw [(cV_kinds (by omega) hx n).1, ob0_s]
  simp only [i32_lit]
  rw [b1_z]
  cases hw : isW v with
  | false =>
    rw [if_neg (by decide)]
    unfold aMean at key
    rw [hw] at key
    exact key
  | true =>
    rw [if_pos rfl]
    unfold aMean at key
    rw [hw, if_pos rfl] at key
    have ev := isW_eq hx hw
    rw [ev] at hx
    rw [h_meaning hT hg h.1.2.2.2.2.2.1 (by omega) hx, ob0_s]
    exact key
/-- a word's cells stand behind -/
theorem RB_word {g : Nat → Nat} {i : Nat → Int32} {a : Nat → Nat → Int32} {g' : Nat → Nat} {T B e s c u y w : Nat} {dfn : Bool} {P : List Proc} {r : Rd} {f : Nat → Int32} (h : RB g i a T dfn P B e s (c + w) u y r) (hf : ∀ x, x < T → f x = a 0 x) (hg1 : T + w ≤ g' 0 ∧ sA f (T + w) = 0) (hg2 : g 0 ≤ g' 0) (hg3 : g' 0 ≤ 340000) : RB g' (upd i 8 (nI (T + w))) (updA a 0 f) (T + w) dfn P B e s c u y r := by
  obtain ⟨hG, ⟨i1, i2, i3, i4, i5, i6, i7, i8⟩, ⟨r1, r2, r3, r4⟩, ⟨s1, s2, s3, s4, s5, s6, s7, s8, s9⟩⟩ := h
  refine ⟨rdGen_up hG (by omega) rfl hg1 hg2 hg3 ⟨fun q h1 h2 => upd_ne h1, fun q h1 h2 => updA_ne h1, fun x hx => hf x hx⟩, ⟨i1, i2, i3, i4, i5, i6, i7, i8⟩, ⟨stkR_keep (T := T) (by omega) hf _ (fun _ _ => rfl) (fun _ _ => rfl) r1, dfR_keep (T := T) (by omega) hf (fun _ _ => rfl) (fun _ _ => rfl) (fun _ _ => rfl) r2, fun q1 q2 => cV_up (r3 q1 q2) (by omega) hf, fun q1 q2 => cV_up (r4 q1 q2) (by omega) hf⟩, ⟨s1, s2, s3, s4, s5, s6, s7, by omega, s9⟩⟩
theorem RB_less {g : Nat → Nat} {i : Nat → Int32} {a : Nat → Nat → Int32} {T B e s c c' u y : Nat} {dfn : Bool} {P : List Proc} {r : Rd} (h : RB g i a T dfn P B e s c u y r) (hc : c' ≤ c) : RB g i a T dfn P B e s c' u y r := by
  obtain ⟨hG, hI, hR, ⟨s1, s2, s3, s4, s5, s6, s7, s8, s9⟩⟩ := h
  exact ⟨hG, hI, hR, ⟨s1, s2, s3, s4, s5, s6, s7, by omega, s9⟩⟩
theorem h_token {n : Nat} {g : Nat → Nat} {i : Nat → Int32} {a : Nat → Nat → Int32} {T B k N : Nat} {dfn : Bool} {P : List Proc} {r : Rd} {tp : Nat → Nat} (hn : 10000 ≤ n) (h : RB g i a T dfn P B k 0 0 0 0 r) (ht : r.2.2.1 ≤ 600) (hf0 : rdF r = 0) (hp : tpR i a tp N) (hk : k < N) (h33 : 33 ≤ tp k) (h126 : tp k ≤ 126) (hB : B + 16001 ≤ 340000) : RO g i a T dfn P B (aTE tp N k) (aTok dfn P k (aTxt tp k (aTE tp N k)) r) (m_Reader_readToken n g i a (nI k) (nI (aTE tp N k))) := by
  obtain ⟨h24, hN4, hr, hb⟩ := hp
  have hte := aTE_le (tp := tp) hk
  have hlen := aTxt_len tp k (aTE tp N k)
  have hok := aTxt_ok (n := N) hk h33 h126
  have hat : ∀ j (hj : j < (aTxt tp k (aTE tp N k)).length), a 31 (k + j) = nI ((aTxt tp k (aTE tp N k))[j]'hj) := fun j hj => by
    rw [aTxt_at, hr _ (by omega)]
  generalize hE : aTE tp N k = E at *
  generalize hL : aTxt tp k E = l at *
  have hl0 : l ≠ [] := fun e => by rw [e] at hlen; simp at hlen; omega
  have hhead : l.head? = some (tp k) := by
    cases l with
    | nil => exact absurd rfl hl0
    | cons c q =>
      have h0 := hat 0 (by simp)
      rw [Nat.add_zero, hr k hk] at h0
      have hc := (hok c List.mem_cons_self).2
      have : tp k = c := (nI_eq (by have := hb k; omega) (by omega)).mp h0
      rw [this]; rfl
  obtain ⟨st, K, tok, D, cw, ci, fr, fk, fp⟩ := r
  have hf0 : fk = 0 := hf0
  subst hf0
  dsimp only at ht
  have h30 : i 30 = nI tok := h.2.1.2.2.2.1
  have h1 : RB g (upd i 30 (nI (tok + 1))) a T dfn P B E (E - k) (4 * (E - k)) 1 1 (st, K, tok + 1, D, cw, ci, fr, 0, fp) := by
    obtain ⟨hG, ⟨i1, i2, i3, i4, i5, i6, i7, i8⟩, hR, ⟨s1, s2, s3, s4, s5, s6, s7, s8, s9, s10, s11, s12, s13, s14⟩⟩ := h
    dsimp only at s1 s2 s3 s4 s5 s6 s7 s8 s9 s10 s11 s12 s13 s14
    refine ⟨rdGen_up hG (Nat.le_refl _) hG.1 ⟨hG.2.2.1, hG.2.1.2⟩ (Nat.le_refl _) hG.2.2.2.2.1 ⟨fun q h1 h2 => upd_ne (by omega), fun _ _ _ => rfl, fun _ _ => rfl⟩, ⟨i1, i2, i3, rfl, i5, i6, i7, i8⟩, hR, ⟨s1, s2, ?_, ?_, ?_, ?_, ?_, ?_, s9, s10, s11, s12, s13, ?_⟩⟩
    · show kHt K + 1 ≤ tok + 1; omega
    · show kSh K + 2 * (K.length - 1) + (E - k) + 1 ≤ E + (tok + 1); omega
    · show kDp K + (K.length - 1) + 1 ≤ tok + 1; omega
    · show 3 * D.length + (if dfn then min st 2 else 0) + 1 ≤ tok + 1; omega
    · show fr + 1 ≤ tok + 1; omega
    · show T + kHt K + pend st + 4 * (E - k) ≤ B + 4 * E; omega
    · show tok + 1 ≤ 601; omega
  have hg : g 0 ≤ 340000 := h.1.2.2.2.2.1
  have fr1 : rFrm i a T (upd i 30 (nI (tok + 1))) a := ⟨fun q h1 h2 => upd_ne (by omega), fun _ _ _ => rfl, fun _ _ => rfl⟩
  have lift : ∀ {r' o}, RO g (upd i 30 (nI (tok + 1))) a T dfn P B E r' o → ∃ i2 a2 g2 k2 T2, o = some (i2, a2, g2, k2, nI 0) ∧ hGrow g g2 (0 + k2.1, 0 + k2.2) ∧ T ≤ T2 ∧ rFrm i a T i2 a2 ∧ (rdF r' = 0 → RB g2 i2 a2 T2 dfn P B E 0 0 0 0 r' ∧ r'.2.2.1 ≤ 600) ∧ (rdF r' ≠ 0 → i2 26 = nI (rdF r') ∧ i2 25 = nI (rdP r') ∧ FL g2 i2 a2 T2 dfn P) := fun hh => RO_up (k := (0, 0)) (hGrow_refl hg) (Nat.le_refl T) fr1 hh
  unfold m_Reader_readToken aTok
  dsimp only
  rw [hhead]
  simp only [i32_lit, ob1_s]
  rw [h30, nI_add, ck_n (by omega), cl_n (by omega), hr k hk]
  have hE1 : tp k = 91 ∨ tp k = 93 → E = k + 1 := fun hh => by
    rw [← hE]
    unfold aTE
    rcases hh with e | e <;> rw [e] <;> rfl
  rcases Classical.em (tp k = 91) with c1 | c1
  · have e1 := hE1 (Or.inl c1)
    have h1' : RB g (upd i 30 (nI (tok + 1))) a T dfn P B E 1 4 1 1 (st, K, tok + 1, D, cw, ci, fr, 0, fp) := by
      have := h1
      rw [show E - k = 1 by omega] at this
      exact this
    rw [c1, ieq_p rfl, if_pos rfl]
    obtain ⟨i2, a2, g2, k2, T2, z1, z2, z3, z4, z5, z6⟩ := lift (h_openList (p := k) hn h1' (by omega) (by omega) rfl)
    rw [z1]
    exact ⟨i2, a2, g2, _, T2, obG_s (k' := (0, 0)) rfl, by rw [Nat.zero_add, Nat.zero_add] at z2; exact z2, z3, z4, z5, z6⟩
  rw [ieq_n ⟨c1, by omega, by omega⟩, if_neg (show ¬ some (tp k) = some 91 from fun e => c1 (Option.some.inj e)), ck_n (by omega)]
  rcases Classical.em (tp k = 93) with c2 | c2
  · have e1 := hE1 (Or.inr c2)
    have h1' : RB g (upd i 30 (nI (tok + 1))) a T dfn P B E 1 4 1 1 (st, K, tok + 1, D, cw, ci, fr, 0, fp) := by
      have := h1
      rw [show E - k = 1 by omega] at this
      exact this
    rw [c2, ieq_p rfl, if_pos rfl]
    obtain ⟨i2, a2, g2, k2, T2, z1, z2, z3, z4, z5, z6⟩ := lift (h_closeList (p := k) hn h1' (by omega) (by omega) rfl)
    rw [z1]
    exact ⟨i2, a2, g2, _, T2, obG_s (k' := (0, 0)) rfl, by rw [Nat.zero_add, Nat.zero_add] at z2; exact z2, z3, z4, z5, z6⟩
  rw [ieq_n ⟨c2, by omega, by omega⟩, if_neg (show ¬ some (tp k) = some 93 from fun e => c2 (Option.some.inj e))]
  have h26 : upd i 30 (nI (tok + 1)) 26 = nI 0 := h1.2.1.1
  have hE2 : E = k + l.length := by omega
  have hnum := h_num_a31 (n := n) (g := g) (i := upd i 30 (nI (tok + 1))) (a := a) (p := k) (l := l) (by omega) hl0 (by omega) (fun c hc => (hok c hc).2) hat
  rw [← hE2] at hnum
  unfold m_Reader_readPlain aTokP
  rw [hnum, ob0_s]
  simp only [i32_lit]
  have bad : ∀ (q : Nat) (i9 : Nat → Int32) (x : Int32), q ≠ 0 → q < 100 → i9 26 = nI q → m_Reader_readPlain_b70 n i9 a g (nI k) x = some (i9, a, g, (0, 0), x) := by
    intro q i9 x hq hq2 h9
    unfold m_Reader_readPlain_b70 m_Reader_readPlain_b86
    rw [h_blame_no h9 hq hq2, ob_s]
    split
    · rfl
    · split <;> rfl
  have hF1 : FL g (upd i 30 (nI (tok + 1))) a T dfn P := RB_FL h1 (by omega) (by have := h1.2.2.2.2.2.1; have := h1.2.2.2.2.2.2.2.2.2.2.2.2.2.2.2.2; dsimp only at *; omega) (by omega)
  have fin : ∀ (q : Nat), q ≠ 0 → q < 100 → ∀ x, RO g i a T dfn P B E (rdBad q k (st, K, tok + 1, D, cw, ci, fr, 0, fp)) (obG (some (upd (upd (upd i 30 (nI (tok + 1))) 26 (nI q)) 25 (nI k), a, g, (0, 0), x)) (fun i_8 a_9 g_10 r_12 => if i_8 26 = nI 0 then obG (m_Reader_takePlain n g_10 i_8 a_9 r_12 (nI k)) (fun i_19 a_20 g_21 r_23 => some (i_19, a_20, g_21, (0, 0), nI 0)) else some (i_8, a_9, g_10, (0, 0), nI 0))) := by
    intro q hq hq2 x
    obtain ⟨i2, a2, g2, k2, T2, z1, z2, z3, z4, z5, z6⟩ := lift (RO_bad (g := g) (i := upd i 30 (nI (tok + 1))) (a := a) (T := T) (B := B) (e := E) (k := q) (at_ := k) (dfn := dfn) (P := P) (r := (st, K, tok + 1, D, cw, ci, fr, 0, fp)) hF1 hq)
    injection z1 with z1
    refine ⟨upd (upd (upd i 30 (nI (tok + 1))) 26 (nI q)) 25 (nI k), a, g, (0 + 0, 0 + 0), T, obG_s (k' := (0, 0)) ?_, hGrow_refl hg, Nat.le_refl _, ⟨fun q h1 h2 => by rw [upd_ne (by omega), upd_ne (by omega), upd_ne (by omega)], fun _ _ _ => rfl, fun _ _ => rfl⟩, fun hh => absurd hh hq, fun _ => ⟨rfl, rfl, FL_i hF1 (fun q hq => by rw [upd_ne (by omega), upd_ne (by omega)])⟩⟩
    rw [if_neg (show ¬ upd (upd (upd i 30 (nI (tok + 1))) 26 (nI q)) 25 (nI k) 26 = nI 0 from fun e => hq ((nI_eq (a := q) (b := 0) (by omega) (by omega)).mp e))]
  have good : ∀ (v : Tr) (x : Int32) (i9 : Nat → Int32) (a9 : Nat → Nat → Int32) (g9 : Nat → Nat) (k9 : Nat × Nat) (T9 c9 : Nat), RB g9 i9 a9 T9 dfn P B E (E - k) c9 1 1 (st, K, tok + 1, D, cw, ci, fr, 0, fp) → hGrow g g9 k9 → T ≤ T9 → rFrm i a T i9 a9 → cV (a9 0) T9 v none x → isL v = false → (aSh v 0).length ≤ E - k → 1 ≤ c9 → RO g i a T dfn P B E (if 600 < tok + 1 then rdBad 6 k (st, K, tok + 1, D, cw, ci, fr, 0, fp) else aPlain dfn P k v (st, K, tok + 1, D, cw, ci, fr, 0, fp)) (obG (obG (some (i9, a9, g9, k9, nI 0)) (fun i a g _ => m_Reader_readPlain_b70 n i a g (nI k) x)) (fun i_8 a_9 g_10 r_12 => if i_8 26 = nI 0 then obG (m_Reader_takePlain n g_10 i_8 a_9 r_12 (nI k)) (fun i_19 a_20 g_21 r_23 => some (i_19, a_20, g_21, (0, 0), nI 0)) else some (i_8, a_9, g_10, (0, 0), nI 0))) := by
    intro v x i9 a9 g9 k9 T9 c9 hR hG9 hT9 hF9 hx hv hs hc9
    have e30 : i9 30 = nI (tok + 1) := hR.2.1.2.2.2.1
    have e26 : i9 26 = nI 0 := hR.2.1.1
    have hg9 : g9 0 ≤ 340000 := hR.1.2.2.2.2.1
    have hT9b : T9 ≤ g9 0 := hR.1.2.2.1
    rcases Nat.lt_or_ge 600 (tok + 1) with c3 | c3
    · rw [if_pos c3]
      have e70 : m_Reader_readPlain_b70 n i9 a9 g9 (nI k) x = some (upd (upd i9 26 (nI 6)) 25 (nI k), a9, g9, (0, 0), x) := by
        unfold m_Reader_readPlain_b70 m_Reader_readPlain_b86
        simp only [i32_lit]
        rw [e30, ilt_p (by omega), h_blame e26, ob_s]
      rw [obG_s (k := k9) (k' := (0, 0)) e70]
      refine ⟨upd (upd i9 26 (nI 6)) 25 (nI k), a9, g9, (k9.1 + 0 + 0, k9.2 + 0 + 0), T9, obG_s (k' := (0, 0)) ?_, hG9, hT9, rFrm_trans hF9 hT9 ⟨fun q h1 h2 => by rw [upd_ne (by omega), upd_ne (by omega)], fun _ _ _ => rfl, fun _ _ => rfl⟩, fun hh => absurd hh (by show ¬ 6 = 0; decide), fun _ => ⟨rfl, rfl, FL_i (RB_FL hR (by omega) (by have := hR.2.2.2.2.2.1; have := hR.2.2.2.2.2.2.2.2.2.2.2.2.2.2.2.2; dsimp only at *; omega) (by omega)) (fun q hq => by rw [upd_ne (by omega), upd_ne (by omega)])⟩⟩
      rw [if_neg (show ¬ upd (upd i9 26 (nI 6)) 25 (nI k) 26 = nI 0 from fun e => absurd ((nI_eq (a := 6) (b := 0) (by omega) (by omega)).mp e) (by decide))]
    · rw [if_neg (by omega)]
      have e70 : m_Reader_readPlain_b70 n i9 a9 g9 (nI k) x = some (i9, a9, g9, (0, 0), x) := by
        unfold m_Reader_readPlain_b70
        simp only [i32_lit]
        rw [e30, ilt_n (by omega), if_neg (cV_no (by omega) hx)]
      rw [obG_s (k := k9) (k' := (0, 0)) e70]
      obtain ⟨i2, a2, g2, k2, T2, z1, z2, z3, z4, z5, z6⟩ := RO_up hG9 hT9 hF9 (h_takePlain (n := n) (p := k) hn hR (by omega) (by omega) hc9 hx hv hs c3 rfl)
      refine ⟨i2, a2, g2, (k9.1 + 0 + (k2.1 + 0), k9.2 + 0 + (k2.2 + 0)), T2, obG_s (k' := (k2.1 + 0, k2.2 + 0)) ?_, z2, z3, z4, z5, z6⟩
      rw [if_pos e26, z1]
      exact obG_s (k' := (0, 0)) rfl
  rcases aPar_cases l with c3 | c3 | ⟨z, c3, _⟩
  · rw [c3]
    rw [show numR (0, 0) = -nI 2147483648 from rfl, if_neg (show ¬ (-nI 2147483648 = -nI 2147483639) from by decide), if_pos rfl]
    rw [hE2, sub_n (by omega), show k + l.length - k = l.length by omega]
    rcases Nat.lt_or_ge 30 l.length with c4 | c4
    · rw [if_pos c4, ile_n (by omega), h_blame h26, ob_s, bad 3 _ _ (by decide) (by decide) rfl, ← hE2]
      exact fin 3 (by decide) (by decide) _
    · rw [if_neg (by omega), ile_p (by omega)]
      unfold m_Reader_readPlain_b48
      have hT21 := h.1.2.1
      have hsz := h1.2.2.2.2.2.2.2.2.2.2.1
      have hsz : T + kHt K + pend st + 4 * (E - k) ≤ B + 4 * E := hsz
      obtain ⟨f, g', kk, q1, q2, q3, q4, q5⟩ := h_newWord_a31 (n := n) (g := g) (i := upd i 30 (nI (tok + 1))) (a := a) (T := T) (p := k) (l := l) h.1.2.2.2.2.2.1 (by omega) h1.1.1 h1.1.2.2.1 (by omega) (by omega) h.1.2.2.2.1 hg hl0 c4 hok (by omega) hat
      rw [if_pos (show -nI 2147483648 = (-2147483648 : Int32) from rfl), sub_n (by omega), show k + l.length - k = l.length by omega, q1]
      have l1 : 1 ≤ l.length := by
        cases l with
        | nil => exact absurd rfl hl0
        | cons a b => simp
      have hw : RB g' (upd (upd i 30 (nI (tok + 1))) 8 (nI (T + (l.length + 2)))) (updA a 0 f) (T + (l.length + 2)) dfn P B E (E - k) 1 1 1 (st, K, tok + 1, D, cw, ci, fr, 0, fp) := RB_word (RB_less h1 (by omega)) q2 (by rw [show T + (l.length + 2) = T + l.length + 2 by omega]; exact q4) q5.1 q5.2.1
      rw [← hE2]
      have := good (tW l) (nI (4 * (T + 1) + 3)) _ _ g' kk (T + (l.length + 2)) 1 hw q5 (by omega) (rFrm_trans fr1 (Nat.le_refl T) ⟨fun q h1 h2 => upd_ne h1, fun q h1 h2 => updA_ne h1, fun x hx => q2 x hx⟩) (by rw [show T + (l.length + 2) = T + l.length + 2 by omega]; exact q3) (isL_tW l) (by rw [(small_ok (tW l)).2.1 (tOk_tW hok), tSz_tW]; omega) (by decide)
      rw [show T + (l.length + 2) = T + l.length + 2 by omega] at this
      exact this
  · rw [c3]
    rw [show numR (2, 0) = -nI 2147483639 from rfl, if_pos rfl, h_blame h26, ob_s, bad 2 _ _ (by decide) (by decide) rfl]
    exact fin 2 (by decide) (by decide) _
  · rw [c3]
    obtain ⟨hz0, hz1, hz2⟩ := aPar_sh c3
    have hTg : T ≤ g 0 := h.1.2.2.1
    have hv : cV (a 0) T (tN z) none (hN z) := cV_tN.mpr ⟨hz1, hz2, rfl⟩
    have n1 : ¬ hN z = -nI 2147483639 := fun e => by
      have e2 : (hN z).toInt = (-nI 2147483639).toInt := by rw [e]
      rw [hN_int hz1 hz2, show (-nI 2147483639).toInt = -2147483639 from by decide] at e2
      omega
    rw [show numR (1, z) = hN z from rfl, if_neg n1, if_neg (show ¬ hN z = -nI 2147483648 from cV_no (by omega) hv)]
    unfold m_Reader_readPlain_b48
    rw [if_neg (show ¬ hN z = (-2147483648 : Int32) from cV_no (by omega) hv)]
    have l1 : 1 ≤ l.length := by
      cases l with
      | nil => exact absurd rfl hl0
      | cons a b => simp
    have := good (tN z) (hN z) _ _ g (0, 0) T (4 * (E - k)) h1 (hGrow_refl hg) (Nat.le_refl T) fr1 hv rfl (by show (aNumS z).length ≤ E - k; omega) (by omega)
    rw [obG_0] at this
    exact this

