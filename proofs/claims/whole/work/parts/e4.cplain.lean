/-! the class reads what is no bracket -/
theorem h_pfind {n : Nat} {g : Nat → Nat} {i : Nat → Int32} {a : Nat → Nat → Int32} {T : Nat} {P : List Proc} {w : Nm} {x : Int32} (hn : 2000 ≤ n) (ht : T ≤ g 0) (hg : g 0 ≤ 340000) (b2 : rProc (a 0) T (i 15) (a 15) (a 16) (a 17) P) (hx : cV (a 0) T (tW w) none x) : (pFind P w = none ∧ m_Procedures_find n g i a x = some (-nI 1)) ∨ (∃ k, ∃ hk : k < P.length, pFind P w = some k ∧ m_Procedures_find n g i a x = some (nI k) ∧ (P[k]'hk).1 = w) := by
  obtain ⟨s, s1, s2⟩ := h_Procedures_find (n := n) (i := i) (nms := P.map (·.1)) ht hg (by omega) (by rw [List.length_map]; exact b2.1) (by rw [List.length_map]; exact b2.2.1) (fun k hk => by
    rw [List.getElem_map]
    exact (b2.2.2 k (by rw [List.length_map] at hk; exact hk)).1) hx
  rcases s2 with ⟨q, hq, rfl, t1, t2⟩ | ⟨rfl, t1⟩
  · rw [List.length_map] at hq
    rw [List.getElem_map] at t1
    right
    exact ⟨q, hq, pFind_some P q ⟨hq, t1, fun j hj h9 => by
      have := t2 j (by rw [List.length_map]; exact hj) h9
      rw [List.getElem_map] at this
      exact this⟩, s1, t1⟩
  · left
    exact ⟨pFind_none (w := w) P (fun j hj => by
      have := t1 j (by rw [List.length_map]; exact hj)
      rw [List.getElem_map] at this
      exact this), s1⟩
theorem h_isNew_b {n : Nat} {g : Nat → Nat} {i : Nat → Int32} {a : Nat → Nat → Int32} {T : Nat} {P D : List Proc} {w : Nm} {x : Int32} (hn : 2000 ≤ n) (ht : T ≤ g 0) (hg : g 0 ≤ 340000) (b2 : rProc (a 0) T (i 15) (a 15) (a 16) (a 17) P) (hx : cV (a 0) T (tW w) none x) (h33 : i 33 = nI D.length) (hD : D.length ≤ 200) (hr : ∀ k (h : k < D.length), cV (a 0) T (tW (D[k]'h).1) none (a 34 k)) : ∀ (m k f : Nat), D.length = k + m → m < f → (∀ j (h : j < D.length), j < k → (D[j]'h).1 ≠ w) → m_Reader_isNew_b2 n g i a f x (nI k) = some (b1 (aNew P D w)) := by
  intro m
  induction m with
  | zero =>
    intro k f e hf hj
    obtain ⟨f, rfl⟩ : ∃ f', f = f' + 1 := ⟨f - 1, by omega⟩
    have hall : ∀ p ∈ D, p.1 ≠ w := fun p hp => by
      obtain ⟨j, hj2, rfl⟩ := List.getElem_of_mem hp
      exact hj j hj2 (by omega)
    rw [m_Reader_isNew_b2, h33, ile_p (by omega)]
    unfold aNew
    rw [dec_t hall, Bool.true_and]
    rcases h_pfind (n := n) hn ht hg b2 hx with ⟨q1, q2⟩ | ⟨q, hq, q1, q2, q3⟩
    · rw [q2, ob0_s, if_neg (by decide), q1]; rfl
    · have hP := b2.2.1
      rw [q2, ob0_s, if_pos (show (0 : Int32) ≤ nI q from nI_le (a := 0) (by omega) (by omega)), q1]; rfl
  | succ m ih =>
    intro k f e hf hj
    obtain ⟨f, rfl⟩ : ∃ f', f = f' + 1 := ⟨f - 1, by omega⟩
    have hk : k < D.length := by omega
    rw [m_Reader_isNew_b2, h33, ile_n (by omega), ck_n (by omega), cl_n (by omega), h_sameWord ht hg (by omega) (hr k hk) hx, ob0_s]
    simp only [i32_lit, nI_add]
    rw [b1_z]
    rcases Classical.em ((D[k]'hk).1 = w) with c | c
    · rw [decide_eq_true c, if_pos rfl]
      unfold aNew
      rw [dec_f (fun hh => hh _ (List.getElem_mem hk) c), Bool.false_and]; rfl
    · rw [decide_eq_false c, if_neg (by decide), ob1_s]
      refine ih (k + 1) f (by omega) (by omega) (fun j hj2 h9 => ?_)
      rcases Nat.eq_or_lt_of_le (Nat.le_of_lt_succ h9) with e9 | e9
      · subst e9; exact c
      · exact hj j hj2 e9
/-- the stage alone is another -/
theorem RB_to {g : Nat → Nat} {i : Nat → Int32} {a : Nat → Nat → Int32} {T B e s c : Nat} {dfn : Bool} {P : List Proc} {r : Rd} (h : RB g i a T dfn P B e s c 1 1 r) (h0 : r.1 = 0) (hc : 1 ≤ c) : RB g (upd i 32 (nI 1)) a T dfn P B e 0 0 0 0 (1, r.2) := by
  obtain ⟨st, K, tok, D, cw, ci, fr, fk, fp⟩ := r
  obtain ⟨hG, ⟨i1, i2, i3, i4, i5, i6, i7, i8⟩, ⟨r1, r2, r3, r4⟩, ⟨s1, s2, s3, s4, s5, s6, s7, s8, s9, s10, s11, s12, s13, s14⟩⟩ := h
  dsimp only at h0 i1 i2 i3 i4 i5 i6 i7 i8 r1 r2 r3 r4 s1 s2 s3 s4 s5 s6 s7 s8 s9 s10 s11 s12 s13 s14
  subst h0
  rw [show pend 0 = 0 from rfl] at s8
  refine ⟨rdGen_up hG (Nat.le_refl _) hG.1 ⟨hG.2.2.1, hG.2.1.2⟩ (Nat.le_refl _) hG.2.2.2.2.1 ⟨fun q h1 h2 => upd_ne (by omega), fun _ _ _ => rfl, fun _ _ => rfl⟩, ⟨i1, i2, i3, i4, i5, rfl, i7, i8⟩, ⟨r1, r2, fun q _ => absurd (show (2 : Nat) ≤ 1 from q) (by decide), fun q _ => absurd (show (1 : Nat) = 3 from q) (by decide)⟩, ⟨s1, s2, ?_, ?_, ?_, ?_, ?_, ?_, (by decide : (1 : Nat) ≤ 3), fun _ => s10 (by decide), fun _ => s11 (by decide), fun q => absurd (show (1 : Nat) = 2 from q) (by decide), fun q => absurd (s13 q) (by decide), s14⟩⟩
  · show kHt K + 0 ≤ tok; omega
  · show kSh K + 2 * (K.length - 1) + 0 + 0 ≤ e + tok; omega
  · show kDp K + (K.length - 1) + 0 ≤ tok; omega
  · show 3 * D.length + (if dfn then min 1 2 else 0) + 0 ≤ tok
    rw [show min 0 2 = 0 from rfl] at s6
    rw [show min 1 2 = 1 from rfl]
    cases dfn
    · rw [if_neg (by decide)] at s6 ⊢; omega
    · rw [if_pos rfl] at s6 ⊢; omega
  · show fr + 0 ≤ tok; omega
  · show T + kHt K + 1 + 0 ≤ B + 4 * e; omega
theorem RB_name {g : Nat → Nat} {i : Nat → Int32} {a : Nat → Nat → Int32} {T B e s c fr' : Nat} {dfn : Bool} {P : List Proc} {r : Rd} {w : Nm} {x : Int32} (h : RB g i a T dfn P B e s c 1 1 r) (h0 : r.1 = 1) (hc : 1 ≤ c) (hx : cV (a 0) T (tW w) none x) (hfr : fr' ≤ r.2.2.2.2.2.2.1 + 1) : RB g (upd (upd i 34 (nI fr')) 32 (nI 2)) (sv a 34 r.2.2.2.1.length x) T dfn P B e 0 0 0 0 (2, [[]], r.2.2.1, r.2.2.2.1, w, [], fr', 0, 0) := by
  obtain ⟨st, K, tok, D, cw, ci, fr, fk, fp⟩ := r
  obtain ⟨hG, ⟨i1, i2, i3, i4, i5, i6, i7, i8⟩, ⟨r1, r2, r3, r4⟩, ⟨s1, s2, s3, s4, s5, s6, s7, s8, s9, s10, s11, s12, s13, s14⟩⟩ := h
  dsimp only at h0 hfr i1 i2 i3 i4 i5 i6 i7 i8 r1 r2 r3 r4 s1 s2 s3 s4 s5 s6 s7 s8 s9 s10 s11 s12 s13 s14
  subst h0
  obtain rfl := s11 (by decide)
  have hd : dfn = true := by
    cases dfn with
    | true => rfl
    | false => exact absurd (s13 rfl) (by decide)
  subst hd
  rw [if_pos rfl, show min 1 2 = 1 from rfl] at s6
  rw [show pend 1 = 1 from rfl, show kHt [[]] = 0 from rfl] at s8
  refine ⟨rdGen_up hG (Nat.le_refl _) hG.1 ⟨hG.2.2.1, hG.2.1.2⟩ (Nat.le_refl _) hG.2.2.2.2.1 ⟨fun q h1 h2 => by rw [upd_ne (by omega), upd_ne (by omega)], fun q h1 h2 => updA_ne (by omega), fun _ _ => rfl⟩, ⟨i1, i2, i3, i4, i5, rfl, i7, rfl⟩, ⟨r1, ?_, fun _ _ => ?_, fun q _ => absurd (show (2 : Nat) = 3 from q) (by decide)⟩, ⟨s1, s2, ?_, ?_, ?_, ?_, ?_, ?_, (by decide : (2 : Nat) ≤ 3), fun _ => rfl, fun q => absurd (show (2 : Nat) < 2 from q) (by decide), fun _ => ⟨[], rfl⟩, fun q => absurd q (by decide), s14⟩⟩
  · refine dfR_keep (Nat.le_refl T) (fun _ _ => rfl) (fun z hz => ?_) (fun _ _ => rfl) (fun _ _ => rfl) r2
    have hz : z < D.length := hz
    show upd (a 34) D.length x z = _
    rw [upd_ne (by omega)]
  · show cV (a 0) T (tW w) none (upd (a 34) D.length x D.length)
    rw [upd_at]; exact hx
  · show 0 + 0 ≤ tok; omega
  · show kSh [[]] + 2 * 0 + 0 + 0 ≤ e + tok
    rw [show kSh [[]] = 0 from rfl]; omega
  · show kDp [[]] + 0 + 0 ≤ tok
    rw [show kDp [[]] = 0 from rfl]; omega
  · show 3 * D.length + 2 + 0 ≤ tok; omega
  · show fr' + 0 ≤ tok; omega
  · show T + 0 + 2 + 0 ≤ B + 4 * e; omega
theorem RO_w {g : Nat → Nat} {i : Nat → Int32} {a : Nat → Nat → Int32} {T B e : Nat} {dfn : Bool} {P : List Proc} {r' : Rd} {i' : Nat → Int32} {a' : Nat → Nat → Int32} (hg : g 0 ≤ 340000) (hf : rFrm i a T i' a') (h : RB g i' a' T dfn P B e 0 0 0 0 r') (ht : r'.2.2.1 ≤ 600) (h0 : rdF r' = 0) : RO g i a T dfn P B e r' (some (i', a', g, (0, 0), nI 0)) :=
  ⟨i', a', g, (0, 0), T, rfl, hGrow_refl hg, Nat.le_refl _, hf, fun _ => ⟨h, ht⟩, fun hh => absurd h0 hh⟩
theorem h_takeName {n : Nat} {g : Nat → Nat} {i : Nat → Int32} {a : Nat → Nat → Int32} {T B e s c p : Nat} {dfn : Bool} {P : List Proc} {r : Rd} {v : Tr} {x : Int32} (hn : 10000 ≤ n) (h : RB g i a T dfn P B e s c 1 1 r) (hB : B + 4 * e + 1 ≤ 340000) (he : e ≤ 4000) (hc : 1 ≤ c) (hx : cV (a 0) T v none x) (ht : r.2.2.1 ≤ 600) (h0 : r.1 = 1) : ∃ i' a', m_Reader_takeName n g i a x (nI p) = some (i', a', nI 0) ∧ RO g i a T dfn P B e (aName P p v r) (some (i', a', g, (0, 0), nI 0)) := by
  have hg : g 0 ≤ 340000 := h.1.2.2.2.2.1
  have hT : T ≤ g 0 := h.1.2.2.1
  have h26 := h.2.1.1
  have hF := RB_FL h hB (by have := h.2.2.2.2.2.1; have := h.2.2.2.2.2.2.2.2.2.2.2.2.2.2.2.2; omega) he
  unfold m_Reader_takeName aName m_Reader_takeName_b18
  rw [(cV_kinds (by omega) hx n).1, ob0_s]
  simp only [i32_lit]
  rw [b1_z]
  cases hw : isW v with
  | false =>
    rw [if_neg (by decide), if_pos (Or.inl rfl), h_blame h26, ob_s]
    exact ⟨_, _, rfl, RO_bad hF (by decide)⟩
  | true =>
    rw [if_pos rfl]
    have ev := isW_eq hx hw
    rw [ev] at hx
    rw [h_meaning hT hg h.1.2.2.2.2.2.1 (by omega) hx, ob0_s]
    rcases Classical.em (aLex (tLet v) = 0) with c1 | c1
    · have nb : ¬ (true = false ∨ aLex (tLet v) ≠ 0) := fun hh => hh.elim (fun q => by cases q) (fun q => q c1)
      rw [if_neg nb, c1, ieq_p rfl]
      have h33 : i 33 = nI r.2.2.2.1.length := h.2.1.2.2.2.2.2.2.1
      have h34 : i 34 = nI r.2.2.2.2.2.2.1 := h.2.1.2.2.2.2.2.2.2
      have s6 := h.2.2.2.2.2.2.2.2.1
      have s7 := h.2.2.2.2.2.2.2.2.2.1
      have hPl := h.1.2.2.2.2.2.2.2.1
      have h15 := h.1.2.2.2.2.2.2.1
      have hdl : r.2.2.2.1.length ≤ 199 := by
        rw [h0] at s6
        have : dfn = true := by
          cases dfn with
          | true => rfl
          | false => exact absurd (h.2.2.2.2.2.2.2.2.2.2.2.2.2.2.2.1 rfl) (by rw [h0]; decide)
        rw [this, if_pos rfl, show min 1 2 = 1 from rfl] at s6
        omega
      unfold m_Reader_isNew
      rw [show (0 : Int32) = nI 0 from rfl] at *
      rw [h_isNew_b (n := n) (D := r.2.2.2.1) (by omega) hT hg h.1.2.2.2.2.2.2 hx h33 (by omega) (fun k hk => (h.2.2.1.2.1 k hk).1) r.2.2.2.1.length 0 n (by omega) (by omega) (fun j hj h9 => absurd h9 (Nat.not_lt_zero j)), ob0_s, b1_z]
      unfold m_Reader_takeName_b44
      cases hN : aNew P r.2.2.2.1 (tLet v) with
      | true =>
        rw [if_pos rfl, if_pos rfl, ob1_s, ob1_s, upd_at, h34]
        simp only [i32_lit, nI_add]
        rw [show upd i 34 (nI (r.2.2.2.2.2.2.1 + 1)) 15 = nI P.length from h15, nI_add]
        rcases Nat.lt_or_ge 40 (P.length + (r.2.2.2.2.2.2.1 + 1)) with c2 | c2
        · rw [if_pos c2, ile_n (by omega), h_blame (show upd i 34 (nI (r.2.2.2.2.2.2.1 + 1)) 26 = nI 0 from h26), ob_s]
          refine ⟨_, _, rfl, ?_⟩
          obtain ⟨i2, a2, g2, k2, T2, z1, z2, z3, z4, z5, z6⟩ := RO_bad (g := g) (i := upd i 34 (nI (r.2.2.2.2.2.2.1 + 1))) (a := a) (T := T) (B := B) (e := e) (k := 11) (at_ := p) (dfn := dfn) (P := P) (r := r) (FL_i hF (fun q hq => upd_ne (by omega))) (by decide)
          exact ⟨i2, a2, g2, k2, T2, z1, z2, z3, rFrm_trans ⟨fun q h1 h2 => upd_ne (by omega), fun _ _ _ => rfl, fun _ _ => rfl⟩ (Nat.le_refl T) z4, z5, z6⟩
        · rw [if_neg (show ¬ 40 < P.length + (r.2.2.2.2.2.2.1 + 1) from by omega), ile_p (by omega), show upd i 34 (nI (r.2.2.2.2.2.2.1 + 1)) 33 = nI r.2.2.2.1.length from h33, ile_n (by omega), ck_n (by omega), ob1_s, ob1_s, cl_n (by omega)]
          exact ⟨_, _, rfl, RO_w hg ⟨fun q h1 h2 => by rw [upd_ne (by omega), upd_ne (by omega)], fun q h1 h2 => updA_ne (by omega), fun _ _ => rfl⟩ (RB_name h h0 hc hx (Nat.le_refl _)) ht rfl⟩
      | false =>
        rw [if_neg (show ¬ (false = true) from by decide), if_neg (show ¬ (false = true) from by decide), h15, h34]
        simp only [i32_lit, nI_add]
        rcases Nat.lt_or_ge 40 (P.length + r.2.2.2.2.2.2.1) with c2 | c2
        · rw [if_pos c2, ile_n (by omega), h_blame h26, ob_s]
          exact ⟨_, _, rfl, RO_bad hF (by decide)⟩
        · rw [if_neg (show ¬ 40 < P.length + r.2.2.2.2.2.2.1 from by omega), ile_p (by omega), h33, ile_n (by omega), ck_n (by omega), ob1_s, ob1_s, cl_n (by omega)]
          have e34 : upd i 34 (nI r.2.2.2.2.2.2.1) = i := by
            funext q
            rcases Classical.em (q = 34) with e | e
            · subst e; rw [upd_at, h34]
            · rw [upd_ne e]
          have := RB_name h h0 hc hx (Nat.le_succ r.2.2.2.2.2.2.1)
          rw [e34] at this
          exact ⟨_, _, rfl, RO_w hg ⟨fun q h1 h2 => by rw [upd_ne (by omega)], fun q h1 h2 => updA_ne (by omega), fun _ _ => rfl⟩ this ht rfl⟩
    · have nb : (true = false ∨ aLex (tLet v) ≠ 0) := Or.inr c1
      have hlx := aLex_lt (tLet v)
      rw [if_pos nb, ieq_n ⟨c1, by omega, by omega⟩, h_blame h26, ob_s]
      exact ⟨_, _, rfl, RO_bad hF (by decide)⟩

