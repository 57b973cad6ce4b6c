/-! inputs, bodies, members: the class reads on -/
theorem h_in_bad {n : Nat} {g : Nat → Nat} {i : Nat → Int32} {a : Nat → Nat → Int32} {T L p : Nat} {ins : List Nm} {b : Nm} {x : Int32} (hn : 1000 ≤ n) (ht : T ≤ g 0) (hg : g 0 ≤ 340000) (hx : cV (a 0) T (tW b) none x) (hr : ∀ k (h : k < ins.length), cV (a 0) T (tW (ins[k]'h)) none (a 32 k)) (hL : ins.length < 500) : ∀ (m k f : Nat), ins.length = k + m → m < f → i 26 = nI 9 → i 28 = nI ins.length → m_Reader_takeInput_b34 n g f i a (nI p) x (nI k) = some (upd i 28 (nI (ins.length + 1)), sv a 32 ins.length x, nI 0) := by
  intro m
  induction m with
  | zero =>
    intro k f e hf h26 h28
    obtain ⟨f, rfl⟩ : ∃ f', f = f' + 1 := ⟨f - 1, by omega⟩
    rw [m_Reader_takeInput_b34, h28, ile_p (by omega), h_addMember h28 (by omega), ob_s]
    rfl
  | succ m ih =>
    intro k f e hf h26 h28
    obtain ⟨f, rfl⟩ : ∃ f', f = f' + 1 := ⟨f - 1, by omega⟩
    have hk : k < ins.length := by omega
    rw [m_Reader_takeInput_b34, h28, ile_n (by omega), ck_n (by omega), cl_n (by omega), h_sameWord ht hg (by omega) (hr k hk) hx, ob0_s, h_blame_no h26 (by decide) (by decide), ob_s]
    unfold m_Reader_takeInput_b68
    simp only [i32_lit, ob1_s, nI_add, ite_self]
    exact ih (k + 1) f (by omega) (by omega) h26 h28
theorem h_in_b {n : Nat} {g : Nat → Nat} {i : Nat → Int32} {a : Nat → Nat → Int32} {T p : Nat} {ins : List Nm} {b : Nm} {x : Int32} (hn : 1000 ≤ n) (ht : T ≤ g 0) (hg : g 0 ≤ 340000) (hx : cV (a 0) T (tW b) none x) (hr : ∀ k (h : k < ins.length), cV (a 0) T (tW (ins[k]'h)) none (a 32 k)) (hL : ins.length < 500) (h26 : i 26 = nI 0) (h28 : i 28 = nI ins.length) : ∀ (m k f : Nat), ins.length = k + m → m < f → (∀ j (h : j < ins.length), j < k → ins[j]'h ≠ b) → (b ∈ ins ∧ m_Reader_takeInput_b34 n g f i a (nI p) x (nI k) = some (upd (upd (upd i 26 (nI 9)) 25 (nI p)) 28 (nI (ins.length + 1)), sv a 32 ins.length x, nI 0)) ∨ (b ∉ ins ∧ m_Reader_takeInput_b34 n g f i a (nI p) x (nI k) = some (upd i 28 (nI (ins.length + 1)), sv a 32 ins.length x, nI 0)) := by
  intro m
  induction m with
  | zero =>
    intro k f e hf hj
    obtain ⟨f, rfl⟩ : ∃ f', f = f' + 1 := ⟨f - 1, by omega⟩
    right
    refine ⟨fun hb => ?_, ?_⟩
    · obtain ⟨j, hj2, e2⟩ := List.getElem_of_mem hb
      exact hj j hj2 (by omega) e2
    · rw [m_Reader_takeInput_b34, h28, ile_p (by omega), h_addMember h28 (by omega), ob_s]
      rfl
  | succ m ih =>
    intro k f e hf hj
    obtain ⟨f, rfl⟩ : ∃ f', f = f' + 1 := ⟨f - 1, by omega⟩
    have hk : k < ins.length := by omega
    rw [m_Reader_takeInput_b34, h28, ile_n (by omega), ck_n (by omega), cl_n (by omega), h_sameWord ht hg (by omega) (hr k hk) hx, ob0_s]
    unfold m_Reader_takeInput_b68
    simp only [i32_lit, ob1_s, nI_add]
    rw [b1_z]
    rcases Classical.em (ins[k]'hk = b) with c | c
    · left
      refine ⟨c ▸ List.getElem_mem hk, ?_⟩
      rw [decide_eq_true c, if_pos rfl, h_blame h26, ob_s]
      exact h_in_bad (i := upd (upd i 26 (nI 9)) 25 (nI p)) (L := 0) hn ht hg hx hr hL m (k + 1) f (by omega) (by omega) rfl h28
    · rw [decide_eq_false c, if_neg (by decide)]
      refine ih (k + 1) f (by omega) (by omega) (fun j hj2 h9 => ?_)
      rcases Nat.eq_or_lt_of_le (Nat.le_of_lt_succ h9) with e9 | e9
      · subst e9; exact c
      · exact hj j hj2 e9
theorem h_takeInput {n : Nat} {g : Nat → Nat} {i : Nat → Int32} {a : Nat → Nat → Int32} {T B e s c p : Nat} {dfn : Bool} {P : List Proc} {r : Rd} {b : Nm} {x : Int32} (hn : 10000 ≤ n) (h : RB g i a T dfn P B e s c 1 1 r) (hB : B + 4 * e + 1 ≤ 340000) (he : e ≤ 4000) (hc : 1 ≤ c) (hx : cV (a 0) T (tW (58 :: b)) none x) (hs : b.length + 1 ≤ s) (ht : r.2.2.1 ≤ 600) (h0 : r.1 = 2) (hf0 : rdF r = 0) : ∃ i' a', m_Reader_takeInput n g i a x (nI p) = some (i', a', nI 0) ∧ RO g i a T dfn P B e (aInput p (tW (58 :: b)) r) (some (i', a', g, (0, 0), nI 0)) := by
  obtain ⟨st, K, tok, D, cw, ci, fr, fk, fp⟩ := r
  have hf0 : fk = 0 := hf0
  dsimp only at h0 ht
  subst h0
  have hg : g 0 ≤ 340000 := h.1.2.2.2.2.1
  have hT : T ≤ g 0 := h.1.2.2.1
  have h26 := h.2.1.1
  have hF := RB_FL h hB (by have := h.2.2.2.2.2.1; have := h.2.2.2.2.2.2.2.2.2.2.2.2.2.2.2.2; omega) he
  obtain ⟨ins, hK⟩ : ∃ ins : List Nm, K = [ins.map tW] := h.2.2.2.2.2.2.2.2.2.2.2.2.2.2.1 rfl
  subst hK
  have h28 : i 28 = nI ins.length := by
    have := h.2.1.2.1
    rw [this]
    show nI (kHt [ins.map tW]) = _
    rw [kHt, kHt, List.length_map]
    rfl
  have hl9 : kHt [ins.map tW] + 1 ≤ tok := h.2.2.2.2.2.1
  rw [kHt, kHt, List.length_map] at hl9
  have hr : ∀ k (h : k < ins.length), cV (a 0) T (tW (ins[k]'h)) none (a 32 k) := fun k hk => by
    have := h.2.2.1.1.1 k (by rw [List.length_map]; exact hk)
    rw [List.getElem_map, show kHt ([] : List (List Tr)) + k = k from Nat.zero_add k] at this
    exact this
  unfold m_Reader_takeInput aInput m_Reader_takeInput_b23
  dsimp only
  have et : (tLet (tW (58 :: b))).tail = b := by rw [tLet_tW]; rfl
  have em : (([ins.map tW] : List (List Tr)).headD []) = ins.map tW := rfl
  have em2 : (ins.map tW).map tLet = ins := by
    rw [List.map_map]
    conv => rhs; rw [← List.map_id ins]
    apply List.map_congr_left
    intro w _
    exact tLet_tW w
  rw [et, em, em2, List.length_map]
  rcases Classical.em (b = []) with c1 | c1
  · rw [(h_behind hT hg hx (Or.inr rfl)).1 c1, ob0_s, if_pos (show -nI 2147483648 = (-2147483648 : Int32) from rfl), if_pos (Or.inl c1), show (9 : Int32) = nI 9 from rfl, h_blame h26, ob_s]
    exact ⟨_, _, rfl, RO_bad hF (by decide)⟩
  obtain ⟨x2, z1, z2⟩ := (h_behind (n := n) (i := i) hT hg hx (Or.inr rfl)).2 c1
  rw [z1, ob0_s, if_neg (show ¬ x2 = (-2147483648 : Int32) from cV_no (by omega) z2), h28]
  simp only [i32_lit]
  rcases Nat.lt_or_ge ins.length 5 with c2 | c2
  · rw [ilt_p (by omega)]
    have ek : kHt [ins.map tW] = ins.length := by rw [kHt, kHt, List.length_map]; omega
    have this := RB_add h (v := tW b) (x := x2) z2 (by
      have : (aSh (tW b) 0).length = b.length := by
        have ok : okLs b := fun y hy => by
          have := (cV_tW.mp z2).choose_spec.2
          exact this.2.2.2.2.1 y hy
        rw [(small_ok (tW b)).2.1 (tOk_tW ok), tSz_tW]
      omega) (by rw [tDp_flat (isL_tW b)]; omega) hc (by decide) (Or.inr ⟨rfl, ins ++ [b], by rw [List.map_append]; rfl⟩)
    rw [ek] at this
    rcases h_in_b (n := n) (p := p) (by omega) hT hg z2 hr (by omega) h26 h28 ins.length 0 n (by omega) (by omega) (fun j hj h9 => absurd h9 (Nat.not_lt_zero j)) with ⟨q1, q2⟩ | ⟨q1, q2⟩
    · rw [if_pos (Or.inr (Or.inr q1))]
      refine ⟨_, _, q2, _, _, _, _, T, rfl, hGrow_refl hg, Nat.le_refl _, ⟨fun q h1 h2 => ?_, fun q h1 h2 => updA_ne (by omega), fun z hz => ?_⟩, fun hh => absurd hh (by show ¬ 9 = 0; decide), fun _ => ⟨rfl, rfl, FL_i (RB_FL this hB (by show kHt [ins.map tW ++ [tW b]] ≤ 600; rw [kHt, kHt, List.length_append, List.length_map, List.length_singleton]; omega) he) (fun q hq => ?_)⟩⟩
      rotate_left 2
      · rcases Classical.em (q = 28) with e9 | e9
        · subst e9; rfl
        · rw [upd_ne e9, upd_ne (by omega), upd_ne (by omega), upd_ne e9]
      · rw [upd_ne (by omega), upd_ne (by omega), upd_ne (by omega)]
      · show updA a 32 _ 0 z = _
        rw [updA_ne (by decide)]
    · rw [if_neg (fun hh => hh.elim c1 (fun hh => hh.elim (by omega) q1))]
      refine ⟨_, _, q2, RO_w hg ⟨fun q h1 h2 => upd_ne (by omega), fun q h1 h2 => updA_ne (by omega), fun z hz => ?_⟩ this ht hf0⟩
      show updA a 32 _ 0 z = _
      rw [updA_ne (by decide)]
  · rw [ilt_n (by omega), if_pos (Or.inr (Or.inl c2)), h_blame h26, ob_s]
    exact ⟨_, _, rfl, RO_bad hF (by decide)⟩
theorem h_closeBody {n : Nat} {g : Nat → Nat} {i : Nat → Int32} {a : Nat → Nat → Int32} {T B e s c p : Nat} {P : List Proc} {r : Rd} (hn : 10000 ≤ n) (h : RB g i a T true P B e s c 1 1 r) (hB : B + 4 * e + 1 ≤ 340000) (he : e ≤ 4000) (ht : r.2.2.1 ≤ 600) (h3 : r.1 = 3) (hl : r.2.1.length = 1) (hf0 : rdF r = 0) : RO g i a T true P B e (aBody r) (m_Reader_closeBody n g i a (nI p)) := by
  obtain ⟨st, K, tok, D, cw, ci, fr, fk, fp⟩ := r
  have hf0 : fk = 0 := hf0
  dsimp only at h3 ht hl
  subst h3
  have hg : g 0 ≤ 340000 := h.1.2.2.2.2.1
  cases K with
  | nil => cases hl
  | cons m R =>
  cases R with
  | cons m2 R => simp at hl
  | nil =>
    obtain ⟨hG, ⟨i1, i2, i3, i4, i5, i6, i7, i8⟩, ⟨r1, r2, r3, r4⟩, ⟨s1, s2, s3, s4, s5, s6, s7, s8, s9, s10, s11, s12, s13, s14⟩⟩ := h
    dsimp only at i1 i2 i3 i4 i5 i6 i7 i8 r1 r2 r3 r4 s1 s2 s3 s4 s5 s6 s7 s8 s9 s10 s11 s12 s13 s14
    have eh : kHt [m] = m.length := by rw [kHt, kHt]; omega
    have esh : kSh [m] = shL m := by rw [kSh, kSh]; rfl
    have edp : kDp [m] = dpL m := by rw [kDp, kDp]; rfl
    rw [eh] at i2 s3 s8
    rw [esh] at s4
    rw [edp] at s5
    rw [if_pos rfl, show min 3 2 = 2 from rfl] at s6
    rw [show pend 3 = 1 from rfl] at s8
    obtain ⟨b1, b2, b3, b4, b5, b6, b7⟩ := hG
    have rr : ∀ k (h : k < m.length), cV (a 0) T (m[k]'h) none (a 32 (0 + k)) := fun k hk => by
      have := r1.1 k hk
      rw [show kHt [] + k = 0 + k from rfl] at this
      exact this
    obtain ⟨f9, g', k, q1, q2, q3, q4, q5⟩ := h_newListOf_a32 (n := n) (g := g) (i := i) (a := a) (T := T) (p := 0) (ms := m) hn b1 b3 (by omega) (by omega) b4 b5 (by omega) (list_fits rr (by omega) (by omega)) (by omega) rr
    unfold m_Reader_closeBody
    simp only [i32_lit]
    rw [i2, q1]
    have fr9 : rFrm i a T (upd (upd (upd (upd i 8 (nI (T + 1 + m.length))) 28 (nI 0)) 32 (nI 0)) 33 (nI (D.length + 1))) (sv (updA a 0 f9) 36 D.length (nI (4 * T + 1))) := by
      refine ⟨fun q h1 h2 => ?_, fun q h1 h2 => ?_, fun x hx => ?_⟩
      · rw [upd_ne (by omega), upd_ne (by omega), upd_ne (by omega), upd_ne (by omega)]
      · show updA (updA a 0 f9) 36 _ q = a q
        rw [updA_ne (by omega), updA_ne (by omega)]
      · show updA (updA a 0 f9) 36 _ 0 x = a 0 x
        rw [updA_ne (by decide), updA_at]
        exact q2 x hx
    refine ⟨upd (upd (upd (upd i 8 (nI (T + 1 + m.length))) 28 (nI 0)) 32 (nI 0)) 33 (nI (D.length + 1)), sv (updA a 0 f9) 36 D.length (nI (4 * T + 1)), g', (k.1 + 0, k.2 + 0), T + 1 + m.length, obG_s (k' := (0, 0)) ?_, q5, by omega, fr9, fun _ => ⟨⟨rdGen_up ⟨b1, b2, b3, b4, b5, b6, b7⟩ (by omega) rfl q4 q5.1 q5.2.1 fr9, ⟨i1, rfl, i3, i4, i5, rfl, ?_, i8⟩, ⟨⟨fun j hj => absurd hj (Nat.not_lt_zero j), fun hR => absurd rfl hR, trivial⟩, fun j hj => ?_, fun hh => absurd (show (2 : Nat) ≤ 0 from hh) (by decide), fun hh => absurd (show (0 : Nat) = 3 from hh) (by decide)⟩, ⟨List.cons_ne_nil _ _, by show 1 ≤ 21; decide, ?_, ?_, ?_, ?_, ?_, ?_, Nat.zero_le _, fun _ => rfl, fun _ => rfl, fun hh => absurd (show (0 : Nat) = 2 from hh) (by decide), fun hh => absurd hh (by decide), s14⟩⟩, ht⟩, fun hh => absurd hf0 hh⟩
    · rw [ob1_s, ob1_s, show upd (upd (upd i 8 (nI (T + 1 + m.length))) 28 (nI 0)) 32 (nI 0) 33 = nI D.length from i7, ile_n (by omega), if_neg (show ¬ nI (4 * T + 1) = -nI 2147483648 from cV_no (by omega) q3), ck_n (by omega), cl_n (by omega), if_neg (show ¬ updA a 0 f9 35 D.length = -nI 2147483648 from cV_no (by omega) (r4 rfl rfl)), ck_n (by omega), ob1_s, ob1_s, ob1_s, nI_add]
    · show nI (D.length + 1) = nI (D ++ [(cw, ci, tL m)]).length
      rw [List.length_append]; rfl
    · have hj : j < (D ++ [(cw, ci, tL m)]).length := hj
      show cV f9 (T + 1 + m.length) (tW ((D ++ [(cw, ci, tL m)])[j]'hj).1) none (a 34 j) ∧ cV f9 (T + 1 + m.length) (tL (((D ++ [(cw, ci, tL m)])[j]'hj).2.1.map tW)) none (a 35 j) ∧ cV f9 (T + 1 + m.length) ((D ++ [(cw, ci, tL m)])[j]'hj).2.2 none (upd (a 36) D.length (nI (4 * T + 1)) j)
      rw [List.length_append, List.length_singleton] at hj
      rcases Nat.lt_or_ge j D.length with c9 | c9
      · rw [List.getElem_append_left c9, upd_ne (by omega)]
        obtain ⟨t1, t2, t3⟩ := r2 j c9
        exact ⟨cV_up t1 (by omega) q2, cV_up t2 (by omega) q2, cV_up t3 (by omega) q2⟩
      · obtain rfl : j = D.length := by omega
        have e9 : ∀ hh, (D ++ [(cw, ci, tL m)])[D.length]'hh = (cw, ci, tL m) := fun hh => by
          rw [List.getElem_append_right (Nat.le_refl _)]
          simp
        rw [e9, upd_at]
        exact ⟨cV_up (r3 (by decide) rfl) (by omega) q2, cV_up (r4 rfl rfl) (by omega) q2, q3⟩
    · show 0 + 0 ≤ tok; omega
    · show kSh [[]] + 2 * 0 + 0 + 0 ≤ e + tok
      rw [show kSh [[]] = 0 from rfl]; omega
    · show kDp [[]] + 0 + 0 ≤ tok
      rw [show kDp [[]] = 0 from rfl]; omega
    · show 3 * (D ++ [(cw, ci, tL m)]).length + 0 + 0 ≤ tok
      rw [List.length_append, List.length_singleton]; omega
    · show fr + 0 ≤ tok; omega
    · show T + 1 + m.length + 0 + 0 + 0 ≤ B + 4 * e; omega

