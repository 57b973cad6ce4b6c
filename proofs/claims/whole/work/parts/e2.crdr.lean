/-! what the reader of the class holds -/
def stkR (f : Nat → Int32) (T : Nat) (mb op : Nat → Int32) : List (List Tr) → Prop
  | [] => True
  | m :: R => (∀ j (h : j < m.length), cV f T (m[j]'h) none (mb (kHt R + j))) ∧ (R ≠ [] → op (R.length - 1) = nI (kHt R)) ∧ stkR f T mb op R
def dfR (f : Nat → Int32) (T : Nat) (r4 r5 r6 : Nat → Int32) (D : List Proc) : Prop := ∀ k (h : k < D.length), cV f T (tW (D[k]'h).1) none (r4 k) ∧ cV f T (tL ((D[k]'h).2.1.map tW)) none (r5 k) ∧ cV f T (D[k]'h).2.2 none (r6 k)
def pend (st : Nat) : Nat := if st = 0 then 0 else if st = 2 then 2 else 1
def rdGen (g : Nat → Nat) (i : Nat → Int32) (a : Nat → Nat → Int32) (T : Nat) (P : List Proc) : Prop := i 8 = nI T ∧ (21 ≤ T ∧ sA (a 0) T = 0) ∧ T ≤ g 0 ∧ 16384 ≤ g 0 ∧ g 0 ≤ 340000 ∧ lexOk a ∧ rProc (a 0) T (i 15) (a 15) (a 16) (a 17) P
def rdInt (i : Nat → Int32) (dfn : Bool) (r : Rd) : Prop := i 26 = nI 0 ∧ i 28 = nI (kHt r.2.1) ∧ i 29 = nI (r.2.1.length - 1) ∧ i 30 = nI r.2.2.1 ∧ i 31 = b1 dfn ∧ i 32 = nI r.1 ∧ i 33 = nI r.2.2.2.1.length ∧ i 34 = nI r.2.2.2.2.2.2.1
def rdRow (a : Nat → Nat → Int32) (T : Nat) (dfn : Bool) (r : Rd) : Prop := stkR (a 0) T (a 32) (a 33) r.2.1 ∧ dfR (a 0) T (a 34) (a 35) (a 36) r.2.2.2.1 ∧ (2 ≤ r.1 → dfn = true → cV (a 0) T (tW r.2.2.2.2.1) none (a 34 r.2.2.2.1.length)) ∧ (r.1 = 3 → dfn = true → cV (a 0) T (tL (r.2.2.2.2.2.1.map tW)) none (a 35 r.2.2.2.1.length))
/-- s, c, u: what the token at hand brings and has not yet used: signs, cells, one token -/
def rdSz (dfn : Bool) (T B e s c u y : Nat) (r : Rd) : Prop := r.2.1 ≠ [] ∧ r.2.1.length ≤ 21 ∧ kHt r.2.1 + u ≤ r.2.2.1 ∧ kSh r.2.1 + 2 * (r.2.1.length - 1) + s + u ≤ e + r.2.2.1 ∧ kDp r.2.1 + (r.2.1.length - 1) + y ≤ r.2.2.1 ∧ 3 * r.2.2.2.1.length + (if dfn then min r.1 2 else 0) + u ≤ r.2.2.1 ∧ r.2.2.2.2.2.2.1 + u ≤ r.2.2.1 ∧ T + kHt r.2.1 + pend r.1 + c ≤ B + 4 * e ∧ r.1 ≤ 3 ∧ (r.1 < 3 → r.2.1.length = 1) ∧ (r.1 < 2 → r.2.1 = [[]]) ∧ (r.1 = 2 → ∃ ins : List Nm, r.2.1 = [ins.map tW]) ∧ (dfn = false → r.1 = 3) ∧ r.2.2.1 ≤ 601
def RB (g : Nat → Nat) (i : Nat → Int32) (a : Nat → Nat → Int32) (T : Nat) (dfn : Bool) (P : List Proc) (B e s c u y : Nat) (r : Rd) : Prop := rdGen g i a T P ∧ rdInt i dfn r ∧ rdRow a T dfn r ∧ rdSz dfn T B e s c u y r
def rFrm (i : Nat → Int32) (a : Nat → Nat → Int32) (T : Nat) (i' : Nat → Int32) (a' : Nat → Nat → Int32) : Prop := (∀ q, q ≠ 8 → ¬ (25 ≤ q ∧ q ≤ 34) → i' q = i q) ∧ (∀ q, q ≠ 0 → ¬ (32 ≤ q ∧ q ≤ 36) → a' q = a q) ∧ (∀ x, x < T → a' 0 x = a 0 x)
theorem rFrm_trans {i i' i2 : Nat → Int32} {a a' a2 : Nat → Nat → Int32} {T T' : Nat} (h : rFrm i a T i' a') (hT : T ≤ T') (h' : rFrm i' a' T' i2 a2) : rFrm i a T i2 a2 :=
  ⟨fun q h1 h2 => (h'.1 q h1 h2).trans (h.1 q h1 h2), fun q h1 h2 => (h'.2.1 q h1 h2).trans (h.2.1 q h1 h2), fun x hx => (h'.2.2 x (by omega)).trans (h.2.2 x hx)⟩
theorem rFrm_refl {i : Nat → Int32} {a : Nat → Nat → Int32} {T : Nat} : rFrm i a T i a := ⟨fun _ _ _ => rfl, fun _ _ _ => rfl, fun _ _ => rfl⟩
/-- even behind a fault: all members together, the innermost last -/
def flat : List (List Tr) → List Tr
  | [] => []
  | m :: R => flat R ++ m
def FL (g : Nat → Nat) (i : Nat → Int32) (a : Nat → Nat → Int32) (T : Nat) (dfn : Bool) (P : List Proc) : Prop := rdGen g i a T P ∧ i 31 = b1 dfn ∧ (∃ d, d ≤ 21 ∧ i 29 = nI d) ∧ (∃ st, st ≤ 3 ∧ i 32 = nI st) ∧ ∃ ms : List Tr, i 28 = nI ms.length ∧ ms.length ≤ 600 ∧ T + ms.length + 1 ≤ 340000 ∧ (∀ j (h : j < ms.length), cV (a 0) T (ms[j]'h) none (a 32 j)) ∧ shL ms ≤ 5000 ∧ dpL ms ≤ 601
theorem flat_len : ∀ (K : List (List Tr)), (flat K).length = kHt K ∧ shL (flat K) = kSh K ∧ dpL (flat K) = kDp K := by
  intro K
  induction K with
  | nil => exact ⟨rfl, rfl, rfl⟩
  | cons m R ih =>
    rw [flat, kHt, kSh, kDp, List.length_append, shL_add, dpL_add, ih.1, ih.2.1, ih.2.2]
    omega
theorem flat_at {f : Nat → Int32} {T : Nat} {mb op : Nat → Int32} : ∀ (K : List (List Tr)), stkR f T mb op K → ∀ j (h : j < (flat K).length), cV f T ((flat K)[j]'h) none (mb j) := by
  intro K
  induction K with
  | nil => intro _ j h; exact absurd h (Nat.not_lt_zero j)
  | cons m R ih =>
    intro h j hj
    obtain ⟨h1, _, h3⟩ := h
    have e := (flat_len R).1
    rw [flat, List.length_append] at hj
    simp only [flat]
    rcases Nat.lt_or_ge j (flat R).length with c | c
    · rw [List.getElem_append_left c]
      exact ih h3 j c
    · rw [List.getElem_append_right c]
      have := h1 (j - (flat R).length) (by omega)
      rw [show kHt R + (j - (flat R).length) = j by omega] at this
      exact this
theorem RB_FL {g : Nat → Nat} {i : Nat → Int32} {a : Nat → Nat → Int32} {T B e s c u y : Nat} {dfn : Bool} {P : List Proc} {r : Rd} (h : RB g i a T dfn P B e s c u y r) (hB : B + 4 * e + 1 ≤ 340000) (hk : kHt r.2.1 ≤ 600) (he : e ≤ 4000) : FL g i a T dfn P := by
  obtain ⟨hG, ⟨i1, i2, i3, i4, i5, i6, i7, i8⟩, ⟨r1, r2, r3, r4⟩, ⟨s1, s2, s3, s4, s5, s6, s7, s8, s9, s10, s11, s12, s13, s14⟩⟩ := h
  obtain ⟨f1, f2, f3⟩ := flat_len r.2.1
  refine ⟨hG, i5, ⟨_, by omega, i3⟩, ⟨_, s9, i6⟩, flat r.2.1, by rw [f1]; exact i2, by omega, by omega, flat_at _ r1, by omega, by omega⟩
theorem FL_i {g : Nat → Nat} {i i' : Nat → Int32} {a : Nat → Nat → Int32} {T : Nat} {dfn : Bool} {P : List Proc} (h : FL g i a T dfn P) (hi : ∀ q, (q = 8 ∨ q = 15 ∨ q = 28 ∨ q = 29 ∨ q = 31 ∨ q = 32) → i' q = i q) : FL g i' a T dfn P := by
  obtain ⟨⟨b1, b2, b3, b4, b5, b6, b7⟩, h2, ⟨d, h3, h4⟩, ⟨st, h5, h6⟩, ms, h7, h8⟩ := h
  exact ⟨⟨(hi 8 (by omega)).trans b1, b2, b3, b4, b5, b6, by rw [hi 15 (by omega)]; exact b7⟩, (hi 31 (by omega)).trans h2, ⟨d, h3, (hi 29 (by omega)).trans h4⟩, ⟨st, h5, (hi 32 (by omega)).trans h6⟩, ms, (hi 28 (by omega)).trans h7, h8⟩
/-- a step of the reader that makes cells -/
def RX (g : Nat → Nat) (i : Nat → Int32) (a : Nat → Nat → Int32) (T : Nat) (dfn : Bool) (P : List Proc) (B e s c u y : Nat) (r' : Rd) (o : Option ((Nat → Int32) × (Nat → Nat → Int32) × (Nat → Nat) × (Nat × Nat) × Int32)) : Prop := ∃ i' a' g' k T', o = some (i', a', g', k, nI 0) ∧ hGrow g g' k ∧ T ≤ T' ∧ rFrm i a T i' a' ∧ RB g' i' a' T' dfn P B e s c u y r'
/-- the same, with a fault or without one -/
def RO (g : Nat → Nat) (i : Nat → Int32) (a : Nat → Nat → Int32) (T : Nat) (dfn : Bool) (P : List Proc) (B e : Nat) (r' : Rd) (o : Option ((Nat → Int32) × (Nat → Nat → Int32) × (Nat → Nat) × (Nat × Nat) × Int32)) : Prop := ∃ i' a' g' k T', o = some (i', a', g', k, nI 0) ∧ hGrow g g' k ∧ T ≤ T' ∧ rFrm i a T i' a' ∧ (rdF r' = 0 → RB g' i' a' T' dfn P B e 0 0 0 0 r' ∧ r'.2.2.1 ≤ 600) ∧ (rdF r' ≠ 0 → i' 26 = nI (rdF r') ∧ i' 25 = nI (rdP r') ∧ FL g' i' a' T' dfn P)
theorem RO_bad {g : Nat → Nat} {i : Nat → Int32} {a : Nat → Nat → Int32} {T B e k at_ : Nat} {dfn : Bool} {P : List Proc} {r : Rd} (hF : FL g i a T dfn P) (hk : k ≠ 0) : RO g i a T dfn P B e (rdBad k at_ r) (some (upd (upd i 26 (nI k)) 25 (nI at_), a, g, (0, 0), nI 0)) := by
  refine ⟨_, _, _, _, T, rfl, hGrow_refl hF.1.2.2.2.2.1, Nat.le_refl _, ⟨fun q h1 h2 => ?_, fun _ _ _ => rfl, fun _ _ => rfl⟩, fun h => absurd h hk, fun _ => ⟨?_, ?_, FL_i hF (fun q hq => by rw [upd_ne (by omega), upd_ne (by omega)])⟩⟩
  · rw [upd_ne (by omega), upd_ne (by omega)]
  · rw [upd_ne (by decide), upd_at]; rfl
  · rw [upd_at]; rfl
theorem stkR_keep {f f' mb mb' op op' : Nat → Int32} {T T' : Nat} (hT : T ≤ T') (hf : ∀ x, x < T → f' x = f x) : ∀ (K : List (List Tr)), (∀ x, x < kHt K → mb' x = mb x) → (∀ x, x + 1 < K.length → op' x = op x) → stkR f T mb op K → stkR f' T' mb' op' K := by
  intro K
  induction K with
  | nil => intro _ _ _; trivial
  | cons m R ih =>
    intro h1 h2 h
    rw [stkR] at h ⊢
    rw [kHt] at h1
    simp only [List.length_cons] at h2
    obtain ⟨a1, a2, a3⟩ := h
    refine ⟨fun j hj => ?_, fun hR => ?_, ih (fun x hx => h1 x (by omega)) (fun x hx => h2 x (by omega)) a3⟩
    · rw [h1 _ (by omega)]
      exact cV_up (a1 j hj) hT hf
    · have : 1 ≤ R.length := by
        cases R with
        | nil => exact absurd rfl hR
        | cons a b => simp
      rw [h2 _ (by omega)]
      exact a2 hR
theorem dfR_keep {f f' r4 r4' r5 r5' r6 r6' : Nat → Int32} {T T' : Nat} {D : List Proc} (hT : T ≤ T') (hf : ∀ x, x < T → f' x = f x) (h4 : ∀ x, x < D.length → r4' x = r4 x) (h5 : ∀ x, x < D.length → r5' x = r5 x) (h6 : ∀ x, x < D.length → r6' x = r6 x) (h : dfR f T r4 r5 r6 D) : dfR f' T' r4' r5' r6' D := by
  intro k hk
  obtain ⟨a1, a2, a3⟩ := h k hk
  rw [h4 k hk, h5 k hk, h6 k hk]
  exact ⟨cV_up a1 hT hf, cV_up a2 hT hf, cV_up a3 hT hf⟩
/-- the members at hand can be a list -/
theorem list_fits {f : Nat → Int32} {T : Nat} {v : Nat → Int32} {m : List Tr} (h : ∀ j (h : j < m.length), cV f T (m[j]'h) none (v j)) (h1 : shL m ≤ 5000) (h2 : dpL m ≤ 601) : tSz (tL m) < 131072 ∧ tDp (tL m) ≤ 620 ∧ tSl (tL m) ≤ 8000 := by
  have ok : tOk (tL m) 0 := (tOk_tL (fun x hx => by
    obtain ⟨k, hk, rfl⟩ := List.getElem_of_mem hx
    exact (cV_ok _).1 _ (h k hk))).1
  have e1 := (sz_sh (tL m)).1 ok
  have e2 := sh_list m
  have e3 := dp_list m
  unfold tSl
  omega
theorem h_addMember {n q : Nat} {g : Nat → Nat} {i : Nat → Int32} {a : Nat → Nat → Int32} {v : Int32} (h : i 28 = nI q) (hq : q < 600) : m_Reader_addMember n g i a v = some (upd i 28 (nI (q + 1)), sv a 32 q v, nI 0) := by
  unfold m_Reader_addMember
  simp (disch := omega) only [ob_s, ob0_s, ob1_s, i32_lit, ile_p, ile_n, ilt_p, ilt_n, ieq_p, ieq_n, ck_n, cl_n, sub_n, nI_add, sh_w, sh_l, an3_w, an3_l, an1_w, an1_l, hN_1, hN_3w, hN_3l, if_true, if_false, h]
theorem rdGen_up {g g' : Nat → Nat} {i i' : Nat → Int32} {a a' : Nat → Nat → Int32} {T T' : Nat} {P : List Proc} (h : rdGen g i a T P) (hT : T ≤ T') (h8 : i' 8 = nI T') (hg1 : T' ≤ g' 0 ∧ sA (a' 0) T' = 0) (hg2 : g 0 ≤ g' 0) (hg3 : g' 0 ≤ 340000) (hf : rFrm i a T i' a') : rdGen g' i' a' T' P := by
  obtain ⟨b1, b2, b3, b4, b5, b6, b7⟩ := h
  obtain ⟨f1, f2, f3⟩ := hf
  refine ⟨h8, ⟨by omega, hg1.2⟩, hg1.1, by omega, hg3, ?_, ?_⟩
  · unfold lexOk
    rw [f2 5 (by decide) (by omega), f2 6 (by decide) (by omega), f2 7 (by decide) (by omega), f2 8 (by decide) (by omega), f2 9 (by decide) (by omega)]
    exact b6
  · rw [f1 15 (by decide) (by omega), f2 15 (by decide) (by omega), f2 16 (by decide) (by omega), f2 17 (by decide) (by omega)]
    exact rProc_up b7 hT f3
theorem h_closeInputs {n : Nat} {g : Nat → Nat} {i : Nat → Int32} {a : Nat → Nat → Int32} {T B e s c u y : Nat} {dfn : Bool} {P : List Proc} {r : Rd} (hn : 10000 ≤ n) (h : RB g i a T dfn P B e s c u y r) (hB : B + 4 * e + 1 ≤ 340000) (he : e ≤ 4000) (ht : r.2.2.1 ≤ 600) (h2 : 2 ≤ r.1) : RX g i a T dfn P B e s c u y (aCI r) (m_Reader_closeInputs n g i a) := by
  obtain ⟨st, K, tok, D, cw, ci, fr, fk, fp⟩ := r
  have h0 := h
  obtain ⟨hG, hI, hR, hS⟩ := h
  unfold m_Reader_closeInputs aCI
  dsimp only at h2 ht ⊢
  have e32 : i 32 = nI st := hI.2.2.2.2.2.1
  rcases Classical.em (st = 2) with e2 | e2
  · subst e2
    rw [if_pos rfl, e32, if_pos (show nI 2 = (2 : Int32) from rfl)]
    obtain ⟨i1, i2, i3, i4, i5, i6, i7, i8⟩ := hI
    obtain ⟨s1, s2, s3, s4, s5, s6, s7, s8, s9, s10, s11, s12, s13, s14⟩ := hS
    obtain ⟨r1, r2, r3, r4⟩ := hR
    obtain ⟨b1, b2, b3, b4, b5, b6, b7⟩ := hG
    dsimp only at i1 i2 i3 i4 i5 i6 i7 i8 s1 s2 s3 s4 s5 s6 s7 s8 s9 s10 s11 s12 s13 s14 r1 r2 r3 r4
    obtain ⟨ins, rfl⟩ := s12 rfl
    have hd : dfn = true := by
      cases dfn with
      | true => rfl
      | false => exact absurd (s13 rfl) (by decide)
    subst hd
    rw [if_pos rfl] at s6
    have eh : kHt [ins.map tW] = ins.length := by rw [kHt, kHt, List.length_map]; omega
    have esh : kSh [ins.map tW] = shL (ins.map tW) := by rw [kSh, kSh]; rfl
    have edp : kDp [ins.map tW] = dpL (ins.map tW) := by rw [kDp, kDp]; rfl
    have ep : pend 2 = 2 := rfl
    have em2 : min 2 2 = 2 := rfl
    rw [eh] at i2 s3 s8
    rw [esh] at s4
    rw [edp] at s5
    rw [ep] at s8
    rw [em2] at s6
    simp only [List.length_cons, List.length_nil] at s4 s5 s2
    rw [i7]
    have rr : ∀ k (h : k < (ins.map tW).length), cV (a 0) T ((ins.map tW)[k]'h) none (a 32 (0 + k)) := fun k hk => by
      have := r1.1 k hk
      rw [show kHt [] + k = 0 + k from rfl] at this
      exact this
    obtain ⟨f9, g', k, q1, q2, q3, q4, q5⟩ := h_newListOf_a32 (n := n) (g := g) (i := i) (a := a) (T := T) (p := 0) (ms := ins.map tW) hn b1 b3 (by omega) (by rw [List.length_map]; omega) b4 b5 (by rw [List.length_map]; omega) (list_fits rr (by omega) (by omega)) (by rw [List.length_map]; omega) rr
    rw [List.length_map] at q1 q3 q4
    have el : tok ≤ 601 := s14
    rw [show ((200 : Int32)) = nI 200 from rfl, ile_n (by omega), i2, show ((0 : Int32)) = nI 0 from rfl, q1]
    refine ⟨upd (upd (upd i 8 (nI (T + 1 + ins.length))) 28 (nI 0)) 32 (nI 3), sv (updA a 0 f9) 35 D.length (nI (4 * T + 1)), g', (k.1 + 0, k.2 + 0), T + 1 + ins.length, obG_s (k' := (0, 0)) ?_, q5, by omega, ⟨fun q h1 h2 => ?_, fun q h1 h2 => ?_, fun x hx => ?_⟩, ?_⟩
    · rw [ck_n (by omega), ob1_s, cl_n (by omega)]
      rfl
    · rw [upd_ne (by omega), upd_ne (by omega), upd_ne (by omega)]
    · show updA (updA a 0 f9) 35 _ q = a q
      rw [updA_ne (by omega), updA_ne (by omega)]
    · show updA (updA a 0 f9) 35 _ 0 x = a 0 x
      rw [updA_ne (by decide), updA_at]
      exact q2 x hx
    · have fr9 : rFrm i a T (upd (upd (upd i 8 (nI (T + 1 + ins.length))) 28 (nI 0)) 32 (nI 3)) (sv (updA a 0 f9) 35 D.length (nI (4 * T + 1))) := by
        refine ⟨fun q h1 h2 => ?_, fun q h1 h2 => ?_, fun x hx => ?_⟩
        · rw [upd_ne (by omega), upd_ne (by omega), upd_ne (by omega)]
        · show updA (updA a 0 f9) 35 _ q = a q
          rw [updA_ne (by omega), updA_ne (by omega)]
        · show updA (updA a 0 f9) 35 _ 0 x = a 0 x
          rw [updA_ne (by decide), updA_at]
          exact q2 x hx
      refine ⟨rdGen_up ⟨b1, b2, b3, b4, b5, b6, b7⟩ (by omega) rfl q4 q5.1 q5.2.1 fr9, ⟨i1, rfl, i3, i4, i5, rfl, i7, i8⟩, ⟨⟨fun j hj => absurd hj (Nat.not_lt_zero j), fun hR => absurd rfl hR, trivial⟩, ?_, fun _ _ => ?_, fun _ _ => ?_⟩, ⟨List.cons_ne_nil _ _, by simp, ?_, ?_, ?_, ?_, s7, ?_, Nat.le_refl _, fun hh => absurd (show (3 : Nat) < 3 from hh) (by decide), fun hh => absurd (show (3 : Nat) < 2 from hh) (by decide), fun hh => absurd (show (3 : Nat) = 2 from hh) (by decide), fun _ => rfl, s14⟩⟩
      · refine dfR_keep (T := T) (by omega) q2 (fun x hx => rfl) (fun x hx => ?_) (fun x hx => rfl) r2
        have hx : x < D.length := hx
        show upd _ D.length _ x = _
        rw [upd_ne (by omega)]
        rfl
      · exact cV_up (r3 (by decide) rfl) (by omega) q2
      · show cV f9 _ (tL (((([ins.map tW] : List (List Tr)).headD []).map tLet).map tW)) none (upd _ D.length _ D.length)
        rw [upd_at]
        have e9 : ((([ins.map tW] : List (List Tr)).headD []).map tLet).map tW = ins.map tW := by
          show ((ins.map tW).map tLet).map tW = ins.map tW
          rw [List.map_map, List.map_map]
          apply List.map_congr_left
          intro w _
          show tW (tLet (tW w)) = tW w
          rw [tLet_tW]
        rw [e9]
        exact q3
      · show 0 + u ≤ tok
        omega
      · show kSh [[]] + 2 * 0 + s + u ≤ e + tok
        rw [show kSh [[]] = 0 from rfl]
        omega
      · show kDp [[]] + 0 + y ≤ tok
        rw [show kDp [[]] = 0 from rfl]
        omega
      · show 3 * D.length + 2 + u ≤ tok
        omega
      · show T + 1 + ins.length + 0 + 1 + c ≤ B + 4 * e
        omega
  · rw [if_neg e2, e32, show ((2 : Int32)) = nI 2 from rfl, ieq_n ⟨e2, by have := hS.2.2.2.2.2.2.2.2.1; dsimp only at this; omega, by decide⟩]
    exact ⟨i, a, g, (0, 0), T, rfl, hGrow_refl hG.2.2.2.2.1, Nat.le_refl _, rFrm_refl, h0⟩

