/-! a value is moved into the spare cells -/
def pS (s : Nat → Int32) (tr : Nat → Tr) (A : Nat) : Nat → Nat
  | 0 => 0
  | n + 1 => pS s tr A n + (if 2 ≤ sA s (A + n) then kc (tr (A + n)) else 0)
theorem pS_congr {s s' : Nat → Int32} {tr tr' : Nat → Tr} {A : Nat} : ∀ (n : Nat), (∀ x, A ≤ x → x < A + n → sA s' x = sA s x ∧ (2 ≤ sA s x → tr' x = tr x)) → pS s' tr' A n = pS s tr A n := by
  intro n
  induction n with
  | zero => intro _; rfl
  | succ n ih =>
    intro h
    rw [pS, pS, ih (fun x h1 h2 => h x h1 (by omega))]
    obtain ⟨h1, h2⟩ := h (A + n) (by omega) (by omega)
    rw [h1]
    rcases Classical.em (2 ≤ sA s (A + n)) with c | c
    · rw [if_pos c, if_pos c, h2 c]
    · rw [if_neg c, if_neg c]
theorem pS_add {s : Nat → Int32} {tr : Nat → Tr} {A n : Nat} : ∀ (m : Nat), pS s tr A (n + m) = pS s tr A n + pS s tr (A + n) m := by
  intro m
  induction m with
  | zero => rfl
  | succ m ih => rw [← Nat.add_assoc, pS, ih, pS, Nat.add_assoc A n m, Nat.add_assoc]
theorem pS_first {s : Nat → Int32} {tr : Nat → Tr} {A n : Nat} : pS s tr A (n + 1) = (if 2 ≤ sA s A then kc (tr A) else 0) + pS s tr (A + 1) n := by
  rw [Nat.add_comm n 1, pS_add]
  congr 1
  rw [pS, pS, Nat.zero_add, Nat.add_zero]
theorem pS_none {s : Nat → Int32} {tr : Nat → Tr} {A : Nat} : ∀ (n : Nat), (∀ x, A ≤ x → x < A + n → ¬ 2 ≤ sA s x) → pS s tr A n = 0 := by
  intro n
  induction n with
  | zero => intro _; rfl
  | succ n ih => intro h; rw [pS, ih (fun x h1 h2 => h x h1 (by omega)), if_neg (h _ (by omega) (by omega))]
theorem pS_list {s : Nat → Int32} {tr : Nat → Tr} : ∀ (ms : List Tr) (A : Nat), (∀ k (h : k < ms.length), 2 ≤ sA s (A + k) ∧ tr (A + k) = ms[k]'h) → pS s tr A ms.length = kcL ms := by
  intro ms
  induction ms with
  | nil => intro A _; rfl
  | cons m ms ih =>
    intro A h
    have h0 := h 0 (by simp)
    rw [Nat.add_zero] at h0
    rw [List.length_cons, pS_first, if_pos h0.1, h0.2, ih (A + 1) (fun k hk => by
      have := h (k + 1) (by simp; omega)
      rw [show A + (k + 1) = A + 1 + k by omega] at this
      exact this)]
    unfold kcL
    rw [List.map_cons, List.sum_cons]
    rfl
/-- a list stands here, in the old cells -/
def lsAt (f0 : Nat → Int32) (T p : Nat) (ms : List Tr) : Prop := cHd f0 T p ms.length (tSz (tL ms)) (tDp (tL ms)) (tSl (tL ms)) ∧ ∀ k (h : k < ms.length), cV f0 T (ms[k]'h) none (f0 (p + 1 + k))
theorem lsAt_same {f0 : Nat → Int32} {T p : Nat} {ms ms' : List Tr} (hT : T ≤ 340000) (h : lsAt f0 T p ms) (h' : lsAt f0 T p ms') : ms = ms' := by
  have := cV_same hT (cV_tL.mpr ⟨p, rfl, h.1, h.2⟩) (cV_tL.mpr ⟨p, rfl, h'.1, h'.2⟩)
  exact tL_inj this
/-- the first cells hold the fixed words alone -/
def FX (f : Nat → Int32) : Prop := sA f 21 = 0 ∧ ∀ p, 1 ≤ p → p < 21 → ¬ 1073741824 ≤ (f p).toNatClampNeg
def COL (f0 : Nat → Int32) (T : Nat) (f s : Nat → Int32) (S A Z : Nat) : Prop :=
  (∀ x, sA f0 x ≠ 0 → f x = f0 x) ∧ (∀ x, x < 21 → s x = f0 x) ∧ sA s S = 0 ∧ 21 ≤ A ∧ A ≤ S ∧
  (∀ p ms, 21 ≤ p → lsAt f0 T p ms → f p = f0 p ∨ ∃ q, 1 ≤ q ∧ q < 340000 ∧ f p = -nI q ∧ mV s S A f0 T (tL ms) none (nI (4 * q + 1))) ∧
  (∀ p l, 21 ≤ p → cWd f0 T p l → sA f0 (p - 1) = 0 → f (p - 1) = f0 (p - 1) ∨ ∃ q, 1 ≤ q ∧ q < 340000 ∧ f (p - 1) = -nI q ∧ cWd s S q l) ∧
  (∀ x, 21 ≤ x → x < S → sA s x = 0 → (∃ z c, z < 131072 ∧ c ≤ 600 ∧ s x = nI (1073741824 + 8192 * z + c)) ∨ ∃ m, m < 400 ∧ s x = nI m) ∧
  ∃ tr : Nat → Tr, (∀ x, A ≤ x → x < S → 2 ≤ sA s x → cV f0 T (tr x) none (s x)) ∧ S + pS s tr A (S - A) ≤ Z
def CS (g : Nat → Nat) (i : Nat → Int32) (a : Nat → Nat → Int32) (f0 : Nat → Int32) (T S A Z : Nat) : Prop :=
  COL f0 T (a 0) (a 1) S A Z ∧ i 9 = nI S ∧ i 7 = nI 21 ∧ S ≤ g 1 ∧ 16384 ≤ g 1 ∧ g 1 ≤ 340000 ∧ T ≤ g 0 ∧ g 0 ≤ 340000 ∧ lexOk a
def MR (g : Nat → Nat) (i : Nat → Int32) (a : Nat → Nat → Int32) (f0 : Nat → Int32) (T S A Z : Nat) (t : Tr) (o : Option ((Nat → Int32) × (Nat → Nat → Int32) × (Nat → Nat) × (Nat × Nat) × Int32)) : Prop :=
  ∃ i' a' g' k x S', o = some (i', a', g', k, x) ∧ CS g' i' a' f0 T S' A (Z + kc t) ∧ S ≤ S' ∧ (∀ y, y < S → a' 1 y = a 1 y) ∧ mV (a' 1) S' A f0 T t none x ∧ sGrow g g' k ∧ (∀ q, q ≠ 9 → i' q = i q) ∧ (∀ q, q ≠ 0 → q ≠ 1 → a' q = a q)
theorem COL_more {f0 f s : Nat → Int32} {T S A Z Z' : Nat} (h : COL f0 T f s S A Z) (hZ : Z ≤ Z') : COL f0 T f s S A Z' := by
  obtain ⟨h1, h2, h3, h4, h5, h6, h7, h10, tr, h8, h9⟩ := h
  exact ⟨h1, h2, h3, h4, h5, h6, h7, h10, tr, h8, by omega⟩
theorem CS_more {g : Nat → Nat} {i : Nat → Int32} {a : Nat → Nat → Int32} {f0 : Nat → Int32} {T S A Z Z' : Nat} (h : CS g i a f0 T S A Z) (hZ : Z ≤ Z') : CS g i a f0 T S A Z' := ⟨COL_more h.1 hZ, h.2⟩
theorem nI_negneg (q : Nat) : -(-nI q) = nI q := Int32.neg_neg
theorem nI_neg_lt {q : Nat} (h1 : 1 ≤ q) (h2 : q < 340000) : ¬ nI 0 ≤ -nI q := by
  intro h
  rw [Int32.le_iff_toInt_le, Int32.toInt_neg, nI_toInt (by omega), nI_toInt (by omega)] at h
  rw [Int.bmod_def] at h
  simp only [Nat.reducePow] at h
  omega
/-- a list goes behind the others -/
theorem COL_list {f0 f s s2 : Nat → Int32} {T S A Z p : Nat} {ms : List Tr} (hT : T ≤ 340000) (h : COL f0 T f s S A Z) (hp : 21 ≤ p) (hv : lsAt f0 T p ms) (hs : ∀ x, x < S → s2 x = s x) (h0 : s2 S = f0 p) (h1 : ∀ k, k < ms.length → s2 (S + 1 + k) = f0 (p + 1 + k)) (hS : S < 340000) : COL f0 T (upd f p (-nI S)) s2 (S + 1 + ms.length) A (Z + kc (tL ms)) ∧ mV s2 (S + 1 + ms.length) A f0 T (tL ms) none (nI (4 * S + 1)) := by
  obtain ⟨c1, c2, c3, c4, c5, c6, c7, c10, tr, c8, c9⟩ := h
  obtain ⟨⟨⟨q1, q0⟩, q2, q3, q4, q5⟩, hm⟩ := id hv
  have eS : sA s2 S = 0 := by rw [sA_congr S hs]; exact c3
  have hmem : ∀ k, k < ms.length → 2 ≤ sA s2 (S + 1 + k) := fun k hk => by
    rw [sA_list (by omega) eS (h0.trans q5) (by omega) q4.1 k (by omega), if_neg (by omega)]
    omega
  have hend : sA s2 (S + 1 + ms.length) = 0 := sA_list_end ⟨by omega, eS⟩ (h0.trans q5) (by omega) q4.1
  have hcp : ∀ x, x < S → sA s2 x = sA s x := fun x hx => sA_congr x (fun y hy => hs y (by omega))
  have hmv : mV s2 (S + 1 + ms.length) A f0 T (tL ms) none (nI (4 * S + 1)) := by
    refine mV_tL.mpr ⟨S, rfl, ⟨⟨by omega, eS⟩, by omega, q3, q4, h0.trans q5⟩, fun k hk => ?_⟩
    unfold mB
    rw [if_neg (by omega), h1 k hk]
    exact hm k hk
  refine ⟨⟨fun x hx => ?_, fun x hx => ?_, hend, c4, by omega, fun p' t' hp' ht' => ?_, fun p' l' hp' hl' hz' => ?_, fun x hx1 hx2 hx3 => ?_, fun x => if S < x then ms.getD (x - (S + 1)) .nil else tr x, fun x hx1 hx2 hx3 => ?_, ?_⟩, hmv⟩
  · rw [upd_ne (fun e => by rw [e] at hx; exact hx q0)]; exact c1 x hx
  · rw [hs x (by omega)]; exact c2 x hx
  · rcases Classical.em (p' = p) with e | e
    · subst e
      have et : t' = ms := lsAt_same hT ht' hv
      subst et
      exact Or.inr ⟨S, by omega, hS, by rw [upd_at], hmv⟩
    · rw [upd_ne e]
      rcases c6 p' t' hp' ht' with d | ⟨q, d1, d2, d3, d4⟩
      · exact Or.inl d
      · exact Or.inr ⟨q, d1, d2, d3, mV_grow (by omega) hs d4⟩
  · have ne : ¬ p' - 1 = p := by
      intro e
      rcases hl'.2.2.2.2.2.2.2 with d | d
      · rw [e, q5] at d
        have := aLex_lt l'
        have := (nI_eq (by omega) (by omega)).mp d.1
        omega
      · rw [hz'] at d; exact absurd d.2 (by decide)
    rw [upd_ne ne]
    rcases c7 p' l' hp' hl' hz' with d | ⟨q, d1, d2, d3, d4⟩
    · exact Or.inl d
    · exact Or.inr ⟨q, d1, d2, d3, cWd_mono (by omega) hs d4⟩
  · rcases Nat.lt_or_ge x S with d | d
    · rw [hcp x d] at hx3
      rw [hs x d]
      exact c10 x hx1 d hx3
    · rcases Nat.eq_or_lt_of_le d with d | d
      · subst d
        exact Or.inl ⟨_, _, q4.1, q3, h0.trans q5⟩
      · have := hmem (x - (S + 1)) (by omega)
        rw [show S + 1 + (x - (S + 1)) = x by omega] at this
        omega
  · dsimp only
    rcases Nat.lt_or_ge x S with d | d
    · rw [if_neg (by omega), hs x d]
      rw [hcp x d] at hx3
      exact c8 x hx1 d hx3
    · rcases Nat.eq_or_lt_of_le d with d | d
      · rw [← d, eS] at hx3; omega
      · rw [if_pos d]
        have e9 : x = S + 1 + (x - (S + 1)) := by omega
        have hk : x - (S + 1) < ms.length := by omega
        rw [getD_in hk, show s2 x = f0 (p + 1 + (x - (S + 1))) by rw [← h1 _ hk, ← e9]]
        exact hm _ hk
  · have e1 : S + 1 + ms.length - A = (S - A) + (ms.length + 1) := by omega
    rw [e1, pS_add, pS_congr (s := s) (tr := tr) (S - A) (fun x hx1 hx2 => ⟨hcp x (by omega), fun _ => if_neg (by omega)⟩), show A + (S - A) = S by omega, pS_first, eS, if_neg (by decide), pS_list ms (S + 1) (fun k hk => ⟨hmem k hk, ?_⟩), kc_tL]
    · omega
    · rw [if_pos (by omega), show S + 1 + k - (S + 1) = k by omega, getD_in hk]
/-- a word goes behind the others; fw: its mark tells where it has gone -/
theorem COL_word {f0 f s s2 : Nat → Int32} {T S A Z p : Nat} {l : List Nat} {fw : Bool} (h : COL f0 T f s S A Z) (hp : 21 ≤ p) (hw : cWd f0 T p l) (hs : ∀ x, x < S → s2 x = s x) (h0 : s2 S = nI (128 + aLex l)) (h1 : ∀ k (h : k < l.length), s2 (S + 1 + k) = nI (l[k]'h)) (h2 : s2 (S + 1 + l.length) = nI 0) (hS : S + 1 < 340000) (hfw : fw = true → sA f0 (p - 1) = 0) : COL f0 T (if fw then upd f (p - 1) (-nI (S + 1)) else f) s2 (S + l.length + 2) A (Z + kc (tW l)) ∧ cWd s2 (S + l.length + 2) (S + 1) l := by
  obtain ⟨c1, c2, c3, c4, c5, c6, c7, c10, tr, c8, c9⟩ := h
  have eS : sA s2 S = 0 := by rw [sA_congr S hs]; exact c3
  have el := aLex_lt l
  obtain ⟨w1, w2, w3, w4, w5, w6, w7, w8⟩ := id hw
  obtain ⟨hin, hend⟩ := sA_word (f := s2) (p := S) (m := 128 + aLex l) (l := l) (by omega) eS h0 (by omega) w5 h1 h2
  have hnew : cWd s2 (S + l.length + 2) (S + 1) l := ⟨by omega, w2, w3, by omega, w5, h1, h2, Or.inl ⟨by rw [show S + 1 - 1 = S by omega]; exact h0, by omega, by rw [show S + 1 - 1 = S by omega]; exact eS⟩⟩
  have hcp : ∀ x, x < S → sA s2 x = sA s x := fun x hx => sA_congr x (fun y hy => hs y (by omega))
  have hlow : ∀ x, S ≤ x → x < S + l.length + 2 → ¬ 2 ≤ sA s2 x := fun x hx1 hx2 => by
    rcases Nat.eq_or_lt_of_le hx1 with d | d
    · rw [← d, eS]; decide
    · have := hin (x - (S + 1)) (by omega)
      rw [show S + 1 + (x - (S + 1)) = x by omega] at this
      omega
  have hf : ∀ x, (fw = true → x ≠ p - 1) → (if fw then upd f (p - 1) (-nI (S + 1)) else f) x = f x := fun x hx => by
    cases fw with
    | true => rw [if_pos rfl, upd_ne (hx rfl)]
    | false => rfl
  refine ⟨⟨fun x hx => ?_, fun x hx => ?_, by rw [show S + l.length + 2 = S + 1 + l.length + 1 by omega]; exact hend, c4, by omega, fun p' t' hp' ht' => ?_, fun p' l' hp' hl' hz' => ?_, fun x hx1 hx2 hx3 => ?_, tr, fun x hx1 hx2 hx3 => ?_, ?_⟩, hnew⟩
  · rw [hf x (fun e e2 => by rw [e2] at hx; exact hx (hfw e))]; exact c1 x hx
  · rw [hs x (by omega)]; exact c2 x hx
  · have ne : fw = true → p' ≠ p - 1 := by
      intro e e2
      have hz := hfw e
      rcases w8 with d | d
      · obtain ⟨⟨q1, q0⟩, q2, q3, q4, q5⟩ := ht'.1
        rw [e2, d.1] at q5
        have := (nI_eq (by omega) (by omega)).mp q5
        omega
      · rw [hz] at d; exact absurd d.2 (by decide)
    rw [hf p' ne]
    rcases c6 p' t' hp' ht' with d | ⟨q, d1, d2, d3, d4⟩
    · exact Or.inl d
    · exact Or.inr ⟨q, d1, d2, d3, mV_grow (by omega) hs d4⟩
  · rcases Classical.em (fw = true ∧ p' - 1 = p - 1) with e | e
    · have e3 : p' = p := by omega
      subst e3
      have e4 := cWd_inj hl' hw
      subst e4
      right
      refine ⟨S + 1, by omega, hS, ?_, hnew⟩
      rw [e.1, if_pos rfl, upd_at]
    · rw [hf (p' - 1) (fun e1 e2 => e ⟨e1, e2⟩)]
      rcases c7 p' l' hp' hl' hz' with d | ⟨q, d1, d2, d3, d4⟩
      · exact Or.inl d
      · exact Or.inr ⟨q, d1, d2, d3, cWd_mono (by omega) hs d4⟩
  · rcases Nat.lt_or_ge x S with d | d
    · rw [hcp x d] at hx3
      rw [hs x d]
      exact c10 x hx1 d hx3
    · rcases Nat.eq_or_lt_of_le d with d | d
      · subst d
        exact Or.inr ⟨_, by omega, h0⟩
      · have := hin (x - (S + 1)) (by omega)
        rw [show S + 1 + (x - (S + 1)) = x by omega] at this
        omega
  · rcases Nat.lt_or_ge x S with d | d
    · rw [hs x d]
      rw [hcp x d] at hx3
      exact c8 x hx1 d hx3
    · exact absurd hx3 (hlow x d hx2)
  · have e1 : S + l.length + 2 - A = (S - A) + (l.length + 2) := by omega
    rw [e1, pS_add, pS_congr (s := s) (tr := tr) (S - A) (fun x hx1 hx2 => ⟨hcp x (by omega), fun _ => rfl⟩), show A + (S - A) = S by omega, pS_none (l.length + 2) (fun x hx1 hx2 => hlow x hx1 (by omega)), kc_tW]
    omega
theorem va_in {f h : Nat → Int32} {p q m x : Nat} (h1 : q ≤ x) (h2 : x < q + m) : va_cpy f h p q m x = f (p + (x - q)) := by
  unfold va_cpy
  rw [if_pos ⟨h1, h2⟩]
theorem va_out {f h : Nat → Int32} {p q m x : Nat} (hx : ¬ (q ≤ x ∧ x < q + m)) : va_cpy f h p q m x = h x := by
  unfold va_cpy
  rw [if_neg hx]
theorem h_movedList {n : Nat} {g : Nat → Nat} {i : Nat → Int32} {a : Nat → Nat → Int32} {f0 : Nat → Int32} {T S A Z p : Nat} {ms : List Tr} (hn : 1000 ≤ n) (h : CS g i a f0 T S A Z) (hp : 21 ≤ p) (hv : lsAt f0 T p ms) (hZ : S + kc (tL ms) ≤ 340000) : MR g i a f0 T S A Z (tL ms) (m_Heap_movedList n g i a (nI p)) := by
  obtain ⟨hC, h9, h7, hS, hg1, hg2, hT, hg, hx⟩ := id h
  obtain ⟨c1, c2, c3, c4, c5, c6, c7, c10, tr, c8, c9⟩ := id hC
  obtain ⟨⟨⟨q1, q0⟩, q2, q3, q4, q5⟩, hm⟩ := id hv
  have hkc := kc_tL ms
  have hS4 : S + 1 + ms.length ≤ 340000 := by omega
  unfold m_Heap_movedList
  rw [ck_n (by omega), ob1_s, cl_n (by omega)]
  rcases c6 p ms hp hv with d | ⟨q, d1, d2, d3, d4⟩
  · rw [d, q5]
    simp only [i32_lit]
    obtain ⟨s1, g', k, r1, r2, r3, r4⟩ := h_reserveS (n := n) (g := g) (i := i) (a := a) (T := S) (c := ms.length + 1) h9 (by omega) hg1 hg2
    obtain ⟨t1, t2, t3, t4, t5⟩ := id r4
    rw [ile_p (by omega), ob1_s, hd_c q4.1 (by omega), nI_add, sub_n (by omega), ilt_n (by omega), r1]
    obtain ⟨s2, es2⟩ : ∃ s2, s2 = va_cpy (a 0) s1 p S (ms.length + 1) := ⟨_, rfl⟩
    have m1 : ∀ x, x < S → s2 x = a 1 x := fun x hx => by rw [es2, va_out (by omega), r2 x (by omega)]
    have m2 : s2 S = f0 p := by rw [es2, va_in (by omega) (by omega), Nat.sub_self, Nat.add_zero, d]
    have m3 : ∀ k, k < ms.length → s2 (S + 1 + k) = f0 (p + 1 + k) := fun k hk => by
      rw [es2, va_in (by omega) (by omega), show p + (S + 1 + k - S) = p + 1 + k by omega]
      refine c1 _ ?_
      rw [sA_list q1 q0 q5 (by omega) q4.1 k (by omega), if_neg (by omega)]
      omega
    obtain ⟨w1, w2⟩ := COL_list (by omega) hC hp hv m1 m2 m3 (by omega)
    refine ⟨upd i 9 (nI (S + (ms.length + 1))), sv (updA (updA a 1 s1) 1 s2) 0 p (-nI S), g', (k.1 + 0, k.2 + 0), nI (4 * S + 1), S + 1 + ms.length, obG_s (k' := (0, 0)) ?_, ⟨?_, by rw [upd_at, show S + (ms.length + 1) = S + 1 + ms.length by omega], h7, by omega, by omega, t3, by rw [t1]; exact hT, by rw [t1]; exact hg, hx⟩, by omega, ?_, ?_, r4, fun q hq => upd_ne hq, fun q h0 h1 => ?_⟩
    · rw [ieq_n (by decide), ob1_s, h9, cy_n (by rw [t1]; omega), ob1_s, ob1_s, nI_add, ob1_s, ck_n (by rw [t1]; omega), ob1_s]
      simp (disch := omega) only [cl_n, mk_l]
      show some (_, sv (updA (updA a 1 s1) 1 (va_cpy (updA a 1 s1 0) (updA a 1 s1 1) p S (ms.length + 1))) 0 p _, _, _, _) = _
      rw [updA_at, updA_ne (by decide), ← es2]
    · show COL f0 T (upd (a 0) p (-nI S)) s2 (S + 1 + ms.length) A (Z + kc (tL ms))
      exact w1
    · intro y hy
      show s2 y = _
      exact m1 y hy
    · show mV s2 (S + 1 + ms.length) A f0 T (tL ms) none _
      exact w2
    · show updA (updA (updA a 1 s1) 1 s2) 0 _ q = a q
      rw [updA_ne h0, updA_ne h1, updA_ne h1]
  · rw [d3]
    simp only [i32_lit]
    rw [if_neg (nI_neg_lt d1 d2), nI_negneg, mk_l (by omega)]
    exact ⟨i, a, g, (0, 0), _, S, rfl, CS_more h (by omega), Nat.le_refl _, fun _ _ => rfl, d4, sGrow_refl hg2, fun _ _ => rfl, fun _ _ _ => rfl⟩
theorem h_movedWord {n : Nat} {g : Nat → Nat} {i : Nat → Int32} {a : Nat → Nat → Int32} {f0 : Nat → Int32} {T S A Z p : Nat} {l : List Nat} (hn : 1000 ≤ n) (h : CS g i a f0 T S A Z) (hp : 21 ≤ p) (hw : cWd f0 T p l) (hZ : S + kc (tW l) ≤ 340000) : MR g i a f0 T S A Z (tW l) (m_Heap_movedWord n g i a (nI p)) := by
  obtain ⟨hC, h9, h7, hS, hg1, hg2, hT, hg, hx⟩ := id h
  obtain ⟨c1, c2, c3, c4, c5, c6, c7, c10, tr, c8, c9⟩ := id hC
  obtain ⟨w1, w2, w3, w4, w5, w6, w7, w8⟩ := id hw
  have hkc := kc_tW l
  have el := aLex_lt l
  have hin := sA_in w1 (cWd_sA hw) w5 w6
  have hrow : inRow (a 0) (g 0) p l := ⟨by omega, w5, fun k hk => by rw [c1 _ (by rw [hin k (by omega)]; decide)]; exact w6 k hk, by rw [c1 _ (by rw [hin l.length (Nat.le_refl _)]; decide)]; exact w7⟩
  have hsz := h_sizeR (n := n) (i := i) hg (by omega) w1 w3 hrow
  unfold m_Heap_movedWord
  simp only [i32_lit]
  rw [sub_n (by omega), ck_n (by omega), ob1_s, cl_n (by omega)]
  -- a copy; fw: with a trace
  have copy : ∀ (fw : Bool) (mk : Nat), a 0 (p - 1) = nI mk → mk < 400 → (fw = true → sA f0 (p - 1) = 0 ∧ mk = 128 + aLex l) → (fw = false → mk < 128) → MR g i a f0 T S A Z (tW l) (ob0 (m_Heap_size n g i a (nI p <<< (nI 2 &&& nI 31) ||| nI 3)) (fun r_5 => if nI (g 0) - nI p < r_5 + nI 1 then some (i, a, g, (0, 0), i 4) else obG (m_Heap_reserveSpare n g i a (r_5 + nI 2)) (fun i_10 a_11 g_12 r_14 => if r_14 = nI 0 then some (i_10, a_11, g_12, (0, 0), i_10 4) else ob1 (i_10 9 + nI 1) (fun x_20 => cy (nI p) x_20 (r_5 + nI 1) (g_12 0) (g_12 1) (ob1 (updA a_11 1 (va_cpy (a_11 0) (a_11 1) (nI p).toNatClampNeg x_20.toNatClampNeg (r_5 + nI 1).toNatClampNeg)) (fun a_22 => if nI mk < nI 128 then ob0 (m_Lexicon_meaning_a1 n g_12 i_10 a_22 x_20) (fun r_25 => m_Heap_movedWord_b119 n i_10 a_22 g_12 (nI p) (nI mk) r_5 x_20 (nI 128 + r_25) (x_20 - nI 1)) else m_Heap_movedWord_b119 n i_10 a_22 g_12 (nI p) (nI mk) r_5 x_20 (nI mk) (x_20 - nI 1))))))) := by
    intro fw mk hmk hmk2 hfw1 hfw2
    rw [mk_w (by omega), hsz, ob0_s, sub_n (by omega), nI_add, ilt_n (by omega), nI_add]
    obtain ⟨s1, g', k, r1, r2, r3, r4⟩ := h_reserveS (n := n) (g := g) (i := i) (a := a) (T := S) (c := l.length + 2) h9 (by omega) hg1 hg2
    obtain ⟨t1, t2, t3, t4, t5⟩ := id r4
    rw [r1]
    obtain ⟨s2, es2⟩ : ∃ s2, s2 = va_cpy (a 0) s1 p (S + 1) (l.length + 1) := ⟨_, rfl⟩
    obtain ⟨s3, es3⟩ : ∃ s3, s3 = upd s2 S (nI (128 + aLex l)) := ⟨_, rfl⟩
    have m1 : ∀ x, x < S → s3 x = a 1 x := fun x hx => by rw [es3, upd_ne (by omega), es2, va_out (by omega), r2 x (by omega)]
    have m2 : s3 S = nI (128 + aLex l) := by rw [es3, upd_at]
    have m3' : ∀ k (h : k < l.length), s2 (S + 1 + k) = nI (l[k]'h) := fun k hk => by
      rw [es2, va_in (by omega) (by omega), show p + (S + 1 + k - (S + 1)) = p + k by omega]
      exact hrow.2.2.1 k hk
    have m3 : ∀ k (h : k < l.length), s3 (S + 1 + k) = nI (l[k]'h) := fun k hk => by rw [es3, upd_ne (by omega)]; exact m3' k hk
    have m4' : s2 (S + 1 + l.length) = nI 0 := by
      rw [es2, va_in (by omega) (by omega), show p + (S + 1 + l.length - (S + 1)) = p + l.length by omega]
      exact hrow.2.2.2
    have m4 : s3 (S + 1 + l.length) = nI 0 := by rw [es3, upd_ne (by omega)]; exact m4'
    have hrow2 : inRow s2 (g' 1) (S + 1) l := ⟨by omega, w5, m3', m4'⟩
    have em := ly_meaning (n := n) (g := g') (i := i) (a := updA (updA a 1 s1) 1 s2) t3 hx hn hrow2 w3 w2
    obtain ⟨z1, z2⟩ := COL_word (fw := fw) hC hp hw m1 m2 m3 m4 (by omega) (fun e => (hfw1 e).1)
    refine ⟨upd i 9 (nI (S + 1 + l.length + 1)), if fw then sv (sv (updA (updA a 1 s1) 1 s2) 1 S (nI (128 + aLex l))) 0 (p - 1) (-nI (S + 1)) else sv (updA (updA a 1 s1) 1 s2) 1 S (nI (128 + aLex l)), g', (k.1 + 0, k.2 + 0), nI (4 * (S + 1) + 3), S + l.length + 2, obG_s (k' := (0, 0)) ?_, ⟨?_, by rw [upd_at, show S + 1 + l.length + 1 = S + l.length + 2 by omega], h7, by omega, by omega, t3, by rw [t1]; exact hT, by rw [t1]; exact hg, by cases fw <;> exact hx⟩, by omega, ?_, ?_, r4, fun q hq => upd_ne hq, fun q h0 h1 => ?_⟩
    · rw [ieq_n (by decide), ob1_s, h9, nI_add, cy_n (by rw [t1]; omega), ob1_s, cl_n (by omega), cl_n (by omega), cl_n (by omega)]
      have ea : updA (updA a 1 s1) 1 (va_cpy (updA a 1 s1 0) (updA a 1 s1 1) p (S + 1) (l.length + 1)) = updA (updA a 1 s1) 1 s2 := by
        rw [updA_at, updA_ne (by decide), ← es2]
      rw [ea, sub_n (by omega), show S + 1 - 1 = S by omega]
      unfold m_Heap_movedWord_b119 m_Heap_movedWord_b148
      simp only [i32_lit]
      cases fw with
      | true =>
        have e9 := (hfw1 rfl).2
        subst e9
        simp (disch := omega) only [ilt_n, ck_n, ob1_s, cl_n, nI_add, sub_n, mk_w, if_true]
      | false =>
        have e9 := hfw2 rfl
        rw [ilt_p (by omega), em, ob0_s]
        simp (disch := omega) only [ilt_p, ck_n, ob1_s, cl_n, nI_add, sub_n, mk_w]
        rfl
    · have e0 : (if fw then sv (sv (updA (updA a 1 s1) 1 s2) 1 S (nI (128 + aLex l))) 0 (p - 1) (-nI (S + 1)) else sv (updA (updA a 1 s1) 1 s2) 1 S (nI (128 + aLex l))) 0 = if fw then upd (a 0) (p - 1) (-nI (S + 1)) else a 0 := by cases fw <;> rfl
      have e1 : (if fw then sv (sv (updA (updA a 1 s1) 1 s2) 1 S (nI (128 + aLex l))) 0 (p - 1) (-nI (S + 1)) else sv (updA (updA a 1 s1) 1 s2) 1 S (nI (128 + aLex l))) 1 = s3 := by rw [es3]; cases fw <;> rfl
      rw [e0, e1]
      exact z1
    · intro y hy
      have e1 : (if fw then sv (sv (updA (updA a 1 s1) 1 s2) 1 S (nI (128 + aLex l))) 0 (p - 1) (-nI (S + 1)) else sv (updA (updA a 1 s1) 1 s2) 1 S (nI (128 + aLex l))) 1 = s3 := by rw [es3]; cases fw <;> rfl
      rw [e1]
      exact m1 y hy
    · have e1 : (if fw then sv (sv (updA (updA a 1 s1) 1 s2) 1 S (nI (128 + aLex l))) 0 (p - 1) (-nI (S + 1)) else sv (updA (updA a 1 s1) 1 s2) 1 S (nI (128 + aLex l))) 1 = s3 := by rw [es3]; cases fw <;> rfl
      rw [e1]
      exact mV_tW.mpr ⟨S + 1, rfl, z2⟩
    · cases fw with
      | true =>
        show updA (updA (updA (updA a 1 s1) 1 s2) 1 _) 0 _ q = a q
        rw [updA_ne h0, updA_ne h1, updA_ne h1, updA_ne h1]
      | false =>
        show updA (updA (updA a 1 s1) 1 s2) 1 _ q = a q
        rw [updA_ne h1, updA_ne h1, updA_ne h1]
  rcases w8 with ⟨d1, d2, d3⟩ | ⟨d1, d2⟩
  · rcases c7 p l hp hw d3 with d | ⟨q, e1, e2, e3, e4⟩
    · have key := copy true (128 + aLex l) (d.trans d1) (by omega) (fun _ => ⟨d3, rfl⟩) (fun e => by cases e)
      rw [d, d1, ile_p (by omega)]
      exact key
    · rw [e3, if_neg (nI_neg_lt e1 e2), nI_negneg, mk_w (by omega)]
      exact ⟨i, a, g, (0, 0), _, S, rfl, CS_more h (by omega), Nat.le_refl _, fun _ _ => rfl, mV_tW.mpr ⟨q, rfl, e4⟩, sGrow_refl hg2, fun _ _ => rfl, fun _ _ _ => rfl⟩
  · have d : a 0 (p - 1) = f0 (p - 1) := c1 _ (by rw [d2]; decide)
    rcases d1 with d1 | d1
    · have key := copy false 34 (d.trans d1) (by omega) (fun e => by cases e) (fun _ => by decide)
      rw [d, d1, ile_p (by omega)]
      exact key
    · have key := copy false 58 (d.trans d1) (by omega) (fun e => by cases e) (fun _ => by decide)
      rw [d, d1, ile_p (by omega)]
      exact key

