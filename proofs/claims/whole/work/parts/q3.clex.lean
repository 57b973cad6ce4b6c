/-! the class's words are loaded -/
def lf (L : List Nat) : Nat → Int32 := fun k => nI (L.getD k 0)
theorem lf_at (L : List Nat) (k : Nat) : lf L k = nI (L.getD k 0) := rfl
theorem getD_app {L : List Nat} {c k : Nat} : (L ++ [c]).getD k 0 = if k = L.length then c else L.getD k 0 := by
  rcases Classical.em (k = L.length) with e | e
  · subst e
    rw [if_pos rfl, List.getD_eq_getElem?_getD, List.getElem?_append_right (Nat.le_refl _)]
    simp
  · rw [if_neg e]
    rcases Nat.lt_or_ge k L.length with h | h
    · rw [List.getD_eq_getElem?_getD, List.getD_eq_getElem?_getD, List.getElem?_append_left h]
    · rw [getD_out (by rw [List.length_append, List.length_singleton]; omega), getD_out h]
theorem getD_st {L : List Nat} {w c k : Nat} (h : w < L.length) : (L.set w c).getD k 0 = if k = w then c else L.getD k 0 := by
  rw [List.getD_eq_getElem?_getD, List.getD_eq_getElem?_getD, List.getElem?_set]
  rcases Classical.em (k = w) with e | e
  · subst e
    rw [if_pos rfl, if_pos rfl, if_pos h]
    rfl
  · rw [if_neg (fun q => e q.symm), if_neg e]
theorem lf_app {L : List Nat} {c : Nat} : upd (lf L) L.length (nI c) = lf (L ++ [c]) := by
  funext k
  rw [lf_at, getD_app]
  rcases Classical.em (k = L.length) with e | e
  · rw [if_pos e, e, upd_at]
  · rw [if_neg e, upd_ne e]; rfl
theorem lf_set {L : List Nat} {w c : Nat} (h : w < L.length) : upd (lf L) w (nI c) = lf (L.set w c) := by
  funext k
  rw [lf_at, getD_st h]
  rcases Classical.em (k = w) with e | e
  · rw [if_pos e, e, upd_at]
  · rw [if_neg e, upd_ne e]; rfl
theorem lf_0 {n : Nat} : (fun _ => (0 : Int32)) = lf (List.replicate n 0) := by
  funext k
  rw [lf_at]
  rcases Nat.lt_or_ge k n with h | h
  · rw [List.getD_eq_getElem?_getD, List.getElem?_replicate, if_pos h]; rfl
  · rw [getD_out (by rw [List.length_replicate]; exact h)]; rfl
/-- a word gets its slot -/
def lxIns (H : List Nat) (h w : Nat) : Nat → Nat → List Nat
  | 0, _ => H
  | f + 1, k => if H.getD ((h + k) % 256) 0 = 0 then H.set ((h + k) % 256) w else lxIns H h w f (k + 1)
theorem lx_hashr {cl : Nat} {fr : Nat → Int32} {a0 : Int32} (hc : cl ≤ 340000) : ∀ (l : List Nat) (p n h : Nat), inRow fr cl p l → l.length < n → m_Lexicon_hashOf_L8_r cl fr a0 n (nI p) (nI h) = nI (hashN l h) := by
  intro l
  induction l with
  | nil =>
    intro p n h hr hf
    obtain ⟨q4, q5, q6, q7⟩ := hr
    obtain ⟨n, rfl⟩ : ∃ f', n = f' + 1 := ⟨n - 1, by omega⟩
    rw [List.length_nil, Nat.add_zero] at q4 q7
    rw [m_Lexicon_hashOf_L8_r, ile_n (by omega), cl_n (by omega), q7, if_pos (show nI 0 = (0 : Int32) from rfl)]
    rfl
  | cons c l ih =>
    intro p n h hr hf
    obtain ⟨q4, q5, q6, q7⟩ := hr
    obtain ⟨n, rfl⟩ : ∃ f', n = f' + 1 := ⟨n - 1, by omega⟩
    have e : fr p = nI c := q6 0 (by simp)
    have e2 := q5 c (by simp)
    rw [List.length_cons] at q4 q7 hf
    rw [m_Lexicon_hashOf_L8_r, ile_n (by omega), cl_n (by omega), e, if_neg (show ¬ nI c = (0 : Int32) from fun e9 => by have := (nI_eq (b := 0) (by omega) (by decide)).mp e9; omega), show (31 : Int32) * nI h = nI (31 * h) from pk_mul 31 h, nI_add, show nI p + (1 : Int32) = nI (p + 1) from nI_add p 1]
    show _ = nI (hashN l (31 * h + c))
    refine ih (p + 1) n _ ⟨by omega, fun x hx => q5 x (List.mem_cons_of_mem _ hx), fun k hk => ?_, ?_⟩ (by omega)
    · have := q6 (k + 1) (by simp; omega)
      rw [show p + 1 + k = p + (k + 1) by omega]
      exact this
    · rw [← q7]; congr 1; omega
theorem lx_24 {k1 k2 : Int32} {p1 p2 : Nat → Int32} {H : List Nat} {h w : Nat} {lt : Nat → Int32} {us : Int32} (hH : H.length = 256) (hb : ∀ x, H.getD x 0 < 86) (hk : k1 = nI w) : ∀ (f k n : Nat), f + k = 256 → f < n → m_Lexicon_endWord_L24_w0_6 k1 k2 p1 p2 (lf H) n k (nI h) lt us = us ∧ m_Lexicon_endWord_L24_w1 k1 k2 p1 p2 (lf H) n k (nI h) lt us = lt ∧ m_Lexicon_endWord_L24_w5 k1 k2 p1 p2 (lf H) n k (nI h) lt us = lf (lxIns H h w f k) := by
  intro f
  induction f with
  | zero =>
    intro k n e hf
    obtain ⟨n, rfl⟩ : ∃ f', n = f' + 1 := ⟨n - 1, by omega⟩
    rw [m_Lexicon_endWord_L24_w0_6, m_Lexicon_endWord_L24_w1, m_Lexicon_endWord_L24_w5, show (256 : Int32) = nI 256 from rfl, ile_p (by omega), ile_p (by omega), ile_p (by omega)]
    exact ⟨rfl, rfl, rfl⟩
  | succ f ih =>
    intro k n e hf
    obtain ⟨n, rfl⟩ : ∃ f', n = f' + 1 := ⟨n - 1, by omega⟩
    have hm := Nat.mod_lt (h + k) (show 256 > 0 by decide)
    have hb2 := hb ((h + k) % 256)
    have e1 : (nI h + nI k) &&& (255 : Int32) = nI ((h + k) % 256) := by rw [nI_add, show (255 : Int32) = nI 255 from rfl, nI_255]
    rw [m_Lexicon_endWord_L24_w0_6, m_Lexicon_endWord_L24_w1, m_Lexicon_endWord_L24_w5, show (256 : Int32) = nI 256 from rfl, ile_n (by omega), ile_n (by omega), ile_n (by omega), e1, cl_n (by omega), lf_at, lxIns]
    rcases Classical.em (H.getD ((h + k) % 256) 0 = 0) with c | c
    · rw [c, if_pos (show nI 0 = (0 : Int32) from rfl), if_pos (show nI 0 = (0 : Int32) from rfl), if_pos (show nI 0 = (0 : Int32) from rfl), if_pos rfl, hk, lf_set (by omega)]
      exact ⟨rfl, rfl, rfl⟩
    · have cn : ¬ nI (H.getD ((h + k) % 256) 0) = (0 : Int32) := fun e9 => c ((nI_eq (b := 0) (by omega) (by decide)).mp e9)
      rw [if_neg cn, if_neg cn, if_neg cn, if_neg c]
      exact ih (k + 1) n (by omega) (by omega)
theorem lxIns_ok {H : List Nat} {h w : Nat} (hH : H.length = 256) (hb : ∀ x, H.getD x 0 < 86) (hw : w < 86) : ∀ (f k : Nat), (lxIns H h w f k).length = 256 ∧ ∀ x, (lxIns H h w f k).getD x 0 < 86 := by
  intro f
  induction f with
  | zero => intro k; exact ⟨hH, hb⟩
  | succ f ih =>
    intro k
    rw [lxIns]
    split
    · refine ⟨by rw [List.length_set]; exact hH, fun x => ?_⟩
      rw [getD_st (by have := Nat.mod_lt (h + k) (show 256 > 0 by decide); omega)]
      split
      · exact hw
      · exact hb x
    · exact ih (k + 1)
abbrev LX : Type := Nat × List Nat × List Nat × List Nat × List Nat × List Nat
/-- what is known while words are loaded -/
def LI (s : LX) : Prop := (1 ≤ s.2.2.1.length ∧ s.2.2.1.length ≤ 86 ∧ s.2.2.1.getD (s.2.2.1.length - 1) 0 ≤ s.2.1.length ∧ okLs (s.2.1.drop (s.2.2.1.getD (s.2.2.1.length - 1) 0))) ∧ s.2.2.2.1.length = 86 ∧ s.2.2.2.2.1.length = 258 ∧ s.2.2.2.2.2.length = 256 ∧ (∀ x, s.2.2.2.2.2.getD x 0 < 86)
def lxW (s : LX) : List Nat := lxIns s.2.2.2.2.2 (hashN (s.2.1.drop (s.2.2.1.getD (s.2.2.1.length - 1) 0)) 0) (s.2.2.1.length - 1) 256 0
def lxStep (c : Nat) (s : LX) : Option LX :=
  if ¬ s.2.1.length < 599 then none
  else if c = 32 then (if s.2.2.1.length < 86 then some (0, s.2.1 ++ [0], s.2.2.1 ++ [s.2.1.length + 1], s.2.2.2.1, s.2.2.2.2.1, lxW s) else none)
  else if c = 46 then some (1, s.2)
  else if s.1 = 0 then (if 33 ≤ c ∧ c ≤ 126 then some (0, s.2.1 ++ [c], s.2.2) else none)
  else if s.1 = 1 ∧ s.2.2.2.1.getD (s.2.2.1.length - 1) 0 < 3 then some (1, s.2.1, s.2.2.1, s.2.2.2.1.set (s.2.2.1.length - 1) (s.2.2.2.1.getD (s.2.2.1.length - 1) 0 + 1), s.2.2.2.2.1.set ((s.2.2.1.length - 1) * 3 + s.2.2.2.1.getD (s.2.2.1.length - 1) 0) c, s.2.2.2.2.2)
  else none
def lxRun : List Nat → LX → Option LX
  | [], s => if s.2.1.length < 599 then some s else none
  | c :: r, s => match lxStep c s with
    | none => none
    | some s' => lxRun r s'
theorem drop_app {L : List Nat} {c k : Nat} (h : k ≤ L.length) : (L ++ [c]).drop k = L.drop k ++ [c] := by
  rw [List.drop_append_of_le_length h]
theorem lx_max {p : Nat} (h : p < 2147483648) : m_Math_max_r (nI p) 0 = nI p := by
  unfold m_Math_max_r
  rw [show (0 : Int32) = nI 0 from rfl]
  rcases Nat.eq_zero_or_pos p with e | e
  · subst e; simp
  · simp only [if_neg (show ¬ nI p < nI 0 from nI_nlt (by omega) (by omega))]
/-- a word ends -/
theorem lx_end {s : LX} (h : LI s) (hl : s.2.1.length < 599) : m_Lexicon_endWord_w0_6 (nI (s.2.2.1.length - 1)) (nI s.2.1.length) (lf s.2.1) (lf s.2.2.1) (lf s.2.2.2.2.2) = nI (s.2.1.length + 1) ∧ m_Lexicon_endWord_w1 (nI (s.2.2.1.length - 1)) (nI s.2.1.length) (lf s.2.1) (lf s.2.2.1) (lf s.2.2.2.2.2) = lf (s.2.1 ++ [0]) ∧ m_Lexicon_endWord_w5 (nI (s.2.2.1.length - 1)) (nI s.2.1.length) (lf s.2.1) (lf s.2.2.1) (lf s.2.2.2.2.2) = lf (lxW s) := by
  obtain ⟨ik, L, S, A, K, H⟩ := s
  obtain ⟨⟨h1, h2, h3, h4⟩, h5, h6, h7, h8⟩ := h
  unfold lxW
  dsimp only at *
  have a1 : m_Lexicon_addLetter_w1 (nI L.length) (lf L) 0 = lf (L ++ [0]) := by
    unfold m_Lexicon_addLetter_w1
    rw [show (600 : Int32) = nI 600 from rfl, ile_n (by omega), cl_n (by omega), show (0 : Int32) = nI 0 from rfl, lf_app]
  have a2 : m_Lexicon_addLetter_w0_6 (nI L.length) = nI (L.length + 1) := by
    unfold m_Lexicon_addLetter_w0_6
    rw [show (600 : Int32) = nI 600 from rfl, ile_n (by omega)]
    exact nI_add L.length 1
  have hh : m_Lexicon_hashOf_r 600 (lf (L ++ [0])) (lf S (nI (S.length - 1)).toNatClampNeg) = nI (hashN (L.drop (S.getD (S.length - 1) 0)) 0) := by
    unfold m_Lexicon_hashOf_r
    rw [cl_n (by omega), lf_at, lx_max (by omega)]
    refine lx_hashr (by decide) _ _ _ 0 ⟨?_, h4, fun k hk => ?_, ?_⟩ ?_
    · rw [List.length_drop]; omega
    · rw [List.length_drop] at hk
      rw [lf_at, getD_app, if_neg (by omega), List.getElem_drop, List.getD_eq_getElem?_getD, List.getElem?_eq_getElem (by omega)]
      rfl
    · rw [List.length_drop, lf_at, getD_app, if_pos (by omega)]
    · rw [List.length_drop]
      have : (nI (S.getD (S.length - 1) 0)).toInt = ((S.getD (S.length - 1) 0 : Nat) : Int) := by
        rw [nI_ofInt]
        exact Int32.toInt_ofInt_of_le (by show -2147483648 ≤ _; omega) (by show _ < 2147483648; omega)
      rw [this]
      omega
  unfold m_Lexicon_endWord_w0_6 m_Lexicon_endWord_w1 m_Lexicon_endWord_w5
  rw [a1, a2, hh]
  exact lx_24 h7 h8 rfl 256 0 _ (by omega) (by decide)
theorem LI_step {c : Nat} {s s' : LX} (h : LI s) (e : lxStep c s = some s') : LI s' := by
  obtain ⟨ik, L, S, A, K, H⟩ := s
  have hl0 := h
  obtain ⟨⟨h1, h2, h3, h4⟩, h5, h6, h7, h8⟩ := h
  unfold lxStep at e
  dsimp only at *
  rcases Classical.em (L.length < 599) with c0 | c0
  rotate_left
  · rw [if_pos c0] at e; cases e
  rw [if_neg (not_not_intro c0)] at e
  rcases Classical.em (c = 32) with c1 | c1
  · rw [if_pos c1] at e
    rcases Classical.em (S.length < 86) with c2 | c2
    · rw [if_pos c2] at e
      have e := Option.some.inj e
      subst e
      have hi := lxIns_ok (h := hashN (L.drop (S.getD (S.length - 1) 0)) 0) (w := S.length - 1) h7 h8 (by omega) 256 0
      refine ⟨⟨?_, ?_, ?_, ?_⟩, h5, h6, hi.1, hi.2⟩
      · show 1 ≤ (S ++ [L.length + 1]).length
        rw [List.length_append, List.length_singleton]; omega
      · show (S ++ [L.length + 1]).length ≤ 86
        rw [List.length_append, List.length_singleton]; omega
      · show (S ++ [L.length + 1]).getD ((S ++ [L.length + 1]).length - 1) 0 ≤ (L ++ [0]).length
        rw [List.length_append, List.length_singleton, getD_app, if_pos (by omega), List.length_append, List.length_singleton]; omega
      · show okLs ((L ++ [0]).drop ((S ++ [L.length + 1]).getD ((S ++ [L.length + 1]).length - 1) 0))
        rw [List.length_append, List.length_singleton, getD_app, if_pos (by omega), List.drop_of_length_le (by rw [List.length_append, List.length_singleton]; omega)]
        intro x hx
        cases hx
    · rw [if_neg c2] at e; cases e
  rw [if_neg c1] at e
  rcases Classical.em (c = 46) with c2 | c2
  · rw [if_pos c2] at e
    have e := Option.some.inj e
    subst e
    exact hl0
  rw [if_neg c2] at e
  rcases Classical.em (ik = 0) with c3 | c3
  · rw [if_pos c3] at e
    rcases Classical.em (33 ≤ c ∧ c ≤ 126) with c4 | c4
    · rw [if_pos c4] at e
      have e := Option.some.inj e
      subst e
      refine ⟨⟨h1, h2, ?_, ?_⟩, h5, h6, h7, h8⟩
      · show S.getD (S.length - 1) 0 ≤ (L ++ [c]).length
        rw [List.length_append, List.length_singleton]; omega
      · show okLs ((L ++ [c]).drop (S.getD (S.length - 1) 0))
        rw [drop_app h3]
        intro x hx
        rcases List.mem_append.mp hx with hx | hx
        · exact h4 x hx
        · rw [List.mem_singleton.mp hx]; exact c4
    · rw [if_neg c4] at e; cases e
  rw [if_neg c3] at e
  rcases Classical.em (ik = 1 ∧ A.getD (S.length - 1) 0 < 3) with c4 | c4
  · rw [if_pos c4] at e
    have e := Option.some.inj e
    subst e
    exact ⟨⟨h1, h2, h3, h4⟩, by show (A.set _ _).length = 86; rw [List.length_set]; exact h5, by show (K.set _ _).length = 258; rw [List.length_set]; exact h6, h7, h8⟩
  · rw [if_neg c4] at e; cases e
/-- one sign of the text -/
theorem lx_step {c i n N : Nat} {f : Nat → Int32} {k1 k2 : Int32} {p1 p2 p3 p4 p5 : Nat → Int32} {s s' : LX} (h : LI s) (e : lxStep c s = some s') (hi : i < N) (hN : N ≤ 1000) (hf : f i &&& 255 = nI c) (hc : c ≤ 126) : m_Lexicon_load_L8_w0_5 k1 k2 p1 p2 p3 p4 p5 N f (n + 1) i (nI s.1) (lf s.2.1) (lf s.2.2.1) (lf s.2.2.2.1) (lf s.2.2.2.2.1) (lf s.2.2.2.2.2) (nI (s.2.2.1.length - 1)) (nI s.2.1.length) = m_Lexicon_load_L8_w0_5 k1 k2 p1 p2 p3 p4 p5 N f n (i + 1) (nI s'.1) (lf s'.2.1) (lf s'.2.2.1) (lf s'.2.2.2.1) (lf s'.2.2.2.2.1) (lf s'.2.2.2.2.2) (nI (s'.2.2.1.length - 1)) (nI s'.2.1.length) ∧ m_Lexicon_load_L8_w0_6 k1 k2 p1 p2 p3 p4 p5 N f (n + 1) i (nI s.1) (lf s.2.1) (lf s.2.2.1) (lf s.2.2.2.1) (lf s.2.2.2.2.1) (lf s.2.2.2.2.2) (nI (s.2.2.1.length - 1)) (nI s.2.1.length) = m_Lexicon_load_L8_w0_6 k1 k2 p1 p2 p3 p4 p5 N f n (i + 1) (nI s'.1) (lf s'.2.1) (lf s'.2.2.1) (lf s'.2.2.2.1) (lf s'.2.2.2.2.1) (lf s'.2.2.2.2.2) (nI (s'.2.2.1.length - 1)) (nI s'.2.1.length) ∧ m_Lexicon_load_L8_w1 k1 k2 p1 p2 p3 p4 p5 N f (n + 1) i (nI s.1) (lf s.2.1) (lf s.2.2.1) (lf s.2.2.2.1) (lf s.2.2.2.2.1) (lf s.2.2.2.2.2) (nI (s.2.2.1.length - 1)) (nI s.2.1.length) = m_Lexicon_load_L8_w1 k1 k2 p1 p2 p3 p4 p5 N f n (i + 1) (nI s'.1) (lf s'.2.1) (lf s'.2.2.1) (lf s'.2.2.2.1) (lf s'.2.2.2.2.1) (lf s'.2.2.2.2.2) (nI (s'.2.2.1.length - 1)) (nI s'.2.1.length) ∧ m_Lexicon_load_L8_w2 k1 k2 p1 p2 p3 p4 p5 N f (n + 1) i (nI s.1) (lf s.2.1) (lf s.2.2.1) (lf s.2.2.2.1) (lf s.2.2.2.2.1) (lf s.2.2.2.2.2) (nI (s.2.2.1.length - 1)) (nI s.2.1.length) = m_Lexicon_load_L8_w2 k1 k2 p1 p2 p3 p4 p5 N f n (i + 1) (nI s'.1) (lf s'.2.1) (lf s'.2.2.1) (lf s'.2.2.2.1) (lf s'.2.2.2.2.1) (lf s'.2.2.2.2.2) (nI (s'.2.2.1.length - 1)) (nI s'.2.1.length) ∧ m_Lexicon_load_L8_w3 k1 k2 p1 p2 p3 p4 p5 N f (n + 1) i (nI s.1) (lf s.2.1) (lf s.2.2.1) (lf s.2.2.2.1) (lf s.2.2.2.2.1) (lf s.2.2.2.2.2) (nI (s.2.2.1.length - 1)) (nI s.2.1.length) = m_Lexicon_load_L8_w3 k1 k2 p1 p2 p3 p4 p5 N f n (i + 1) (nI s'.1) (lf s'.2.1) (lf s'.2.2.1) (lf s'.2.2.2.1) (lf s'.2.2.2.2.1) (lf s'.2.2.2.2.2) (nI (s'.2.2.1.length - 1)) (nI s'.2.1.length) ∧ m_Lexicon_load_L8_w4 k1 k2 p1 p2 p3 p4 p5 N f (n + 1) i (nI s.1) (lf s.2.1) (lf s.2.2.1) (lf s.2.2.2.1) (lf s.2.2.2.2.1) (lf s.2.2.2.2.2) (nI (s.2.2.1.length - 1)) (nI s.2.1.length) = m_Lexicon_load_L8_w4 k1 k2 p1 p2 p3 p4 p5 N f n (i + 1) (nI s'.1) (lf s'.2.1) (lf s'.2.2.1) (lf s'.2.2.2.1) (lf s'.2.2.2.2.1) (lf s'.2.2.2.2.2) (nI (s'.2.2.1.length - 1)) (nI s'.2.1.length) ∧ m_Lexicon_load_L8_w5 k1 k2 p1 p2 p3 p4 p5 N f (n + 1) i (nI s.1) (lf s.2.1) (lf s.2.2.1) (lf s.2.2.2.1) (lf s.2.2.2.2.1) (lf s.2.2.2.2.2) (nI (s.2.2.1.length - 1)) (nI s.2.1.length) = m_Lexicon_load_L8_w5 k1 k2 p1 p2 p3 p4 p5 N f n (i + 1) (nI s'.1) (lf s'.2.1) (lf s'.2.2.1) (lf s'.2.2.2.1) (lf s'.2.2.2.2.1) (lf s'.2.2.2.2.2) (nI (s'.2.2.1.length - 1)) (nI s'.2.1.length) := by
  have hE := lx_end h
  obtain ⟨ik, L, S, A, K, H⟩ := s
  obtain ⟨⟨h1, h2, h3, h4⟩, h5, h6, h7, h8⟩ := h
  unfold lxStep at e
  dsimp only at *
  rcases Classical.em (L.length < 599) with c0 | c0
  rotate_left
  · rw [if_pos c0] at e; cases e
  rw [if_neg (not_not_intro c0)] at e
  obtain ⟨E1, E2, E3⟩ := hE c0
  rw [m_Lexicon_load_L8_w0_5, m_Lexicon_load_L8_w0_6, m_Lexicon_load_L8_w1, m_Lexicon_load_L8_w2, m_Lexicon_load_L8_w3, m_Lexicon_load_L8_w4, m_Lexicon_load_L8_w5]
  simp only [cl_n (show i < 2147483648 by omega), hf]
  simp only [show (32 : Int32) = nI 32 from rfl, show (46 : Int32) = nI 46 from rfl, ieqs (show c < 1000 by omega) (show 32 < 1000 by decide), ieqs (show c < 1000 by omega) (show 46 < 1000 by decide), ile_n (show i < N ∧ N < 2147483648 by omega)]
  rcases Classical.em (c = 32) with c1 | c1
  · rw [if_pos c1] at e
    rcases Classical.em (S.length < 86) with c2 | c2
    rotate_left
    · rw [if_neg c2] at e; cases e
    rw [if_pos c2] at e
    have e := Option.some.inj e
    subst e
    have b1 : m_Lexicon_beginWord_w0_5 (nI (S.length - 1)) = nI ((S ++ [L.length + 1]).length - 1) := by
      unfold m_Lexicon_beginWord_w0_5
      rw [show nI (S.length - 1) + (1 : Int32) = nI (S.length - 1 + 1) from nI_add _ 1, show (86 : Int32) = nI 86 from rfl, ile_n (by omega), List.length_append, List.length_singleton]
      congr 1
      omega
    have b2 : m_Lexicon_beginWord_w2 (nI (S.length - 1)) (nI (L.length + 1)) (lf S) = lf (S ++ [L.length + 1]) := by
      unfold m_Lexicon_beginWord_w2
      rw [show nI (S.length - 1) + (1 : Int32) = nI (S.length - 1 + 1) from nI_add _ 1, show (86 : Int32) = nI 86 from rfl, ile_n (by omega), cl_n (by omega), show S.length - 1 + 1 = S.length by omega, lf_app]
    have b3 : (L ++ [0]).length = L.length + 1 := by rw [List.length_append, List.length_singleton]
    simp only [if_pos c1, E1, E2, E3, b1, b2, b3]
    refine ⟨?_, ?_, ?_, ?_, ?_, ?_, ?_⟩ <;> first | trivial | rfl
  rw [if_neg c1] at e
  simp only [if_neg c1]
  rcases Classical.em (c = 46) with c2 | c2
  · rw [if_pos c2] at e
    have e := Option.some.inj e
    subst e
    simp only [if_pos c2]
    refine ⟨?_, ?_, ?_, ?_, ?_, ?_, ?_⟩ <;> first | trivial | rfl
  rw [if_neg c2] at e
  simp only [if_neg c2]
  rcases Classical.em (ik = 0) with c3 | c3
  · rw [if_pos c3] at e
    rcases Classical.em (33 ≤ c ∧ c ≤ 126) with c4 | c4
    rotate_left
    · rw [if_neg c4] at e; cases e
    rw [if_pos c4] at e
    have e := Option.some.inj e
    subst e
    subst c3
    have a1 : m_Lexicon_addLetter_w1 (nI L.length) (lf L) (nI c) = lf (L ++ [c]) := by
      unfold m_Lexicon_addLetter_w1
      rw [show (600 : Int32) = nI 600 from rfl, ile_n (by omega), cl_n (by omega), lf_app]
    have a2 : m_Lexicon_addLetter_w0_6 (nI L.length) = nI (L ++ [c]).length := by
      unfold m_Lexicon_addLetter_w0_6
      rw [show (600 : Int32) = nI 600 from rfl, ile_n (by omega), List.length_append, List.length_singleton]
      exact nI_add L.length 1
    simp only [if_pos (show nI 0 = (0 : Int32) from rfl), a1, a2]
    refine ⟨?_, ?_, ?_, ?_, ?_, ?_, ?_⟩ <;> first | trivial | rfl
  rw [if_neg c3] at e
  rcases Classical.em (ik = 1 ∧ A.getD (S.length - 1) 0 < 3) with c4 | c4
  rotate_left
  · rw [if_neg c4] at e; cases e
  rw [if_pos c4] at e
  have e := Option.some.inj e
  subst e
  obtain ⟨c5, c6⟩ := c4
  subst c5
  have a1 : m_Lexicon_addKind_w3 (nI (S.length - 1)) (lf A) = lf (A.set (S.length - 1) (A.getD (S.length - 1) 0 + 1)) := by
    unfold m_Lexicon_addKind_w3
    rw [cl_n (by omega), lf_at, show (3 : Int32) = nI 3 from rfl, ile_n (by omega), show nI (A.getD (S.length - 1) 0) + (1 : Int32) = nI (A.getD (S.length - 1) 0 + 1) from nI_add _ 1, lf_set (by omega)]
  have a2 : m_Lexicon_addKind_w4 (nI (S.length - 1)) (lf A) (lf K) (nI c) = lf (K.set ((S.length - 1) * 3 + A.getD (S.length - 1) 0) c) := by
    unfold m_Lexicon_addKind_w4
    rw [cl_n (by omega), lf_at, show (3 : Int32) = nI 3 from rfl, ile_n (by omega), pk_mul, nI_add, cl_n (by omega), lf_set (by omega)]
  simp only [if_neg (show ¬ nI 1 = (0 : Int32) by decide), a1, a2]
  refine ⟨?_, ?_, ?_, ?_, ?_, ?_, ?_⟩ <;> first | trivial | rfl
/-- a text is loaded -/
theorem lx_run {N : Nat} {f : Nat → Int32} {k1 k2 : Int32} {p1 p2 p3 p4 p5 : Nat → Int32} (hN : N ≤ 1000) : ∀ (r : List Nat) (i n : Nat) (s s' : LX), i + r.length = N → r.length < n → (∀ k (h : k < r.length), f (i + k) &&& 255 = nI (r[k]'h)) → (∀ c ∈ r, c ≤ 126) → LI s → lxRun r s = some s' → (LI s' ∧ s'.2.1.length < 599) ∧ m_Lexicon_load_L8_w0_5 k1 k2 p1 p2 p3 p4 p5 N f n i (nI s.1) (lf s.2.1) (lf s.2.2.1) (lf s.2.2.2.1) (lf s.2.2.2.2.1) (lf s.2.2.2.2.2) (nI (s.2.2.1.length - 1)) (nI s.2.1.length) = nI (s'.2.2.1.length - 1) ∧ m_Lexicon_load_L8_w0_6 k1 k2 p1 p2 p3 p4 p5 N f n i (nI s.1) (lf s.2.1) (lf s.2.2.1) (lf s.2.2.2.1) (lf s.2.2.2.2.1) (lf s.2.2.2.2.2) (nI (s.2.2.1.length - 1)) (nI s.2.1.length) = nI (s'.2.1.length + 1) ∧ m_Lexicon_load_L8_w1 k1 k2 p1 p2 p3 p4 p5 N f n i (nI s.1) (lf s.2.1) (lf s.2.2.1) (lf s.2.2.2.1) (lf s.2.2.2.2.1) (lf s.2.2.2.2.2) (nI (s.2.2.1.length - 1)) (nI s.2.1.length) = lf (s'.2.1 ++ [0]) ∧ m_Lexicon_load_L8_w2 k1 k2 p1 p2 p3 p4 p5 N f n i (nI s.1) (lf s.2.1) (lf s.2.2.1) (lf s.2.2.2.1) (lf s.2.2.2.2.1) (lf s.2.2.2.2.2) (nI (s.2.2.1.length - 1)) (nI s.2.1.length) = lf s'.2.2.1 ∧ m_Lexicon_load_L8_w3 k1 k2 p1 p2 p3 p4 p5 N f n i (nI s.1) (lf s.2.1) (lf s.2.2.1) (lf s.2.2.2.1) (lf s.2.2.2.2.1) (lf s.2.2.2.2.2) (nI (s.2.2.1.length - 1)) (nI s.2.1.length) = lf s'.2.2.2.1 ∧ m_Lexicon_load_L8_w4 k1 k2 p1 p2 p3 p4 p5 N f n i (nI s.1) (lf s.2.1) (lf s.2.2.1) (lf s.2.2.2.1) (lf s.2.2.2.2.1) (lf s.2.2.2.2.2) (nI (s.2.2.1.length - 1)) (nI s.2.1.length) = lf s'.2.2.2.2.1 ∧ m_Lexicon_load_L8_w5 k1 k2 p1 p2 p3 p4 p5 N f n i (nI s.1) (lf s.2.1) (lf s.2.2.1) (lf s.2.2.2.1) (lf s.2.2.2.2.1) (lf s.2.2.2.2.2) (nI (s.2.2.1.length - 1)) (nI s.2.1.length) = lf (lxW s') := by
  intro r
  induction r with
  | nil =>
    intro i n s s' e hn hf hc h hr
    obtain ⟨n, rfl⟩ : ∃ f', n = f' + 1 := ⟨n - 1, by omega⟩
    unfold lxRun at hr
    rcases Classical.em (s.2.1.length < 599) with c0 | c0
    rotate_left
    · rw [if_neg c0] at hr; cases hr
    rw [if_pos c0] at hr
    have hr := Option.some.inj hr
    subst hr
    obtain ⟨E1, E2, E3⟩ := lx_end h c0
    have e : i = N := e
    rw [m_Lexicon_load_L8_w0_5, m_Lexicon_load_L8_w0_6, m_Lexicon_load_L8_w1, m_Lexicon_load_L8_w2, m_Lexicon_load_L8_w3, m_Lexicon_load_L8_w4, m_Lexicon_load_L8_w5]
    simp only [ile_p (show N ≤ i ∧ i < 2147483648 by omega)]
    exact ⟨⟨h, c0⟩, True.intro, E1, E2, True.intro, True.intro, True.intro, E3⟩
  | cons c r ih =>
    intro i n s s' e hn hf hc h hr
    obtain ⟨n, rfl⟩ : ∃ f', n = f' + 1 := ⟨n - 1, by omega⟩
    rw [List.length_cons] at e hn
    unfold lxRun at hr
    cases hs : lxStep c s with
    | none => rw [hs] at hr; cases hr
    | some s1 =>
      rw [hs] at hr
      have hr : lxRun r s1 = some s' := hr
      have h0 := hf 0 (by simp)
      rw [Nat.add_zero, List.getElem_cons_zero] at h0
      obtain ⟨S1, S2, S3, S4, S5, S6, S7⟩ := lx_step (n := n) (N := N) (f := f) (k1 := k1) (k2 := k2) (p1 := p1) (p2 := p2) (p3 := p3) (p4 := p4) (p5 := p5) h hs (show i < N by omega) hN h0 (hc c List.mem_cons_self)
      rw [S1, S2, S3, S4, S5, S6, S7]
      exact ih (i + 1) n s1 s' (by omega) (by omega) (fun k hk => by
        have := hf (k + 1) (by rw [List.length_cons]; omega)
        rw [List.getElem_cons_succ] at this
        rw [show i + 1 + k = i + (k + 1) by omega]
        exact this) (fun x hx => hc x (List.mem_cons_of_mem _ hx)) (LI_step h hs) hr

