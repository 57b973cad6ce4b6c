/-! the reference makes words and lists, reads texts and numbers -/
def rB (i : Nat → Int32) (B : RB4) : Prop := i 19 = nI B.1 ∧ i 18 = nI B.2.1 ∧ i 21 = nI B.2.2.1 ∧ i 20 = nI B.2.2.2 ∧ B.1 ≤ 120000 ∧ B.2.1 ≤ 300000 ∧ B.2.2.1 ≤ 90000 ∧ B.2.2.2 ≤ 90000
def wrA (a : Nat → Nat → Int32) (W p l : Nat) : Nat → Nat → Int32 := sv (sv (sv a 3 W (nI p)) 4 W (nI l)) 7 W 0
theorem r_newWord {n : Nat} {i : Nat → Int32} {j : Nat → Int64} {a : Nat → Nat → Int32} {b : Nat → Nat → Int64} {W p l : Nat} (h : i 19 = nI W) (hW : W < 120000) : m_Model_newWord n i j a b (nI p) (nI l) = some (upd i 19 (nI (W + 1)), j, wrA a W p l, svl b 9 W 3, nI W) := by
  unfold m_Model_newWord wrA
  rw [h]
  simp (disch := omega) only [ck_n, ob1_s, cl_n]
  rw [show (1 : Int32) = nI 1 from rfl, nI_add, upd_at, sub_n (by omega), Nat.add_sub_cancel]
theorem rUp_word {a : Nat → Nat → Int32} {b : Nat → Nat → Int64} {B : RB4} {p l Lt : Nat} {r : Nat → Int32} (hB : B.1 < 120000 ∧ B.2.1 ≤ 300000 ∧ B.2.2.1 ≤ 90000 ∧ B.2.2.2 ≤ 90000) (hL : B.2.1 ≤ Lt ∧ Lt ≤ 300000) (hr : ∀ x, x < B.2.1 → r x = a 1 x) : rUp a b B (wrA (updA a 1 r) B.1 p l) (svl b 9 B.1 3) (B.1 + 1, Lt, B.2.2.1, B.2.2.2) := by
  refine ⟨⟨by show B.1 ≤ B.1 + 1; omega, by show B.1 + 1 ≤ 120000; omega, hL.1, hL.2, Nat.le_refl _, hB.2.2.1, Nat.le_refl _, hB.2.2.2⟩, fun x hx => ⟨?_, ?_⟩, fun x hx => hr x hx, fun x hx => ⟨rfl, rfl, rfl⟩, fun x hx => rfl⟩
  · show upd (a 3) B.1 _ x = a 3 x
    rw [upd_ne (by omega)]
  · show upd (a 4) B.1 _ x = a 4 x
    rw [upd_ne (by omega)]
theorem rW_new {a : Nat → Nat → Int32} {W Lt Ls Cs p : Nat} {l : List Nat} (hW : W < 120000) (hL : Lt ≤ 300000) (h0 : l ≠ []) (h30 : l.length ≤ 30) (hok : okLs l) (hp : p + l.length ≤ Lt) (hr : ∀ k (h : k < l.length), a 1 (p + k) = nI (l[k]'h)) : rW (wrA a W p l.length) (W + 1, Lt, Ls, Cs) W l :=
  ⟨by show W < W + 1; omega, by show W + 1 ≤ 120000; omega, hL, h0, h30, hok, by show upd (a 4) W _ W = _; rw [upd_at], p, by show upd (a 3) W _ W = _; rw [upd_at], hp, hr⟩
theorem r_put {n : Nat} {i : Nat → Int32} {j : Nat → Int64} {a : Nat → Nat → Int32} {b : Nat → Nat → Int64} {C : Nat} {v : Int64} (h : i 20 = nI C) (hC : C < 90000) : m_Model_put n i j a b v = some (upd i 20 (nI (C + 1)), j, a, svl b 10 C v, 0) := by
  unfold m_Model_put
  rw [h, ck_n (by omega), ob1_s, ob1_s, ob1_s, cl_n (by omega), show (1 : Int32) = nI 1 from rfl, nI_add]
def lsA (a : Nat → Nat → Int32) (l p c s : Nat) : Nat → Nat → Int32 := sv (sv (sv a 12 l (nI p)) 13 l (nI c)) 14 l (nI s)
theorem r_newList_b {n : Nat} {i : Nat → Int32} {j : Nat → Int64} {a : Nat → Nat → Int32} {b : Nat → Nat → Int64} {B : RB4} {Ls C : Nat} {ms : List Tr} (h20 : i 20 = nI C) (h21 : i 21 = nI Ls) (hC : C ≤ 90000) (hL : Ls < 90000) (hm : ms.length ≤ C) (hv : ∀ k (h : k < ms.length), rV a b B (ms[k]'h) none (b 10 (C - ms.length + k))) : ∀ (m q f : Nat), ms.length = q + m → m < f → m_Model_newList_b9 n f i j a b (nI ms.length) (nI (1 + ((ms.take q).map tSz).sum)) (nI (C - ms.length + q)) = some (upd i 21 (nI (Ls + 1)), j, lsA a Ls (C - ms.length) ms.length (tSz (tL ms)), b, vL Ls) := by
  intro m
  induction m with
  | zero =>
    intro q f e hf
    obtain ⟨f, rfl⟩ : ∃ f', f = f' + 1 := ⟨f - 1, by omega⟩
    have es : 1 + ((ms.take q).map tSz).sum = tSz (tL ms) := by rw [List.take_of_length_le (by omega), tSz_tL]
    rw [m_Model_newList_b9, h20, ile_p (by omega), h21, es]
    unfold lsA
    simp (disch := omega) only [ck_n, ob1_s, cl_n, sub_n]
    rw [show (1 : Int32) = nI 1 from rfl, nI_add, upd_at, sub_n (by omega), Nat.add_sub_cancel, r_listValue (by omega), ob0_s]
  | succ m ih =>
    intro q f e hf
    obtain ⟨f, rfl⟩ : ∃ f', f = f' + 1 := ⟨f - 1, by omega⟩
    have hq : q < ms.length := by omega
    have et : (ms.take (q + 1)).map tSz = (ms.take q).map tSz ++ [tSz ms[q]] := by
      rw [List.take_add_one, List.getElem?_eq_getElem hq, List.map_append]
      rfl
    have e9 : 1 + ((ms.take q).map tSz).sum + tSz ms[q] = 1 + ((ms.take (q + 1)).map tSz).sum := by
      rw [et, List.sum_append]
      simp
      omega
    rw [m_Model_newList_b9, h20, ile_n (by omega), ck_n (by omega), cl_n (by omega), r_sizeOf (hv q hq), ob0_s, ob1_s, ob1_s, nI_add, e9, show (1 : Int32) = nI 1 from rfl, nI_add]
    have := ih (q + 1) f (by omega) (by omega)
    rw [show C - ms.length + (q + 1) = C - ms.length + q + 1 by omega] at this
    exact this
theorem r_newList {n : Nat} {i : Nat → Int32} {j : Nat → Int64} {a : Nat → Nat → Int32} {b : Nat → Nat → Int64} {B : RB4} {Ls C : Nat} {ms : List Tr} (hn : 90001 ≤ n) (h20 : i 20 = nI C) (h21 : i 21 = nI Ls) (hC : C ≤ 90000) (hL : Ls < 90000) (hm : ms.length ≤ C) (hv : ∀ k (h : k < ms.length), rV a b B (ms[k]'h) none (b 10 (C - ms.length + k))) : m_Model_newList n i j a b (nI ms.length) = some (upd i 21 (nI (Ls + 1)), j, lsA a Ls (C - ms.length) ms.length (tSz (tL ms)), b, vL Ls) := by
  unfold m_Model_newList
  rw [ob1_s, h20, sub_n hm]
  have := r_newList_b (n := n) (j := j) h20 h21 hC hL hm hv ms.length 0 n (by omega) (by omega)
  rw [Nat.add_zero] at this
  exact this
theorem rUp_list {a : Nat → Nat → Int32} {b : Nat → Nat → Int64} {B : RB4} {p c s : Nat} (hB : B.1 ≤ 120000 ∧ B.2.1 ≤ 300000 ∧ B.2.2.1 < 90000 ∧ B.2.2.2 ≤ 90000) : rUp a b B (lsA a B.2.2.1 p c s) b (B.1, B.2.1, B.2.2.1 + 1, B.2.2.2) := by
  refine ⟨⟨Nat.le_refl _, hB.1, Nat.le_refl _, hB.2.1, by show B.2.2.1 ≤ B.2.2.1 + 1; omega, by show B.2.2.1 + 1 ≤ 90000; omega, Nat.le_refl _, hB.2.2.2⟩, fun x hx => ⟨rfl, rfl⟩, fun x hx => rfl, fun x hx => ⟨?_, ?_, ?_⟩, fun x hx => rfl⟩
  · show upd (a 12) B.2.2.1 _ x = a 12 x
    rw [upd_ne (by omega)]
  · show upd (a 13) B.2.2.1 _ x = a 13 x
    rw [upd_ne (by omega)]
  · show upd (a 14) B.2.2.1 _ x = a 14 x
    rw [upd_ne (by omega)]
theorem rV_list {a : Nat → Nat → Int32} {b : Nat → Nat → Int64} {B : RB4} {ms : List Tr} (hB : B.1 ≤ 120000 ∧ B.2.1 ≤ 300000 ∧ B.2.2.1 < 90000 ∧ B.2.2.2 ≤ 90000) (hm : ms.length ≤ B.2.2.2) (hs : tSz (tL ms) ≤ 5000 ∧ tNd (tL ms) ≤ 1200 ∧ tSl (tL ms) ≤ 8000) (hv : ∀ k (h : k < ms.length), rV a b B (ms[k]'h) none (b 10 (B.2.2.2 - ms.length + k))) : rV (lsA a B.2.2.1 (B.2.2.2 - ms.length) ms.length (tSz (tL ms))) b (B.1, B.2.1, B.2.2.1 + 1, B.2.2.2) (tL ms) none (vL B.2.2.1) := by
  refine rV_tL.mpr ⟨B.2.2.1, B.2.2.2 - ms.length, rfl, ⟨by show B.2.2.1 < B.2.2.1 + 1; omega, by show B.2.2.1 + 1 ≤ 90000; omega, hB.2.2.2, by show upd (a 12) B.2.2.1 _ B.2.2.1 = _; rw [upd_at], by show upd (a 13) B.2.2.1 _ B.2.2.1 = _; rw [upd_at], by show upd (a 14) B.2.2.1 _ B.2.2.1 = _; rw [upd_at], by show B.2.2.2 - ms.length + ms.length ≤ B.2.2.2; omega, hs⟩, fun k hk => (rV_up (rUp_list (b := b) hB) _).1 _ (hv k hk)⟩
/-- a cell more -/
theorem rUp_put {a : Nat → Nat → Int32} {b : Nat → Nat → Int64} {B : RB4} {v : Int64} (hB : B.1 ≤ 120000 ∧ B.2.1 ≤ 300000 ∧ B.2.2.1 ≤ 90000 ∧ B.2.2.2 < 90000) : rUp a b B a (svl b 10 B.2.2.2 v) (B.1, B.2.1, B.2.2.1, B.2.2.2 + 1) := by
  refine ⟨⟨Nat.le_refl _, hB.1, Nat.le_refl _, hB.2.1, Nat.le_refl _, hB.2.2.1, by show B.2.2.2 ≤ B.2.2.2 + 1; omega, by show B.2.2.2 + 1 ≤ 90000; omega⟩, fun x hx => ⟨rfl, rfl⟩, fun x hx => rfl, fun x hx => ⟨rfl, rfl, rfl⟩, fun x hx => ?_⟩
  show vp_updL (b 10) B.2.2.2 v x = b 10 x
  unfold vp_updL
  rw [if_neg (by omega)]
/-- the letters of a text of the program -/
def isTx (t : Nat) (r : List Nat) : Prop := t < 34 ∧ tw_len.getD t 0 = r.length ∧ r.length ≤ 500 ∧ (∀ c ∈ r, c ≤ 126) ∧ ∀ k (h : k < r.length), tw_bt t k &&& 255 = nI (r[k]'h)
theorem r_isText_b {n : Nat} {i : Nat → Int32} {j : Nat → Int64} {a : Nat → Nat → Int32} {b : Nat → Nat → Int64} {B : RB4} {w t : Nat} {l r : List Nat} (h : rW a B w l) (ht : isTx t r) (hl : l.length = r.length) : ∀ (m k f : Nat), l.length = k + m → m < f → (∀ x, x < k → l[x]? = r[x]?) → m_Model_isText_b17 n i j a b f (nI w) t (nI k) = some (b1 (decide (l = r))) := by
  obtain ⟨h1, h2, h3, h4, h5, h6, h7, p, h8, h9, h10⟩ := h
  obtain ⟨t1, t2, t3, t4, t5⟩ := ht
  intro m
  induction m with
  | zero =>
    intro k f e hf hx
    obtain ⟨f, rfl⟩ : ∃ f', f = f' + 1 := ⟨f - 1, by omega⟩
    have elr : l = r := by
      apply List.ext_getElem?
      intro x
      rcases Nat.lt_or_ge x k with c | c
      · exact hx x c
      · rw [List.getElem?_eq_none (by omega), List.getElem?_eq_none (by omega)]
    rw [m_Model_isText_b17, t2]
    unfold ct
    rw [if_pos t1, ile_p (by omega), decide_eq_true elr]
    rfl
  | succ m ih =>
    intro k f e hf hx
    obtain ⟨f, rfl⟩ : ∃ f', f = f' + 1 := ⟨f - 1, by omega⟩
    have hk : k < l.length := by omega
    have hk2 : k < r.length := by omega
    rw [m_Model_isText_b17, t2]
    unfold ct cs
    rw [if_pos t1, ile_n (by omega), ck_n (by omega), cl_n (by omega), h8, nI_add, ck_n (by omega), cl_n (by omega), cl_n (by omega), h10 k hk, t5 k hk2, if_neg (show ¬ (nI k < 0 ∨ ((r.length : Nat) : Int) ≤ (nI k).toInt) from fun hh => hh.elim (fun q => nI_pos (by omega) q) (fun q => by rw [nI_toInt (by omega)] at q; omega))]
    have b1' := (h6 _ (List.getElem_mem hk)).2
    have b2' := t4 _ (List.getElem_mem hk2)
    rcases Classical.em (l[k] = r[k]) with c | c
    · rw [ieq_p c, ob1_s, show (1 : Int32) = nI 1 from rfl, nI_add]
      refine ih (k + 1) f (by omega) (by omega) (fun x hx2 => ?_)
      rcases Nat.eq_or_lt_of_le (Nat.le_of_lt_succ hx2) with d | d
      · subst d
        rw [List.getElem?_eq_getElem hk, List.getElem?_eq_getElem hk2, c]
      · exact hx x d
    · rw [ieq_n ⟨c, by omega, by omega⟩, decide_eq_false (fun e => c (by subst e; rfl))]
      rfl
theorem r_isText {n : Nat} {i : Nat → Int32} {j : Nat → Int64} {a : Nat → Nat → Int32} {b : Nat → Nat → Int64} {B : RB4} {w t : Nat} {l r : List Nat} (hn : 100 ≤ n) (h : rW a B w l) (ht : isTx t r) : m_Model_isText n i j a b (nI w) t = some (b1 (decide (l = r))) := by
  have h' := h
  obtain ⟨h1, h2, h3, h4, h5, h6, h7, p, h8, h9, h10⟩ := h
  obtain ⟨t1, t2, t3, t4, t5⟩ := id ht
  unfold m_Model_isText ct
  rw [if_pos t1, ck_n (by omega), cl_n (by omega), h7, t2]
  rcases Classical.em (l.length = r.length) with c | c
  · rw [ieq_p c, show (0 : Int32) = nI 0 from rfl]
    exact r_isText_b h' ht c l.length 0 n (by omega) (by omega) (fun x hx => absurd hx (Nat.not_lt_zero x))
  · rw [ieq_n ⟨c, by omega, by omega⟩, decide_eq_false (fun e => c (by rw [e]))]
    rfl

theorem r_num_v1_b {n : Nat} {j : Nat → Int64} {a : Nat → Nat → Int32} {b : Nat → Nat → Int64} {i : Nat → Int32} {p L : Nat} {neg : Bool} (hL : p + L ≤ 300000) : ∀ (l : List Nat) (q f v u : Nat), q + l.length = L → l.length < f → v = min u 1000000001 → u ≤ 10000000000 → (∀ c ∈ l, c ≤ 126) → (∀ k (h : k < l.length), a 1 (p + q + k) = nI (l[k]'h)) → ∃ i', m_Model_asNumber_v1_b34 n f i j a b (nI p) (nI L) (b1 neg) (lN u) (nI q) = some (i', j, a, b, nI (numEnd neg false (aVal l v)).1) ∧ (∀ x, x ≠ 28 → i' x = i x) ∧ ((numEnd neg false (aVal l v)).1 = 1 → i' 28 = Int32.ofInt (numEnd neg false (aVal l v)).2) := by
  intro l
  induction l with
  | nil =>
    intro q f v u e hf hv hu hc hr
    obtain ⟨f, rfl⟩ : ∃ f', f = f' + 1 := ⟨f - 1, by omega⟩
    have eq : q = L := e
    rw [m_Model_asNumber_v1_b34, ile_p (by omega), aVal]
    unfold numEnd
    dsimp only
    rw [if_neg (show ¬ (false = true) from by decide)]
    rcases Nat.lt_or_ge 1000000000 u with c | c
    · rw [if_pos (show 1000000000 < v by omega), show (1000000000 : Int64) = lN 1000000000 from rfl, show (0 : Int32) = nI 0 from rfl, lcle_n (by omega)]
      exact ⟨i, rfl, fun _ _ => rfl, fun hh => absurd hh (by decide)⟩
    · rw [if_neg (show ¬ 1000000000 < v by omega), show (1000000000 : Int64) = lN 1000000000 from rfl, show (0 : Int32) = nI 0 from rfl, lcle_p (by omega)]
      have evu : v = u := by omega
      cases neg with
      | true =>
        rw [if_pos (show b1 true = (1 : Int32) from rfl), ob1_s, ob1_s, if_pos rfl]
        refine ⟨_, rfl, fun x hx => upd_ne hx, fun _ => ?_⟩
        rw [upd_at, lN_neg32, evu]
      | false =>
        rw [if_neg (show ¬ b1 false = (1 : Int32) from fun e9 => absurd ((nI_eq (a := 0) (b := 1) (by omega) (by omega)).mp e9) (by decide)), ob1_s, if_neg (by decide)]
        refine ⟨_, rfl, fun x hx => upd_ne hx, fun _ => ?_⟩
        rw [upd_at, lN_pos32, evu]
  | cons c l ih =>
    intro q f v u e hf hv hu hc hr
    obtain ⟨f, rfl⟩ : ∃ f', f = f' + 1 := ⟨f - 1, by omega⟩
    rw [List.length_cons] at e hf
    have hc0 := hc c List.mem_cons_self
    have h0 := hr 0 (by simp)
    rw [Nat.add_zero] at h0
    have h0 : a 1 (p + q) = nI c := h0
    rw [m_Model_asNumber_v1_b34, ile_n (by omega), nI_add, ck_n (by omega), ob1_s, cl_n (by omega), h0, aVal]
    simp only [i32_lit]
    rcases Nat.lt_or_ge c 48 with c1 | c1
    · rw [ilt_p (by omega), if_neg (by omega)]
      exact ⟨i, rfl, fun _ _ => rfl, fun hh => absurd hh (by show ¬ 0 = 1; decide)⟩
    rw [ilt_n (by omega)]
    rcases Nat.lt_or_ge 57 c with c2 | c2
    · rw [ile_n (by omega), if_neg (by omega)]
      exact ⟨i, rfl, fun _ _ => rfl, fun hh => absurd hh (by show ¬ 0 = 1; decide)⟩
    · rw [ile_p (by omega), if_pos ⟨c1, c2⟩]
      have em : lN u * 10 + (nI c).toInt64 - 48 = lN (10 * u + (c - 48)) := by
        rw [nI_l64 (by omega), show (10 : Int64) = lN 10 from rfl, lN_mul, lN_add, show (48 : Int64) = lN 48 from rfl]
        show Int64.ofNat _ - Int64.ofNat _ = Int64.ofNat _
        rw [← Int64.ofNat_sub _ _ (by omega)]
        congr 1
        omega
      rw [em, show (10000000000 : Int64) = lN 10000000000 from rfl, mmin2_n (by omega) (by omega), ob0_s, ob1_s, nI_add]
      exact ih (q + 1) f _ _ (by omega) (by omega) (by omega) (by omega) (fun x hx => hc x (List.mem_cons_of_mem _ hx)) (fun k hk => by
        have := hr (k + 1) (by simp; omega)
        rw [show p + q + (k + 1) = p + (q + 1) + k by omega] at this
        exact this)
theorem r_num_v1 {n : Nat} {i : Nat → Int32} {j : Nat → Int64} {a : Nat → Nat → Int32} {b : Nat → Nat → Int64} {p : Nat} {l : List Nat} (hn : l.length < n) (hl : p + l.length ≤ 300000) (hp : p < 300000) (hc : ∀ c ∈ l, c ≤ 126) (hr : ∀ k (h : k < l.length), a 1 (p + k) = nI (l[k]'h)) : ∃ i', m_Model_asNumber_v1 n i j a b (nI p) (nI l.length) = some (i', j, a, b, nI (aPar l).1) ∧ (∀ x, x ≠ 28 → i' x = i x) ∧ ((aPar l).1 = 1 → i' 28 = Int32.ofInt (aPar l).2) := by
  unfold m_Model_asNumber_v1 m_Model_asNumber_v1_b16 m_Model_asNumber_v1_b17
  simp only [i32_lit]
  have hne : ∀ (ds : List Nat), ds ≠ [] → ∀ (neg : Bool), numEnd neg false (aVal ds 0) = numEnd neg (decide (ds = [])) (aVal ds 0) := fun ds h neg => by rw [decide_eq_false h]
  cases l with
  | nil =>
    rw [List.length_nil, ile_p (by omega), ieq_p rfl]
    exact ⟨i, rfl, fun _ _ => rfl, fun hh => absurd hh (by decide)⟩
  | cons c0 l =>
    have h0 : a 1 p = nI c0 := hr 0 (by simp)
    have hc0 := hc c0 List.mem_cons_self
    rw [List.length_cons] at hl hn ⊢
    rw [ile_n (by omega), ck_n (by omega), cl_n (by omega), h0]
    rcases Classical.em (c0 = 45) with e | e
    · subst e
      rw [ieq_p rfl]
      have ea : aPar (45 :: l) = numEnd true (decide (l = [])) (aVal l 0) := by
        unfold aPar numEnd
        simp only [List.head?_cons, List.tail_cons, if_true]
        rcases Classical.em (l = []) with e9 | e9
        · simp [e9, aVal]
        · simp only [e9, if_false, decide_false]
          cases aVal l 0 <;> simp
      rw [ea]
      rcases Classical.em (l = []) with d | d
      · subst d
        rw [ieq_p (by simp), decide_eq_true rfl]
        exact ⟨i, rfl, fun _ _ => rfl, fun hh => absurd hh (by decide)⟩
      · have hpos : 1 ≤ l.length := by
          cases l with
          | nil => exact absurd rfl d
          | cons a b => simp
        rw [ieq_n (by omega), ← hne l d]
        have := r_num_v1_b (n := n) (i := i) (j := j) (a := a) (b := b) (p := p) (L := l.length + 1) (neg := true) (by omega) l 1 n 0 0 (by omega) (by omega) rfl (by omega) (fun x hx => hc x (List.mem_cons_of_mem _ hx)) (fun k hk => by
          have := hr (k + 1) (by simp; omega)
          rw [show p + 1 + k = p + (k + 1) by omega]
          exact this)
        exact this
    · rw [ieq_n ⟨e, by omega, by omega⟩, ieq_n (by omega)]
      have ea : aPar (c0 :: l) = numEnd false (decide (c0 :: l = [])) (aVal (c0 :: l) 0) := by
        unfold aPar numEnd
        have hh : ¬ (c0 :: l).head? = some 45 := fun e9 => e (Option.some.inj e9)
        simp only [hh, if_false]
        rw [if_neg (List.cons_ne_nil _ _), decide_eq_false (List.cons_ne_nil _ _)]
        cases aVal (c0 :: l) 0 <;> simp
      rw [ea, ← hne (c0 :: l) (List.cons_ne_nil _ _)]
      have := r_num_v1_b (n := n) (i := i) (j := j) (a := a) (b := b) (p := p) (L := l.length + 1) (neg := false) (by omega) (c0 :: l) 0 n 0 0 (by simp) (by simp; omega) rfl (by omega) hc (fun k hk => by rw [Nat.add_zero]; exact hr k hk)
      exact this

theorem r_num_v24_b {n : Nat} {j : Nat → Int64} {a : Nat → Nat → Int32} {b : Nat → Nat → Int64} {i : Nat → Int32} {p L : Nat} {neg : Bool} (hL : p + L ≤ 40000) : ∀ (l : List Nat) (q f v u : Nat), q + l.length = L → l.length < f → v = min u 1000000001 → u ≤ 10000000000 → (∀ c ∈ l, c ≤ 126) → (∀ k (h : k < l.length), a 24 (p + q + k) = nI (l[k]'h)) → ∃ i', m_Model_asNumber_v24_b34 n f i j a b (nI p) (nI L) (b1 neg) (lN u) (nI q) = some (i', j, a, b, nI (numEnd neg false (aVal l v)).1) ∧ (∀ x, x ≠ 28 → i' x = i x) ∧ ((numEnd neg false (aVal l v)).1 = 1 → i' 28 = Int32.ofInt (numEnd neg false (aVal l v)).2) := by
  intro l
  induction l with
  | nil =>
    intro q f v u e hf hv hu hc hr
    obtain ⟨f, rfl⟩ : ∃ f', f = f' + 1 := ⟨f - 1, by omega⟩
    have eq : q = L := e
    rw [m_Model_asNumber_v24_b34, ile_p (by omega), aVal]
    unfold numEnd
    dsimp only
    rw [if_neg (show ¬ (false = true) from by decide)]
    rcases Nat.lt_or_ge 1000000000 u with c | c
    · rw [if_pos (show 1000000000 < v by omega), show (1000000000 : Int64) = lN 1000000000 from rfl, show (0 : Int32) = nI 0 from rfl, lcle_n (by omega)]
      exact ⟨i, rfl, fun _ _ => rfl, fun hh => absurd hh (by decide)⟩
    · rw [if_neg (show ¬ 1000000000 < v by omega), show (1000000000 : Int64) = lN 1000000000 from rfl, show (0 : Int32) = nI 0 from rfl, lcle_p (by omega)]
      have evu : v = u := by omega
      cases neg with
      | true =>
        rw [if_pos (show b1 true = (1 : Int32) from rfl), ob1_s, ob1_s, if_pos rfl]
        refine ⟨_, rfl, fun x hx => upd_ne hx, fun _ => ?_⟩
        rw [upd_at, lN_neg32, evu]
      | false =>
        rw [if_neg (show ¬ b1 false = (1 : Int32) from fun e9 => absurd ((nI_eq (a := 0) (b := 1) (by omega) (by omega)).mp e9) (by decide)), ob1_s, if_neg (by decide)]
        refine ⟨_, rfl, fun x hx => upd_ne hx, fun _ => ?_⟩
        rw [upd_at, lN_pos32, evu]
  | cons c l ih =>
    intro q f v u e hf hv hu hc hr
    obtain ⟨f, rfl⟩ : ∃ f', f = f' + 1 := ⟨f - 1, by omega⟩
    rw [List.length_cons] at e hf
    have hc0 := hc c List.mem_cons_self
    have h0 := hr 0 (by simp)
    rw [Nat.add_zero] at h0
    have h0 : a 24 (p + q) = nI c := h0
    rw [m_Model_asNumber_v24_b34, ile_n (by omega), nI_add, ck_n (by omega), ob1_s, cl_n (by omega), h0, aVal]
    simp only [i32_lit]
    rcases Nat.lt_or_ge c 48 with c1 | c1
    · rw [ilt_p (by omega), if_neg (by omega)]
      exact ⟨i, rfl, fun _ _ => rfl, fun hh => absurd hh (by show ¬ 0 = 1; decide)⟩
    rw [ilt_n (by omega)]
    rcases Nat.lt_or_ge 57 c with c2 | c2
    · rw [ile_n (by omega), if_neg (by omega)]
      exact ⟨i, rfl, fun _ _ => rfl, fun hh => absurd hh (by show ¬ 0 = 1; decide)⟩
    · rw [ile_p (by omega), if_pos ⟨c1, c2⟩]
      have em : lN u * 10 + (nI c).toInt64 - 48 = lN (10 * u + (c - 48)) := by
        rw [nI_l64 (by omega), show (10 : Int64) = lN 10 from rfl, lN_mul, lN_add, show (48 : Int64) = lN 48 from rfl]
        show Int64.ofNat _ - Int64.ofNat _ = Int64.ofNat _
        rw [← Int64.ofNat_sub _ _ (by omega)]
        congr 1
        omega
      rw [em, show (10000000000 : Int64) = lN 10000000000 from rfl, mmin2_n (by omega) (by omega), ob0_s, ob1_s, nI_add]
      exact ih (q + 1) f _ _ (by omega) (by omega) (by omega) (by omega) (fun x hx => hc x (List.mem_cons_of_mem _ hx)) (fun k hk => by
        have := hr (k + 1) (by simp; omega)
        rw [show p + q + (k + 1) = p + (q + 1) + k by omega] at this
        exact this)
theorem r_num_v24 {n : Nat} {i : Nat → Int32} {j : Nat → Int64} {a : Nat → Nat → Int32} {b : Nat → Nat → Int64} {p : Nat} {l : List Nat} (hn : l.length < n) (hl : p + l.length ≤ 40000) (hp : p < 40000) (hc : ∀ c ∈ l, c ≤ 126) (hr : ∀ k (h : k < l.length), a 24 (p + k) = nI (l[k]'h)) : ∃ i', m_Model_asNumber_v24 n i j a b (nI p) (nI l.length) = some (i', j, a, b, nI (aPar l).1) ∧ (∀ x, x ≠ 28 → i' x = i x) ∧ ((aPar l).1 = 1 → i' 28 = Int32.ofInt (aPar l).2) := by
  unfold m_Model_asNumber_v24 m_Model_asNumber_v24_b16 m_Model_asNumber_v24_b17
  simp only [i32_lit]
  have hne : ∀ (ds : List Nat), ds ≠ [] → ∀ (neg : Bool), numEnd neg false (aVal ds 0) = numEnd neg (decide (ds = [])) (aVal ds 0) := fun ds h neg => by rw [decide_eq_false h]
  cases l with
  | nil =>
    rw [List.length_nil, ile_p (by omega), ieq_p rfl]
    exact ⟨i, rfl, fun _ _ => rfl, fun hh => absurd hh (by decide)⟩
  | cons c0 l =>
    have h0 : a 24 p = nI c0 := hr 0 (by simp)
    have hc0 := hc c0 List.mem_cons_self
    rw [List.length_cons] at hl hn ⊢
    rw [ile_n (by omega), ck_n (by omega), cl_n (by omega), h0]
    rcases Classical.em (c0 = 45) with e | e
    · subst e
      rw [ieq_p rfl]
      have ea : aPar (45 :: l) = numEnd true (decide (l = [])) (aVal l 0) := by
        unfold aPar numEnd
        simp only [List.head?_cons, List.tail_cons, if_true]
        rcases Classical.em (l = []) with e9 | e9
        · simp [e9, aVal]
        · simp only [e9, if_false, decide_false]
          cases aVal l 0 <;> simp
      rw [ea]
      rcases Classical.em (l = []) with d | d
      · subst d
        rw [ieq_p (by simp), decide_eq_true rfl]
        exact ⟨i, rfl, fun _ _ => rfl, fun hh => absurd hh (by decide)⟩
      · have hpos : 1 ≤ l.length := by
          cases l with
          | nil => exact absurd rfl d
          | cons a b => simp
        rw [ieq_n (by omega), ← hne l d]
        have := r_num_v24_b (n := n) (i := i) (j := j) (a := a) (b := b) (p := p) (L := l.length + 1) (neg := true) (by omega) l 1 n 0 0 (by omega) (by omega) rfl (by omega) (fun x hx => hc x (List.mem_cons_of_mem _ hx)) (fun k hk => by
          have := hr (k + 1) (by simp; omega)
          rw [show p + 1 + k = p + (k + 1) by omega]
          exact this)
        exact this
    · rw [ieq_n ⟨e, by omega, by omega⟩, ieq_n (by omega)]
      have ea : aPar (c0 :: l) = numEnd false (decide (c0 :: l = [])) (aVal (c0 :: l) 0) := by
        unfold aPar numEnd
        have hh : ¬ (c0 :: l).head? = some 45 := fun e9 => e (Option.some.inj e9)
        simp only [hh, if_false]
        rw [if_neg (List.cons_ne_nil _ _), decide_eq_false (List.cons_ne_nil _ _)]
        cases aVal (c0 :: l) 0 <;> simp
      rw [ea, ← hne (c0 :: l) (List.cons_ne_nil _ _)]
      have := r_num_v24_b (n := n) (i := i) (j := j) (a := a) (b := b) (p := p) (L := l.length + 1) (neg := false) (by omega) (c0 :: l) 0 n 0 0 (by simp) (by simp; omega) rfl (by omega) hc (fun k hk => by rw [Nat.add_zero]; exact hr k hk)
      exact this

theorem r_num_v73_b {n : Nat} {j : Nat → Int64} {a : Nat → Nat → Int32} {b : Nat → Nat → Int64} {i : Nat → Int32} {p L : Nat} {neg : Bool} (hL : p + L ≤ 4000) : ∀ (l : List Nat) (q f v u : Nat), q + l.length = L → l.length < f → v = min u 1000000001 → u ≤ 10000000000 → (∀ c ∈ l, c ≤ 126) → (∀ k (h : k < l.length), a 73 (p + q + k) = nI (l[k]'h)) → ∃ i', m_Model_asNumber_v73_b34 n f i j a b (nI p) (nI L) (b1 neg) (lN u) (nI q) = some (i', j, a, b, nI (numEnd neg false (aVal l v)).1) ∧ (∀ x, x ≠ 28 → i' x = i x) ∧ ((numEnd neg false (aVal l v)).1 = 1 → i' 28 = Int32.ofInt (numEnd neg false (aVal l v)).2) := by
  intro l
  induction l with
  | nil =>
    intro q f v u e hf hv hu hc hr
    obtain ⟨f, rfl⟩ : ∃ f', f = f' + 1 := ⟨f - 1, by omega⟩
    have eq : q = L := e
    rw [m_Model_asNumber_v73_b34, ile_p (by omega), aVal]
    unfold numEnd
    dsimp only
    rw [if_neg (show ¬ (false = true) from by decide)]
    rcases Nat.lt_or_ge 1000000000 u with c | c
    · rw [if_pos (show 1000000000 < v by omega), show (1000000000 : Int64) = lN 1000000000 from rfl, show (0 : Int32) = nI 0 from rfl, lcle_n (by omega)]
      exact ⟨i, rfl, fun _ _ => rfl, fun hh => absurd hh (by decide)⟩
    · rw [if_neg (show ¬ 1000000000 < v by omega), show (1000000000 : Int64) = lN 1000000000 from rfl, show (0 : Int32) = nI 0 from rfl, lcle_p (by omega)]
      have evu : v = u := by omega
      cases neg with
      | true =>
        rw [if_pos (show b1 true = (1 : Int32) from rfl), ob1_s, ob1_s, if_pos rfl]
        refine ⟨_, rfl, fun x hx => upd_ne hx, fun _ => ?_⟩
        rw [upd_at, lN_neg32, evu]
      | false =>
        rw [if_neg (show ¬ b1 false = (1 : Int32) from fun e9 => absurd ((nI_eq (a := 0) (b := 1) (by omega) (by omega)).mp e9) (by decide)), ob1_s, if_neg (by decide)]
        refine ⟨_, rfl, fun x hx => upd_ne hx, fun _ => ?_⟩
        rw [upd_at, lN_pos32, evu]
  | cons c l ih =>
    intro q f v u e hf hv hu hc hr
    obtain ⟨f, rfl⟩ : ∃ f', f = f' + 1 := ⟨f - 1, by omega⟩
    rw [List.length_cons] at e hf
    have hc0 := hc c List.mem_cons_self
    have h0 := hr 0 (by simp)
    rw [Nat.add_zero] at h0
    have h0 : a 73 (p + q) = nI c := h0
    rw [m_Model_asNumber_v73_b34, ile_n (by omega), nI_add, ck_n (by omega), ob1_s, cl_n (by omega), h0, aVal]
    simp only [i32_lit]
    rcases Nat.lt_or_ge c 48 with c1 | c1
    · rw [ilt_p (by omega), if_neg (by omega)]
      exact ⟨i, rfl, fun _ _ => rfl, fun hh => absurd hh (by show ¬ 0 = 1; decide)⟩
    rw [ilt_n (by omega)]
    rcases Nat.lt_or_ge 57 c with c2 | c2
    · rw [ile_n (by omega), if_neg (by omega)]
      exact ⟨i, rfl, fun _ _ => rfl, fun hh => absurd hh (by show ¬ 0 = 1; decide)⟩
    · rw [ile_p (by omega), if_pos ⟨c1, c2⟩]
      have em : lN u * 10 + (nI c).toInt64 - 48 = lN (10 * u + (c - 48)) := by
        rw [nI_l64 (by omega), show (10 : Int64) = lN 10 from rfl, lN_mul, lN_add, show (48 : Int64) = lN 48 from rfl]
        show Int64.ofNat _ - Int64.ofNat _ = Int64.ofNat _
        rw [← Int64.ofNat_sub _ _ (by omega)]
        congr 1
        omega
      rw [em, show (10000000000 : Int64) = lN 10000000000 from rfl, mmin2_n (by omega) (by omega), ob0_s, ob1_s, nI_add]
      exact ih (q + 1) f _ _ (by omega) (by omega) (by omega) (by omega) (fun x hx => hc x (List.mem_cons_of_mem _ hx)) (fun k hk => by
        have := hr (k + 1) (by simp; omega)
        rw [show p + q + (k + 1) = p + (q + 1) + k by omega] at this
        exact this)
theorem r_num_v73 {n : Nat} {i : Nat → Int32} {j : Nat → Int64} {a : Nat → Nat → Int32} {b : Nat → Nat → Int64} {p : Nat} {l : List Nat} (hn : l.length < n) (hl : p + l.length ≤ 4000) (hp : p < 4000) (hc : ∀ c ∈ l, c ≤ 126) (hr : ∀ k (h : k < l.length), a 73 (p + k) = nI (l[k]'h)) : ∃ i', m_Model_asNumber_v73 n i j a b (nI p) (nI l.length) = some (i', j, a, b, nI (aPar l).1) ∧ (∀ x, x ≠ 28 → i' x = i x) ∧ ((aPar l).1 = 1 → i' 28 = Int32.ofInt (aPar l).2) := by
  unfold m_Model_asNumber_v73 m_Model_asNumber_v73_b16 m_Model_asNumber_v73_b17
  simp only [i32_lit]
  have hne : ∀ (ds : List Nat), ds ≠ [] → ∀ (neg : Bool), numEnd neg false (aVal ds 0) = numEnd neg (decide (ds = [])) (aVal ds 0) := fun ds h neg => by rw [decide_eq_false h]
  cases l with
  | nil =>
    rw [List.length_nil, ile_p (by omega), ieq_p rfl]
    exact ⟨i, rfl, fun _ _ => rfl, fun hh => absurd hh (by decide)⟩
  | cons c0 l =>
    have h0 : a 73 p = nI c0 := hr 0 (by simp)
    have hc0 := hc c0 List.mem_cons_self
    rw [List.length_cons] at hl hn ⊢
    rw [ile_n (by omega), ck_n (by omega), cl_n (by omega), h0]
    rcases Classical.em (c0 = 45) with e | e
    · subst e
      rw [ieq_p rfl]
      have ea : aPar (45 :: l) = numEnd true (decide (l = [])) (aVal l 0) := by
        unfold aPar numEnd
        simp only [List.head?_cons, List.tail_cons, if_true]
        rcases Classical.em (l = []) with e9 | e9
        · simp [e9, aVal]
        · simp only [e9, if_false, decide_false]
          cases aVal l 0 <;> simp
      rw [ea]
      rcases Classical.em (l = []) with d | d
      · subst d
        rw [ieq_p (by simp), decide_eq_true rfl]
        exact ⟨i, rfl, fun _ _ => rfl, fun hh => absurd hh (by decide)⟩
      · have hpos : 1 ≤ l.length := by
          cases l with
          | nil => exact absurd rfl d
          | cons a b => simp
        rw [ieq_n (by omega), ← hne l d]
        have := r_num_v73_b (n := n) (i := i) (j := j) (a := a) (b := b) (p := p) (L := l.length + 1) (neg := true) (by omega) l 1 n 0 0 (by omega) (by omega) rfl (by omega) (fun x hx => hc x (List.mem_cons_of_mem _ hx)) (fun k hk => by
          have := hr (k + 1) (by simp; omega)
          rw [show p + 1 + k = p + (k + 1) by omega]
          exact this)
        exact this
    · rw [ieq_n ⟨e, by omega, by omega⟩, ieq_n (by omega)]
      have ea : aPar (c0 :: l) = numEnd false (decide (c0 :: l = [])) (aVal (c0 :: l) 0) := by
        unfold aPar numEnd
        have hh : ¬ (c0 :: l).head? = some 45 := fun e9 => e (Option.some.inj e9)
        simp only [hh, if_false]
        rw [if_neg (List.cons_ne_nil _ _), decide_eq_false (List.cons_ne_nil _ _)]
        cases aVal (c0 :: l) 0 <;> simp
      rw [ea, ← hne (c0 :: l) (List.cons_ne_nil _ _)]
      have := r_num_v73_b (n := n) (i := i) (j := j) (a := a) (b := b) (p := p) (L := l.length + 1) (neg := false) (by omega) (c0 :: l) 0 n 0 0 (by simp) (by simp; omega) rfl (by omega) hc (fun k hk => by rw [Nat.add_zero]; exact hr k hk)
      exact this

