/-! the words of the language in the reference -/
def flW : List (List Nat) → List Nat
  | [] => []
  | w :: ws => w ++ (32 :: flW ws)
def pW : List (List Nat) := aWords.take 56 ++ (aWords.drop 59).take 15 ++ (aWords.drop 56).take 3
/-- from a number of the reference to the code of the language -/
def pCode (k : Nat) : Nat := if k < 56 then k + 1 else if k < 71 then k + 4 else k - 14
theorem cs_n {δ : Type} {k N : Nat} {e : Option δ} (h : k < N ∧ N < 2147483648) : cs (nI k) N e = e := by
  unfold cs
  rw [if_neg (show ¬ (nI k < 0 ∨ ((N : Nat) : Int) ≤ (nI k).toInt) from fun hh => hh.elim (fun q => nI_pos (by omega) q) (fun q => by rw [nI_toInt (by omega)] at q; omega))]
set_option maxRecDepth 100000 in
theorem tx15 : ∀ k, k < 428 → tw_bt 15 k &&& 255 = nI ((32 :: flW pW).getD k 0) := by decide +kernel
set_option maxRecDepth 100000 in
theorem tx15_len : (32 :: flW pW).length = 428 ∧ tw_len.getD 15 0 = 428 := by decide +kernel
set_option maxRecDepth 100000 in
theorem pW_ok : ∀ w ∈ pW, (∀ c ∈ w, 32 < c ∧ c ≤ 126) ∧ w.length ≤ 30 := by decide +kernel
set_option maxRecDepth 100000 in
theorem pW_nd : pW.Nodup ∧ pW.length = 74 := by decide +kernel
/-- here begins this word -/
def rAt (p : Nat) (l : List Nat) : Prop := p + l.length = 428 ∧ ∀ k (h : k < l.length), tw_bt 15 (p + k) &&& 255 = nI (l[k]'h)
theorem rAt_tail {p : Nat} {c : List Nat} {l : List Nat} (h : rAt p (c ++ l)) : rAt (p + c.length) l := by
  obtain ⟨h1, h2⟩ := h
  rw [List.length_append] at h1
  refine ⟨by omega, fun k hk => ?_⟩
  have := h2 (c.length + k) (by rw [List.length_append]; omega)
  rw [List.getElem_append_right (by omega)] at this
  rw [Nat.add_assoc, this]
  congr 2
  omega
theorem rAt_0 : rAt 1 (flW pW) := by
  have h := tx15_len.1
  have hb : rAt 0 (32 :: flW pW) := ⟨by omega, fun k hk => by
    have := tx15 k (by omega)
    rw [List.getD_eq_getElem?_getD, List.getElem?_eq_getElem hk] at this
    rw [Nat.zero_add]
    exact this⟩
  exact rAt_tail (c := [32]) hb
theorem r_prim_cmp {n : Nat} {rc : (Nat → Int32) → (Nat → Int64) → (Nat → Nat → Int32) → (Nat → Nat → Int64) → Int32 → Int32 → Int32 → Option ((Nat → Int32) × (Nat → Int64) × (Nat → Nat → Int32) × (Nat → Nat → Int64) × Int32)} {i : Nat → Int32} {j : Nat → Int64} {a : Nat → Nat → Int32} {b : Nat → Nat → Int64} {B : RB4} {x p : Nat} {l w0 : List Nat} {v2 v4 : Int32} (hw : rW a B x l) (hl : l.length = w0.length) (hp : p + w0.length ≤ 427) (hb : ∀ k (h : k < w0.length), tw_bt 15 (p + k) &&& 255 = nI (w0[k]'h)) (h0 : ∀ c ∈ w0, 32 < c ∧ c ≤ 126) : ∀ (m y f : Nat), l.length = y + m → m + 1 < f → (∀ z, z < y → l[z]? = w0[z]?) → m_Model_primitive_b75 n rc f i j a b (nI x) v2 (nI p) v4 (nI 1) (nI y) = m_Model_primitive_b131 n rc i j a b (nI x) v2 v4 (b1 (decide (l = w0))) := by
  obtain ⟨h1, h2, h3, h4, h5, h6, h7, p', h8, h9, h10⟩ := hw
  intro m
  induction m with
  | zero =>
    intro y f e hf hx
    obtain ⟨f, rfl⟩ : ∃ f', f = f' + 1 := ⟨f - 1, by omega⟩
    have elr : l = w0 := by
      apply List.ext_getElem?
      intro z
      rcases Nat.lt_or_ge z y with c | c
      · exact hx z c
      · rw [List.getElem?_eq_none (by omega), List.getElem?_eq_none (by omega)]
    rw [m_Model_primitive_b75, if_neg (show ¬ nI 1 = (0 : Int32) by decide), ck_n (by omega), cl_n (by omega), h7, ile_p (by omega), decide_eq_true elr]
    rfl
  | succ m ih =>
    intro y f e hf hx
    obtain ⟨f, rfl⟩ : ∃ f', f = f' + 1 := ⟨f - 1, by omega⟩
    have hk : y < l.length := by omega
    have hk2 : y < w0.length := by omega
    rw [m_Model_primitive_b75, if_neg (show ¬ nI 1 = (0 : Int32) by decide), ck_n (by omega), cl_n (by omega), h7, ile_n (by omega), ck_n (by omega), h8, nI_add, ck_n (by omega), cl_n (by omega), nI_add, tx15_len.2, cs_n (by omega), cl_n (by omega), h10 y hk, hb y hk2]
    have b1' := (h6 _ (List.getElem_mem hk)).2
    have b2' := (h0 _ (List.getElem_mem hk2)).2
    rcases Classical.em (l[y] = w0[y]) with c | c
    · rw [ieq_p c]
      unfold m_Model_primitive_b123
      rw [ob1_s, show (1 : Int32) = nI 1 from rfl, nI_add]
      refine ih (y + 1) f (by omega) (by omega) (fun z hx2 => ?_)
      rcases Nat.eq_or_lt_of_le (Nat.le_of_lt_succ hx2) with d | d
      · subst d
        rw [List.getElem?_eq_getElem hk, List.getElem?_eq_getElem hk2, c]
      · exact hx z d
    · rw [ieq_n ⟨c, by omega, by omega⟩, decide_eq_false (fun e => c (by subst e; rfl))]
      unfold m_Model_primitive_b123
      obtain ⟨f, rfl⟩ : ∃ f', f = f' + 1 := ⟨f - 1, by omega⟩
      rw [ob1_s, m_Model_primitive_b75, if_pos rfl]
      rfl
/-- one word of the text, scanned and compared -/
theorem r_prim_scan {n : Nat} {rc : (Nat → Int32) → (Nat → Int64) → (Nat → Nat → Int32) → (Nat → Nat → Int64) → Int32 → Int32 → Int32 → Option ((Nat → Int32) × (Nat → Int64) × (Nat → Nat → Int32) × (Nat → Nat → Int64) × Int32)} {i : Nat → Int32} {j : Nat → Int64} {a : Nat → Nat → Int32} {b : Nat → Nat → Int64} {B : RB4} {x p : Nat} {l w0 r : List Nat} {v2 : Int32} (hn : 100 ≤ n) (hw : rW a B x l) (hat : rAt p (w0 ++ (32 :: r))) (h0 : (∀ c ∈ w0, 32 < c ∧ c ≤ 126) ∧ w0.length ≤ 30) : ∀ (m y f : Nat), w0.length = y + m → m < f → m_Model_primitive_b33 n rc f i j a b (nI x) v2 (nI p) (nI (p + y)) = m_Model_primitive_b131 n rc i j a b (nI x) v2 (nI (p + w0.length)) (b1 (decide (l = w0))) := by
  obtain ⟨hat1, hat2⟩ := hat
  rw [List.length_append, List.length_cons] at hat1
  have hb : ∀ k (h : k < w0.length), tw_bt 15 (p + k) &&& 255 = nI (w0[k]'h) := fun k h => by
    rw [hat2 k (by rw [List.length_append]; omega), List.getElem_append_left h]
  have hbl : tw_bt 15 (p + w0.length) &&& 255 = nI 32 := by
    rw [hat2 w0.length (by rw [List.length_append, List.length_cons]; omega), List.getElem_append_right (Nat.le_refl _)]
    congr 1
    simp
  have hx : x < 120000 := by have := hw.1; have := hw.2.1; omega
  have h7 := hw.2.2.2.2.2.2.1
  have h5 := hw.2.2.2.2.1
  intro m
  induction m with
  | zero =>
    intro y f e hf
    obtain ⟨f, rfl⟩ : ∃ f', f = f' + 1 := ⟨f - 1, by omega⟩
    have ey : y = w0.length := by omega
    subst ey
    rw [m_Model_primitive_b33, tx15_len.2, cs_n (by omega), cl_n (by omega), hbl, if_pos (show nI 32 = (32 : Int32) from rfl), ck_n (by omega), cl_n (by omega), h7, sub_n (by omega), show p + w0.length - p = w0.length by omega]
    unfold m_Model_primitive_b70
    rcases Classical.em (w0.length = l.length) with c | c
    · rw [ieq_p c, show (0 : Int32) = nI 0 from rfl, show (1 : Int32) = nI 1 from rfl]
      exact r_prim_cmp hw c.symm (by omega) hb h0.1 l.length 0 n (by omega) (by omega) (fun z hz => absurd hz (Nat.not_lt_zero z))
    · obtain ⟨n', rfl⟩ : ∃ n', n = n' + 1 := ⟨n - 1, by omega⟩
      rw [ieq_n ⟨c, by omega, by omega⟩, m_Model_primitive_b75, if_pos rfl, decide_eq_false (fun e => c (by rw [e]))]
      rfl
  | succ m ih =>
    intro y f e hf
    obtain ⟨f, rfl⟩ : ∃ f', f = f' + 1 := ⟨f - 1, by omega⟩
    have hy : y < w0.length := by omega
    have hc := h0.1 _ (List.getElem_mem hy)
    rw [m_Model_primitive_b33, tx15_len.2, cs_n (by omega), cl_n (by omega), hb y hy, show (32 : Int32) = nI 32 from rfl, ieq_n ⟨by omega, by omega, by omega⟩, ob1_s, show (1 : Int32) = nI 1 from rfl, nI_add, Nat.add_assoc]
    exact ih (y + 1) f (by omega) (by omega)
theorem sv_self {a : Nat → Nat → Int32} {k q : Nat} : sv a k q (a k q) = a := by
  funext r
  unfold sv updA
  rcases Classical.em (r = k) with c | c
  · rw [if_pos c, c]
    funext z
    unfold upd
    split
    · rename_i hz; rw [hz]
    · rfl
  · rw [if_neg c]
theorem rW_7 {a : Nat → Nat → Int32} {B : RB4} {x y : Nat} {v : Int32} {l : List Nat} (h : rW a B x l) : rW (sv a 7 y v) B x l := h
theorem r_prim_b {n : Nat} {i : Nat → Int32} {j : Nat → Int64} {b : Nat → Nat → Int64} {B : RB4} {x : Nat} {l : List Nat} (hn : 1000 ≤ n) : ∀ (ws : List (List Nat)) (k p f : Nat) (a : Nat → Nat → Int32), (∀ w ∈ ws, (∀ c ∈ w, 32 < c ∧ c ≤ 126) ∧ w.length ≤ 30) → ws.Nodup → rAt p (flW ws) → ws.length < f → k + ws.length ≤ 1000 → rW a B x l → m_Model_primitive_b20 n f i j a b (nI x) (nI k) (nI p) = m_Model_primitive_b165 n i j (if l ∈ ws then sv a 7 x (nI (aIx l ws k + 2)) else a) b (nI x) := by
  intro ws
  induction ws with
  | nil =>
    intro k p f a h1 h2 h3 h4 h5 hw
    obtain ⟨f, rfl⟩ : ∃ f', f = f' + 1 := ⟨f - 1, by simp at h4; omega⟩
    have := h3.1
    rw [show (flW []).length = 0 from rfl] at this
    rw [m_Model_primitive_b20, tx15_len.2, ile_p (by omega), if_neg List.not_mem_nil]
  | cons w ws ih =>
    intro k p f a h1 h2 h3 h4 h5 hw
    rw [List.length_cons] at h4 h5
    obtain ⟨f, rfl⟩ : ∃ f', f = f' + 1 := ⟨f - 1, by omega⟩
    have hp : p + (w.length + ((flW ws).length + 1)) = 428 := by
      have := h3.1
      rw [show flW (w :: ws) = w ++ (32 :: flW ws) from rfl, List.length_append, List.length_cons] at this
      exact this
    have h3' : rAt p (w ++ (32 :: flW ws)) := h3
    have ht : rAt (p + w.length + 1) (flW ws) := rAt_tail (c := [32]) (rAt_tail h3')
    have hx : x < 120000 := by have := hw.1; have := hw.2.1; omega
    have h0 := h1 w List.mem_cons_self
    have hs := r_prim_scan (n := n) (rc := m_Model_primitive_b20 n f) (i := i) (j := j) (b := b) (v2 := nI k) (by omega) hw h3' h0 w.length 0 n (by omega) (by omega)
    rw [Nat.add_zero] at hs
    rw [List.nodup_cons] at h2
    rw [m_Model_primitive_b20, tx15_len.2, ile_n (by omega), hs]
    unfold m_Model_primitive_b131
    rcases Classical.em (l = w) with c | c
    · have hni : l ∉ ws := by rw [c]; exact h2.1
      rw [decide_eq_true c, b1_t, if_neg (show ¬ nI 1 = (0 : Int32) by decide)]
      unfold m_Model_primitive_b153
      rw [ck_n (by omega), ob1_s, ob1_s, ob1_s, cl_n (by omega), show (1 : Int32) = nI 1 from rfl, nI_add, nI_add, show nI k + 2 = nI (k + 2) from nI_add k 2, ih (k + 1) _ f _ (fun w hw => h1 w (List.mem_cons_of_mem _ hw)) h2.2 ht (by omega) (by omega) (rW_7 hw), if_neg hni, if_pos (by rw [c]; exact List.mem_cons_self)]
      rw [show aIx l (w :: ws) k = if w = l then k else aIx l ws (k + 1) from rfl, if_pos c.symm]
    · rw [decide_eq_false c, b1_f, if_pos (show nI 0 = (0 : Int32) from rfl), ck_n (by omega)]
      unfold m_Model_primitive_b153
      rw [ck_n (by omega), ob1_s, ob1_s, ob1_s, cl_n (by omega), show (1 : Int32) = nI 1 from rfl, nI_add, nI_add, sv_self, ih (k + 1) _ f _ (fun w hw => h1 w (List.mem_cons_of_mem _ hw)) h2.2 ht (by omega) (by omega) hw]
      rw [show aIx l (w :: ws) k = if w = l then k else aIx l ws (k + 1) from rfl, if_neg (show ¬ w = l from fun e => c e.symm)]
      rcases Classical.em (l ∈ ws) with d | d
      · rw [if_pos d, if_pos (List.mem_cons_of_mem _ d)]
      · rw [if_neg d, if_neg (fun e => (List.mem_cons.mp e).elim c d)]
/-- what the reference knows of a word: nothing yet, or what it is -/
def rPm (a : Nat → Nat → Int32) (x : Nat) (l : List Nat) : Prop := a 7 x = 0 ∨ a 7 x = (if l ∈ pW then nI (aIx l pW 0 + 2) else 1)
theorem aIx_rg (l : List Nat) : ∀ (ws : List (List Nat)) (k : Nat), l ∈ ws → k ≤ aIx l ws k ∧ aIx l ws k < k + ws.length := by
  intro ws
  induction ws with
  | nil => intro k h; exact absurd h List.not_mem_nil
  | cons w ws ih =>
    intro k h
    rw [show aIx l (w :: ws) k = if w = l then k else aIx l ws (k + 1) from rfl, List.length_cons]
    rcases Classical.em (w = l) with c | c
    · rw [if_pos c]; omega
    · rw [if_neg c]
      have := ih (k + 1) ((List.mem_cons.mp h).elim (fun e => absurd e.symm c) id)
      omega
theorem r_primitive {n : Nat} {i : Nat → Int32} {j : Nat → Int64} {a : Nat → Nat → Int32} {b : Nat → Nat → Int64} {B : RB4} {x : Nat} {l : List Nat} (hn : 1000 ≤ n) (hw : rW a B x l) (h7 : rPm a x l) : ∃ a', m_Model_primitive n i j a b (nI x) = some (i, j, a', b, if l ∈ pW then nI (aIx l pW 0) else -1) ∧ (∀ q, q ≠ 7 → a' q = a q) ∧ (∀ y, y ≠ x → a' 7 y = a 7 y) ∧ rPm a' x l := by
  have hx : x < 120000 := by have := hw.1; have := hw.2.1; omega
  have fin : ∀ a' : Nat → Nat → Int32, a' 7 x = (if l ∈ pW then nI (aIx l pW 0 + 2) else 1) → m_Model_primitive_b165 n i j a' b (nI x) = some (i, j, a', b, if l ∈ pW then nI (aIx l pW 0) else -1) := fun a' h => by
    unfold m_Model_primitive_b165
    rw [ck_n (by omega), cl_n (by omega), h]
    rcases Classical.em (l ∈ pW) with c | c
    · have hlt := aIx_rg l pW 0 c
      rw [pW_nd.2] at hlt
      rw [if_pos c, if_pos c, show nI (aIx l pW 0 + 2) - 2 = nI (aIx l pW 0) from by rw [show (2 : Int32) = nI 2 from rfl, sub_n (by omega), Nat.add_sub_cancel], show (0 : Int32) = nI 0 from rfl, ile_p (by omega), ck_n (by omega)]
    · rw [if_neg c, if_neg c, if_neg (by decide)]
  unfold m_Model_primitive
  rw [ck_n (by omega), cl_n (by omega)]
  rcases Classical.em (a 7 x = 0) with c | c
  · rw [if_pos c, ck_n (by omega), ob1_s]
    have hb := r_prim_b (n := n) (i := i) (j := j) (b := b) (l := l) hn pW 0 1 n (sv a 7 x 1) pW_ok pW_nd.1 rAt_0 (by rw [pW_nd.2]; omega) (by rw [pW_nd.2]; omega) (rW_7 hw)
    rw [show (0 : Int32) = nI 0 from rfl, show m_Model_primitive_b20 n n i j (sv a 7 x 1) b (nI x) (nI 0) 1 = m_Model_primitive_b20 n n i j (sv a 7 x 1) b (nI x) (nI 0) (nI 1) from rfl, hb]
    rcases Classical.em (l ∈ pW) with d | d
    · have e7 : sv (sv a 7 x 1) 7 x (nI (aIx l pW 0 + 2)) 7 x = if l ∈ pW then nI (aIx l pW 0 + 2) else 1 := by
        show upd _ x _ x = _
        rw [upd_at, if_pos d]
      have e := fin _ e7
      rw [if_pos d]
      refine ⟨_, e, fun q hq => ?_, fun y hy => ?_, Or.inr e7⟩
      · unfold sv
        rw [updA_ne hq, updA_ne hq]
      · show upd (upd (a 7) x 1) x _ y = _
        rw [upd_ne hy, upd_ne hy]
    · have e7 : sv a 7 x 1 7 x = if l ∈ pW then nI (aIx l pW 0 + 2) else 1 := by
        show upd _ x _ x = _
        rw [upd_at, if_neg d]
      have e := fin _ e7
      rw [if_neg d]
      refine ⟨_, e, fun q hq => updA_ne hq, fun y hy => ?_, Or.inr e7⟩
      show upd (a 7) x 1 y = _
      rw [upd_ne hy]
  · rw [if_neg c]
    have h7' : a 7 x = (if l ∈ pW then nI (aIx l pW 0 + 2) else 1) := h7.elim (fun e => absurd e c) id
    exact ⟨a, fin a h7', fun _ _ => rfl, fun _ _ => rfl, h7⟩
set_option maxRecDepth 100000 in
theorem pW_code : ∀ l ∈ pW, aLex l = pCode (aIx l pW 0) ∧ aIx l pW 0 < 74 := by decide +kernel
set_option maxRecDepth 100000 in
theorem pW_more : ∀ w ∈ aWords, w ∈ pW ∨ w ∈ aWords.drop 74 := by decide +kernel
theorem aIx_zero (l : List Nat) : ∀ (ws : List (List Nat)) (k : Nat), 1 ≤ k → (aIx l ws k = 0 ↔ l ∉ ws) := by
  intro ws
  induction ws with
  | nil => intro k _; exact ⟨fun _ => List.not_mem_nil, fun _ => rfl⟩
  | cons w ws ih =>
    intro k hk
    rw [show aIx l (w :: ws) k = if w = l then k else aIx l ws (k + 1) from rfl]
    rcases Classical.em (w = l) with c | c
    · rw [if_pos c]
      exact ⟨fun e => absurd e (by omega), fun e => absurd (by rw [c]; exact List.mem_cons_self) e⟩
    · rw [if_neg c, ih (k + 1) (by omega)]
      exact ⟨fun h e => (List.mem_cons.mp e).elim (fun e => c e.symm) h, fun h e => h (List.mem_cons_of_mem _ e)⟩

