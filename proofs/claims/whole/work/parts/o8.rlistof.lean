/-! tokens, and the lists that they make -/
/-- from x to y these are the members: T is the value of a token, mt where it ends, vl whether it is no bracket -/
def SEG (T : Nat → Tr) (mt : Nat → Nat) (vl : Nat → Bool) : List Tr → Nat → Nat → Prop
  | [], x, y => x = y
  | v :: ms, x, y => v = T x ∧ ((vl x = true ∧ mt x = x) ∨ (vl x = false ∧ x < mt x)) ∧ SEG T mt vl ms (mt x + 1) y
theorem SEG_le {T : Nat → Tr} {mt : Nat → Nat} {vl : Nat → Bool} : ∀ (ms : List Tr) (x y : Nat), SEG T mt vl ms x y → x + ms.length ≤ y := by
  intro ms
  induction ms with
  | nil => intro x y h; exact Nat.le_of_eq h
  | cons v ms ih =>
    intro x y h
    have := ih _ _ h.2.2
    have := h.2.1
    rw [List.length_cons]
    omega
theorem SEG_snoc {T : Nat → Tr} {mt : Nat → Nat} {vl : Nat → Bool} : ∀ (ms : List Tr) (x y : Nat), SEG T mt vl ms x y → ((vl y = true ∧ mt y = y) ∨ (vl y = false ∧ y < mt y)) → SEG T mt vl (ms ++ [T y]) x (mt y + 1) := by
  intro ms
  induction ms with
  | nil => intro x y h h2; have h : x = y := h; subst h; exact ⟨rfl, h2, rfl⟩
  | cons v ms ih => intro x y h h2; exact ⟨h.1, h.2.1, ih _ _ h.2.2 h2⟩
theorem SEG_congr {T : Nat → Tr} {mt : Nat → Nat} {vl : Nat → Bool} {T' : Nat → Tr} {mt' : Nat → Nat} {vl' : Nat → Bool} : ∀ (ms : List Tr) (x y : Nat), SEG T mt vl ms x y → (∀ q, x ≤ q → q < y → T' q = T q ∧ mt' q = mt q ∧ vl' q = vl q) → SEG T' mt' vl' ms x y := by
  intro ms
  induction ms with
  | nil => intro x y h _; exact h
  | cons v ms ih =>
    intro x y h hc
    have hle := SEG_le _ _ _ h
    rw [List.length_cons] at hle
    obtain ⟨c1, c2, c3⟩ := hc x (Nat.le_refl _) (by omega)
    refine ⟨by rw [c1]; exact h.1, by rw [c2, c3]; exact h.2.1, ?_⟩
    rw [c2]
    refine ih _ _ h.2.2 (fun q q1 q2 => hc q (by have := h.2.1; omega) q2)
/-- what each token is -/
def TOK (a : Nat → Nat → Int32) (b : Nat → Nat → Int64) (B : RB4) (T : Nat → Tr) (mt : Nat → Nat) (vl : Nat → Bool) (x : Nat) : Prop := a 79 x = nI (mt x) ∧ x ≤ mt x ∧ mt x < 601 ∧ (vl x = true → mt x = x ∧ rV a b B (T x) none (b 80 x) ∧ isL (T x) = false) ∧ (vl x = false → b 80 x = 3) ∧ (x < mt x → (vl x = false ∧ mt (mt x) = mt x) ∧ ∃ ns, T x = tL ns ∧ SEG T mt vl ns (x + 1) (mt x) ∧ tSz (T x) ≤ 5000 ∧ tNd (T x) ≤ 1200 ∧ tSl (T x) ≤ 8000)
theorem TOK_up {T : Nat → Tr} {mt : Nat → Nat} {vl : Nat → Bool} {a a' : Nat → Nat → Int32} {b b' : Nat → Nat → Int64} {B B' : RB4} {x : Nat} (h : TOK a b B T mt vl x) (hu : rUp a b B a' b' B') (h79 : a' 79 x = a 79 x) (h80 : b' 80 x = b 80 x) : TOK a' b' B' T mt vl x := by
  obtain ⟨h1, h2, h3, h4, h5, h6⟩ := h
  exact ⟨h79.trans h1, h2, h3, fun e => ⟨(h4 e).1, by rw [h80]; exact (rV_up hu _).1 _ (h4 e).2.1, (h4 e).2.2⟩, fun e => h80.trans (h5 e), h6⟩
theorem rV_ne3c {a : Nat → Nat → Int32} {b : Nat → Nat → Int64} {B : RB4} {t : Tr} {v : Int64} (h : rV a b B t none v) : ¬ lg_cmp v 3 = 0 := fun e => rO_some (a := a) (b := b) (B := B) (t := t) h e
theorem lg3 : lg_cmp (3 : Int64) 3 = 0 := by decide
theorem rUp_cell {a : Nat → Nat → Int32} {b b' : Nat → Nat → Int64} {B : RB4} {C : Nat} (hB : B.1 ≤ 120000 ∧ B.2.1 ≤ 300000 ∧ B.2.2.1 ≤ 90000 ∧ B.2.2.2 ≤ C ∧ C ≤ 90000) (h : ∀ x, x < B.2.2.2 → b' 10 x = b 10 x) : rUp a b B a b' (B.1, B.2.1, B.2.2.1, C) := ⟨⟨Nat.le_refl _, hB.1, Nat.le_refl _, hB.2.1, Nat.le_refl _, hB.2.2.1, hB.2.2.2.1, hB.2.2.2.2⟩, fun _ _ => ⟨rfl, rfl⟩, fun _ _ => rfl, fun _ _ => ⟨rfl, rfl, rfl⟩, h⟩
/-- within: the members from x to y make a list -/
theorem r_within5 {n : Nat} {j : Nat → Int64} {a : Nat → Nat → Int32} {b : Nat → Nat → Int64} {T : Nat → Tr} {mt : Nat → Nat} {vl : Nat → Bool} {B : RB4} {y : Nat} (hn : 90001 ≤ n) (hB : B.1 ≤ 120000 ∧ B.2.1 ≤ 300000 ∧ B.2.2.1 < 90000 ∧ B.2.2.2 ≤ 90000) (hy : y ≤ 600) : ∀ (ms : List Tr) (x f : Nat) (i : Nat → Int32) (b1 : Nat → Nat → Int64) (pre : List Tr), ms.length < f → SEG T mt vl ms x y → (∀ q, x ≤ q → q < y → TOK a b B T mt vl q ∧ (q < mt q → rV a b B (T q) none (b 83 q))) → i 20 = nI (B.2.2.2 + pre.length) → i 21 = nI B.2.2.1 → B.2.2.2 + pre.length + ms.length ≤ 90000 → (∀ q, q ≠ 10 → b1 q = b q) → (∀ c, c < B.2.2.2 → b1 10 c = b 10 c) → (∀ k (h : k < pre.length), rV a b B (pre[k]'h) none (b1 10 (B.2.2.2 + k))) → pre.length + ms.length ≤ 700 → tSz (tL (pre ++ ms)) ≤ 5000 ∧ tNd (tL (pre ++ ms)) ≤ 1200 ∧ tSl (tL (pre ++ ms)) ≤ 8000 →
    ∃ i' a' b', m_Model_within_b5 n f i j a b1 (nI y) (nI pre.length) (nI x) = some (i', j, a', b', vL B.2.2.1) ∧ rUp a b B a' b' (B.1, B.2.1, B.2.2.1 + 1, B.2.2.2 + pre.length + ms.length) ∧ rV a' b' (B.1, B.2.1, B.2.2.1 + 1, B.2.2.2 + pre.length + ms.length) (tL (pre ++ ms)) none (vL B.2.2.1) ∧ i' 20 = nI (B.2.2.2 + pre.length + ms.length) ∧ i' 21 = nI (B.2.2.1 + 1) ∧ (∀ q, q ≠ 20 → q ≠ 21 → i' q = i q) ∧ (∀ q, q ≠ 12 → q ≠ 13 → q ≠ 14 → a' q = a q) ∧ (∀ q, q ≠ 10 → b' q = b q) := by
  intro ms
  induction ms with
  | nil =>
    intro x f i b1 pre hf hs ht h20 h21 hC hb1 hb2 hp hl hz
    obtain ⟨f, rfl⟩ : ∃ f', f = f' + 1 := ⟨f - 1, by omega⟩
    have hs : x = y := hs
    rw [List.append_nil] at hz ⊢
    rw [List.length_nil, Nat.add_zero] at hC ⊢
    have hu : rUp a b B a b1 (B.1, B.2.1, B.2.2.1, B.2.2.2 + pre.length) := rUp_cell ⟨hB.1, hB.2.1, by omega, by omega, hC⟩ hb2
    have hp2 : ∀ k (h : k < pre.length), rV a b1 (B.1, B.2.1, B.2.2.1, B.2.2.2 + pre.length) (pre[k]'h) none (b1 10 (B.2.2.2 + pre.length - pre.length + k)) := fun k hk => by
      rw [Nat.add_sub_cancel]
      exact (rV_up hu _).1 _ (hp k hk)
    rw [m_Model_within_b5, ile_p (by omega), r_newList (B := (B.1, B.2.1, B.2.2.1, B.2.2.2 + pre.length)) hn h20 h21 hC (by omega) (by omega) hp2, om_s]
    have hv := rV_list (a := a) (b := b1) (B := (B.1, B.2.1, B.2.2.1, B.2.2.2 + pre.length)) (ms := pre) ⟨hB.1, hB.2.1, hB.2.2.1, hC⟩ (by show _ ≤ B.2.2.2 + _; omega) hz hp2
    have lo : ∀ q, q ≠ 12 → q ≠ 13 → q ≠ 14 → lsA a B.2.2.1 (B.2.2.2 + pre.length - pre.length) pre.length (tSz (tL pre)) q = a q := fun q q1 q2 q3 => by
      unfold lsA
      rw [sv_row q3, sv_row q2, sv_row q1]
    refine ⟨_, _, b1, rfl, ?_, hv, by rw [upd_ne (by decide)]; exact h20, upd_at, fun q q1 q2 => upd_ne q2, lo, hb1⟩
    refine rUp_trans hu ⟨⟨Nat.le_refl _, hB.1, Nat.le_refl _, hB.2.1, Nat.le_succ _, by show B.2.2.1 + 1 ≤ _; omega, Nat.le_refl _, hC⟩, fun q _ => ⟨by rw [lo 3 (by decide) (by decide) (by decide)], by rw [lo 4 (by decide) (by decide) (by decide)]⟩, fun q _ => by rw [lo 1 (by decide) (by decide) (by decide)], fun q hq => ?_, fun _ _ => rfl⟩
    have hq : q < B.2.2.1 := hq
    unfold lsA
    refine ⟨?_, ?_, ?_⟩
    · rw [sv_row (by decide), sv_row (by decide), sv_ne (by omega)]
    · rw [sv_row (by decide), sv_ne (by omega), sv_row (by decide)]
    · rw [sv_ne (by omega), sv_row (by decide), sv_row (by decide)]
  | cons v ms ih =>
    intro x f i b1 pre hf hs ht h20 h21 hC hb1 hb2 hp hl hz
    obtain ⟨f, rfl⟩ : ∃ f', f = f' + 1 := ⟨f - 1, by omega⟩
    rw [List.length_cons] at hf hC hl
    have hle := SEG_le _ _ _ hs
    rw [List.length_cons] at hle
    obtain ⟨s1, s2, s3⟩ := hs
    have hle2 := SEG_le _ _ _ s3
    subst s1
    obtain ⟨⟨k1, k2, k3, k4, k5, k6⟩, k7⟩ := ht x (Nat.le_refl _) (by omega)
    have step : ∀ w : Int64, rV a b B (T x) none w → ∃ i' a' b', m_Model_within_b5 n f (upd i 20 (nI (B.2.2.2 + pre.length + 1))) j a (svl b1 10 (B.2.2.2 + pre.length) w) (nI y) (nI (pre.length + 1)) (nI (mt x + 1)) = some (i', j, a', b', vL B.2.2.1) ∧ rUp a b B a' b' (B.1, B.2.1, B.2.2.1 + 1, B.2.2.2 + pre.length + (T x :: ms).length) ∧ rV a' b' (B.1, B.2.1, B.2.2.1 + 1, B.2.2.2 + pre.length + (T x :: ms).length) (tL (pre ++ T x :: ms)) none (vL B.2.2.1) ∧ i' 20 = nI (B.2.2.2 + pre.length + (T x :: ms).length) ∧ i' 21 = nI (B.2.2.1 + 1) ∧ (∀ q, q ≠ 20 → q ≠ 21 → i' q = i q) ∧ (∀ q, q ≠ 12 → q ≠ 13 → q ≠ 14 → a' q = a q) ∧ (∀ q, q ≠ 10 → b' q = b q) := by
      intro w hw
      have e1 : (pre ++ [T x]).length = pre.length + 1 := by rw [List.length_append, List.length_singleton]
      have e2 : pre ++ T x :: ms = (pre ++ [T x]) ++ ms := by rw [List.append_assoc]; rfl
      have e3 : B.2.2.2 + pre.length + (T x :: ms).length = B.2.2.2 + (pre ++ [T x]).length + ms.length := by rw [e1, List.length_cons]; omega
      obtain ⟨i', a', b', q1, q2, q3, q4, q5, q6, q7, q8⟩ := ih (mt x + 1) f (upd i 20 (nI (B.2.2.2 + pre.length + 1))) (svl b1 10 (B.2.2.2 + pre.length) w) (pre ++ [T x]) (by omega) s3 (fun q h1 h2 => ht q (by omega) h2) (by rw [upd_at, e1]; rfl) (by rw [upd_ne (by decide)]; exact h21) (by rw [e1]; omega) (fun q hq => (svl_row hq).trans (hb1 q hq)) (fun c hc => by rw [svl_ne (by omega)]; exact hb2 c hc) (fun k hk => by
        rw [e1] at hk
        rcases Nat.lt_or_ge k pre.length with c | c
        · rw [List.getElem_append_left c, svl_ne (by omega)]; exact hp k c
        · have : k = pre.length := by omega
          subst this
          rw [List.getElem_append_right (Nat.le_refl _), svl_at]
          simpa using hw) (by rw [e1]; omega) (by rw [← e2]; exact hz)
      rw [e1] at q1
      rw [e2, e3]
      exact ⟨i', a', b', q1, q2, q3, q4, q5, fun q h1 h2 => (q6 q h1 h2).trans (upd_ne h1), q7, q8⟩
    rw [m_Model_within_b5, ile_n (by omega), ck_n (by omega), cl_n (by omega), hb1 80 (by decide)]
    unfold m_Model_within_b30
    rw [ck_n (by omega), cl_n (by omega)]
    rcases s2 with ⟨v1, v2⟩ | ⟨v1, v2⟩
    · have hw := (k4 v1).2.1
      obtain ⟨i', a', b', q1, q2⟩ := step _ hw
      rw [if_neg (rV_ne3c hw), if_pos rfl, ck_n (by omega), hb1 80 (by decide)]
      unfold m_Model_within_b55
      rw [r_put h20 (by omega), om_s, ob1_s, if_pos rfl]
      unfold m_Model_within_b78
      rw [ob1_s, show nI pre.length + (1 : Int32) = nI (pre.length + 1) from nI_add _ 1, show nI x + (1 : Int32) = nI (x + 1) from nI_add _ 1]
      rw [v2] at q1
      exact ⟨i', a', b', q1, q2⟩
    · have hw := k7 v2
      obtain ⟨i', a', b', q1, q2⟩ := step _ hw
      rw [k5 v1, if_pos lg3, if_neg (by decide), hb1 83 (by decide), ck_n (by omega)]
      unfold m_Model_within_b55
      rw [r_put h20 (by omega), om_s, ob1_s, if_neg (by decide), ck_n (by omega), cl_n (by omega), k1]
      unfold m_Model_within_b78
      rw [ob1_s, show nI pre.length + (1 : Int32) = nI (pre.length + 1) from nI_add _ 1, show nI (mt x) + (1 : Int32) = nI (mt x + 1) from nI_add _ 1]
      exact ⟨i', a', b', q1, q2⟩
/-- cells that lists from x to y take -/
def US (T : Nat → Tr) (mt : Nat → Nat) : Nat → Nat → Nat
  | _, 0 => 0
  | x, n + 1 => US T mt x n + (if x + n < mt (x + n) then (tMem (T (x + n))).length else 0)
theorem US_add {T : Nat → Tr} {mt : Nat → Nat} : ∀ (x m k : Nat), US T mt x (m + k) = US T mt x m + US T mt (x + m) k := by
  intro x m k
  induction k with
  | zero => rfl
  | succ k ih => rw [← Nat.add_assoc, US, US, ih, Nat.add_assoc x m k, Nat.add_assoc]
theorem US_one {T : Nat → Tr} {mt : Nat → Nat} (x : Nat) : US T mt x 1 = (if x < mt x then (tMem (T x)).length else 0) := by
  rw [US, US, Nat.zero_add, Nat.add_zero]
theorem US_seg {a : Nat → Nat → Int32} {b : Nat → Nat → Int64} {B : RB4} {T : Nat → Tr} {mt : Nat → Nat} {vl : Nat → Bool} : ∀ (m : Nat) (ms : List Tr) (x y : Nat), y - x ≤ m → SEG T mt vl ms x y → (∀ q, x ≤ q → q < y → TOK a b B T mt vl q) → US T mt x (y - x) + ms.length = qm ms := by
  intro m
  induction m with
  | zero =>
    intro ms x y hm hs _
    have := SEG_le _ _ _ hs
    have h0 : ms.length = 0 := by omega
    have : ms = [] := List.length_eq_zero_iff.mp h0
    subst this
    rw [show y - x = 0 by omega]
    rfl
  | succ m ih =>
    intro ms x y hm hs ht
    cases ms with
    | nil => have hs : x = y := hs; subst hs; rw [Nat.sub_self]; rfl
    | cons v ms =>
      have hle := SEG_le _ _ _ hs
      rw [List.length_cons] at hle
      obtain ⟨s1, s2, s3⟩ := hs
      have hle2 := SEG_le _ _ _ s3
      subst s1
      have i1 := ih ms (mt x + 1) y (by omega) s3 (fun q h1 h2 => ht q (by omega) h2)
      obtain ⟨k1, k2, k3, k4, k5, k6⟩ := ht x (Nat.le_refl _) (by omega)
      rw [qm_c, List.length_cons]
      rw [show y - x = (mt x + 1 - x) + (y - (mt x + 1)) by omega, US_add, show x + (mt x + 1 - x) = mt x + 1 by omega]
      have hx : US T mt x (mt x + 1 - x) + 1 = tNd (T x) := by
        rcases s2 with ⟨v1, v2⟩ | ⟨v1, v2⟩
        · rw [v2, show x + 1 - x = 1 by omega, US_one, if_neg (by omega)]
          have hv := (k4 v1).2.1
          rcases rV_cases hv with ⟨z, e, _, _, _⟩ | ⟨l, w, e, _, hrw⟩ | ⟨ns, l, p, e, _⟩
          · rw [e]; rfl
          · rw [e]
            have hl : l ≠ [] := hrw.2.2.2.1
            cases l with
            | nil => exact absurd rfl hl
            | cons c l => rfl
          · have := (k4 v1).2.2; rw [e, isL_tL] at this; cases this
        · obtain ⟨⟨_, hmm⟩, ns, n1, n2, _⟩ := k6 v2
          have i2 := ih ns (x + 1) (mt x) (by omega) n2 (fun q h1 h2 => ht q (by omega) (by omega))
          rw [show mt x + 1 - x = (1 + (mt x - (x + 1))) + 1 by omega, US_add, US_add, US_one, if_pos v2, show x + (1 + (mt x - (x + 1))) = mt x by omega, US_one, if_neg (by omega), n1, tMem_tL, tNd_tL]
          have : qm ns = (ns.map tNd).sum := rfl
          omega
      omega
theorem SEG_in {a : Nat → Nat → Int32} {b : Nat → Nat → Int64} {B : RB4} {T : Nat → Tr} {mt : Nat → Nat} {vl : Nat → Bool} : ∀ (m : Nat) (ms : List Tr) (x y : Nat), y - x ≤ m → SEG T mt vl ms x y → (∀ q, x ≤ q → q < y → TOK a b B T mt vl q) → ∀ p, x ≤ p → p < y → mt p < y := by
  intro m
  induction m with
  | zero => intro ms x y hm hs _ p p1 p2; omega
  | succ m ih =>
    intro ms x y hm hs ht p p1 p2
    cases ms with
    | nil => have hs : x = y := hs; omega
    | cons v ms =>
      have hle := SEG_le _ _ _ hs
      rw [List.length_cons] at hle
      obtain ⟨s1, s2, s3⟩ := hs
      have hle2 := SEG_le _ _ _ s3
      obtain ⟨k1, k2, k3, k4, k5, k6⟩ := ht x (Nat.le_refl _) (by omega)
      rcases (by omega : p = x ∨ (x < p ∧ p < mt x) ∨ (x < p ∧ p = mt x) ∨ mt x + 1 ≤ p) with e | ⟨e1, e2⟩ | ⟨e1, e2⟩ | e
      · subst e; omega
      · obtain ⟨_, ns, n1, n2, _⟩ := k6 (by omega)
        have := ih ns (x + 1) (mt x) (by omega) n2 (fun q h1 h2 => ht q (by omega) (by omega)) p (by omega) e2
        omega
      · obtain ⟨⟨_, hmm⟩, _⟩ := k6 (by omega)
        rw [e2, hmm]; omega
      · exact ih ms (mt x + 1) y (by omega) s3 (fun q h1 h2 => ht q (by omega) h2) p e p2
theorem i32_m1 (k : Nat) : Int32.ofInt ((k : Int) - 1) + (-1 : Int32) = Int32.ofInt (((k : Int) - 1) - 1) := by
  rw [show (-1 : Int32) = Int32.ofInt (-1) from by decide, ← Int32.ofInt_add]
  rfl
theorem r_list4 {n : Nat} {j : Nat → Int64} {T : Nat → Tr} {mt : Nat → Nat} {vl : Nat → Bool} {fr to : Nat} {ms : List Tr} (hn : 90001 ≤ n) (hft : to ≤ 600) (hs : SEG T mt vl ms fr to) (hz : tSz (tL ms) ≤ 5000 ∧ tNd (tL ms) ≤ 1200 ∧ tSl (tL ms) ≤ 8000) : ∀ (m f : Nat) (i : Nat → Int32) (a : Nat → Nat → Int32) (b : Nat → Nat → Int64) (B : RB4), fr + m ≤ to → m < f → rB i B → (∀ q, fr ≤ q → q < to → TOK a b B T mt vl q) → (∀ q, fr + m ≤ q → q < to → q < mt q → rV a b B (T q) none (b 83 q)) → B.2.2.2 + US T mt fr m + ms.length ≤ 90000 → B.2.2.1 + m + 1 ≤ 90000 →
    ∃ i' a' b' B' v, m_Model_listOf_b4 n f i j a b (nI fr) (nI to) (Int32.ofInt (((fr + m : Nat) : Int) - 1)) = some (i', j, a', b', v) ∧ rUp a b B a' b' B' ∧ rB i' B' ∧ rV a' b' B' (tL ms) none v ∧ B'.1 = B.1 ∧ B'.2.1 = B.2.1 ∧ B'.2.2.1 ≤ B.2.2.1 + m + 1 ∧ B'.2.2.2 = B.2.2.2 + US T mt fr m + ms.length ∧ (∀ q, q ≠ 20 → q ≠ 21 → i' q = i q) ∧ (∀ q, q ≠ 12 → q ≠ 13 → q ≠ 14 → a' q = a q) ∧ (∀ q, q ≠ 10 → q ≠ 83 → b' q = b q) := by
  have hle := SEG_le _ _ _ hs
  intro m
  induction m with
  | zero =>
    intro f i a b B hm hf hB ht hd b1 b2
    obtain ⟨f, rfl⟩ : ∃ f', f = f' + 1 := ⟨f - 1, by omega⟩
    obtain ⟨c1, c2, c3, c4, c5, c6, c7, c8⟩ := hB
    have hu0 : US T mt fr 0 = 0 := rfl
    rw [m_Model_listOf_b4, if_pos (by rw [nI_ofInt fr, I_lt (by omega) (by omega)]; omega)]
    unfold m_Model_within
    obtain ⟨i', a', b', q1, q2, q3, q4, q5, q6, q7, q8⟩ := r_within5 (n := n) (j := j) (a := a) (b := b) (B := B) (y := to) hn ⟨c5, c6, by omega, c8⟩ hft ms fr n i b [] (by omega) hs (fun q h1 h2 => ⟨ht q h1 h2, hd q (by omega) h2⟩) c4 c3 (by simp only [List.length_nil]; omega) (fun _ _ => rfl) (fun _ _ => rfl) (fun k hk => absurd hk (Nat.not_lt_zero _)) (by simp only [List.length_nil]; omega) hz
    have q1 : m_Model_within_b5 n n i j a b (nI to) 0 (nI fr) = _ := q1
    rw [q1, om_s]
    rw [List.length_nil, Nat.add_zero] at q2 q3 q4
    exact ⟨i', a', b', (B.1, B.2.1, B.2.2.1 + 1, B.2.2.2 + ms.length), _, rfl, q2, ⟨(q6 19 (by decide) (by decide)).trans c1, (q6 18 (by decide) (by decide)).trans c2, q5, q4, c5, c6, by show B.2.2.1 + 1 ≤ _; omega, by show B.2.2.2 + _ ≤ _; omega⟩, q3, rfl, rfl, by show B.2.2.1 + 1 ≤ _; omega, by show B.2.2.2 + _ = _; omega, q6, q7, fun q h1 _ => q8 q h1⟩
  | succ m ih =>
    intro f i a b B hm hf hB ht hd b1 b2
    obtain ⟨f, rfl⟩ : ∃ f', f = f' + 1 := ⟨f - 1, by omega⟩
    have ep : Int32.ofInt (((fr + (m + 1) : Nat) : Int) - 1) = nI (fr + m) := by rw [nI_ofInt]; congr 1; omega
    have em : nI (fr + m) + (-1 : Int32) = Int32.ofInt (((fr + m : Nat) : Int) - 1) := by
      rw [← ep, i32_m1]; congr 1; omega
    rw [ep, m_Model_listOf_b4, ilt_n (by omega), ck_n (by omega), cl_n (by omega)]
    obtain ⟨k1, k2, k3, k4, k5, k6⟩ := ht (fr + m) (by omega) (by omega)
    rw [US] at b1
    have goOn : (¬ fr + m < mt (fr + m)) → ∃ i' a' b' B' v, m_Model_listOf_b51 n (m_Model_listOf_b4 n f) i j a b (nI fr) (nI to) (nI (fr + m)) = some (i', j, a', b', v) ∧ rUp a b B a' b' B' ∧ rB i' B' ∧ rV a' b' B' (tL ms) none v ∧ B'.1 = B.1 ∧ B'.2.1 = B.2.1 ∧ B'.2.2.1 ≤ B.2.2.1 + (m + 1) + 1 ∧ B'.2.2.2 = B.2.2.2 + US T mt fr (m + 1) + ms.length ∧ (∀ q, q ≠ 20 → q ≠ 21 → i' q = i q) ∧ (∀ q, q ≠ 12 → q ≠ 13 → q ≠ 14 → a' q = a q) ∧ (∀ q, q ≠ 10 → q ≠ 83 → b' q = b q) := by
      intro hno
      rw [if_neg hno, Nat.add_zero] at b1
      obtain ⟨i', a', b', B', v, e1, e2, e3, e4, e5, e6, e7, e8, e9⟩ := ih f i a b B (by omega) (by omega) hB ht (fun q h1 h2 h3 => hd q (by
        rcases (by omega : q = fr + m ∨ fr + (m + 1) ≤ q) with h | h
        · subst h; exact absurd h3 hno
        · exact h) h2 h3) b1 (by omega)
      unfold m_Model_listOf_b51
      rw [ob1_s, em]
      rw [US, if_neg hno, Nat.add_zero]
      exact ⟨i', a', b', B', v, e1, e2, e3, e4, e5, e6, by omega, e8, e9⟩
    cases hv : vl (fr + m) with
    | true =>
      obtain ⟨w1, w2, _⟩ := k4 hv
      rw [if_neg (rV_ne3c w2)]
      exact goOn (by omega)
    | false =>
      rw [k5 hv, if_pos lg3, ck_n (by omega), k1]
      rcases (by omega : mt (fr + m) = fr + m ∨ fr + m < mt (fr + m)) with e | e
      · rw [e, if_pos rfl]
        exact goOn (by omega)
      · rw [ieq_n (by omega), ck_n (by omega), show nI (fr + m) + (1 : Int32) = nI (fr + m + 1) from nI_add _ 1]
        rw [if_pos e] at b1
        obtain ⟨_, ns, n1, n2, n3, n4, n5⟩ := k6 e
        obtain ⟨c1, c2, c3, c4, c5, c6, c7, c8⟩ := hB
        have hmt := SEG_in (to - fr) ms fr to (Nat.le_refl _) hs ht (fr + m) (by omega) (by omega)
        have hnl := SEG_le _ _ _ n2
        rw [n1, tMem_tL] at b1
        rw [n1] at n3 n4 n5
        unfold m_Model_within
        obtain ⟨i1, a1, b1', q1, q2, q3, q4, q5, q6, q7, q8⟩ := r_within5 (n := n) (j := j) (a := a) (b := b) (B := B) (y := mt (fr + m)) hn ⟨c5, c6, by omega, c8⟩ (by omega) ns (fr + m + 1) n i b [] (by omega) n2 (fun q h1 h2 => ⟨ht q (by omega) (by omega), hd q (by omega) (by omega)⟩) c4 c3 (by simp only [List.length_nil]; omega) (fun _ _ => rfl) (fun _ _ => rfl) (fun k hk => absurd hk (Nat.not_lt_zero _)) (by simp only [List.length_nil]; omega) ⟨n3, n4, n5⟩
        have q1 : m_Model_within_b5 n n i j a b (nI (mt (fr + m))) 0 (nI (fr + m + 1)) = _ := q1
        rw [q1, om_s, ck_n (by omega), ob1_s]
        rw [List.length_nil, Nat.add_zero] at q2 q3 q4
        have q3 : rV a1 b1' (B.1, B.2.1, B.2.2.1 + 1, B.2.2.2 + ns.length) (tL ns) none (vL B.2.2.1) := q3
        obtain ⟨b2', eb2⟩ : ∃ b2', b2' = svl b1' 83 (fr + m) (vL B.2.2.1) := ⟨_, rfl⟩
        rw [← eb2]
        have hb2 : ∀ q, q ≠ 83 → b2' q = b1' q := fun q hq => by rw [eb2]; exact svl_row hq
        have hB1 : rB i1 (B.1, B.2.1, B.2.2.1 + 1, B.2.2.2 + ns.length) := ⟨(q6 19 (by decide) (by decide)).trans c1, (q6 18 (by decide) (by decide)).trans c2, q5, q4, c5, c6, by show B.2.2.1 + 1 ≤ _; omega, by show B.2.2.2 + _ ≤ _; omega⟩
        have hu2 : rUp a b B a1 b2' (B.1, B.2.1, B.2.2.1 + 1, B.2.2.2 + ns.length) := rUp_trans q2 (rUp_b (hb2 10 (by decide)) hB1.2.2.2.2)
        obtain ⟨i', a', b', B', v, e1, e2, e3, e4, e5, e6, e7, e8, e9, e10, e11⟩ := ih f i1 a1 b2' (B.1, B.2.1, B.2.2.1 + 1, B.2.2.2 + ns.length) (by omega) (by omega) hB1 (fun q h1 h2 => TOK_up (ht q h1 h2) hu2 (by rw [q7 79 (by decide) (by decide) (by decide)]) (by rw [hb2 80 (by decide), q8 80 (by decide)])) (fun q h1 h2 h3 => by
          rcases (by omega : q = fr + m ∨ fr + (m + 1) ≤ q) with h | h
          · subst h
            rw [eb2, svl_at, n1]
            exact (rV_up (rUp_b (b' := svl b1' 83 (fr + m) (vL B.2.2.1)) (svl_row (by decide)) hB1.2.2.2.2) _).1 _ q3
          · have := (rV_up hu2 _).1 _ (hd q h h2 h3)
            rw [eb2, svl_ne (by omega), q8 83 (by decide), ← eb2]
            exact this) (by show B.2.2.2 + ns.length + _ + _ ≤ _; omega) (by show B.2.2.1 + 1 + _ + _ ≤ _; omega)
        unfold m_Model_listOf_b51
        rw [ob1_s, em]
        rw [US, if_pos e, n1, tMem_tL]
        have e7 : B'.2.2.1 ≤ B.2.2.1 + 1 + m + 1 := e7
        have e8 : B'.2.2.2 = B.2.2.2 + ns.length + US T mt fr m + ms.length := e8
        exact ⟨i', a', b', B', v, e1, rUp_trans hu2 e2, e3, e4, e5, e6, by omega, by omega, fun q h1 h2 => (e9 q h1 h2).trans (q6 q h1 h2), fun q h1 h2 h3 => (e10 q h1 h2 h3).trans (q7 q h1 h2 h3), fun q h1 h2 => ((e11 q h1 h2).trans (hb2 q h2)).trans (q8 q h1)⟩
/-- listOf -/
theorem r_listOf {n : Nat} {i : Nat → Int32} {j : Nat → Int64} {a : Nat → Nat → Int32} {b : Nat → Nat → Int64} {T : Nat → Tr} {mt : Nat → Nat} {vl : Nat → Bool} {B : RB4} {fr to : Nat} {ms : List Tr} (hn : 90001 ≤ n) (hft : to ≤ 600) (hs : SEG T mt vl ms fr to) (hz : tSz (tL ms) ≤ 5000 ∧ tNd (tL ms) ≤ 1200 ∧ tSl (tL ms) ≤ 8000) (hB : rB i B) (ht : ∀ q, fr ≤ q → q < to → TOK a b B T mt vl q) (hC : B.2.2.2 + tNd (tL ms) ≤ 90000) (hL : B.2.2.1 + 601 ≤ 90000) : ∃ i' a' b' B' v, m_Model_listOf n i j a b (nI fr) (nI to) = some (i', j, a', b', v) ∧ rUp a b B a' b' B' ∧ rB i' B' ∧ rV a' b' B' (tL ms) none v ∧ B'.1 = B.1 ∧ B'.2.1 = B.2.1 ∧ B'.2.2.1 ≤ B.2.2.1 + (to - fr) + 1 ∧ B'.2.2.2 + 1 = B.2.2.2 + tNd (tL ms) ∧ (∀ q, q ≠ 20 → q ≠ 21 → i' q = i q) ∧ (∀ q, q ≠ 12 → q ≠ 13 → q ≠ 14 → a' q = a q) ∧ (∀ q, q ≠ 10 → q ≠ 83 → b' q = b q) := by
  have hle := SEG_le _ _ _ hs
  have hus := US_seg (to - fr) ms fr to (Nat.le_refl _) hs ht
  rw [qm_tL] at hC
  unfold m_Model_listOf
  have e1 : nI to - (1 : Int32) = Int32.ofInt (((fr + (to - fr) : Nat) : Int) - 1) := by
    rw [nI_ofInt, show (1 : Int32) = Int32.ofInt 1 from rfl, ← Int32.ofInt_sub]
    congr 1
    omega
  rw [ob1_s, e1]
  obtain ⟨i', a', b', B', v, q1, q2, q3, q4, q5, q6, q7, q8, q9⟩ := r_list4 (n := n) (j := j) hn hft hs hz (to - fr) n i a b B (by omega) (by omega) hB ht (fun q h1 h2 => by omega) (by omega) (by omega)
  exact ⟨i', a', b', B', v, q1, q2, q3, q4, q5, q6, q7, by rw [qm_tL]; omega, q9⟩

