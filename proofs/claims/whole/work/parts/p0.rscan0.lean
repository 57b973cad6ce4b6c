/-! the reference reads: what is so between two tokens -/
def gU {α : Type} (f : Nat → α) (k : Nat) (v : α) : Nat → α := fun x => if x = k then v else f x
theorem gU_at {α : Type} {f : Nat → α} {k : Nat} {v : α} : gU f k v k = v := if_pos rfl
theorem gU_ne {α : Type} {f : Nat → α} {k x : Nat} {v : α} (h : x ≠ k) : gU f k v x = f x := if_neg h
def rC1 (a : Nat → Nat → Int32) (b : Nat → Nat → Int64) (B : RB4) : Prop := ∀ x, x < B.1 → ∃ l, rK a b B x l
def scI : List Nat := [18, 19, 28, 75, 76, 81, 84, 85, 86]
def scA : List Nat := [1, 3, 4, 7, 77, 78, 79, 82, 87, 88, 89, 90, 91]
def scR : List Nat := [77, 78, 79, 82, 87, 88, 89, 90, 91]
/-- what reading leaves as it was -/
def SF (i0 : Nat → Int32) (a0 : Nat → Nat → Int32) (b0 : Nat → Nat → Int64) (B0 : RB4) (i : Nat → Int32) (a : Nat → Nat → Int32) (b : Nat → Nat → Int64) (B : RB4) : Prop := (∀ q, q ∉ scI → i q = i0 q) ∧ (∀ q, q ∉ scA → a q = a0 q) ∧ (∀ q, q ≠ 9 → q ≠ 80 → b q = b0 q) ∧ rUp a0 b0 B0 a b B ∧ (∀ x, x < B0.1 → a 7 x = a0 7 x ∧ b 9 x = b0 9 x)
theorem SF_trans {i0 i1 i2 : Nat → Int32} {a0 a1 a2 : Nat → Nat → Int32} {b0 b1 b2 : Nat → Nat → Int64} {B0 B1 B2 : RB4} (h : SF i0 a0 b0 B0 i1 a1 b1 B1) (h' : SF i1 a1 b1 B1 i2 a2 b2 B2) : SF i0 a0 b0 B0 i2 a2 b2 B2 := by
  obtain ⟨h1, h2, h3, h4, h5⟩ := h
  obtain ⟨k1, k2, k3, k4, k5⟩ := h'
  refine ⟨fun q hq => (k1 q hq).trans (h1 q hq), fun q hq => (k2 q hq).trans (h2 q hq), fun q q1 q2 => (k3 q q1 q2).trans (h3 q q1 q2), rUp_trans h4 k4, fun x hx => ?_⟩
  have hx1 : x < B1.1 := by have := h4.1.1; omega
  exact ⟨(k5 x hx1).1.trans (h5 x hx).1, (k5 x hx1).2.trans (h5 x hx).2⟩
theorem SF_rows {i : Nat → Int32} {a : Nat → Nat → Int32} {b : Nat → Nat → Int64} {i' : Nat → Int32} {a' : Nat → Nat → Int32} {b' : Nat → Nat → Int64} {B : RB4} (hB : B.1 ≤ 120000 ∧ B.2.1 ≤ 300000 ∧ B.2.2.1 ≤ 90000 ∧ B.2.2.2 ≤ 90000) (hi : ∀ q, q ∉ scI → i' q = i q) (ha : ∀ q, q ∉ scR → a' q = a q) (hb : ∀ q, q ≠ 80 → b' q = b q) : SF i a b B i' a' b' B := by
  refine ⟨hi, fun q hq => ha q (fun h => hq ((show ∀ q ∈ scR, q ∈ scA by decide) q h)), fun q _ q2 => hb q q2, rUp_same ⟨ha 1 (by decide), ha 3 (by decide), ha 4 (by decide), ha 12 (by decide), ha 13 (by decide), ha 14 (by decide), hb 10 (by decide)⟩ hB, fun x _ => ⟨by rw [ha 7 (by decide)], by rw [hb 9 (by decide)]⟩⟩
theorem rC1_SF {i : Nat → Int32} {a : Nat → Nat → Int32} {b : Nat → Nat → Int64} {i' : Nat → Int32} {a' : Nat → Nat → Int32} {b' : Nat → Nat → Int64} {B : RB4} (h : rC1 a b B) (hs : SF i a b B i' a' b' B) : rC1 a' b' B := fun x hx => by
  obtain ⟨l, hl⟩ := h x hx
  exact ⟨l, rK_up hs.2.2.2.1 (hs.2.2.2.2 x hx).1 (hs.2.2.2.2 x hx).2 hl⟩
theorem rB_sc {i i' : Nat → Int32} {B : RB4} (h : rB i B) (h1 : i' 18 = i 18) (h2 : i' 19 = i 19) (h3 : i' 20 = i 20) (h4 : i' 21 = i 21) : rB i' B := rB_i h h1 h2 h3 h4
theorem TOK_co {a : Nat → Nat → Int32} {b : Nat → Nat → Int64} {B : RB4} {T : Nat → Tr} {mt : Nat → Nat} {vl : Nat → Bool} {T' : Nat → Tr} {mt' : Nat → Nat} {vl' : Nat → Bool} {x : Nat} (h : TOK a b B T mt vl x) (hc : ∀ q, x ≤ q → q ≤ mt x → T' q = T q ∧ mt' q = mt q ∧ vl' q = vl q) : TOK a b B T' mt' vl' x := by
  obtain ⟨h1, h2, h3, h4, h5, h6⟩ := h
  obtain ⟨c1, c2, c3⟩ := hc x (Nat.le_refl _) h2
  obtain ⟨d1, d2, d3⟩ := hc (mt x) h2 (Nat.le_refl _)
  unfold TOK
  rw [c1, c2, c3]
  refine ⟨h1, h2, h3, h4, h5, fun hx => ?_⟩
  obtain ⟨⟨k1, k2⟩, ns, k3, k4, k5⟩ := h6 hx
  exact ⟨⟨k1, by rw [d2]; exact k2⟩, ns, k3, SEG_congr ns _ _ k4 (fun q q1 q2 => hc q (by omega) (by omega)), k5⟩
/-- members of the levels (the innermost first), S the brackets that stand open -/
def KSx (T : Nat → Tr) (mt : Nat → Nat) (vl : Nat → Bool) (lo : Nat) : List Nat → List (List Tr) → Nat → Prop
  | [], K, e => ∃ m, K = [m] ∧ SEG T mt vl m lo e
  | s :: S, K, e => ∃ m K', K = m :: K' ∧ SEG T mt vl m (s + 1) e ∧ (vl s = false ∧ mt s = s ∧ lo ≤ s ∧ s < e ∧ ∀ x, x < s → mt x < s) ∧ KSx T mt vl lo S K' s
theorem KSx_congr {T : Nat → Tr} {mt : Nat → Nat} {vl : Nat → Bool} {T' : Nat → Tr} {mt' : Nat → Nat} {vl' : Nat → Bool} {lo : Nat} : ∀ (S : List Nat) (K : List (List Tr)) (e : Nat), KSx T mt vl lo S K e → (∀ q, q < e → T' q = T q ∧ mt' q = mt q ∧ vl' q = vl q) → KSx T' mt' vl' lo S K e := by
  intro S
  induction S with
  | nil =>
    intro K e h hc
    obtain ⟨m, h1, h2⟩ := h
    exact ⟨m, h1, SEG_congr m _ _ h2 (fun q _ q2 => hc q q2)⟩
  | cons s S ih =>
    intro K e h hc
    obtain ⟨m, K', h1, h2, ⟨k1, k2, k3, k4, k5⟩, h4⟩ := h
    exact ⟨m, K', h1, SEG_congr m _ _ h2 (fun q _ q2 => hc q q2), ⟨by rw [(hc s k4).2.2]; exact k1, by rw [(hc s k4).2.1]; exact k2, k3, k4, fun x hx => by rw [(hc x (by omega)).2.1]; exact k5 x hx⟩, ih K' s h4 (fun q q1 => hc q (by omega))⟩
theorem KSx_len {T : Nat → Tr} {mt : Nat → Nat} {vl : Nat → Bool} {lo : Nat} : ∀ (S : List Nat) (K : List (List Tr)) (e : Nat), KSx T mt vl lo S K e → K.length = S.length + 1 ∧ lo ≤ e := by
  intro S
  induction S with
  | nil =>
    intro K e h
    obtain ⟨m, h1, h2⟩ := h
    have := SEG_le _ _ _ h2
    exact ⟨by rw [h1]; rfl, by omega⟩
  | cons s S ih =>
    intro K e h
    obtain ⟨m, K', h1, h2, ⟨k1, k2, k3, k4, k5⟩, h4⟩ := h
    have := (ih K' s h4).1
    exact ⟨by rw [h1, List.length_cons, List.length_cons, this], by omega⟩
theorem KSx_add {T : Nat → Tr} {mt : Nat → Nat} {vl : Nat → Bool} {lo : Nat} {S : List Nat} {K : List (List Tr)} {e : Nat} (h : KSx T mt vl lo S K e) (he : (vl e = true ∧ mt e = e) ∨ (vl e = false ∧ e < mt e)) : KSx T mt vl lo S (aKAdd K (T e)) (mt e + 1) := by
  cases S with
  | nil =>
    obtain ⟨m, h1, h2⟩ := h
    subst h1
    exact ⟨m ++ [T e], rfl, SEG_snoc _ _ _ h2 he⟩
  | cons s S =>
    obtain ⟨m, K', h1, h2, ⟨k1, k2, k3, k4, k5⟩, h4⟩ := h
    subst h1
    exact ⟨m ++ [T e], K', rfl, SEG_snoc _ _ _ h2 he, ⟨k1, k2, k3, by omega, k5⟩, h4⟩
theorem KSx_open {T : Nat → Tr} {mt : Nat → Nat} {vl : Nat → Bool} {lo : Nat} {S : List Nat} {K : List (List Tr)} {e : Nat} (h : KSx T mt vl lo S K e) (h1 : vl e = false) (h2 : mt e = e) (h3 : ∀ x, x < e → mt x < e) : KSx T mt vl lo (e :: S) ([] :: K) (e + 1) :=
  ⟨[], K, rfl, rfl, ⟨h1, h2, (KSx_len _ _ _ h).2, Nat.lt_succ_self _, h3⟩, h⟩
theorem SEG_nd {a : Nat → Nat → Int32} {b : Nat → Nat → Int64} {B : RB4} {T : Nat → Tr} {mt : Nat → Nat} {vl : Nat → Bool} : ∀ (m : Nat) (ms : List Tr) (x y : Nat), y - x ≤ m → SEG T mt vl ms x y → (∀ q, x ≤ q → q < y → TOK a b B T mt vl q) → qm ms ≤ y - x := by
  intro m
  induction m with
  | zero =>
    intro ms x y hm hs _
    have := SEG_le _ _ _ hs
    have h0 : ms.length = 0 := by omega
    have : ms = [] := List.length_eq_zero_iff.mp h0
    subst this
    exact Nat.zero_le _
  | succ m ih =>
    intro ms x y hm hs ht
    cases ms with
    | nil => exact Nat.zero_le _
    | cons v ms =>
      have hle := SEG_le _ _ _ hs
      rw [List.length_cons] at hle
      obtain ⟨s1, s2, s3⟩ := hs
      have hle2 := SEG_le _ _ _ s3
      subst s1
      have i1 := ih ms (mt x + 1) y (by omega) s3 (fun q h1 h2 => ht q (by omega) h2)
      obtain ⟨k1, k2, k3, k4, k5, k6⟩ := ht x (Nat.le_refl _) (by omega)
      rw [qm_c]
      have hx : tNd (T x) ≤ mt x + 1 - x := by
        rcases s2 with ⟨v1, v2⟩ | ⟨v1, v2⟩
        · have hv := (k4 v1).2.1
          rcases rV_cases hv with ⟨z, e, _, _, _⟩ | ⟨l, w, e, _, hrw⟩ | ⟨ns, l, p, e, _⟩
          · rw [e]; show 1 ≤ _; omega
          · rw [e]
            have hl : l ≠ [] := hrw.2.2.2.1
            cases l with
            | nil => exact absurd rfl hl
            | cons c l => show 1 ≤ _; omega
          · have := (k4 v1).2.2; rw [e, isL_tL] at this; cases this
        · obtain ⟨⟨_, hmm⟩, ns, n1, n2, _⟩ := k6 v2
          have i2 := ih ns (x + 1) (mt x) (by omega) n2 (fun q h1 h2 => ht q (by omega) (by omega))
          rw [n1, qm_tL]
          omega
      omega
/-- row 82: the brackets that stand open -/
def R82 (a : Nat → Nat → Int32) : List Nat → Prop
  | [] => True
  | s :: S => a 82 S.length = nI s ∧ R82 a S
theorem R82_up {a a' : Nat → Nat → Int32} : ∀ (S : List Nat), R82 a S → (∀ q, q < S.length → a' 82 q = a 82 q) → R82 a' S := by
  intro S
  induction S with
  | nil => intro _ _; trivial
  | cons s S ih => intro h hc; exact ⟨(hc _ (by simp)).trans h.1, ih h.2 (fun q hq => hc q (by simp; omega))⟩
def INS (a : Nat → Nat → Int32) (B : RB4) (x : Nat) (ins : List Nm) : Prop := a 88 x = nI ins.length ∧ ins.length ≤ 5 ∧ ∀ q (h : q < ins.length), ∃ y, a 89 (5 * x + q) = nI y ∧ rW a B y (ins[q]'h)
def DF1 (a : Nat → Nat → Int32) (B : RB4) (T : Nat → Tr) (mt : Nat → Nat) (vl : Nat → Bool) (lo x : Nat) (p : Proc) : Prop := ((∃ y, a 87 x = nI y ∧ rW a B y p.1) ∧ aLex p.1 = 0) ∧ INS a B x p.2.1 ∧ ∃ fr to ms, a 90 x = nI fr ∧ a 91 x = nI to ∧ p.2.2 = tL ms ∧ SEG T mt vl ms fr to ∧ to ≤ lo ∧ (tSz p.2.2 ≤ 5000 ∧ tSl p.2.2 ≤ 8000)
/-- how many tokens lie in the bodies -/
def SL (a : Nat → Nat → Int32) : Nat → Nat
  | 0 => 0
  | n + 1 => SL a n + ((a 91 n).toNatClampNeg - (a 90 n).toNatClampNeg)
theorem SL_congr {a a' : Nat → Nat → Int32} : ∀ (n : Nat), (∀ x, x < n → a' 90 x = a 90 x ∧ a' 91 x = a 91 x) → SL a' n = SL a n := by
  intro n
  induction n with
  | zero => intro _; rfl
  | succ n ih => intro h; rw [SL, SL, ih (fun x hx => h x (by omega)), (h n (by omega)).1, (h n (by omega)).2]
/-- what is told: stage, finished ones, the one that is being told -/
def DD (i : Nat → Int32) (a : Nat → Nat → Int32) (B : RB4) (T : Nat → Tr) (mt : Nat → Nat) (vl : Nat → Bool) (lo tok st fr : Nat) (D : List Proc) (cw : Nm) (ins : List Nm) : Prop := (i 84 = nI st ∧ i 85 = nI fr ∧ i 86 = nI D.length) ∧ 3 * D.length + min st 2 ≤ tok ∧ (lo ≤ tok ∧ SL a D.length ≤ lo) ∧ (∀ x (h : x < D.length), DF1 a B T mt vl lo x (D[x]'h)) ∧ (2 ≤ st → ((∃ y, a 87 D.length = nI y ∧ rW a B y cw) ∧ aLex cw = 0) ∧ INS a B D.length ins) ∧ (st = 3 → a 90 D.length = nI lo)
theorem INS_up {a a' : Nat → Nat → Int32} {b b' : Nat → Nat → Int64} {B B' : RB4} {x : Nat} {ins : List Nm} (h : INS a B x ins) (hu : rUp a b B a' b' B') (h88 : a' 88 x = a 88 x) (h89 : ∀ q, q < 5 → a' 89 (5 * x + q) = a 89 (5 * x + q)) : INS a' B' x ins := by
  obtain ⟨h1, h2, h3⟩ := h
  refine ⟨h88.trans h1, h2, fun q hq => ?_⟩
  obtain ⟨y, k1, k2⟩ := h3 q hq
  exact ⟨y, (h89 q (by omega)).trans k1, rW_up hu k2⟩
theorem DF1_up {a a' : Nat → Nat → Int32} {b b' : Nat → Nat → Int64} {B B' : RB4} {T : Nat → Tr} {mt : Nat → Nat} {vl : Nat → Bool} {T' : Nat → Tr} {mt' : Nat → Nat} {vl' : Nat → Bool} {lo lo' x : Nat} {p : Proc} (h : DF1 a B T mt vl lo x p) (hu : rUp a b B a' b' B') (hl : lo ≤ lo') (hr : a' 87 x = a 87 x ∧ a' 88 x = a 88 x ∧ a' 90 x = a 90 x ∧ a' 91 x = a 91 x) (h89 : ∀ q, q < 5 → a' 89 (5 * x + q) = a 89 (5 * x + q)) (hc : ∀ q, q < lo → T' q = T q ∧ mt' q = mt q ∧ vl' q = vl q) : DF1 a' B' T' mt' vl' lo' x p := by
  obtain ⟨⟨⟨y, k1, k2⟩, k3⟩, h2, fr, to, ms, k4, k5, k6, k7, k8, k9⟩ := h
  exact ⟨⟨⟨y, hr.1.trans k1, rW_up hu k2⟩, k3⟩, INS_up h2 hu hr.2.1 h89, fr, to, ms, hr.2.2.1.trans k4, hr.2.2.2.trans k5, k6, SEG_congr ms _ _ k7 (fun q _ q2 => hc q (by omega)), by omega, k9⟩
theorem DD_up {i : Nat → Int32} {a : Nat → Nat → Int32} {b : Nat → Nat → Int64} {i' : Nat → Int32} {a' : Nat → Nat → Int32} {b' : Nat → Nat → Int64} {B B' : RB4} {T : Nat → Tr} {mt : Nat → Nat} {vl : Nat → Bool} {T' : Nat → Tr} {mt' : Nat → Nat} {vl' : Nat → Bool} {lo tok tok' st fr : Nat} {D : List Proc} {cw : Nm} {ins : List Nm} (h : DD i a B T mt vl lo tok st fr D cw ins) (hu : rUp a b B a' b' B') (hi : i' 84 = i 84 ∧ i' 85 = i 85 ∧ i' 86 = i 86) (ht : tok ≤ tok') (ha : ∀ q, 87 ≤ q → q ≤ 91 → a' q = a q) (hc : ∀ q, q < lo → T' q = T q ∧ mt' q = mt q ∧ vl' q = vl q) : DD i' a' B' T' mt' vl' lo tok' st fr D cw ins := by
  obtain ⟨⟨h1, h2, h3⟩, h4, h5, h6, h7, h8⟩ := h
  have r7 := ha 87 (by decide) (by decide)
  have r8 := ha 88 (by decide) (by decide)
  have r9 := ha 89 (by decide) (by decide)
  have r0 := ha 90 (by decide) (by decide)
  have r1 := ha 91 (by decide) (by decide)
  refine ⟨⟨hi.1.trans h1, hi.2.1.trans h2, hi.2.2.trans h3⟩, by omega, ⟨by omega, by rw [SL_congr _ (fun x _ => ⟨by rw [r0], by rw [r1]⟩)]; exact h5.2⟩, fun x hx => DF1_up (h6 x hx) hu (Nat.le_refl _) ⟨by rw [r7], by rw [r8], by rw [r0], by rw [r1]⟩ (fun q _ => by rw [r9]) hc, fun e => ?_, fun e => by rw [r0]; exact h8 e⟩
  obtain ⟨⟨⟨y, k1, k2⟩, k3⟩, k4⟩ := h7 e
  exact ⟨⟨⟨y, by rw [r7]; exact k1, rW_up hu k2⟩, k3⟩, INS_up k4 hu (by rw [r8]) (fun q _ => by rw [r9])⟩
/-- counters, words, tokens -/
def CO (i : Nat → Int32) (a : Nat → Nat → Int32) (b : Nat → Nat → Int64) (B : RB4) (T : Nat → Tr) (mt : Nat → Nat) (vl : Nat → Bool) (tok : Nat) : Prop := rB i B ∧ rC1 a b B ∧ i 75 = 0 ∧ i 81 = nI tok ∧ tok ≤ 600 ∧ ∀ x, x < tok → TOK a b B T mt vl x ∧ mt x < tok
def BD (B0 B : RB4) (tok k : Nat) : Prop := B.1 ≤ B0.1 + 2 * tok ∧ B.2.1 ≤ B0.2.1 + k ∧ B.2.2 = B0.2.2
/-- inputs of the one that is being told -/
def rdI (r : Rd) : List Nm := if r.1 = 2 then (r.2.1.headD []).map tLet else r.2.2.2.2.2.1
/-- the reference has read up to k, and no fault was found -/
def SI (dfn : Bool) (P : List Proc) (i0 : Nat → Int32) (a0 : Nat → Nat → Int32) (b0 : Nat → Nat → Int64) (B0 : RB4) (k : Nat) (r : Rd) (i : Nat → Int32) (a : Nat → Nat → Int32) (b : Nat → Nat → Int64) (B : RB4) (T : Nat → Tr) (mt : Nat → Nat) (vl : Nat → Bool) (S : List Nat) (lo : Nat) : Prop :=
  (SF i0 a0 b0 B0 i a b B ∧ BD B0 B r.2.2.1 k ∧ CO i a b B T mt vl r.2.2.1) ∧ (RI dfn P k r ∧ rdF r = 0) ∧ ((r.1 = 3 → KSx T mt vl lo S r.2.1 r.2.2.1) ∧ (S.length + 1 = r.2.1.length ∧ S.length ≤ 20) ∧ R82 a S) ∧ (dfn = true → DD i a B T mt vl lo r.2.2.1 r.1 r.2.2.2.2.2.2.1 r.2.2.2.1 r.2.2.2.2.1 (rdI r)) ∧ (dfn = false → i 84 = 0 ∧ lo = 0)
/-- a fault was found -/
def BAD (i0 : Nat → Int32) (a0 : Nat → Nat → Int32) (b0 : Nat → Nat → Int64) (B0 : RB4) (r : Rd) (i : Nat → Int32) (a : Nat → Nat → Int32) (b : Nat → Nat → Int64) : Prop := (∃ B, SF i0 a0 b0 B0 i a b B) ∧ i 75 = nI (rdF r) ∧ i 76 = nI (rdP r) ∧ (1 ≤ rdF r ∧ rdF r ≤ 11)

