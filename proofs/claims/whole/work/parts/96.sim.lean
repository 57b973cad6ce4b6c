
/-- a relation between the two states; kc, ks: what has been made; c: how many calls have been -/
abbrev RTy : Type := (Nat → Int32) → (Nat → Nat → Int32) → (Nat → Nat) → (Nat → Int32) → (Nat → Int64) → (Nat → Nat → Int32) → (Nat → Nat → Int64) → Nat → Nat → Nat → Prop
theorem ob_s {α β γ δ : Type} {x : α} {y : β} {z : γ} {f : α → β → γ → Option δ} : ob (some (x, y, z)) f = f x y z := rfl
theorem ob0_s {α δ : Type} {x : α} {f : α → Option δ} : ob0 (some x) f = f x := rfl
theorem ob1_s {α δ : Type} {x : α} {f : α → Option δ} : ob1 x f = f x := rfl
theorem om_s {α β γ δ ε ζ : Type} {x : α} {y : β} {z : γ} {u : δ} {w : ε} {f : α → β → γ → δ → ε → Option ζ} : om (some (x, y, z, u, w)) f = f x y z u w := rfl
theorem ck_in {δ : Type} {x : Int32} {n : Nat} {k : Option δ} (h : vp_in x n) : ck x n k = k := if_neg h
theorem cr_in {δ : Type} {kc ks : Nat} {k : Option δ} (h1 : kc ≤ 601024) (h2 : ks ≤ 7293000) : cr kc ks k = k := if_pos ⟨h1, h2⟩

theorem lg_self (x : Int64) : lg_cmp x x = 0 := by
  unfold lg_cmp
  simp

def sm_feed (n : Nat) (R : RTy) : Prop := ∀ (xi : Nat → Int32) (xa : Nat → Nat → Int32) (xg : Nat → Nat) (mi : Nat → Int32) (mj : Nat → Int64) (ma : Nat → Nat → Int32) (mb : Nat → Nat → Int64) (kc ks c : Nat), c < 512 → R xi xa xg mi mj ma mb kc ks c → ∀ (w1 w2 w3 w4 w5 : Int32), ∃ (xi2 : Nat → Int32) (xa2 : Nat → Nat → Int32) (mi2 : Nat → Int32) (mj2 : Nat → Int64) (ma2 : Nat → Nat → Int32) (mb2 : Nat → Nat → Int64) (r : Int32), m_World_feed n xg xi xa w1 w2 w3 w4 w5 = some (xi2, xa2, r) ∧ m_Model_feed n mi mj ma mb w1 w2 w3 w4 w5 = some (mi2, mj2, ma2, mb2, r) ∧ R xi2 xa2 xg mi2 mj2 ma2 mb2 kc ks (c + 1)
def sm_end (n : Nat) (R : RTy) : Prop := ∀ (xi : Nat → Int32) (xa : Nat → Nat → Int32) (xg : Nat → Nat) (mi : Nat → Int32) (mj : Nat → Int64) (ma : Nat → Nat → Int32) (mb : Nat → Nat → Int64) (kc ks c : Nat), c < 512 → R xi xa xg mi mj ma mb kc ks c → ∀ (w1 : Int32), ∃ (xi2 : Nat → Int32) (xa2 : Nat → Nat → Int32) (mi2 : Nat → Int32) (mj2 : Nat → Int64) (ma2 : Nat → Nat → Int32) (mb2 : Nat → Nat → Int64) (r : Int32), m_World_end n xg xi xa w1 = some (xi2, xa2, r) ∧ m_Model_end n mi mj ma mb w1 = some (mi2, mj2, ma2, mb2, r) ∧ R xi2 xa2 xg mi2 mj2 ma2 mb2 kc ks (c + 1)
def sm_define (n : Nat) (R : RTy) : Prop := ∀ (xi : Nat → Int32) (xa : Nat → Nat → Int32) (xg : Nat → Nat) (mi : Nat → Int32) (mj : Nat → Int64) (ma : Nat → Nat → Int32) (mb : Nat → Nat → Int64) (kc ks c : Nat), c < 512 → R xi xa xg mi mj ma mb kc ks c → ∃ (xi2 : Nat → Int32) (xa2 : Nat → Nat → Int32) (xg2 : Nat → Nat) (k : Nat × Nat) (mi2 : Nat → Int32) (mj2 : Nat → Int64) (ma2 : Nat → Nat → Int32) (mb2 : Nat → Nat → Int64) (r : Int32), m_World_define n xg xi xa = some (xi2, xa2, xg2, k, r) ∧ m_Model_define n mi mj ma mb = some (mi2, mj2, ma2, mb2, r) ∧ kc + k.1 ≤ 601024 ∧ ks + k.2 ≤ 7293000 ∧ R xi2 xa2 xg2 mi2 mj2 ma2 mb2 (kc + k.1) (ks + k.2) (c + 1)
def sm_line (n : Nat) (R : RTy) : Prop := ∀ (xi : Nat → Int32) (xa : Nat → Nat → Int32) (xg : Nat → Nat) (mi : Nat → Int32) (mj : Nat → Int64) (ma : Nat → Nat → Int32) (mb : Nat → Nat → Int64) (kc ks c : Nat), c < 512 → R xi xa xg mi mj ma mb kc ks c → ∃ (xi2 : Nat → Int32) (xa2 : Nat → Nat → Int32) (xg2 : Nat → Nat) (k : Nat × Nat) (mi2 : Nat → Int32) (mj2 : Nat → Int64) (ma2 : Nat → Nat → Int32) (mb2 : Nat → Nat → Int64) (r : Int32), m_World_line n xg xi xa = some (xi2, xa2, xg2, k, r) ∧ m_Model_line n 2030 mi mj ma mb = some (mi2, mj2, ma2, mb2, r) ∧ kc + k.1 ≤ 601024 ∧ ks + k.2 ≤ 7293000 ∧ R xi2 xa2 xg2 mi2 mj2 ma2 mb2 (kc + k.1) (ks + k.2) (c + 1)
def sm_fault (n : Nat) (R : RTy) : Prop := ∀ (xi : Nat → Int32) (xa : Nat → Nat → Int32) (xg : Nat → Nat) (mi : Nat → Int32) (mj : Nat → Int64) (ma : Nat → Nat → Int32) (mb : Nat → Nat → Int64) (kc ks c : Nat), c < 512 → R xi xa xg mi mj ma mb kc ks c → ∀ (w1 : Int32), ∃ (mi2 : Nat → Int32) (mj2 : Nat → Int64) (ma2 : Nat → Nat → Int32) (mb2 : Nat → Nat → Int64) (r : Int32), m_World_fault n xg xi xa w1 = some r ∧ m_Model_fault n mi mj ma mb w1 = some (mi2, mj2, ma2, mb2, r) ∧ R xi xa xg mi2 mj2 ma2 mb2 kc ks (c + 1)
def sm_run (n : Nat) (R : RTy) : Prop := ∀ (xi : Nat → Int32) (xa : Nat → Nat → Int32) (xg : Nat → Nat) (mi : Nat → Int32) (mj : Nat → Int64) (ma : Nat → Nat → Int32) (mb : Nat → Nat → Int64) (kc ks c : Nat), c < 512 → R xi xa xg mi mj ma mb kc ks c → ∀ (w1 : Int32), ∃ (xi2 : Nat → Int32) (xa2 : Nat → Nat → Int32) (xg2 : Nat → Nat) (k : Nat × Nat) (mi2 : Nat → Int32) (mj2 : Nat → Int64) (ma2 : Nat → Nat → Int32) (mb2 : Nat → Nat → Int64) (r : Int32), m_World_run n xg xi xa w1 = some (xi2, xa2, xg2, k, r) ∧ m_Model_run n 2030 mi mj ma mb w1 = some (mi2, mj2, ma2, mb2, r) ∧ kc + k.1 ≤ 601024 ∧ ks + k.2 ≤ 7293000 ∧ R xi2 xa2 xg2 mi2 mj2 ma2 mb2 (kc + k.1) (ks + k.2) (c + 1)
def sm_go (n : Nat) (R : RTy) : Prop := ∀ (xi : Nat → Int32) (xa : Nat → Nat → Int32) (xg : Nat → Nat) (mi : Nat → Int32) (mj : Nat → Int64) (ma : Nat → Nat → Int32) (mb : Nat → Nat → Int64) (kc ks c : Nat), c < 512 → R xi xa xg mi mj ma mb kc ks c → ∀ (w1 : Int32), ∃ (xi2 : Nat → Int32) (xa2 : Nat → Nat → Int32) (xg2 : Nat → Nat) (k : Nat × Nat) (mi2 : Nat → Int32) (mj2 : Nat → Int64) (ma2 : Nat → Nat → Int32) (mb2 : Nat → Nat → Int64) (r : Int32), m_World_go n xg xi xa w1 = some (xi2, xa2, xg2, k, r) ∧ m_Model_go n 2030 mi mj ma mb w1 = some (mi2, mj2, ma2, mb2, r) ∧ kc + k.1 ≤ 601024 ∧ ks + k.2 ≤ 7293000 ∧ R xi2 xa2 xg2 mi2 mj2 ma2 mb2 (kc + k.1) (ks + k.2) (c + 1)
def sm_stop (n : Nat) (R : RTy) : Prop := ∀ (xi : Nat → Int32) (xa : Nat → Nat → Int32) (xg : Nat → Nat) (mi : Nat → Int32) (mj : Nat → Int64) (ma : Nat → Nat → Int32) (mb : Nat → Nat → Int64) (kc ks c : Nat), c < 512 → R xi xa xg mi mj ma mb kc ks c → ∃ (xi2 : Nat → Int32) (xa2 : Nat → Nat → Int32) (mi2 : Nat → Int32) (mj2 : Nat → Int64) (ma2 : Nat → Nat → Int32) (mb2 : Nat → Nat → Int64) (r : Int32), m_World_stop n xg xi xa = some (xi2, xa2, r) ∧ m_Model_stop n mi mj ma mb = some (mi2, mj2, ma2, mb2, r) ∧ R xi2 xa2 xg mi2 mj2 ma2 mb2 kc ks (c + 1)
def sm_look (n : Nat) (R : RTy) : Prop := ∀ (xi : Nat → Int32) (xa : Nat → Nat → Int32) (xg : Nat → Nat) (mi : Nat → Int32) (mj : Nat → Int64) (ma : Nat → Nat → Int32) (mb : Nat → Nat → Int64) (kc ks c : Nat), c < 512 → R xi xa xg mi mj ma mb kc ks c → ∀ (w1 : Int32), ∃ (mi2 : Nat → Int32) (mj2 : Nat → Int64) (ma2 : Nat → Nat → Int32) (mb2 : Nat → Nat → Int64) (r : Int32), m_World_look n xg xi xa w1 = some r ∧ m_Model_look n mi mj ma mb w1 = some (mi2, mj2, ma2, mb2, r) ∧ R xi xa xg mi2 mj2 ma2 mb2 kc ks (c + 1)
def sm_turtle (n : Nat) (R : RTy) : Prop := ∀ (xi : Nat → Int32) (xa : Nat → Nat → Int32) (xg : Nat → Nat) (mi : Nat → Int32) (mj : Nat → Int64) (ma : Nat → Nat → Int32) (mb : Nat → Nat → Int64) (kc ks c : Nat), c < 512 → R xi xa xg mi mj ma mb kc ks c → ∀ (w1 w2 : Int32), ∃ (mi2 : Nat → Int32) (mj2 : Nat → Int64) (ma2 : Nat → Nat → Int32) (mb2 : Nat → Nat → Int64) (r : Int32), m_World_turtle n xg xi xa w1 w2 = some r ∧ m_Model_turtle n mi mj ma mb w1 w2 = some (mi2, mj2, ma2, mb2, r) ∧ R xi xa xg mi2 mj2 ma2 mb2 kc ks (c + 1)
def sm_dot (n : Nat) (R : RTy) : Prop := ∀ (xi : Nat → Int32) (xa : Nat → Nat → Int32) (xg : Nat → Nat) (mi : Nat → Int32) (mj : Nat → Int64) (ma : Nat → Nat → Int32) (mb : Nat → Nat → Int64) (kc ks c : Nat), c < 512 → R xi xa xg mi mj ma mb kc ks c → ∀ (w1 w2 : Int32), ∃ (mi2 : Nat → Int32) (mj2 : Nat → Int64) (ma2 : Nat → Nat → Int32) (mb2 : Nat → Nat → Int64) (r : Int32), m_World_dot n xg xi xa w1 w2 = some r ∧ m_Model_dot n mi mj ma mb w1 w2 = some (mi2, mj2, ma2, mb2, r) ∧ R xi xa xg mi2 mj2 ma2 mb2 kc ks (c + 1)
def sm_out (n : Nat) (R : RTy) : Prop := ∀ (xi : Nat → Int32) (xa : Nat → Nat → Int32) (xg : Nat → Nat) (mi : Nat → Int32) (mj : Nat → Int64) (ma : Nat → Nat → Int32) (mb : Nat → Nat → Int64) (kc ks c : Nat), c < 512 → R xi xa xg mi mj ma mb kc ks c → ∀ (w1 : Int32), ∃ (mi2 : Nat → Int32) (mj2 : Nat → Int64) (ma2 : Nat → Nat → Int32) (mb2 : Nat → Nat → Int64) (r : Int32), m_World_out n xg xi xa w1 = some r ∧ m_Model_out n mi mj ma mb w1 = some (mi2, mj2, ma2, mb2, r) ∧ R xi xa xg mi2 mj2 ma2 mb2 kc ks (c + 1)
def sm_name (n : Nat) (R : RTy) : Prop := ∀ (xi : Nat → Int32) (xa : Nat → Nat → Int32) (xg : Nat → Nat) (mi : Nat → Int32) (mj : Nat → Int64) (ma : Nat → Nat → Int32) (mb : Nat → Nat → Int64) (kc ks c : Nat), c < 512 → R xi xa xg mi mj ma mb kc ks c → ∀ (w1 w2 : Int32), ∃ (mi2 : Nat → Int32) (mj2 : Nat → Int64) (ma2 : Nat → Nat → Int32) (mb2 : Nat → Nat → Int64) (r : Int32), m_World_name n xg xi xa w1 w2 = some r ∧ m_Model_name n mi mj ma mb w1 w2 = some (mi2, mj2, ma2, mb2, r) ∧ R xi xa xg mi2 mj2 ma2 mb2 kc ks (c + 1)
def sm_value (n : Nat) (R : RTy) : Prop := ∀ (xi : Nat → Int32) (xa : Nat → Nat → Int32) (xg : Nat → Nat) (mi : Nat → Int32) (mj : Nat → Int64) (ma : Nat → Nat → Int32) (mb : Nat → Nat → Int64) (kc ks c : Nat), c < 512 → R xi xa xg mi mj ma mb kc ks c → ∀ (w1 w2 : Int32), ∃ (xi2 : Nat → Int32) (xa2 : Nat → Nat → Int32) (mi2 : Nat → Int32) (mj2 : Nat → Int64) (ma2 : Nat → Nat → Int32) (mb2 : Nat → Nat → Int64) (r : Int32), m_World_value n xg xi xa w1 w2 = some (xi2, xa2, r) ∧ m_Model_value n mi mj ma mb w1 w2 = some (mi2, mj2, ma2, mb2, r) ∧ R xi2 xa2 xg mi2 mj2 ma2 mb2 kc ks (c + 1)
def sm_procedure (n : Nat) (R : RTy) : Prop := ∀ (xi : Nat → Int32) (xa : Nat → Nat → Int32) (xg : Nat → Nat) (mi : Nat → Int32) (mj : Nat → Int64) (ma : Nat → Nat → Int32) (mb : Nat → Nat → Int64) (kc ks c : Nat), c < 512 → R xi xa xg mi mj ma mb kc ks c → ∀ (w1 w2 : Int32), ∃ (mi2 : Nat → Int32) (mj2 : Nat → Int64) (ma2 : Nat → Nat → Int32) (mb2 : Nat → Nat → Int64) (r : Int32), m_World_procedure n xg xi xa w1 w2 = some r ∧ m_Model_procedure n mi mj ma mb w1 w2 = some (mi2, mj2, ma2, mb2, r) ∧ R xi xa xg mi2 mj2 ma2 mb2 kc ks (c + 1)
def sm_call (n : Nat) (R : RTy) : Prop := ∀ (xi : Nat → Int32) (xa : Nat → Nat → Int32) (xg : Nat → Nat) (mi : Nat → Int32) (mj : Nat → Int64) (ma : Nat → Nat → Int32) (mb : Nat → Nat → Int64) (kc ks c : Nat), c < 512 → R xi xa xg mi mj ma mb kc ks c → ∀ (w1 w2 : Int32), ∃ (mi2 : Nat → Int32) (mj2 : Nat → Int64) (ma2 : Nat → Nat → Int32) (mb2 : Nat → Nat → Int64) (r : Int32), m_World_call n xg xi xa w1 w2 = some r ∧ m_Model_call n mi mj ma mb w1 w2 = some (mi2, mj2, ma2, mb2, r) ∧ R xi xa xg mi2 mj2 ma2 mb2 kc ks (c + 1)
def sm_sum (n : Nat) (R : RTy) : Prop := ∀ (xi : Nat → Int32) (xa : Nat → Nat → Int32) (xg : Nat → Nat) (mi : Nat → Int32) (mj : Nat → Int64) (ma : Nat → Nat → Int32) (mb : Nat → Nat → Int64) (kc ks c : Nat), c < 512 → R xi xa xg mi mj ma mb kc ks c → ∃ (mi2 : Nat → Int32) (mj2 : Nat → Int64) (ma2 : Nat → Nat → Int32) (mb2 : Nat → Nat → Int64) (r : Int32), m_World_sum n xg xi xa = some r ∧ m_Model_sum n mi mj ma mb = some (mi2, mj2, ma2, mb2, r) ∧ R xi xa xg mi2 mj2 ma2 mb2 kc ks (c + 1)
def sm_place_bad (n : Nat) (R : RTy) : Prop := ∀ (xi : Nat → Int32) (xa : Nat → Nat → Int32) (xg : Nat → Nat) (mi : Nat → Int32) (mj : Nat → Int64) (ma : Nat → Nat → Int32) (mb : Nat → Nat → Int64) (kc ks c : Nat), c < 512 → R xi xa xg mi mj ma mb kc ks c → ∀ (w1 w2 w3 : Int32), (ts_exists w1 = 0 ∨ w2 < 0 ∨ 1 < w2 ∨ w3 < 0 ∨ ¬ w3 ≤ 1) → ∃ (mi2 : Nat → Int32) (mj2 : Nat → Int64) (ma2 : Nat → Nat → Int32) (mb2 : Nat → Nat → Int64) (r : Int32), m_Model_place n mi mj ma mb w1 w2 w3 = some (mi2, mj2, ma2, mb2, r) ∧ mi2 0 = 1 ∧ kc + 1 ≤ 601024 ∧ ks + 6 ≤ 7293000 ∧ R xi xa xg mi2 mj2 ma2 mb2 (kc + 1) (ks + 6) (c + 1)
def sm_place_ok (n : Nat) (R : RTy) : Prop := ∀ (xi : Nat → Int32) (xa : Nat → Nat → Int32) (xg : Nat → Nat) (mi : Nat → Int32) (mj : Nat → Int64) (ma : Nat → Nat → Int32) (mb : Nat → Nat → Int64) (kc ks c : Nat), c < 512 → R xi xa xg mi mj ma mb kc ks c → ∀ (w1 w2 w3 : Int32), ¬ (ts_exists w1 = 0 ∨ w2 < 0 ∨ 1 < w2 ∨ w3 < 0 ∨ ¬ w3 ≤ 1) → ∃ (mi2 : Nat → Int32) (mj2 : Nat → Int64) (ma2 : Nat → Nat → Int32) (mb2 : Nat → Nat → Int64) (r : Int32), m_Model_place n mi mj ma mb w1 w2 w3 = some (mi2, mj2, ma2, mb2, r) ∧ mi2 0 = 0 ∧ m_World_place_r (xa 20) w1 w2 w3 = r ∧ R xi xa xg mi2 mj2 ma2 mb2 kc ks (c + 1)
def sm_side_bad (n : Nat) (R : RTy) : Prop := ∀ (xi : Nat → Int32) (xa : Nat → Nat → Int32) (xg : Nat → Nat) (mi : Nat → Int32) (mj : Nat → Int64) (ma : Nat → Nat → Int32) (mb : Nat → Nat → Int64) (kc ks c : Nat), c < 512 → R xi xa xg mi mj ma mb kc ks c → ∀ (w1 w2 w3 : Int32), (ts_exists w1 = 0 ∨ w2 < 0 ∨ ¬ w2 ≤ 1) → ∃ (mi2 : Nat → Int32) (mj2 : Nat → Int64) (ma2 : Nat → Nat → Int32) (mb2 : Nat → Nat → Int64) (r : Int32), m_Model_side n mi mj ma mb w1 w2 w3 = some (mi2, mj2, ma2, mb2, r) ∧ mi2 0 = 1 ∧ kc + 1 ≤ 601024 ∧ ks + 6 ≤ 7293000 ∧ R xi xa xg mi2 mj2 ma2 mb2 (kc + 1) (ks + 6) (c + 1)
def sm_side_ok (n : Nat) (R : RTy) : Prop := ∀ (xi : Nat → Int32) (xa : Nat → Nat → Int32) (xg : Nat → Nat) (mi : Nat → Int32) (mj : Nat → Int64) (ma : Nat → Nat → Int32) (mb : Nat → Nat → Int64) (kc ks c : Nat), c < 512 → R xi xa xg mi mj ma mb kc ks c → ∀ (w1 w2 w3 : Int32), ¬ (ts_exists w1 = 0 ∨ w2 < 0 ∨ ¬ w2 ≤ 1) → ∃ (mi2 : Nat → Int32) (mj2 : Nat → Int64) (ma2 : Nat → Nat → Int32) (mb2 : Nat → Nat → Int64) (r : Int32), m_Model_side n mi mj ma mb w1 w2 w3 = some (mi2, mj2, ma2, mb2, r) ∧ mi2 0 = 0 ∧ m_World_side_r (xa 20) w1 w2 w3 = r ∧ R xi xa xg mi2 mj2 ma2 mb2 kc ks (c + 1)
def sm_none (R : RTy) : Prop := ∀ (xi : Nat → Int32) (xa : Nat → Nat → Int32) (xg : Nat → Nat) (mi : Nat → Int32) (mj : Nat → Int64) (ma : Nat → Nat → Int32) (mb : Nat → Nat → Int64) (kc ks c : Nat), c < 512 → R xi xa xg mi mj ma mb kc ks c → R xi xa xg mi mj ma mb kc ks (c + 1)
theorem bs_tail {n L : Nat} {xs : Nat → Int32} {R : RTy} {rc : (Nat → Int32) → (Nat → Nat → Int32) → (Nat → Nat) → (Nat → Int32) → (Nat → Int64) → (Nat → Nat → Int32) → (Nat → Nat → Int64) → (Nat → Int64) → (Nat) → (Nat) → Int32 → Option (Int32)} {xi : Nat → Int32} {xa : Nat → Nat → Int32} {xg : Nat → Nat} {mi : Nat → Int32} {mj : Nat → Int64} {ma : Nat → Nat → Int32} {mb : Nat → Nat → Int64} {fo : Nat → Int64} {kc ks c : Nat} {v4 : Int32} (hrc : ∀ (xi : Nat → Int32) (xa : Nat → Nat → Int32) (xg : Nat → Nat) (mi : Nat → Int32) (mj : Nat → Int64) (ma : Nat → Nat → Int32) (mb : Nat → Nat → Int64) (fo : Nat → Int64) (kc ks : Nat), R xi xa xg mi mj ma mb kc ks (c + 1) → rc xi xa xg mi mj ma mb fo kc ks (v4 + 6) = some 1) (hR : R xi xa xg mi mj ma mb kc ks (c + 1)) : m_Law_b797 n L xs rc xi xa xg mi mj ma mb fo kc ks v4 = some 1 := by
  unfold m_Law_b797
  rw [ob1_s]
  exact hrc _ _ _ _ _ _ _ _ _ _ hR

theorem bs_feed {n L : Nat} {xs : Nat → Int32} {R : RTy} {rc : (Nat → Int32) → (Nat → Nat → Int32) → (Nat → Nat) → (Nat → Int32) → (Nat → Int64) → (Nat → Nat → Int32) → (Nat → Nat → Int64) → (Nat → Int64) → (Nat) → (Nat) → Int32 → Option (Int32)} {xi : Nat → Int32} {xa : Nat → Nat → Int32} {xg : Nat → Nat} {mi : Nat → Int32} {mj : Nat → Int64} {ma : Nat → Nat → Int32} {mb : Nat → Nat → Int64} {fo : Nat → Int64} {kc ks c : Nat} {v4 : Int32} (hs : sm_feed n R) (hc : c < 512) (hv1 : vp_in (v4 + 1) L) (hv2 : vp_in (v4 + 2) L) (hv3 : vp_in (v4 + 3) L) (hv4 : vp_in (v4 + 4) L) (hv5 : vp_in (v4 + 5) L) (hrc : ∀ (xi : Nat → Int32) (xa : Nat → Nat → Int32) (xg : Nat → Nat) (mi : Nat → Int32) (mj : Nat → Int64) (ma : Nat → Nat → Int32) (mb : Nat → Nat → Int64) (fo : Nat → Int64) (kc ks : Nat), R xi xa xg mi mj ma mb kc ks (c + 1) → rc xi xa xg mi mj ma mb fo kc ks (v4 + 6) = some 1) (hR : R xi xa xg mi mj ma mb kc ks c) : m_Law_b140 n L xs rc xi xa xg mi mj ma mb fo kc ks v4 = some 1 := by
  obtain ⟨xi2, xa2, mi2, mj2, ma2, mb2, r, h1, h2, h3⟩ := hs xi xa xg mi mj ma mb kc ks c hc hR (xs (v4 + 1).toNatClampNeg) (xs (v4 + 2).toNatClampNeg) (xs (v4 + 3).toNatClampNeg) (xs (v4 + 4).toNatClampNeg) (xs (v4 + 5).toNatClampNeg)
  unfold m_Law_b140
  simp only [ck_in hv1, ck_in hv2, ck_in hv3, ck_in hv4, ck_in hv5, ob1_s, h1, ob_s, h2, om_s]
  first | rw [if_pos rfl] | rw [if_pos True.intro]
  exact bs_tail hrc h3

theorem bs_end {n L : Nat} {xs : Nat → Int32} {R : RTy} {rc : (Nat → Int32) → (Nat → Nat → Int32) → (Nat → Nat) → (Nat → Int32) → (Nat → Int64) → (Nat → Nat → Int32) → (Nat → Nat → Int64) → (Nat → Int64) → (Nat) → (Nat) → Int32 → Option (Int32)} {xi : Nat → Int32} {xa : Nat → Nat → Int32} {xg : Nat → Nat} {mi : Nat → Int32} {mj : Nat → Int64} {ma : Nat → Nat → Int32} {mb : Nat → Nat → Int64} {fo : Nat → Int64} {kc ks c : Nat} {v4 : Int32} (hs : sm_end n R) (hc : c < 512) (hv1 : vp_in (v4 + 1) L) (hv2 : vp_in (v4 + 2) L) (hv3 : vp_in (v4 + 3) L) (hv4 : vp_in (v4 + 4) L) (hv5 : vp_in (v4 + 5) L) (hrc : ∀ (xi : Nat → Int32) (xa : Nat → Nat → Int32) (xg : Nat → Nat) (mi : Nat → Int32) (mj : Nat → Int64) (ma : Nat → Nat → Int32) (mb : Nat → Nat → Int64) (fo : Nat → Int64) (kc ks : Nat), R xi xa xg mi mj ma mb kc ks (c + 1) → rc xi xa xg mi mj ma mb fo kc ks (v4 + 6) = some 1) (hR : R xi xa xg mi mj ma mb kc ks c) : m_Law_b213 n L xs rc xi xa xg mi mj ma mb fo kc ks v4 = some 1 := by
  obtain ⟨xi2, xa2, mi2, mj2, ma2, mb2, r, h1, h2, h3⟩ := hs xi xa xg mi mj ma mb kc ks c hc hR (xs (v4 + 1).toNatClampNeg)
  unfold m_Law_b213
  simp only [ck_in hv1, ob1_s, h1, ob_s, h2, om_s]
  first | rw [if_pos rfl] | rw [if_pos True.intro]
  exact bs_tail hrc h3

theorem bs_define {n L : Nat} {xs : Nat → Int32} {R : RTy} {rc : (Nat → Int32) → (Nat → Nat → Int32) → (Nat → Nat) → (Nat → Int32) → (Nat → Int64) → (Nat → Nat → Int32) → (Nat → Nat → Int64) → (Nat → Int64) → (Nat) → (Nat) → Int32 → Option (Int32)} {xi : Nat → Int32} {xa : Nat → Nat → Int32} {xg : Nat → Nat} {mi : Nat → Int32} {mj : Nat → Int64} {ma : Nat → Nat → Int32} {mb : Nat → Nat → Int64} {fo : Nat → Int64} {kc ks c : Nat} {v4 : Int32} (hs : sm_define n R) (hc : c < 512) (hv1 : vp_in (v4 + 1) L) (hv2 : vp_in (v4 + 2) L) (hv3 : vp_in (v4 + 3) L) (hv4 : vp_in (v4 + 4) L) (hv5 : vp_in (v4 + 5) L) (hrc : ∀ (xi : Nat → Int32) (xa : Nat → Nat → Int32) (xg : Nat → Nat) (mi : Nat → Int32) (mj : Nat → Int64) (ma : Nat → Nat → Int32) (mb : Nat → Nat → Int64) (fo : Nat → Int64) (kc ks : Nat), R xi xa xg mi mj ma mb kc ks (c + 1) → rc xi xa xg mi mj ma mb fo kc ks (v4 + 6) = some 1) (hR : R xi xa xg mi mj ma mb kc ks c) : m_Law_b238 n L xs rc xi xa xg mi mj ma mb fo kc ks v4 = some 1 := by
  obtain ⟨xi2, xa2, xg2, k, mi2, mj2, ma2, mb2, r, h1, h2, h4, h5, h3⟩ := hs xi xa xg mi mj ma mb kc ks c hc hR
  unfold m_Law_b238
  simp only [ob1_s, h1, om_s, cr_in h4 h5, h2]
  first | rw [if_pos rfl] | rw [if_pos True.intro]
  exact bs_tail hrc h3

theorem bs_line {n L : Nat} {xs : Nat → Int32} {R : RTy} {rc : (Nat → Int32) → (Nat → Nat → Int32) → (Nat → Nat) → (Nat → Int32) → (Nat → Int64) → (Nat → Nat → Int32) → (Nat → Nat → Int64) → (Nat → Int64) → (Nat) → (Nat) → Int32 → Option (Int32)} {xi : Nat → Int32} {xa : Nat → Nat → Int32} {xg : Nat → Nat} {mi : Nat → Int32} {mj : Nat → Int64} {ma : Nat → Nat → Int32} {mb : Nat → Nat → Int64} {fo : Nat → Int64} {kc ks c : Nat} {v4 : Int32} (hs : sm_line n R) (hc : c < 512) (hv1 : vp_in (v4 + 1) L) (hv2 : vp_in (v4 + 2) L) (hv3 : vp_in (v4 + 3) L) (hv4 : vp_in (v4 + 4) L) (hv5 : vp_in (v4 + 5) L) (hrc : ∀ (xi : Nat → Int32) (xa : Nat → Nat → Int32) (xg : Nat → Nat) (mi : Nat → Int32) (mj : Nat → Int64) (ma : Nat → Nat → Int32) (mb : Nat → Nat → Int64) (fo : Nat → Int64) (kc ks : Nat), R xi xa xg mi mj ma mb kc ks (c + 1) → rc xi xa xg mi mj ma mb fo kc ks (v4 + 6) = some 1) (hR : R xi xa xg mi mj ma mb kc ks c) : m_Law_b251 n L xs rc xi xa xg mi mj ma mb fo kc ks v4 = some 1 := by
  obtain ⟨xi2, xa2, xg2, k, mi2, mj2, ma2, mb2, r, h1, h2, h4, h5, h3⟩ := hs xi xa xg mi mj ma mb kc ks c hc hR
  unfold m_Law_b251
  simp only [ob1_s, h1, om_s, cr_in h4 h5, h2]
  first | rw [if_pos rfl] | rw [if_pos True.intro]
  exact bs_tail hrc h3

theorem bs_fault {n L : Nat} {xs : Nat → Int32} {R : RTy} {rc : (Nat → Int32) → (Nat → Nat → Int32) → (Nat → Nat) → (Nat → Int32) → (Nat → Int64) → (Nat → Nat → Int32) → (Nat → Nat → Int64) → (Nat → Int64) → (Nat) → (Nat) → Int32 → Option (Int32)} {xi : Nat → Int32} {xa : Nat → Nat → Int32} {xg : Nat → Nat} {mi : Nat → Int32} {mj : Nat → Int64} {ma : Nat → Nat → Int32} {mb : Nat → Nat → Int64} {fo : Nat → Int64} {kc ks c : Nat} {v4 : Int32} (hs : sm_fault n R) (hc : c < 512) (hv1 : vp_in (v4 + 1) L) (hv2 : vp_in (v4 + 2) L) (hv3 : vp_in (v4 + 3) L) (hv4 : vp_in (v4 + 4) L) (hv5 : vp_in (v4 + 5) L) (hrc : ∀ (xi : Nat → Int32) (xa : Nat → Nat → Int32) (xg : Nat → Nat) (mi : Nat → Int32) (mj : Nat → Int64) (ma : Nat → Nat → Int32) (mb : Nat → Nat → Int64) (fo : Nat → Int64) (kc ks : Nat), R xi xa xg mi mj ma mb kc ks (c + 1) → rc xi xa xg mi mj ma mb fo kc ks (v4 + 6) = some 1) (hR : R xi xa xg mi mj ma mb kc ks c) : m_Law_b264 n L xs rc xi xa xg mi mj ma mb fo kc ks v4 = some 1 := by
  obtain ⟨mi2, mj2, ma2, mb2, r, h1, h2, h3⟩ := hs xi xa xg mi mj ma mb kc ks c hc hR (xs (v4 + 1).toNatClampNeg)
  unfold m_Law_b264
  simp only [ck_in hv1, ob1_s, h1, ob0_s, h2, om_s]
  first | rw [if_pos rfl] | rw [if_pos True.intro]
  exact bs_tail hrc h3

theorem bs_run {n L : Nat} {xs : Nat → Int32} {R : RTy} {rc : (Nat → Int32) → (Nat → Nat → Int32) → (Nat → Nat) → (Nat → Int32) → (Nat → Int64) → (Nat → Nat → Int32) → (Nat → Nat → Int64) → (Nat → Int64) → (Nat) → (Nat) → Int32 → Option (Int32)} {xi : Nat → Int32} {xa : Nat → Nat → Int32} {xg : Nat → Nat} {mi : Nat → Int32} {mj : Nat → Int64} {ma : Nat → Nat → Int32} {mb : Nat → Nat → Int64} {fo : Nat → Int64} {kc ks c : Nat} {v4 : Int32} (hs : sm_run n R) (hc : c < 512) (hv1 : vp_in (v4 + 1) L) (hv2 : vp_in (v4 + 2) L) (hv3 : vp_in (v4 + 3) L) (hv4 : vp_in (v4 + 4) L) (hv5 : vp_in (v4 + 5) L) (hrc : ∀ (xi : Nat → Int32) (xa : Nat → Nat → Int32) (xg : Nat → Nat) (mi : Nat → Int32) (mj : Nat → Int64) (ma : Nat → Nat → Int32) (mb : Nat → Nat → Int64) (fo : Nat → Int64) (kc ks : Nat), R xi xa xg mi mj ma mb kc ks (c + 1) → rc xi xa xg mi mj ma mb fo kc ks (v4 + 6) = some 1) (hR : R xi xa xg mi mj ma mb kc ks c) : m_Law_b289 n L xs rc xi xa xg mi mj ma mb fo kc ks v4 = some 1 := by
  obtain ⟨xi2, xa2, xg2, k, mi2, mj2, ma2, mb2, r, h1, h2, h4, h5, h3⟩ := hs xi xa xg mi mj ma mb kc ks c hc hR (xs (v4 + 1).toNatClampNeg)
  unfold m_Law_b289
  simp only [ck_in hv1, ob1_s, h1, om_s, cr_in h4 h5, h2]
  first | rw [if_pos rfl] | rw [if_pos True.intro]
  exact bs_tail hrc h3

theorem bs_go {n L : Nat} {xs : Nat → Int32} {R : RTy} {rc : (Nat → Int32) → (Nat → Nat → Int32) → (Nat → Nat) → (Nat → Int32) → (Nat → Int64) → (Nat → Nat → Int32) → (Nat → Nat → Int64) → (Nat → Int64) → (Nat) → (Nat) → Int32 → Option (Int32)} {xi : Nat → Int32} {xa : Nat → Nat → Int32} {xg : Nat → Nat} {mi : Nat → Int32} {mj : Nat → Int64} {ma : Nat → Nat → Int32} {mb : Nat → Nat → Int64} {fo : Nat → Int64} {kc ks c : Nat} {v4 : Int32} (hs : sm_go n R) (hc : c < 512) (hv1 : vp_in (v4 + 1) L) (hv2 : vp_in (v4 + 2) L) (hv3 : vp_in (v4 + 3) L) (hv4 : vp_in (v4 + 4) L) (hv5 : vp_in (v4 + 5) L) (hrc : ∀ (xi : Nat → Int32) (xa : Nat → Nat → Int32) (xg : Nat → Nat) (mi : Nat → Int32) (mj : Nat → Int64) (ma : Nat → Nat → Int32) (mb : Nat → Nat → Int64) (fo : Nat → Int64) (kc ks : Nat), R xi xa xg mi mj ma mb kc ks (c + 1) → rc xi xa xg mi mj ma mb fo kc ks (v4 + 6) = some 1) (hR : R xi xa xg mi mj ma mb kc ks c) : m_Law_b314 n L xs rc xi xa xg mi mj ma mb fo kc ks v4 = some 1 := by
  obtain ⟨xi2, xa2, xg2, k, mi2, mj2, ma2, mb2, r, h1, h2, h4, h5, h3⟩ := hs xi xa xg mi mj ma mb kc ks c hc hR (xs (v4 + 1).toNatClampNeg)
  unfold m_Law_b314
  simp only [ck_in hv1, ob1_s, h1, om_s, cr_in h4 h5, h2]
  first | rw [if_pos rfl] | rw [if_pos True.intro]
  exact bs_tail hrc h3

theorem bs_stop {n L : Nat} {xs : Nat → Int32} {R : RTy} {rc : (Nat → Int32) → (Nat → Nat → Int32) → (Nat → Nat) → (Nat → Int32) → (Nat → Int64) → (Nat → Nat → Int32) → (Nat → Nat → Int64) → (Nat → Int64) → (Nat) → (Nat) → Int32 → Option (Int32)} {xi : Nat → Int32} {xa : Nat → Nat → Int32} {xg : Nat → Nat} {mi : Nat → Int32} {mj : Nat → Int64} {ma : Nat → Nat → Int32} {mb : Nat → Nat → Int64} {fo : Nat → Int64} {kc ks c : Nat} {v4 : Int32} (hs : sm_stop n R) (hc : c < 512) (hv1 : vp_in (v4 + 1) L) (hv2 : vp_in (v4 + 2) L) (hv3 : vp_in (v4 + 3) L) (hv4 : vp_in (v4 + 4) L) (hv5 : vp_in (v4 + 5) L) (hrc : ∀ (xi : Nat → Int32) (xa : Nat → Nat → Int32) (xg : Nat → Nat) (mi : Nat → Int32) (mj : Nat → Int64) (ma : Nat → Nat → Int32) (mb : Nat → Nat → Int64) (fo : Nat → Int64) (kc ks : Nat), R xi xa xg mi mj ma mb kc ks (c + 1) → rc xi xa xg mi mj ma mb fo kc ks (v4 + 6) = some 1) (hR : R xi xa xg mi mj ma mb kc ks c) : m_Law_b339 n L xs rc xi xa xg mi mj ma mb fo kc ks v4 = some 1 := by
  obtain ⟨xi2, xa2, mi2, mj2, ma2, mb2, r, h1, h2, h3⟩ := hs xi xa xg mi mj ma mb kc ks c hc hR
  unfold m_Law_b339
  simp only [ob1_s, h1, ob_s, h2, om_s]
  first | rw [if_pos rfl] | rw [if_pos True.intro]
  exact bs_tail hrc h3

theorem bs_look {n L : Nat} {xs : Nat → Int32} {R : RTy} {rc : (Nat → Int32) → (Nat → Nat → Int32) → (Nat → Nat) → (Nat → Int32) → (Nat → Int64) → (Nat → Nat → Int32) → (Nat → Nat → Int64) → (Nat → Int64) → (Nat) → (Nat) → Int32 → Option (Int32)} {xi : Nat → Int32} {xa : Nat → Nat → Int32} {xg : Nat → Nat} {mi : Nat → Int32} {mj : Nat → Int64} {ma : Nat → Nat → Int32} {mb : Nat → Nat → Int64} {fo : Nat → Int64} {kc ks c : Nat} {v4 : Int32} (hs : sm_look n R) (hc : c < 512) (hv1 : vp_in (v4 + 1) L) (hv2 : vp_in (v4 + 2) L) (hv3 : vp_in (v4 + 3) L) (hv4 : vp_in (v4 + 4) L) (hv5 : vp_in (v4 + 5) L) (hrc : ∀ (xi : Nat → Int32) (xa : Nat → Nat → Int32) (xg : Nat → Nat) (mi : Nat → Int32) (mj : Nat → Int64) (ma : Nat → Nat → Int32) (mb : Nat → Nat → Int64) (fo : Nat → Int64) (kc ks : Nat), R xi xa xg mi mj ma mb kc ks (c + 1) → rc xi xa xg mi mj ma mb fo kc ks (v4 + 6) = some 1) (hR : R xi xa xg mi mj ma mb kc ks c) : m_Law_b352 n L xs rc xi xa xg mi mj ma mb fo kc ks v4 = some 1 := by
  obtain ⟨mi2, mj2, ma2, mb2, r, h1, h2, h3⟩ := hs xi xa xg mi mj ma mb kc ks c hc hR (xs (v4 + 1).toNatClampNeg)
  unfold m_Law_b352
  simp only [ck_in hv1, ob1_s, h1, ob0_s, h2, om_s]
  first | rw [if_pos rfl] | rw [if_pos True.intro]
  exact bs_tail hrc h3

theorem bs_turtle {n L : Nat} {xs : Nat → Int32} {R : RTy} {rc : (Nat → Int32) → (Nat → Nat → Int32) → (Nat → Nat) → (Nat → Int32) → (Nat → Int64) → (Nat → Nat → Int32) → (Nat → Nat → Int64) → (Nat → Int64) → (Nat) → (Nat) → Int32 → Option (Int32)} {xi : Nat → Int32} {xa : Nat → Nat → Int32} {xg : Nat → Nat} {mi : Nat → Int32} {mj : Nat → Int64} {ma : Nat → Nat → Int32} {mb : Nat → Nat → Int64} {fo : Nat → Int64} {kc ks c : Nat} {v4 : Int32} (hs : sm_turtle n R) (hc : c < 512) (hv1 : vp_in (v4 + 1) L) (hv2 : vp_in (v4 + 2) L) (hv3 : vp_in (v4 + 3) L) (hv4 : vp_in (v4 + 4) L) (hv5 : vp_in (v4 + 5) L) (hrc : ∀ (xi : Nat → Int32) (xa : Nat → Nat → Int32) (xg : Nat → Nat) (mi : Nat → Int32) (mj : Nat → Int64) (ma : Nat → Nat → Int32) (mb : Nat → Nat → Int64) (fo : Nat → Int64) (kc ks : Nat), R xi xa xg mi mj ma mb kc ks (c + 1) → rc xi xa xg mi mj ma mb fo kc ks (v4 + 6) = some 1) (hR : R xi xa xg mi mj ma mb kc ks c) : m_Law_b537 n L xs rc xi xa xg mi mj ma mb fo kc ks v4 = some 1 := by
  obtain ⟨mi2, mj2, ma2, mb2, r, h1, h2, h3⟩ := hs xi xa xg mi mj ma mb kc ks c hc hR (xs (v4 + 1).toNatClampNeg) (xs (v4 + 2).toNatClampNeg)
  unfold m_Law_b537
  simp only [ck_in hv1, ck_in hv2, ob1_s, h1, ob0_s, h2, om_s]
  first | rw [if_pos rfl] | rw [if_pos True.intro]
  exact bs_tail hrc h3

theorem bs_dot {n L : Nat} {xs : Nat → Int32} {R : RTy} {rc : (Nat → Int32) → (Nat → Nat → Int32) → (Nat → Nat) → (Nat → Int32) → (Nat → Int64) → (Nat → Nat → Int32) → (Nat → Nat → Int64) → (Nat → Int64) → (Nat) → (Nat) → Int32 → Option (Int32)} {xi : Nat → Int32} {xa : Nat → Nat → Int32} {xg : Nat → Nat} {mi : Nat → Int32} {mj : Nat → Int64} {ma : Nat → Nat → Int32} {mb : Nat → Nat → Int64} {fo : Nat → Int64} {kc ks c : Nat} {v4 : Int32} (hs : sm_dot n R) (hc : c < 512) (hv1 : vp_in (v4 + 1) L) (hv2 : vp_in (v4 + 2) L) (hv3 : vp_in (v4 + 3) L) (hv4 : vp_in (v4 + 4) L) (hv5 : vp_in (v4 + 5) L) (hrc : ∀ (xi : Nat → Int32) (xa : Nat → Nat → Int32) (xg : Nat → Nat) (mi : Nat → Int32) (mj : Nat → Int64) (ma : Nat → Nat → Int32) (mb : Nat → Nat → Int64) (fo : Nat → Int64) (kc ks : Nat), R xi xa xg mi mj ma mb kc ks (c + 1) → rc xi xa xg mi mj ma mb fo kc ks (v4 + 6) = some 1) (hR : R xi xa xg mi mj ma mb kc ks c) : m_Law_b574 n L xs rc xi xa xg mi mj ma mb fo kc ks v4 = some 1 := by
  obtain ⟨mi2, mj2, ma2, mb2, r, h1, h2, h3⟩ := hs xi xa xg mi mj ma mb kc ks c hc hR (xs (v4 + 1).toNatClampNeg) (xs (v4 + 2).toNatClampNeg)
  unfold m_Law_b574
  simp only [ck_in hv1, ck_in hv2, ob1_s, h1, ob0_s, h2, om_s]
  first | rw [if_pos rfl] | rw [if_pos True.intro]
  exact bs_tail hrc h3

theorem bs_out {n L : Nat} {xs : Nat → Int32} {R : RTy} {rc : (Nat → Int32) → (Nat → Nat → Int32) → (Nat → Nat) → (Nat → Int32) → (Nat → Int64) → (Nat → Nat → Int32) → (Nat → Nat → Int64) → (Nat → Int64) → (Nat) → (Nat) → Int32 → Option (Int32)} {xi : Nat → Int32} {xa : Nat → Nat → Int32} {xg : Nat → Nat} {mi : Nat → Int32} {mj : Nat → Int64} {ma : Nat → Nat → Int32} {mb : Nat → Nat → Int64} {fo : Nat → Int64} {kc ks c : Nat} {v4 : Int32} (hs : sm_out n R) (hc : c < 512) (hv1 : vp_in (v4 + 1) L) (hv2 : vp_in (v4 + 2) L) (hv3 : vp_in (v4 + 3) L) (hv4 : vp_in (v4 + 4) L) (hv5 : vp_in (v4 + 5) L) (hrc : ∀ (xi : Nat → Int32) (xa : Nat → Nat → Int32) (xg : Nat → Nat) (mi : Nat → Int32) (mj : Nat → Int64) (ma : Nat → Nat → Int32) (mb : Nat → Nat → Int64) (fo : Nat → Int64) (kc ks : Nat), R xi xa xg mi mj ma mb kc ks (c + 1) → rc xi xa xg mi mj ma mb fo kc ks (v4 + 6) = some 1) (hR : R xi xa xg mi mj ma mb kc ks c) : m_Law_b611 n L xs rc xi xa xg mi mj ma mb fo kc ks v4 = some 1 := by
  obtain ⟨mi2, mj2, ma2, mb2, r, h1, h2, h3⟩ := hs xi xa xg mi mj ma mb kc ks c hc hR (xs (v4 + 1).toNatClampNeg)
  unfold m_Law_b611
  simp only [ck_in hv1, ob1_s, h1, ob0_s, h2, om_s]
  first | rw [if_pos rfl] | rw [if_pos True.intro]
  exact bs_tail hrc h3

theorem bs_name {n L : Nat} {xs : Nat → Int32} {R : RTy} {rc : (Nat → Int32) → (Nat → Nat → Int32) → (Nat → Nat) → (Nat → Int32) → (Nat → Int64) → (Nat → Nat → Int32) → (Nat → Nat → Int64) → (Nat → Int64) → (Nat) → (Nat) → Int32 → Option (Int32)} {xi : Nat → Int32} {xa : Nat → Nat → Int32} {xg : Nat → Nat} {mi : Nat → Int32} {mj : Nat → Int64} {ma : Nat → Nat → Int32} {mb : Nat → Nat → Int64} {fo : Nat → Int64} {kc ks c : Nat} {v4 : Int32} (hs : sm_name n R) (hc : c < 512) (hv1 : vp_in (v4 + 1) L) (hv2 : vp_in (v4 + 2) L) (hv3 : vp_in (v4 + 3) L) (hv4 : vp_in (v4 + 4) L) (hv5 : vp_in (v4 + 5) L) (hrc : ∀ (xi : Nat → Int32) (xa : Nat → Nat → Int32) (xg : Nat → Nat) (mi : Nat → Int32) (mj : Nat → Int64) (ma : Nat → Nat → Int32) (mb : Nat → Nat → Int64) (fo : Nat → Int64) (kc ks : Nat), R xi xa xg mi mj ma mb kc ks (c + 1) → rc xi xa xg mi mj ma mb fo kc ks (v4 + 6) = some 1) (hR : R xi xa xg mi mj ma mb kc ks c) : m_Law_b636 n L xs rc xi xa xg mi mj ma mb fo kc ks v4 = some 1 := by
  obtain ⟨mi2, mj2, ma2, mb2, r, h1, h2, h3⟩ := hs xi xa xg mi mj ma mb kc ks c hc hR (xs (v4 + 1).toNatClampNeg) (xs (v4 + 2).toNatClampNeg)
  unfold m_Law_b636
  simp only [ck_in hv1, ck_in hv2, ob1_s, h1, ob0_s, h2, om_s]
  first | rw [if_pos rfl] | rw [if_pos True.intro]
  exact bs_tail hrc h3

theorem bs_value {n L : Nat} {xs : Nat → Int32} {R : RTy} {rc : (Nat → Int32) → (Nat → Nat → Int32) → (Nat → Nat) → (Nat → Int32) → (Nat → Int64) → (Nat → Nat → Int32) → (Nat → Nat → Int64) → (Nat → Int64) → (Nat) → (Nat) → Int32 → Option (Int32)} {xi : Nat → Int32} {xa : Nat → Nat → Int32} {xg : Nat → Nat} {mi : Nat → Int32} {mj : Nat → Int64} {ma : Nat → Nat → Int32} {mb : Nat → Nat → Int64} {fo : Nat → Int64} {kc ks c : Nat} {v4 : Int32} (hs : sm_value n R) (hc : c < 512) (hv1 : vp_in (v4 + 1) L) (hv2 : vp_in (v4 + 2) L) (hv3 : vp_in (v4 + 3) L) (hv4 : vp_in (v4 + 4) L) (hv5 : vp_in (v4 + 5) L) (hrc : ∀ (xi : Nat → Int32) (xa : Nat → Nat → Int32) (xg : Nat → Nat) (mi : Nat → Int32) (mj : Nat → Int64) (ma : Nat → Nat → Int32) (mb : Nat → Nat → Int64) (fo : Nat → Int64) (kc ks : Nat), R xi xa xg mi mj ma mb kc ks (c + 1) → rc xi xa xg mi mj ma mb fo kc ks (v4 + 6) = some 1) (hR : R xi xa xg mi mj ma mb kc ks c) : m_Law_b673 n L xs rc xi xa xg mi mj ma mb fo kc ks v4 = some 1 := by
  obtain ⟨xi2, xa2, mi2, mj2, ma2, mb2, r, h1, h2, h3⟩ := hs xi xa xg mi mj ma mb kc ks c hc hR (xs (v4 + 1).toNatClampNeg) (xs (v4 + 2).toNatClampNeg)
  unfold m_Law_b673
  simp only [ck_in hv1, ck_in hv2, ob1_s, h1, ob_s, h2, om_s]
  first | rw [if_pos rfl] | rw [if_pos True.intro]
  exact bs_tail hrc h3

theorem bs_procedure {n L : Nat} {xs : Nat → Int32} {R : RTy} {rc : (Nat → Int32) → (Nat → Nat → Int32) → (Nat → Nat) → (Nat → Int32) → (Nat → Int64) → (Nat → Nat → Int32) → (Nat → Nat → Int64) → (Nat → Int64) → (Nat) → (Nat) → Int32 → Option (Int32)} {xi : Nat → Int32} {xa : Nat → Nat → Int32} {xg : Nat → Nat} {mi : Nat → Int32} {mj : Nat → Int64} {ma : Nat → Nat → Int32} {mb : Nat → Nat → Int64} {fo : Nat → Int64} {kc ks c : Nat} {v4 : Int32} (hs : sm_procedure n R) (hc : c < 512) (hv1 : vp_in (v4 + 1) L) (hv2 : vp_in (v4 + 2) L) (hv3 : vp_in (v4 + 3) L) (hv4 : vp_in (v4 + 4) L) (hv5 : vp_in (v4 + 5) L) (hrc : ∀ (xi : Nat → Int32) (xa : Nat → Nat → Int32) (xg : Nat → Nat) (mi : Nat → Int32) (mj : Nat → Int64) (ma : Nat → Nat → Int32) (mb : Nat → Nat → Int64) (fo : Nat → Int64) (kc ks : Nat), R xi xa xg mi mj ma mb kc ks (c + 1) → rc xi xa xg mi mj ma mb fo kc ks (v4 + 6) = some 1) (hR : R xi xa xg mi mj ma mb kc ks c) : m_Law_b710 n L xs rc xi xa xg mi mj ma mb fo kc ks v4 = some 1 := by
  obtain ⟨mi2, mj2, ma2, mb2, r, h1, h2, h3⟩ := hs xi xa xg mi mj ma mb kc ks c hc hR (xs (v4 + 1).toNatClampNeg) (xs (v4 + 2).toNatClampNeg)
  unfold m_Law_b710
  simp only [ck_in hv1, ck_in hv2, ob1_s, h1, ob0_s, h2, om_s]
  first | rw [if_pos rfl] | rw [if_pos True.intro]
  exact bs_tail hrc h3

theorem bs_call {n L : Nat} {xs : Nat → Int32} {R : RTy} {rc : (Nat → Int32) → (Nat → Nat → Int32) → (Nat → Nat) → (Nat → Int32) → (Nat → Int64) → (Nat → Nat → Int32) → (Nat → Nat → Int64) → (Nat → Int64) → (Nat) → (Nat) → Int32 → Option (Int32)} {xi : Nat → Int32} {xa : Nat → Nat → Int32} {xg : Nat → Nat} {mi : Nat → Int32} {mj : Nat → Int64} {ma : Nat → Nat → Int32} {mb : Nat → Nat → Int64} {fo : Nat → Int64} {kc ks c : Nat} {v4 : Int32} (hs : sm_call n R) (hc : c < 512) (hv1 : vp_in (v4 + 1) L) (hv2 : vp_in (v4 + 2) L) (hv3 : vp_in (v4 + 3) L) (hv4 : vp_in (v4 + 4) L) (hv5 : vp_in (v4 + 5) L) (hrc : ∀ (xi : Nat → Int32) (xa : Nat → Nat → Int32) (xg : Nat → Nat) (mi : Nat → Int32) (mj : Nat → Int64) (ma : Nat → Nat → Int32) (mb : Nat → Nat → Int64) (fo : Nat → Int64) (kc ks : Nat), R xi xa xg mi mj ma mb kc ks (c + 1) → rc xi xa xg mi mj ma mb fo kc ks (v4 + 6) = some 1) (hR : R xi xa xg mi mj ma mb kc ks c) : m_Law_b747 n L xs rc xi xa xg mi mj ma mb fo kc ks v4 = some 1 := by
  obtain ⟨mi2, mj2, ma2, mb2, r, h1, h2, h3⟩ := hs xi xa xg mi mj ma mb kc ks c hc hR (xs (v4 + 1).toNatClampNeg) (xs (v4 + 2).toNatClampNeg)
  unfold m_Law_b747
  simp only [ck_in hv1, ck_in hv2, ob1_s, h1, ob0_s, h2, om_s]
  first | rw [if_pos rfl] | rw [if_pos True.intro]
  exact bs_tail hrc h3

theorem bs_sum {n L : Nat} {xs : Nat → Int32} {R : RTy} {rc : (Nat → Int32) → (Nat → Nat → Int32) → (Nat → Nat) → (Nat → Int32) → (Nat → Int64) → (Nat → Nat → Int32) → (Nat → Nat → Int64) → (Nat → Int64) → (Nat) → (Nat) → Int32 → Option (Int32)} {xi : Nat → Int32} {xa : Nat → Nat → Int32} {xg : Nat → Nat} {mi : Nat → Int32} {mj : Nat → Int64} {ma : Nat → Nat → Int32} {mb : Nat → Nat → Int64} {fo : Nat → Int64} {kc ks c : Nat} {v4 : Int32} (hs : sm_sum n R) (hc : c < 512) (hv1 : vp_in (v4 + 1) L) (hv2 : vp_in (v4 + 2) L) (hv3 : vp_in (v4 + 3) L) (hv4 : vp_in (v4 + 4) L) (hv5 : vp_in (v4 + 5) L) (hrc : ∀ (xi : Nat → Int32) (xa : Nat → Nat → Int32) (xg : Nat → Nat) (mi : Nat → Int32) (mj : Nat → Int64) (ma : Nat → Nat → Int32) (mb : Nat → Nat → Int64) (fo : Nat → Int64) (kc ks : Nat), R xi xa xg mi mj ma mb kc ks (c + 1) → rc xi xa xg mi mj ma mb fo kc ks (v4 + 6) = some 1) (hR : R xi xa xg mi mj ma mb kc ks c) : m_Law_b784 n L xs rc xi xa xg mi mj ma mb fo kc ks v4 = some 1 := by
  obtain ⟨mi2, mj2, ma2, mb2, r, h1, h2, h3⟩ := hs xi xa xg mi mj ma mb kc ks c hc hR
  unfold m_Law_b784
  simp only [ob1_s, h1, ob0_s, h2, om_s]
  first | rw [if_pos rfl] | rw [if_pos True.intro]
  exact bs_tail hrc h3

theorem bs_place {n L : Nat} {xs : Nat → Int32} {R : RTy} {rc : (Nat → Int32) → (Nat → Nat → Int32) → (Nat → Nat) → (Nat → Int32) → (Nat → Int64) → (Nat → Nat → Int32) → (Nat → Nat → Int64) → (Nat → Int64) → (Nat) → (Nat) → Int32 → Option (Int32)} {xi : Nat → Int32} {xa : Nat → Nat → Int32} {xg : Nat → Nat} {mi : Nat → Int32} {mj : Nat → Int64} {ma : Nat → Nat → Int32} {mb : Nat → Nat → Int64} {fo : Nat → Int64} {kc ks c : Nat} {v4 : Int32} (hs1 : sm_place_bad n R) (hs2 : sm_place_ok n R) (hc : c < 512) (hv1 : vp_in (v4 + 1) L) (hv2 : vp_in (v4 + 2) L) (hv3 : vp_in (v4 + 3) L) (hv4 : vp_in (v4 + 4) L) (hv5 : vp_in (v4 + 5) L) (hrc : ∀ (xi : Nat → Int32) (xa : Nat → Nat → Int32) (xg : Nat → Nat) (mi : Nat → Int32) (mj : Nat → Int64) (ma : Nat → Nat → Int32) (mb : Nat → Nat → Int64) (fo : Nat → Int64) (kc ks : Nat), R xi xa xg mi mj ma mb kc ks (c + 1) → rc xi xa xg mi mj ma mb fo kc ks (v4 + 6) = some 1) (hR : R xi xa xg mi mj ma mb kc ks c) : m_Law_b377 n L xs rc xi xa xg mi mj ma mb fo kc ks v4 = some 1 := by
  unfold m_Law_b377
  simp only [ck_in hv1, ck_in hv2, ck_in hv3, ob1_s]
  rcases Classical.em (ts_exists (xs (v4 + 1).toNatClampNeg) = 0 ∨ (xs (v4 + 2).toNatClampNeg) < 0 ∨ 1 < (xs (v4 + 2).toNatClampNeg) ∨ (xs (v4 + 3).toNatClampNeg) < 0 ∨ ¬ (xs (v4 + 3).toNatClampNeg) ≤ 1) with hb | hb
  · rw [if_pos hb]
    obtain ⟨mi2, mj2, ma2, mb2, r, h1, h2, h4, h5, h3⟩ := hs1 xi xa xg mi mj ma mb kc ks c hc hR (xs (v4 + 1).toNatClampNeg) (xs (v4 + 2).toNatClampNeg) (xs (v4 + 3).toNatClampNeg) hb
    rw [cr_in h4 h5]
    simp only [h1, om_s, m_Model_thrown, ob0_s, h2]
    rw [if_pos True.intro, if_neg (by decide)]
    unfold m_Law_b454
    exact bs_tail hrc h3
  · rw [if_neg hb]
    obtain ⟨mi2, mj2, ma2, mb2, r, h1, h2, h4, h3⟩ := hs2 xi xa xg mi mj ma mb kc ks c hc hR (xs (v4 + 1).toNatClampNeg) (xs (v4 + 2).toNatClampNeg) (xs (v4 + 3).toNatClampNeg) hb
    simp only [h1, om_s, m_Model_thrown, ob0_s, h2]
    rw [if_pos (show (0 : Int32) = m_Law_place_r from rfl), if_pos (show m_Law_place_r = (0 : Int32) from rfl), ck_in (show vp_in 0 1 by unfold vp_in; decide), if_pos ?_]
    · unfold m_Law_b454
      exact bs_tail hrc h3
    · rw [← h4]
      show lg_cmp ((m_World_place_r (xa 20) (xs (v4 + 1).toNatClampNeg) (xs (v4 + 2).toNatClampNeg) (xs (v4 + 3).toNatClampNeg)).toInt64) ((m_World_place_r (xa 20) (xs (v4 + 1).toNatClampNeg) (xs (v4 + 2).toNatClampNeg) (xs (v4 + 3).toNatClampNeg)).toInt64) = 0
      exact lg_self _

theorem bs_side {n L : Nat} {xs : Nat → Int32} {R : RTy} {rc : (Nat → Int32) → (Nat → Nat → Int32) → (Nat → Nat) → (Nat → Int32) → (Nat → Int64) → (Nat → Nat → Int32) → (Nat → Nat → Int64) → (Nat → Int64) → (Nat) → (Nat) → Int32 → Option (Int32)} {xi : Nat → Int32} {xa : Nat → Nat → Int32} {xg : Nat → Nat} {mi : Nat → Int32} {mj : Nat → Int64} {ma : Nat → Nat → Int32} {mb : Nat → Nat → Int64} {fo : Nat → Int64} {kc ks c : Nat} {v4 : Int32} (hs1 : sm_side_bad n R) (hs2 : sm_side_ok n R) (hc : c < 512) (hv1 : vp_in (v4 + 1) L) (hv2 : vp_in (v4 + 2) L) (hv3 : vp_in (v4 + 3) L) (hv4 : vp_in (v4 + 4) L) (hv5 : vp_in (v4 + 5) L) (hrc : ∀ (xi : Nat → Int32) (xa : Nat → Nat → Int32) (xg : Nat → Nat) (mi : Nat → Int32) (mj : Nat → Int64) (ma : Nat → Nat → Int32) (mb : Nat → Nat → Int64) (fo : Nat → Int64) (kc ks : Nat), R xi xa xg mi mj ma mb kc ks (c + 1) → rc xi xa xg mi mj ma mb fo kc ks (v4 + 6) = some 1) (hR : R xi xa xg mi mj ma mb kc ks c) : m_Law_b457 n L xs rc xi xa xg mi mj ma mb fo kc ks v4 = some 1 := by
  unfold m_Law_b457
  simp only [ck_in hv1, ck_in hv2, ck_in hv3, ob1_s]
  rcases Classical.em (ts_exists (xs (v4 + 1).toNatClampNeg) = 0 ∨ (xs (v4 + 2).toNatClampNeg) < 0 ∨ ¬ (xs (v4 + 2).toNatClampNeg) ≤ 1) with hb | hb
  · rw [if_pos hb]
    obtain ⟨mi2, mj2, ma2, mb2, r, h1, h2, h4, h5, h3⟩ := hs1 xi xa xg mi mj ma mb kc ks c hc hR (xs (v4 + 1).toNatClampNeg) (xs (v4 + 2).toNatClampNeg) (xs (v4 + 3).toNatClampNeg) hb
    rw [cr_in h4 h5]
    simp only [h1, om_s, m_Model_thrown, ob0_s, h2]
    rw [if_pos True.intro, if_neg (by decide)]
    unfold m_Law_b534
    exact bs_tail hrc h3
  · rw [if_neg hb]
    obtain ⟨mi2, mj2, ma2, mb2, r, h1, h2, h4, h3⟩ := hs2 xi xa xg mi mj ma mb kc ks c hc hR (xs (v4 + 1).toNatClampNeg) (xs (v4 + 2).toNatClampNeg) (xs (v4 + 3).toNatClampNeg) hb
    simp only [h1, om_s, m_Model_thrown, ob0_s, h2]
    rw [if_pos (show (0 : Int32) = m_Law_side_r from rfl), if_pos (show m_Law_side_r = (0 : Int32) from rfl), ck_in (show vp_in 0 1 by unfold vp_in; decide), if_pos ?_]
    · unfold m_Law_b534
      exact bs_tail hrc h3
    · rw [← h4]
      show lg_cmp ((m_World_side_r (xa 20) (xs (v4 + 1).toNatClampNeg) (xs (v4 + 2).toNatClampNeg) (xs (v4 + 3).toNatClampNeg)).toInt64) ((m_World_side_r (xa 20) (xs (v4 + 1).toNatClampNeg) (xs (v4 + 2).toNatClampNeg) (xs (v4 + 3).toNatClampNeg)).toInt64) = 0
      exact lg_self _

theorem nI_plus (a b : Nat) : nI a + Int32.ofNat b = nI (a + b) := by
  unfold nI
  rw [Int32.ofNat_add]
theorem law_sim {n L : Nat} {xs : Nat → Int32} {R : RTy} (hL : L ≤ 3073) (s0 : sm_feed n R) (s1 : sm_end n R) (s2 : sm_define n R) (s3 : sm_line n R) (s4 : sm_fault n R) (s5 : sm_run n R) (s6 : sm_go n R) (s7 : sm_stop n R) (s8 : sm_look n R) (s11 : sm_turtle n R) (s12 : sm_dot n R) (s13 : sm_out n R) (s14 : sm_name n R) (s15 : sm_value n R) (s16 : sm_procedure n R) (s17 : sm_call n R) (s18 : sm_sum n R) (s9 : sm_place_bad n R) (s9o : sm_place_ok n R) (s10 : sm_side_bad n R) (s10o : sm_side_ok n R) (sn : sm_none R) : ∀ (f k : Nat), L + 6 ≤ 6 * (k + f) → (k = 0 ∨ 6 * k + 1 ≤ L) → ∀ (xi : Nat → Int32) (xa : Nat → Nat → Int32) (xg : Nat → Nat) (mi : Nat → Int32) (mj : Nat → Int64) (ma : Nat → Nat → Int32) (mb : Nat → Nat → Int64) (fo : Nat → Int64) (kc ks : Nat), R xi xa xg mi mj ma mb kc ks k → m_Law_b33 n L xs f xi xa xg mi mj ma mb fo kc ks (nI (1 + 6 * k)) = some 1 := by
  intro f
  induction f with
  | zero => intro k h1 h2; omega
  | succ f ih =>
    intro k h1 h2 xi xa xg mi mj ma mb fo kc ks hR
    rw [m_Law_b33]
    have q1 : (nI (1 + 6 * k)).toInt = ((1 + 6 * k : Nat) : Int) := nI_toInt (by omega)
    have q2 : (Int32.ofNat L).toInt = (L : Int) := nI_toInt (n := L) (by omega)
    have q3 : (Int32.ofNat L - 6).toInt = (L : Int) - 6 := by
      rw [i32_sub (by rw [q2]; simp only [Int32.reduceToInt]; omega) (by rw [q2]; simp only [Int32.reduceToInt]; omega), q2]
      simp only [Int32.reduceToInt]
    rcases Classical.em (Int32.ofNat L - 6 < nI (1 + 6 * k)) with h | h
    · rw [if_pos h]
    rw [if_neg h]
    rw [Int32.lt_iff_toInt_lt, q1, q3] at h
    have hin : ∀ j : Nat, j < 6 → vp_in (nI (1 + 6 * k + j)) L := fun j hj => nI_in (by omega) (by omega)
    have hv0 : vp_in (nI (1 + 6 * k)) L := hin 0 (by omega)
    have hv1 : vp_in (nI (1 + 6 * k) + 1) L := by rw [show (1 : Int32) = Int32.ofNat 1 from rfl, nI_plus]; exact hin 1 (by omega)
    have hv2 : vp_in (nI (1 + 6 * k) + 2) L := by rw [show (2 : Int32) = Int32.ofNat 2 from rfl, nI_plus]; exact hin 2 (by omega)
    have hv3 : vp_in (nI (1 + 6 * k) + 3) L := by rw [show (3 : Int32) = Int32.ofNat 3 from rfl, nI_plus]; exact hin 3 (by omega)
    have hv4 : vp_in (nI (1 + 6 * k) + 4) L := by rw [show (4 : Int32) = Int32.ofNat 4 from rfl, nI_plus]; exact hin 4 (by omega)
    have hv5 : vp_in (nI (1 + 6 * k) + 5) L := by rw [show (5 : Int32) = Int32.ofNat 5 from rfl, nI_plus]; exact hin 5 (by omega)
    have hc : k < 512 := by omega
    have hrc : ∀ (xi : Nat → Int32) (xa : Nat → Nat → Int32) (xg : Nat → Nat) (mi : Nat → Int32) (mj : Nat → Int64) (ma : Nat → Nat → Int32) (mb : Nat → Nat → Int64) (fo : Nat → Int64) (kc ks : Nat), R xi xa xg mi mj ma mb kc ks (k + 1) → m_Law_b33 n L xs f xi xa xg mi mj ma mb fo kc ks (nI (1 + 6 * k) + 6) = some 1 := by
      intro xi xa xg mi mj ma mb fo kc ks hR
      rw [show (6 : Int32) = Int32.ofNat 6 from rfl, nI_plus, show 1 + 6 * k + 6 = 1 + 6 * (k + 1) by omega]
      exact ih (k + 1) (by omega) (Or.inr (by omega)) xi xa xg mi mj ma mb fo kc ks hR
    rw [ck_in hv0, ob1_s, ob1_s]
    rcases Classical.em (xs (nI (1 + 6 * k)).toNatClampNeg &&& 31 = 0) with e0 | e0
    · rw [if_pos e0]
      exact bs_feed s0 hc hv1 hv2 hv3 hv4 hv5 hrc hR
    rw [if_neg e0]
    rcases Classical.em (xs (nI (1 + 6 * k)).toNatClampNeg &&& 31 = 1) with e1 | e1
    · rw [if_pos e1]
      exact bs_end s1 hc hv1 hv2 hv3 hv4 hv5 hrc hR
    rw [if_neg e1]
    rcases Classical.em (xs (nI (1 + 6 * k)).toNatClampNeg &&& 31 = 2) with e2 | e2
    · rw [if_pos e2]
      exact bs_define s2 hc hv1 hv2 hv3 hv4 hv5 hrc hR
    rw [if_neg e2]
    rcases Classical.em (xs (nI (1 + 6 * k)).toNatClampNeg &&& 31 = 3) with e3 | e3
    · rw [if_pos e3]
      exact bs_line s3 hc hv1 hv2 hv3 hv4 hv5 hrc hR
    rw [if_neg e3]
    rcases Classical.em (xs (nI (1 + 6 * k)).toNatClampNeg &&& 31 = 4) with e4 | e4
    · rw [if_pos e4]
      exact bs_fault s4 hc hv1 hv2 hv3 hv4 hv5 hrc hR
    rw [if_neg e4]
    rcases Classical.em (xs (nI (1 + 6 * k)).toNatClampNeg &&& 31 = 5) with e5 | e5
    · rw [if_pos e5]
      exact bs_run s5 hc hv1 hv2 hv3 hv4 hv5 hrc hR
    rw [if_neg e5]
    rcases Classical.em (xs (nI (1 + 6 * k)).toNatClampNeg &&& 31 = 6) with e6 | e6
    · rw [if_pos e6]
      exact bs_go s6 hc hv1 hv2 hv3 hv4 hv5 hrc hR
    rw [if_neg e6]
    rcases Classical.em (xs (nI (1 + 6 * k)).toNatClampNeg &&& 31 = 7) with e7 | e7
    · rw [if_pos e7]
      exact bs_stop s7 hc hv1 hv2 hv3 hv4 hv5 hrc hR
    rw [if_neg e7]
    rcases Classical.em (xs (nI (1 + 6 * k)).toNatClampNeg &&& 31 = 8) with e8 | e8
    · rw [if_pos e8]
      exact bs_look s8 hc hv1 hv2 hv3 hv4 hv5 hrc hR
    rw [if_neg e8]
    rcases Classical.em (xs (nI (1 + 6 * k)).toNatClampNeg &&& 31 = 9) with e9 | e9
    · rw [if_pos e9]
      exact bs_place s9 s9o hc hv1 hv2 hv3 hv4 hv5 hrc hR
    rw [if_neg e9]
    rcases Classical.em (xs (nI (1 + 6 * k)).toNatClampNeg &&& 31 = 10) with e10 | e10
    · rw [if_pos e10]
      exact bs_side s10 s10o hc hv1 hv2 hv3 hv4 hv5 hrc hR
    rw [if_neg e10]
    rcases Classical.em (xs (nI (1 + 6 * k)).toNatClampNeg &&& 31 = 11) with e11 | e11
    · rw [if_pos e11]
      exact bs_turtle s11 hc hv1 hv2 hv3 hv4 hv5 hrc hR
    rw [if_neg e11]
    rcases Classical.em (xs (nI (1 + 6 * k)).toNatClampNeg &&& 31 = 12) with e12 | e12
    · rw [if_pos e12]
      exact bs_dot s12 hc hv1 hv2 hv3 hv4 hv5 hrc hR
    rw [if_neg e12]
    rcases Classical.em (xs (nI (1 + 6 * k)).toNatClampNeg &&& 31 = 13) with e13 | e13
    · rw [if_pos e13]
      exact bs_out s13 hc hv1 hv2 hv3 hv4 hv5 hrc hR
    rw [if_neg e13]
    rcases Classical.em (xs (nI (1 + 6 * k)).toNatClampNeg &&& 31 = 14) with e14 | e14
    · rw [if_pos e14]
      exact bs_name s14 hc hv1 hv2 hv3 hv4 hv5 hrc hR
    rw [if_neg e14]
    rcases Classical.em (xs (nI (1 + 6 * k)).toNatClampNeg &&& 31 = 15) with e15 | e15
    · rw [if_pos e15]
      exact bs_value s15 hc hv1 hv2 hv3 hv4 hv5 hrc hR
    rw [if_neg e15]
    rcases Classical.em (xs (nI (1 + 6 * k)).toNatClampNeg &&& 31 = 16) with e16 | e16
    · rw [if_pos e16]
      exact bs_procedure s16 hc hv1 hv2 hv3 hv4 hv5 hrc hR
    rw [if_neg e16]
    rcases Classical.em (xs (nI (1 + 6 * k)).toNatClampNeg &&& 31 = 17) with e17 | e17
    · rw [if_pos e17]
      exact bs_call s17 hc hv1 hv2 hv3 hv4 hv5 hrc hR
    rw [if_neg e17]
    rcases Classical.em (xs (nI (1 + 6 * k)).toNatClampNeg &&& 31 = 18) with e18 | e18
    · rw [if_pos e18]
      exact bs_sum s18 hc hv1 hv2 hv3 hv4 hv5 hrc hR
    rw [if_neg e18]
    exact bs_tail hrc (sn xi xa xg mi mj ma mb kc ks k hc hR)
/-- it is enough to find a relation that the calls keep -/
theorem pure_of (n : Nat) (hn : 514 ≤ n) (R : RTy) (s0 : sm_feed n R) (s1 : sm_end n R) (s2 : sm_define n R) (s3 : sm_line n R) (s4 : sm_fault n R) (s5 : sm_run n R) (s6 : sm_go n R) (s7 : sm_stop n R) (s8 : sm_look n R) (s11 : sm_turtle n R) (s12 : sm_dot n R) (s13 : sm_out n R) (s14 : sm_name n R) (s15 : sm_value n R) (s16 : sm_procedure n R) (s17 : sm_call n R) (s18 : sm_sum n R) (s9 : sm_place_bad n R) (s9o : sm_place_ok n R) (s10 : sm_side_bad n R) (s10o : sm_side_ok n R) (sn : sm_none R) (h0 : ∀ d_seed : Int32, R (xi0 d_seed) xa0 xg0 (mi0 d_seed) (fun _ => 0) ma0 (fun _ _ => 0) 142 2552709 0) : PURE := by
  intro L xs d_seed hL
  have hL : L ≤ 3073 := Nat.le_trans hL (by decide)
  refine ⟨n, ?_⟩
  have h := law_sim (xs := xs) hL s0 s1 s2 s3 s4 s5 s6 s7 s8 s11 s12 s13 s14 s15 s16 s17 s18 s9 s9o s10 s10o sn n 0 (by omega) (Or.inl rfl) _ _ _ _ _ _ _ (fun _ => 0) _ _ (h0 d_seed)
  exact h
