/-! the reference's words for turtles -/
theorem r_s27 {n : Nat} {i : Nat → Int32} {j : Nat → Int64} {a : Nat → Nat → Int32} {b : Nat → Nat → Int64} {t d : Nat} {tm : Int} {s e : Nat → Int} (ht : t < 8) (hd : d < 6) (hr : ∀ k, k < 4 → a (37 + k) t = Int32.ofInt (s k)) (hee : ∀ k, e k = s k + tm * aSteps d k) : ∃ s0 s1, m_Model_steps_b27 n i j a b (nI t) (nI d) (Int32.ofInt tm) = m_Model_steps_b161 n i j a b (nI t) (nI d) (Int32.ofInt (e 0)) (Int32.ofInt (e 1)) (Int32.ofInt (e 2)) s0 s1 ∧ s1 + s0 = Int32.ofInt (e 3) := by
  have r37 : a 37 t = _ := hr 0 (by decide)
  have r38 : a 38 t = _ := hr 1 (by decide)
  have r39 : a 39 t = _ := hr 2 (by decide)
  have r40 : a 40 t = _ := hr 3 (by decide)
  have cl : (nI t).toNatClampNeg = t := cl_n (by omega)
  have w : ∀ (α : Type) (o : Option α), ck (nI t) 8 o = o := fun α o => ck_n ⟨ht, by decide⟩
  rcases (by omega : d = 0 ∨ d = 1 ∨ d = 2 ∨ d = 3 ∨ d = 4 ∨ d = 5) with rfl | rfl | rfl | rfl | rfl | rfl
  · refine ⟨(0 : Int32), a 40 t, ?_, by rw [r40, show (0 : Int32) = Int32.ofInt (tm * 0) from by rw [Int.mul_zero]; rfl, ← Int32.ofInt_add, hee]; rfl⟩
    rw [show e 0 = s 0 + tm * 0 from hee 0, show e 1 = s 1 + tm * 0 from hee 1, show e 2 = s 2 + tm * 2 from hee 2]
    unfold m_Model_steps_b27
    rw [w, if_neg (by decide), if_neg (by decide), if_neg (by decide)]
    try unfold m_Model_steps_b45
    unfold m_Model_steps_b63
    rw [ob1_s, w, if_neg (by decide), if_neg (by decide)]
    try unfold m_Model_steps_b82
    unfold m_Model_steps_b88
    rw [ob1_s, w, if_pos (by decide)]
    unfold m_Model_steps_b130
    rw [ob1_s, w, if_neg (by decide), if_neg (by decide)]
    rw [cl, r37, r38, r39, Int32.ofInt_add, Int32.ofInt_add, Int32.ofInt_add, ← show (0 : Int32) = Int32.ofInt (tm * 0) from by rw [Int.mul_zero]; rfl, ← show (2 * Int32.ofInt tm) = Int32.ofInt (tm * 2) from by rw [Int.mul_comm, Int32.ofInt_mul]; rfl]
  · refine ⟨Int32.ofInt tm, a 40 t, ?_, by rw [r40, show Int32.ofInt tm = Int32.ofInt (tm * 1) from by rw [Int.mul_one], ← Int32.ofInt_add, hee]; rfl⟩
    rw [show e 0 = s 0 + tm * 1 from hee 0, show e 1 = s 1 + tm * 0 from hee 1, show e 2 = s 2 + tm * 0 from hee 2]
    unfold m_Model_steps_b27
    rw [w, if_pos (by decide)]
    try unfold m_Model_steps_b45
    unfold m_Model_steps_b63
    rw [ob1_s, w, if_neg (by decide), if_neg (by decide)]
    try unfold m_Model_steps_b82
    unfold m_Model_steps_b88
    rw [ob1_s, w, if_neg (by decide), if_neg (by decide), if_neg (by decide)]
    unfold m_Model_steps_b130
    rw [ob1_s, w, if_pos (by decide)]
    rw [cl, r37, r38, r39, Int32.ofInt_add, Int32.ofInt_add, Int32.ofInt_add, ← show Int32.ofInt tm = Int32.ofInt (tm * 1) from by rw [Int.mul_one], ← show (0 : Int32) = Int32.ofInt (tm * 0) from by rw [Int.mul_zero]; rfl]
  · refine ⟨(0 : Int32), a 40 t, ?_, by rw [r40, show (0 : Int32) = Int32.ofInt (tm * 0) from by rw [Int.mul_zero]; rfl, ← Int32.ofInt_add, hee]; rfl⟩
    rw [show e 0 = s 0 + tm * 0 from hee 0, show e 1 = s 1 + tm * 1 from hee 1, show e 2 = s 2 + tm * 1 from hee 2]
    unfold m_Model_steps_b27
    rw [w, if_neg (by decide), if_neg (by decide), if_neg (by decide)]
    try unfold m_Model_steps_b45
    unfold m_Model_steps_b63
    rw [ob1_s, w, if_pos (by decide)]
    try unfold m_Model_steps_b82
    unfold m_Model_steps_b88
    rw [ob1_s, w, if_neg (by decide), if_pos (by decide)]
    unfold m_Model_steps_b130
    rw [ob1_s, w, if_neg (by decide), if_neg (by decide)]
    rw [cl, r37, r38, r39, Int32.ofInt_add, Int32.ofInt_add, Int32.ofInt_add, ← show (0 : Int32) = Int32.ofInt (tm * 0) from by rw [Int.mul_zero]; rfl, ← show Int32.ofInt tm = Int32.ofInt (tm * 1) from by rw [Int.mul_one]]
  · refine ⟨(0 : Int32), a 40 t, ?_, by rw [r40, show (0 : Int32) = Int32.ofInt (tm * 0) from by rw [Int.mul_zero]; rfl, ← Int32.ofInt_add, hee]; rfl⟩
    rw [show e 0 = s 0 + tm * 2 from hee 0, show e 1 = s 1 + tm * 0 from hee 1, show e 2 = s 2 + tm * 0 from hee 2]
    unfold m_Model_steps_b27
    rw [w, if_neg (by decide), if_neg (by decide), if_pos (by decide)]
    try unfold m_Model_steps_b45
    unfold m_Model_steps_b63
    rw [ob1_s, w, if_neg (by decide), if_neg (by decide)]
    try unfold m_Model_steps_b82
    unfold m_Model_steps_b88
    rw [ob1_s, w, if_neg (by decide), if_neg (by decide), if_neg (by decide)]
    unfold m_Model_steps_b130
    rw [ob1_s, w, if_neg (by decide), if_neg (by decide)]
    rw [cl, r37, r38, r39, Int32.ofInt_add, Int32.ofInt_add, Int32.ofInt_add, ← show (2 * Int32.ofInt tm) = Int32.ofInt (tm * 2) from by rw [Int.mul_comm, Int32.ofInt_mul]; rfl, ← show (0 : Int32) = Int32.ofInt (tm * 0) from by rw [Int.mul_zero]; rfl]
  · refine ⟨(0 : Int32), a 40 t, ?_, by rw [r40, show (0 : Int32) = Int32.ofInt (tm * 0) from by rw [Int.mul_zero]; rfl, ← Int32.ofInt_add, hee]; rfl⟩
    rw [show e 0 = s 0 + tm * 0 from hee 0, show e 1 = s 1 + tm * 1 from hee 1, show e 2 = s 2 + tm * -1 from hee 2]
    unfold m_Model_steps_b27
    rw [w, if_neg (by decide), if_neg (by decide), if_neg (by decide)]
    try unfold m_Model_steps_b45
    unfold m_Model_steps_b63
    rw [ob1_s, w, if_neg (by decide), if_pos (by decide)]
    try unfold m_Model_steps_b82
    unfold m_Model_steps_b88
    rw [ob1_s, w, if_neg (by decide), if_neg (by decide), if_pos (by decide)]
    unfold m_Model_steps_b130
    rw [ob1_s, w, if_neg (by decide), if_neg (by decide)]
    rw [cl, r37, r38, r39, Int32.ofInt_add, Int32.ofInt_add, Int32.ofInt_add, ← show (0 : Int32) = Int32.ofInt (tm * 0) from by rw [Int.mul_zero]; rfl, ← show Int32.ofInt tm = Int32.ofInt (tm * 1) from by rw [Int.mul_one], ← show (-(Int32.ofInt tm)) = Int32.ofInt (tm * -1) from by rw [Int.mul_neg, Int.mul_one, Int32.ofInt_neg]]
  · refine ⟨(-(Int32.ofInt tm)), a 40 t, ?_, by rw [r40, show (-(Int32.ofInt tm)) = Int32.ofInt (tm * -1) from by rw [Int.mul_neg, Int.mul_one, Int32.ofInt_neg], ← Int32.ofInt_add, hee]; rfl⟩
    rw [show e 0 = s 0 + tm * 1 from hee 0, show e 1 = s 1 + tm * 0 from hee 1, show e 2 = s 2 + tm * 0 from hee 2]
    unfold m_Model_steps_b27
    rw [w, if_neg (by decide), if_pos (by decide)]
    try unfold m_Model_steps_b45
    unfold m_Model_steps_b63
    rw [ob1_s, w, if_neg (by decide), if_neg (by decide)]
    try unfold m_Model_steps_b82
    unfold m_Model_steps_b88
    rw [ob1_s, w, if_neg (by decide), if_neg (by decide), if_neg (by decide)]
    unfold m_Model_steps_b130
    rw [ob1_s, w, if_neg (by decide), if_pos (by decide)]
    rw [cl, r37, r38, r39, Int32.ofInt_add, Int32.ofInt_add, Int32.ofInt_add, ← show Int32.ofInt tm = Int32.ofInt (tm * 1) from by rw [Int.mul_one], ← show (0 : Int32) = Int32.ofInt (tm * 0) from by rw [Int.mul_zero]; rfl]
theorem r_steps {n : Nat} {i : Nat → Int32} {j : Nat → Int64} {a : Nat → Nat → Int32} {b : Nat → Nat → Int64} {G : GS} {m : Int} (hn : 100 ≤ n) (hT : rTu i a G) (hg : gOk G) (hm : -1000 ≤ m ∧ m ≤ 1000) : rGo i j a b G (aFwd G m) (m_Model_steps n i j a b (nI (gTold G)) (Int32.ofInt m)) := by
  have ht8 : gTold G < 8 := hg.1
  obtain ⟨p1, p2, p3, p4, p5, p6⟩ := hg.2.2.2.2.1 (gTold G) ht8
  obtain ⟨h, eh⟩ : ∃ h, h = (pI G (gTold G) 4).toNat := ⟨_, rfl⟩
  have cl : (nI (gTold G)).toNatClampNeg = gTold G := cl_n (by omega)
  have w : ∀ (α : Type) (o : Option α), ck (nI (gTold G)) 8 o = o := fun α o => ck_n ⟨ht8, by decide⟩
  have r41 : a 41 (gTold G) = nI h := by
    have := hT.1 (gTold G) 4 ht8 (by decide)
    rw [pI_of, show pI G (gTold G) 4 = (h : Int) by omega] at this
    exact this
  have em : nI h - nI h / 6 * 6 = nI (h % 6) := by
    have h12 : h < 12 := by omega
    clear eh r41
    revert h
    decide
  have hr : ∀ k, k < 4 → a (37 + k) (gTold G) = Int32.ofInt (pI G (gTold G) k) := fun k hk => by rw [hT.1 _ _ ht8 (by omega), pI_of]
  have key : ∀ tm : Int, -1000 ≤ tm ∧ tm ≤ 1000 → tm = (if h < 6 then m else -m) → rGo i j a b G (aFwd G m) (m_Model_steps_b27 n i j a b (nI (gTold G)) (nI (h % 6)) (Int32.ofInt tm)) := by
    intro tm htm etm
    obtain ⟨s0, s1, e1, e2⟩ := r_s27 (n := n) (i := i) (j := j) (a := a) (b := b) (t := gTold G) (d := h % 6) (tm := tm) (s := fun k => pI G (gTold G) k) (e := fun k => pI G (gTold G) k + tm * aSteps (h % 6) k) ht8 (by omega) hr (fun _ => rfl)
    rw [e1]
    have := r_s161 (n := n) (j := j) (b := b) (G := G) (d := h % 6) (tm := tm) (s0 := s0) (s1 := s1) hn hT hg (by omega) rfl rfl htm e2
    unfold aFwd
    dsimp only
    rw [if_neg (by omega), ← eh, ← etm]
    exact this
  unfold m_Model_steps
  rw [w, cl, r41, em, ob1_s, w, show (6 : Int32) = nI 6 from rfl]
  rcases Classical.em (h < 6) with c | c
  · rw [ile_n (by omega)]
    exact key m hm (by rw [if_pos c])
  · rw [ile_p (by omega), ← Int32.ofInt_neg]
    exact key (-m) (by omega) (by rw [if_neg c])
/-- what a word of the turtles gives in the reference -/
def rTurt (i : Nat → Int32) (j : Nat → Int64) (a : Nat → Nat → Int32) (b : Nat → Nat → Int64) (B : RB4) (r : Except Nat (GS × Option Tr)) (o : Option ((Nat → Int32) × (Nat → Int64) × (Nat → Nat → Int32) × (Nat → Nat → Int64) × Int64)) : Prop := match r with
  | .error e => o = some (rFail i e, j, a, b, 3)
  | .ok (G', v) => ∃ i' a' x, o = some (i', j, a', b, x) ∧ rTu i' a' G' ∧ (∀ q, q ≠ 47 → i' q = i q) ∧ (∀ q, (q < 37 ∨ 44 < q) → a' q = a q) ∧ match v with
    | none => x = 3
    | some t => rV a b B t none x
theorem rTurt_go {n : Nat} {i : Nat → Int32} {j : Nat → Int64} {a : Nat → Nat → Int32} {b : Nat → Nat → Int64} {B : RB4} {G : GS} {r : Except Nat GS} {o : Option ((Nat → Int32) × (Nat → Int64) × (Nat → Nat → Int32) × (Nat → Nat → Int64) × Int64)} (h : rGo i j a b G r o) : rTurt i j a b B (rG G r) (om o (fun i j a b r => some (i, j, a, b, r))) := by
  match r, h with
  | .error e, h =>
    have h : o = _ := h
    rw [h, om_s]
    exact (rfl)
  | .ok G', ⟨a', h1, h2, h3⟩ =>
    rw [h1, om_s]
    exact ⟨i, a', 3, rfl, h2, fun _ _ => rfl, h3, rfl⟩
theorem rTu_P {i : Nat → Int32} {a : Nat → Nat → Int32} {G : GS} {k : Nat} {v : Int} (h : rTu i a G) (ht : gTold G < 8) (hk : k < 7) : rTu i (sv a (37 + k) (gTold G) (Int32.ofInt v)) (setP G k v) := by
  obtain ⟨h1, h2, h3⟩ := h
  refine ⟨fun t q h8 h7 => ?_, fun y hy => ?_, h3⟩
  · show updA a (37 + k) (upd (a (37 + k)) (gTold G) (Int32.ofInt v)) (37 + q) t = upd (gParts G) (7 * gTold G + k) (Int32.ofInt v) (7 * t + q)
    rcases Classical.em (q = k) with c | c
    · subst c
      rw [updA_at]
      unfold upd
      rcases Classical.em (t = gTold G) with d | d
      · rw [if_pos d, if_pos (by omega)]
      · rw [if_neg d, if_neg (by omega)]
        exact h1 t q h8 h7
    · rw [updA_ne (by omega)]
      unfold upd
      rw [if_neg (by omega)]
      exact h1 t q h8 h7
  · show updA a (37 + k) _ 44 y = gDots G y
    rw [updA_ne (by omega)]
    exact h2 y hy
theorem r_clean {n : Nat} {i : Nat → Int32} {j : Nat → Int64} {b : Nat → Nat → Int64} : ∀ (m k f : Nat) (a : Nat → Nat → Int32), k + m = 4096 → m < f → ∃ a', m_Model_turtles_b331 n f i j a b (nI k) = some (i, j, a', b, 3) ∧ (∀ q, q ≠ 44 → a' q = a q) ∧ (∀ x, x < 4096 → (k ≤ x → a' 44 x = 0) ∧ (x < k → a' 44 x = a 44 x)) := by
  intro m
  induction m with
  | zero =>
    intro k f a hk hf
    match f, hf with
    | f + 1, _ =>
      refine ⟨a, ?_, fun _ _ => rfl, fun x hx => ⟨fun _ => by omega, fun _ => rfl⟩⟩
      rw [m_Model_turtles_b331, show (4096 : Int32) = nI 4096 from rfl, ile_p (by omega)]
  | succ m ih =>
    intro k f a hk hf
    match f, hf with
    | f + 1, hf =>
      obtain ⟨a', e1, e2, e3⟩ := ih (k + 1) f (sv a 44 k 0) (by omega) (by omega)
      refine ⟨a', ?_, fun q hq => by rw [e2 q hq]; exact updA_ne hq, fun x hx => ⟨fun h => ?_, fun h => ?_⟩⟩
      · rw [m_Model_turtles_b331, show (4096 : Int32) = nI 4096 from rfl, ile_n (by omega), ck_n (by omega), ob1_s, cl_n (by omega), ob1_s, show nI k + (1 : Int32) = nI (k + 1) from nI_add k 1, e1]
      · rcases (by omega : k = x ∨ k + 1 ≤ x) with c | c
        · rw [(e3 x hx).2 (by omega), c]
          show updA a 44 (upd (a 44) x 0) 44 x = 0
          rw [updA_at, upd_at]
        · exact (e3 x hx).1 c
      · rw [(e3 x hx).2 (by omega)]
        show updA a 44 (upd (a 44) k 0) 44 x = a 44 x
        rw [updA_at, upd_ne (by omega)]

