/-! the reference is fed -/
theorem sb_u (u : BitVec 8) : Int32.ofBitVec (u.signExtend 32) = sBy u.toNat := by
  apply Int32.toInt_inj.mp
  have hu := u.isLt
  unfold sBy
  rw [show (Int32.ofBitVec (u.signExtend 32)).toInt = (u.signExtend 32).toInt from rfl, BitVec.toInt_signExtend_of_le (by decide), BitVec.toInt_eq_toNat_cond]
  rcases Nat.lt_or_ge u.toNat 128 with q | q
  · rw [if_pos (by omega), if_pos q, Int32.toInt_ofInt_of_le (by show -2147483648 ≤ _; omega) (by show _ < 2147483648; omega)]
  · rw [if_neg (by omega), if_neg (by omega), Int32.toInt_ofInt_of_le (by show -2147483648 ≤ _; omega) (by show _ < 2147483648; omega)]
    rfl
theorem sb_s (w : BitVec 32) (s : Nat) (hs : s + 8 ≤ 32) : (w.sshiftRight s).setWidth 8 = (w >>> s).setWidth 8 := by
  apply BitVec.eq_of_getLsbD_eq
  intro k hk
  rw [BitVec.getLsbD_setWidth, BitVec.getLsbD_setWidth, BitVec.getLsbD_sshiftRight, BitVec.getLsbD_ushiftRight]
  simp only [show ¬ (32 ≤ k) by omega, decide_false, Bool.not_false, Bool.true_and, if_pos (show s + k < 32 by omega)]
theorem sb_v (v : Int32) (s : Nat) : (Int32.ofBitVec (v.toBitVec.sshiftRight s)).toInt8.toInt32 = Int32.ofBitVec (((v.toBitVec.sshiftRight s).setWidth 8).signExtend 32) := by
  show Int32.ofBitVec (((v.toBitVec.sshiftRight s).signExtend 8).signExtend 32) = _
  rw [BitVec.signExtend_eq_setWidth_of_le (v.toBitVec.sshiftRight s) (show 8 ≤ 32 by decide)]
theorem sb_n (x : Int32) : vp_nar .byte (x.toInt8.toInt32) = x.toInt8.toInt32 := by
  rw [vp_nar_byte]
  apply Int32.toInt_inj.mp
  have h1 := Int8.toInt_lt x.toInt8
  have h2 := Int8.le_toInt x.toInt8
  have e : x.toInt8.toInt32.toInt8 = x.toInt8 := by
    apply Int8.toInt_inj.mp
    rw [Int32.toInt_toInt8, Int8.toInt_toInt32]
    exact Int.bmod_eq_of_le (by show -128 ≤ _; omega) (by show _ < 128; omega)
  rw [e]
theorem by_s (v : Int32) (s : Nat) (hs : s + 8 ≤ 32) (h : by4 v (nI s) = Int32.ofBitVec ((v.toBitVec >>> s) &&& 255#32)) : (by4 v (nI s)).toNatClampNeg = ((v.toBitVec >>> s).setWidth 8).toNat := by
  rw [h]
  have e : (v.toBitVec >>> s) &&& 255#32 = BitVec.ofNat 32 ((v.toBitVec >>> s).toNat % 256) := by
    apply BitVec.eq_of_toNat_eq
    rw [BitVec.toNat_and, BitVec.toNat_ofNat, BitVec.toNat_ofNat, show 255 % 2 ^ 32 = 2 ^ 8 - 1 from rfl, Nat.and_two_pow_sub_one_eq_mod]
    omega
  rw [e, show Int32.ofBitVec (BitVec.ofNat 32 ((v.toBitVec >>> s).toNat % 256)) = nI ((v.toBitVec >>> s).toNat % 256) from rfl, cl_n (by omega), BitVec.toNat_setWidth]
theorem feed_b (v : Int32) (j : Nat) (hj : j < 4) : vp_nar .byte ((v >>> ((24 - (8 * nI j)) &&& 31)).toInt8.toInt32) = sBy (btN v j) := by
  rw [sb_n]
  unfold btN
  rcases (by omega : j = 0 ∨ j = 1 ∨ j = 2 ∨ j = 3) with rfl | rfl | rfl | rfl
  · rw [show v >>> ((24 - (8 * nI 0)) &&& 31) = Int32.ofBitVec (v.toBitVec.sshiftRight 24) from rfl, sb_v, sb_s _ _ (by decide), sb_u, by_s v 24 (by decide) rfl]
  · rw [show v >>> ((24 - (8 * nI 1)) &&& 31) = Int32.ofBitVec (v.toBitVec.sshiftRight 16) from rfl, sb_v, sb_s _ _ (by decide), sb_u, by_s v 16 (by decide) rfl]
  · rw [show v >>> ((24 - (8 * nI 2)) &&& 31) = Int32.ofBitVec (v.toBitVec.sshiftRight 8) from rfl, sb_v, sb_s _ _ (by decide), sb_u, by_s v 8 (by decide) rfl]
  · rw [show v >>> ((24 - (8 * nI 3)) &&& 31) = Int32.ofBitVec (v.toBitVec.sshiftRight 0) from rfl, sb_v, sb_s _ _ (by decide), sb_u, by_s v 0 (by decide) rfl]
theorem sv_row {a : Nat → Nat → Int32} {k s q : Nat} {v : Int32} (h : q ≠ k) : sv a k s v q = a q := by
  unfold sv
  exact if_neg h
theorem rem4 (k : Nat) (hk : k < 20) : nI k - nI k / 4 * 4 = nI (k % 4) := by
  rcases (by omega : k = 0 ∨ k = 1 ∨ k = 2 ∨ k = 3 ∨ k = 4 ∨ k = 5 ∨ k = 6 ∨ k = 7 ∨ k = 8 ∨ k = 9 ∨ k = 10 ∨ k = 11 ∨ k = 12 ∨ k = 13 ∨ k = 14 ∨ k = 15 ∨ k = 16 ∨ k = 17 ∨ k = 18 ∨ k = 19) with rfl | rfl | rfl | rfl | rfl | rfl | rfl | rfl | rfl | rfl | rfl | rfl | rfl | rfl | rfl | rfl | rfl | rfl | rfl | rfl <;> rfl
theorem r_feed23 {n : Nat} {j : Nat → Int64} {b : Nat → Nat → Int64} {v1 v2 v3 v4 v5 : Int32} {N : Nat} (hN : N + 20 ≤ 4000) : ∀ (m q k : Nat) (i : Nat → Int32) (a : Nat → Nat → Int32), m < q → k + m = 20 → i 74 = nI (N + k) → ∃ i' a', m_Model_feed_b23 n q i j a b v1 v2 v3 v4 v5 (nI k) = some (i', j, a', b, 1) ∧ i' 74 = nI (N + 20) ∧ (∀ q, q ≠ 74 → i' q = i q) ∧ (∀ q, q ≠ 73 → a' q = a q) ∧ (∀ x, x < N + k → a' 73 x = a 73 x) ∧ ∀ x, k ≤ x → x < 20 → a' 73 (N + x) = sBy (btN (sel5 v1 v2 v3 v4 v5 x) (x % 4)) := by
  intro m
  induction m with
  | zero =>
    intro q k i a hq hk h74
    obtain ⟨q, rfl⟩ : ∃ q', q = q' + 1 := ⟨q - 1, by omega⟩
    rw [m_Model_feed_b23, show (20 : Int32) = nI 20 from rfl, ile_p (by omega)]
    exact ⟨i, a, rfl, by rw [h74, show k = 20 by omega], fun _ _ => rfl, fun _ _ => rfl, fun _ _ => rfl, fun x h1 h2 => by omega⟩
  | succ m ih =>
    intro q k i a hq hk h74
    obtain ⟨q, rfl⟩ : ∃ q', q = q' + 1 := ⟨q - 1, by omega⟩
    have key : ∀ s0, s0 = sel5 v1 v2 v3 v4 v5 k → ∃ i' a', m_Model_feed_b76 n (m_Model_feed_b23 n q) i j a b v1 v2 v3 v4 v5 (nI k) s0 = some (i', j, a', b, 1) ∧ i' 74 = nI (N + 20) ∧ (∀ q, q ≠ 74 → i' q = i q) ∧ (∀ q, q ≠ 73 → a' q = a q) ∧ (∀ x, x < N + k → a' 73 x = a 73 x) ∧ ∀ x, k ≤ x → x < 20 → a' 73 (N + x) = sBy (btN (sel5 v1 v2 v3 v4 v5 x) (x % 4)) := by
      intro s0 hs0
      unfold m_Model_feed_b76
      rw [h74, ck_n (by omega), ob1_s, ob1_s, ob1_s, ob1_s, rem4 k (by omega), feed_b s0 (k % 4) (by omega), cl_n (by omega), show nI (N + k) + (1 : Int32) = nI (N + (k + 1)) from nI_add (N + k) 1, show nI k + (1 : Int32) = nI (k + 1) from nI_add k 1]
      obtain ⟨i', a', e1, e2, e3, e4, e5, e6⟩ := ih q (k + 1) (upd i 74 (nI (N + (k + 1)))) (sv a 73 (N + k) (sBy (btN s0 (k % 4)))) (by omega) (by omega) upd_at
      refine ⟨i', a', e1, e2, fun q hq => (e3 q hq).trans (upd_ne hq), fun q hq => (e4 q hq).trans (sv_row hq), fun x hx => ?_, fun x h1 h2 => ?_⟩
      · rw [e5 x (by omega)]
        exact sv_ne (by omega)
      · rcases (by omega : x = k ∨ k + 1 ≤ x) with rfl | h9
        · rw [e5 _ (by omega), sv_at, hs0]
        · exact e6 x h9 h2
    rw [m_Model_feed_b23, show (20 : Int32) = nI 20 from rfl, ile_n (by omega), show (4 : Int32) = nI 4 from rfl]
    rcases Nat.lt_or_ge k 4 with c | c
    · rw [ile_n (by omega)]
      exact key v1 (by unfold sel5; rw [if_pos c])
    rw [ile_p (by omega), show (8 : Int32) = nI 8 from rfl]
    rcases Nat.lt_or_ge k 8 with c2 | c2
    · rw [ile_n (by omega)]
      exact key v2 (by unfold sel5; rw [if_neg (by omega), if_pos c2])
    rw [ile_p (by omega), show (12 : Int32) = nI 12 from rfl]
    rcases Nat.lt_or_ge k 12 with c3 | c3
    · rw [ile_n (by omega)]
      exact key v3 (by unfold sel5; rw [if_neg (by omega), if_neg (by omega), if_pos c3])
    rw [ile_p (by omega), show (16 : Int32) = nI 16 from rfl]
    rcases Nat.lt_or_ge k 16 with c4 | c4
    · rw [ile_n (by omega)]
      exact key v4 (by unfold sel5; rw [if_neg (by omega), if_neg (by omega), if_neg (by omega), if_pos c4])
    rw [ile_p (by omega)]
    exact key v5 (by unfold sel5; rw [if_neg (by omega), if_neg (by omega), if_neg (by omega), if_neg (by omega)])
theorem R_feed0 {n : Nat} {i : Nat → Int32} {j : Nat → Int64} {a : Nat → Nat → Int32} {b : Nat → Nat → Int64} {cc : Nat} {c : Cfg} {G0 : GS} {tl : Tr} {bk : Bool} {tp : Nat → Nat} {N fk fp : Nat} {v1 v2 v3 v4 v5 : Int32} (h : WR i j a b cc (c, G0, tl, bk, tp, N, fk, fp)) (hN : 4000 < N + 20) : m_Model_feed n i j a b v1 v2 v3 v4 v5 = some (upd i 0 0, j, a, b, nI 0) := by
  obtain ⟨hB, h2, ⟨t1, t2, t3, t4⟩, _⟩ := h
  unfold m_Model_feed
  rw [ob1_s, upd_ne (by decide), t1, if_neg]
  · rfl
  · rw [show (20 : Int32) = nI 20 from rfl, nI_add]
    exact nI_ge (b := N + 20) hN (by omega)
theorem R_feed {n : Nat} (hn : 30 ≤ n) {i : Nat → Int32} {j : Nat → Int64} {a : Nat → Nat → Int32} {b : Nat → Nat → Int64} {cc : Nat} {c : Cfg} {G0 : GS} {tl : Tr} {bk : Bool} {tp : Nat → Nat} {N fk fp : Nat} {v1 v2 v3 v4 v5 : Int32} (h : WR i j a b cc (c, G0, tl, bk, tp, N, fk, fp)) (hN : N + 20 ≤ 4000) : ∃ i' a', m_Model_feed n i j a b v1 v2 v3 v4 v5 = some (i', j, a', b, nI 1) ∧ WR i' j a' b (cc + 1) (c, G0, tl, bk, aFeedT tp N v1 v2 v3 v4 v5, N + 20, fk, fp) := by
  have h0 := h
  obtain ⟨hB, h2, ⟨t1, t2, t3, t4⟩, _⟩ := h
  unfold m_Model_feed
  rw [ob1_s, upd_ne (by decide), t1, if_pos (by rw [show (20 : Int32) = nI 20 from rfl, nI_add]; exact nI_le (a := N + 20) hN (by decide))]
  obtain ⟨i', a', e1, e2, e3, e4, e5, e6⟩ := r_feed23 (n := n) (j := j) (b := b) (v1 := v1) (v2 := v2) (v3 := v3) (v4 := v4) (v5 := v5) hN 20 n 0 (upd i 0 0) a (by omega) rfl (by rw [upd_ne (by decide)]; exact t1)
  refine ⟨i', a', e1, WR_tape h0 (fun q q1 q2 => (e3 q q2).trans (upd_ne q1)) e4 ⟨e2, hN, fun k hk => ?_, fun k => ?_⟩⟩
  · unfold aFeedT
    rcases Nat.lt_or_ge k N with q | q
    · rw [if_neg (by omega), e5 k (by omega)]
      exact t3 k q
    · rw [if_pos (by omega)]
      have := e6 (k - N) (by omega) (by omega)
      rw [show N + (k - N) = k by omega] at this
      exact this
  · unfold aFeedT
    split
    · exact (btN_eq _ _).2
    · exact t4 k

