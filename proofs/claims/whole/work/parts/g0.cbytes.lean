/-! rows that 96 and 97 of the long chain have: the fed bytes (97 is not hung in) -/
theorem nI_plusX (a b : Nat) : nI a + Int32.ofNat b = nI (a + b) := by
  unfold nI
  rw [Int32.ofNat_add]
theorem feed_x1 {n f t : Nat} {xi : Nat → Int32} {xa : Nat → Nat → Int32} {xg : Nat → Nat} {v s : Int32} (h : xi 24 = nI t) (ht : t < 4000) (hs : ¬ s < 0) : m_Reader_addBytes_b3 n xg (f + 1) xi xa v s = m_Reader_addBytes_b3 n xg f (upd xi 24 (nI (t + 1))) (sv xa 31 t (((v.toUInt32 >>> (s.toUInt32 &&& Int32.toUInt32 31)).toInt32) &&& 255)) v (s + (-8)) := by
  rw [m_Reader_addBytes_b3, if_neg hs, h, if_neg (show ¬ (4000 : Int32) ≤ nI t from nI_ge ht (by decide)), ck_in (nI_in ht (by decide)), nI_clamp (by omega), nI_succ]
  rfl
theorem feed_x0 {n f : Nat} {xi : Nat → Int32} {xa : Nat → Nat → Int32} {xg : Nat → Nat} {v s : Int32} (hs : s < 0) : m_Reader_addBytes_b3 n xg (f + 1) xi xa v s = some (xi, xa, 0) := by
  rw [m_Reader_addBytes_b3, if_pos hs]
/-- the four bytes of an int, the highest first -/
def by4 (v : Int32) (s : Int32) : Int32 := ((v.toUInt32 >>> (s.toUInt32 &&& Int32.toUInt32 31)).toInt32) &&& 255
def put4 (f : Nat → Int32) (t : Nat) (v : Int32) : Nat → Int32 := upd (upd (upd (upd f t (by4 v 24)) (t + 1) (by4 v 16)) (t + 2) (by4 v 8)) (t + 3) (by4 v 0)
theorem feed_x {n t : Nat} {xi : Nat → Int32} {xa : Nat → Nat → Int32} {xg : Nat → Nat} {v : Int32} (hn : 5 ≤ n) (h : xi 24 = nI t) (ht : t + 4 ≤ 4000) : m_Reader_addBytes n xg xi xa v = some (upd xi 24 (nI (t + 4)), updA xa 31 (put4 (xa 31) t v), 0) := by
  obtain ⟨f, hf⟩ : ∃ f, n = f + 1 + 1 + 1 + 1 + 1 := ⟨n - 5, by omega⟩
  unfold m_Reader_addBytes
  have e : ∀ q, m_Reader_addBytes_b3 n xg n xi xa v 24 = q ↔ m_Reader_addBytes_b3 n xg (f + 1 + 1 + 1 + 1 + 1) xi xa v 24 = q := fun q => by rw [← hf]
  rw [e]
  rw [feed_x1 h (by omega) (by decide), feed_x1 (t := t + 1) upd_at (by omega) (by decide), feed_x1 (t := t + 2) upd_at (by omega) (by decide), feed_x1 (t := t + 3) upd_at (by omega) (by decide), feed_x0 (by decide)]
  unfold sv
  rw [upd_upd, upd_upd, upd_upd, updA_updA, updA_updA, updA_updA, updA_at, updA_at, updA_at]
  rfl
theorem feed_w {n t : Nat} {xi : Nat → Int32} {xa : Nat → Nat → Int32} {xg : Nat → Nat} {a b c d e : Int32} (hn : 5 ≤ n) (h : xi 24 = nI t) (ht : t + 20 ≤ 4000) : m_World_feed n xg xi xa a b c d e = some (upd xi 24 (nI (t + 20)), updA xa 31 (put4 (put4 (put4 (put4 (put4 (xa 31) t a) (t + 4) b) (t + 8) c) (t + 12) d) (t + 16) e), 1) := by
  unfold m_World_feed m_Reader_hasRoom
  have q : ¬ (4000 : Int32) < xi 24 + 20 := by
    rw [h, show (20 : Int32) = Int32.ofNat 20 from rfl, nI_plusX]
    show ¬ nI 4000 < nI (t + 20)
    exact nI_nlt ht (by omega)
  rw [if_neg q, ob0_s, if_neg (by decide), feed_x hn h (by omega), ob_s]
  rw [feed_x (t := t + 4) hn upd_at (by omega), ob_s, feed_x (t := t + 8) hn upd_at (by omega), ob_s, feed_x (t := t + 12) hn upd_at (by omega), ob_s, feed_x (t := t + 16) hn upd_at (by omega), ob_s]
  rw [upd_upd, upd_upd, upd_upd, upd_upd, updA_updA, updA_updA, updA_updA, updA_updA, updA_at, updA_at, updA_at, updA_at]
