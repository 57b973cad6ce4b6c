/-! the reference has read; how much lives -/
theorem RI_0 {dfn : Bool} {P : List Proc} (hP : P.length ≤ 40) : RI dfn P 0 (rd0 dfn) := by
  unfold rd0
  cases dfn with
  | true => exact ⟨by decide, List.cons_ne_nil _ _, fun m hm x hx => (by rw [List.mem_singleton.mp hm] at hx; cases hx), Nat.le_refl _, (fun hh => by cases hh), fun _ => rfl, fun _ => rfl, fun hh => absurd (show (0 : Nat) = 2 from hh) (by decide), fun hh => absurd (show (0 : Nat) = 3 from hh) (by decide), (fun p hp => by cases hp), rfl, hP⟩
  | false => exact ⟨by decide, List.cons_ne_nil _ _, fun m hm x hx => (by rw [List.mem_singleton.mp hm] at hx; cases hx), Nat.le_refl _, fun _ => rfl, fun hh => absurd (show (3 : Nat) < 3 from hh) (by decide), fun hh => absurd (show (3 : Nat) < 2 from hh) (by decide), fun hh => absurd (show (3 : Nat) = 2 from hh) (by decide), fun _ => ⟨by decide, List.nodup_nil⟩, (fun p hp => by cases hp), rfl, hP⟩
/-- scan -/
theorem r_scan {n N : Nat} {dfn : Bool} {P : List Proc} {tp : Nat → Nat} {i : Nat → Int32} {j : Nat → Int64} {a : Nat → Nat → Int32} {b : Nat → Nat → Int64} {B : RB4} (hn : 5000 ≤ n) (hB : rB i B) (hC : rC1 a b B) (hB0 : B.1 + 1300 ≤ 120000 ∧ B.2.1 + 4000 ≤ 300000) (hP : rPr i a b B P) (hT : rTp i a tp N) (h86 : dfn = true → i 86 = 0) : RES dfn P i a b B j N (aRead dfn P tp N) (m_Model_scan n i j a b (b1 dfn)) := by
  obtain ⟨t1, t2, t3, t4⟩ := hT
  unfold m_Model_scan
  rw [ob1_s, ob1_s, ob1_s, ob1_s, ob1_s, ob1_s, t1]
  obtain ⟨i1, ei1⟩ : ∃ i1, i1 = upd (upd (upd (upd (upd i 75 0) 76 (-1)) 81 0) 84 0) 85 0 := ⟨_, rfl⟩
  rw [← ei1]
  have hi : ∀ q, q ≠ 75 → q ≠ 76 → q ≠ 81 → q ≠ 84 → q ≠ 85 → i1 q = i q := fun q q1 q2 q3 q4 q5 => by rw [ei1, upd_ne q5, upd_ne q4, upd_ne q3, upd_ne q2, upd_ne q1]
  have hsf : SF i a b B i1 a b B := SF_rows hB.2.2.2.2 (fun q hq => hi q (fun e => hq (by rw [e]; decide)) (fun e => hq (by rw [e]; decide)) (fun e => hq (by rw [e]; decide)) (fun e => hq (by rw [e]; decide)) (fun e => hq (by rw [e]; decide))) (fun _ _ => rfl) (fun _ _ => rfl)
  have hsi : SI dfn P i a b B 0 (rd0 dfn) i1 a b B (fun _ => tN 0) (fun _ => 0) (fun _ => true) [] 0 := by
    refine ⟨⟨hsf, ⟨Nat.le_refl _, Nat.le_refl _, rfl⟩, rB_i hB (hi 18 (by decide) (by decide) (by decide) (by decide) (by decide)) (hi 19 (by decide) (by decide) (by decide) (by decide) (by decide)) (hi 20 (by decide) (by decide) (by decide) (by decide) (by decide)) (hi 21 (by decide) (by decide) (by decide) (by decide) (by decide)), hC, by rw [ei1, upd_ne (by decide), upd_ne (by decide), upd_ne (by decide), upd_ne (by decide), upd_at], by rw [ei1, upd_ne (by decide), upd_ne (by decide), upd_at]; rfl, Nat.zero_le _, fun x hx => absurd hx (Nat.not_lt_zero _)⟩, ⟨RI_0 hP.2.1, rfl⟩, ⟨fun _ => ⟨[], rfl, rfl⟩, ⟨rfl, Nat.zero_le _⟩, trivial⟩, fun e => ?_, fun _ => ⟨by rw [ei1, upd_ne (by decide), upd_at], rfl⟩⟩
    subst e
    exact ⟨⟨by rw [ei1, upd_ne (by decide), upd_at]; rfl, by rw [ei1, upd_at]; rfl, (hi 86 (by decide) (by decide) (by decide) (by decide) (by decide)).trans (h86 rfl)⟩, by show 3 * 0 + min 0 2 ≤ 0; decide, ⟨Nat.le_refl _, Nat.le_refl _⟩, fun x hx => absurd hx (Nat.not_lt_zero _), fun e => absurd (show 2 ≤ 0 from e) (by decide), fun e => absurd (show 0 = 3 from e) (by decide)⟩
  exact r_tape hn hB0 hP t2 t3 t4 N 0 n (N + 1) (rd0 dfn) i1 a b B _ _ _ [] 0 (by omega) (Nat.zero_le _) (by omega) (by omega) hsi (Or.inl rfl)
theorem lz_le : ∀ (ins : List Nm), (∀ q (h : q < ins.length), (ins[q]'h).length ≤ 30) → lz ins ≤ 30 * ins.length := by
  intro ins
  induction ins with
  | nil => intro _; exact Nat.le_refl 0
  | cons l ins ih =>
    intro h
    have h1 := h 0 (by simp)
    rw [List.getElem_cons_zero] at h1
    have h2 := ih (fun q hq => by
      have := h (q + 1) (by rw [List.length_cons]; omega)
      rw [List.getElem_cons_succ] at this
      exact this)
    rw [lz_c, List.length_cons]
    omega
theorem pz_le : ∀ (ps : List Proc), (∀ m (h : m < ps.length), (ps[m]'h).1.length + lz (ps[m]'h).2.1 ≤ 180 ∧ tNd (ps[m]'h).2.2 ≤ tSz (ps[m]'h).2.2) → pzP ps ≤ 780 * ps.length + exP ps ∧ pmP ps ≤ 600 * ps.length + exP ps := by
  intro ps
  induction ps with
  | nil => intro _; exact ⟨Nat.le_refl 0, Nat.le_refl 0⟩
  | cons p ps ih =>
    intro h
    have h1 := h 0 (by simp)
    rw [List.getElem_cons_zero] at h1
    have h2 := ih (fun q hq => by
      have := h (q + 1) (by rw [List.length_cons]; omega)
      rw [List.getElem_cons_succ] at this
      exact this)
    have e : exP (p :: ps) = (tSz p.2.2 - 600) + exP ps := by unfold exP; rw [List.map_cons, List.sum_cons]
    rw [pzP_c, pmP_c, List.length_cons, e]
    omega
theorem pz_room {i : Nat → Int32} {a : Nat → Nat → Int32} {b : Nat → Nat → Int64} {B : RB4} {ps : List Proc} {Z : Nat} (h : rPr i a b B ps) (hz : exP ps ≤ Z) : pzP ps ≤ 31200 + Z ∧ pmP ps ≤ 24000 + Z := by
  have q := pz_le ps (fun m hm => by
    obtain ⟨⟨x, _, k2⟩, _, k4, k5, k6⟩ := h.2.2 m hm
    have h1 := k2.2.2.2.2.1
    have h2 := lz_le (ps[m]'hm).2.1 (fun q hq => by
      obtain ⟨y, _, y2⟩ := k5 q hq
      exact y2.2.2.2.2.1)
    exact ⟨by omega, ((tNd_le _).1 ((rV_ok _).1 _ k6)).2.2⟩)
  have := h.2.1
  omega
theorem gz_le : ∀ (gl : List (Nm × Tr)), (∀ m (h : m < gl.length), (gl[m]'h).1.length ≤ 30 ∧ tSz (gl[m]'h).2 ≤ 300 ∧ tNd (gl[m]'h).2 ≤ 300) → gzG gl ≤ 330 * gl.length ∧ gmG gl ≤ 300 * gl.length := by
  intro gl
  induction gl with
  | nil => intro _; exact ⟨Nat.le_refl 0, Nat.le_refl 0⟩
  | cons p ps ih =>
    intro h
    have h1 := h 0 (by simp)
    rw [List.getElem_cons_zero] at h1
    have h2 := ih (fun q hq => by
      have := h (q + 1) (by rw [List.length_cons]; omega)
      rw [List.getElem_cons_succ] at this
      exact this)
    rw [gzG_c, gmG_c, List.length_cons]
    omega
theorem gz_room {i : Nat → Int32} {a : Nat → Nat → Int32} {b : Nat → Nat → Int64} {B : RB4} {gl : List (Nm × Tr)} (h : rGl i a b B gl) (hz : ∀ x ∈ gl, tSz x.2 ≤ 300) : gzG gl ≤ 21120 ∧ gmG gl ≤ 19200 := by
  have q := gz_le gl (fun m hm => by
    obtain ⟨⟨x, _, k2⟩, k3⟩ := h.2.2 m hm
    have h1 := hz _ (List.getElem_mem hm)
    have h2 := ((tNd_le _).1 ((rV_ok _).1 _ k3)).2.2
    exact ⟨k2.2.2.2.2.1, h1, by omega⟩)
  have := h.2.1
  omega

