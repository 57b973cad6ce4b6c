/-! the first states -/
theorem LB_0 : LB lxS0 := by
  refine ⟨⟨Nat.le_refl _, by show 1 ≤ 86; decide⟩, List.length_replicate, List.length_replicate, List.length_replicate, fun x => ?_⟩
  show (List.replicate 256 0).getD x 0 < 86
  rcases Nat.lt_or_ge x 256 with h | h
  · rw [List.getD_eq_getElem?_getD, List.getElem?_replicate, if_pos h]; decide
  · rw [getD_out (by rw [List.length_replicate]; exact h)]; decide
theorem lexB : lx6_letters = lf lexL ∧ lx6_starts = lf lexS ∧ lx6_arities = lf lexA ∧ lx6_kinds = lf lexK ∧ lx6_slots = lf lexH := by
  have h := lxAll_is
  unfold lxAll at h
  obtain ⟨s5, h, e6⟩ := lxBind_s h
  obtain ⟨s4, h, e5⟩ := lxBind_s h
  obtain ⟨s3, h, e4⟩ := lxBind_s h
  obtain ⟨s2, h, e3⟩ := lxBind_s h
  obtain ⟨s1, e1, e2⟩ := lxBind_s h
  have z0 : (0 : Int32) = nI (lxS0.2.2.1.length - 1) := rfl
  have z1 : (0 : Int32) = nI lxS0.2.1.length := rfl
  have z2 : (fun _ => (0 : Int32)) = lf lxS0.2.1 := by funext k; rfl
  have z3 : (fun _ => (0 : Int32)) = lf lxS0.2.2.1 := lf_0 (n := 1)
  have z4 : (fun _ => (0 : Int32)) = lf lxS0.2.2.2.1 := lf_0 (n := 86)
  have z5 : (fun _ => (0 : Int32)) = lf lxS0.2.2.2.2.1 := lf_0 (n := 258)
  have z6 : (fun _ => (0 : Int32)) = lf lxS0.2.2.2.2.2 := lf_0 (n := 256)
  obtain ⟨B1, q1a, q1b, q1c, q1d, q1e, q1f, q1g⟩ := lx_ld_p (i := 3) (N := 106) (by decide) (by decide) LB_0 e1
  have x1a : lx1_words = nI ((s1 : LX).2.2.1.length - 1) := by
    show m_Lexicon_load_w0_5 0 0 (fun _ => 0) (fun _ => 0) (fun _ => 0) (fun _ => 0) (fun _ => 0) 106 (tw_bt 3) = _
    rw [← q1a, ← z2, ← z3, ← z4, ← z5, ← z6]
    rfl
  have x1b : lx1_used = nI (s1 : LX).2.1.length := by
    show m_Lexicon_load_w0_6 0 0 (fun _ => 0) (fun _ => 0) (fun _ => 0) (fun _ => 0) (fun _ => 0) 106 (tw_bt 3) = _
    rw [← q1b, ← z2, ← z3, ← z4, ← z5, ← z6]
    rfl
  have x1c : lx1_letters = lf (s1 : LX).2.1 := by
    show m_Lexicon_load_w1 0 0 (fun _ => 0) (fun _ => 0) (fun _ => 0) (fun _ => 0) (fun _ => 0) 106 (tw_bt 3) = _
    rw [← q1c, ← z2, ← z3, ← z4, ← z5, ← z6]
    rfl
  have x1d : lx1_starts = lf (s1 : LX).2.2.1 := by
    show m_Lexicon_load_w2 0 0 (fun _ => 0) (fun _ => 0) (fun _ => 0) (fun _ => 0) (fun _ => 0) 106 (tw_bt 3) = _
    rw [← q1d, ← z2, ← z3, ← z4, ← z5, ← z6]
    rfl
  have x1e : lx1_arities = lf (s1 : LX).2.2.2.1 := by
    show m_Lexicon_load_w3 0 0 (fun _ => 0) (fun _ => 0) (fun _ => 0) (fun _ => 0) (fun _ => 0) 106 (tw_bt 3) = _
    rw [← q1e, ← z2, ← z3, ← z4, ← z5, ← z6]
    rfl
  have x1f : lx1_kinds = lf (s1 : LX).2.2.2.2.1 := by
    show m_Lexicon_load_w4 0 0 (fun _ => 0) (fun _ => 0) (fun _ => 0) (fun _ => 0) (fun _ => 0) 106 (tw_bt 3) = _
    rw [← q1f, ← z2, ← z3, ← z4, ← z5, ← z6]
    rfl
  have x1g : lx1_slots = lf (s1 : LX).2.2.2.2.2 := by
    show m_Lexicon_load_w5 0 0 (fun _ => 0) (fun _ => 0) (fun _ => 0) (fun _ => 0) (fun _ => 0) 106 (tw_bt 3) = _
    rw [← q1g, ← z2, ← z3, ← z4, ← z5, ← z6]
    rfl
  obtain ⟨B2, q2a, q2b, q2c, q2d, q2e, q2f, q2g⟩ := lx_ld_p (i := 4) (N := 113) (by decide) (by decide) B1 e2
  have x2a : lx2_words = nI ((s2 : LX).2.2.1.length - 1) := by
    unfold lx2_words
    rw [x1a, x1b, x1c, x1d, x1e, x1f, x1g]
    exact q2a
  have x2b : lx2_used = nI (s2 : LX).2.1.length := by
    unfold lx2_used
    rw [x1a, x1b, x1c, x1d, x1e, x1f, x1g]
    exact q2b
  have x2c : lx2_letters = lf (s2 : LX).2.1 := by
    unfold lx2_letters
    rw [x1a, x1b, x1c, x1d, x1e, x1f, x1g]
    exact q2c
  have x2d : lx2_starts = lf (s2 : LX).2.2.1 := by
    unfold lx2_starts
    rw [x1a, x1b, x1c, x1d, x1e, x1f, x1g]
    exact q2d
  have x2e : lx2_arities = lf (s2 : LX).2.2.2.1 := by
    unfold lx2_arities
    rw [x1a, x1b, x1c, x1d, x1e, x1f, x1g]
    exact q2e
  have x2f : lx2_kinds = lf (s2 : LX).2.2.2.2.1 := by
    unfold lx2_kinds
    rw [x1a, x1b, x1c, x1d, x1e, x1f, x1g]
    exact q2f
  have x2g : lx2_slots = lf (s2 : LX).2.2.2.2.2 := by
    unfold lx2_slots
    rw [x1a, x1b, x1c, x1d, x1e, x1f, x1g]
    exact q2g
  obtain ⟨B3, q3a, q3b, q3c, q3d, q3e, q3f, q3g⟩ := lx_ld_p (i := 5) (N := 161) (by decide) (by decide) B2 e3
  have x3a : lx3_words = nI ((s3 : LX).2.2.1.length - 1) := by
    unfold lx3_words
    rw [x2a, x2b, x2c, x2d, x2e, x2f, x2g]
    exact q3a
  have x3b : lx3_used = nI (s3 : LX).2.1.length := by
    unfold lx3_used
    rw [x2a, x2b, x2c, x2d, x2e, x2f, x2g]
    exact q3b
  have x3c : lx3_letters = lf (s3 : LX).2.1 := by
    unfold lx3_letters
    rw [x2a, x2b, x2c, x2d, x2e, x2f, x2g]
    exact q3c
  have x3d : lx3_starts = lf (s3 : LX).2.2.1 := by
    unfold lx3_starts
    rw [x2a, x2b, x2c, x2d, x2e, x2f, x2g]
    exact q3d
  have x3e : lx3_arities = lf (s3 : LX).2.2.2.1 := by
    unfold lx3_arities
    rw [x2a, x2b, x2c, x2d, x2e, x2f, x2g]
    exact q3e
  have x3f : lx3_kinds = lf (s3 : LX).2.2.2.2.1 := by
    unfold lx3_kinds
    rw [x2a, x2b, x2c, x2d, x2e, x2f, x2g]
    exact q3f
  have x3g : lx3_slots = lf (s3 : LX).2.2.2.2.2 := by
    unfold lx3_slots
    rw [x2a, x2b, x2c, x2d, x2e, x2f, x2g]
    exact q3g
  obtain ⟨B4, q4a, q4b, q4c, q4d, q4e, q4f, q4g⟩ := lx_ld_p (i := 6) (N := 78) (by decide) (by decide) B3 e4
  have x4a : lx4_words = nI ((s4 : LX).2.2.1.length - 1) := by
    unfold lx4_words
    rw [x3a, x3b, x3c, x3d, x3e, x3f, x3g]
    exact q4a
  have x4b : lx4_used = nI (s4 : LX).2.1.length := by
    unfold lx4_used
    rw [x3a, x3b, x3c, x3d, x3e, x3f, x3g]
    exact q4b
  have x4c : lx4_letters = lf (s4 : LX).2.1 := by
    unfold lx4_letters
    rw [x3a, x3b, x3c, x3d, x3e, x3f, x3g]
    exact q4c
  have x4d : lx4_starts = lf (s4 : LX).2.2.1 := by
    unfold lx4_starts
    rw [x3a, x3b, x3c, x3d, x3e, x3f, x3g]
    exact q4d
  have x4e : lx4_arities = lf (s4 : LX).2.2.2.1 := by
    unfold lx4_arities
    rw [x3a, x3b, x3c, x3d, x3e, x3f, x3g]
    exact q4e
  have x4f : lx4_kinds = lf (s4 : LX).2.2.2.2.1 := by
    unfold lx4_kinds
    rw [x3a, x3b, x3c, x3d, x3e, x3f, x3g]
    exact q4f
  have x4g : lx4_slots = lf (s4 : LX).2.2.2.2.2 := by
    unfold lx4_slots
    rw [x3a, x3b, x3c, x3d, x3e, x3f, x3g]
    exact q4g
  obtain ⟨B5, q5a, q5b, q5c, q5d, q5e, q5f, q5g⟩ := lx_ld_p (i := 7) (N := 114) (by decide) (by decide) B4 e5
  have x5a : lx5_words = nI ((s5 : LX).2.2.1.length - 1) := by
    unfold lx5_words
    rw [x4a, x4b, x4c, x4d, x4e, x4f, x4g]
    exact q5a
  have x5b : lx5_used = nI (s5 : LX).2.1.length := by
    unfold lx5_used
    rw [x4a, x4b, x4c, x4d, x4e, x4f, x4g]
    exact q5b
  have x5c : lx5_letters = lf (s5 : LX).2.1 := by
    unfold lx5_letters
    rw [x4a, x4b, x4c, x4d, x4e, x4f, x4g]
    exact q5c
  have x5d : lx5_starts = lf (s5 : LX).2.2.1 := by
    unfold lx5_starts
    rw [x4a, x4b, x4c, x4d, x4e, x4f, x4g]
    exact q5d
  have x5e : lx5_arities = lf (s5 : LX).2.2.2.1 := by
    unfold lx5_arities
    rw [x4a, x4b, x4c, x4d, x4e, x4f, x4g]
    exact q5e
  have x5f : lx5_kinds = lf (s5 : LX).2.2.2.2.1 := by
    unfold lx5_kinds
    rw [x4a, x4b, x4c, x4d, x4e, x4f, x4g]
    exact q5f
  have x5g : lx5_slots = lf (s5 : LX).2.2.2.2.2 := by
    unfold lx5_slots
    rw [x4a, x4b, x4c, x4d, x4e, x4f, x4g]
    exact q5g
  obtain ⟨B6, q6a, q6b, q6c, q6d, q6e, q6f, q6g⟩ := lx_ld_p (i := 8) (N := 24) (by decide) (by decide) B5 e6
  have x6a : lx6_words = nI (((0, lexL, lexS, lexA, lexK, lexH) : LX).2.2.1.length - 1) := by
    unfold lx6_words
    rw [x5a, x5b, x5c, x5d, x5e, x5f, x5g]
    exact q6a
  have x6b : lx6_used = nI ((0, lexL, lexS, lexA, lexK, lexH) : LX).2.1.length := by
    unfold lx6_used
    rw [x5a, x5b, x5c, x5d, x5e, x5f, x5g]
    exact q6b
  have x6c : lx6_letters = lf ((0, lexL, lexS, lexA, lexK, lexH) : LX).2.1 := by
    unfold lx6_letters
    rw [x5a, x5b, x5c, x5d, x5e, x5f, x5g]
    exact q6c
  have x6d : lx6_starts = lf ((0, lexL, lexS, lexA, lexK, lexH) : LX).2.2.1 := by
    unfold lx6_starts
    rw [x5a, x5b, x5c, x5d, x5e, x5f, x5g]
    exact q6d
  have x6e : lx6_arities = lf ((0, lexL, lexS, lexA, lexK, lexH) : LX).2.2.2.1 := by
    unfold lx6_arities
    rw [x5a, x5b, x5c, x5d, x5e, x5f, x5g]
    exact q6e
  have x6f : lx6_kinds = lf ((0, lexL, lexS, lexA, lexK, lexH) : LX).2.2.2.2.1 := by
    unfold lx6_kinds
    rw [x5a, x5b, x5c, x5d, x5e, x5f, x5g]
    exact q6f
  have x6g : lx6_slots = lf ((0, lexL, lexS, lexA, lexK, lexH) : LX).2.2.2.2.2 := by
    unfold lx6_slots
    rw [x5a, x5b, x5c, x5d, x5e, x5f, x5g]
    exact q6g
  exact ⟨x6c, x6d, x6e, x6f, x6g⟩

theorem xa0_5 : xa0 5 = lx6_letters := by
  unfold xa0
  rw [if_neg (show ¬ (5 : Nat) = 0 by decide), if_pos rfl]
theorem xa0_6 : xa0 6 = lx6_starts := by
  unfold xa0
  rw [if_neg (show ¬ (6 : Nat) = 0 by decide), if_neg (show ¬ (6 : Nat) = 5 by decide), if_pos rfl]
theorem xa0_7 : xa0 7 = lx6_arities := by
  unfold xa0
  rw [if_neg (show ¬ (7 : Nat) = 0 by decide), if_neg (show ¬ (7 : Nat) = 5 by decide), if_neg (show ¬ (7 : Nat) = 6 by decide), if_pos rfl]
theorem xa0_8 : xa0 8 = lx6_kinds := by
  unfold xa0
  rw [if_neg (show ¬ (8 : Nat) = 0 by decide), if_neg (show ¬ (8 : Nat) = 5 by decide), if_neg (show ¬ (8 : Nat) = 6 by decide), if_neg (show ¬ (8 : Nat) = 7 by decide), if_pos rfl]
theorem xa0_9 : xa0 9 = lx6_slots := by
  unfold xa0
  rw [if_neg (show ¬ (9 : Nat) = 0 by decide), if_neg (show ¬ (9 : Nat) = 5 by decide), if_neg (show ¬ (9 : Nat) = 6 by decide), if_neg (show ¬ (9 : Nat) = 7 by decide), if_neg (show ¬ (9 : Nat) = 8 by decide), if_pos rfl]
theorem xa0_0r : xa0 0 = hp3 lx6_letters lx6_starts lx6_slots := by
  unfold xa0
  rw [if_pos rfl]
theorem lexOk_0 : lexOk xa0 := by
  obtain ⟨h3, h4, h5, h6, h7⟩ := lexB
  refine ⟨fun k _ => ?_, fun k _ => ?_, fun k _ => ?_, fun k _ => ?_, fun k _ => ?_⟩
  · rw [xa0_5, h3, lf_at]
  · rw [xa0_6, h4, lf_at]
  · rw [xa0_7, h5, lf_at]
  · rw [xa0_8, h6, lf_at]
  · rw [xa0_9, h7, lf_at]
def c21 : List Nat := [0, 128, 116, 114, 117, 101, 0, 128, 102, 97, 108, 115, 101, 0, 202, 101, 114, 114, 111, 114, 0, 0]
set_option maxRecDepth 200000 in
theorem hp3_is : ∀ p, p < 22 → hp3 (lf lexL) (lf lexS) (lf lexH) p = nI (c21.getD p 0) := by decide +kernel
theorem xa0_0 : ∀ p, p < 22 → xa0 0 p = nI (c21.getD p 0) := by
  obtain ⟨h3, h4, h5, h6, h7⟩ := lexB
  intro p hp
  rw [xa0_0r, h3, h4, h7]
  exact hp3_is p hp

