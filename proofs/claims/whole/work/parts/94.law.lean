theorem hd_World_feed : y_World_feed.cls ≠ "java/lang/invoke/MethodHandle" ∧ y_World_feed.cls ≠ "java/lang/invoke/VarHandle" ∧ (parseMethodDescriptor y_World_feed.desc).map (fun d => d.parameters.length) = some 5 := by decide +kernel
theorem hd_Model_feed : y_Model_feed.cls ≠ "java/lang/invoke/MethodHandle" ∧ y_Model_feed.cls ≠ "java/lang/invoke/VarHandle" ∧ (parseMethodDescriptor y_Model_feed.desc).map (fun d => d.parameters.length) = some 5 := by decide +kernel
theorem hd_World_end : y_World_end.cls ≠ "java/lang/invoke/MethodHandle" ∧ y_World_end.cls ≠ "java/lang/invoke/VarHandle" ∧ (parseMethodDescriptor y_World_end.desc).map (fun d => d.parameters.length) = some 1 := by decide +kernel
theorem hd_Model_end : y_Model_end.cls ≠ "java/lang/invoke/MethodHandle" ∧ y_Model_end.cls ≠ "java/lang/invoke/VarHandle" ∧ (parseMethodDescriptor y_Model_end.desc).map (fun d => d.parameters.length) = some 1 := by decide +kernel
theorem hd_World_define : y_World_define.cls ≠ "java/lang/invoke/MethodHandle" ∧ y_World_define.cls ≠ "java/lang/invoke/VarHandle" ∧ (parseMethodDescriptor y_World_define.desc).map (fun d => d.parameters.length) = some 0 := by decide +kernel
theorem hd_Model_define : y_Model_define.cls ≠ "java/lang/invoke/MethodHandle" ∧ y_Model_define.cls ≠ "java/lang/invoke/VarHandle" ∧ (parseMethodDescriptor y_Model_define.desc).map (fun d => d.parameters.length) = some 0 := by decide +kernel
theorem hd_World_line : y_World_line.cls ≠ "java/lang/invoke/MethodHandle" ∧ y_World_line.cls ≠ "java/lang/invoke/VarHandle" ∧ (parseMethodDescriptor y_World_line.desc).map (fun d => d.parameters.length) = some 0 := by decide +kernel
theorem hd_Model_line : y_Model_line.cls ≠ "java/lang/invoke/MethodHandle" ∧ y_Model_line.cls ≠ "java/lang/invoke/VarHandle" ∧ (parseMethodDescriptor y_Model_line.desc).map (fun d => d.parameters.length) = some 0 := by decide +kernel
theorem hd_World_fault : y_World_fault.cls ≠ "java/lang/invoke/MethodHandle" ∧ y_World_fault.cls ≠ "java/lang/invoke/VarHandle" ∧ (parseMethodDescriptor y_World_fault.desc).map (fun d => d.parameters.length) = some 1 := by decide +kernel
theorem hd_Model_fault : y_Model_fault.cls ≠ "java/lang/invoke/MethodHandle" ∧ y_Model_fault.cls ≠ "java/lang/invoke/VarHandle" ∧ (parseMethodDescriptor y_Model_fault.desc).map (fun d => d.parameters.length) = some 1 := by decide +kernel
theorem hd_World_run : y_World_run.cls ≠ "java/lang/invoke/MethodHandle" ∧ y_World_run.cls ≠ "java/lang/invoke/VarHandle" ∧ (parseMethodDescriptor y_World_run.desc).map (fun d => d.parameters.length) = some 1 := by decide +kernel
theorem hd_Model_run : y_Model_run.cls ≠ "java/lang/invoke/MethodHandle" ∧ y_Model_run.cls ≠ "java/lang/invoke/VarHandle" ∧ (parseMethodDescriptor y_Model_run.desc).map (fun d => d.parameters.length) = some 1 := by decide +kernel
theorem hd_World_go : y_World_go.cls ≠ "java/lang/invoke/MethodHandle" ∧ y_World_go.cls ≠ "java/lang/invoke/VarHandle" ∧ (parseMethodDescriptor y_World_go.desc).map (fun d => d.parameters.length) = some 1 := by decide +kernel
theorem hd_Model_go : y_Model_go.cls ≠ "java/lang/invoke/MethodHandle" ∧ y_Model_go.cls ≠ "java/lang/invoke/VarHandle" ∧ (parseMethodDescriptor y_Model_go.desc).map (fun d => d.parameters.length) = some 1 := by decide +kernel
theorem hd_World_stop : y_World_stop.cls ≠ "java/lang/invoke/MethodHandle" ∧ y_World_stop.cls ≠ "java/lang/invoke/VarHandle" ∧ (parseMethodDescriptor y_World_stop.desc).map (fun d => d.parameters.length) = some 0 := by decide +kernel
theorem hd_Model_stop : y_Model_stop.cls ≠ "java/lang/invoke/MethodHandle" ∧ y_Model_stop.cls ≠ "java/lang/invoke/VarHandle" ∧ (parseMethodDescriptor y_Model_stop.desc).map (fun d => d.parameters.length) = some 0 := by decide +kernel
theorem hd_World_look : y_World_look.cls ≠ "java/lang/invoke/MethodHandle" ∧ y_World_look.cls ≠ "java/lang/invoke/VarHandle" ∧ (parseMethodDescriptor y_World_look.desc).map (fun d => d.parameters.length) = some 1 := by decide +kernel
theorem hd_Model_look : y_Model_look.cls ≠ "java/lang/invoke/MethodHandle" ∧ y_Model_look.cls ≠ "java/lang/invoke/VarHandle" ∧ (parseMethodDescriptor y_Model_look.desc).map (fun d => d.parameters.length) = some 1 := by decide +kernel
theorem hd_Model_place : y_Model_place.cls ≠ "java/lang/invoke/MethodHandle" ∧ y_Model_place.cls ≠ "java/lang/invoke/VarHandle" ∧ (parseMethodDescriptor y_Model_place.desc).map (fun d => d.parameters.length) = some 3 := by decide +kernel
theorem hd_Model_thrown : y_Model_thrown.cls ≠ "java/lang/invoke/MethodHandle" ∧ y_Model_thrown.cls ≠ "java/lang/invoke/VarHandle" ∧ (parseMethodDescriptor y_Model_thrown.desc).map (fun d => d.parameters.length) = some 0 := by decide +kernel
theorem hd_Model_side : y_Model_side.cls ≠ "java/lang/invoke/MethodHandle" ∧ y_Model_side.cls ≠ "java/lang/invoke/VarHandle" ∧ (parseMethodDescriptor y_Model_side.desc).map (fun d => d.parameters.length) = some 3 := by decide +kernel
theorem hd_World_turtle : y_World_turtle.cls ≠ "java/lang/invoke/MethodHandle" ∧ y_World_turtle.cls ≠ "java/lang/invoke/VarHandle" ∧ (parseMethodDescriptor y_World_turtle.desc).map (fun d => d.parameters.length) = some 2 := by decide +kernel
theorem hd_Model_turtle : y_Model_turtle.cls ≠ "java/lang/invoke/MethodHandle" ∧ y_Model_turtle.cls ≠ "java/lang/invoke/VarHandle" ∧ (parseMethodDescriptor y_Model_turtle.desc).map (fun d => d.parameters.length) = some 2 := by decide +kernel
theorem hd_World_dot : y_World_dot.cls ≠ "java/lang/invoke/MethodHandle" ∧ y_World_dot.cls ≠ "java/lang/invoke/VarHandle" ∧ (parseMethodDescriptor y_World_dot.desc).map (fun d => d.parameters.length) = some 2 := by decide +kernel
theorem hd_Model_dot : y_Model_dot.cls ≠ "java/lang/invoke/MethodHandle" ∧ y_Model_dot.cls ≠ "java/lang/invoke/VarHandle" ∧ (parseMethodDescriptor y_Model_dot.desc).map (fun d => d.parameters.length) = some 2 := by decide +kernel
theorem hd_World_out : y_World_out.cls ≠ "java/lang/invoke/MethodHandle" ∧ y_World_out.cls ≠ "java/lang/invoke/VarHandle" ∧ (parseMethodDescriptor y_World_out.desc).map (fun d => d.parameters.length) = some 1 := by decide +kernel
theorem hd_Model_out : y_Model_out.cls ≠ "java/lang/invoke/MethodHandle" ∧ y_Model_out.cls ≠ "java/lang/invoke/VarHandle" ∧ (parseMethodDescriptor y_Model_out.desc).map (fun d => d.parameters.length) = some 1 := by decide +kernel
theorem hd_World_name : y_World_name.cls ≠ "java/lang/invoke/MethodHandle" ∧ y_World_name.cls ≠ "java/lang/invoke/VarHandle" ∧ (parseMethodDescriptor y_World_name.desc).map (fun d => d.parameters.length) = some 2 := by decide +kernel
theorem hd_Model_name : y_Model_name.cls ≠ "java/lang/invoke/MethodHandle" ∧ y_Model_name.cls ≠ "java/lang/invoke/VarHandle" ∧ (parseMethodDescriptor y_Model_name.desc).map (fun d => d.parameters.length) = some 2 := by decide +kernel
theorem hd_World_value : y_World_value.cls ≠ "java/lang/invoke/MethodHandle" ∧ y_World_value.cls ≠ "java/lang/invoke/VarHandle" ∧ (parseMethodDescriptor y_World_value.desc).map (fun d => d.parameters.length) = some 2 := by decide +kernel
theorem hd_Model_value : y_Model_value.cls ≠ "java/lang/invoke/MethodHandle" ∧ y_Model_value.cls ≠ "java/lang/invoke/VarHandle" ∧ (parseMethodDescriptor y_Model_value.desc).map (fun d => d.parameters.length) = some 2 := by decide +kernel
theorem hd_World_procedure : y_World_procedure.cls ≠ "java/lang/invoke/MethodHandle" ∧ y_World_procedure.cls ≠ "java/lang/invoke/VarHandle" ∧ (parseMethodDescriptor y_World_procedure.desc).map (fun d => d.parameters.length) = some 2 := by decide +kernel
theorem hd_Model_procedure : y_Model_procedure.cls ≠ "java/lang/invoke/MethodHandle" ∧ y_Model_procedure.cls ≠ "java/lang/invoke/VarHandle" ∧ (parseMethodDescriptor y_Model_procedure.desc).map (fun d => d.parameters.length) = some 2 := by decide +kernel
theorem hd_World_call : y_World_call.cls ≠ "java/lang/invoke/MethodHandle" ∧ y_World_call.cls ≠ "java/lang/invoke/VarHandle" ∧ (parseMethodDescriptor y_World_call.desc).map (fun d => d.parameters.length) = some 2 := by decide +kernel
theorem hd_Model_call : y_Model_call.cls ≠ "java/lang/invoke/MethodHandle" ∧ y_Model_call.cls ≠ "java/lang/invoke/VarHandle" ∧ (parseMethodDescriptor y_Model_call.desc).map (fun d => d.parameters.length) = some 2 := by decide +kernel
theorem hd_World_sum : y_World_sum.cls ≠ "java/lang/invoke/MethodHandle" ∧ y_World_sum.cls ≠ "java/lang/invoke/VarHandle" ∧ (parseMethodDescriptor y_World_sum.desc).map (fun d => d.parameters.length) = some 0 := by decide +kernel
theorem hd_Model_sum : y_Model_sum.cls ≠ "java/lang/invoke/MethodHandle" ∧ y_Model_sum.cls ≠ "java/lang/invoke/VarHandle" ∧ (parseMethodDescriptor y_Model_sum.desc).map (fun d => d.parameters.length) = some 0 := by decide +kernel
theorem vP_mem {D : va_G} {cl : List vw_C} {ws : va_W} {H : Heap} : va_P D cl ws H ↔ ∀ q ∈ ws, va_at D cl q H := by
  constructor
  · intro h q hq
    obtain ⟨k, hk⟩ := List.mem_iff_getElem?.mp hq
    exact h k q hk
  · intro h k q hk
    exact h q (List.mem_of_getElem? hk)
theorem vD_mem {A : Nat → Prop} {ws : va_W} : va_D A ws ↔ (ws.map Prod.fst).Nodup ∧ ∀ q ∈ ws, A q.1 := by
  constructor
  · intro h
    refine ⟨?_, fun q hq => ?_⟩
    · unfold List.Nodup
      rw [List.pairwise_iff_getElem]
      intro i j hi hj hij he
      rw [List.length_map] at hi hj
      rw [List.getElem_map, List.getElem_map] at he
      have := h.1 i j _ _ (List.getElem?_eq_getElem hi) (List.getElem?_eq_getElem hj) he
      omega
    · obtain ⟨k, hk⟩ := List.mem_iff_getElem?.mp hq
      exact h.2 k q hk
  · intro h
    refine ⟨fun i j p q hi hj he => ?_, fun k q hk => h.2 q (List.mem_of_getElem? hk)⟩
    have h1 := h.1
    unfold List.Nodup at h1
    rw [List.pairwise_iff_getElem] at h1
    obtain ⟨li, ei⟩ := List.getElem?_eq_some_iff.mp hi
    obtain ⟨lj, ej⟩ := List.getElem?_eq_some_iff.mp hj
    rcases Nat.lt_trichotomy i j with g | g | g
    · exact absurd (by rw [List.getElem_map, List.getElem_map, ei, ej]; exact he) (h1 i j (by rw [List.length_map]; exact li) (by rw [List.length_map]; exact lj) g)
    · exact g
    · exact absurd (by rw [List.getElem_map, List.getElem_map, ei, ej]; exact he.symm) (h1 j i (by rw [List.length_map]; exact lj) (by rw [List.length_map]; exact li) g)
theorem v_part {D : va_G} {cl : List vw_C} {A : Nat → Prop} {p w1 r : va_W} {H : Heap} (hP : va_P D cl (p ++ w1 ++ r) H) (hD : va_D A (p ++ w1 ++ r)) : va_P D cl w1 H ∧ va_D A w1 := by
  rw [vP_mem] at hP ⊢
  rw [vD_mem] at hD ⊢
  refine ⟨fun q hq => hP q (by simp [hq]), ?_, fun q hq => hD.2 q (by simp [hq])⟩
  have h := hD.1
  rw [List.map_append, List.map_append, List.nodup_append] at h
  exact (List.nodup_append.mp h.1).2.1
theorem v_back {D : va_G} {cl : List vw_C} {A : Nat → Prop} {p w1 w2 r : va_W} {H H1 : Heap} (hP : va_P D cl (p ++ w1 ++ r) H) (hD : va_D A (p ++ w1 ++ r)) (hk : ∀ q : Nat, q < H.size → ¬ va_A w1 H.size q → H1[q]? = H[q]?) (hF : ∀ q, va_A w1 H.size q → A q) (hP1 : va_P D cl w2 H1) (hD1 : va_D (va_A w1 H.size) w2) : va_P D cl (p ++ w2 ++ r) H1 ∧ va_D A (p ++ w2 ++ r) := by
  rw [vP_mem] at hP hP1 ⊢
  rw [vD_mem] at hD hD1 ⊢
  have hn := hD.1
  rw [List.map_append, List.map_append, List.nodup_append, List.nodup_append] at hn
  obtain ⟨⟨np, n1, d1⟩, nr, d2⟩ := hn
  have far : ∀ q : Nat × va_E, (q ∈ p ∨ q ∈ r) → q.1 < H.size ∧ ¬ va_A w1 H.size q.1 := by
    intro q hq
    have hl : q.1 < H.size := (hP q (by rcases hq with h | h <;> simp [h])).lt
    refine ⟨hl, fun h => ?_⟩
    rcases h with ⟨k, e, h⟩ | h
    · have hm : q.1 ∈ w1.map Prod.fst := List.mem_map.mpr ⟨(q.1, e), List.mem_of_getElem? h, rfl⟩
      rcases hq with h9 | h9
      · exact d1 q.1 (List.mem_map.mpr ⟨q, h9, rfl⟩) q.1 hm rfl
      · exact d2 q.1 (List.mem_append.mpr (Or.inr hm)) q.1 (List.mem_map.mpr ⟨q, h9, rfl⟩) rfl
    · omega
  refine ⟨fun q hq => ?_, ?_, fun q hq => ?_⟩
  · rcases List.mem_append.mp hq with h | h
    · rcases List.mem_append.mp h with h | h
      · have f := far q (Or.inl h)
        exact (hP q (by simp [h])).kept (hk q.1 f.1 f.2)
      · exact hP1 q h
    · have f := far q (Or.inr h)
      exact (hP q (by simp [h])).kept (hk q.1 f.1 f.2)
  · rw [List.map_append, List.map_append, List.nodup_append, List.nodup_append]
    refine ⟨⟨np, hD1.1, ?_⟩, nr, ?_⟩
    · intro x hx y hy e
      obtain ⟨q, hq, rfl⟩ := List.mem_map.mp hx
      obtain ⟨q2, hq2, rfl⟩ := List.mem_map.mp hy
      exact (far q (Or.inl hq)).2 (by rw [e]; exact hD1.2 q2 hq2)
    · intro x hx y hy e
      obtain ⟨q, hq, rfl⟩ := List.mem_map.mp hy
      rcases List.mem_append.mp hx with h | h
      · exact d2 x (List.mem_append.mpr (Or.inl h)) _ (List.mem_map.mpr ⟨q, hq, rfl⟩) e
      · obtain ⟨q2, hq2, rfl⟩ := List.mem_map.mp h
        exact (far q (Or.inr hq)).2 (by rw [← e]; exact hD1.2 q2 hq2)
  · rcases List.mem_append.mp hq with h | h
    · rcases List.mem_append.mp h with h | h
      · exact hD.2 q (by simp [h])
      · exact hF _ (hD1.2 q h)
    · exact hD.2 q (by simp [h])
theorem v_partL {D : va_G} {cl : List vw_C} {A : Nat → Prop} {w1 q r : va_W} {H : Heap} (hP : va_P D cl (w1 ++ q ++ r) H) (hD : va_D A (w1 ++ q ++ r)) : va_P D cl w1 H ∧ va_D A w1 := by
  rw [List.append_assoc] at hP hD
  exact v_part (p := []) hP hD
theorem v_backL {D : va_G} {cl : List vw_C} {A : Nat → Prop} {w1 w2 q r : va_W} {H H1 : Heap} (hP : va_P D cl (w1 ++ q ++ r) H) (hD : va_D A (w1 ++ q ++ r)) (hk : ∀ q : Nat, q < H.size → ¬ va_A w1 H.size q → H1[q]? = H[q]?) (hF : ∀ q, va_A w1 H.size q → A q) (hP1 : va_P D cl w2 H1) (hD1 : va_D (va_A w1 H.size) w2) : va_P D cl (w2 ++ q ++ r) H1 ∧ va_D A (w2 ++ q ++ r) := by
  rw [List.append_assoc] at hP hD ⊢
  exact v_back (p := []) hP hD hk hF hP1 hD1
theorem v_same {D : va_G} {cl : List vw_C} {A : Nat → Prop} {w1 ws : va_W} {H H1 : Heap} (hP : va_P D cl ws H) (hk : ∀ q : Nat, q < H.size → ¬ va_A w1 H.size q → H1[q]? = H[q]?) (hD : va_D A ws) (hs : ∀ q ∈ w1, q ∈ ws) (hP1 : va_P D cl w1 H1) : va_P D cl ws H1 := by
  intro k q hkq
  rcases Classical.em (va_A w1 H.size q.1) with h | h
  · rcases h with ⟨j, e, h⟩ | h
    · obtain ⟨j2, h2⟩ := List.mem_iff_getElem?.mp (hs _ (List.mem_of_getElem? h))
      have := hD.1 k j2 _ _ hkq h2 rfl
      subst this
      rw [hkq] at h2
      rw [Option.some.inj h2]
      exact hP1 j _ h
    · exact absurd (hP k q hkq).lt (by omega)
  · exact (hP k q hkq).kept (hk q.1 (hP k q hkq).lt h)
theorem v_set {D : va_G} {cl : List vw_C} {A : Nat → Prop} {w1 w2 ws : va_W} {H H1 : Heap} {p ad : Nat} {e0 e1 : va_E} (hP : va_P D cl ws H) (hD : va_D A ws) (hp : ws[p]? = some (ad, e0)) (hk : ∀ q : Nat, q < H.size → ¬ va_A w1 H.size q → H1[q]? = H[q]?) (hs : ∀ q ∈ w1, q ∈ ws) (hw : ∀ q ∈ w1, q ≠ (ad, e0) → q ∈ w2) (hn : (ad, e1) ∈ w2) (hP1 : va_P D cl w2 H1) : va_P D cl (ws.set p (ad, e1)) H1 ∧ va_D A (ws.set p (ad, e1)) := by
  refine ⟨?_, hD.set hp⟩
  have hlt : p < ws.length := (List.getElem?_eq_some_iff.mp hp).1
  rw [vP_mem] at hP1
  intro k q hkq
  rcases Classical.em (p = k) with h | h
  · subst h
    rw [List.getElem?_set_self hlt] at hkq
    cases hkq
    exact hP1 _ hn
  · rw [List.getElem?_set_ne h] at hkq
    rcases Classical.em (va_A w1 H.size q.1) with g | g
    · rcases g with ⟨j, e, g⟩ | g
      · obtain ⟨j2, h2⟩ := List.mem_iff_getElem?.mp (hs _ (List.mem_of_getElem? g))
        have := hD.1 k j2 _ _ hkq h2 rfl
        subst this
        have e9 : q = (q.1, e) := by rw [hkq] at h2; exact Option.some.inj h2
        rw [e9]
        refine hP1 _ (hw _ (List.mem_of_getElem? g) (fun z => h ?_))
        rw [← e9] at z
        exact (hD.1 k p _ _ hkq hp (by rw [z])).symm
      · exact absurd (hP k q hkq).lt (by omega)
    · exact (hP k q hkq).kept (hk q.1 (hP k q hkq).lt g)
def cr {δ : Type} (kc ks : Nat) (k : Option δ) : Option δ := if kc ≤ 601024 ∧ ks ≤ 7293000 then k else none
theorem cr_some {δ : Type} {kc ks : Nat} {k : Option δ} {z : δ} (h : cr kc ks k = some z) : kc ≤ 601024 ∧ ks ≤ 7293000 ∧ k = some z := by
  unfold cr at h
  rcases Classical.em (kc ≤ 601024 ∧ ks ≤ 7293000) with c | c
  · rw [if_pos c] at h; exact ⟨c.1, c.2, h⟩
  · rw [if_neg c] at h; cases h
abbrev LT (cI cJ cB : ClassId) (u o : Nat → Nat) (h : Nat) (v : Nat → Nat) (o9 : Nat) (xi : Nat → Int32) (xa : Nat → Nat → Int32) (xg : Nat → Nat) (mi : Nat → Int32) (mj : Nat → Int64) (ma : Nat → Nat → Int32) (mb : Nat → Nat → Int64) (fo : Nat → Int64) : va_W := TW cI u o xi xa xg ++ MW cI cJ cB h v mi mj ma mb ++ [(o9, .inl (cJ, 1, .inr (.inl fo)))]

set_option maxRecDepth 100000 in
theorem lt_o {cI cJ cB : ClassId} {u o : Nat → Nat} {h : Nat} {v : Nat → Nat} {o9 : Nat} {xi : Nat → Int32} {xa : Nat → Nat → Int32} {xg : Nat → Nat} {mi : Nat → Int32} {mj : Nat → Int64} {ma : Nat → Nat → Int32} {mb : Nat → Nat → Int64} {fo : Nat → Int64} : (LT cI cJ cB u o h v o9 xi xa xg mi mj ma mb fo)[138]? = some (o9, .inl (cJ, 1, .inr (.inl fo))) := rfl
set_option maxRecDepth 100000 in
theorem lt_set {cI cJ cB : ClassId} {u o : Nat → Nat} {h : Nat} {v : Nat → Nat} {o9 : Nat} {xi : Nat → Int32} {xa : Nat → Nat → Int32} {xg : Nat → Nat} {mi : Nat → Int32} {mj : Nat → Int64} {ma : Nat → Nat → Int32} {mb : Nat → Nat → Int64} {fo : Nat → Int64} {f : Nat → Int64} : (LT cI cJ cB u o h v o9 xi xa xg mi mj ma mb fo).set 138 (o9, .inl (cJ, 1, .inr (.inl f))) = LT cI cJ cB u o h v o9 xi xa xg mi mj ma mb f := rfl
abbrev LP4 (cI cJ : ClassId) (u o : Nat → Nat) (o9 : Nat) (xi : Nat → Int32) (xa : Nat → Nat → Int32) (fo : Nat → Int64) : va_W := [(u 0, .inr (0, xf_0 u o xi)), (u 5, .inr (5, xf_5 u o xi)), (u 30, .inl (cI, 56, .inl (xa 20))), (o9, .inl (cJ, 1, .inr (.inl fo)))]
abbrev LP2 (cJ : ClassId) (u o : Nat → Nat) (o9 : Nat) (xi : Nat → Int32) (fo : Nat → Int64) : va_W := [(u 0, .inr (0, xf_0 u o xi)), (o9, .inl (cJ, 1, .inr (.inl fo)))]
set_option maxRecDepth 100000 in
theorem lt_s4 {cI cJ cB : ClassId} {u o : Nat → Nat} {h : Nat} {v : Nat → Nat} {o9 : Nat} {xi : Nat → Int32} {xa : Nat → Nat → Int32} {xg : Nat → Nat} {mi : Nat → Int32} {mj : Nat → Int64} {ma : Nat → Nat → Int32} {mb : Nat → Nat → Int64} {fo : Nat → Int64} : [0, 5, 32, 138].map (fun k => (LT cI cJ cB u o h v o9 xi xa xg mi mj ma mb fo)[k]?) = (LP4 cI cJ u o o9 xi xa fo).map some := rfl
set_option maxRecDepth 100000 in
theorem lt_s2 {cI cJ cB : ClassId} {u o : Nat → Nat} {h : Nat} {v : Nat → Nat} {o9 : Nat} {xi : Nat → Int32} {xa : Nat → Nat → Int32} {xg : Nat → Nat} {mi : Nat → Int32} {mj : Nat → Int64} {ma : Nat → Nat → Int32} {mb : Nat → Nat → Int64} {fo : Nat → Int64} : [0, 138].map (fun k => (LT cI cJ cB u o h v o9 xi xa xg mi mj ma mb fo)[k]?) = (LP2 cJ u o o9 xi fo).map some := rfl
theorem v_mem {ws w1 : va_W} {is : List Nat} (h : is.map (fun k => ws[k]?) = w1.map some) : ∀ q ∈ w1, q ∈ ws := by
  intro q hq
  have h1 : some q ∈ is.map (fun k => ws[k]?) := by rw [h]; exact List.mem_map.mpr ⟨q, hq, rfl⟩
  obtain ⟨k, -, hk⟩ := List.mem_map.mp h1
  exact List.mem_of_getElem? hk
theorem v_subP {D : va_G} {cl : List vw_C} {ws w1 : va_W} {H : Heap} {is : List Nat} (hP : va_P D cl ws H) (h : is.map (fun k => ws[k]?) = w1.map some) : va_P D cl w1 H := by
  rw [vP_mem] at hP ⊢
  exact fun q hq => hP q (v_mem h q hq)
theorem lp_n {cI cJ : ClassId} {u o : Nat → Nat} {o9 : Nat} {xi : Nat → Int32} {xa : Nat → Nat → Int32} {fo f2 : Nat → Int64} : ∀ q ∈ LP4 cI cJ u o o9 xi xa fo, q ≠ (o9, .inl (cJ, 1, .inr (.inl fo))) → q ∈ LP4 cI cJ u o o9 xi xa f2 := by
  intro q hq hne
  simp only [List.mem_cons, List.not_mem_nil, or_false] at hq ⊢
  rcases hq with h | h | h | h
  · exact Or.inl h
  · exact Or.inr (Or.inl h)
  · exact Or.inr (Or.inr (Or.inl h))
  · exact absurd h hne

def m_Law_b797 (n L : Nat) (xs : Nat → Int32) (rc_33 : (Nat → Int32) → (Nat → Nat → Int32) → (Nat → Nat) → (Nat → Int32) → (Nat → Int64) → (Nat → Nat → Int32) → (Nat → Nat → Int64) → (Nat → Int64) → (Nat) → (Nat) → Int32 → Option (Int32)) (xi : Nat → Int32) (xa : Nat → Nat → Int32) (xg : Nat → Nat) (mi : Nat → Int32) (mj : Nat → Int64) (ma : Nat → Nat → Int32) (mb : Nat → Nat → Int64) (fo : Nat → Int64) (kc : Nat) (ks : Nat) (v4 : Int32) : Option (Int32) := ob1 (v4 + 6 : Int32) (fun x_1 => rc_33 xi xa xg mi mj ma mb fo kc ks x_1)
set_option maxHeartbeats 4000000 in
set_option maxRecDepth 100000 in
theorem lb_Law_797 {p : Program} {e : Env} {s : State} {m : MethodId} {below : List Frame} {meth : Method} {c : Code} (l : Launch) (hf : l.flags = pinnedFlags ++ [noTraceFlag]) {b L : Nat} {xs : Nat → Int32} {A : Nat → Prop} (hA : ∀ q, s.heap.size ≤ q → A q) (hAs : ∀ q, A q → s.heap.size ≤ q) (C0 : lw_At p s m meth c b L xs) (hL9 : L < 2 ^ 31) (dC : Nat → ClassId) (dI : Nat → Nat → Nat) (cI cJ cB : ClassId) (hK : va_K (dC, dI) classes [(cI, .int), (cJ, .long), (cB, .byte)] s) (adK adV adA : Nat → Nat) (hE : tw_E adK adV adA A s s.heap) (hN : tw_N A s s.heap) (hX : tw_X A s s.heap) (hC : tw_scr b L xs A s s.heap) (n : Nat) {u : Nat → Nat} {h : Nat} {v : Nat → Nat} {o9 : Nat} (rc_33 : (Nat → Int32) → (Nat → Nat → Int32) → (Nat → Nat) → (Nat → Int32) → (Nat → Int64) → (Nat → Nat → Int32) → (Nat → Nat → Int64) → (Nat → Int64) → (Nat) → (Nat) → Int32 → Option (Int32)) (Hrc_33 : ∀ (xi : Nat → Int32) (xa : Nat → Nat → Int32) (xg : Nat → Nat) (mi : Nat → Int32) (mj : Nat → Int64) (ma : Nat → Nat → Int32) (mb : Nat → Nat → Int64) (fo : Nat → Int64) (kc : Nat) (ks : Nat) (v4 : Int32), rc_33 xi xa xg mi mj ma mb fo kc ks v4 = some (1 : Int32) → ∀ (o : Nat → Nat), kc ≤ 601024 → ks ≤ 7293000 → ∀ (H : Heap) (locs : List Loc) (ls : Array Slot), va_P (dC, dI) classes (LT cI cJ cB u o h v o9 xi xa xg mi mj ma mb fo) H → va_D A (LT cI cJ cB u o h v o9 xi xa xg mi mj ma mb fo) → va_S A s.heap H locs → lv_has ls 7 [(0, .ref b), (1, .ref ((u 0))), (2, .ref h), (3, .ref o9), (4, .int v4)] → W p l e room_1 s m #[Value.ref b] below meth c H locs kc ks (lw_Z below #[Value.ref b] s) (F0 m 33 ls [])) (xi : Nat → Int32) (xa : Nat → Nat → Int32) (xg : Nat → Nat) (mi : Nat → Int32) (mj : Nat → Int64) (ma : Nat → Nat → Int32) (mb : Nat → Nat → Int64) (fo : Nat → Int64) (kc : Nat) (ks : Nat) (v4 : Int32) (hm : m_Law_b797 n L xs rc_33 xi xa xg mi mj ma mb fo kc ks v4 = some (1 : Int32)) : ∀ (o : Nat → Nat), kc ≤ 601024 → ks ≤ 7293000 → ∀ (H : Heap) (locs : List Loc) (ls : Array Slot), va_P (dC, dI) classes (LT cI cJ cB u o h v o9 xi xa xg mi mj ma mb fo) H → va_D A (LT cI cJ cB u o h v o9 xi xa xg mi mj ma mb fo) → va_S A s.heap H locs → lv_has ls 7 [(0, .ref b), (1, .ref ((u 0))), (2, .ref h), (3, .ref o9), (4, .int v4)] → W p l e room_1 s m #[Value.ref b] below meth c H locs kc ks (lw_Z below #[Value.ref b] s) (F0 m 797 ls []) := by
  obtain ⟨hx, hb, hr, hml, hown, hts, hXs, hbl, hlocks, hgv⟩ := id C0
  have htt : ∀ w ∈ tw_T, w.before #[Value.ref b] s = true := fun w h => hts w (tw_law w h)
  intro o hkc hks H locs ls hP hD hS hl
  rw [m_Law_b797] at hm
  obtain ⟨x_1, ex_1⟩ : ∃ y9 : Int32, y9 = v4 + 6 := ⟨_, rfl⟩
  replace hm := ob1_at ex_1 hm
  refine lv_iinc (v := x_1) (lv' := [(4, .int x_1), (0, .ref b), (1, .ref ((u 0))), (2, .ref h), (3, .ref o9)]) hx hb d_Law_law_797 hl (k := 4) rfl (by rw [ex_1]; rfl) (by decide) rfl (fun ls hl => ?_)
  refine lv_goto (tgt := 33) hx hb d_Law_law_800 (by decide) ?_
  exact Hrc_33 _ _ _ _ _ _ _ _ _ _ _ hm o hkc hks _ _ _ hP hD hS (lv_sub hl [1, 2, 3, 4, 0] rfl)
def m_Law_b140 (n L : Nat) (xs : Nat → Int32) (rc_33 : (Nat → Int32) → (Nat → Nat → Int32) → (Nat → Nat) → (Nat → Int32) → (Nat → Int64) → (Nat → Nat → Int32) → (Nat → Nat → Int64) → (Nat → Int64) → (Nat) → (Nat) → Int32 → Option (Int32)) (xi : Nat → Int32) (xa : Nat → Nat → Int32) (xg : Nat → Nat) (mi : Nat → Int32) (mj : Nat → Int64) (ma : Nat → Nat → Int32) (mb : Nat → Nat → Int64) (fo : Nat → Int64) (kc : Nat) (ks : Nat) (v4 : Int32) : Option (Int32) := ck ((v4 + 1)) L (ob1 (xs (v4 + 1).toNatClampNeg : Int32) (fun x_2 => ck ((v4 + 2)) L (ob1 (xs (v4 + 2).toNatClampNeg : Int32) (fun x_4 => ck ((v4 + 3)) L (ob1 (xs (v4 + 3).toNatClampNeg : Int32) (fun x_6 => ck ((v4 + 4)) L (ob1 (xs (v4 + 4).toNatClampNeg : Int32) (fun x_8 => ck ((v4 + 5)) L (ob1 (xs (v4 + 5).toNatClampNeg : Int32) (fun x_10 => ob (m_World_feed n xg xi xa x_2 x_4 x_6 x_8 x_10) (fun xi_13 xa_14 r_12 => ck ((v4 + 1)) L (ob1 (xs (v4 + 1).toNatClampNeg : Int32) (fun x_16 => ck ((v4 + 2)) L (ob1 (xs (v4 + 2).toNatClampNeg : Int32) (fun x_18 => ck ((v4 + 3)) L (ob1 (xs (v4 + 3).toNatClampNeg : Int32) (fun x_20 => ck ((v4 + 4)) L (ob1 (xs (v4 + 4).toNatClampNeg : Int32) (fun x_22 => ck ((v4 + 5)) L (ob1 (xs (v4 + 5).toNatClampNeg : Int32) (fun x_24 => om (m_Model_feed n mi mj ma mb x_16 x_18 x_20 x_22 x_24) (fun mi_27 mj_28 ma_29 mb_30 r_26 => if r_12 = r_26 then m_Law_b797 n L xs rc_33 xi_13 xa_14 xg mi_27 mj_28 ma_29 mb_30 fo kc ks v4 else some 0))))))))))))))))))))))
set_option maxHeartbeats 4000000 in
set_option maxRecDepth 100000 in
theorem lb_Law_140 {p : Program} {e : Env} {s : State} {m : MethodId} {below : List Frame} {meth : Method} {c : Code} (l : Launch) (hf : l.flags = pinnedFlags ++ [noTraceFlag]) {b L : Nat} {xs : Nat → Int32} {A : Nat → Prop} (hA : ∀ q, s.heap.size ≤ q → A q) (hAs : ∀ q, A q → s.heap.size ≤ q) (C0 : lw_At p s m meth c b L xs) (hL9 : L < 2 ^ 31) (dC : Nat → ClassId) (dI : Nat → Nat → Nat) (cI cJ cB : ClassId) (hK : va_K (dC, dI) classes [(cI, .int), (cJ, .long), (cB, .byte)] s) (adK adV adA : Nat → Nat) (hE : tw_E adK adV adA A s s.heap) (hN : tw_N A s s.heap) (hX : tw_X A s s.heap) (hC : tw_scr b L xs A s s.heap) (n : Nat) {u : Nat → Nat} {h : Nat} {v : Nat → Nat} {o9 : Nat} (rc_33 : (Nat → Int32) → (Nat → Nat → Int32) → (Nat → Nat) → (Nat → Int32) → (Nat → Int64) → (Nat → Nat → Int32) → (Nat → Nat → Int64) → (Nat → Int64) → (Nat) → (Nat) → Int32 → Option (Int32)) (Hrc_33 : ∀ (xi : Nat → Int32) (xa : Nat → Nat → Int32) (xg : Nat → Nat) (mi : Nat → Int32) (mj : Nat → Int64) (ma : Nat → Nat → Int32) (mb : Nat → Nat → Int64) (fo : Nat → Int64) (kc : Nat) (ks : Nat) (v4 : Int32), rc_33 xi xa xg mi mj ma mb fo kc ks v4 = some (1 : Int32) → ∀ (o : Nat → Nat), kc ≤ 601024 → ks ≤ 7293000 → ∀ (H : Heap) (locs : List Loc) (ls : Array Slot), va_P (dC, dI) classes (LT cI cJ cB u o h v o9 xi xa xg mi mj ma mb fo) H → va_D A (LT cI cJ cB u o h v o9 xi xa xg mi mj ma mb fo) → va_S A s.heap H locs → lv_has ls 7 [(0, .ref b), (1, .ref ((u 0))), (2, .ref h), (3, .ref o9), (4, .int v4)] → W p l e room_1 s m #[Value.ref b] below meth c H locs kc ks (lw_Z below #[Value.ref b] s) (F0 m 33 ls [])) (xi : Nat → Int32) (xa : Nat → Nat → Int32) (xg : Nat → Nat) (mi : Nat → Int32) (mj : Nat → Int64) (ma : Nat → Nat → Int32) (mb : Nat → Nat → Int64) (fo : Nat → Int64) (kc : Nat) (ks : Nat) (v4 : Int32) (hm : m_Law_b140 n L xs rc_33 xi xa xg mi mj ma mb fo kc ks v4 = some (1 : Int32)) : ∀ (o : Nat → Nat), kc ≤ 601024 → ks ≤ 7293000 → ∀ (H : Heap) (locs : List Loc) (ls : Array Slot), va_P (dC, dI) classes (LT cI cJ cB u o h v o9 xi xa xg mi mj ma mb fo) H → va_D A (LT cI cJ cB u o h v o9 xi xa xg mi mj ma mb fo) → va_S A s.heap H locs → lv_has ls 7 [(0, .ref b), (1, .ref ((u 0))), (2, .ref h), (3, .ref o9), (4, .int v4)] → W p l e room_1 s m #[Value.ref b] below meth c H locs kc ks (lw_Z below #[Value.ref b] s) (F0 m 140 ls []) := by
  obtain ⟨hx, hb, hr, hml, hown, hts, hXs, hbl, hlocks, hgv⟩ := id C0
  have htt : ∀ w ∈ tw_T, w.before #[Value.ref b] s = true := fun w h => hts w (tw_law w h)
  intro o hkc hks H locs ls hP hD hS hl
  rw [m_Law_b140] at hm
  refine lv_aload_n hx hb d_Law_law_140 rfl (lv_at hl 1 rfl) ?_
  refine lv_aload_n hx hb d_Law_law_141 rfl (lv_at hl 0 rfl) ?_
  refine lv_iload hx hb d_Law_law_142 (lv_at hl 4 rfl) ?_
  refine lv_iconst (v := 1) hx hb d_Law_law_144 (by decide) ?_
  refine lv_iadd hx hb d_Law_law_145 ?_
  obtain ⟨h_1, hm⟩ := ck_some hm
  refine va_sld hx hb hC.1 hC.2.1 hC.2.2.1 hS h_1 d_Law_law_146 ?_
  refine lv_topi (fun x_2 ex_2 => ?_)
  replace hm := ob1_at ex_2 hm
  refine lv_aload_n hx hb d_Law_law_147 rfl (lv_at hl 0 rfl) ?_
  refine lv_iload hx hb d_Law_law_148 (lv_at hl 4 rfl) ?_
  refine lv_iconst (v := 2) hx hb d_Law_law_150 (by decide) ?_
  refine lv_iadd hx hb d_Law_law_151 ?_
  obtain ⟨h_3, hm⟩ := ck_some hm
  refine va_sld hx hb hC.1 hC.2.1 hC.2.2.1 hS h_3 d_Law_law_152 ?_
  refine lv_topi (fun x_4 ex_4 => ?_)
  replace hm := ob1_at ex_4 hm
  refine lv_aload_n hx hb d_Law_law_153 rfl (lv_at hl 0 rfl) ?_
  refine lv_iload hx hb d_Law_law_154 (lv_at hl 4 rfl) ?_
  refine lv_iconst (v := 3) hx hb d_Law_law_156 (by decide) ?_
  refine lv_iadd hx hb d_Law_law_157 ?_
  obtain ⟨h_5, hm⟩ := ck_some hm
  refine va_sld hx hb hC.1 hC.2.1 hC.2.2.1 hS h_5 d_Law_law_158 ?_
  refine lv_topi (fun x_6 ex_6 => ?_)
  replace hm := ob1_at ex_6 hm
  refine lv_aload_n hx hb d_Law_law_159 rfl (lv_at hl 0 rfl) ?_
  refine lv_iload hx hb d_Law_law_160 (lv_at hl 4 rfl) ?_
  refine lv_iconst (v := 4) hx hb d_Law_law_162 (by decide) ?_
  refine lv_iadd hx hb d_Law_law_163 ?_
  obtain ⟨h_7, hm⟩ := ck_some hm
  refine va_sld hx hb hC.1 hC.2.1 hC.2.2.1 hS h_7 d_Law_law_164 ?_
  refine lv_topi (fun x_8 ex_8 => ?_)
  replace hm := ob1_at ex_8 hm
  refine lv_aload_n hx hb d_Law_law_165 rfl (lv_at hl 0 rfl) ?_
  refine lv_iload hx hb d_Law_law_166 (lv_at hl 4 rfl) ?_
  refine lv_iconst (v := 5) hx hb d_Law_law_168 (by decide) ?_
  refine lv_iadd hx hb d_Law_law_169 ?_
  obtain ⟨h_9, hm⟩ := ck_some hm
  refine va_sld hx hb hC.1 hC.2.1 hC.2.2.1 hS h_9 d_Law_law_170 ?_
  refine lv_topi (fun x_10 ex_10 => ?_)
  replace hm := ob1_at ex_10 hm
  obtain ⟨xi_13, xa_14, r_12, h_11, hm⟩ := ob_some hm
  obtain ⟨hPc, hDc⟩ := v_partL hP hD
  have hFc := x_free hDc hS hA
  have hKc := hK.sub (tys' := [(cI, .int)]) [0] rfl
  refine xg_calli (va_runV (As := [.int x_2, .int x_4, .int x_6, .int x_8, .int x_10]) (rest := []) ⟨hx, hb, hml, hown, hts⟩ (x_World_feed l dC dI cI adK adV adA u o xg H.size n h_11) (cwV 5 hts (tw_GV tw_law cw_World_feed lk_Law_30 in_World_feed sel_World_feed ini_World) rfl rfl rfl ⟨rfl, hd_World_feed⟩ ⟨Nat.le_of_ble_eq_true rfl, Nat.le_of_ble_eq_true rfl⟩) (xpV hKc hPc hDc hS hE hFc xo_0 rfl) rfl rfl hl.1 rfl (lv_room (Nat.le_of_ble_eq_true rfl)) d_Law_law_171 ⟨show kc + 0 ≤ 601024 by omega, show ks + 0 ≤ 7293000 by omega⟩) hS (fun q _ h => hFc q h) hFc (fun kc9 ks9 r9 u9 t9 H locs ekc eks ht hvm e9 hB hz1 hk1 hS => ?_)
  have e7 : kc = kc9 := by omega
  have e8 : ks = ks9 := by omega
  subst e7 e8
  have e9 : r_12 = r9 := e9
  subst e9
  obtain ⟨hP1, hD1⟩ := x_aft hB ht (fun _ h9 => h9)
  obtain ⟨hP, hD⟩ := v_backL hP hD hk1 hFc hP1 hD1
  clear hP1 hD1
  clear hFc hk1 hz1 hvm hB ht ekc eks hPc hDc hKc
  refine lv_aload_n hx hb d_Law_law_174 rfl (lv_at hl 2 rfl) ?_
  refine lv_aload_n hx hb d_Law_law_175 rfl (lv_at hl 0 rfl) ?_
  refine lv_iload hx hb d_Law_law_176 (lv_at hl 4 rfl) ?_
  refine lv_iconst (v := 1) hx hb d_Law_law_178 (by decide) ?_
  refine lv_iadd hx hb d_Law_law_179 ?_
  obtain ⟨h_15, hm⟩ := ck_some hm
  refine va_sld hx hb hC.1 hC.2.1 hC.2.2.1 hS h_15 d_Law_law_180 ?_
  refine lv_topi (fun x_16 ex_16 => ?_)
  replace hm := ob1_at ex_16 hm
  refine lv_aload_n hx hb d_Law_law_181 rfl (lv_at hl 0 rfl) ?_
  refine lv_iload hx hb d_Law_law_182 (lv_at hl 4 rfl) ?_
  refine lv_iconst (v := 2) hx hb d_Law_law_184 (by decide) ?_
  refine lv_iadd hx hb d_Law_law_185 ?_
  obtain ⟨h_17, hm⟩ := ck_some hm
  refine va_sld hx hb hC.1 hC.2.1 hC.2.2.1 hS h_17 d_Law_law_186 ?_
  refine lv_topi (fun x_18 ex_18 => ?_)
  replace hm := ob1_at ex_18 hm
  refine lv_aload_n hx hb d_Law_law_187 rfl (lv_at hl 0 rfl) ?_
  refine lv_iload hx hb d_Law_law_188 (lv_at hl 4 rfl) ?_
  refine lv_iconst (v := 3) hx hb d_Law_law_190 (by decide) ?_
  refine lv_iadd hx hb d_Law_law_191 ?_
  obtain ⟨h_19, hm⟩ := ck_some hm
  refine va_sld hx hb hC.1 hC.2.1 hC.2.2.1 hS h_19 d_Law_law_192 ?_
  refine lv_topi (fun x_20 ex_20 => ?_)
  replace hm := ob1_at ex_20 hm
  refine lv_aload_n hx hb d_Law_law_193 rfl (lv_at hl 0 rfl) ?_
  refine lv_iload hx hb d_Law_law_194 (lv_at hl 4 rfl) ?_
  refine lv_iconst (v := 4) hx hb d_Law_law_196 (by decide) ?_
  refine lv_iadd hx hb d_Law_law_197 ?_
  obtain ⟨h_21, hm⟩ := ck_some hm
  refine va_sld hx hb hC.1 hC.2.1 hC.2.2.1 hS h_21 d_Law_law_198 ?_
  refine lv_topi (fun x_22 ex_22 => ?_)
  replace hm := ob1_at ex_22 hm
  refine lv_aload_n hx hb d_Law_law_199 rfl (lv_at hl 0 rfl) ?_
  refine lv_iload hx hb d_Law_law_200 (lv_at hl 4 rfl) ?_
  refine lv_iconst (v := 5) hx hb d_Law_law_202 (by decide) ?_
  refine lv_iadd hx hb d_Law_law_203 ?_
  obtain ⟨h_23, hm⟩ := ck_some hm
  refine va_sld hx hb hC.1 hC.2.1 hC.2.2.1 hS h_23 d_Law_law_204 ?_
  refine lv_topi (fun x_24 ex_24 => ?_)
  replace hm := ob1_at ex_24 hm
  obtain ⟨mi_27, mj_28, ma_29, mb_30, r_26, h_25, hm⟩ := om_some hm
  obtain ⟨hPc, hDc⟩ := v_part hP hD
  have hFc := x_free hDc hS hA
  refine xg_calli (va_runV (As := [.int x_16, .int x_18, .int x_20, .int x_22, .int x_24]) (rest := [.int r_12]) ⟨hx, hb, hml, hown, hts⟩ (x_Model_feed l dC dI cI cJ cB adK adV adA h v H.size n h_25) (cwV 5 hts (tw_GV tw_law cw_Model_feed lk_Law_34 in_Model_feed sel_Model_feed ini_Model) rfl rfl rfl ⟨rfl, hd_Model_feed⟩ ⟨Nat.le_of_ble_eq_true rfl, Nat.le_of_ble_eq_true rfl⟩) (ypV hK hPc hDc hS hE hFc yo_12 rfl) rfl rfl hl.1 rfl (lv_room (Nat.le_of_ble_eq_true rfl)) d_Law_law_205 ⟨show kc + 0 ≤ 601024 by omega, show ks + 0 ≤ 7293000 by omega⟩) hS (fun q _ h => hFc q h) hFc (fun kc9 ks9 r9 u9 t9 H locs ekc eks ht hvm e9 hB hz1 hk1 hS => ?_)
  have e7 : kc = kc9 := by omega
  have e8 : ks = ks9 := by omega
  subst e7 e8
  have e9 : r_26 = r9 := e9
  subst e9
  obtain ⟨hP1, hD1⟩ := y_aft hB ht (fun _ h9 => h9)
  obtain ⟨hP, hD⟩ := v_back hP hD hk1 hFc hP1 hD1
  clear hP1 hD1
  clear hFc hk1 hz1 hvm hB ht ekc eks hPc hDc
  refine lv_icmp_eq (tgt := 797) hx hb d_Law_law_208 (by decide) (fun c_31 => ?_) (fun c_31 => ?_)
  · replace hm := if_t c_31 hm
    exact lb_Law_797 l hf hA hAs C0 hL9 dC dI cI cJ cB hK adK adV adA hE hN hX hC n rc_33 Hrc_33 _ _ _ _ _ _ _ _ _ _ _ hm o hkc hks _ _ _ hP hD hS (lv_sub hl [0, 1, 2, 3, 4] rfl)
  · replace hm := if_f c_31 hm
    refine lv_iconst (v := 0) hx hb d_Law_law_211 (by decide) ?_
    exact absurd (re1 hm) (by decide)
def m_Law_b213 (n L : Nat) (xs : Nat → Int32) (rc_33 : (Nat → Int32) → (Nat → Nat → Int32) → (Nat → Nat) → (Nat → Int32) → (Nat → Int64) → (Nat → Nat → Int32) → (Nat → Nat → Int64) → (Nat → Int64) → (Nat) → (Nat) → Int32 → Option (Int32)) (xi : Nat → Int32) (xa : Nat → Nat → Int32) (xg : Nat → Nat) (mi : Nat → Int32) (mj : Nat → Int64) (ma : Nat → Nat → Int32) (mb : Nat → Nat → Int64) (fo : Nat → Int64) (kc : Nat) (ks : Nat) (v4 : Int32) : Option (Int32) := ck ((v4 + 1)) L (ob1 (xs (v4 + 1).toNatClampNeg : Int32) (fun x_2 => ob (m_World_end n xg xi xa x_2) (fun xi_5 xa_6 r_4 => ck ((v4 + 1)) L (ob1 (xs (v4 + 1).toNatClampNeg : Int32) (fun x_8 => om (m_Model_end n mi mj ma mb x_8) (fun mi_11 mj_12 ma_13 mb_14 r_10 => if r_4 = r_10 then m_Law_b797 n L xs rc_33 xi_5 xa_6 xg mi_11 mj_12 ma_13 mb_14 fo kc ks v4 else some 0))))))
set_option maxHeartbeats 4000000 in
set_option maxRecDepth 100000 in
theorem lb_Law_213 {p : Program} {e : Env} {s : State} {m : MethodId} {below : List Frame} {meth : Method} {c : Code} (l : Launch) (hf : l.flags = pinnedFlags ++ [noTraceFlag]) {b L : Nat} {xs : Nat → Int32} {A : Nat → Prop} (hA : ∀ q, s.heap.size ≤ q → A q) (hAs : ∀ q, A q → s.heap.size ≤ q) (C0 : lw_At p s m meth c b L xs) (hL9 : L < 2 ^ 31) (dC : Nat → ClassId) (dI : Nat → Nat → Nat) (cI cJ cB : ClassId) (hK : va_K (dC, dI) classes [(cI, .int), (cJ, .long), (cB, .byte)] s) (adK adV adA : Nat → Nat) (hE : tw_E adK adV adA A s s.heap) (hN : tw_N A s s.heap) (hX : tw_X A s s.heap) (hC : tw_scr b L xs A s s.heap) (n : Nat) {u : Nat → Nat} {h : Nat} {v : Nat → Nat} {o9 : Nat} (rc_33 : (Nat → Int32) → (Nat → Nat → Int32) → (Nat → Nat) → (Nat → Int32) → (Nat → Int64) → (Nat → Nat → Int32) → (Nat → Nat → Int64) → (Nat → Int64) → (Nat) → (Nat) → Int32 → Option (Int32)) (Hrc_33 : ∀ (xi : Nat → Int32) (xa : Nat → Nat → Int32) (xg : Nat → Nat) (mi : Nat → Int32) (mj : Nat → Int64) (ma : Nat → Nat → Int32) (mb : Nat → Nat → Int64) (fo : Nat → Int64) (kc : Nat) (ks : Nat) (v4 : Int32), rc_33 xi xa xg mi mj ma mb fo kc ks v4 = some (1 : Int32) → ∀ (o : Nat → Nat), kc ≤ 601024 → ks ≤ 7293000 → ∀ (H : Heap) (locs : List Loc) (ls : Array Slot), va_P (dC, dI) classes (LT cI cJ cB u o h v o9 xi xa xg mi mj ma mb fo) H → va_D A (LT cI cJ cB u o h v o9 xi xa xg mi mj ma mb fo) → va_S A s.heap H locs → lv_has ls 7 [(0, .ref b), (1, .ref ((u 0))), (2, .ref h), (3, .ref o9), (4, .int v4)] → W p l e room_1 s m #[Value.ref b] below meth c H locs kc ks (lw_Z below #[Value.ref b] s) (F0 m 33 ls [])) (xi : Nat → Int32) (xa : Nat → Nat → Int32) (xg : Nat → Nat) (mi : Nat → Int32) (mj : Nat → Int64) (ma : Nat → Nat → Int32) (mb : Nat → Nat → Int64) (fo : Nat → Int64) (kc : Nat) (ks : Nat) (v4 : Int32) (hm : m_Law_b213 n L xs rc_33 xi xa xg mi mj ma mb fo kc ks v4 = some (1 : Int32)) : ∀ (o : Nat → Nat), kc ≤ 601024 → ks ≤ 7293000 → ∀ (H : Heap) (locs : List Loc) (ls : Array Slot), va_P (dC, dI) classes (LT cI cJ cB u o h v o9 xi xa xg mi mj ma mb fo) H → va_D A (LT cI cJ cB u o h v o9 xi xa xg mi mj ma mb fo) → va_S A s.heap H locs → lv_has ls 7 [(0, .ref b), (1, .ref ((u 0))), (2, .ref h), (3, .ref o9), (4, .int v4)] → W p l e room_1 s m #[Value.ref b] below meth c H locs kc ks (lw_Z below #[Value.ref b] s) (F0 m 213 ls []) := by
  obtain ⟨hx, hb, hr, hml, hown, hts, hXs, hbl, hlocks, hgv⟩ := id C0
  have htt : ∀ w ∈ tw_T, w.before #[Value.ref b] s = true := fun w h => hts w (tw_law w h)
  intro o hkc hks H locs ls hP hD hS hl
  rw [m_Law_b213] at hm
  refine lv_aload_n hx hb d_Law_law_213 rfl (lv_at hl 1 rfl) ?_
  refine lv_aload_n hx hb d_Law_law_214 rfl (lv_at hl 0 rfl) ?_
  refine lv_iload hx hb d_Law_law_215 (lv_at hl 4 rfl) ?_
  refine lv_iconst (v := 1) hx hb d_Law_law_217 (by decide) ?_
  refine lv_iadd hx hb d_Law_law_218 ?_
  obtain ⟨h_1, hm⟩ := ck_some hm
  refine va_sld hx hb hC.1 hC.2.1 hC.2.2.1 hS h_1 d_Law_law_219 ?_
  refine lv_topi (fun x_2 ex_2 => ?_)
  replace hm := ob1_at ex_2 hm
  obtain ⟨xi_5, xa_6, r_4, h_3, hm⟩ := ob_some hm
  obtain ⟨hPc, hDc⟩ := v_partL hP hD
  have hFc := x_free hDc hS hA
  have hKc := hK.sub (tys' := [(cI, .int)]) [0] rfl
  refine xg_calli (va_runV (As := [.int x_2]) (rest := []) ⟨hx, hb, hml, hown, hts⟩ (x_World_end l dC dI cI adK adV adA u o xg H.size n h_3) (cwV 1 hts (tw_GV tw_law cw_World_end lk_Law_35 in_World_end sel_World_end ini_World) rfl rfl rfl ⟨rfl, hd_World_end⟩ ⟨Nat.le_of_ble_eq_true rfl, Nat.le_of_ble_eq_true rfl⟩) (xpV hKc hPc hDc hS hE hFc xo_0 rfl) rfl rfl hl.1 rfl (lv_room (Nat.le_of_ble_eq_true rfl)) d_Law_law_220 ⟨show kc + 0 ≤ 601024 by omega, show ks + 0 ≤ 7293000 by omega⟩) hS (fun q _ h => hFc q h) hFc (fun kc9 ks9 r9 u9 t9 H locs ekc eks ht hvm e9 hB hz1 hk1 hS => ?_)
  have e7 : kc = kc9 := by omega
  have e8 : ks = ks9 := by omega
  subst e7 e8
  have e9 : r_4 = r9 := e9
  subst e9
  obtain ⟨hP1, hD1⟩ := x_aft hB ht (fun _ h9 => h9)
  obtain ⟨hP, hD⟩ := v_backL hP hD hk1 hFc hP1 hD1
  clear hP1 hD1
  clear hFc hk1 hz1 hvm hB ht ekc eks hPc hDc hKc
  refine lv_aload_n hx hb d_Law_law_223 rfl (lv_at hl 2 rfl) ?_
  refine lv_aload_n hx hb d_Law_law_224 rfl (lv_at hl 0 rfl) ?_
  refine lv_iload hx hb d_Law_law_225 (lv_at hl 4 rfl) ?_
  refine lv_iconst (v := 1) hx hb d_Law_law_227 (by decide) ?_
  refine lv_iadd hx hb d_Law_law_228 ?_
  obtain ⟨h_7, hm⟩ := ck_some hm
  refine va_sld hx hb hC.1 hC.2.1 hC.2.2.1 hS h_7 d_Law_law_229 ?_
  refine lv_topi (fun x_8 ex_8 => ?_)
  replace hm := ob1_at ex_8 hm
  obtain ⟨mi_11, mj_12, ma_13, mb_14, r_10, h_9, hm⟩ := om_some hm
  obtain ⟨hPc, hDc⟩ := v_part hP hD
  have hFc := x_free hDc hS hA
  refine xg_calli (va_runV (As := [.int x_8]) (rest := [.int r_4]) ⟨hx, hb, hml, hown, hts⟩ (x_Model_end l dC dI cI cJ cB adK adV adA h v H.size n h_9) (cwV 1 hts (tw_GV tw_law cw_Model_end lk_Law_39 in_Model_end sel_Model_end ini_Model) rfl rfl rfl ⟨rfl, hd_Model_end⟩ ⟨Nat.le_of_ble_eq_true rfl, Nat.le_of_ble_eq_true rfl⟩) (ypV hK hPc hDc hS hE hFc yo_12 rfl) rfl rfl hl.1 rfl (lv_room (Nat.le_of_ble_eq_true rfl)) d_Law_law_230 ⟨show kc + 0 ≤ 601024 by omega, show ks + 0 ≤ 7293000 by omega⟩) hS (fun q _ h => hFc q h) hFc (fun kc9 ks9 r9 u9 t9 H locs ekc eks ht hvm e9 hB hz1 hk1 hS => ?_)
  have e7 : kc = kc9 := by omega
  have e8 : ks = ks9 := by omega
  subst e7 e8
  have e9 : r_10 = r9 := e9
  subst e9
  obtain ⟨hP1, hD1⟩ := y_aft hB ht (fun _ h9 => h9)
  obtain ⟨hP, hD⟩ := v_back hP hD hk1 hFc hP1 hD1
  clear hP1 hD1
  clear hFc hk1 hz1 hvm hB ht ekc eks hPc hDc
  refine lv_icmp_eq (tgt := 797) hx hb d_Law_law_233 (by decide) (fun c_15 => ?_) (fun c_15 => ?_)
  · replace hm := if_t c_15 hm
    exact lb_Law_797 l hf hA hAs C0 hL9 dC dI cI cJ cB hK adK adV adA hE hN hX hC n rc_33 Hrc_33 _ _ _ _ _ _ _ _ _ _ _ hm o hkc hks _ _ _ hP hD hS (lv_sub hl [0, 1, 2, 3, 4] rfl)
  · replace hm := if_f c_15 hm
    refine lv_iconst (v := 0) hx hb d_Law_law_236 (by decide) ?_
    exact absurd (re1 hm) (by decide)
def m_Law_b238 (n L : Nat) (xs : Nat → Int32) (rc_33 : (Nat → Int32) → (Nat → Nat → Int32) → (Nat → Nat) → (Nat → Int32) → (Nat → Int64) → (Nat → Nat → Int32) → (Nat → Nat → Int64) → (Nat → Int64) → (Nat) → (Nat) → Int32 → Option (Int32)) (xi : Nat → Int32) (xa : Nat → Nat → Int32) (xg : Nat → Nat) (mi : Nat → Int32) (mj : Nat → Int64) (ma : Nat → Nat → Int32) (mb : Nat → Nat → Int64) (fo : Nat → Int64) (kc : Nat) (ks : Nat) (v4 : Int32) : Option (Int32) := om (m_World_define n xg xi xa) (fun xi_3 xa_4 xg_5 k_6 r_2 => ob1 (kc + k_6.1) (fun kc_7 => ob1 (ks + k_6.2) (fun ks_8 => cr kc_7 ks_8 (om (m_Model_define n mi mj ma mb) (fun mi_12 mj_13 ma_14 mb_15 r_11 => if r_2 = r_11 then m_Law_b797 n L xs rc_33 xi_3 xa_4 xg_5 mi_12 mj_13 ma_14 mb_15 fo kc_7 ks_8 v4 else some 0)))))
set_option maxHeartbeats 4000000 in
set_option maxRecDepth 100000 in
theorem lb_Law_238 {p : Program} {e : Env} {s : State} {m : MethodId} {below : List Frame} {meth : Method} {c : Code} (l : Launch) (hf : l.flags = pinnedFlags ++ [noTraceFlag]) {b L : Nat} {xs : Nat → Int32} {A : Nat → Prop} (hA : ∀ q, s.heap.size ≤ q → A q) (hAs : ∀ q, A q → s.heap.size ≤ q) (C0 : lw_At p s m meth c b L xs) (hL9 : L < 2 ^ 31) (dC : Nat → ClassId) (dI : Nat → Nat → Nat) (cI cJ cB : ClassId) (hK : va_K (dC, dI) classes [(cI, .int), (cJ, .long), (cB, .byte)] s) (adK adV adA : Nat → Nat) (hE : tw_E adK adV adA A s s.heap) (hN : tw_N A s s.heap) (hX : tw_X A s s.heap) (hC : tw_scr b L xs A s s.heap) (n : Nat) {u : Nat → Nat} {h : Nat} {v : Nat → Nat} {o9 : Nat} (rc_33 : (Nat → Int32) → (Nat → Nat → Int32) → (Nat → Nat) → (Nat → Int32) → (Nat → Int64) → (Nat → Nat → Int32) → (Nat → Nat → Int64) → (Nat → Int64) → (Nat) → (Nat) → Int32 → Option (Int32)) (Hrc_33 : ∀ (xi : Nat → Int32) (xa : Nat → Nat → Int32) (xg : Nat → Nat) (mi : Nat → Int32) (mj : Nat → Int64) (ma : Nat → Nat → Int32) (mb : Nat → Nat → Int64) (fo : Nat → Int64) (kc : Nat) (ks : Nat) (v4 : Int32), rc_33 xi xa xg mi mj ma mb fo kc ks v4 = some (1 : Int32) → ∀ (o : Nat → Nat), kc ≤ 601024 → ks ≤ 7293000 → ∀ (H : Heap) (locs : List Loc) (ls : Array Slot), va_P (dC, dI) classes (LT cI cJ cB u o h v o9 xi xa xg mi mj ma mb fo) H → va_D A (LT cI cJ cB u o h v o9 xi xa xg mi mj ma mb fo) → va_S A s.heap H locs → lv_has ls 7 [(0, .ref b), (1, .ref ((u 0))), (2, .ref h), (3, .ref o9), (4, .int v4)] → W p l e room_1 s m #[Value.ref b] below meth c H locs kc ks (lw_Z below #[Value.ref b] s) (F0 m 33 ls [])) (xi : Nat → Int32) (xa : Nat → Nat → Int32) (xg : Nat → Nat) (mi : Nat → Int32) (mj : Nat → Int64) (ma : Nat → Nat → Int32) (mb : Nat → Nat → Int64) (fo : Nat → Int64) (kc : Nat) (ks : Nat) (v4 : Int32) (hm : m_Law_b238 n L xs rc_33 xi xa xg mi mj ma mb fo kc ks v4 = some (1 : Int32)) : ∀ (o : Nat → Nat), kc ≤ 601024 → ks ≤ 7293000 → ∀ (H : Heap) (locs : List Loc) (ls : Array Slot), va_P (dC, dI) classes (LT cI cJ cB u o h v o9 xi xa xg mi mj ma mb fo) H → va_D A (LT cI cJ cB u o h v o9 xi xa xg mi mj ma mb fo) → va_S A s.heap H locs → lv_has ls 7 [(0, .ref b), (1, .ref ((u 0))), (2, .ref h), (3, .ref o9), (4, .int v4)] → W p l e room_1 s m #[Value.ref b] below meth c H locs kc ks (lw_Z below #[Value.ref b] s) (F0 m 238 ls []) := by
  obtain ⟨hx, hb, hr, hml, hown, hts, hXs, hbl, hlocks, hgv⟩ := id C0
  have htt : ∀ w ∈ tw_T, w.before #[Value.ref b] s = true := fun w h => hts w (tw_law w h)
  intro o hkc hks H locs ls hP hD hS hl
  rw [m_Law_b238] at hm
  refine lv_aload_n hx hb d_Law_law_238 rfl (lv_at hl 1 rfl) ?_
  obtain ⟨xi_3, xa_4, xg_5, k_6, r_2, h_1, hm⟩ := om_some hm
  obtain ⟨kc_7, ekc_7⟩ : ∃ y9 : Nat, y9 = kc + k_6.1 := ⟨_, rfl⟩
  replace hm := ob1_at ekc_7 hm
  obtain ⟨ks_8, eks_8⟩ : ∃ y9 : Nat, y9 = ks + k_6.2 := ⟨_, rfl⟩
  replace hm := ob1_at eks_8 hm
  obtain ⟨hkc_7, hks_8, hm⟩ := cr_some hm
  obtain ⟨hPc, hDc⟩ := v_partL hP hD
  have hFc := x_free hDc hS hA
  have hKc := hK.sub (tys' := [(cI, .int)]) [0] rfl
  refine xg_calli (va_runV (As := []) (rest := []) ⟨hx, hb, hml, hown, hts⟩ (x_World_define l dC dI cI adK adV adA u o xg H.size n h_1) (cwV 0 hts (tw_GV tw_law cw_World_define lk_Law_40 in_World_define sel_World_define ini_World) rfl rfl rfl ⟨rfl, hd_World_define⟩ ⟨Nat.le_of_ble_eq_true rfl, Nat.le_of_ble_eq_true rfl⟩) (xpV hKc hPc hDc hS hE hFc xo_0 rfl) rfl rfl hl.1 rfl (lv_room (Nat.le_of_ble_eq_true rfl)) d_Law_law_239 ⟨show kc + k_6.1 ≤ 601024 by omega, show ks + k_6.2 ≤ 7293000 by omega⟩) hS (fun q _ h => hFc q h) hFc (fun kc9 ks9 r9 o_9 t9 H locs ekc eks ht hvm e9 hB hz1 hk1 hS => ?_)
  have e7 : kc_7 = kc9 := by omega
  have e8 : ks_8 = ks9 := by omega
  subst e7 e8
  have e9 : r_2 = r9 := e9
  subst e9
  obtain ⟨hP1, hD1⟩ := x_aftg hB ht (fun _ h9 => h9)
  obtain ⟨hP, hD⟩ := v_backL hP hD hk1 hFc hP1 hD1
  clear hP1 hD1
  clear hFc hk1 hz1 hvm hB ht ekc eks hPc hDc hKc
  refine lv_aload_n hx hb d_Law_law_242 rfl (lv_at hl 2 rfl) ?_
  obtain ⟨mi_12, mj_13, ma_14, mb_15, r_11, h_10, hm⟩ := om_some hm
  obtain ⟨hPc, hDc⟩ := v_part hP hD
  have hFc := x_free hDc hS hA
  refine xg_calli (va_runV (As := []) (rest := [.int r_2]) ⟨hx, hb, hml, hown, hts⟩ (x_Model_define l dC dI cI cJ cB adK adV adA h v H.size n h_10) (cwV 0 hts (tw_GV tw_law cw_Model_define lk_Law_44 in_Model_define sel_Model_define ini_Model) rfl rfl rfl ⟨rfl, hd_Model_define⟩ ⟨Nat.le_of_ble_eq_true rfl, Nat.le_of_ble_eq_true rfl⟩) (ypV hK hPc hDc hS hE hFc yo_12 rfl) rfl rfl hl.1 rfl (lv_room (Nat.le_of_ble_eq_true rfl)) d_Law_law_243 ⟨show kc_7 + 0 ≤ 601024 by omega, show ks_8 + 0 ≤ 7293000 by omega⟩) hS (fun q _ h => hFc q h) hFc (fun kc9 ks9 r9 u9 t9 H locs ekc eks ht hvm e9 hB hz1 hk1 hS => ?_)
  have e7 : kc_7 = kc9 := by omega
  have e8 : ks_8 = ks9 := by omega
  subst e7 e8
  have e9 : r_11 = r9 := e9
  subst e9
  obtain ⟨hP1, hD1⟩ := y_aft hB ht (fun _ h9 => h9)
  obtain ⟨hP, hD⟩ := v_back hP hD hk1 hFc hP1 hD1
  clear hP1 hD1
  clear hFc hk1 hz1 hvm hB ht ekc eks hPc hDc
  refine lv_icmp_eq (tgt := 797) hx hb d_Law_law_246 (by decide) (fun c_16 => ?_) (fun c_16 => ?_)
  · replace hm := if_t c_16 hm
    exact lb_Law_797 l hf hA hAs C0 hL9 dC dI cI cJ cB hK adK adV adA hE hN hX hC n rc_33 Hrc_33 _ _ _ _ _ _ _ _ _ _ _ hm o_9 hkc_7 hks_8 _ _ _ hP hD hS (lv_sub hl [0, 1, 2, 3, 4] rfl)
  · replace hm := if_f c_16 hm
    refine lv_iconst (v := 0) hx hb d_Law_law_249 (by decide) ?_
    exact absurd (re1 hm) (by decide)
def m_Law_b251 (n L : Nat) (xs : Nat → Int32) (rc_33 : (Nat → Int32) → (Nat → Nat → Int32) → (Nat → Nat) → (Nat → Int32) → (Nat → Int64) → (Nat → Nat → Int32) → (Nat → Nat → Int64) → (Nat → Int64) → (Nat) → (Nat) → Int32 → Option (Int32)) (xi : Nat → Int32) (xa : Nat → Nat → Int32) (xg : Nat → Nat) (mi : Nat → Int32) (mj : Nat → Int64) (ma : Nat → Nat → Int32) (mb : Nat → Nat → Int64) (fo : Nat → Int64) (kc : Nat) (ks : Nat) (v4 : Int32) : Option (Int32) := om (m_World_line n xg xi xa) (fun xi_3 xa_4 xg_5 k_6 r_2 => ob1 (kc + k_6.1) (fun kc_7 => ob1 (ks + k_6.2) (fun ks_8 => cr kc_7 ks_8 (om (m_Model_line n 2030 mi mj ma mb) (fun mi_12 mj_13 ma_14 mb_15 r_11 => if r_2 = r_11 then m_Law_b797 n L xs rc_33 xi_3 xa_4 xg_5 mi_12 mj_13 ma_14 mb_15 fo kc_7 ks_8 v4 else some 0)))))
set_option maxHeartbeats 4000000 in
set_option maxRecDepth 100000 in
theorem lb_Law_251 {p : Program} {e : Env} {s : State} {m : MethodId} {below : List Frame} {meth : Method} {c : Code} (l : Launch) (hf : l.flags = pinnedFlags ++ [noTraceFlag]) {b L : Nat} {xs : Nat → Int32} {A : Nat → Prop} (hA : ∀ q, s.heap.size ≤ q → A q) (hAs : ∀ q, A q → s.heap.size ≤ q) (C0 : lw_At p s m meth c b L xs) (hL9 : L < 2 ^ 31) (dC : Nat → ClassId) (dI : Nat → Nat → Nat) (cI cJ cB : ClassId) (hK : va_K (dC, dI) classes [(cI, .int), (cJ, .long), (cB, .byte)] s) (adK adV adA : Nat → Nat) (hE : tw_E adK adV adA A s s.heap) (hN : tw_N A s s.heap) (hX : tw_X A s s.heap) (hC : tw_scr b L xs A s s.heap) (n : Nat) {u : Nat → Nat} {h : Nat} {v : Nat → Nat} {o9 : Nat} (rc_33 : (Nat → Int32) → (Nat → Nat → Int32) → (Nat → Nat) → (Nat → Int32) → (Nat → Int64) → (Nat → Nat → Int32) → (Nat → Nat → Int64) → (Nat → Int64) → (Nat) → (Nat) → Int32 → Option (Int32)) (Hrc_33 : ∀ (xi : Nat → Int32) (xa : Nat → Nat → Int32) (xg : Nat → Nat) (mi : Nat → Int32) (mj : Nat → Int64) (ma : Nat → Nat → Int32) (mb : Nat → Nat → Int64) (fo : Nat → Int64) (kc : Nat) (ks : Nat) (v4 : Int32), rc_33 xi xa xg mi mj ma mb fo kc ks v4 = some (1 : Int32) → ∀ (o : Nat → Nat), kc ≤ 601024 → ks ≤ 7293000 → ∀ (H : Heap) (locs : List Loc) (ls : Array Slot), va_P (dC, dI) classes (LT cI cJ cB u o h v o9 xi xa xg mi mj ma mb fo) H → va_D A (LT cI cJ cB u o h v o9 xi xa xg mi mj ma mb fo) → va_S A s.heap H locs → lv_has ls 7 [(0, .ref b), (1, .ref ((u 0))), (2, .ref h), (3, .ref o9), (4, .int v4)] → W p l e room_1 s m #[Value.ref b] below meth c H locs kc ks (lw_Z below #[Value.ref b] s) (F0 m 33 ls [])) (xi : Nat → Int32) (xa : Nat → Nat → Int32) (xg : Nat → Nat) (mi : Nat → Int32) (mj : Nat → Int64) (ma : Nat → Nat → Int32) (mb : Nat → Nat → Int64) (fo : Nat → Int64) (kc : Nat) (ks : Nat) (v4 : Int32) (hm : m_Law_b251 n L xs rc_33 xi xa xg mi mj ma mb fo kc ks v4 = some (1 : Int32)) : ∀ (o : Nat → Nat), kc ≤ 601024 → ks ≤ 7293000 → ∀ (H : Heap) (locs : List Loc) (ls : Array Slot), va_P (dC, dI) classes (LT cI cJ cB u o h v o9 xi xa xg mi mj ma mb fo) H → va_D A (LT cI cJ cB u o h v o9 xi xa xg mi mj ma mb fo) → va_S A s.heap H locs → lv_has ls 7 [(0, .ref b), (1, .ref ((u 0))), (2, .ref h), (3, .ref o9), (4, .int v4)] → W p l e room_1 s m #[Value.ref b] below meth c H locs kc ks (lw_Z below #[Value.ref b] s) (F0 m 251 ls []) := by
  obtain ⟨hx, hb, hr, hml, hown, hts, hXs, hbl, hlocks, hgv⟩ := id C0
  have htt : ∀ w ∈ tw_T, w.before #[Value.ref b] s = true := fun w h => hts w (tw_law w h)
  intro o hkc hks H locs ls hP hD hS hl
  rw [m_Law_b251] at hm
  refine lv_aload_n hx hb d_Law_law_251 rfl (lv_at hl 1 rfl) ?_
  obtain ⟨xi_3, xa_4, xg_5, k_6, r_2, h_1, hm⟩ := om_some hm
  obtain ⟨kc_7, ekc_7⟩ : ∃ y9 : Nat, y9 = kc + k_6.1 := ⟨_, rfl⟩
  replace hm := ob1_at ekc_7 hm
  obtain ⟨ks_8, eks_8⟩ : ∃ y9 : Nat, y9 = ks + k_6.2 := ⟨_, rfl⟩
  replace hm := ob1_at eks_8 hm
  obtain ⟨hkc_7, hks_8, hm⟩ := cr_some hm
  obtain ⟨hPc, hDc⟩ := v_partL hP hD
  have hFc := x_free hDc hS hA
  have hKc := hK.sub (tys' := [(cI, .int)]) [0] rfl
  refine xg_calli (va_runV (As := []) (rest := []) ⟨hx, hb, hml, hown, hts⟩ (x_World_line l dC dI cI adK adV adA u o xg H.size n h_1) (cwV 0 hts (tw_GV tw_law cw_World_line lk_Law_45 in_World_line sel_World_line ini_World) rfl rfl rfl ⟨rfl, hd_World_line⟩ ⟨Nat.le_of_ble_eq_true rfl, Nat.le_of_ble_eq_true rfl⟩) (xpV hKc hPc hDc hS hE hFc xo_0 rfl) rfl rfl hl.1 rfl (lv_room (Nat.le_of_ble_eq_true rfl)) d_Law_law_252 ⟨show kc + k_6.1 ≤ 601024 by omega, show ks + k_6.2 ≤ 7293000 by omega⟩) hS (fun q _ h => hFc q h) hFc (fun kc9 ks9 r9 o_9 t9 H locs ekc eks ht hvm e9 hB hz1 hk1 hS => ?_)
  have e7 : kc_7 = kc9 := by omega
  have e8 : ks_8 = ks9 := by omega
  subst e7 e8
  have e9 : r_2 = r9 := e9
  subst e9
  obtain ⟨hP1, hD1⟩ := x_aftg hB ht (fun _ h9 => h9)
  obtain ⟨hP, hD⟩ := v_backL hP hD hk1 hFc hP1 hD1
  clear hP1 hD1
  clear hFc hk1 hz1 hvm hB ht ekc eks hPc hDc hKc
  refine lv_aload_n hx hb d_Law_law_255 rfl (lv_at hl 2 rfl) ?_
  obtain ⟨mi_12, mj_13, ma_14, mb_15, r_11, h_10, hm⟩ := om_some hm
  obtain ⟨hPc, hDc⟩ := v_part hP hD
  have hFc := x_free hDc hS hA
  refine xg_calli (va_runV (As := []) (rest := [.int r_2]) ⟨hx, hb, hml, hown, hts⟩ (x_Model_line 2030 l dC dI cI cJ cB adK adV adA h v H.size n h_10) (cwV 0 hts (tw_GV tw_law cw_Model_line lk_Law_48 in_Model_line sel_Model_line ini_Model) rfl rfl rfl ⟨rfl, hd_Model_line⟩ ⟨Nat.le_of_ble_eq_true rfl, Nat.le_of_ble_eq_true rfl⟩) (ypV hK hPc hDc hS hE hFc yo_12 rfl) rfl rfl hl.1 rfl (lv_room (Nat.le_of_ble_eq_true rfl)) d_Law_law_256 ⟨show kc_7 + 0 ≤ 601024 by omega, show ks_8 + 0 ≤ 7293000 by omega⟩) hS (fun q _ h => hFc q h) hFc (fun kc9 ks9 r9 u9 t9 H locs ekc eks ht hvm e9 hB hz1 hk1 hS => ?_)
  have e7 : kc_7 = kc9 := by omega
  have e8 : ks_8 = ks9 := by omega
  subst e7 e8
  have e9 : r_11 = r9 := e9
  subst e9
  obtain ⟨hP1, hD1⟩ := y_aft hB ht (fun _ h9 => h9)
  obtain ⟨hP, hD⟩ := v_back hP hD hk1 hFc hP1 hD1
  clear hP1 hD1
  clear hFc hk1 hz1 hvm hB ht ekc eks hPc hDc
  refine lv_icmp_eq (tgt := 797) hx hb d_Law_law_259 (by decide) (fun c_16 => ?_) (fun c_16 => ?_)
  · replace hm := if_t c_16 hm
    exact lb_Law_797 l hf hA hAs C0 hL9 dC dI cI cJ cB hK adK adV adA hE hN hX hC n rc_33 Hrc_33 _ _ _ _ _ _ _ _ _ _ _ hm o_9 hkc_7 hks_8 _ _ _ hP hD hS (lv_sub hl [0, 1, 2, 3, 4] rfl)
  · replace hm := if_f c_16 hm
    refine lv_iconst (v := 0) hx hb d_Law_law_262 (by decide) ?_
    exact absurd (re1 hm) (by decide)
def m_Law_b264 (n L : Nat) (xs : Nat → Int32) (rc_33 : (Nat → Int32) → (Nat → Nat → Int32) → (Nat → Nat) → (Nat → Int32) → (Nat → Int64) → (Nat → Nat → Int32) → (Nat → Nat → Int64) → (Nat → Int64) → (Nat) → (Nat) → Int32 → Option (Int32)) (xi : Nat → Int32) (xa : Nat → Nat → Int32) (xg : Nat → Nat) (mi : Nat → Int32) (mj : Nat → Int64) (ma : Nat → Nat → Int32) (mb : Nat → Nat → Int64) (fo : Nat → Int64) (kc : Nat) (ks : Nat) (v4 : Int32) : Option (Int32) := ck ((v4 + 1)) L (ob1 (xs (v4 + 1).toNatClampNeg : Int32) (fun x_2 => ob0 (m_World_fault n xg xi xa x_2) (fun r_4 => ck ((v4 + 1)) L (ob1 (xs (v4 + 1).toNatClampNeg : Int32) (fun x_6 => om (m_Model_fault n mi mj ma mb x_6) (fun mi_9 mj_10 ma_11 mb_12 r_8 => if r_4 = r_8 then m_Law_b797 n L xs rc_33 xi xa xg mi_9 mj_10 ma_11 mb_12 fo kc ks v4 else some 0))))))
set_option maxHeartbeats 4000000 in
set_option maxRecDepth 100000 in
theorem lb_Law_264 {p : Program} {e : Env} {s : State} {m : MethodId} {below : List Frame} {meth : Method} {c : Code} (l : Launch) (hf : l.flags = pinnedFlags ++ [noTraceFlag]) {b L : Nat} {xs : Nat → Int32} {A : Nat → Prop} (hA : ∀ q, s.heap.size ≤ q → A q) (hAs : ∀ q, A q → s.heap.size ≤ q) (C0 : lw_At p s m meth c b L xs) (hL9 : L < 2 ^ 31) (dC : Nat → ClassId) (dI : Nat → Nat → Nat) (cI cJ cB : ClassId) (hK : va_K (dC, dI) classes [(cI, .int), (cJ, .long), (cB, .byte)] s) (adK adV adA : Nat → Nat) (hE : tw_E adK adV adA A s s.heap) (hN : tw_N A s s.heap) (hX : tw_X A s s.heap) (hC : tw_scr b L xs A s s.heap) (n : Nat) {u : Nat → Nat} {h : Nat} {v : Nat → Nat} {o9 : Nat} (rc_33 : (Nat → Int32) → (Nat → Nat → Int32) → (Nat → Nat) → (Nat → Int32) → (Nat → Int64) → (Nat → Nat → Int32) → (Nat → Nat → Int64) → (Nat → Int64) → (Nat) → (Nat) → Int32 → Option (Int32)) (Hrc_33 : ∀ (xi : Nat → Int32) (xa : Nat → Nat → Int32) (xg : Nat → Nat) (mi : Nat → Int32) (mj : Nat → Int64) (ma : Nat → Nat → Int32) (mb : Nat → Nat → Int64) (fo : Nat → Int64) (kc : Nat) (ks : Nat) (v4 : Int32), rc_33 xi xa xg mi mj ma mb fo kc ks v4 = some (1 : Int32) → ∀ (o : Nat → Nat), kc ≤ 601024 → ks ≤ 7293000 → ∀ (H : Heap) (locs : List Loc) (ls : Array Slot), va_P (dC, dI) classes (LT cI cJ cB u o h v o9 xi xa xg mi mj ma mb fo) H → va_D A (LT cI cJ cB u o h v o9 xi xa xg mi mj ma mb fo) → va_S A s.heap H locs → lv_has ls 7 [(0, .ref b), (1, .ref ((u 0))), (2, .ref h), (3, .ref o9), (4, .int v4)] → W p l e room_1 s m #[Value.ref b] below meth c H locs kc ks (lw_Z below #[Value.ref b] s) (F0 m 33 ls [])) (xi : Nat → Int32) (xa : Nat → Nat → Int32) (xg : Nat → Nat) (mi : Nat → Int32) (mj : Nat → Int64) (ma : Nat → Nat → Int32) (mb : Nat → Nat → Int64) (fo : Nat → Int64) (kc : Nat) (ks : Nat) (v4 : Int32) (hm : m_Law_b264 n L xs rc_33 xi xa xg mi mj ma mb fo kc ks v4 = some (1 : Int32)) : ∀ (o : Nat → Nat), kc ≤ 601024 → ks ≤ 7293000 → ∀ (H : Heap) (locs : List Loc) (ls : Array Slot), va_P (dC, dI) classes (LT cI cJ cB u o h v o9 xi xa xg mi mj ma mb fo) H → va_D A (LT cI cJ cB u o h v o9 xi xa xg mi mj ma mb fo) → va_S A s.heap H locs → lv_has ls 7 [(0, .ref b), (1, .ref ((u 0))), (2, .ref h), (3, .ref o9), (4, .int v4)] → W p l e room_1 s m #[Value.ref b] below meth c H locs kc ks (lw_Z below #[Value.ref b] s) (F0 m 264 ls []) := by
  obtain ⟨hx, hb, hr, hml, hown, hts, hXs, hbl, hlocks, hgv⟩ := id C0
  have htt : ∀ w ∈ tw_T, w.before #[Value.ref b] s = true := fun w h => hts w (tw_law w h)
  intro o hkc hks H locs ls hP hD hS hl
  rw [m_Law_b264] at hm
  refine lv_aload_n hx hb d_Law_law_264 rfl (lv_at hl 1 rfl) ?_
  refine lv_aload_n hx hb d_Law_law_265 rfl (lv_at hl 0 rfl) ?_
  refine lv_iload hx hb d_Law_law_266 (lv_at hl 4 rfl) ?_
  refine lv_iconst (v := 1) hx hb d_Law_law_268 (by decide) ?_
  refine lv_iadd hx hb d_Law_law_269 ?_
  obtain ⟨h_1, hm⟩ := ck_some hm
  refine va_sld hx hb hC.1 hC.2.1 hC.2.2.1 hS h_1 d_Law_law_270 ?_
  refine lv_topi (fun x_2 ex_2 => ?_)
  replace hm := ob1_at ex_2 hm
  obtain ⟨r_4, h_3, hm⟩ := ob0_some hm
  obtain ⟨hPc, hDc⟩ := v_partL hP hD
  have hFc := x_free0 hS hA
  have hKc := hK.sub (tys' := [(cI, .int)]) [0] rfl
  refine xg_calli (va_runV (As := [.int x_2]) (rest := []) ⟨hx, hb, hml, hown, hts⟩ (x_World_fault l dC dI cI adK adV adA u o xg H.size n h_3) (cwV 1 hts (tw_GV tw_law cw_World_fault lk_Law_49 in_World_fault sel_World_fault ini_World) rfl rfl rfl ⟨rfl, hd_World_fault⟩ ⟨Nat.le_of_ble_eq_true rfl, Nat.le_of_ble_eq_true rfl⟩) (xpVr hKc hPc hS hE hFc xo_0 rfl) rfl rfl hl.1 rfl (lv_room (Nat.le_of_ble_eq_true rfl)) d_Law_law_271 ⟨show kc + 0 ≤ 601024 by omega, show ks + 0 ≤ 7293000 by omega⟩) hS (fun q _ h => hFc q h) hFc (fun kc9 ks9 r9 u9 t9 H locs ekc eks ht hvm e9 hB hz1 hk1 hS => ?_)
  have e7 : kc = kc9 := by omega
  have e8 : ks = ks9 := by omega
  subst e7 e8
  have e9 : r_4 = r9 := e9
  subst e9
  replace hP := x_keep hP hk1
  clear hFc hk1 hz1 hvm hB ht ekc eks hPc hDc hKc
  refine lv_aload_n hx hb d_Law_law_274 rfl (lv_at hl 2 rfl) ?_
  refine lv_aload_n hx hb d_Law_law_275 rfl (lv_at hl 0 rfl) ?_
  refine lv_iload hx hb d_Law_law_276 (lv_at hl 4 rfl) ?_
  refine lv_iconst (v := 1) hx hb d_Law_law_278 (by decide) ?_
  refine lv_iadd hx hb d_Law_law_279 ?_
  obtain ⟨h_5, hm⟩ := ck_some hm
  refine va_sld hx hb hC.1 hC.2.1 hC.2.2.1 hS h_5 d_Law_law_280 ?_
  refine lv_topi (fun x_6 ex_6 => ?_)
  replace hm := ob1_at ex_6 hm
  obtain ⟨mi_9, mj_10, ma_11, mb_12, r_8, h_7, hm⟩ := om_some hm
  obtain ⟨hPc, hDc⟩ := v_part hP hD
  have hFc := x_free hDc hS hA
  refine xg_calli (va_runV (As := [.int x_6]) (rest := [.int r_4]) ⟨hx, hb, hml, hown, hts⟩ (x_Model_fault l dC dI cI cJ cB adK adV adA h v H.size n h_7) (cwV 1 hts (tw_GV tw_law cw_Model_fault lk_Law_53 in_Model_fault sel_Model_fault ini_Model) rfl rfl rfl ⟨rfl, hd_Model_fault⟩ ⟨Nat.le_of_ble_eq_true rfl, Nat.le_of_ble_eq_true rfl⟩) (ypV hK hPc hDc hS hE hFc yo_12 rfl) rfl rfl hl.1 rfl (lv_room (Nat.le_of_ble_eq_true rfl)) d_Law_law_281 ⟨show kc + 0 ≤ 601024 by omega, show ks + 0 ≤ 7293000 by omega⟩) hS (fun q _ h => hFc q h) hFc (fun kc9 ks9 r9 u9 t9 H locs ekc eks ht hvm e9 hB hz1 hk1 hS => ?_)
  have e7 : kc = kc9 := by omega
  have e8 : ks = ks9 := by omega
  subst e7 e8
  have e9 : r_8 = r9 := e9
  subst e9
  obtain ⟨hP1, hD1⟩ := y_aft hB ht (fun _ h9 => h9)
  obtain ⟨hP, hD⟩ := v_back hP hD hk1 hFc hP1 hD1
  clear hP1 hD1
  clear hFc hk1 hz1 hvm hB ht ekc eks hPc hDc
  refine lv_icmp_eq (tgt := 797) hx hb d_Law_law_284 (by decide) (fun c_13 => ?_) (fun c_13 => ?_)
  · replace hm := if_t c_13 hm
    exact lb_Law_797 l hf hA hAs C0 hL9 dC dI cI cJ cB hK adK adV adA hE hN hX hC n rc_33 Hrc_33 _ _ _ _ _ _ _ _ _ _ _ hm o hkc hks _ _ _ hP hD hS (lv_sub hl [0, 1, 2, 3, 4] rfl)
  · replace hm := if_f c_13 hm
    refine lv_iconst (v := 0) hx hb d_Law_law_287 (by decide) ?_
    exact absurd (re1 hm) (by decide)
def m_Law_b289 (n L : Nat) (xs : Nat → Int32) (rc_33 : (Nat → Int32) → (Nat → Nat → Int32) → (Nat → Nat) → (Nat → Int32) → (Nat → Int64) → (Nat → Nat → Int32) → (Nat → Nat → Int64) → (Nat → Int64) → (Nat) → (Nat) → Int32 → Option (Int32)) (xi : Nat → Int32) (xa : Nat → Nat → Int32) (xg : Nat → Nat) (mi : Nat → Int32) (mj : Nat → Int64) (ma : Nat → Nat → Int32) (mb : Nat → Nat → Int64) (fo : Nat → Int64) (kc : Nat) (ks : Nat) (v4 : Int32) : Option (Int32) := ck ((v4 + 1)) L (ob1 (xs (v4 + 1).toNatClampNeg : Int32) (fun x_2 => om (m_World_run n xg xi xa x_2) (fun xi_5 xa_6 xg_7 k_8 r_4 => ob1 (kc + k_8.1) (fun kc_9 => ob1 (ks + k_8.2) (fun ks_10 => cr kc_9 ks_10 (ck ((v4 + 1)) L (ob1 (xs (v4 + 1).toNatClampNeg : Int32) (fun x_13 => om (m_Model_run n 2030 mi mj ma mb x_13) (fun mi_16 mj_17 ma_18 mb_19 r_15 => if r_4 = r_15 then m_Law_b797 n L xs rc_33 xi_5 xa_6 xg_7 mi_16 mj_17 ma_18 mb_19 fo kc_9 ks_10 v4 else some 0)))))))))
set_option maxHeartbeats 4000000 in
set_option maxRecDepth 100000 in
theorem lb_Law_289 {p : Program} {e : Env} {s : State} {m : MethodId} {below : List Frame} {meth : Method} {c : Code} (l : Launch) (hf : l.flags = pinnedFlags ++ [noTraceFlag]) {b L : Nat} {xs : Nat → Int32} {A : Nat → Prop} (hA : ∀ q, s.heap.size ≤ q → A q) (hAs : ∀ q, A q → s.heap.size ≤ q) (C0 : lw_At p s m meth c b L xs) (hL9 : L < 2 ^ 31) (dC : Nat → ClassId) (dI : Nat → Nat → Nat) (cI cJ cB : ClassId) (hK : va_K (dC, dI) classes [(cI, .int), (cJ, .long), (cB, .byte)] s) (adK adV adA : Nat → Nat) (hE : tw_E adK adV adA A s s.heap) (hN : tw_N A s s.heap) (hX : tw_X A s s.heap) (hC : tw_scr b L xs A s s.heap) (n : Nat) {u : Nat → Nat} {h : Nat} {v : Nat → Nat} {o9 : Nat} (rc_33 : (Nat → Int32) → (Nat → Nat → Int32) → (Nat → Nat) → (Nat → Int32) → (Nat → Int64) → (Nat → Nat → Int32) → (Nat → Nat → Int64) → (Nat → Int64) → (Nat) → (Nat) → Int32 → Option (Int32)) (Hrc_33 : ∀ (xi : Nat → Int32) (xa : Nat → Nat → Int32) (xg : Nat → Nat) (mi : Nat → Int32) (mj : Nat → Int64) (ma : Nat → Nat → Int32) (mb : Nat → Nat → Int64) (fo : Nat → Int64) (kc : Nat) (ks : Nat) (v4 : Int32), rc_33 xi xa xg mi mj ma mb fo kc ks v4 = some (1 : Int32) → ∀ (o : Nat → Nat), kc ≤ 601024 → ks ≤ 7293000 → ∀ (H : Heap) (locs : List Loc) (ls : Array Slot), va_P (dC, dI) classes (LT cI cJ cB u o h v o9 xi xa xg mi mj ma mb fo) H → va_D A (LT cI cJ cB u o h v o9 xi xa xg mi mj ma mb fo) → va_S A s.heap H locs → lv_has ls 7 [(0, .ref b), (1, .ref ((u 0))), (2, .ref h), (3, .ref o9), (4, .int v4)] → W p l e room_1 s m #[Value.ref b] below meth c H locs kc ks (lw_Z below #[Value.ref b] s) (F0 m 33 ls [])) (xi : Nat → Int32) (xa : Nat → Nat → Int32) (xg : Nat → Nat) (mi : Nat → Int32) (mj : Nat → Int64) (ma : Nat → Nat → Int32) (mb : Nat → Nat → Int64) (fo : Nat → Int64) (kc : Nat) (ks : Nat) (v4 : Int32) (hm : m_Law_b289 n L xs rc_33 xi xa xg mi mj ma mb fo kc ks v4 = some (1 : Int32)) : ∀ (o : Nat → Nat), kc ≤ 601024 → ks ≤ 7293000 → ∀ (H : Heap) (locs : List Loc) (ls : Array Slot), va_P (dC, dI) classes (LT cI cJ cB u o h v o9 xi xa xg mi mj ma mb fo) H → va_D A (LT cI cJ cB u o h v o9 xi xa xg mi mj ma mb fo) → va_S A s.heap H locs → lv_has ls 7 [(0, .ref b), (1, .ref ((u 0))), (2, .ref h), (3, .ref o9), (4, .int v4)] → W p l e room_1 s m #[Value.ref b] below meth c H locs kc ks (lw_Z below #[Value.ref b] s) (F0 m 289 ls []) := by
  obtain ⟨hx, hb, hr, hml, hown, hts, hXs, hbl, hlocks, hgv⟩ := id C0
  have htt : ∀ w ∈ tw_T, w.before #[Value.ref b] s = true := fun w h => hts w (tw_law w h)
  intro o hkc hks H locs ls hP hD hS hl
  rw [m_Law_b289] at hm
  refine lv_aload_n hx hb d_Law_law_289 rfl (lv_at hl 1 rfl) ?_
  refine lv_aload_n hx hb d_Law_law_290 rfl (lv_at hl 0 rfl) ?_
  refine lv_iload hx hb d_Law_law_291 (lv_at hl 4 rfl) ?_
  refine lv_iconst (v := 1) hx hb d_Law_law_293 (by decide) ?_
  refine lv_iadd hx hb d_Law_law_294 ?_
  obtain ⟨h_1, hm⟩ := ck_some hm
  refine va_sld hx hb hC.1 hC.2.1 hC.2.2.1 hS h_1 d_Law_law_295 ?_
  refine lv_topi (fun x_2 ex_2 => ?_)
  replace hm := ob1_at ex_2 hm
  obtain ⟨xi_5, xa_6, xg_7, k_8, r_4, h_3, hm⟩ := om_some hm
  obtain ⟨kc_9, ekc_9⟩ : ∃ y9 : Nat, y9 = kc + k_8.1 := ⟨_, rfl⟩
  replace hm := ob1_at ekc_9 hm
  obtain ⟨ks_10, eks_10⟩ : ∃ y9 : Nat, y9 = ks + k_8.2 := ⟨_, rfl⟩
  replace hm := ob1_at eks_10 hm
  obtain ⟨hkc_9, hks_10, hm⟩ := cr_some hm
  obtain ⟨hPc, hDc⟩ := v_partL hP hD
  have hFc := x_free hDc hS hA
  have hKc := hK.sub (tys' := [(cI, .int)]) [0] rfl
  refine xg_calli (va_runV (As := [.int x_2]) (rest := []) ⟨hx, hb, hml, hown, hts⟩ (x_World_run l dC dI cI adK adV adA u o xg H.size n h_3) (cwV 1 hts (tw_GV tw_law cw_World_run lk_Law_54 in_World_run sel_World_run ini_World) rfl rfl rfl ⟨rfl, hd_World_run⟩ ⟨Nat.le_of_ble_eq_true rfl, Nat.le_of_ble_eq_true rfl⟩) (xpV hKc hPc hDc hS hE hFc xo_0 rfl) rfl rfl hl.1 rfl (lv_room (Nat.le_of_ble_eq_true rfl)) d_Law_law_296 ⟨show kc + k_8.1 ≤ 601024 by omega, show ks + k_8.2 ≤ 7293000 by omega⟩) hS (fun q _ h => hFc q h) hFc (fun kc9 ks9 r9 o_11 t9 H locs ekc eks ht hvm e9 hB hz1 hk1 hS => ?_)
  have e7 : kc_9 = kc9 := by omega
  have e8 : ks_10 = ks9 := by omega
  subst e7 e8
  have e9 : r_4 = r9 := e9
  subst e9
  obtain ⟨hP1, hD1⟩ := x_aftg hB ht (fun _ h9 => h9)
  obtain ⟨hP, hD⟩ := v_backL hP hD hk1 hFc hP1 hD1
  clear hP1 hD1
  clear hFc hk1 hz1 hvm hB ht ekc eks hPc hDc hKc
  refine lv_aload_n hx hb d_Law_law_299 rfl (lv_at hl 2 rfl) ?_
  refine lv_aload_n hx hb d_Law_law_300 rfl (lv_at hl 0 rfl) ?_
  refine lv_iload hx hb d_Law_law_301 (lv_at hl 4 rfl) ?_
  refine lv_iconst (v := 1) hx hb d_Law_law_303 (by decide) ?_
  refine lv_iadd hx hb d_Law_law_304 ?_
  obtain ⟨h_12, hm⟩ := ck_some hm
  refine va_sld hx hb hC.1 hC.2.1 hC.2.2.1 hS h_12 d_Law_law_305 ?_
  refine lv_topi (fun x_13 ex_13 => ?_)
  replace hm := ob1_at ex_13 hm
  obtain ⟨mi_16, mj_17, ma_18, mb_19, r_15, h_14, hm⟩ := om_some hm
  obtain ⟨hPc, hDc⟩ := v_part hP hD
  have hFc := x_free hDc hS hA
  refine xg_calli (va_runV (As := [.int x_13]) (rest := [.int r_4]) ⟨hx, hb, hml, hown, hts⟩ (x_Model_run 2030 l dC dI cI cJ cB adK adV adA h v H.size n h_14) (cwV 1 hts (tw_GV tw_law cw_Model_run lk_Law_57 in_Model_run sel_Model_run ini_Model) rfl rfl rfl ⟨rfl, hd_Model_run⟩ ⟨Nat.le_of_ble_eq_true rfl, Nat.le_of_ble_eq_true rfl⟩) (ypV hK hPc hDc hS hE hFc yo_12 rfl) rfl rfl hl.1 rfl (lv_room (Nat.le_of_ble_eq_true rfl)) d_Law_law_306 ⟨show kc_9 + 0 ≤ 601024 by omega, show ks_10 + 0 ≤ 7293000 by omega⟩) hS (fun q _ h => hFc q h) hFc (fun kc9 ks9 r9 u9 t9 H locs ekc eks ht hvm e9 hB hz1 hk1 hS => ?_)
  have e7 : kc_9 = kc9 := by omega
  have e8 : ks_10 = ks9 := by omega
  subst e7 e8
  have e9 : r_15 = r9 := e9
  subst e9
  obtain ⟨hP1, hD1⟩ := y_aft hB ht (fun _ h9 => h9)
  obtain ⟨hP, hD⟩ := v_back hP hD hk1 hFc hP1 hD1
  clear hP1 hD1
  clear hFc hk1 hz1 hvm hB ht ekc eks hPc hDc
  refine lv_icmp_eq (tgt := 797) hx hb d_Law_law_309 (by decide) (fun c_20 => ?_) (fun c_20 => ?_)
  · replace hm := if_t c_20 hm
    exact lb_Law_797 l hf hA hAs C0 hL9 dC dI cI cJ cB hK adK adV adA hE hN hX hC n rc_33 Hrc_33 _ _ _ _ _ _ _ _ _ _ _ hm o_11 hkc_9 hks_10 _ _ _ hP hD hS (lv_sub hl [0, 1, 2, 3, 4] rfl)
  · replace hm := if_f c_20 hm
    refine lv_iconst (v := 0) hx hb d_Law_law_312 (by decide) ?_
    exact absurd (re1 hm) (by decide)
def m_Law_b314 (n L : Nat) (xs : Nat → Int32) (rc_33 : (Nat → Int32) → (Nat → Nat → Int32) → (Nat → Nat) → (Nat → Int32) → (Nat → Int64) → (Nat → Nat → Int32) → (Nat → Nat → Int64) → (Nat → Int64) → (Nat) → (Nat) → Int32 → Option (Int32)) (xi : Nat → Int32) (xa : Nat → Nat → Int32) (xg : Nat → Nat) (mi : Nat → Int32) (mj : Nat → Int64) (ma : Nat → Nat → Int32) (mb : Nat → Nat → Int64) (fo : Nat → Int64) (kc : Nat) (ks : Nat) (v4 : Int32) : Option (Int32) := ck ((v4 + 1)) L (ob1 (xs (v4 + 1).toNatClampNeg : Int32) (fun x_2 => om (m_World_go n xg xi xa x_2) (fun xi_5 xa_6 xg_7 k_8 r_4 => ob1 (kc + k_8.1) (fun kc_9 => ob1 (ks + k_8.2) (fun ks_10 => cr kc_9 ks_10 (ck ((v4 + 1)) L (ob1 (xs (v4 + 1).toNatClampNeg : Int32) (fun x_13 => om (m_Model_go n 2030 mi mj ma mb x_13) (fun mi_16 mj_17 ma_18 mb_19 r_15 => if r_4 = r_15 then m_Law_b797 n L xs rc_33 xi_5 xa_6 xg_7 mi_16 mj_17 ma_18 mb_19 fo kc_9 ks_10 v4 else some 0)))))))))
set_option maxHeartbeats 4000000 in
set_option maxRecDepth 100000 in
theorem lb_Law_314 {p : Program} {e : Env} {s : State} {m : MethodId} {below : List Frame} {meth : Method} {c : Code} (l : Launch) (hf : l.flags = pinnedFlags ++ [noTraceFlag]) {b L : Nat} {xs : Nat → Int32} {A : Nat → Prop} (hA : ∀ q, s.heap.size ≤ q → A q) (hAs : ∀ q, A q → s.heap.size ≤ q) (C0 : lw_At p s m meth c b L xs) (hL9 : L < 2 ^ 31) (dC : Nat → ClassId) (dI : Nat → Nat → Nat) (cI cJ cB : ClassId) (hK : va_K (dC, dI) classes [(cI, .int), (cJ, .long), (cB, .byte)] s) (adK adV adA : Nat → Nat) (hE : tw_E adK adV adA A s s.heap) (hN : tw_N A s s.heap) (hX : tw_X A s s.heap) (hC : tw_scr b L xs A s s.heap) (n : Nat) {u : Nat → Nat} {h : Nat} {v : Nat → Nat} {o9 : Nat} (rc_33 : (Nat → Int32) → (Nat → Nat → Int32) → (Nat → Nat) → (Nat → Int32) → (Nat → Int64) → (Nat → Nat → Int32) → (Nat → Nat → Int64) → (Nat → Int64) → (Nat) → (Nat) → Int32 → Option (Int32)) (Hrc_33 : ∀ (xi : Nat → Int32) (xa : Nat → Nat → Int32) (xg : Nat → Nat) (mi : Nat → Int32) (mj : Nat → Int64) (ma : Nat → Nat → Int32) (mb : Nat → Nat → Int64) (fo : Nat → Int64) (kc : Nat) (ks : Nat) (v4 : Int32), rc_33 xi xa xg mi mj ma mb fo kc ks v4 = some (1 : Int32) → ∀ (o : Nat → Nat), kc ≤ 601024 → ks ≤ 7293000 → ∀ (H : Heap) (locs : List Loc) (ls : Array Slot), va_P (dC, dI) classes (LT cI cJ cB u o h v o9 xi xa xg mi mj ma mb fo) H → va_D A (LT cI cJ cB u o h v o9 xi xa xg mi mj ma mb fo) → va_S A s.heap H locs → lv_has ls 7 [(0, .ref b), (1, .ref ((u 0))), (2, .ref h), (3, .ref o9), (4, .int v4)] → W p l e room_1 s m #[Value.ref b] below meth c H locs kc ks (lw_Z below #[Value.ref b] s) (F0 m 33 ls [])) (xi : Nat → Int32) (xa : Nat → Nat → Int32) (xg : Nat → Nat) (mi : Nat → Int32) (mj : Nat → Int64) (ma : Nat → Nat → Int32) (mb : Nat → Nat → Int64) (fo : Nat → Int64) (kc : Nat) (ks : Nat) (v4 : Int32) (hm : m_Law_b314 n L xs rc_33 xi xa xg mi mj ma mb fo kc ks v4 = some (1 : Int32)) : ∀ (o : Nat → Nat), kc ≤ 601024 → ks ≤ 7293000 → ∀ (H : Heap) (locs : List Loc) (ls : Array Slot), va_P (dC, dI) classes (LT cI cJ cB u o h v o9 xi xa xg mi mj ma mb fo) H → va_D A (LT cI cJ cB u o h v o9 xi xa xg mi mj ma mb fo) → va_S A s.heap H locs → lv_has ls 7 [(0, .ref b), (1, .ref ((u 0))), (2, .ref h), (3, .ref o9), (4, .int v4)] → W p l e room_1 s m #[Value.ref b] below meth c H locs kc ks (lw_Z below #[Value.ref b] s) (F0 m 314 ls []) := by
  obtain ⟨hx, hb, hr, hml, hown, hts, hXs, hbl, hlocks, hgv⟩ := id C0
  have htt : ∀ w ∈ tw_T, w.before #[Value.ref b] s = true := fun w h => hts w (tw_law w h)
  intro o hkc hks H locs ls hP hD hS hl
  rw [m_Law_b314] at hm
  refine lv_aload_n hx hb d_Law_law_314 rfl (lv_at hl 1 rfl) ?_
  refine lv_aload_n hx hb d_Law_law_315 rfl (lv_at hl 0 rfl) ?_
  refine lv_iload hx hb d_Law_law_316 (lv_at hl 4 rfl) ?_
  refine lv_iconst (v := 1) hx hb d_Law_law_318 (by decide) ?_
  refine lv_iadd hx hb d_Law_law_319 ?_
  obtain ⟨h_1, hm⟩ := ck_some hm
  refine va_sld hx hb hC.1 hC.2.1 hC.2.2.1 hS h_1 d_Law_law_320 ?_
  refine lv_topi (fun x_2 ex_2 => ?_)
  replace hm := ob1_at ex_2 hm
  obtain ⟨xi_5, xa_6, xg_7, k_8, r_4, h_3, hm⟩ := om_some hm
  obtain ⟨kc_9, ekc_9⟩ : ∃ y9 : Nat, y9 = kc + k_8.1 := ⟨_, rfl⟩
  replace hm := ob1_at ekc_9 hm
  obtain ⟨ks_10, eks_10⟩ : ∃ y9 : Nat, y9 = ks + k_8.2 := ⟨_, rfl⟩
  replace hm := ob1_at eks_10 hm
  obtain ⟨hkc_9, hks_10, hm⟩ := cr_some hm
  obtain ⟨hPc, hDc⟩ := v_partL hP hD
  have hFc := x_free hDc hS hA
  have hKc := hK.sub (tys' := [(cI, .int)]) [0] rfl
  refine xg_calli (va_runV (As := [.int x_2]) (rest := []) ⟨hx, hb, hml, hown, hts⟩ (x_World_go l dC dI cI adK adV adA u o xg H.size n h_3) (cwV 1 hts (tw_GV tw_law cw_World_go lk_Law_58 in_World_go sel_World_go ini_World) rfl rfl rfl ⟨rfl, hd_World_go⟩ ⟨Nat.le_of_ble_eq_true rfl, Nat.le_of_ble_eq_true rfl⟩) (xpV hKc hPc hDc hS hE hFc xo_0 rfl) rfl rfl hl.1 rfl (lv_room (Nat.le_of_ble_eq_true rfl)) d_Law_law_321 ⟨show kc + k_8.1 ≤ 601024 by omega, show ks + k_8.2 ≤ 7293000 by omega⟩) hS (fun q _ h => hFc q h) hFc (fun kc9 ks9 r9 o_11 t9 H locs ekc eks ht hvm e9 hB hz1 hk1 hS => ?_)
  have e7 : kc_9 = kc9 := by omega
  have e8 : ks_10 = ks9 := by omega
  subst e7 e8
  have e9 : r_4 = r9 := e9
  subst e9
  obtain ⟨hP1, hD1⟩ := x_aftg hB ht (fun _ h9 => h9)
  obtain ⟨hP, hD⟩ := v_backL hP hD hk1 hFc hP1 hD1
  clear hP1 hD1
  clear hFc hk1 hz1 hvm hB ht ekc eks hPc hDc hKc
  refine lv_aload_n hx hb d_Law_law_324 rfl (lv_at hl 2 rfl) ?_
  refine lv_aload_n hx hb d_Law_law_325 rfl (lv_at hl 0 rfl) ?_
  refine lv_iload hx hb d_Law_law_326 (lv_at hl 4 rfl) ?_
  refine lv_iconst (v := 1) hx hb d_Law_law_328 (by decide) ?_
  refine lv_iadd hx hb d_Law_law_329 ?_
  obtain ⟨h_12, hm⟩ := ck_some hm
  refine va_sld hx hb hC.1 hC.2.1 hC.2.2.1 hS h_12 d_Law_law_330 ?_
  refine lv_topi (fun x_13 ex_13 => ?_)
  replace hm := ob1_at ex_13 hm
  obtain ⟨mi_16, mj_17, ma_18, mb_19, r_15, h_14, hm⟩ := om_some hm
  obtain ⟨hPc, hDc⟩ := v_part hP hD
  have hFc := x_free hDc hS hA
  refine xg_calli (va_runV (As := [.int x_13]) (rest := [.int r_4]) ⟨hx, hb, hml, hown, hts⟩ (x_Model_go 2030 l dC dI cI cJ cB adK adV adA h v H.size n h_14) (cwV 1 hts (tw_GV tw_law cw_Model_go lk_Law_61 in_Model_go sel_Model_go ini_Model) rfl rfl rfl ⟨rfl, hd_Model_go⟩ ⟨Nat.le_of_ble_eq_true rfl, Nat.le_of_ble_eq_true rfl⟩) (ypV hK hPc hDc hS hE hFc yo_12 rfl) rfl rfl hl.1 rfl (lv_room (Nat.le_of_ble_eq_true rfl)) d_Law_law_331 ⟨show kc_9 + 0 ≤ 601024 by omega, show ks_10 + 0 ≤ 7293000 by omega⟩) hS (fun q _ h => hFc q h) hFc (fun kc9 ks9 r9 u9 t9 H locs ekc eks ht hvm e9 hB hz1 hk1 hS => ?_)
  have e7 : kc_9 = kc9 := by omega
  have e8 : ks_10 = ks9 := by omega
  subst e7 e8
  have e9 : r_15 = r9 := e9
  subst e9
  obtain ⟨hP1, hD1⟩ := y_aft hB ht (fun _ h9 => h9)
  obtain ⟨hP, hD⟩ := v_back hP hD hk1 hFc hP1 hD1
  clear hP1 hD1
  clear hFc hk1 hz1 hvm hB ht ekc eks hPc hDc
  refine lv_icmp_eq (tgt := 797) hx hb d_Law_law_334 (by decide) (fun c_20 => ?_) (fun c_20 => ?_)
  · replace hm := if_t c_20 hm
    exact lb_Law_797 l hf hA hAs C0 hL9 dC dI cI cJ cB hK adK adV adA hE hN hX hC n rc_33 Hrc_33 _ _ _ _ _ _ _ _ _ _ _ hm o_11 hkc_9 hks_10 _ _ _ hP hD hS (lv_sub hl [0, 1, 2, 3, 4] rfl)
  · replace hm := if_f c_20 hm
    refine lv_iconst (v := 0) hx hb d_Law_law_337 (by decide) ?_
    exact absurd (re1 hm) (by decide)
def m_Law_b339 (n L : Nat) (xs : Nat → Int32) (rc_33 : (Nat → Int32) → (Nat → Nat → Int32) → (Nat → Nat) → (Nat → Int32) → (Nat → Int64) → (Nat → Nat → Int32) → (Nat → Nat → Int64) → (Nat → Int64) → (Nat) → (Nat) → Int32 → Option (Int32)) (xi : Nat → Int32) (xa : Nat → Nat → Int32) (xg : Nat → Nat) (mi : Nat → Int32) (mj : Nat → Int64) (ma : Nat → Nat → Int32) (mb : Nat → Nat → Int64) (fo : Nat → Int64) (kc : Nat) (ks : Nat) (v4 : Int32) : Option (Int32) := ob (m_World_stop n xg xi xa) (fun xi_3 xa_4 r_2 => om (m_Model_stop n mi mj ma mb) (fun mi_7 mj_8 ma_9 mb_10 r_6 => if r_2 = r_6 then m_Law_b797 n L xs rc_33 xi_3 xa_4 xg mi_7 mj_8 ma_9 mb_10 fo kc ks v4 else some 0))
set_option maxHeartbeats 4000000 in
set_option maxRecDepth 100000 in
theorem lb_Law_339 {p : Program} {e : Env} {s : State} {m : MethodId} {below : List Frame} {meth : Method} {c : Code} (l : Launch) (hf : l.flags = pinnedFlags ++ [noTraceFlag]) {b L : Nat} {xs : Nat → Int32} {A : Nat → Prop} (hA : ∀ q, s.heap.size ≤ q → A q) (hAs : ∀ q, A q → s.heap.size ≤ q) (C0 : lw_At p s m meth c b L xs) (hL9 : L < 2 ^ 31) (dC : Nat → ClassId) (dI : Nat → Nat → Nat) (cI cJ cB : ClassId) (hK : va_K (dC, dI) classes [(cI, .int), (cJ, .long), (cB, .byte)] s) (adK adV adA : Nat → Nat) (hE : tw_E adK adV adA A s s.heap) (hN : tw_N A s s.heap) (hX : tw_X A s s.heap) (hC : tw_scr b L xs A s s.heap) (n : Nat) {u : Nat → Nat} {h : Nat} {v : Nat → Nat} {o9 : Nat} (rc_33 : (Nat → Int32) → (Nat → Nat → Int32) → (Nat → Nat) → (Nat → Int32) → (Nat → Int64) → (Nat → Nat → Int32) → (Nat → Nat → Int64) → (Nat → Int64) → (Nat) → (Nat) → Int32 → Option (Int32)) (Hrc_33 : ∀ (xi : Nat → Int32) (xa : Nat → Nat → Int32) (xg : Nat → Nat) (mi : Nat → Int32) (mj : Nat → Int64) (ma : Nat → Nat → Int32) (mb : Nat → Nat → Int64) (fo : Nat → Int64) (kc : Nat) (ks : Nat) (v4 : Int32), rc_33 xi xa xg mi mj ma mb fo kc ks v4 = some (1 : Int32) → ∀ (o : Nat → Nat), kc ≤ 601024 → ks ≤ 7293000 → ∀ (H : Heap) (locs : List Loc) (ls : Array Slot), va_P (dC, dI) classes (LT cI cJ cB u o h v o9 xi xa xg mi mj ma mb fo) H → va_D A (LT cI cJ cB u o h v o9 xi xa xg mi mj ma mb fo) → va_S A s.heap H locs → lv_has ls 7 [(0, .ref b), (1, .ref ((u 0))), (2, .ref h), (3, .ref o9), (4, .int v4)] → W p l e room_1 s m #[Value.ref b] below meth c H locs kc ks (lw_Z below #[Value.ref b] s) (F0 m 33 ls [])) (xi : Nat → Int32) (xa : Nat → Nat → Int32) (xg : Nat → Nat) (mi : Nat → Int32) (mj : Nat → Int64) (ma : Nat → Nat → Int32) (mb : Nat → Nat → Int64) (fo : Nat → Int64) (kc : Nat) (ks : Nat) (v4 : Int32) (hm : m_Law_b339 n L xs rc_33 xi xa xg mi mj ma mb fo kc ks v4 = some (1 : Int32)) : ∀ (o : Nat → Nat), kc ≤ 601024 → ks ≤ 7293000 → ∀ (H : Heap) (locs : List Loc) (ls : Array Slot), va_P (dC, dI) classes (LT cI cJ cB u o h v o9 xi xa xg mi mj ma mb fo) H → va_D A (LT cI cJ cB u o h v o9 xi xa xg mi mj ma mb fo) → va_S A s.heap H locs → lv_has ls 7 [(0, .ref b), (1, .ref ((u 0))), (2, .ref h), (3, .ref o9), (4, .int v4)] → W p l e room_1 s m #[Value.ref b] below meth c H locs kc ks (lw_Z below #[Value.ref b] s) (F0 m 339 ls []) := by
  obtain ⟨hx, hb, hr, hml, hown, hts, hXs, hbl, hlocks, hgv⟩ := id C0
  have htt : ∀ w ∈ tw_T, w.before #[Value.ref b] s = true := fun w h => hts w (tw_law w h)
  intro o hkc hks H locs ls hP hD hS hl
  rw [m_Law_b339] at hm
  refine lv_aload_n hx hb d_Law_law_339 rfl (lv_at hl 1 rfl) ?_
  obtain ⟨xi_3, xa_4, r_2, h_1, hm⟩ := ob_some hm
  obtain ⟨hPc, hDc⟩ := v_partL hP hD
  have hFc := x_free hDc hS hA
  have hKc := hK.sub (tys' := [(cI, .int)]) [0] rfl
  refine xg_calli (va_runV (As := []) (rest := []) ⟨hx, hb, hml, hown, hts⟩ (x_World_stop l dC dI cI adK adV adA u o xg H.size n h_1) (cwV 0 hts (tw_GV tw_law cw_World_stop lk_Law_62 in_World_stop sel_World_stop ini_World) rfl rfl rfl ⟨rfl, hd_World_stop⟩ ⟨Nat.le_of_ble_eq_true rfl, Nat.le_of_ble_eq_true rfl⟩) (xpV hKc hPc hDc hS hE hFc xo_0 rfl) rfl rfl hl.1 rfl (lv_room (Nat.le_of_ble_eq_true rfl)) d_Law_law_340 ⟨show kc + 0 ≤ 601024 by omega, show ks + 0 ≤ 7293000 by omega⟩) hS (fun q _ h => hFc q h) hFc (fun kc9 ks9 r9 u9 t9 H locs ekc eks ht hvm e9 hB hz1 hk1 hS => ?_)
  have e7 : kc = kc9 := by omega
  have e8 : ks = ks9 := by omega
  subst e7 e8
  have e9 : r_2 = r9 := e9
  subst e9
  obtain ⟨hP1, hD1⟩ := x_aft hB ht (fun _ h9 => h9)
  obtain ⟨hP, hD⟩ := v_backL hP hD hk1 hFc hP1 hD1
  clear hP1 hD1
  clear hFc hk1 hz1 hvm hB ht ekc eks hPc hDc hKc
  refine lv_aload_n hx hb d_Law_law_343 rfl (lv_at hl 2 rfl) ?_
  obtain ⟨mi_7, mj_8, ma_9, mb_10, r_6, h_5, hm⟩ := om_some hm
  obtain ⟨hPc, hDc⟩ := v_part hP hD
  have hFc := x_free hDc hS hA
  refine xg_calli (va_runV (As := []) (rest := [.int r_2]) ⟨hx, hb, hml, hown, hts⟩ (x_Model_stop l dC dI cI cJ cB adK adV adA h v H.size n h_5) (cwV 0 hts (tw_GV tw_law cw_Model_stop lk_Law_66 in_Model_stop sel_Model_stop ini_Model) rfl rfl rfl ⟨rfl, hd_Model_stop⟩ ⟨Nat.le_of_ble_eq_true rfl, Nat.le_of_ble_eq_true rfl⟩) (ypV hK hPc hDc hS hE hFc yo_12 rfl) rfl rfl hl.1 rfl (lv_room (Nat.le_of_ble_eq_true rfl)) d_Law_law_344 ⟨show kc + 0 ≤ 601024 by omega, show ks + 0 ≤ 7293000 by omega⟩) hS (fun q _ h => hFc q h) hFc (fun kc9 ks9 r9 u9 t9 H locs ekc eks ht hvm e9 hB hz1 hk1 hS => ?_)
  have e7 : kc = kc9 := by omega
  have e8 : ks = ks9 := by omega
  subst e7 e8
  have e9 : r_6 = r9 := e9
  subst e9
  obtain ⟨hP1, hD1⟩ := y_aft hB ht (fun _ h9 => h9)
  obtain ⟨hP, hD⟩ := v_back hP hD hk1 hFc hP1 hD1
  clear hP1 hD1
  clear hFc hk1 hz1 hvm hB ht ekc eks hPc hDc
  refine lv_icmp_eq (tgt := 797) hx hb d_Law_law_347 (by decide) (fun c_11 => ?_) (fun c_11 => ?_)
  · replace hm := if_t c_11 hm
    exact lb_Law_797 l hf hA hAs C0 hL9 dC dI cI cJ cB hK adK adV adA hE hN hX hC n rc_33 Hrc_33 _ _ _ _ _ _ _ _ _ _ _ hm o hkc hks _ _ _ hP hD hS (lv_sub hl [0, 1, 2, 3, 4] rfl)
  · replace hm := if_f c_11 hm
    refine lv_iconst (v := 0) hx hb d_Law_law_350 (by decide) ?_
    exact absurd (re1 hm) (by decide)
def m_Law_b352 (n L : Nat) (xs : Nat → Int32) (rc_33 : (Nat → Int32) → (Nat → Nat → Int32) → (Nat → Nat) → (Nat → Int32) → (Nat → Int64) → (Nat → Nat → Int32) → (Nat → Nat → Int64) → (Nat → Int64) → (Nat) → (Nat) → Int32 → Option (Int32)) (xi : Nat → Int32) (xa : Nat → Nat → Int32) (xg : Nat → Nat) (mi : Nat → Int32) (mj : Nat → Int64) (ma : Nat → Nat → Int32) (mb : Nat → Nat → Int64) (fo : Nat → Int64) (kc : Nat) (ks : Nat) (v4 : Int32) : Option (Int32) := ck ((v4 + 1)) L (ob1 (xs (v4 + 1).toNatClampNeg : Int32) (fun x_2 => ob0 (m_World_look n xg xi xa x_2) (fun r_4 => ck ((v4 + 1)) L (ob1 (xs (v4 + 1).toNatClampNeg : Int32) (fun x_6 => om (m_Model_look n mi mj ma mb x_6) (fun mi_9 mj_10 ma_11 mb_12 r_8 => if r_4 = r_8 then m_Law_b797 n L xs rc_33 xi xa xg mi_9 mj_10 ma_11 mb_12 fo kc ks v4 else some 0))))))
set_option maxHeartbeats 4000000 in
set_option maxRecDepth 100000 in
theorem lb_Law_352 {p : Program} {e : Env} {s : State} {m : MethodId} {below : List Frame} {meth : Method} {c : Code} (l : Launch) (hf : l.flags = pinnedFlags ++ [noTraceFlag]) {b L : Nat} {xs : Nat → Int32} {A : Nat → Prop} (hA : ∀ q, s.heap.size ≤ q → A q) (hAs : ∀ q, A q → s.heap.size ≤ q) (C0 : lw_At p s m meth c b L xs) (hL9 : L < 2 ^ 31) (dC : Nat → ClassId) (dI : Nat → Nat → Nat) (cI cJ cB : ClassId) (hK : va_K (dC, dI) classes [(cI, .int), (cJ, .long), (cB, .byte)] s) (adK adV adA : Nat → Nat) (hE : tw_E adK adV adA A s s.heap) (hN : tw_N A s s.heap) (hX : tw_X A s s.heap) (hC : tw_scr b L xs A s s.heap) (n : Nat) {u : Nat → Nat} {h : Nat} {v : Nat → Nat} {o9 : Nat} (rc_33 : (Nat → Int32) → (Nat → Nat → Int32) → (Nat → Nat) → (Nat → Int32) → (Nat → Int64) → (Nat → Nat → Int32) → (Nat → Nat → Int64) → (Nat → Int64) → (Nat) → (Nat) → Int32 → Option (Int32)) (Hrc_33 : ∀ (xi : Nat → Int32) (xa : Nat → Nat → Int32) (xg : Nat → Nat) (mi : Nat → Int32) (mj : Nat → Int64) (ma : Nat → Nat → Int32) (mb : Nat → Nat → Int64) (fo : Nat → Int64) (kc : Nat) (ks : Nat) (v4 : Int32), rc_33 xi xa xg mi mj ma mb fo kc ks v4 = some (1 : Int32) → ∀ (o : Nat → Nat), kc ≤ 601024 → ks ≤ 7293000 → ∀ (H : Heap) (locs : List Loc) (ls : Array Slot), va_P (dC, dI) classes (LT cI cJ cB u o h v o9 xi xa xg mi mj ma mb fo) H → va_D A (LT cI cJ cB u o h v o9 xi xa xg mi mj ma mb fo) → va_S A s.heap H locs → lv_has ls 7 [(0, .ref b), (1, .ref ((u 0))), (2, .ref h), (3, .ref o9), (4, .int v4)] → W p l e room_1 s m #[Value.ref b] below meth c H locs kc ks (lw_Z below #[Value.ref b] s) (F0 m 33 ls [])) (xi : Nat → Int32) (xa : Nat → Nat → Int32) (xg : Nat → Nat) (mi : Nat → Int32) (mj : Nat → Int64) (ma : Nat → Nat → Int32) (mb : Nat → Nat → Int64) (fo : Nat → Int64) (kc : Nat) (ks : Nat) (v4 : Int32) (hm : m_Law_b352 n L xs rc_33 xi xa xg mi mj ma mb fo kc ks v4 = some (1 : Int32)) : ∀ (o : Nat → Nat), kc ≤ 601024 → ks ≤ 7293000 → ∀ (H : Heap) (locs : List Loc) (ls : Array Slot), va_P (dC, dI) classes (LT cI cJ cB u o h v o9 xi xa xg mi mj ma mb fo) H → va_D A (LT cI cJ cB u o h v o9 xi xa xg mi mj ma mb fo) → va_S A s.heap H locs → lv_has ls 7 [(0, .ref b), (1, .ref ((u 0))), (2, .ref h), (3, .ref o9), (4, .int v4)] → W p l e room_1 s m #[Value.ref b] below meth c H locs kc ks (lw_Z below #[Value.ref b] s) (F0 m 352 ls []) := by
  obtain ⟨hx, hb, hr, hml, hown, hts, hXs, hbl, hlocks, hgv⟩ := id C0
  have htt : ∀ w ∈ tw_T, w.before #[Value.ref b] s = true := fun w h => hts w (tw_law w h)
  intro o hkc hks H locs ls hP hD hS hl
  rw [m_Law_b352] at hm
  refine lv_aload_n hx hb d_Law_law_352 rfl (lv_at hl 1 rfl) ?_
  refine lv_aload_n hx hb d_Law_law_353 rfl (lv_at hl 0 rfl) ?_
  refine lv_iload hx hb d_Law_law_354 (lv_at hl 4 rfl) ?_
  refine lv_iconst (v := 1) hx hb d_Law_law_356 (by decide) ?_
  refine lv_iadd hx hb d_Law_law_357 ?_
  obtain ⟨h_1, hm⟩ := ck_some hm
  refine va_sld hx hb hC.1 hC.2.1 hC.2.2.1 hS h_1 d_Law_law_358 ?_
  refine lv_topi (fun x_2 ex_2 => ?_)
  replace hm := ob1_at ex_2 hm
  obtain ⟨r_4, h_3, hm⟩ := ob0_some hm
  obtain ⟨hPc, hDc⟩ := v_partL hP hD
  have hFc := x_free0 hS hA
  have hKc := hK.sub (tys' := [(cI, .int)]) [0] rfl
  refine xg_calli (va_runV (As := [.int x_2]) (rest := []) ⟨hx, hb, hml, hown, hts⟩ (x_World_look l dC dI cI adK adV adA u o xg H.size n h_3) (cwV 1 hts (tw_GV tw_law cw_World_look lk_Law_67 in_World_look sel_World_look ini_World) rfl rfl rfl ⟨rfl, hd_World_look⟩ ⟨Nat.le_of_ble_eq_true rfl, Nat.le_of_ble_eq_true rfl⟩) (xpVr hKc hPc hS hE hFc xo_0 rfl) rfl rfl hl.1 rfl (lv_room (Nat.le_of_ble_eq_true rfl)) d_Law_law_359 ⟨show kc + 0 ≤ 601024 by omega, show ks + 0 ≤ 7293000 by omega⟩) hS (fun q _ h => hFc q h) hFc (fun kc9 ks9 r9 u9 t9 H locs ekc eks ht hvm e9 hB hz1 hk1 hS => ?_)
  have e7 : kc = kc9 := by omega
  have e8 : ks = ks9 := by omega
  subst e7 e8
  have e9 : r_4 = r9 := e9
  subst e9
  replace hP := x_keep hP hk1
  clear hFc hk1 hz1 hvm hB ht ekc eks hPc hDc hKc
  refine lv_aload_n hx hb d_Law_law_362 rfl (lv_at hl 2 rfl) ?_
  refine lv_aload_n hx hb d_Law_law_363 rfl (lv_at hl 0 rfl) ?_
  refine lv_iload hx hb d_Law_law_364 (lv_at hl 4 rfl) ?_
  refine lv_iconst (v := 1) hx hb d_Law_law_366 (by decide) ?_
  refine lv_iadd hx hb d_Law_law_367 ?_
  obtain ⟨h_5, hm⟩ := ck_some hm
  refine va_sld hx hb hC.1 hC.2.1 hC.2.2.1 hS h_5 d_Law_law_368 ?_
  refine lv_topi (fun x_6 ex_6 => ?_)
  replace hm := ob1_at ex_6 hm
  obtain ⟨mi_9, mj_10, ma_11, mb_12, r_8, h_7, hm⟩ := om_some hm
  obtain ⟨hPc, hDc⟩ := v_part hP hD
  have hFc := x_free hDc hS hA
  refine xg_calli (va_runV (As := [.int x_6]) (rest := [.int r_4]) ⟨hx, hb, hml, hown, hts⟩ (x_Model_look l dC dI cI cJ cB adK adV adA h v H.size n h_7) (cwV 1 hts (tw_GV tw_law cw_Model_look lk_Law_70 in_Model_look sel_Model_look ini_Model) rfl rfl rfl ⟨rfl, hd_Model_look⟩ ⟨Nat.le_of_ble_eq_true rfl, Nat.le_of_ble_eq_true rfl⟩) (ypV hK hPc hDc hS hE hFc yo_12 rfl) rfl rfl hl.1 rfl (lv_room (Nat.le_of_ble_eq_true rfl)) d_Law_law_369 ⟨show kc + 0 ≤ 601024 by omega, show ks + 0 ≤ 7293000 by omega⟩) hS (fun q _ h => hFc q h) hFc (fun kc9 ks9 r9 u9 t9 H locs ekc eks ht hvm e9 hB hz1 hk1 hS => ?_)
  have e7 : kc = kc9 := by omega
  have e8 : ks = ks9 := by omega
  subst e7 e8
  have e9 : r_8 = r9 := e9
  subst e9
  obtain ⟨hP1, hD1⟩ := y_aft hB ht (fun _ h9 => h9)
  obtain ⟨hP, hD⟩ := v_back hP hD hk1 hFc hP1 hD1
  clear hP1 hD1
  clear hFc hk1 hz1 hvm hB ht ekc eks hPc hDc
  refine lv_icmp_eq (tgt := 797) hx hb d_Law_law_372 (by decide) (fun c_13 => ?_) (fun c_13 => ?_)
  · replace hm := if_t c_13 hm
    exact lb_Law_797 l hf hA hAs C0 hL9 dC dI cI cJ cB hK adK adV adA hE hN hX hC n rc_33 Hrc_33 _ _ _ _ _ _ _ _ _ _ _ hm o hkc hks _ _ _ hP hD hS (lv_sub hl [0, 1, 2, 3, 4] rfl)
  · replace hm := if_f c_13 hm
    refine lv_iconst (v := 0) hx hb d_Law_law_375 (by decide) ?_
    exact absurd (re1 hm) (by decide)
def m_Law_b454 (n L : Nat) (xs : Nat → Int32) (rc_33 : (Nat → Int32) → (Nat → Nat → Int32) → (Nat → Nat) → (Nat → Int32) → (Nat → Int64) → (Nat → Nat → Int32) → (Nat → Nat → Int64) → (Nat → Int64) → (Nat) → (Nat) → Int32 → Option (Int32)) (xi : Nat → Int32) (xa : Nat → Nat → Int32) (xg : Nat → Nat) (mi : Nat → Int32) (mj : Nat → Int64) (ma : Nat → Nat → Int32) (mb : Nat → Nat → Int64) (fo : Nat → Int64) (kc : Nat) (ks : Nat) (v4 : Int32) : Option (Int32) := m_Law_b797 n L xs rc_33 xi xa xg mi mj ma mb fo kc ks v4
set_option maxHeartbeats 4000000 in
set_option maxRecDepth 100000 in
theorem lb_Law_454 {p : Program} {e : Env} {s : State} {m : MethodId} {below : List Frame} {meth : Method} {c : Code} (l : Launch) (hf : l.flags = pinnedFlags ++ [noTraceFlag]) {b L : Nat} {xs : Nat → Int32} {A : Nat → Prop} (hA : ∀ q, s.heap.size ≤ q → A q) (hAs : ∀ q, A q → s.heap.size ≤ q) (C0 : lw_At p s m meth c b L xs) (hL9 : L < 2 ^ 31) (dC : Nat → ClassId) (dI : Nat → Nat → Nat) (cI cJ cB : ClassId) (hK : va_K (dC, dI) classes [(cI, .int), (cJ, .long), (cB, .byte)] s) (adK adV adA : Nat → Nat) (hE : tw_E adK adV adA A s s.heap) (hN : tw_N A s s.heap) (hX : tw_X A s s.heap) (hC : tw_scr b L xs A s s.heap) (n : Nat) {u : Nat → Nat} {h : Nat} {v : Nat → Nat} {o9 : Nat} (rc_33 : (Nat → Int32) → (Nat → Nat → Int32) → (Nat → Nat) → (Nat → Int32) → (Nat → Int64) → (Nat → Nat → Int32) → (Nat → Nat → Int64) → (Nat → Int64) → (Nat) → (Nat) → Int32 → Option (Int32)) (Hrc_33 : ∀ (xi : Nat → Int32) (xa : Nat → Nat → Int32) (xg : Nat → Nat) (mi : Nat → Int32) (mj : Nat → Int64) (ma : Nat → Nat → Int32) (mb : Nat → Nat → Int64) (fo : Nat → Int64) (kc : Nat) (ks : Nat) (v4 : Int32), rc_33 xi xa xg mi mj ma mb fo kc ks v4 = some (1 : Int32) → ∀ (o : Nat → Nat), kc ≤ 601024 → ks ≤ 7293000 → ∀ (H : Heap) (locs : List Loc) (ls : Array Slot), va_P (dC, dI) classes (LT cI cJ cB u o h v o9 xi xa xg mi mj ma mb fo) H → va_D A (LT cI cJ cB u o h v o9 xi xa xg mi mj ma mb fo) → va_S A s.heap H locs → lv_has ls 7 [(0, .ref b), (1, .ref ((u 0))), (2, .ref h), (3, .ref o9), (4, .int v4)] → W p l e room_1 s m #[Value.ref b] below meth c H locs kc ks (lw_Z below #[Value.ref b] s) (F0 m 33 ls [])) (xi : Nat → Int32) (xa : Nat → Nat → Int32) (xg : Nat → Nat) (mi : Nat → Int32) (mj : Nat → Int64) (ma : Nat → Nat → Int32) (mb : Nat → Nat → Int64) (fo : Nat → Int64) (kc : Nat) (ks : Nat) (v4 : Int32) (hm : m_Law_b454 n L xs rc_33 xi xa xg mi mj ma mb fo kc ks v4 = some (1 : Int32)) : ∀ (o : Nat → Nat), kc ≤ 601024 → ks ≤ 7293000 → ∀ (H : Heap) (locs : List Loc) (ls : Array Slot), va_P (dC, dI) classes (LT cI cJ cB u o h v o9 xi xa xg mi mj ma mb fo) H → va_D A (LT cI cJ cB u o h v o9 xi xa xg mi mj ma mb fo) → va_S A s.heap H locs → lv_has ls 7 [(0, .ref b), (1, .ref ((u 0))), (2, .ref h), (3, .ref o9), (4, .int v4)] → W p l e room_1 s m #[Value.ref b] below meth c H locs kc ks (lw_Z below #[Value.ref b] s) (F0 m 454 ls []) := by
  obtain ⟨hx, hb, hr, hml, hown, hts, hXs, hbl, hlocks, hgv⟩ := id C0
  have htt : ∀ w ∈ tw_T, w.before #[Value.ref b] s = true := fun w h => hts w (tw_law w h)
  intro o hkc hks H locs ls hP hD hS hl
  rw [m_Law_b454] at hm
  refine lv_goto (tgt := 797) hx hb d_Law_law_454 (by decide) ?_
  exact lb_Law_797 l hf hA hAs C0 hL9 dC dI cI cJ cB hK adK adV adA hE hN hX hC n rc_33 Hrc_33 _ _ _ _ _ _ _ _ _ _ _ hm o hkc hks _ _ _ hP hD hS (lv_sub hl [0, 1, 2, 3, 4] rfl)
def m_Law_b377 (n L : Nat) (xs : Nat → Int32) (rc_33 : (Nat → Int32) → (Nat → Nat → Int32) → (Nat → Nat) → (Nat → Int32) → (Nat → Int64) → (Nat → Nat → Int32) → (Nat → Nat → Int64) → (Nat → Int64) → (Nat) → (Nat) → Int32 → Option (Int32)) (xi : Nat → Int32) (xa : Nat → Nat → Int32) (xg : Nat → Nat) (mi : Nat → Int32) (mj : Nat → Int64) (ma : Nat → Nat → Int32) (mb : Nat → Nat → Int64) (fo : Nat → Int64) (kc : Nat) (ks : Nat) (v4 : Int32) : Option (Int32) := ck ((v4 + 1)) L (ob1 (xs (v4 + 1).toNatClampNeg : Int32) (fun x_2 => ck ((v4 + 2)) L (ob1 (xs (v4 + 2).toNatClampNeg : Int32) (fun x_4 => ck ((v4 + 3)) L (ob1 (xs (v4 + 3).toNatClampNeg : Int32) (fun x_6 => if ts_exists x_2 = 0 ∨ x_4 < 0 ∨ 1 < x_4 ∨ x_6 < 0 ∨ ¬ x_6 ≤ 1 then ob1 (kc + 1) (fun kc_8 => ob1 (ks + 6) (fun ks_9 => cr kc_8 ks_9 (ck ((v4 + 1)) L (ob1 (xs (v4 + 1).toNatClampNeg : Int32) (fun x_11 => ck ((v4 + 2)) L (ob1 (xs (v4 + 2).toNatClampNeg : Int32) (fun x_13 => ck ((v4 + 3)) L (ob1 (xs (v4 + 3).toNatClampNeg : Int32) (fun x_15 => om (m_Model_place n mi mj ma mb x_11 x_13 x_15) (fun mi_18 mj_19 ma_20 mb_21 r_17 => ob0 (m_Model_thrown n mi_18 mj_19 ma_20 mb_21) (fun r_23 => if r_23 = ((1 : Int32)) then if ((1 : Int32)) = ((0 : Int32)) then ck ((0 : Int32)) 1 (if ((lg_cmp (fo (0 : Int32).toNatClampNeg) r_17.toInt64)) = ((0 : Int32)) then m_Law_b454 n L xs rc_33 xi xa xg mi_18 mj_19 ma_20 mb_21 fo kc_8 ks_9 v4 else some 0) else m_Law_b454 n L xs rc_33 xi xa xg mi_18 mj_19 ma_20 mb_21 fo kc_8 ks_9 v4 else some 0))))))))))) else ob1 (m_Law_place_w3 (xa 20) fo x_2 x_4 x_6) (fun fo_28 => ck ((v4 + 1)) L (ob1 (xs (v4 + 1).toNatClampNeg : Int32) (fun x_30 => ck ((v4 + 2)) L (ob1 (xs (v4 + 2).toNatClampNeg : Int32) (fun x_32 => ck ((v4 + 3)) L (ob1 (xs (v4 + 3).toNatClampNeg : Int32) (fun x_34 => om (m_Model_place n mi mj ma mb x_30 x_32 x_34) (fun mi_37 mj_38 ma_39 mb_40 r_36 => ob0 (m_Model_thrown n mi_37 mj_38 ma_39 mb_40) (fun r_42 => if r_42 = m_Law_place_r then if m_Law_place_r = ((0 : Int32)) then ck ((0 : Int32)) 1 (if ((lg_cmp (fo_28 (0 : Int32).toNatClampNeg) r_36.toInt64)) = ((0 : Int32)) then m_Law_b454 n L xs rc_33 xi xa xg mi_37 mj_38 ma_39 mb_40 fo_28 kc ks v4 else some 0) else m_Law_b454 n L xs rc_33 xi xa xg mi_37 mj_38 ma_39 mb_40 fo_28 kc ks v4 else some 0)))))))))))))))
set_option maxHeartbeats 4000000 in
set_option maxRecDepth 100000 in
theorem lb_Law_377 {p : Program} {e : Env} {s : State} {m : MethodId} {below : List Frame} {meth : Method} {c : Code} (l : Launch) (hf : l.flags = pinnedFlags ++ [noTraceFlag]) {b L : Nat} {xs : Nat → Int32} {A : Nat → Prop} (hA : ∀ q, s.heap.size ≤ q → A q) (hAs : ∀ q, A q → s.heap.size ≤ q) (C0 : lw_At p s m meth c b L xs) (hL9 : L < 2 ^ 31) (dC : Nat → ClassId) (dI : Nat → Nat → Nat) (cI cJ cB : ClassId) (hK : va_K (dC, dI) classes [(cI, .int), (cJ, .long), (cB, .byte)] s) (adK adV adA : Nat → Nat) (hE : tw_E adK adV adA A s s.heap) (hN : tw_N A s s.heap) (hX : tw_X A s s.heap) (hC : tw_scr b L xs A s s.heap) (n : Nat) {u : Nat → Nat} {h : Nat} {v : Nat → Nat} {o9 : Nat} (rc_33 : (Nat → Int32) → (Nat → Nat → Int32) → (Nat → Nat) → (Nat → Int32) → (Nat → Int64) → (Nat → Nat → Int32) → (Nat → Nat → Int64) → (Nat → Int64) → (Nat) → (Nat) → Int32 → Option (Int32)) (Hrc_33 : ∀ (xi : Nat → Int32) (xa : Nat → Nat → Int32) (xg : Nat → Nat) (mi : Nat → Int32) (mj : Nat → Int64) (ma : Nat → Nat → Int32) (mb : Nat → Nat → Int64) (fo : Nat → Int64) (kc : Nat) (ks : Nat) (v4 : Int32), rc_33 xi xa xg mi mj ma mb fo kc ks v4 = some (1 : Int32) → ∀ (o : Nat → Nat), kc ≤ 601024 → ks ≤ 7293000 → ∀ (H : Heap) (locs : List Loc) (ls : Array Slot), va_P (dC, dI) classes (LT cI cJ cB u o h v o9 xi xa xg mi mj ma mb fo) H → va_D A (LT cI cJ cB u o h v o9 xi xa xg mi mj ma mb fo) → va_S A s.heap H locs → lv_has ls 7 [(0, .ref b), (1, .ref ((u 0))), (2, .ref h), (3, .ref o9), (4, .int v4)] → W p l e room_1 s m #[Value.ref b] below meth c H locs kc ks (lw_Z below #[Value.ref b] s) (F0 m 33 ls [])) (xi : Nat → Int32) (xa : Nat → Nat → Int32) (xg : Nat → Nat) (mi : Nat → Int32) (mj : Nat → Int64) (ma : Nat → Nat → Int32) (mb : Nat → Nat → Int64) (fo : Nat → Int64) (kc : Nat) (ks : Nat) (v4 : Int32) (hm : m_Law_b377 n L xs rc_33 xi xa xg mi mj ma mb fo kc ks v4 = some (1 : Int32)) : ∀ (o : Nat → Nat), kc ≤ 601024 → ks ≤ 7293000 → ∀ (H : Heap) (locs : List Loc) (ls : Array Slot), va_P (dC, dI) classes (LT cI cJ cB u o h v o9 xi xa xg mi mj ma mb fo) H → va_D A (LT cI cJ cB u o h v o9 xi xa xg mi mj ma mb fo) → va_S A s.heap H locs → lv_has ls 7 [(0, .ref b), (1, .ref ((u 0))), (2, .ref h), (3, .ref o9), (4, .int v4)] → W p l e room_1 s m #[Value.ref b] below meth c H locs kc ks (lw_Z below #[Value.ref b] s) (F0 m 377 ls []) := by
  obtain ⟨hx, hb, hr, hml, hown, hts, hXs, hbl, hlocks, hgv⟩ := id C0
  have htt : ∀ w ∈ tw_T, w.before #[Value.ref b] s = true := fun w h => hts w (tw_law w h)
  intro o hkc hks H locs ls hP hD hS hl
  rw [m_Law_b377] at hm
  refine lv_aload_n hx hb d_Law_law_377 rfl (lv_at hl 1 rfl) ?_
  refine lv_aload_n hx hb d_Law_law_378 rfl (lv_at hl 0 rfl) ?_
  refine lv_iload hx hb d_Law_law_379 (lv_at hl 4 rfl) ?_
  refine lv_iconst (v := 1) hx hb d_Law_law_381 (by decide) ?_
  refine lv_iadd hx hb d_Law_law_382 ?_
  obtain ⟨h_1, hm⟩ := ck_some hm
  refine va_sld hx hb hC.1 hC.2.1 hC.2.2.1 hS h_1 d_Law_law_383 ?_
  refine lv_topi (fun x_2 ex_2 => ?_)
  replace hm := ob1_at ex_2 hm
  refine lv_aload_n hx hb d_Law_law_384 rfl (lv_at hl 0 rfl) ?_
  refine lv_iload hx hb d_Law_law_385 (lv_at hl 4 rfl) ?_
  refine lv_iconst (v := 2) hx hb d_Law_law_387 (by decide) ?_
  refine lv_iadd hx hb d_Law_law_388 ?_
  obtain ⟨h_3, hm⟩ := ck_some hm
  refine va_sld hx hb hC.1 hC.2.1 hC.2.2.1 hS h_3 d_Law_law_389 ?_
  refine lv_topi (fun x_4 ex_4 => ?_)
  replace hm := ob1_at ex_4 hm
  refine lv_aload_n hx hb d_Law_law_390 rfl (lv_at hl 0 rfl) ?_
  refine lv_iload hx hb d_Law_law_391 (lv_at hl 4 rfl) ?_
  refine lv_iconst (v := 3) hx hb d_Law_law_393 (by decide) ?_
  refine lv_iadd hx hb d_Law_law_394 ?_
  obtain ⟨h_5, hm⟩ := ck_some hm
  refine va_sld hx hb hC.1 hC.2.1 hC.2.2.1 hS h_5 d_Law_law_395 ?_
  refine lv_topi (fun x_6 ex_6 => ?_)
  replace hm := ob1_at ex_6 hm
  refine lv_aload_n hx hb d_Law_law_396 rfl (lv_at hl 3 rfl) ?_
  rcases Classical.em (ts_exists x_2 = 0 ∨ x_4 < 0 ∨ 1 < x_4 ∨ x_6 < 0 ∨ ¬ x_6 ≤ 1) with c_7 | c_7
  · replace hm := if_t c_7 hm
    obtain ⟨kc_8, ekc_8⟩ : ∃ y9 : Nat, y9 = kc + 1 := ⟨_, rfl⟩
    replace hm := ob1_at ekc_8 hm
    obtain ⟨ks_9, eks_9⟩ : ∃ y9 : Nat, y9 = ks + 6 := ⟨_, rfl⟩
    replace hm := ob1_at eks_9 hm
    obtain ⟨hkc_8, hks_9, hm⟩ := cr_some hm
    have hPc : va_P (dC, dI) classes (LP2 cJ u o o9 xi fo) H := v_subP hP lt_s2
    have hDc : va_D A (LP2 cJ u o o9 xi fo) := hD.sub [0, 138] (by decide) rfl
    have hFc := x_free hDc hS hA
    have hKc := hK.sub (tys' := [(cI, .int), (cJ, .long)]) [0, 1] rfl
    refine xg_calli (tw_runSW (As := [.ref ((u 0)), .int x_2, .int x_4, .int x_6, .ref o9]) (rest := []) ⟨hx, hb, hml, hown, hts⟩ (c_Law_place_bad l hf dC dI H.size (u 0) ((u 1)) ((u 3)) ((u 4)) ((u 5)) ((u 6)) ((u 7)) ((u 8)) ((u 10)) ((u 11)) (xi 0) (xi 1) (xi 2) (xi 3) cI cJ o9 fo x_2 x_4 x_6 c_7) (tw_cwSW 5 hts (tw_GS tw_law cw_Law_place lk_Law_71 st_Law_place ini_Law) rfl rfl rfl (by decide +kernel) ⟨Nat.le_of_ble_eq_true rfl, Nat.le_of_ble_eq_true rfl⟩) ⟨fun a U g mk q => by obtain ⟨q0, q1, qP, qK, qD, qX⟩ := q; exact ⟨q0, q1, qP, va_K.moved (u := U) (U := U.calling g mk a) (Vm.Alike.refl U.vm) qK, qD, tw_X.blind qX⟩, fun U hU hW => ⟨rfl, by rw [hU], by rw [hU]; exact hPc, va_K.moved hW.alike hKc, hDc.weaken (fun _ _ _ _ => trivial), tw_X.pass hX hS hFc hW hU⟩⟩ rfl rfl hl.1 rfl (lv_room (Nat.le_of_ble_eq_true rfl)) d_Law_law_397 ⟨show kc + 1 ≤ 601024 by omega, show ks + 6 ≤ 7293000 by omega⟩) hS (fun q _ h => hFc q h) hFc (fun kc9 ks9 r9 u9 t9 H locs ekc eks ht hvm e9 hB hz1 hk1 hS => ?_)
    have e7 : kc_8 = kc9 := by omega
    have e8 : ks_9 = ks9 := by omega
    subst e7 e8
    obtain ⟨hP1, hK1, hD1⟩ := hB
    rw [ht] at hP1
    have e9 : r9 = 1 := e9
    subst e9
    replace hP := v_same (w1 := LP2 cJ u o o9 xi fo) hP hk1 hD (v_mem lt_s2) hP1
    clear hP1 hK1 hD1 hFc hk1 hz1 hvm ht ekc eks hPc hDc hKc
    refine lv_istore (lv' := [(5, .int 1), (0, .ref b), (1, .ref ((u 0))), (2, .ref h), (3, .ref o9), (4, .int v4)]) hx hb d_Law_law_400 hl (by decide) rfl (fun ls hl => ?_)
    refine lv_aload_n hx hb d_Law_law_402 rfl (lv_at hl 3 rfl) ?_
    refine lv_aload_n hx hb d_Law_law_403 rfl (lv_at hl 1 rfl) ?_
    refine lv_iload hx hb d_Law_law_404 (lv_at hl 5 rfl) ?_
    refine lv_iconst (v := 1) hx hb d_Law_law_406 (by decide) ?_
    refine lv_iadd hx hb d_Law_law_407 ?_
    obtain ⟨h_10, hm⟩ := ck_some hm
    refine va_sld hx hb hC.1 hC.2.1 hC.2.2.1 hS h_10 d_Law_law_408 ?_
    refine lv_topi (fun x_11 ex_11 => ?_)
    replace hm := ob1_at ex_11 hm
    refine lv_aload_n hx hb d_Law_law_409 rfl (lv_at hl 1 rfl) ?_
    refine lv_iload hx hb d_Law_law_410 (lv_at hl 5 rfl) ?_
    refine lv_iconst (v := 2) hx hb d_Law_law_412 (by decide) ?_
    refine lv_iadd hx hb d_Law_law_413 ?_
    obtain ⟨h_12, hm⟩ := ck_some hm
    refine va_sld hx hb hC.1 hC.2.1 hC.2.2.1 hS h_12 d_Law_law_414 ?_
    refine lv_topi (fun x_13 ex_13 => ?_)
    replace hm := ob1_at ex_13 hm
    refine lv_aload_n hx hb d_Law_law_415 rfl (lv_at hl 1 rfl) ?_
    refine lv_iload hx hb d_Law_law_416 (lv_at hl 5 rfl) ?_
    refine lv_iconst (v := 3) hx hb d_Law_law_418 (by decide) ?_
    refine lv_iadd hx hb d_Law_law_419 ?_
    obtain ⟨h_14, hm⟩ := ck_some hm
    refine va_sld hx hb hC.1 hC.2.1 hC.2.2.1 hS h_14 d_Law_law_420 ?_
    refine lv_topi (fun x_15 ex_15 => ?_)
    replace hm := ob1_at ex_15 hm
    obtain ⟨mi_18, mj_19, ma_20, mb_21, r_17, h_16, hm⟩ := om_some hm
    obtain ⟨hPc, hDc⟩ := v_part hP hD
    have hFc := x_free hDc hS hA
    refine xg_calli (va_runV (As := [.int x_11, .int x_13, .int x_15]) (rest := []) ⟨hx, hb, hml, hown, hts⟩ (x_Model_place l dC dI cI cJ cB adK adV adA h v H.size n h_16) (cwV 3 hts (tw_GV tw_law cw_Model_place lk_Law_74 in_Model_place sel_Model_place ini_Model) rfl rfl rfl ⟨rfl, hd_Model_place⟩ ⟨Nat.le_of_ble_eq_true rfl, Nat.le_of_ble_eq_true rfl⟩) (ypV hK hPc hDc hS hE hFc yo_12 rfl) rfl rfl hl.1 rfl (lv_room (Nat.le_of_ble_eq_true rfl)) d_Law_law_421 ⟨show kc_8 + 0 ≤ 601024 by omega, show ks_9 + 0 ≤ 7293000 by omega⟩) hS (fun q _ h => hFc q h) hFc (fun kc9 ks9 r9 u9 t9 H locs ekc eks ht hvm e9 hB hz1 hk1 hS => ?_)
    have e7 : kc_8 = kc9 := by omega
    have e8 : ks_9 = ks9 := by omega
    subst e7 e8
    have e9 : r_17 = r9 := e9
    subst e9
    obtain ⟨hP1, hD1⟩ := y_aft hB ht (fun _ h9 => h9)
    obtain ⟨hP, hD⟩ := v_back hP hD hk1 hFc hP1 hD1
    clear hP1 hD1
    clear hFc hk1 hz1 hvm hB ht ekc eks hPc hDc
    refine lv_istore (lv' := [(6, .int r_17), (5, .int 1), (0, .ref b), (1, .ref ((u 0))), (2, .ref h), (3, .ref o9), (4, .int v4)]) hx hb d_Law_law_424 hl (by decide) rfl (fun ls hl => ?_)
    refine lv_aload_n hx hb d_Law_law_426 rfl (lv_at hl 4 rfl) ?_
    obtain ⟨r_23, h_22, hm⟩ := ob0_some hm
    obtain ⟨hPc, hDc⟩ := v_part hP hD
    have hFc := x_free0 hS hA
    refine xg_calli (va_runV (As := []) (rest := []) ⟨hx, hb, hml, hown, hts⟩ (x_Model_thrown l dC dI cI cJ cB adK adV adA h v H.size n h_22) (cwV 0 hts (tw_GV tw_law cw_Model_thrown lk_Law_75 in_Model_thrown sel_Model_thrown ini_Model) rfl rfl rfl ⟨rfl, hd_Model_thrown⟩ ⟨Nat.le_of_ble_eq_true rfl, Nat.le_of_ble_eq_true rfl⟩) (ypVr hK hPc hS hE hFc yo_12 rfl) rfl rfl hl.1 rfl (lv_room (Nat.le_of_ble_eq_true rfl)) d_Law_law_427 ⟨show kc_8 + 0 ≤ 601024 by omega, show ks_9 + 0 ≤ 7293000 by omega⟩) hS (fun q _ h => hFc q h) hFc (fun kc9 ks9 r9 u9 t9 H locs ekc eks ht hvm e9 hB hz1 hk1 hS => ?_)
    have e7 : kc_8 = kc9 := by omega
    have e8 : ks_9 = ks9 := by omega
    subst e7 e8
    have e9 : r_23 = r9 := e9
    subst e9
    replace hP := x_keep hP hk1
    clear hFc hk1 hz1 hvm hB ht ekc eks hPc hDc
    refine lv_iload hx hb d_Law_law_430 (lv_at hl 1 rfl) ?_
    refine lv_icmp_eq (tgt := 437) hx hb d_Law_law_432 (by decide) (fun c_24 => ?_) (fun c_24 => ?_)
    · replace hm := if_t c_24 hm
      refine lv_iload hx hb d_Law_law_437 (lv_at hl 1 rfl) ?_
      refine lv_if_ne (tgt := 454) hx hb d_Law_law_439 (by decide) (fun c_25 => ?_) (fun c_25 => ?_)
      · replace hm := if_f c_25 hm
        exact lb_Law_454 l hf hA hAs C0 hL9 dC dI cI cJ cB hK adK adV adA hE hN hX hC n rc_33 Hrc_33 _ _ _ _ _ _ _ _ _ _ _ hm o hkc_8 hks_9 _ _ _ hP hD hS (lv_sub hl [2, 3, 4, 5, 6] rfl)
      · replace hm := if_t c_25 hm
        refine lv_aload_n hx hb d_Law_law_442 rfl (lv_at hl 5 rfl) ?_
        refine lv_iconst (v := 0) hx hb d_Law_law_443 (by decide) ?_
        obtain ⟨h_26, hm⟩ := ck_some hm
        refine va_lald hx hb hK hP 138 1 lt_o rfl h_26 d_Law_law_444 ?_
        refine lv_iload hx hb d_Law_law_445 (lv_at hl 0 rfl) ?_
        refine lv_i2l hx hb d_Law_law_447 rfl ?_
        refine W.lcmp hx hb d_Law_law_448 ?_
        refine lv_if_eq (tgt := 454) hx hb d_Law_law_449 (by decide) (fun c_27 => ?_) (fun c_27 => ?_)
        · replace hm := if_t c_27 hm
          exact lb_Law_454 l hf hA hAs C0 hL9 dC dI cI cJ cB hK adK adV adA hE hN hX hC n rc_33 Hrc_33 _ _ _ _ _ _ _ _ _ _ _ hm o hkc_8 hks_9 _ _ _ hP hD hS (lv_sub hl [2, 3, 4, 5, 6] rfl)
        · replace hm := if_f c_27 hm
          refine lv_iconst (v := 0) hx hb d_Law_law_452 (by decide) ?_
          exact absurd (re1 hm) (by decide)
    · replace hm := if_f c_24 hm
      refine lv_iconst (v := 0) hx hb d_Law_law_435 (by decide) ?_
      exact absurd (re1 hm) (by decide)
  · replace hm := if_f c_7 hm
    have hPc : va_P (dC, dI) classes (LP4 cI cJ u o o9 xi xa fo) H := v_subP hP lt_s4
    have hDc : va_D A (LP4 cI cJ u o o9 xi xa fo) := hD.sub [0, 5, 32, 138] (by decide) rfl
    have hFc := x_free hDc hS hA
    have hKc := hK.sub (tys' := [(cI, .int), (cJ, .long)]) [0, 1] rfl
    refine xg_calli (tw_runSW (As := [.ref ((u 0)), .int x_2, .int x_4, .int x_6, .ref o9]) (rest := []) ⟨hx, hb, hml, hown, hts⟩ (c_Law_place_ok l dC dI H.size (u 0) ((u 1)) ((u 3)) ((u 4)) ((u 5)) ((u 6)) ((u 7)) ((u 8)) ((u 10)) ((u 11)) (xi 0) (xi 1) (xi 2) (xi 3) ((u 30)) ((u 31)) (xi 17) ((u 32)) ((u 33)) ((u 34)) ((u 35)) (xi 18) cI cJ (xa 20) o9 fo x_2 x_4 x_6 (fun z9 => c_7 (.inl z9)) (fun z9 => c_7 (.inr (.inl z9))) (fun z9 => c_7 (.inr (.inr (.inl z9)))) (fun z9 => c_7 (.inr (.inr (.inr (.inl z9))))) (Classical.byContradiction fun z9 => c_7 (.inr (.inr (.inr (.inr z9)))))) (tw_cwSW 5 hts (tw_GS tw_law cw_Law_place lk_Law_71 st_Law_place ini_Law) rfl rfl rfl (by decide +kernel) ⟨Nat.le_of_ble_eq_true rfl, Nat.le_of_ble_eq_true rfl⟩) ⟨fun a U g mk q => by obtain ⟨q0, q1, qP, qK, qD⟩ := q; exact ⟨q0, q1, qP, va_K.moved (u := U) (U := U.calling g mk a) (Vm.Alike.refl U.vm) qK, qD⟩, fun U hU hW => ⟨rfl, by rw [hU], by rw [hU]; exact hPc, va_K.moved hW.alike hKc, hDc.weaken (fun _ _ _ _ => trivial)⟩⟩ rfl rfl hl.1 rfl (lv_room (Nat.le_of_ble_eq_true rfl)) d_Law_law_397 ⟨show kc + 0 ≤ 601024 by omega, show ks + 0 ≤ 7293000 by omega⟩) hS (fun q _ h => hFc q h) hFc (fun kc9 ks9 r9 u9 t9 H locs ekc eks ht hvm e9 hB hz1 hk1 hS => ?_)
    have e7 : kc = kc9 := by omega
    have e8 : ks = ks9 := by omega
    subst e7 e8
    obtain ⟨hP1, hK1, hD1⟩ := hB
    rw [ht] at hP1
    have e9 : r9 = m_Law_place_r := e9
    subst e9
    obtain ⟨fo_28, efo_28⟩ : ∃ y9 : Nat → Int64, y9 = m_Law_place_w3 (xa 20) fo x_2 x_4 x_6 := ⟨_, rfl⟩
    replace hm := ob1_at efo_28 hm
    rw [← efo_28] at hP1
    obtain ⟨hP, hD⟩ := v_set (w1 := LP4 cI cJ u o o9 xi xa fo) (w2 := LP4 cI cJ u o o9 xi xa fo_28) (e1 := .inl (cJ, 1, .inr (.inl fo_28))) hP hD lt_o hk1 (v_mem lt_s4) lp_n (by simp) hP1
    rw [lt_set] at hP hD
    clear hP1 hK1 hD1 hFc hk1 hz1 hvm ht ekc eks hPc hDc hKc
    refine lv_istore (lv' := [(5, .int m_Law_place_r), (0, .ref b), (1, .ref ((u 0))), (2, .ref h), (3, .ref o9), (4, .int v4)]) hx hb d_Law_law_400 hl (by decide) rfl (fun ls hl => ?_)
    refine lv_aload_n hx hb d_Law_law_402 rfl (lv_at hl 3 rfl) ?_
    refine lv_aload_n hx hb d_Law_law_403 rfl (lv_at hl 1 rfl) ?_
    refine lv_iload hx hb d_Law_law_404 (lv_at hl 5 rfl) ?_
    refine lv_iconst (v := 1) hx hb d_Law_law_406 (by decide) ?_
    refine lv_iadd hx hb d_Law_law_407 ?_
    obtain ⟨h_29, hm⟩ := ck_some hm
    refine va_sld hx hb hC.1 hC.2.1 hC.2.2.1 hS h_29 d_Law_law_408 ?_
    refine lv_topi (fun x_30 ex_30 => ?_)
    replace hm := ob1_at ex_30 hm
    refine lv_aload_n hx hb d_Law_law_409 rfl (lv_at hl 1 rfl) ?_
    refine lv_iload hx hb d_Law_law_410 (lv_at hl 5 rfl) ?_
    refine lv_iconst (v := 2) hx hb d_Law_law_412 (by decide) ?_
    refine lv_iadd hx hb d_Law_law_413 ?_
    obtain ⟨h_31, hm⟩ := ck_some hm
    refine va_sld hx hb hC.1 hC.2.1 hC.2.2.1 hS h_31 d_Law_law_414 ?_
    refine lv_topi (fun x_32 ex_32 => ?_)
    replace hm := ob1_at ex_32 hm
    refine lv_aload_n hx hb d_Law_law_415 rfl (lv_at hl 1 rfl) ?_
    refine lv_iload hx hb d_Law_law_416 (lv_at hl 5 rfl) ?_
    refine lv_iconst (v := 3) hx hb d_Law_law_418 (by decide) ?_
    refine lv_iadd hx hb d_Law_law_419 ?_
    obtain ⟨h_33, hm⟩ := ck_some hm
    refine va_sld hx hb hC.1 hC.2.1 hC.2.2.1 hS h_33 d_Law_law_420 ?_
    refine lv_topi (fun x_34 ex_34 => ?_)
    replace hm := ob1_at ex_34 hm
    obtain ⟨mi_37, mj_38, ma_39, mb_40, r_36, h_35, hm⟩ := om_some hm
    obtain ⟨hPc, hDc⟩ := v_part hP hD
    have hFc := x_free hDc hS hA
    refine xg_calli (va_runV (As := [.int x_30, .int x_32, .int x_34]) (rest := []) ⟨hx, hb, hml, hown, hts⟩ (x_Model_place l dC dI cI cJ cB adK adV adA h v H.size n h_35) (cwV 3 hts (tw_GV tw_law cw_Model_place lk_Law_74 in_Model_place sel_Model_place ini_Model) rfl rfl rfl ⟨rfl, hd_Model_place⟩ ⟨Nat.le_of_ble_eq_true rfl, Nat.le_of_ble_eq_true rfl⟩) (ypV hK hPc hDc hS hE hFc yo_12 rfl) rfl rfl hl.1 rfl (lv_room (Nat.le_of_ble_eq_true rfl)) d_Law_law_421 ⟨show kc + 0 ≤ 601024 by omega, show ks + 0 ≤ 7293000 by omega⟩) hS (fun q _ h => hFc q h) hFc (fun kc9 ks9 r9 u9 t9 H locs ekc eks ht hvm e9 hB hz1 hk1 hS => ?_)
    have e7 : kc = kc9 := by omega
    have e8 : ks = ks9 := by omega
    subst e7 e8
    have e9 : r_36 = r9 := e9
    subst e9
    obtain ⟨hP1, hD1⟩ := y_aft hB ht (fun _ h9 => h9)
    obtain ⟨hP, hD⟩ := v_back hP hD hk1 hFc hP1 hD1
    clear hP1 hD1
    clear hFc hk1 hz1 hvm hB ht ekc eks hPc hDc
    refine lv_istore (lv' := [(6, .int r_36), (5, .int m_Law_place_r), (0, .ref b), (1, .ref ((u 0))), (2, .ref h), (3, .ref o9), (4, .int v4)]) hx hb d_Law_law_424 hl (by decide) rfl (fun ls hl => ?_)
    refine lv_aload_n hx hb d_Law_law_426 rfl (lv_at hl 4 rfl) ?_
    obtain ⟨r_42, h_41, hm⟩ := ob0_some hm
    obtain ⟨hPc, hDc⟩ := v_part hP hD
    have hFc := x_free0 hS hA
    refine xg_calli (va_runV (As := []) (rest := []) ⟨hx, hb, hml, hown, hts⟩ (x_Model_thrown l dC dI cI cJ cB adK adV adA h v H.size n h_41) (cwV 0 hts (tw_GV tw_law cw_Model_thrown lk_Law_75 in_Model_thrown sel_Model_thrown ini_Model) rfl rfl rfl ⟨rfl, hd_Model_thrown⟩ ⟨Nat.le_of_ble_eq_true rfl, Nat.le_of_ble_eq_true rfl⟩) (ypVr hK hPc hS hE hFc yo_12 rfl) rfl rfl hl.1 rfl (lv_room (Nat.le_of_ble_eq_true rfl)) d_Law_law_427 ⟨show kc + 0 ≤ 601024 by omega, show ks + 0 ≤ 7293000 by omega⟩) hS (fun q _ h => hFc q h) hFc (fun kc9 ks9 r9 u9 t9 H locs ekc eks ht hvm e9 hB hz1 hk1 hS => ?_)
    have e7 : kc = kc9 := by omega
    have e8 : ks = ks9 := by omega
    subst e7 e8
    have e9 : r_42 = r9 := e9
    subst e9
    replace hP := x_keep hP hk1
    clear hFc hk1 hz1 hvm hB ht ekc eks hPc hDc
    refine lv_iload hx hb d_Law_law_430 (lv_at hl 1 rfl) ?_
    refine lv_icmp_eq (tgt := 437) hx hb d_Law_law_432 (by decide) (fun c_43 => ?_) (fun c_43 => ?_)
    · replace hm := if_t c_43 hm
      refine lv_iload hx hb d_Law_law_437 (lv_at hl 1 rfl) ?_
      refine lv_if_ne (tgt := 454) hx hb d_Law_law_439 (by decide) (fun c_44 => ?_) (fun c_44 => ?_)
      · replace hm := if_f c_44 hm
        exact lb_Law_454 l hf hA hAs C0 hL9 dC dI cI cJ cB hK adK adV adA hE hN hX hC n rc_33 Hrc_33 _ _ _ _ _ _ _ _ _ _ _ hm o hkc hks _ _ _ hP hD hS (lv_sub hl [2, 3, 4, 5, 6] rfl)
      · replace hm := if_t c_44 hm
        refine lv_aload_n hx hb d_Law_law_442 rfl (lv_at hl 5 rfl) ?_
        refine lv_iconst (v := 0) hx hb d_Law_law_443 (by decide) ?_
        obtain ⟨h_45, hm⟩ := ck_some hm
        refine va_lald hx hb hK hP 138 1 lt_o rfl h_45 d_Law_law_444 ?_
        refine lv_iload hx hb d_Law_law_445 (lv_at hl 0 rfl) ?_
        refine lv_i2l hx hb d_Law_law_447 rfl ?_
        refine W.lcmp hx hb d_Law_law_448 ?_
        refine lv_if_eq (tgt := 454) hx hb d_Law_law_449 (by decide) (fun c_46 => ?_) (fun c_46 => ?_)
        · replace hm := if_t c_46 hm
          exact lb_Law_454 l hf hA hAs C0 hL9 dC dI cI cJ cB hK adK adV adA hE hN hX hC n rc_33 Hrc_33 _ _ _ _ _ _ _ _ _ _ _ hm o hkc hks _ _ _ hP hD hS (lv_sub hl [2, 3, 4, 5, 6] rfl)
        · replace hm := if_f c_46 hm
          refine lv_iconst (v := 0) hx hb d_Law_law_452 (by decide) ?_
          exact absurd (re1 hm) (by decide)
    · replace hm := if_f c_43 hm
      refine lv_iconst (v := 0) hx hb d_Law_law_435 (by decide) ?_
      exact absurd (re1 hm) (by decide)
def m_Law_b534 (n L : Nat) (xs : Nat → Int32) (rc_33 : (Nat → Int32) → (Nat → Nat → Int32) → (Nat → Nat) → (Nat → Int32) → (Nat → Int64) → (Nat → Nat → Int32) → (Nat → Nat → Int64) → (Nat → Int64) → (Nat) → (Nat) → Int32 → Option (Int32)) (xi : Nat → Int32) (xa : Nat → Nat → Int32) (xg : Nat → Nat) (mi : Nat → Int32) (mj : Nat → Int64) (ma : Nat → Nat → Int32) (mb : Nat → Nat → Int64) (fo : Nat → Int64) (kc : Nat) (ks : Nat) (v4 : Int32) : Option (Int32) := m_Law_b797 n L xs rc_33 xi xa xg mi mj ma mb fo kc ks v4
set_option maxHeartbeats 4000000 in
set_option maxRecDepth 100000 in
theorem lb_Law_534 {p : Program} {e : Env} {s : State} {m : MethodId} {below : List Frame} {meth : Method} {c : Code} (l : Launch) (hf : l.flags = pinnedFlags ++ [noTraceFlag]) {b L : Nat} {xs : Nat → Int32} {A : Nat → Prop} (hA : ∀ q, s.heap.size ≤ q → A q) (hAs : ∀ q, A q → s.heap.size ≤ q) (C0 : lw_At p s m meth c b L xs) (hL9 : L < 2 ^ 31) (dC : Nat → ClassId) (dI : Nat → Nat → Nat) (cI cJ cB : ClassId) (hK : va_K (dC, dI) classes [(cI, .int), (cJ, .long), (cB, .byte)] s) (adK adV adA : Nat → Nat) (hE : tw_E adK adV adA A s s.heap) (hN : tw_N A s s.heap) (hX : tw_X A s s.heap) (hC : tw_scr b L xs A s s.heap) (n : Nat) {u : Nat → Nat} {h : Nat} {v : Nat → Nat} {o9 : Nat} (rc_33 : (Nat → Int32) → (Nat → Nat → Int32) → (Nat → Nat) → (Nat → Int32) → (Nat → Int64) → (Nat → Nat → Int32) → (Nat → Nat → Int64) → (Nat → Int64) → (Nat) → (Nat) → Int32 → Option (Int32)) (Hrc_33 : ∀ (xi : Nat → Int32) (xa : Nat → Nat → Int32) (xg : Nat → Nat) (mi : Nat → Int32) (mj : Nat → Int64) (ma : Nat → Nat → Int32) (mb : Nat → Nat → Int64) (fo : Nat → Int64) (kc : Nat) (ks : Nat) (v4 : Int32), rc_33 xi xa xg mi mj ma mb fo kc ks v4 = some (1 : Int32) → ∀ (o : Nat → Nat), kc ≤ 601024 → ks ≤ 7293000 → ∀ (H : Heap) (locs : List Loc) (ls : Array Slot), va_P (dC, dI) classes (LT cI cJ cB u o h v o9 xi xa xg mi mj ma mb fo) H → va_D A (LT cI cJ cB u o h v o9 xi xa xg mi mj ma mb fo) → va_S A s.heap H locs → lv_has ls 7 [(0, .ref b), (1, .ref ((u 0))), (2, .ref h), (3, .ref o9), (4, .int v4)] → W p l e room_1 s m #[Value.ref b] below meth c H locs kc ks (lw_Z below #[Value.ref b] s) (F0 m 33 ls [])) (xi : Nat → Int32) (xa : Nat → Nat → Int32) (xg : Nat → Nat) (mi : Nat → Int32) (mj : Nat → Int64) (ma : Nat → Nat → Int32) (mb : Nat → Nat → Int64) (fo : Nat → Int64) (kc : Nat) (ks : Nat) (v4 : Int32) (hm : m_Law_b534 n L xs rc_33 xi xa xg mi mj ma mb fo kc ks v4 = some (1 : Int32)) : ∀ (o : Nat → Nat), kc ≤ 601024 → ks ≤ 7293000 → ∀ (H : Heap) (locs : List Loc) (ls : Array Slot), va_P (dC, dI) classes (LT cI cJ cB u o h v o9 xi xa xg mi mj ma mb fo) H → va_D A (LT cI cJ cB u o h v o9 xi xa xg mi mj ma mb fo) → va_S A s.heap H locs → lv_has ls 7 [(0, .ref b), (1, .ref ((u 0))), (2, .ref h), (3, .ref o9), (4, .int v4)] → W p l e room_1 s m #[Value.ref b] below meth c H locs kc ks (lw_Z below #[Value.ref b] s) (F0 m 534 ls []) := by
  obtain ⟨hx, hb, hr, hml, hown, hts, hXs, hbl, hlocks, hgv⟩ := id C0
  have htt : ∀ w ∈ tw_T, w.before #[Value.ref b] s = true := fun w h => hts w (tw_law w h)
  intro o hkc hks H locs ls hP hD hS hl
  rw [m_Law_b534] at hm
  refine lv_goto (tgt := 797) hx hb d_Law_law_534 (by decide) ?_
  exact lb_Law_797 l hf hA hAs C0 hL9 dC dI cI cJ cB hK adK adV adA hE hN hX hC n rc_33 Hrc_33 _ _ _ _ _ _ _ _ _ _ _ hm o hkc hks _ _ _ hP hD hS (lv_sub hl [0, 1, 2, 3, 4] rfl)
def m_Law_b457 (n L : Nat) (xs : Nat → Int32) (rc_33 : (Nat → Int32) → (Nat → Nat → Int32) → (Nat → Nat) → (Nat → Int32) → (Nat → Int64) → (Nat → Nat → Int32) → (Nat → Nat → Int64) → (Nat → Int64) → (Nat) → (Nat) → Int32 → Option (Int32)) (xi : Nat → Int32) (xa : Nat → Nat → Int32) (xg : Nat → Nat) (mi : Nat → Int32) (mj : Nat → Int64) (ma : Nat → Nat → Int32) (mb : Nat → Nat → Int64) (fo : Nat → Int64) (kc : Nat) (ks : Nat) (v4 : Int32) : Option (Int32) := ck ((v4 + 1)) L (ob1 (xs (v4 + 1).toNatClampNeg : Int32) (fun x_2 => ck ((v4 + 2)) L (ob1 (xs (v4 + 2).toNatClampNeg : Int32) (fun x_4 => ck ((v4 + 3)) L (ob1 (xs (v4 + 3).toNatClampNeg : Int32) (fun x_6 => if ts_exists x_2 = 0 ∨ x_4 < 0 ∨ ¬ x_4 ≤ 1 then ob1 (kc + 1) (fun kc_8 => ob1 (ks + 6) (fun ks_9 => cr kc_8 ks_9 (ck ((v4 + 1)) L (ob1 (xs (v4 + 1).toNatClampNeg : Int32) (fun x_11 => ck ((v4 + 2)) L (ob1 (xs (v4 + 2).toNatClampNeg : Int32) (fun x_13 => ck ((v4 + 3)) L (ob1 (xs (v4 + 3).toNatClampNeg : Int32) (fun x_15 => om (m_Model_side n mi mj ma mb x_11 x_13 x_15) (fun mi_18 mj_19 ma_20 mb_21 r_17 => ob0 (m_Model_thrown n mi_18 mj_19 ma_20 mb_21) (fun r_23 => if r_23 = ((1 : Int32)) then if ((1 : Int32)) = ((0 : Int32)) then ck ((0 : Int32)) 1 (if ((lg_cmp (fo (0 : Int32).toNatClampNeg) r_17.toInt64)) = ((0 : Int32)) then m_Law_b534 n L xs rc_33 xi xa xg mi_18 mj_19 ma_20 mb_21 fo kc_8 ks_9 v4 else some 0) else m_Law_b534 n L xs rc_33 xi xa xg mi_18 mj_19 ma_20 mb_21 fo kc_8 ks_9 v4 else some 0))))))))))) else ob1 (m_Law_side_w3 (xa 20) fo x_2 x_4 x_6) (fun fo_28 => ck ((v4 + 1)) L (ob1 (xs (v4 + 1).toNatClampNeg : Int32) (fun x_30 => ck ((v4 + 2)) L (ob1 (xs (v4 + 2).toNatClampNeg : Int32) (fun x_32 => ck ((v4 + 3)) L (ob1 (xs (v4 + 3).toNatClampNeg : Int32) (fun x_34 => om (m_Model_side n mi mj ma mb x_30 x_32 x_34) (fun mi_37 mj_38 ma_39 mb_40 r_36 => ob0 (m_Model_thrown n mi_37 mj_38 ma_39 mb_40) (fun r_42 => if r_42 = m_Law_side_r then if m_Law_side_r = ((0 : Int32)) then ck ((0 : Int32)) 1 (if ((lg_cmp (fo_28 (0 : Int32).toNatClampNeg) r_36.toInt64)) = ((0 : Int32)) then m_Law_b534 n L xs rc_33 xi xa xg mi_37 mj_38 ma_39 mb_40 fo_28 kc ks v4 else some 0) else m_Law_b534 n L xs rc_33 xi xa xg mi_37 mj_38 ma_39 mb_40 fo_28 kc ks v4 else some 0)))))))))))))))
set_option maxHeartbeats 4000000 in
set_option maxRecDepth 100000 in
theorem lb_Law_457 {p : Program} {e : Env} {s : State} {m : MethodId} {below : List Frame} {meth : Method} {c : Code} (l : Launch) (hf : l.flags = pinnedFlags ++ [noTraceFlag]) {b L : Nat} {xs : Nat → Int32} {A : Nat → Prop} (hA : ∀ q, s.heap.size ≤ q → A q) (hAs : ∀ q, A q → s.heap.size ≤ q) (C0 : lw_At p s m meth c b L xs) (hL9 : L < 2 ^ 31) (dC : Nat → ClassId) (dI : Nat → Nat → Nat) (cI cJ cB : ClassId) (hK : va_K (dC, dI) classes [(cI, .int), (cJ, .long), (cB, .byte)] s) (adK adV adA : Nat → Nat) (hE : tw_E adK adV adA A s s.heap) (hN : tw_N A s s.heap) (hX : tw_X A s s.heap) (hC : tw_scr b L xs A s s.heap) (n : Nat) {u : Nat → Nat} {h : Nat} {v : Nat → Nat} {o9 : Nat} (rc_33 : (Nat → Int32) → (Nat → Nat → Int32) → (Nat → Nat) → (Nat → Int32) → (Nat → Int64) → (Nat → Nat → Int32) → (Nat → Nat → Int64) → (Nat → Int64) → (Nat) → (Nat) → Int32 → Option (Int32)) (Hrc_33 : ∀ (xi : Nat → Int32) (xa : Nat → Nat → Int32) (xg : Nat → Nat) (mi : Nat → Int32) (mj : Nat → Int64) (ma : Nat → Nat → Int32) (mb : Nat → Nat → Int64) (fo : Nat → Int64) (kc : Nat) (ks : Nat) (v4 : Int32), rc_33 xi xa xg mi mj ma mb fo kc ks v4 = some (1 : Int32) → ∀ (o : Nat → Nat), kc ≤ 601024 → ks ≤ 7293000 → ∀ (H : Heap) (locs : List Loc) (ls : Array Slot), va_P (dC, dI) classes (LT cI cJ cB u o h v o9 xi xa xg mi mj ma mb fo) H → va_D A (LT cI cJ cB u o h v o9 xi xa xg mi mj ma mb fo) → va_S A s.heap H locs → lv_has ls 7 [(0, .ref b), (1, .ref ((u 0))), (2, .ref h), (3, .ref o9), (4, .int v4)] → W p l e room_1 s m #[Value.ref b] below meth c H locs kc ks (lw_Z below #[Value.ref b] s) (F0 m 33 ls [])) (xi : Nat → Int32) (xa : Nat → Nat → Int32) (xg : Nat → Nat) (mi : Nat → Int32) (mj : Nat → Int64) (ma : Nat → Nat → Int32) (mb : Nat → Nat → Int64) (fo : Nat → Int64) (kc : Nat) (ks : Nat) (v4 : Int32) (hm : m_Law_b457 n L xs rc_33 xi xa xg mi mj ma mb fo kc ks v4 = some (1 : Int32)) : ∀ (o : Nat → Nat), kc ≤ 601024 → ks ≤ 7293000 → ∀ (H : Heap) (locs : List Loc) (ls : Array Slot), va_P (dC, dI) classes (LT cI cJ cB u o h v o9 xi xa xg mi mj ma mb fo) H → va_D A (LT cI cJ cB u o h v o9 xi xa xg mi mj ma mb fo) → va_S A s.heap H locs → lv_has ls 7 [(0, .ref b), (1, .ref ((u 0))), (2, .ref h), (3, .ref o9), (4, .int v4)] → W p l e room_1 s m #[Value.ref b] below meth c H locs kc ks (lw_Z below #[Value.ref b] s) (F0 m 457 ls []) := by
  obtain ⟨hx, hb, hr, hml, hown, hts, hXs, hbl, hlocks, hgv⟩ := id C0
  have htt : ∀ w ∈ tw_T, w.before #[Value.ref b] s = true := fun w h => hts w (tw_law w h)
  intro o hkc hks H locs ls hP hD hS hl
  rw [m_Law_b457] at hm
  refine lv_aload_n hx hb d_Law_law_457 rfl (lv_at hl 1 rfl) ?_
  refine lv_aload_n hx hb d_Law_law_458 rfl (lv_at hl 0 rfl) ?_
  refine lv_iload hx hb d_Law_law_459 (lv_at hl 4 rfl) ?_
  refine lv_iconst (v := 1) hx hb d_Law_law_461 (by decide) ?_
  refine lv_iadd hx hb d_Law_law_462 ?_
  obtain ⟨h_1, hm⟩ := ck_some hm
  refine va_sld hx hb hC.1 hC.2.1 hC.2.2.1 hS h_1 d_Law_law_463 ?_
  refine lv_topi (fun x_2 ex_2 => ?_)
  replace hm := ob1_at ex_2 hm
  refine lv_aload_n hx hb d_Law_law_464 rfl (lv_at hl 0 rfl) ?_
  refine lv_iload hx hb d_Law_law_465 (lv_at hl 4 rfl) ?_
  refine lv_iconst (v := 2) hx hb d_Law_law_467 (by decide) ?_
  refine lv_iadd hx hb d_Law_law_468 ?_
  obtain ⟨h_3, hm⟩ := ck_some hm
  refine va_sld hx hb hC.1 hC.2.1 hC.2.2.1 hS h_3 d_Law_law_469 ?_
  refine lv_topi (fun x_4 ex_4 => ?_)
  replace hm := ob1_at ex_4 hm
  refine lv_aload_n hx hb d_Law_law_470 rfl (lv_at hl 0 rfl) ?_
  refine lv_iload hx hb d_Law_law_471 (lv_at hl 4 rfl) ?_
  refine lv_iconst (v := 3) hx hb d_Law_law_473 (by decide) ?_
  refine lv_iadd hx hb d_Law_law_474 ?_
  obtain ⟨h_5, hm⟩ := ck_some hm
  refine va_sld hx hb hC.1 hC.2.1 hC.2.2.1 hS h_5 d_Law_law_475 ?_
  refine lv_topi (fun x_6 ex_6 => ?_)
  replace hm := ob1_at ex_6 hm
  refine lv_aload_n hx hb d_Law_law_476 rfl (lv_at hl 3 rfl) ?_
  rcases Classical.em (ts_exists x_2 = 0 ∨ x_4 < 0 ∨ ¬ x_4 ≤ 1) with c_7 | c_7
  · replace hm := if_t c_7 hm
    obtain ⟨kc_8, ekc_8⟩ : ∃ y9 : Nat, y9 = kc + 1 := ⟨_, rfl⟩
    replace hm := ob1_at ekc_8 hm
    obtain ⟨ks_9, eks_9⟩ : ∃ y9 : Nat, y9 = ks + 6 := ⟨_, rfl⟩
    replace hm := ob1_at eks_9 hm
    obtain ⟨hkc_8, hks_9, hm⟩ := cr_some hm
    have hPc : va_P (dC, dI) classes (LP2 cJ u o o9 xi fo) H := v_subP hP lt_s2
    have hDc : va_D A (LP2 cJ u o o9 xi fo) := hD.sub [0, 138] (by decide) rfl
    have hFc := x_free hDc hS hA
    have hKc := hK.sub (tys' := [(cI, .int), (cJ, .long)]) [0, 1] rfl
    refine xg_calli (tw_runSW (As := [.ref ((u 0)), .int x_2, .int x_4, .int x_6, .ref o9]) (rest := []) ⟨hx, hb, hml, hown, hts⟩ (c_Law_side_bad l hf dC dI H.size (u 0) ((u 1)) ((u 3)) ((u 4)) ((u 5)) ((u 6)) ((u 7)) ((u 8)) ((u 10)) ((u 11)) (xi 0) (xi 1) (xi 2) (xi 3) cI cJ o9 fo x_2 x_4 x_6 c_7) (tw_cwSW 5 hts (tw_GS tw_law cw_Law_side lk_Law_78 st_Law_side ini_Law) rfl rfl rfl (by decide +kernel) ⟨Nat.le_of_ble_eq_true rfl, Nat.le_of_ble_eq_true rfl⟩) ⟨fun a U g mk q => by obtain ⟨q0, q1, qP, qK, qD, qX⟩ := q; exact ⟨q0, q1, qP, va_K.moved (u := U) (U := U.calling g mk a) (Vm.Alike.refl U.vm) qK, qD, tw_X.blind qX⟩, fun U hU hW => ⟨rfl, by rw [hU], by rw [hU]; exact hPc, va_K.moved hW.alike hKc, hDc.weaken (fun _ _ _ _ => trivial), tw_X.pass hX hS hFc hW hU⟩⟩ rfl rfl hl.1 rfl (lv_room (Nat.le_of_ble_eq_true rfl)) d_Law_law_477 ⟨show kc + 1 ≤ 601024 by omega, show ks + 6 ≤ 7293000 by omega⟩) hS (fun q _ h => hFc q h) hFc (fun kc9 ks9 r9 u9 t9 H locs ekc eks ht hvm e9 hB hz1 hk1 hS => ?_)
    have e7 : kc_8 = kc9 := by omega
    have e8 : ks_9 = ks9 := by omega
    subst e7 e8
    obtain ⟨hP1, hK1, hD1⟩ := hB
    rw [ht] at hP1
    have e9 : r9 = 1 := e9
    subst e9
    replace hP := v_same (w1 := LP2 cJ u o o9 xi fo) hP hk1 hD (v_mem lt_s2) hP1
    clear hP1 hK1 hD1 hFc hk1 hz1 hvm ht ekc eks hPc hDc hKc
    refine lv_istore (lv' := [(5, .int 1), (0, .ref b), (1, .ref ((u 0))), (2, .ref h), (3, .ref o9), (4, .int v4)]) hx hb d_Law_law_480 hl (by decide) rfl (fun ls hl => ?_)
    refine lv_aload_n hx hb d_Law_law_482 rfl (lv_at hl 3 rfl) ?_
    refine lv_aload_n hx hb d_Law_law_483 rfl (lv_at hl 1 rfl) ?_
    refine lv_iload hx hb d_Law_law_484 (lv_at hl 5 rfl) ?_
    refine lv_iconst (v := 1) hx hb d_Law_law_486 (by decide) ?_
    refine lv_iadd hx hb d_Law_law_487 ?_
    obtain ⟨h_10, hm⟩ := ck_some hm
    refine va_sld hx hb hC.1 hC.2.1 hC.2.2.1 hS h_10 d_Law_law_488 ?_
    refine lv_topi (fun x_11 ex_11 => ?_)
    replace hm := ob1_at ex_11 hm
    refine lv_aload_n hx hb d_Law_law_489 rfl (lv_at hl 1 rfl) ?_
    refine lv_iload hx hb d_Law_law_490 (lv_at hl 5 rfl) ?_
    refine lv_iconst (v := 2) hx hb d_Law_law_492 (by decide) ?_
    refine lv_iadd hx hb d_Law_law_493 ?_
    obtain ⟨h_12, hm⟩ := ck_some hm
    refine va_sld hx hb hC.1 hC.2.1 hC.2.2.1 hS h_12 d_Law_law_494 ?_
    refine lv_topi (fun x_13 ex_13 => ?_)
    replace hm := ob1_at ex_13 hm
    refine lv_aload_n hx hb d_Law_law_495 rfl (lv_at hl 1 rfl) ?_
    refine lv_iload hx hb d_Law_law_496 (lv_at hl 5 rfl) ?_
    refine lv_iconst (v := 3) hx hb d_Law_law_498 (by decide) ?_
    refine lv_iadd hx hb d_Law_law_499 ?_
    obtain ⟨h_14, hm⟩ := ck_some hm
    refine va_sld hx hb hC.1 hC.2.1 hC.2.2.1 hS h_14 d_Law_law_500 ?_
    refine lv_topi (fun x_15 ex_15 => ?_)
    replace hm := ob1_at ex_15 hm
    obtain ⟨mi_18, mj_19, ma_20, mb_21, r_17, h_16, hm⟩ := om_some hm
    obtain ⟨hPc, hDc⟩ := v_part hP hD
    have hFc := x_free hDc hS hA
    refine xg_calli (va_runV (As := [.int x_11, .int x_13, .int x_15]) (rest := []) ⟨hx, hb, hml, hown, hts⟩ (x_Model_side l dC dI cI cJ cB adK adV adA h v H.size n h_16) (cwV 3 hts (tw_GV tw_law cw_Model_side lk_Law_80 in_Model_side sel_Model_side ini_Model) rfl rfl rfl ⟨rfl, hd_Model_side⟩ ⟨Nat.le_of_ble_eq_true rfl, Nat.le_of_ble_eq_true rfl⟩) (ypV hK hPc hDc hS hE hFc yo_12 rfl) rfl rfl hl.1 rfl (lv_room (Nat.le_of_ble_eq_true rfl)) d_Law_law_501 ⟨show kc_8 + 0 ≤ 601024 by omega, show ks_9 + 0 ≤ 7293000 by omega⟩) hS (fun q _ h => hFc q h) hFc (fun kc9 ks9 r9 u9 t9 H locs ekc eks ht hvm e9 hB hz1 hk1 hS => ?_)
    have e7 : kc_8 = kc9 := by omega
    have e8 : ks_9 = ks9 := by omega
    subst e7 e8
    have e9 : r_17 = r9 := e9
    subst e9
    obtain ⟨hP1, hD1⟩ := y_aft hB ht (fun _ h9 => h9)
    obtain ⟨hP, hD⟩ := v_back hP hD hk1 hFc hP1 hD1
    clear hP1 hD1
    clear hFc hk1 hz1 hvm hB ht ekc eks hPc hDc
    refine lv_istore (lv' := [(6, .int r_17), (5, .int 1), (0, .ref b), (1, .ref ((u 0))), (2, .ref h), (3, .ref o9), (4, .int v4)]) hx hb d_Law_law_504 hl (by decide) rfl (fun ls hl => ?_)
    refine lv_aload_n hx hb d_Law_law_506 rfl (lv_at hl 4 rfl) ?_
    obtain ⟨r_23, h_22, hm⟩ := ob0_some hm
    obtain ⟨hPc, hDc⟩ := v_part hP hD
    have hFc := x_free0 hS hA
    refine xg_calli (va_runV (As := []) (rest := []) ⟨hx, hb, hml, hown, hts⟩ (x_Model_thrown l dC dI cI cJ cB adK adV adA h v H.size n h_22) (cwV 0 hts (tw_GV tw_law cw_Model_thrown lk_Law_75 in_Model_thrown sel_Model_thrown ini_Model) rfl rfl rfl ⟨rfl, hd_Model_thrown⟩ ⟨Nat.le_of_ble_eq_true rfl, Nat.le_of_ble_eq_true rfl⟩) (ypVr hK hPc hS hE hFc yo_12 rfl) rfl rfl hl.1 rfl (lv_room (Nat.le_of_ble_eq_true rfl)) d_Law_law_507 ⟨show kc_8 + 0 ≤ 601024 by omega, show ks_9 + 0 ≤ 7293000 by omega⟩) hS (fun q _ h => hFc q h) hFc (fun kc9 ks9 r9 u9 t9 H locs ekc eks ht hvm e9 hB hz1 hk1 hS => ?_)
    have e7 : kc_8 = kc9 := by omega
    have e8 : ks_9 = ks9 := by omega
    subst e7 e8
    have e9 : r_23 = r9 := e9
    subst e9
    replace hP := x_keep hP hk1
    clear hFc hk1 hz1 hvm hB ht ekc eks hPc hDc
    refine lv_iload hx hb d_Law_law_510 (lv_at hl 1 rfl) ?_
    refine lv_icmp_eq (tgt := 517) hx hb d_Law_law_512 (by decide) (fun c_24 => ?_) (fun c_24 => ?_)
    · replace hm := if_t c_24 hm
      refine lv_iload hx hb d_Law_law_517 (lv_at hl 1 rfl) ?_
      refine lv_if_ne (tgt := 534) hx hb d_Law_law_519 (by decide) (fun c_25 => ?_) (fun c_25 => ?_)
      · replace hm := if_f c_25 hm
        exact lb_Law_534 l hf hA hAs C0 hL9 dC dI cI cJ cB hK adK adV adA hE hN hX hC n rc_33 Hrc_33 _ _ _ _ _ _ _ _ _ _ _ hm o hkc_8 hks_9 _ _ _ hP hD hS (lv_sub hl [2, 3, 4, 5, 6] rfl)
      · replace hm := if_t c_25 hm
        refine lv_aload_n hx hb d_Law_law_522 rfl (lv_at hl 5 rfl) ?_
        refine lv_iconst (v := 0) hx hb d_Law_law_523 (by decide) ?_
        obtain ⟨h_26, hm⟩ := ck_some hm
        refine va_lald hx hb hK hP 138 1 lt_o rfl h_26 d_Law_law_524 ?_
        refine lv_iload hx hb d_Law_law_525 (lv_at hl 0 rfl) ?_
        refine lv_i2l hx hb d_Law_law_527 rfl ?_
        refine W.lcmp hx hb d_Law_law_528 ?_
        refine lv_if_eq (tgt := 534) hx hb d_Law_law_529 (by decide) (fun c_27 => ?_) (fun c_27 => ?_)
        · replace hm := if_t c_27 hm
          exact lb_Law_534 l hf hA hAs C0 hL9 dC dI cI cJ cB hK adK adV adA hE hN hX hC n rc_33 Hrc_33 _ _ _ _ _ _ _ _ _ _ _ hm o hkc_8 hks_9 _ _ _ hP hD hS (lv_sub hl [2, 3, 4, 5, 6] rfl)
        · replace hm := if_f c_27 hm
          refine lv_iconst (v := 0) hx hb d_Law_law_532 (by decide) ?_
          exact absurd (re1 hm) (by decide)
    · replace hm := if_f c_24 hm
      refine lv_iconst (v := 0) hx hb d_Law_law_515 (by decide) ?_
      exact absurd (re1 hm) (by decide)
  · replace hm := if_f c_7 hm
    have hPc : va_P (dC, dI) classes (LP4 cI cJ u o o9 xi xa fo) H := v_subP hP lt_s4
    have hDc : va_D A (LP4 cI cJ u o o9 xi xa fo) := hD.sub [0, 5, 32, 138] (by decide) rfl
    have hFc := x_free hDc hS hA
    have hKc := hK.sub (tys' := [(cI, .int), (cJ, .long)]) [0, 1] rfl
    refine xg_calli (tw_runSW (As := [.ref ((u 0)), .int x_2, .int x_4, .int x_6, .ref o9]) (rest := []) ⟨hx, hb, hml, hown, hts⟩ (c_Law_side_ok l dC dI H.size (u 0) ((u 1)) ((u 3)) ((u 4)) ((u 5)) ((u 6)) ((u 7)) ((u 8)) ((u 10)) ((u 11)) (xi 0) (xi 1) (xi 2) (xi 3) ((u 30)) ((u 31)) (xi 17) ((u 32)) ((u 33)) ((u 34)) ((u 35)) (xi 18) cI cJ (xa 20) o9 fo x_2 x_4 x_6 (fun z9 => c_7 (.inl z9)) (fun z9 => c_7 (.inr (.inl z9))) (Classical.byContradiction fun z9 => c_7 (.inr (.inr z9)))) (tw_cwSW 5 hts (tw_GS tw_law cw_Law_side lk_Law_78 st_Law_side ini_Law) rfl rfl rfl (by decide +kernel) ⟨Nat.le_of_ble_eq_true rfl, Nat.le_of_ble_eq_true rfl⟩) ⟨fun a U g mk q => by obtain ⟨q0, q1, qP, qK, qD⟩ := q; exact ⟨q0, q1, qP, va_K.moved (u := U) (U := U.calling g mk a) (Vm.Alike.refl U.vm) qK, qD⟩, fun U hU hW => ⟨rfl, by rw [hU], by rw [hU]; exact hPc, va_K.moved hW.alike hKc, hDc.weaken (fun _ _ _ _ => trivial)⟩⟩ rfl rfl hl.1 rfl (lv_room (Nat.le_of_ble_eq_true rfl)) d_Law_law_477 ⟨show kc + 0 ≤ 601024 by omega, show ks + 0 ≤ 7293000 by omega⟩) hS (fun q _ h => hFc q h) hFc (fun kc9 ks9 r9 u9 t9 H locs ekc eks ht hvm e9 hB hz1 hk1 hS => ?_)
    have e7 : kc = kc9 := by omega
    have e8 : ks = ks9 := by omega
    subst e7 e8
    obtain ⟨hP1, hK1, hD1⟩ := hB
    rw [ht] at hP1
    have e9 : r9 = m_Law_side_r := e9
    subst e9
    obtain ⟨fo_28, efo_28⟩ : ∃ y9 : Nat → Int64, y9 = m_Law_side_w3 (xa 20) fo x_2 x_4 x_6 := ⟨_, rfl⟩
    replace hm := ob1_at efo_28 hm
    rw [← efo_28] at hP1
    obtain ⟨hP, hD⟩ := v_set (w1 := LP4 cI cJ u o o9 xi xa fo) (w2 := LP4 cI cJ u o o9 xi xa fo_28) (e1 := .inl (cJ, 1, .inr (.inl fo_28))) hP hD lt_o hk1 (v_mem lt_s4) lp_n (by simp) hP1
    rw [lt_set] at hP hD
    clear hP1 hK1 hD1 hFc hk1 hz1 hvm ht ekc eks hPc hDc hKc
    refine lv_istore (lv' := [(5, .int m_Law_side_r), (0, .ref b), (1, .ref ((u 0))), (2, .ref h), (3, .ref o9), (4, .int v4)]) hx hb d_Law_law_480 hl (by decide) rfl (fun ls hl => ?_)
    refine lv_aload_n hx hb d_Law_law_482 rfl (lv_at hl 3 rfl) ?_
    refine lv_aload_n hx hb d_Law_law_483 rfl (lv_at hl 1 rfl) ?_
    refine lv_iload hx hb d_Law_law_484 (lv_at hl 5 rfl) ?_
    refine lv_iconst (v := 1) hx hb d_Law_law_486 (by decide) ?_
    refine lv_iadd hx hb d_Law_law_487 ?_
    obtain ⟨h_29, hm⟩ := ck_some hm
    refine va_sld hx hb hC.1 hC.2.1 hC.2.2.1 hS h_29 d_Law_law_488 ?_
    refine lv_topi (fun x_30 ex_30 => ?_)
    replace hm := ob1_at ex_30 hm
    refine lv_aload_n hx hb d_Law_law_489 rfl (lv_at hl 1 rfl) ?_
    refine lv_iload hx hb d_Law_law_490 (lv_at hl 5 rfl) ?_
    refine lv_iconst (v := 2) hx hb d_Law_law_492 (by decide) ?_
    refine lv_iadd hx hb d_Law_law_493 ?_
    obtain ⟨h_31, hm⟩ := ck_some hm
    refine va_sld hx hb hC.1 hC.2.1 hC.2.2.1 hS h_31 d_Law_law_494 ?_
    refine lv_topi (fun x_32 ex_32 => ?_)
    replace hm := ob1_at ex_32 hm
    refine lv_aload_n hx hb d_Law_law_495 rfl (lv_at hl 1 rfl) ?_
    refine lv_iload hx hb d_Law_law_496 (lv_at hl 5 rfl) ?_
    refine lv_iconst (v := 3) hx hb d_Law_law_498 (by decide) ?_
    refine lv_iadd hx hb d_Law_law_499 ?_
    obtain ⟨h_33, hm⟩ := ck_some hm
    refine va_sld hx hb hC.1 hC.2.1 hC.2.2.1 hS h_33 d_Law_law_500 ?_
    refine lv_topi (fun x_34 ex_34 => ?_)
    replace hm := ob1_at ex_34 hm
    obtain ⟨mi_37, mj_38, ma_39, mb_40, r_36, h_35, hm⟩ := om_some hm
    obtain ⟨hPc, hDc⟩ := v_part hP hD
    have hFc := x_free hDc hS hA
    refine xg_calli (va_runV (As := [.int x_30, .int x_32, .int x_34]) (rest := []) ⟨hx, hb, hml, hown, hts⟩ (x_Model_side l dC dI cI cJ cB adK adV adA h v H.size n h_35) (cwV 3 hts (tw_GV tw_law cw_Model_side lk_Law_80 in_Model_side sel_Model_side ini_Model) rfl rfl rfl ⟨rfl, hd_Model_side⟩ ⟨Nat.le_of_ble_eq_true rfl, Nat.le_of_ble_eq_true rfl⟩) (ypV hK hPc hDc hS hE hFc yo_12 rfl) rfl rfl hl.1 rfl (lv_room (Nat.le_of_ble_eq_true rfl)) d_Law_law_501 ⟨show kc + 0 ≤ 601024 by omega, show ks + 0 ≤ 7293000 by omega⟩) hS (fun q _ h => hFc q h) hFc (fun kc9 ks9 r9 u9 t9 H locs ekc eks ht hvm e9 hB hz1 hk1 hS => ?_)
    have e7 : kc = kc9 := by omega
    have e8 : ks = ks9 := by omega
    subst e7 e8
    have e9 : r_36 = r9 := e9
    subst e9
    obtain ⟨hP1, hD1⟩ := y_aft hB ht (fun _ h9 => h9)
    obtain ⟨hP, hD⟩ := v_back hP hD hk1 hFc hP1 hD1
    clear hP1 hD1
    clear hFc hk1 hz1 hvm hB ht ekc eks hPc hDc
    refine lv_istore (lv' := [(6, .int r_36), (5, .int m_Law_side_r), (0, .ref b), (1, .ref ((u 0))), (2, .ref h), (3, .ref o9), (4, .int v4)]) hx hb d_Law_law_504 hl (by decide) rfl (fun ls hl => ?_)
    refine lv_aload_n hx hb d_Law_law_506 rfl (lv_at hl 4 rfl) ?_
    obtain ⟨r_42, h_41, hm⟩ := ob0_some hm
    obtain ⟨hPc, hDc⟩ := v_part hP hD
    have hFc := x_free0 hS hA
    refine xg_calli (va_runV (As := []) (rest := []) ⟨hx, hb, hml, hown, hts⟩ (x_Model_thrown l dC dI cI cJ cB adK adV adA h v H.size n h_41) (cwV 0 hts (tw_GV tw_law cw_Model_thrown lk_Law_75 in_Model_thrown sel_Model_thrown ini_Model) rfl rfl rfl ⟨rfl, hd_Model_thrown⟩ ⟨Nat.le_of_ble_eq_true rfl, Nat.le_of_ble_eq_true rfl⟩) (ypVr hK hPc hS hE hFc yo_12 rfl) rfl rfl hl.1 rfl (lv_room (Nat.le_of_ble_eq_true rfl)) d_Law_law_507 ⟨show kc + 0 ≤ 601024 by omega, show ks + 0 ≤ 7293000 by omega⟩) hS (fun q _ h => hFc q h) hFc (fun kc9 ks9 r9 u9 t9 H locs ekc eks ht hvm e9 hB hz1 hk1 hS => ?_)
    have e7 : kc = kc9 := by omega
    have e8 : ks = ks9 := by omega
    subst e7 e8
    have e9 : r_42 = r9 := e9
    subst e9
    replace hP := x_keep hP hk1
    clear hFc hk1 hz1 hvm hB ht ekc eks hPc hDc
    refine lv_iload hx hb d_Law_law_510 (lv_at hl 1 rfl) ?_
    refine lv_icmp_eq (tgt := 517) hx hb d_Law_law_512 (by decide) (fun c_43 => ?_) (fun c_43 => ?_)
    · replace hm := if_t c_43 hm
      refine lv_iload hx hb d_Law_law_517 (lv_at hl 1 rfl) ?_
      refine lv_if_ne (tgt := 534) hx hb d_Law_law_519 (by decide) (fun c_44 => ?_) (fun c_44 => ?_)
      · replace hm := if_f c_44 hm
        exact lb_Law_534 l hf hA hAs C0 hL9 dC dI cI cJ cB hK adK adV adA hE hN hX hC n rc_33 Hrc_33 _ _ _ _ _ _ _ _ _ _ _ hm o hkc hks _ _ _ hP hD hS (lv_sub hl [2, 3, 4, 5, 6] rfl)
      · replace hm := if_t c_44 hm
        refine lv_aload_n hx hb d_Law_law_522 rfl (lv_at hl 5 rfl) ?_
        refine lv_iconst (v := 0) hx hb d_Law_law_523 (by decide) ?_
        obtain ⟨h_45, hm⟩ := ck_some hm
        refine va_lald hx hb hK hP 138 1 lt_o rfl h_45 d_Law_law_524 ?_
        refine lv_iload hx hb d_Law_law_525 (lv_at hl 0 rfl) ?_
        refine lv_i2l hx hb d_Law_law_527 rfl ?_
        refine W.lcmp hx hb d_Law_law_528 ?_
        refine lv_if_eq (tgt := 534) hx hb d_Law_law_529 (by decide) (fun c_46 => ?_) (fun c_46 => ?_)
        · replace hm := if_t c_46 hm
          exact lb_Law_534 l hf hA hAs C0 hL9 dC dI cI cJ cB hK adK adV adA hE hN hX hC n rc_33 Hrc_33 _ _ _ _ _ _ _ _ _ _ _ hm o hkc hks _ _ _ hP hD hS (lv_sub hl [2, 3, 4, 5, 6] rfl)
        · replace hm := if_f c_46 hm
          refine lv_iconst (v := 0) hx hb d_Law_law_532 (by decide) ?_
          exact absurd (re1 hm) (by decide)
    · replace hm := if_f c_43 hm
      refine lv_iconst (v := 0) hx hb d_Law_law_515 (by decide) ?_
      exact absurd (re1 hm) (by decide)
def m_Law_b537 (n L : Nat) (xs : Nat → Int32) (rc_33 : (Nat → Int32) → (Nat → Nat → Int32) → (Nat → Nat) → (Nat → Int32) → (Nat → Int64) → (Nat → Nat → Int32) → (Nat → Nat → Int64) → (Nat → Int64) → (Nat) → (Nat) → Int32 → Option (Int32)) (xi : Nat → Int32) (xa : Nat → Nat → Int32) (xg : Nat → Nat) (mi : Nat → Int32) (mj : Nat → Int64) (ma : Nat → Nat → Int32) (mb : Nat → Nat → Int64) (fo : Nat → Int64) (kc : Nat) (ks : Nat) (v4 : Int32) : Option (Int32) := ck ((v4 + 1)) L (ob1 (xs (v4 + 1).toNatClampNeg : Int32) (fun x_2 => ck ((v4 + 2)) L (ob1 (xs (v4 + 2).toNatClampNeg : Int32) (fun x_4 => ob0 (m_World_turtle n xg xi xa x_2 x_4) (fun r_6 => ck ((v4 + 1)) L (ob1 (xs (v4 + 1).toNatClampNeg : Int32) (fun x_8 => ck ((v4 + 2)) L (ob1 (xs (v4 + 2).toNatClampNeg : Int32) (fun x_10 => om (m_Model_turtle n mi mj ma mb x_8 x_10) (fun mi_13 mj_14 ma_15 mb_16 r_12 => if r_6 = r_12 then m_Law_b797 n L xs rc_33 xi xa xg mi_13 mj_14 ma_15 mb_16 fo kc ks v4 else some 0))))))))))
set_option maxHeartbeats 4000000 in
set_option maxRecDepth 100000 in
theorem lb_Law_537 {p : Program} {e : Env} {s : State} {m : MethodId} {below : List Frame} {meth : Method} {c : Code} (l : Launch) (hf : l.flags = pinnedFlags ++ [noTraceFlag]) {b L : Nat} {xs : Nat → Int32} {A : Nat → Prop} (hA : ∀ q, s.heap.size ≤ q → A q) (hAs : ∀ q, A q → s.heap.size ≤ q) (C0 : lw_At p s m meth c b L xs) (hL9 : L < 2 ^ 31) (dC : Nat → ClassId) (dI : Nat → Nat → Nat) (cI cJ cB : ClassId) (hK : va_K (dC, dI) classes [(cI, .int), (cJ, .long), (cB, .byte)] s) (adK adV adA : Nat → Nat) (hE : tw_E adK adV adA A s s.heap) (hN : tw_N A s s.heap) (hX : tw_X A s s.heap) (hC : tw_scr b L xs A s s.heap) (n : Nat) {u : Nat → Nat} {h : Nat} {v : Nat → Nat} {o9 : Nat} (rc_33 : (Nat → Int32) → (Nat → Nat → Int32) → (Nat → Nat) → (Nat → Int32) → (Nat → Int64) → (Nat → Nat → Int32) → (Nat → Nat → Int64) → (Nat → Int64) → (Nat) → (Nat) → Int32 → Option (Int32)) (Hrc_33 : ∀ (xi : Nat → Int32) (xa : Nat → Nat → Int32) (xg : Nat → Nat) (mi : Nat → Int32) (mj : Nat → Int64) (ma : Nat → Nat → Int32) (mb : Nat → Nat → Int64) (fo : Nat → Int64) (kc : Nat) (ks : Nat) (v4 : Int32), rc_33 xi xa xg mi mj ma mb fo kc ks v4 = some (1 : Int32) → ∀ (o : Nat → Nat), kc ≤ 601024 → ks ≤ 7293000 → ∀ (H : Heap) (locs : List Loc) (ls : Array Slot), va_P (dC, dI) classes (LT cI cJ cB u o h v o9 xi xa xg mi mj ma mb fo) H → va_D A (LT cI cJ cB u o h v o9 xi xa xg mi mj ma mb fo) → va_S A s.heap H locs → lv_has ls 7 [(0, .ref b), (1, .ref ((u 0))), (2, .ref h), (3, .ref o9), (4, .int v4)] → W p l e room_1 s m #[Value.ref b] below meth c H locs kc ks (lw_Z below #[Value.ref b] s) (F0 m 33 ls [])) (xi : Nat → Int32) (xa : Nat → Nat → Int32) (xg : Nat → Nat) (mi : Nat → Int32) (mj : Nat → Int64) (ma : Nat → Nat → Int32) (mb : Nat → Nat → Int64) (fo : Nat → Int64) (kc : Nat) (ks : Nat) (v4 : Int32) (hm : m_Law_b537 n L xs rc_33 xi xa xg mi mj ma mb fo kc ks v4 = some (1 : Int32)) : ∀ (o : Nat → Nat), kc ≤ 601024 → ks ≤ 7293000 → ∀ (H : Heap) (locs : List Loc) (ls : Array Slot), va_P (dC, dI) classes (LT cI cJ cB u o h v o9 xi xa xg mi mj ma mb fo) H → va_D A (LT cI cJ cB u o h v o9 xi xa xg mi mj ma mb fo) → va_S A s.heap H locs → lv_has ls 7 [(0, .ref b), (1, .ref ((u 0))), (2, .ref h), (3, .ref o9), (4, .int v4)] → W p l e room_1 s m #[Value.ref b] below meth c H locs kc ks (lw_Z below #[Value.ref b] s) (F0 m 537 ls []) := by
  obtain ⟨hx, hb, hr, hml, hown, hts, hXs, hbl, hlocks, hgv⟩ := id C0
  have htt : ∀ w ∈ tw_T, w.before #[Value.ref b] s = true := fun w h => hts w (tw_law w h)
  intro o hkc hks H locs ls hP hD hS hl
  rw [m_Law_b537] at hm
  refine lv_aload_n hx hb d_Law_law_537 rfl (lv_at hl 1 rfl) ?_
  refine lv_aload_n hx hb d_Law_law_538 rfl (lv_at hl 0 rfl) ?_
  refine lv_iload hx hb d_Law_law_539 (lv_at hl 4 rfl) ?_
  refine lv_iconst (v := 1) hx hb d_Law_law_541 (by decide) ?_
  refine lv_iadd hx hb d_Law_law_542 ?_
  obtain ⟨h_1, hm⟩ := ck_some hm
  refine va_sld hx hb hC.1 hC.2.1 hC.2.2.1 hS h_1 d_Law_law_543 ?_
  refine lv_topi (fun x_2 ex_2 => ?_)
  replace hm := ob1_at ex_2 hm
  refine lv_aload_n hx hb d_Law_law_544 rfl (lv_at hl 0 rfl) ?_
  refine lv_iload hx hb d_Law_law_545 (lv_at hl 4 rfl) ?_
  refine lv_iconst (v := 2) hx hb d_Law_law_547 (by decide) ?_
  refine lv_iadd hx hb d_Law_law_548 ?_
  obtain ⟨h_3, hm⟩ := ck_some hm
  refine va_sld hx hb hC.1 hC.2.1 hC.2.2.1 hS h_3 d_Law_law_549 ?_
  refine lv_topi (fun x_4 ex_4 => ?_)
  replace hm := ob1_at ex_4 hm
  obtain ⟨r_6, h_5, hm⟩ := ob0_some hm
  obtain ⟨hPc, hDc⟩ := v_partL hP hD
  have hFc := x_free0 hS hA
  have hKc := hK.sub (tys' := [(cI, .int)]) [0] rfl
  refine xg_calli (va_runV (As := [.int x_2, .int x_4]) (rest := []) ⟨hx, hb, hml, hown, hts⟩ (x_World_turtle l dC dI cI adK adV adA u o xg H.size n h_5) (cwV 2 hts (tw_GV tw_law cw_World_turtle lk_Law_81 in_World_turtle sel_World_turtle ini_World) rfl rfl rfl ⟨rfl, hd_World_turtle⟩ ⟨Nat.le_of_ble_eq_true rfl, Nat.le_of_ble_eq_true rfl⟩) (xpVr hKc hPc hS hE hFc xo_0 rfl) rfl rfl hl.1 rfl (lv_room (Nat.le_of_ble_eq_true rfl)) d_Law_law_550 ⟨show kc + 0 ≤ 601024 by omega, show ks + 0 ≤ 7293000 by omega⟩) hS (fun q _ h => hFc q h) hFc (fun kc9 ks9 r9 u9 t9 H locs ekc eks ht hvm e9 hB hz1 hk1 hS => ?_)
  have e7 : kc = kc9 := by omega
  have e8 : ks = ks9 := by omega
  subst e7 e8
  have e9 : r_6 = r9 := e9
  subst e9
  replace hP := x_keep hP hk1
  clear hFc hk1 hz1 hvm hB ht ekc eks hPc hDc hKc
  refine lv_aload_n hx hb d_Law_law_553 rfl (lv_at hl 2 rfl) ?_
  refine lv_aload_n hx hb d_Law_law_554 rfl (lv_at hl 0 rfl) ?_
  refine lv_iload hx hb d_Law_law_555 (lv_at hl 4 rfl) ?_
  refine lv_iconst (v := 1) hx hb d_Law_law_557 (by decide) ?_
  refine lv_iadd hx hb d_Law_law_558 ?_
  obtain ⟨h_7, hm⟩ := ck_some hm
  refine va_sld hx hb hC.1 hC.2.1 hC.2.2.1 hS h_7 d_Law_law_559 ?_
  refine lv_topi (fun x_8 ex_8 => ?_)
  replace hm := ob1_at ex_8 hm
  refine lv_aload_n hx hb d_Law_law_560 rfl (lv_at hl 0 rfl) ?_
  refine lv_iload hx hb d_Law_law_561 (lv_at hl 4 rfl) ?_
  refine lv_iconst (v := 2) hx hb d_Law_law_563 (by decide) ?_
  refine lv_iadd hx hb d_Law_law_564 ?_
  obtain ⟨h_9, hm⟩ := ck_some hm
  refine va_sld hx hb hC.1 hC.2.1 hC.2.2.1 hS h_9 d_Law_law_565 ?_
  refine lv_topi (fun x_10 ex_10 => ?_)
  replace hm := ob1_at ex_10 hm
  obtain ⟨mi_13, mj_14, ma_15, mb_16, r_12, h_11, hm⟩ := om_some hm
  obtain ⟨hPc, hDc⟩ := v_part hP hD
  have hFc := x_free hDc hS hA
  refine xg_calli (va_runV (As := [.int x_8, .int x_10]) (rest := [.int r_6]) ⟨hx, hb, hml, hown, hts⟩ (x_Model_turtle l dC dI cI cJ cB adK adV adA h v H.size n h_11) (cwV 2 hts (tw_GV tw_law cw_Model_turtle lk_Law_85 in_Model_turtle sel_Model_turtle ini_Model) rfl rfl rfl ⟨rfl, hd_Model_turtle⟩ ⟨Nat.le_of_ble_eq_true rfl, Nat.le_of_ble_eq_true rfl⟩) (ypV hK hPc hDc hS hE hFc yo_12 rfl) rfl rfl hl.1 rfl (lv_room (Nat.le_of_ble_eq_true rfl)) d_Law_law_566 ⟨show kc + 0 ≤ 601024 by omega, show ks + 0 ≤ 7293000 by omega⟩) hS (fun q _ h => hFc q h) hFc (fun kc9 ks9 r9 u9 t9 H locs ekc eks ht hvm e9 hB hz1 hk1 hS => ?_)
  have e7 : kc = kc9 := by omega
  have e8 : ks = ks9 := by omega
  subst e7 e8
  have e9 : r_12 = r9 := e9
  subst e9
  obtain ⟨hP1, hD1⟩ := y_aft hB ht (fun _ h9 => h9)
  obtain ⟨hP, hD⟩ := v_back hP hD hk1 hFc hP1 hD1
  clear hP1 hD1
  clear hFc hk1 hz1 hvm hB ht ekc eks hPc hDc
  refine lv_icmp_eq (tgt := 797) hx hb d_Law_law_569 (by decide) (fun c_17 => ?_) (fun c_17 => ?_)
  · replace hm := if_t c_17 hm
    exact lb_Law_797 l hf hA hAs C0 hL9 dC dI cI cJ cB hK adK adV adA hE hN hX hC n rc_33 Hrc_33 _ _ _ _ _ _ _ _ _ _ _ hm o hkc hks _ _ _ hP hD hS (lv_sub hl [0, 1, 2, 3, 4] rfl)
  · replace hm := if_f c_17 hm
    refine lv_iconst (v := 0) hx hb d_Law_law_572 (by decide) ?_
    exact absurd (re1 hm) (by decide)
def m_Law_b574 (n L : Nat) (xs : Nat → Int32) (rc_33 : (Nat → Int32) → (Nat → Nat → Int32) → (Nat → Nat) → (Nat → Int32) → (Nat → Int64) → (Nat → Nat → Int32) → (Nat → Nat → Int64) → (Nat → Int64) → (Nat) → (Nat) → Int32 → Option (Int32)) (xi : Nat → Int32) (xa : Nat → Nat → Int32) (xg : Nat → Nat) (mi : Nat → Int32) (mj : Nat → Int64) (ma : Nat → Nat → Int32) (mb : Nat → Nat → Int64) (fo : Nat → Int64) (kc : Nat) (ks : Nat) (v4 : Int32) : Option (Int32) := ck ((v4 + 1)) L (ob1 (xs (v4 + 1).toNatClampNeg : Int32) (fun x_2 => ck ((v4 + 2)) L (ob1 (xs (v4 + 2).toNatClampNeg : Int32) (fun x_4 => ob0 (m_World_dot n xg xi xa x_2 x_4) (fun r_6 => ck ((v4 + 1)) L (ob1 (xs (v4 + 1).toNatClampNeg : Int32) (fun x_8 => ck ((v4 + 2)) L (ob1 (xs (v4 + 2).toNatClampNeg : Int32) (fun x_10 => om (m_Model_dot n mi mj ma mb x_8 x_10) (fun mi_13 mj_14 ma_15 mb_16 r_12 => if r_6 = r_12 then m_Law_b797 n L xs rc_33 xi xa xg mi_13 mj_14 ma_15 mb_16 fo kc ks v4 else some 0))))))))))
set_option maxHeartbeats 4000000 in
set_option maxRecDepth 100000 in
theorem lb_Law_574 {p : Program} {e : Env} {s : State} {m : MethodId} {below : List Frame} {meth : Method} {c : Code} (l : Launch) (hf : l.flags = pinnedFlags ++ [noTraceFlag]) {b L : Nat} {xs : Nat → Int32} {A : Nat → Prop} (hA : ∀ q, s.heap.size ≤ q → A q) (hAs : ∀ q, A q → s.heap.size ≤ q) (C0 : lw_At p s m meth c b L xs) (hL9 : L < 2 ^ 31) (dC : Nat → ClassId) (dI : Nat → Nat → Nat) (cI cJ cB : ClassId) (hK : va_K (dC, dI) classes [(cI, .int), (cJ, .long), (cB, .byte)] s) (adK adV adA : Nat → Nat) (hE : tw_E adK adV adA A s s.heap) (hN : tw_N A s s.heap) (hX : tw_X A s s.heap) (hC : tw_scr b L xs A s s.heap) (n : Nat) {u : Nat → Nat} {h : Nat} {v : Nat → Nat} {o9 : Nat} (rc_33 : (Nat → Int32) → (Nat → Nat → Int32) → (Nat → Nat) → (Nat → Int32) → (Nat → Int64) → (Nat → Nat → Int32) → (Nat → Nat → Int64) → (Nat → Int64) → (Nat) → (Nat) → Int32 → Option (Int32)) (Hrc_33 : ∀ (xi : Nat → Int32) (xa : Nat → Nat → Int32) (xg : Nat → Nat) (mi : Nat → Int32) (mj : Nat → Int64) (ma : Nat → Nat → Int32) (mb : Nat → Nat → Int64) (fo : Nat → Int64) (kc : Nat) (ks : Nat) (v4 : Int32), rc_33 xi xa xg mi mj ma mb fo kc ks v4 = some (1 : Int32) → ∀ (o : Nat → Nat), kc ≤ 601024 → ks ≤ 7293000 → ∀ (H : Heap) (locs : List Loc) (ls : Array Slot), va_P (dC, dI) classes (LT cI cJ cB u o h v o9 xi xa xg mi mj ma mb fo) H → va_D A (LT cI cJ cB u o h v o9 xi xa xg mi mj ma mb fo) → va_S A s.heap H locs → lv_has ls 7 [(0, .ref b), (1, .ref ((u 0))), (2, .ref h), (3, .ref o9), (4, .int v4)] → W p l e room_1 s m #[Value.ref b] below meth c H locs kc ks (lw_Z below #[Value.ref b] s) (F0 m 33 ls [])) (xi : Nat → Int32) (xa : Nat → Nat → Int32) (xg : Nat → Nat) (mi : Nat → Int32) (mj : Nat → Int64) (ma : Nat → Nat → Int32) (mb : Nat → Nat → Int64) (fo : Nat → Int64) (kc : Nat) (ks : Nat) (v4 : Int32) (hm : m_Law_b574 n L xs rc_33 xi xa xg mi mj ma mb fo kc ks v4 = some (1 : Int32)) : ∀ (o : Nat → Nat), kc ≤ 601024 → ks ≤ 7293000 → ∀ (H : Heap) (locs : List Loc) (ls : Array Slot), va_P (dC, dI) classes (LT cI cJ cB u o h v o9 xi xa xg mi mj ma mb fo) H → va_D A (LT cI cJ cB u o h v o9 xi xa xg mi mj ma mb fo) → va_S A s.heap H locs → lv_has ls 7 [(0, .ref b), (1, .ref ((u 0))), (2, .ref h), (3, .ref o9), (4, .int v4)] → W p l e room_1 s m #[Value.ref b] below meth c H locs kc ks (lw_Z below #[Value.ref b] s) (F0 m 574 ls []) := by
  obtain ⟨hx, hb, hr, hml, hown, hts, hXs, hbl, hlocks, hgv⟩ := id C0
  have htt : ∀ w ∈ tw_T, w.before #[Value.ref b] s = true := fun w h => hts w (tw_law w h)
  intro o hkc hks H locs ls hP hD hS hl
  rw [m_Law_b574] at hm
  refine lv_aload_n hx hb d_Law_law_574 rfl (lv_at hl 1 rfl) ?_
  refine lv_aload_n hx hb d_Law_law_575 rfl (lv_at hl 0 rfl) ?_
  refine lv_iload hx hb d_Law_law_576 (lv_at hl 4 rfl) ?_
  refine lv_iconst (v := 1) hx hb d_Law_law_578 (by decide) ?_
  refine lv_iadd hx hb d_Law_law_579 ?_
  obtain ⟨h_1, hm⟩ := ck_some hm
  refine va_sld hx hb hC.1 hC.2.1 hC.2.2.1 hS h_1 d_Law_law_580 ?_
  refine lv_topi (fun x_2 ex_2 => ?_)
  replace hm := ob1_at ex_2 hm
  refine lv_aload_n hx hb d_Law_law_581 rfl (lv_at hl 0 rfl) ?_
  refine lv_iload hx hb d_Law_law_582 (lv_at hl 4 rfl) ?_
  refine lv_iconst (v := 2) hx hb d_Law_law_584 (by decide) ?_
  refine lv_iadd hx hb d_Law_law_585 ?_
  obtain ⟨h_3, hm⟩ := ck_some hm
  refine va_sld hx hb hC.1 hC.2.1 hC.2.2.1 hS h_3 d_Law_law_586 ?_
  refine lv_topi (fun x_4 ex_4 => ?_)
  replace hm := ob1_at ex_4 hm
  obtain ⟨r_6, h_5, hm⟩ := ob0_some hm
  obtain ⟨hPc, hDc⟩ := v_partL hP hD
  have hFc := x_free0 hS hA
  have hKc := hK.sub (tys' := [(cI, .int)]) [0] rfl
  refine xg_calli (va_runV (As := [.int x_2, .int x_4]) (rest := []) ⟨hx, hb, hml, hown, hts⟩ (x_World_dot l dC dI cI adK adV adA u o xg H.size n h_5) (cwV 2 hts (tw_GV tw_law cw_World_dot lk_Law_86 in_World_dot sel_World_dot ini_World) rfl rfl rfl ⟨rfl, hd_World_dot⟩ ⟨Nat.le_of_ble_eq_true rfl, Nat.le_of_ble_eq_true rfl⟩) (xpVr hKc hPc hS hE hFc xo_0 rfl) rfl rfl hl.1 rfl (lv_room (Nat.le_of_ble_eq_true rfl)) d_Law_law_587 ⟨show kc + 0 ≤ 601024 by omega, show ks + 0 ≤ 7293000 by omega⟩) hS (fun q _ h => hFc q h) hFc (fun kc9 ks9 r9 u9 t9 H locs ekc eks ht hvm e9 hB hz1 hk1 hS => ?_)
  have e7 : kc = kc9 := by omega
  have e8 : ks = ks9 := by omega
  subst e7 e8
  have e9 : r_6 = r9 := e9
  subst e9
  replace hP := x_keep hP hk1
  clear hFc hk1 hz1 hvm hB ht ekc eks hPc hDc hKc
  refine lv_aload_n hx hb d_Law_law_590 rfl (lv_at hl 2 rfl) ?_
  refine lv_aload_n hx hb d_Law_law_591 rfl (lv_at hl 0 rfl) ?_
  refine lv_iload hx hb d_Law_law_592 (lv_at hl 4 rfl) ?_
  refine lv_iconst (v := 1) hx hb d_Law_law_594 (by decide) ?_
  refine lv_iadd hx hb d_Law_law_595 ?_
  obtain ⟨h_7, hm⟩ := ck_some hm
  refine va_sld hx hb hC.1 hC.2.1 hC.2.2.1 hS h_7 d_Law_law_596 ?_
  refine lv_topi (fun x_8 ex_8 => ?_)
  replace hm := ob1_at ex_8 hm
  refine lv_aload_n hx hb d_Law_law_597 rfl (lv_at hl 0 rfl) ?_
  refine lv_iload hx hb d_Law_law_598 (lv_at hl 4 rfl) ?_
  refine lv_iconst (v := 2) hx hb d_Law_law_600 (by decide) ?_
  refine lv_iadd hx hb d_Law_law_601 ?_
  obtain ⟨h_9, hm⟩ := ck_some hm
  refine va_sld hx hb hC.1 hC.2.1 hC.2.2.1 hS h_9 d_Law_law_602 ?_
  refine lv_topi (fun x_10 ex_10 => ?_)
  replace hm := ob1_at ex_10 hm
  obtain ⟨mi_13, mj_14, ma_15, mb_16, r_12, h_11, hm⟩ := om_some hm
  obtain ⟨hPc, hDc⟩ := v_part hP hD
  have hFc := x_free hDc hS hA
  refine xg_calli (va_runV (As := [.int x_8, .int x_10]) (rest := [.int r_6]) ⟨hx, hb, hml, hown, hts⟩ (x_Model_dot l dC dI cI cJ cB adK adV adA h v H.size n h_11) (cwV 2 hts (tw_GV tw_law cw_Model_dot lk_Law_89 in_Model_dot sel_Model_dot ini_Model) rfl rfl rfl ⟨rfl, hd_Model_dot⟩ ⟨Nat.le_of_ble_eq_true rfl, Nat.le_of_ble_eq_true rfl⟩) (ypV hK hPc hDc hS hE hFc yo_12 rfl) rfl rfl hl.1 rfl (lv_room (Nat.le_of_ble_eq_true rfl)) d_Law_law_603 ⟨show kc + 0 ≤ 601024 by omega, show ks + 0 ≤ 7293000 by omega⟩) hS (fun q _ h => hFc q h) hFc (fun kc9 ks9 r9 u9 t9 H locs ekc eks ht hvm e9 hB hz1 hk1 hS => ?_)
  have e7 : kc = kc9 := by omega
  have e8 : ks = ks9 := by omega
  subst e7 e8
  have e9 : r_12 = r9 := e9
  subst e9
  obtain ⟨hP1, hD1⟩ := y_aft hB ht (fun _ h9 => h9)
  obtain ⟨hP, hD⟩ := v_back hP hD hk1 hFc hP1 hD1
  clear hP1 hD1
  clear hFc hk1 hz1 hvm hB ht ekc eks hPc hDc
  refine lv_icmp_eq (tgt := 797) hx hb d_Law_law_606 (by decide) (fun c_17 => ?_) (fun c_17 => ?_)
  · replace hm := if_t c_17 hm
    exact lb_Law_797 l hf hA hAs C0 hL9 dC dI cI cJ cB hK adK adV adA hE hN hX hC n rc_33 Hrc_33 _ _ _ _ _ _ _ _ _ _ _ hm o hkc hks _ _ _ hP hD hS (lv_sub hl [0, 1, 2, 3, 4] rfl)
  · replace hm := if_f c_17 hm
    refine lv_iconst (v := 0) hx hb d_Law_law_609 (by decide) ?_
    exact absurd (re1 hm) (by decide)
def m_Law_b611 (n L : Nat) (xs : Nat → Int32) (rc_33 : (Nat → Int32) → (Nat → Nat → Int32) → (Nat → Nat) → (Nat → Int32) → (Nat → Int64) → (Nat → Nat → Int32) → (Nat → Nat → Int64) → (Nat → Int64) → (Nat) → (Nat) → Int32 → Option (Int32)) (xi : Nat → Int32) (xa : Nat → Nat → Int32) (xg : Nat → Nat) (mi : Nat → Int32) (mj : Nat → Int64) (ma : Nat → Nat → Int32) (mb : Nat → Nat → Int64) (fo : Nat → Int64) (kc : Nat) (ks : Nat) (v4 : Int32) : Option (Int32) := ck ((v4 + 1)) L (ob1 (xs (v4 + 1).toNatClampNeg : Int32) (fun x_2 => ob0 (m_World_out n xg xi xa x_2) (fun r_4 => ck ((v4 + 1)) L (ob1 (xs (v4 + 1).toNatClampNeg : Int32) (fun x_6 => om (m_Model_out n mi mj ma mb x_6) (fun mi_9 mj_10 ma_11 mb_12 r_8 => if r_4 = r_8 then m_Law_b797 n L xs rc_33 xi xa xg mi_9 mj_10 ma_11 mb_12 fo kc ks v4 else some 0))))))
set_option maxHeartbeats 4000000 in
set_option maxRecDepth 100000 in
theorem lb_Law_611 {p : Program} {e : Env} {s : State} {m : MethodId} {below : List Frame} {meth : Method} {c : Code} (l : Launch) (hf : l.flags = pinnedFlags ++ [noTraceFlag]) {b L : Nat} {xs : Nat → Int32} {A : Nat → Prop} (hA : ∀ q, s.heap.size ≤ q → A q) (hAs : ∀ q, A q → s.heap.size ≤ q) (C0 : lw_At p s m meth c b L xs) (hL9 : L < 2 ^ 31) (dC : Nat → ClassId) (dI : Nat → Nat → Nat) (cI cJ cB : ClassId) (hK : va_K (dC, dI) classes [(cI, .int), (cJ, .long), (cB, .byte)] s) (adK adV adA : Nat → Nat) (hE : tw_E adK adV adA A s s.heap) (hN : tw_N A s s.heap) (hX : tw_X A s s.heap) (hC : tw_scr b L xs A s s.heap) (n : Nat) {u : Nat → Nat} {h : Nat} {v : Nat → Nat} {o9 : Nat} (rc_33 : (Nat → Int32) → (Nat → Nat → Int32) → (Nat → Nat) → (Nat → Int32) → (Nat → Int64) → (Nat → Nat → Int32) → (Nat → Nat → Int64) → (Nat → Int64) → (Nat) → (Nat) → Int32 → Option (Int32)) (Hrc_33 : ∀ (xi : Nat → Int32) (xa : Nat → Nat → Int32) (xg : Nat → Nat) (mi : Nat → Int32) (mj : Nat → Int64) (ma : Nat → Nat → Int32) (mb : Nat → Nat → Int64) (fo : Nat → Int64) (kc : Nat) (ks : Nat) (v4 : Int32), rc_33 xi xa xg mi mj ma mb fo kc ks v4 = some (1 : Int32) → ∀ (o : Nat → Nat), kc ≤ 601024 → ks ≤ 7293000 → ∀ (H : Heap) (locs : List Loc) (ls : Array Slot), va_P (dC, dI) classes (LT cI cJ cB u o h v o9 xi xa xg mi mj ma mb fo) H → va_D A (LT cI cJ cB u o h v o9 xi xa xg mi mj ma mb fo) → va_S A s.heap H locs → lv_has ls 7 [(0, .ref b), (1, .ref ((u 0))), (2, .ref h), (3, .ref o9), (4, .int v4)] → W p l e room_1 s m #[Value.ref b] below meth c H locs kc ks (lw_Z below #[Value.ref b] s) (F0 m 33 ls [])) (xi : Nat → Int32) (xa : Nat → Nat → Int32) (xg : Nat → Nat) (mi : Nat → Int32) (mj : Nat → Int64) (ma : Nat → Nat → Int32) (mb : Nat → Nat → Int64) (fo : Nat → Int64) (kc : Nat) (ks : Nat) (v4 : Int32) (hm : m_Law_b611 n L xs rc_33 xi xa xg mi mj ma mb fo kc ks v4 = some (1 : Int32)) : ∀ (o : Nat → Nat), kc ≤ 601024 → ks ≤ 7293000 → ∀ (H : Heap) (locs : List Loc) (ls : Array Slot), va_P (dC, dI) classes (LT cI cJ cB u o h v o9 xi xa xg mi mj ma mb fo) H → va_D A (LT cI cJ cB u o h v o9 xi xa xg mi mj ma mb fo) → va_S A s.heap H locs → lv_has ls 7 [(0, .ref b), (1, .ref ((u 0))), (2, .ref h), (3, .ref o9), (4, .int v4)] → W p l e room_1 s m #[Value.ref b] below meth c H locs kc ks (lw_Z below #[Value.ref b] s) (F0 m 611 ls []) := by
  obtain ⟨hx, hb, hr, hml, hown, hts, hXs, hbl, hlocks, hgv⟩ := id C0
  have htt : ∀ w ∈ tw_T, w.before #[Value.ref b] s = true := fun w h => hts w (tw_law w h)
  intro o hkc hks H locs ls hP hD hS hl
  rw [m_Law_b611] at hm
  refine lv_aload_n hx hb d_Law_law_611 rfl (lv_at hl 1 rfl) ?_
  refine lv_aload_n hx hb d_Law_law_612 rfl (lv_at hl 0 rfl) ?_
  refine lv_iload hx hb d_Law_law_613 (lv_at hl 4 rfl) ?_
  refine lv_iconst (v := 1) hx hb d_Law_law_615 (by decide) ?_
  refine lv_iadd hx hb d_Law_law_616 ?_
  obtain ⟨h_1, hm⟩ := ck_some hm
  refine va_sld hx hb hC.1 hC.2.1 hC.2.2.1 hS h_1 d_Law_law_617 ?_
  refine lv_topi (fun x_2 ex_2 => ?_)
  replace hm := ob1_at ex_2 hm
  obtain ⟨r_4, h_3, hm⟩ := ob0_some hm
  obtain ⟨hPc, hDc⟩ := v_partL hP hD
  have hFc := x_free0 hS hA
  have hKc := hK.sub (tys' := [(cI, .int)]) [0] rfl
  refine xg_calli (va_runV (As := [.int x_2]) (rest := []) ⟨hx, hb, hml, hown, hts⟩ (x_World_out l dC dI cI adK adV adA u o xg H.size n h_3) (cwV 1 hts (tw_GV tw_law cw_World_out lk_Law_90 in_World_out sel_World_out ini_World) rfl rfl rfl ⟨rfl, hd_World_out⟩ ⟨Nat.le_of_ble_eq_true rfl, Nat.le_of_ble_eq_true rfl⟩) (xpVr hKc hPc hS hE hFc xo_0 rfl) rfl rfl hl.1 rfl (lv_room (Nat.le_of_ble_eq_true rfl)) d_Law_law_618 ⟨show kc + 0 ≤ 601024 by omega, show ks + 0 ≤ 7293000 by omega⟩) hS (fun q _ h => hFc q h) hFc (fun kc9 ks9 r9 u9 t9 H locs ekc eks ht hvm e9 hB hz1 hk1 hS => ?_)
  have e7 : kc = kc9 := by omega
  have e8 : ks = ks9 := by omega
  subst e7 e8
  have e9 : r_4 = r9 := e9
  subst e9
  replace hP := x_keep hP hk1
  clear hFc hk1 hz1 hvm hB ht ekc eks hPc hDc hKc
  refine lv_aload_n hx hb d_Law_law_621 rfl (lv_at hl 2 rfl) ?_
  refine lv_aload_n hx hb d_Law_law_622 rfl (lv_at hl 0 rfl) ?_
  refine lv_iload hx hb d_Law_law_623 (lv_at hl 4 rfl) ?_
  refine lv_iconst (v := 1) hx hb d_Law_law_625 (by decide) ?_
  refine lv_iadd hx hb d_Law_law_626 ?_
  obtain ⟨h_5, hm⟩ := ck_some hm
  refine va_sld hx hb hC.1 hC.2.1 hC.2.2.1 hS h_5 d_Law_law_627 ?_
  refine lv_topi (fun x_6 ex_6 => ?_)
  replace hm := ob1_at ex_6 hm
  obtain ⟨mi_9, mj_10, ma_11, mb_12, r_8, h_7, hm⟩ := om_some hm
  obtain ⟨hPc, hDc⟩ := v_part hP hD
  have hFc := x_free hDc hS hA
  refine xg_calli (va_runV (As := [.int x_6]) (rest := [.int r_4]) ⟨hx, hb, hml, hown, hts⟩ (x_Model_out l dC dI cI cJ cB adK adV adA h v H.size n h_7) (cwV 1 hts (tw_GV tw_law cw_Model_out lk_Law_93 in_Model_out sel_Model_out ini_Model) rfl rfl rfl ⟨rfl, hd_Model_out⟩ ⟨Nat.le_of_ble_eq_true rfl, Nat.le_of_ble_eq_true rfl⟩) (ypV hK hPc hDc hS hE hFc yo_12 rfl) rfl rfl hl.1 rfl (lv_room (Nat.le_of_ble_eq_true rfl)) d_Law_law_628 ⟨show kc + 0 ≤ 601024 by omega, show ks + 0 ≤ 7293000 by omega⟩) hS (fun q _ h => hFc q h) hFc (fun kc9 ks9 r9 u9 t9 H locs ekc eks ht hvm e9 hB hz1 hk1 hS => ?_)
  have e7 : kc = kc9 := by omega
  have e8 : ks = ks9 := by omega
  subst e7 e8
  have e9 : r_8 = r9 := e9
  subst e9
  obtain ⟨hP1, hD1⟩ := y_aft hB ht (fun _ h9 => h9)
  obtain ⟨hP, hD⟩ := v_back hP hD hk1 hFc hP1 hD1
  clear hP1 hD1
  clear hFc hk1 hz1 hvm hB ht ekc eks hPc hDc
  refine lv_icmp_eq (tgt := 797) hx hb d_Law_law_631 (by decide) (fun c_13 => ?_) (fun c_13 => ?_)
  · replace hm := if_t c_13 hm
    exact lb_Law_797 l hf hA hAs C0 hL9 dC dI cI cJ cB hK adK adV adA hE hN hX hC n rc_33 Hrc_33 _ _ _ _ _ _ _ _ _ _ _ hm o hkc hks _ _ _ hP hD hS (lv_sub hl [0, 1, 2, 3, 4] rfl)
  · replace hm := if_f c_13 hm
    refine lv_iconst (v := 0) hx hb d_Law_law_634 (by decide) ?_
    exact absurd (re1 hm) (by decide)
def m_Law_b636 (n L : Nat) (xs : Nat → Int32) (rc_33 : (Nat → Int32) → (Nat → Nat → Int32) → (Nat → Nat) → (Nat → Int32) → (Nat → Int64) → (Nat → Nat → Int32) → (Nat → Nat → Int64) → (Nat → Int64) → (Nat) → (Nat) → Int32 → Option (Int32)) (xi : Nat → Int32) (xa : Nat → Nat → Int32) (xg : Nat → Nat) (mi : Nat → Int32) (mj : Nat → Int64) (ma : Nat → Nat → Int32) (mb : Nat → Nat → Int64) (fo : Nat → Int64) (kc : Nat) (ks : Nat) (v4 : Int32) : Option (Int32) := ck ((v4 + 1)) L (ob1 (xs (v4 + 1).toNatClampNeg : Int32) (fun x_2 => ck ((v4 + 2)) L (ob1 (xs (v4 + 2).toNatClampNeg : Int32) (fun x_4 => ob0 (m_World_name n xg xi xa x_2 x_4) (fun r_6 => ck ((v4 + 1)) L (ob1 (xs (v4 + 1).toNatClampNeg : Int32) (fun x_8 => ck ((v4 + 2)) L (ob1 (xs (v4 + 2).toNatClampNeg : Int32) (fun x_10 => om (m_Model_name n mi mj ma mb x_8 x_10) (fun mi_13 mj_14 ma_15 mb_16 r_12 => if r_6 = r_12 then m_Law_b797 n L xs rc_33 xi xa xg mi_13 mj_14 ma_15 mb_16 fo kc ks v4 else some 0))))))))))
set_option maxHeartbeats 4000000 in
set_option maxRecDepth 100000 in
theorem lb_Law_636 {p : Program} {e : Env} {s : State} {m : MethodId} {below : List Frame} {meth : Method} {c : Code} (l : Launch) (hf : l.flags = pinnedFlags ++ [noTraceFlag]) {b L : Nat} {xs : Nat → Int32} {A : Nat → Prop} (hA : ∀ q, s.heap.size ≤ q → A q) (hAs : ∀ q, A q → s.heap.size ≤ q) (C0 : lw_At p s m meth c b L xs) (hL9 : L < 2 ^ 31) (dC : Nat → ClassId) (dI : Nat → Nat → Nat) (cI cJ cB : ClassId) (hK : va_K (dC, dI) classes [(cI, .int), (cJ, .long), (cB, .byte)] s) (adK adV adA : Nat → Nat) (hE : tw_E adK adV adA A s s.heap) (hN : tw_N A s s.heap) (hX : tw_X A s s.heap) (hC : tw_scr b L xs A s s.heap) (n : Nat) {u : Nat → Nat} {h : Nat} {v : Nat → Nat} {o9 : Nat} (rc_33 : (Nat → Int32) → (Nat → Nat → Int32) → (Nat → Nat) → (Nat → Int32) → (Nat → Int64) → (Nat → Nat → Int32) → (Nat → Nat → Int64) → (Nat → Int64) → (Nat) → (Nat) → Int32 → Option (Int32)) (Hrc_33 : ∀ (xi : Nat → Int32) (xa : Nat → Nat → Int32) (xg : Nat → Nat) (mi : Nat → Int32) (mj : Nat → Int64) (ma : Nat → Nat → Int32) (mb : Nat → Nat → Int64) (fo : Nat → Int64) (kc : Nat) (ks : Nat) (v4 : Int32), rc_33 xi xa xg mi mj ma mb fo kc ks v4 = some (1 : Int32) → ∀ (o : Nat → Nat), kc ≤ 601024 → ks ≤ 7293000 → ∀ (H : Heap) (locs : List Loc) (ls : Array Slot), va_P (dC, dI) classes (LT cI cJ cB u o h v o9 xi xa xg mi mj ma mb fo) H → va_D A (LT cI cJ cB u o h v o9 xi xa xg mi mj ma mb fo) → va_S A s.heap H locs → lv_has ls 7 [(0, .ref b), (1, .ref ((u 0))), (2, .ref h), (3, .ref o9), (4, .int v4)] → W p l e room_1 s m #[Value.ref b] below meth c H locs kc ks (lw_Z below #[Value.ref b] s) (F0 m 33 ls [])) (xi : Nat → Int32) (xa : Nat → Nat → Int32) (xg : Nat → Nat) (mi : Nat → Int32) (mj : Nat → Int64) (ma : Nat → Nat → Int32) (mb : Nat → Nat → Int64) (fo : Nat → Int64) (kc : Nat) (ks : Nat) (v4 : Int32) (hm : m_Law_b636 n L xs rc_33 xi xa xg mi mj ma mb fo kc ks v4 = some (1 : Int32)) : ∀ (o : Nat → Nat), kc ≤ 601024 → ks ≤ 7293000 → ∀ (H : Heap) (locs : List Loc) (ls : Array Slot), va_P (dC, dI) classes (LT cI cJ cB u o h v o9 xi xa xg mi mj ma mb fo) H → va_D A (LT cI cJ cB u o h v o9 xi xa xg mi mj ma mb fo) → va_S A s.heap H locs → lv_has ls 7 [(0, .ref b), (1, .ref ((u 0))), (2, .ref h), (3, .ref o9), (4, .int v4)] → W p l e room_1 s m #[Value.ref b] below meth c H locs kc ks (lw_Z below #[Value.ref b] s) (F0 m 636 ls []) := by
  obtain ⟨hx, hb, hr, hml, hown, hts, hXs, hbl, hlocks, hgv⟩ := id C0
  have htt : ∀ w ∈ tw_T, w.before #[Value.ref b] s = true := fun w h => hts w (tw_law w h)
  intro o hkc hks H locs ls hP hD hS hl
  rw [m_Law_b636] at hm
  refine lv_aload_n hx hb d_Law_law_636 rfl (lv_at hl 1 rfl) ?_
  refine lv_aload_n hx hb d_Law_law_637 rfl (lv_at hl 0 rfl) ?_
  refine lv_iload hx hb d_Law_law_638 (lv_at hl 4 rfl) ?_
  refine lv_iconst (v := 1) hx hb d_Law_law_640 (by decide) ?_
  refine lv_iadd hx hb d_Law_law_641 ?_
  obtain ⟨h_1, hm⟩ := ck_some hm
  refine va_sld hx hb hC.1 hC.2.1 hC.2.2.1 hS h_1 d_Law_law_642 ?_
  refine lv_topi (fun x_2 ex_2 => ?_)
  replace hm := ob1_at ex_2 hm
  refine lv_aload_n hx hb d_Law_law_643 rfl (lv_at hl 0 rfl) ?_
  refine lv_iload hx hb d_Law_law_644 (lv_at hl 4 rfl) ?_
  refine lv_iconst (v := 2) hx hb d_Law_law_646 (by decide) ?_
  refine lv_iadd hx hb d_Law_law_647 ?_
  obtain ⟨h_3, hm⟩ := ck_some hm
  refine va_sld hx hb hC.1 hC.2.1 hC.2.2.1 hS h_3 d_Law_law_648 ?_
  refine lv_topi (fun x_4 ex_4 => ?_)
  replace hm := ob1_at ex_4 hm
  obtain ⟨r_6, h_5, hm⟩ := ob0_some hm
  obtain ⟨hPc, hDc⟩ := v_partL hP hD
  have hFc := x_free0 hS hA
  have hKc := hK.sub (tys' := [(cI, .int)]) [0] rfl
  refine xg_calli (va_runV (As := [.int x_2, .int x_4]) (rest := []) ⟨hx, hb, hml, hown, hts⟩ (x_World_name l dC dI cI adK adV adA u o xg H.size n h_5) (cwV 2 hts (tw_GV tw_law cw_World_name lk_Law_94 in_World_name sel_World_name ini_World) rfl rfl rfl ⟨rfl, hd_World_name⟩ ⟨Nat.le_of_ble_eq_true rfl, Nat.le_of_ble_eq_true rfl⟩) (xpVr hKc hPc hS hE hFc xo_0 rfl) rfl rfl hl.1 rfl (lv_room (Nat.le_of_ble_eq_true rfl)) d_Law_law_649 ⟨show kc + 0 ≤ 601024 by omega, show ks + 0 ≤ 7293000 by omega⟩) hS (fun q _ h => hFc q h) hFc (fun kc9 ks9 r9 u9 t9 H locs ekc eks ht hvm e9 hB hz1 hk1 hS => ?_)
  have e7 : kc = kc9 := by omega
  have e8 : ks = ks9 := by omega
  subst e7 e8
  have e9 : r_6 = r9 := e9
  subst e9
  replace hP := x_keep hP hk1
  clear hFc hk1 hz1 hvm hB ht ekc eks hPc hDc hKc
  refine lv_aload_n hx hb d_Law_law_652 rfl (lv_at hl 2 rfl) ?_
  refine lv_aload_n hx hb d_Law_law_653 rfl (lv_at hl 0 rfl) ?_
  refine lv_iload hx hb d_Law_law_654 (lv_at hl 4 rfl) ?_
  refine lv_iconst (v := 1) hx hb d_Law_law_656 (by decide) ?_
  refine lv_iadd hx hb d_Law_law_657 ?_
  obtain ⟨h_7, hm⟩ := ck_some hm
  refine va_sld hx hb hC.1 hC.2.1 hC.2.2.1 hS h_7 d_Law_law_658 ?_
  refine lv_topi (fun x_8 ex_8 => ?_)
  replace hm := ob1_at ex_8 hm
  refine lv_aload_n hx hb d_Law_law_659 rfl (lv_at hl 0 rfl) ?_
  refine lv_iload hx hb d_Law_law_660 (lv_at hl 4 rfl) ?_
  refine lv_iconst (v := 2) hx hb d_Law_law_662 (by decide) ?_
  refine lv_iadd hx hb d_Law_law_663 ?_
  obtain ⟨h_9, hm⟩ := ck_some hm
  refine va_sld hx hb hC.1 hC.2.1 hC.2.2.1 hS h_9 d_Law_law_664 ?_
  refine lv_topi (fun x_10 ex_10 => ?_)
  replace hm := ob1_at ex_10 hm
  obtain ⟨mi_13, mj_14, ma_15, mb_16, r_12, h_11, hm⟩ := om_some hm
  obtain ⟨hPc, hDc⟩ := v_part hP hD
  have hFc := x_free hDc hS hA
  refine xg_calli (va_runV (As := [.int x_8, .int x_10]) (rest := [.int r_6]) ⟨hx, hb, hml, hown, hts⟩ (x_Model_name l dC dI cI cJ cB adK adV adA h v H.size n h_11) (cwV 2 hts (tw_GV tw_law cw_Model_name lk_Law_97 in_Model_name sel_Model_name ini_Model) rfl rfl rfl ⟨rfl, hd_Model_name⟩ ⟨Nat.le_of_ble_eq_true rfl, Nat.le_of_ble_eq_true rfl⟩) (ypV hK hPc hDc hS hE hFc yo_12 rfl) rfl rfl hl.1 rfl (lv_room (Nat.le_of_ble_eq_true rfl)) d_Law_law_665 ⟨show kc + 0 ≤ 601024 by omega, show ks + 0 ≤ 7293000 by omega⟩) hS (fun q _ h => hFc q h) hFc (fun kc9 ks9 r9 u9 t9 H locs ekc eks ht hvm e9 hB hz1 hk1 hS => ?_)
  have e7 : kc = kc9 := by omega
  have e8 : ks = ks9 := by omega
  subst e7 e8
  have e9 : r_12 = r9 := e9
  subst e9
  obtain ⟨hP1, hD1⟩ := y_aft hB ht (fun _ h9 => h9)
  obtain ⟨hP, hD⟩ := v_back hP hD hk1 hFc hP1 hD1
  clear hP1 hD1
  clear hFc hk1 hz1 hvm hB ht ekc eks hPc hDc
  refine lv_icmp_eq (tgt := 797) hx hb d_Law_law_668 (by decide) (fun c_17 => ?_) (fun c_17 => ?_)
  · replace hm := if_t c_17 hm
    exact lb_Law_797 l hf hA hAs C0 hL9 dC dI cI cJ cB hK adK adV adA hE hN hX hC n rc_33 Hrc_33 _ _ _ _ _ _ _ _ _ _ _ hm o hkc hks _ _ _ hP hD hS (lv_sub hl [0, 1, 2, 3, 4] rfl)
  · replace hm := if_f c_17 hm
    refine lv_iconst (v := 0) hx hb d_Law_law_671 (by decide) ?_
    exact absurd (re1 hm) (by decide)
def m_Law_b673 (n L : Nat) (xs : Nat → Int32) (rc_33 : (Nat → Int32) → (Nat → Nat → Int32) → (Nat → Nat) → (Nat → Int32) → (Nat → Int64) → (Nat → Nat → Int32) → (Nat → Nat → Int64) → (Nat → Int64) → (Nat) → (Nat) → Int32 → Option (Int32)) (xi : Nat → Int32) (xa : Nat → Nat → Int32) (xg : Nat → Nat) (mi : Nat → Int32) (mj : Nat → Int64) (ma : Nat → Nat → Int32) (mb : Nat → Nat → Int64) (fo : Nat → Int64) (kc : Nat) (ks : Nat) (v4 : Int32) : Option (Int32) := ck ((v4 + 1)) L (ob1 (xs (v4 + 1).toNatClampNeg : Int32) (fun x_2 => ck ((v4 + 2)) L (ob1 (xs (v4 + 2).toNatClampNeg : Int32) (fun x_4 => ob (m_World_value n xg xi xa x_2 x_4) (fun xi_7 xa_8 r_6 => ck ((v4 + 1)) L (ob1 (xs (v4 + 1).toNatClampNeg : Int32) (fun x_10 => ck ((v4 + 2)) L (ob1 (xs (v4 + 2).toNatClampNeg : Int32) (fun x_12 => om (m_Model_value n mi mj ma mb x_10 x_12) (fun mi_15 mj_16 ma_17 mb_18 r_14 => if r_6 = r_14 then m_Law_b797 n L xs rc_33 xi_7 xa_8 xg mi_15 mj_16 ma_17 mb_18 fo kc ks v4 else some 0))))))))))
set_option maxHeartbeats 4000000 in
set_option maxRecDepth 100000 in
theorem lb_Law_673 {p : Program} {e : Env} {s : State} {m : MethodId} {below : List Frame} {meth : Method} {c : Code} (l : Launch) (hf : l.flags = pinnedFlags ++ [noTraceFlag]) {b L : Nat} {xs : Nat → Int32} {A : Nat → Prop} (hA : ∀ q, s.heap.size ≤ q → A q) (hAs : ∀ q, A q → s.heap.size ≤ q) (C0 : lw_At p s m meth c b L xs) (hL9 : L < 2 ^ 31) (dC : Nat → ClassId) (dI : Nat → Nat → Nat) (cI cJ cB : ClassId) (hK : va_K (dC, dI) classes [(cI, .int), (cJ, .long), (cB, .byte)] s) (adK adV adA : Nat → Nat) (hE : tw_E adK adV adA A s s.heap) (hN : tw_N A s s.heap) (hX : tw_X A s s.heap) (hC : tw_scr b L xs A s s.heap) (n : Nat) {u : Nat → Nat} {h : Nat} {v : Nat → Nat} {o9 : Nat} (rc_33 : (Nat → Int32) → (Nat → Nat → Int32) → (Nat → Nat) → (Nat → Int32) → (Nat → Int64) → (Nat → Nat → Int32) → (Nat → Nat → Int64) → (Nat → Int64) → (Nat) → (Nat) → Int32 → Option (Int32)) (Hrc_33 : ∀ (xi : Nat → Int32) (xa : Nat → Nat → Int32) (xg : Nat → Nat) (mi : Nat → Int32) (mj : Nat → Int64) (ma : Nat → Nat → Int32) (mb : Nat → Nat → Int64) (fo : Nat → Int64) (kc : Nat) (ks : Nat) (v4 : Int32), rc_33 xi xa xg mi mj ma mb fo kc ks v4 = some (1 : Int32) → ∀ (o : Nat → Nat), kc ≤ 601024 → ks ≤ 7293000 → ∀ (H : Heap) (locs : List Loc) (ls : Array Slot), va_P (dC, dI) classes (LT cI cJ cB u o h v o9 xi xa xg mi mj ma mb fo) H → va_D A (LT cI cJ cB u o h v o9 xi xa xg mi mj ma mb fo) → va_S A s.heap H locs → lv_has ls 7 [(0, .ref b), (1, .ref ((u 0))), (2, .ref h), (3, .ref o9), (4, .int v4)] → W p l e room_1 s m #[Value.ref b] below meth c H locs kc ks (lw_Z below #[Value.ref b] s) (F0 m 33 ls [])) (xi : Nat → Int32) (xa : Nat → Nat → Int32) (xg : Nat → Nat) (mi : Nat → Int32) (mj : Nat → Int64) (ma : Nat → Nat → Int32) (mb : Nat → Nat → Int64) (fo : Nat → Int64) (kc : Nat) (ks : Nat) (v4 : Int32) (hm : m_Law_b673 n L xs rc_33 xi xa xg mi mj ma mb fo kc ks v4 = some (1 : Int32)) : ∀ (o : Nat → Nat), kc ≤ 601024 → ks ≤ 7293000 → ∀ (H : Heap) (locs : List Loc) (ls : Array Slot), va_P (dC, dI) classes (LT cI cJ cB u o h v o9 xi xa xg mi mj ma mb fo) H → va_D A (LT cI cJ cB u o h v o9 xi xa xg mi mj ma mb fo) → va_S A s.heap H locs → lv_has ls 7 [(0, .ref b), (1, .ref ((u 0))), (2, .ref h), (3, .ref o9), (4, .int v4)] → W p l e room_1 s m #[Value.ref b] below meth c H locs kc ks (lw_Z below #[Value.ref b] s) (F0 m 673 ls []) := by
  obtain ⟨hx, hb, hr, hml, hown, hts, hXs, hbl, hlocks, hgv⟩ := id C0
  have htt : ∀ w ∈ tw_T, w.before #[Value.ref b] s = true := fun w h => hts w (tw_law w h)
  intro o hkc hks H locs ls hP hD hS hl
  rw [m_Law_b673] at hm
  refine lv_aload_n hx hb d_Law_law_673 rfl (lv_at hl 1 rfl) ?_
  refine lv_aload_n hx hb d_Law_law_674 rfl (lv_at hl 0 rfl) ?_
  refine lv_iload hx hb d_Law_law_675 (lv_at hl 4 rfl) ?_
  refine lv_iconst (v := 1) hx hb d_Law_law_677 (by decide) ?_
  refine lv_iadd hx hb d_Law_law_678 ?_
  obtain ⟨h_1, hm⟩ := ck_some hm
  refine va_sld hx hb hC.1 hC.2.1 hC.2.2.1 hS h_1 d_Law_law_679 ?_
  refine lv_topi (fun x_2 ex_2 => ?_)
  replace hm := ob1_at ex_2 hm
  refine lv_aload_n hx hb d_Law_law_680 rfl (lv_at hl 0 rfl) ?_
  refine lv_iload hx hb d_Law_law_681 (lv_at hl 4 rfl) ?_
  refine lv_iconst (v := 2) hx hb d_Law_law_683 (by decide) ?_
  refine lv_iadd hx hb d_Law_law_684 ?_
  obtain ⟨h_3, hm⟩ := ck_some hm
  refine va_sld hx hb hC.1 hC.2.1 hC.2.2.1 hS h_3 d_Law_law_685 ?_
  refine lv_topi (fun x_4 ex_4 => ?_)
  replace hm := ob1_at ex_4 hm
  obtain ⟨xi_7, xa_8, r_6, h_5, hm⟩ := ob_some hm
  obtain ⟨hPc, hDc⟩ := v_partL hP hD
  have hFc := x_free hDc hS hA
  have hKc := hK.sub (tys' := [(cI, .int)]) [0] rfl
  refine xg_calli (va_runV (As := [.int x_2, .int x_4]) (rest := []) ⟨hx, hb, hml, hown, hts⟩ (x_World_value l dC dI cI adK adV adA u o xg H.size n h_5) (cwV 2 hts (tw_GV tw_law cw_World_value lk_Law_98 in_World_value sel_World_value ini_World) rfl rfl rfl ⟨rfl, hd_World_value⟩ ⟨Nat.le_of_ble_eq_true rfl, Nat.le_of_ble_eq_true rfl⟩) (xpV hKc hPc hDc hS hE hFc xo_0 rfl) rfl rfl hl.1 rfl (lv_room (Nat.le_of_ble_eq_true rfl)) d_Law_law_686 ⟨show kc + 0 ≤ 601024 by omega, show ks + 0 ≤ 7293000 by omega⟩) hS (fun q _ h => hFc q h) hFc (fun kc9 ks9 r9 u9 t9 H locs ekc eks ht hvm e9 hB hz1 hk1 hS => ?_)
  have e7 : kc = kc9 := by omega
  have e8 : ks = ks9 := by omega
  subst e7 e8
  have e9 : r_6 = r9 := e9
  subst e9
  obtain ⟨hP1, hD1⟩ := x_aft hB ht (fun _ h9 => h9)
  obtain ⟨hP, hD⟩ := v_backL hP hD hk1 hFc hP1 hD1
  clear hP1 hD1
  clear hFc hk1 hz1 hvm hB ht ekc eks hPc hDc hKc
  refine lv_aload_n hx hb d_Law_law_689 rfl (lv_at hl 2 rfl) ?_
  refine lv_aload_n hx hb d_Law_law_690 rfl (lv_at hl 0 rfl) ?_
  refine lv_iload hx hb d_Law_law_691 (lv_at hl 4 rfl) ?_
  refine lv_iconst (v := 1) hx hb d_Law_law_693 (by decide) ?_
  refine lv_iadd hx hb d_Law_law_694 ?_
  obtain ⟨h_9, hm⟩ := ck_some hm
  refine va_sld hx hb hC.1 hC.2.1 hC.2.2.1 hS h_9 d_Law_law_695 ?_
  refine lv_topi (fun x_10 ex_10 => ?_)
  replace hm := ob1_at ex_10 hm
  refine lv_aload_n hx hb d_Law_law_696 rfl (lv_at hl 0 rfl) ?_
  refine lv_iload hx hb d_Law_law_697 (lv_at hl 4 rfl) ?_
  refine lv_iconst (v := 2) hx hb d_Law_law_699 (by decide) ?_
  refine lv_iadd hx hb d_Law_law_700 ?_
  obtain ⟨h_11, hm⟩ := ck_some hm
  refine va_sld hx hb hC.1 hC.2.1 hC.2.2.1 hS h_11 d_Law_law_701 ?_
  refine lv_topi (fun x_12 ex_12 => ?_)
  replace hm := ob1_at ex_12 hm
  obtain ⟨mi_15, mj_16, ma_17, mb_18, r_14, h_13, hm⟩ := om_some hm
  obtain ⟨hPc, hDc⟩ := v_part hP hD
  have hFc := x_free hDc hS hA
  refine xg_calli (va_runV (As := [.int x_10, .int x_12]) (rest := [.int r_6]) ⟨hx, hb, hml, hown, hts⟩ (x_Model_value l dC dI cI cJ cB adK adV adA h v H.size n h_13) (cwV 2 hts (tw_GV tw_law cw_Model_value lk_Law_101 in_Model_value sel_Model_value ini_Model) rfl rfl rfl ⟨rfl, hd_Model_value⟩ ⟨Nat.le_of_ble_eq_true rfl, Nat.le_of_ble_eq_true rfl⟩) (ypV hK hPc hDc hS hE hFc yo_12 rfl) rfl rfl hl.1 rfl (lv_room (Nat.le_of_ble_eq_true rfl)) d_Law_law_702 ⟨show kc + 0 ≤ 601024 by omega, show ks + 0 ≤ 7293000 by omega⟩) hS (fun q _ h => hFc q h) hFc (fun kc9 ks9 r9 u9 t9 H locs ekc eks ht hvm e9 hB hz1 hk1 hS => ?_)
  have e7 : kc = kc9 := by omega
  have e8 : ks = ks9 := by omega
  subst e7 e8
  have e9 : r_14 = r9 := e9
  subst e9
  obtain ⟨hP1, hD1⟩ := y_aft hB ht (fun _ h9 => h9)
  obtain ⟨hP, hD⟩ := v_back hP hD hk1 hFc hP1 hD1
  clear hP1 hD1
  clear hFc hk1 hz1 hvm hB ht ekc eks hPc hDc
  refine lv_icmp_eq (tgt := 797) hx hb d_Law_law_705 (by decide) (fun c_19 => ?_) (fun c_19 => ?_)
  · replace hm := if_t c_19 hm
    exact lb_Law_797 l hf hA hAs C0 hL9 dC dI cI cJ cB hK adK adV adA hE hN hX hC n rc_33 Hrc_33 _ _ _ _ _ _ _ _ _ _ _ hm o hkc hks _ _ _ hP hD hS (lv_sub hl [0, 1, 2, 3, 4] rfl)
  · replace hm := if_f c_19 hm
    refine lv_iconst (v := 0) hx hb d_Law_law_708 (by decide) ?_
    exact absurd (re1 hm) (by decide)
def m_Law_b710 (n L : Nat) (xs : Nat → Int32) (rc_33 : (Nat → Int32) → (Nat → Nat → Int32) → (Nat → Nat) → (Nat → Int32) → (Nat → Int64) → (Nat → Nat → Int32) → (Nat → Nat → Int64) → (Nat → Int64) → (Nat) → (Nat) → Int32 → Option (Int32)) (xi : Nat → Int32) (xa : Nat → Nat → Int32) (xg : Nat → Nat) (mi : Nat → Int32) (mj : Nat → Int64) (ma : Nat → Nat → Int32) (mb : Nat → Nat → Int64) (fo : Nat → Int64) (kc : Nat) (ks : Nat) (v4 : Int32) : Option (Int32) := ck ((v4 + 1)) L (ob1 (xs (v4 + 1).toNatClampNeg : Int32) (fun x_2 => ck ((v4 + 2)) L (ob1 (xs (v4 + 2).toNatClampNeg : Int32) (fun x_4 => ob0 (m_World_procedure n xg xi xa x_2 x_4) (fun r_6 => ck ((v4 + 1)) L (ob1 (xs (v4 + 1).toNatClampNeg : Int32) (fun x_8 => ck ((v4 + 2)) L (ob1 (xs (v4 + 2).toNatClampNeg : Int32) (fun x_10 => om (m_Model_procedure n mi mj ma mb x_8 x_10) (fun mi_13 mj_14 ma_15 mb_16 r_12 => if r_6 = r_12 then m_Law_b797 n L xs rc_33 xi xa xg mi_13 mj_14 ma_15 mb_16 fo kc ks v4 else some 0))))))))))
set_option maxHeartbeats 4000000 in
set_option maxRecDepth 100000 in
theorem lb_Law_710 {p : Program} {e : Env} {s : State} {m : MethodId} {below : List Frame} {meth : Method} {c : Code} (l : Launch) (hf : l.flags = pinnedFlags ++ [noTraceFlag]) {b L : Nat} {xs : Nat → Int32} {A : Nat → Prop} (hA : ∀ q, s.heap.size ≤ q → A q) (hAs : ∀ q, A q → s.heap.size ≤ q) (C0 : lw_At p s m meth c b L xs) (hL9 : L < 2 ^ 31) (dC : Nat → ClassId) (dI : Nat → Nat → Nat) (cI cJ cB : ClassId) (hK : va_K (dC, dI) classes [(cI, .int), (cJ, .long), (cB, .byte)] s) (adK adV adA : Nat → Nat) (hE : tw_E adK adV adA A s s.heap) (hN : tw_N A s s.heap) (hX : tw_X A s s.heap) (hC : tw_scr b L xs A s s.heap) (n : Nat) {u : Nat → Nat} {h : Nat} {v : Nat → Nat} {o9 : Nat} (rc_33 : (Nat → Int32) → (Nat → Nat → Int32) → (Nat → Nat) → (Nat → Int32) → (Nat → Int64) → (Nat → Nat → Int32) → (Nat → Nat → Int64) → (Nat → Int64) → (Nat) → (Nat) → Int32 → Option (Int32)) (Hrc_33 : ∀ (xi : Nat → Int32) (xa : Nat → Nat → Int32) (xg : Nat → Nat) (mi : Nat → Int32) (mj : Nat → Int64) (ma : Nat → Nat → Int32) (mb : Nat → Nat → Int64) (fo : Nat → Int64) (kc : Nat) (ks : Nat) (v4 : Int32), rc_33 xi xa xg mi mj ma mb fo kc ks v4 = some (1 : Int32) → ∀ (o : Nat → Nat), kc ≤ 601024 → ks ≤ 7293000 → ∀ (H : Heap) (locs : List Loc) (ls : Array Slot), va_P (dC, dI) classes (LT cI cJ cB u o h v o9 xi xa xg mi mj ma mb fo) H → va_D A (LT cI cJ cB u o h v o9 xi xa xg mi mj ma mb fo) → va_S A s.heap H locs → lv_has ls 7 [(0, .ref b), (1, .ref ((u 0))), (2, .ref h), (3, .ref o9), (4, .int v4)] → W p l e room_1 s m #[Value.ref b] below meth c H locs kc ks (lw_Z below #[Value.ref b] s) (F0 m 33 ls [])) (xi : Nat → Int32) (xa : Nat → Nat → Int32) (xg : Nat → Nat) (mi : Nat → Int32) (mj : Nat → Int64) (ma : Nat → Nat → Int32) (mb : Nat → Nat → Int64) (fo : Nat → Int64) (kc : Nat) (ks : Nat) (v4 : Int32) (hm : m_Law_b710 n L xs rc_33 xi xa xg mi mj ma mb fo kc ks v4 = some (1 : Int32)) : ∀ (o : Nat → Nat), kc ≤ 601024 → ks ≤ 7293000 → ∀ (H : Heap) (locs : List Loc) (ls : Array Slot), va_P (dC, dI) classes (LT cI cJ cB u o h v o9 xi xa xg mi mj ma mb fo) H → va_D A (LT cI cJ cB u o h v o9 xi xa xg mi mj ma mb fo) → va_S A s.heap H locs → lv_has ls 7 [(0, .ref b), (1, .ref ((u 0))), (2, .ref h), (3, .ref o9), (4, .int v4)] → W p l e room_1 s m #[Value.ref b] below meth c H locs kc ks (lw_Z below #[Value.ref b] s) (F0 m 710 ls []) := by
  obtain ⟨hx, hb, hr, hml, hown, hts, hXs, hbl, hlocks, hgv⟩ := id C0
  have htt : ∀ w ∈ tw_T, w.before #[Value.ref b] s = true := fun w h => hts w (tw_law w h)
  intro o hkc hks H locs ls hP hD hS hl
  rw [m_Law_b710] at hm
  refine lv_aload_n hx hb d_Law_law_710 rfl (lv_at hl 1 rfl) ?_
  refine lv_aload_n hx hb d_Law_law_711 rfl (lv_at hl 0 rfl) ?_
  refine lv_iload hx hb d_Law_law_712 (lv_at hl 4 rfl) ?_
  refine lv_iconst (v := 1) hx hb d_Law_law_714 (by decide) ?_
  refine lv_iadd hx hb d_Law_law_715 ?_
  obtain ⟨h_1, hm⟩ := ck_some hm
  refine va_sld hx hb hC.1 hC.2.1 hC.2.2.1 hS h_1 d_Law_law_716 ?_
  refine lv_topi (fun x_2 ex_2 => ?_)
  replace hm := ob1_at ex_2 hm
  refine lv_aload_n hx hb d_Law_law_717 rfl (lv_at hl 0 rfl) ?_
  refine lv_iload hx hb d_Law_law_718 (lv_at hl 4 rfl) ?_
  refine lv_iconst (v := 2) hx hb d_Law_law_720 (by decide) ?_
  refine lv_iadd hx hb d_Law_law_721 ?_
  obtain ⟨h_3, hm⟩ := ck_some hm
  refine va_sld hx hb hC.1 hC.2.1 hC.2.2.1 hS h_3 d_Law_law_722 ?_
  refine lv_topi (fun x_4 ex_4 => ?_)
  replace hm := ob1_at ex_4 hm
  obtain ⟨r_6, h_5, hm⟩ := ob0_some hm
  obtain ⟨hPc, hDc⟩ := v_partL hP hD
  have hFc := x_free0 hS hA
  have hKc := hK.sub (tys' := [(cI, .int)]) [0] rfl
  refine xg_calli (va_runV (As := [.int x_2, .int x_4]) (rest := []) ⟨hx, hb, hml, hown, hts⟩ (x_World_procedure l dC dI cI adK adV adA u o xg H.size n h_5) (cwV 2 hts (tw_GV tw_law cw_World_procedure lk_Law_102 in_World_procedure sel_World_procedure ini_World) rfl rfl rfl ⟨rfl, hd_World_procedure⟩ ⟨Nat.le_of_ble_eq_true rfl, Nat.le_of_ble_eq_true rfl⟩) (xpVr hKc hPc hS hE hFc xo_0 rfl) rfl rfl hl.1 rfl (lv_room (Nat.le_of_ble_eq_true rfl)) d_Law_law_723 ⟨show kc + 0 ≤ 601024 by omega, show ks + 0 ≤ 7293000 by omega⟩) hS (fun q _ h => hFc q h) hFc (fun kc9 ks9 r9 u9 t9 H locs ekc eks ht hvm e9 hB hz1 hk1 hS => ?_)
  have e7 : kc = kc9 := by omega
  have e8 : ks = ks9 := by omega
  subst e7 e8
  have e9 : r_6 = r9 := e9
  subst e9
  replace hP := x_keep hP hk1
  clear hFc hk1 hz1 hvm hB ht ekc eks hPc hDc hKc
  refine lv_aload_n hx hb d_Law_law_726 rfl (lv_at hl 2 rfl) ?_
  refine lv_aload_n hx hb d_Law_law_727 rfl (lv_at hl 0 rfl) ?_
  refine lv_iload hx hb d_Law_law_728 (lv_at hl 4 rfl) ?_
  refine lv_iconst (v := 1) hx hb d_Law_law_730 (by decide) ?_
  refine lv_iadd hx hb d_Law_law_731 ?_
  obtain ⟨h_7, hm⟩ := ck_some hm
  refine va_sld hx hb hC.1 hC.2.1 hC.2.2.1 hS h_7 d_Law_law_732 ?_
  refine lv_topi (fun x_8 ex_8 => ?_)
  replace hm := ob1_at ex_8 hm
  refine lv_aload_n hx hb d_Law_law_733 rfl (lv_at hl 0 rfl) ?_
  refine lv_iload hx hb d_Law_law_734 (lv_at hl 4 rfl) ?_
  refine lv_iconst (v := 2) hx hb d_Law_law_736 (by decide) ?_
  refine lv_iadd hx hb d_Law_law_737 ?_
  obtain ⟨h_9, hm⟩ := ck_some hm
  refine va_sld hx hb hC.1 hC.2.1 hC.2.2.1 hS h_9 d_Law_law_738 ?_
  refine lv_topi (fun x_10 ex_10 => ?_)
  replace hm := ob1_at ex_10 hm
  obtain ⟨mi_13, mj_14, ma_15, mb_16, r_12, h_11, hm⟩ := om_some hm
  obtain ⟨hPc, hDc⟩ := v_part hP hD
  have hFc := x_free hDc hS hA
  refine xg_calli (va_runV (As := [.int x_8, .int x_10]) (rest := [.int r_6]) ⟨hx, hb, hml, hown, hts⟩ (x_Model_procedure l dC dI cI cJ cB adK adV adA h v H.size n h_11) (cwV 2 hts (tw_GV tw_law cw_Model_procedure lk_Law_105 in_Model_procedure sel_Model_procedure ini_Model) rfl rfl rfl ⟨rfl, hd_Model_procedure⟩ ⟨Nat.le_of_ble_eq_true rfl, Nat.le_of_ble_eq_true rfl⟩) (ypV hK hPc hDc hS hE hFc yo_12 rfl) rfl rfl hl.1 rfl (lv_room (Nat.le_of_ble_eq_true rfl)) d_Law_law_739 ⟨show kc + 0 ≤ 601024 by omega, show ks + 0 ≤ 7293000 by omega⟩) hS (fun q _ h => hFc q h) hFc (fun kc9 ks9 r9 u9 t9 H locs ekc eks ht hvm e9 hB hz1 hk1 hS => ?_)
  have e7 : kc = kc9 := by omega
  have e8 : ks = ks9 := by omega
  subst e7 e8
  have e9 : r_12 = r9 := e9
  subst e9
  obtain ⟨hP1, hD1⟩ := y_aft hB ht (fun _ h9 => h9)
  obtain ⟨hP, hD⟩ := v_back hP hD hk1 hFc hP1 hD1
  clear hP1 hD1
  clear hFc hk1 hz1 hvm hB ht ekc eks hPc hDc
  refine lv_icmp_eq (tgt := 797) hx hb d_Law_law_742 (by decide) (fun c_17 => ?_) (fun c_17 => ?_)
  · replace hm := if_t c_17 hm
    exact lb_Law_797 l hf hA hAs C0 hL9 dC dI cI cJ cB hK adK adV adA hE hN hX hC n rc_33 Hrc_33 _ _ _ _ _ _ _ _ _ _ _ hm o hkc hks _ _ _ hP hD hS (lv_sub hl [0, 1, 2, 3, 4] rfl)
  · replace hm := if_f c_17 hm
    refine lv_iconst (v := 0) hx hb d_Law_law_745 (by decide) ?_
    exact absurd (re1 hm) (by decide)
def m_Law_b747 (n L : Nat) (xs : Nat → Int32) (rc_33 : (Nat → Int32) → (Nat → Nat → Int32) → (Nat → Nat) → (Nat → Int32) → (Nat → Int64) → (Nat → Nat → Int32) → (Nat → Nat → Int64) → (Nat → Int64) → (Nat) → (Nat) → Int32 → Option (Int32)) (xi : Nat → Int32) (xa : Nat → Nat → Int32) (xg : Nat → Nat) (mi : Nat → Int32) (mj : Nat → Int64) (ma : Nat → Nat → Int32) (mb : Nat → Nat → Int64) (fo : Nat → Int64) (kc : Nat) (ks : Nat) (v4 : Int32) : Option (Int32) := ck ((v4 + 1)) L (ob1 (xs (v4 + 1).toNatClampNeg : Int32) (fun x_2 => ck ((v4 + 2)) L (ob1 (xs (v4 + 2).toNatClampNeg : Int32) (fun x_4 => ob0 (m_World_call n xg xi xa x_2 x_4) (fun r_6 => ck ((v4 + 1)) L (ob1 (xs (v4 + 1).toNatClampNeg : Int32) (fun x_8 => ck ((v4 + 2)) L (ob1 (xs (v4 + 2).toNatClampNeg : Int32) (fun x_10 => om (m_Model_call n mi mj ma mb x_8 x_10) (fun mi_13 mj_14 ma_15 mb_16 r_12 => if r_6 = r_12 then m_Law_b797 n L xs rc_33 xi xa xg mi_13 mj_14 ma_15 mb_16 fo kc ks v4 else some 0))))))))))
set_option maxHeartbeats 4000000 in
set_option maxRecDepth 100000 in
theorem lb_Law_747 {p : Program} {e : Env} {s : State} {m : MethodId} {below : List Frame} {meth : Method} {c : Code} (l : Launch) (hf : l.flags = pinnedFlags ++ [noTraceFlag]) {b L : Nat} {xs : Nat → Int32} {A : Nat → Prop} (hA : ∀ q, s.heap.size ≤ q → A q) (hAs : ∀ q, A q → s.heap.size ≤ q) (C0 : lw_At p s m meth c b L xs) (hL9 : L < 2 ^ 31) (dC : Nat → ClassId) (dI : Nat → Nat → Nat) (cI cJ cB : ClassId) (hK : va_K (dC, dI) classes [(cI, .int), (cJ, .long), (cB, .byte)] s) (adK adV adA : Nat → Nat) (hE : tw_E adK adV adA A s s.heap) (hN : tw_N A s s.heap) (hX : tw_X A s s.heap) (hC : tw_scr b L xs A s s.heap) (n : Nat) {u : Nat → Nat} {h : Nat} {v : Nat → Nat} {o9 : Nat} (rc_33 : (Nat → Int32) → (Nat → Nat → Int32) → (Nat → Nat) → (Nat → Int32) → (Nat → Int64) → (Nat → Nat → Int32) → (Nat → Nat → Int64) → (Nat → Int64) → (Nat) → (Nat) → Int32 → Option (Int32)) (Hrc_33 : ∀ (xi : Nat → Int32) (xa : Nat → Nat → Int32) (xg : Nat → Nat) (mi : Nat → Int32) (mj : Nat → Int64) (ma : Nat → Nat → Int32) (mb : Nat → Nat → Int64) (fo : Nat → Int64) (kc : Nat) (ks : Nat) (v4 : Int32), rc_33 xi xa xg mi mj ma mb fo kc ks v4 = some (1 : Int32) → ∀ (o : Nat → Nat), kc ≤ 601024 → ks ≤ 7293000 → ∀ (H : Heap) (locs : List Loc) (ls : Array Slot), va_P (dC, dI) classes (LT cI cJ cB u o h v o9 xi xa xg mi mj ma mb fo) H → va_D A (LT cI cJ cB u o h v o9 xi xa xg mi mj ma mb fo) → va_S A s.heap H locs → lv_has ls 7 [(0, .ref b), (1, .ref ((u 0))), (2, .ref h), (3, .ref o9), (4, .int v4)] → W p l e room_1 s m #[Value.ref b] below meth c H locs kc ks (lw_Z below #[Value.ref b] s) (F0 m 33 ls [])) (xi : Nat → Int32) (xa : Nat → Nat → Int32) (xg : Nat → Nat) (mi : Nat → Int32) (mj : Nat → Int64) (ma : Nat → Nat → Int32) (mb : Nat → Nat → Int64) (fo : Nat → Int64) (kc : Nat) (ks : Nat) (v4 : Int32) (hm : m_Law_b747 n L xs rc_33 xi xa xg mi mj ma mb fo kc ks v4 = some (1 : Int32)) : ∀ (o : Nat → Nat), kc ≤ 601024 → ks ≤ 7293000 → ∀ (H : Heap) (locs : List Loc) (ls : Array Slot), va_P (dC, dI) classes (LT cI cJ cB u o h v o9 xi xa xg mi mj ma mb fo) H → va_D A (LT cI cJ cB u o h v o9 xi xa xg mi mj ma mb fo) → va_S A s.heap H locs → lv_has ls 7 [(0, .ref b), (1, .ref ((u 0))), (2, .ref h), (3, .ref o9), (4, .int v4)] → W p l e room_1 s m #[Value.ref b] below meth c H locs kc ks (lw_Z below #[Value.ref b] s) (F0 m 747 ls []) := by
  obtain ⟨hx, hb, hr, hml, hown, hts, hXs, hbl, hlocks, hgv⟩ := id C0
  have htt : ∀ w ∈ tw_T, w.before #[Value.ref b] s = true := fun w h => hts w (tw_law w h)
  intro o hkc hks H locs ls hP hD hS hl
  rw [m_Law_b747] at hm
  refine lv_aload_n hx hb d_Law_law_747 rfl (lv_at hl 1 rfl) ?_
  refine lv_aload_n hx hb d_Law_law_748 rfl (lv_at hl 0 rfl) ?_
  refine lv_iload hx hb d_Law_law_749 (lv_at hl 4 rfl) ?_
  refine lv_iconst (v := 1) hx hb d_Law_law_751 (by decide) ?_
  refine lv_iadd hx hb d_Law_law_752 ?_
  obtain ⟨h_1, hm⟩ := ck_some hm
  refine va_sld hx hb hC.1 hC.2.1 hC.2.2.1 hS h_1 d_Law_law_753 ?_
  refine lv_topi (fun x_2 ex_2 => ?_)
  replace hm := ob1_at ex_2 hm
  refine lv_aload_n hx hb d_Law_law_754 rfl (lv_at hl 0 rfl) ?_
  refine lv_iload hx hb d_Law_law_755 (lv_at hl 4 rfl) ?_
  refine lv_iconst (v := 2) hx hb d_Law_law_757 (by decide) ?_
  refine lv_iadd hx hb d_Law_law_758 ?_
  obtain ⟨h_3, hm⟩ := ck_some hm
  refine va_sld hx hb hC.1 hC.2.1 hC.2.2.1 hS h_3 d_Law_law_759 ?_
  refine lv_topi (fun x_4 ex_4 => ?_)
  replace hm := ob1_at ex_4 hm
  obtain ⟨r_6, h_5, hm⟩ := ob0_some hm
  obtain ⟨hPc, hDc⟩ := v_partL hP hD
  have hFc := x_free0 hS hA
  have hKc := hK.sub (tys' := [(cI, .int)]) [0] rfl
  refine xg_calli (va_runV (As := [.int x_2, .int x_4]) (rest := []) ⟨hx, hb, hml, hown, hts⟩ (x_World_call l dC dI cI adK adV adA u o xg H.size n h_5) (cwV 2 hts (tw_GV tw_law cw_World_call lk_Law_106 in_World_call sel_World_call ini_World) rfl rfl rfl ⟨rfl, hd_World_call⟩ ⟨Nat.le_of_ble_eq_true rfl, Nat.le_of_ble_eq_true rfl⟩) (xpVr hKc hPc hS hE hFc xo_0 rfl) rfl rfl hl.1 rfl (lv_room (Nat.le_of_ble_eq_true rfl)) d_Law_law_760 ⟨show kc + 0 ≤ 601024 by omega, show ks + 0 ≤ 7293000 by omega⟩) hS (fun q _ h => hFc q h) hFc (fun kc9 ks9 r9 u9 t9 H locs ekc eks ht hvm e9 hB hz1 hk1 hS => ?_)
  have e7 : kc = kc9 := by omega
  have e8 : ks = ks9 := by omega
  subst e7 e8
  have e9 : r_6 = r9 := e9
  subst e9
  replace hP := x_keep hP hk1
  clear hFc hk1 hz1 hvm hB ht ekc eks hPc hDc hKc
  refine lv_aload_n hx hb d_Law_law_763 rfl (lv_at hl 2 rfl) ?_
  refine lv_aload_n hx hb d_Law_law_764 rfl (lv_at hl 0 rfl) ?_
  refine lv_iload hx hb d_Law_law_765 (lv_at hl 4 rfl) ?_
  refine lv_iconst (v := 1) hx hb d_Law_law_767 (by decide) ?_
  refine lv_iadd hx hb d_Law_law_768 ?_
  obtain ⟨h_7, hm⟩ := ck_some hm
  refine va_sld hx hb hC.1 hC.2.1 hC.2.2.1 hS h_7 d_Law_law_769 ?_
  refine lv_topi (fun x_8 ex_8 => ?_)
  replace hm := ob1_at ex_8 hm
  refine lv_aload_n hx hb d_Law_law_770 rfl (lv_at hl 0 rfl) ?_
  refine lv_iload hx hb d_Law_law_771 (lv_at hl 4 rfl) ?_
  refine lv_iconst (v := 2) hx hb d_Law_law_773 (by decide) ?_
  refine lv_iadd hx hb d_Law_law_774 ?_
  obtain ⟨h_9, hm⟩ := ck_some hm
  refine va_sld hx hb hC.1 hC.2.1 hC.2.2.1 hS h_9 d_Law_law_775 ?_
  refine lv_topi (fun x_10 ex_10 => ?_)
  replace hm := ob1_at ex_10 hm
  obtain ⟨mi_13, mj_14, ma_15, mb_16, r_12, h_11, hm⟩ := om_some hm
  obtain ⟨hPc, hDc⟩ := v_part hP hD
  have hFc := x_free hDc hS hA
  refine xg_calli (va_runV (As := [.int x_8, .int x_10]) (rest := [.int r_6]) ⟨hx, hb, hml, hown, hts⟩ (x_Model_call l dC dI cI cJ cB adK adV adA h v H.size n h_11) (cwV 2 hts (tw_GV tw_law cw_Model_call lk_Law_109 in_Model_call sel_Model_call ini_Model) rfl rfl rfl ⟨rfl, hd_Model_call⟩ ⟨Nat.le_of_ble_eq_true rfl, Nat.le_of_ble_eq_true rfl⟩) (ypV hK hPc hDc hS hE hFc yo_12 rfl) rfl rfl hl.1 rfl (lv_room (Nat.le_of_ble_eq_true rfl)) d_Law_law_776 ⟨show kc + 0 ≤ 601024 by omega, show ks + 0 ≤ 7293000 by omega⟩) hS (fun q _ h => hFc q h) hFc (fun kc9 ks9 r9 u9 t9 H locs ekc eks ht hvm e9 hB hz1 hk1 hS => ?_)
  have e7 : kc = kc9 := by omega
  have e8 : ks = ks9 := by omega
  subst e7 e8
  have e9 : r_12 = r9 := e9
  subst e9
  obtain ⟨hP1, hD1⟩ := y_aft hB ht (fun _ h9 => h9)
  obtain ⟨hP, hD⟩ := v_back hP hD hk1 hFc hP1 hD1
  clear hP1 hD1
  clear hFc hk1 hz1 hvm hB ht ekc eks hPc hDc
  refine lv_icmp_eq (tgt := 797) hx hb d_Law_law_779 (by decide) (fun c_17 => ?_) (fun c_17 => ?_)
  · replace hm := if_t c_17 hm
    exact lb_Law_797 l hf hA hAs C0 hL9 dC dI cI cJ cB hK adK adV adA hE hN hX hC n rc_33 Hrc_33 _ _ _ _ _ _ _ _ _ _ _ hm o hkc hks _ _ _ hP hD hS (lv_sub hl [0, 1, 2, 3, 4] rfl)
  · replace hm := if_f c_17 hm
    refine lv_iconst (v := 0) hx hb d_Law_law_782 (by decide) ?_
    exact absurd (re1 hm) (by decide)
def m_Law_b784 (n L : Nat) (xs : Nat → Int32) (rc_33 : (Nat → Int32) → (Nat → Nat → Int32) → (Nat → Nat) → (Nat → Int32) → (Nat → Int64) → (Nat → Nat → Int32) → (Nat → Nat → Int64) → (Nat → Int64) → (Nat) → (Nat) → Int32 → Option (Int32)) (xi : Nat → Int32) (xa : Nat → Nat → Int32) (xg : Nat → Nat) (mi : Nat → Int32) (mj : Nat → Int64) (ma : Nat → Nat → Int32) (mb : Nat → Nat → Int64) (fo : Nat → Int64) (kc : Nat) (ks : Nat) (v4 : Int32) : Option (Int32) := ob0 (m_World_sum n xg xi xa) (fun r_2 => om (m_Model_sum n mi mj ma mb) (fun mi_5 mj_6 ma_7 mb_8 r_4 => if r_2 = r_4 then m_Law_b797 n L xs rc_33 xi xa xg mi_5 mj_6 ma_7 mb_8 fo kc ks v4 else some 0))
set_option maxHeartbeats 4000000 in
set_option maxRecDepth 100000 in
theorem lb_Law_784 {p : Program} {e : Env} {s : State} {m : MethodId} {below : List Frame} {meth : Method} {c : Code} (l : Launch) (hf : l.flags = pinnedFlags ++ [noTraceFlag]) {b L : Nat} {xs : Nat → Int32} {A : Nat → Prop} (hA : ∀ q, s.heap.size ≤ q → A q) (hAs : ∀ q, A q → s.heap.size ≤ q) (C0 : lw_At p s m meth c b L xs) (hL9 : L < 2 ^ 31) (dC : Nat → ClassId) (dI : Nat → Nat → Nat) (cI cJ cB : ClassId) (hK : va_K (dC, dI) classes [(cI, .int), (cJ, .long), (cB, .byte)] s) (adK adV adA : Nat → Nat) (hE : tw_E adK adV adA A s s.heap) (hN : tw_N A s s.heap) (hX : tw_X A s s.heap) (hC : tw_scr b L xs A s s.heap) (n : Nat) {u : Nat → Nat} {h : Nat} {v : Nat → Nat} {o9 : Nat} (rc_33 : (Nat → Int32) → (Nat → Nat → Int32) → (Nat → Nat) → (Nat → Int32) → (Nat → Int64) → (Nat → Nat → Int32) → (Nat → Nat → Int64) → (Nat → Int64) → (Nat) → (Nat) → Int32 → Option (Int32)) (Hrc_33 : ∀ (xi : Nat → Int32) (xa : Nat → Nat → Int32) (xg : Nat → Nat) (mi : Nat → Int32) (mj : Nat → Int64) (ma : Nat → Nat → Int32) (mb : Nat → Nat → Int64) (fo : Nat → Int64) (kc : Nat) (ks : Nat) (v4 : Int32), rc_33 xi xa xg mi mj ma mb fo kc ks v4 = some (1 : Int32) → ∀ (o : Nat → Nat), kc ≤ 601024 → ks ≤ 7293000 → ∀ (H : Heap) (locs : List Loc) (ls : Array Slot), va_P (dC, dI) classes (LT cI cJ cB u o h v o9 xi xa xg mi mj ma mb fo) H → va_D A (LT cI cJ cB u o h v o9 xi xa xg mi mj ma mb fo) → va_S A s.heap H locs → lv_has ls 7 [(0, .ref b), (1, .ref ((u 0))), (2, .ref h), (3, .ref o9), (4, .int v4)] → W p l e room_1 s m #[Value.ref b] below meth c H locs kc ks (lw_Z below #[Value.ref b] s) (F0 m 33 ls [])) (xi : Nat → Int32) (xa : Nat → Nat → Int32) (xg : Nat → Nat) (mi : Nat → Int32) (mj : Nat → Int64) (ma : Nat → Nat → Int32) (mb : Nat → Nat → Int64) (fo : Nat → Int64) (kc : Nat) (ks : Nat) (v4 : Int32) (hm : m_Law_b784 n L xs rc_33 xi xa xg mi mj ma mb fo kc ks v4 = some (1 : Int32)) : ∀ (o : Nat → Nat), kc ≤ 601024 → ks ≤ 7293000 → ∀ (H : Heap) (locs : List Loc) (ls : Array Slot), va_P (dC, dI) classes (LT cI cJ cB u o h v o9 xi xa xg mi mj ma mb fo) H → va_D A (LT cI cJ cB u o h v o9 xi xa xg mi mj ma mb fo) → va_S A s.heap H locs → lv_has ls 7 [(0, .ref b), (1, .ref ((u 0))), (2, .ref h), (3, .ref o9), (4, .int v4)] → W p l e room_1 s m #[Value.ref b] below meth c H locs kc ks (lw_Z below #[Value.ref b] s) (F0 m 784 ls []) := by
  obtain ⟨hx, hb, hr, hml, hown, hts, hXs, hbl, hlocks, hgv⟩ := id C0
  have htt : ∀ w ∈ tw_T, w.before #[Value.ref b] s = true := fun w h => hts w (tw_law w h)
  intro o hkc hks H locs ls hP hD hS hl
  rw [m_Law_b784] at hm
  refine lv_aload_n hx hb d_Law_law_784 rfl (lv_at hl 1 rfl) ?_
  obtain ⟨r_2, h_1, hm⟩ := ob0_some hm
  obtain ⟨hPc, hDc⟩ := v_partL hP hD
  have hFc := x_free0 hS hA
  have hKc := hK.sub (tys' := [(cI, .int)]) [0] rfl
  refine xg_calli (va_runV (As := []) (rest := []) ⟨hx, hb, hml, hown, hts⟩ (x_World_sum l dC dI cI adK adV adA u o xg H.size n h_1) (cwV 0 hts (tw_GV tw_law cw_World_sum lk_Law_110 in_World_sum sel_World_sum ini_World) rfl rfl rfl ⟨rfl, hd_World_sum⟩ ⟨Nat.le_of_ble_eq_true rfl, Nat.le_of_ble_eq_true rfl⟩) (xpVr hKc hPc hS hE hFc xo_0 rfl) rfl rfl hl.1 rfl (lv_room (Nat.le_of_ble_eq_true rfl)) d_Law_law_785 ⟨show kc + 0 ≤ 601024 by omega, show ks + 0 ≤ 7293000 by omega⟩) hS (fun q _ h => hFc q h) hFc (fun kc9 ks9 r9 u9 t9 H locs ekc eks ht hvm e9 hB hz1 hk1 hS => ?_)
  have e7 : kc = kc9 := by omega
  have e8 : ks = ks9 := by omega
  subst e7 e8
  have e9 : r_2 = r9 := e9
  subst e9
  replace hP := x_keep hP hk1
  clear hFc hk1 hz1 hvm hB ht ekc eks hPc hDc hKc
  refine lv_aload_n hx hb d_Law_law_788 rfl (lv_at hl 2 rfl) ?_
  obtain ⟨mi_5, mj_6, ma_7, mb_8, r_4, h_3, hm⟩ := om_some hm
  obtain ⟨hPc, hDc⟩ := v_part hP hD
  have hFc := x_free hDc hS hA
  refine xg_calli (va_runV (As := []) (rest := [.int r_2]) ⟨hx, hb, hml, hown, hts⟩ (x_Model_sum l dC dI cI cJ cB adK adV adA h v H.size n h_3) (cwV 0 hts (tw_GV tw_law cw_Model_sum lk_Law_113 in_Model_sum sel_Model_sum ini_Model) rfl rfl rfl ⟨rfl, hd_Model_sum⟩ ⟨Nat.le_of_ble_eq_true rfl, Nat.le_of_ble_eq_true rfl⟩) (ypV hK hPc hDc hS hE hFc yo_12 rfl) rfl rfl hl.1 rfl (lv_room (Nat.le_of_ble_eq_true rfl)) d_Law_law_789 ⟨show kc + 0 ≤ 601024 by omega, show ks + 0 ≤ 7293000 by omega⟩) hS (fun q _ h => hFc q h) hFc (fun kc9 ks9 r9 u9 t9 H locs ekc eks ht hvm e9 hB hz1 hk1 hS => ?_)
  have e7 : kc = kc9 := by omega
  have e8 : ks = ks9 := by omega
  subst e7 e8
  have e9 : r_4 = r9 := e9
  subst e9
  obtain ⟨hP1, hD1⟩ := y_aft hB ht (fun _ h9 => h9)
  obtain ⟨hP, hD⟩ := v_back hP hD hk1 hFc hP1 hD1
  clear hP1 hD1
  clear hFc hk1 hz1 hvm hB ht ekc eks hPc hDc
  refine lv_icmp_eq (tgt := 797) hx hb d_Law_law_792 (by decide) (fun c_9 => ?_) (fun c_9 => ?_)
  · replace hm := if_t c_9 hm
    exact lb_Law_797 l hf hA hAs C0 hL9 dC dI cI cJ cB hK adK adV adA hE hN hX hC n rc_33 Hrc_33 _ _ _ _ _ _ _ _ _ _ _ hm o hkc hks _ _ _ hP hD hS (lv_sub hl [0, 1, 2, 3, 4] rfl)
  · replace hm := if_f c_9 hm
    refine lv_iconst (v := 0) hx hb d_Law_law_795 (by decide) ?_
    exact absurd (re1 hm) (by decide)
def m_Law_b33 (n L : Nat) (xs : Nat → Int32) : Nat → (Nat → Int32) → (Nat → Nat → Int32) → (Nat → Nat) → (Nat → Int32) → (Nat → Int64) → (Nat → Nat → Int32) → (Nat → Nat → Int64) → (Nat → Int64) → (Nat) → (Nat) → Int32 → Option (Int32)
  | 0, _, _, _, _, _, _, _, _, _, _, _ => none
  | f + 1, xi, xa, xg, mi, mj, ma, mb, fo, kc, ks, v4 => if (((Int32.ofNat L) - 6)) < v4 then some 1 else ck v4 L (ob1 (xs v4.toNatClampNeg : Int32) (fun x_3 => ob1 (x_3 &&& 31 : Int32) (fun x_4 => if x_4 = 0 then m_Law_b140 n L xs (m_Law_b33 n L xs f) xi xa xg mi mj ma mb fo kc ks v4 else if x_4 = 1 then m_Law_b213 n L xs (m_Law_b33 n L xs f) xi xa xg mi mj ma mb fo kc ks v4 else if x_4 = 2 then m_Law_b238 n L xs (m_Law_b33 n L xs f) xi xa xg mi mj ma mb fo kc ks v4 else if x_4 = 3 then m_Law_b251 n L xs (m_Law_b33 n L xs f) xi xa xg mi mj ma mb fo kc ks v4 else if x_4 = 4 then m_Law_b264 n L xs (m_Law_b33 n L xs f) xi xa xg mi mj ma mb fo kc ks v4 else if x_4 = 5 then m_Law_b289 n L xs (m_Law_b33 n L xs f) xi xa xg mi mj ma mb fo kc ks v4 else if x_4 = 6 then m_Law_b314 n L xs (m_Law_b33 n L xs f) xi xa xg mi mj ma mb fo kc ks v4 else if x_4 = 7 then m_Law_b339 n L xs (m_Law_b33 n L xs f) xi xa xg mi mj ma mb fo kc ks v4 else if x_4 = 8 then m_Law_b352 n L xs (m_Law_b33 n L xs f) xi xa xg mi mj ma mb fo kc ks v4 else if x_4 = 9 then m_Law_b377 n L xs (m_Law_b33 n L xs f) xi xa xg mi mj ma mb fo kc ks v4 else if x_4 = 10 then m_Law_b457 n L xs (m_Law_b33 n L xs f) xi xa xg mi mj ma mb fo kc ks v4 else if x_4 = 11 then m_Law_b537 n L xs (m_Law_b33 n L xs f) xi xa xg mi mj ma mb fo kc ks v4 else if x_4 = 12 then m_Law_b574 n L xs (m_Law_b33 n L xs f) xi xa xg mi mj ma mb fo kc ks v4 else if x_4 = 13 then m_Law_b611 n L xs (m_Law_b33 n L xs f) xi xa xg mi mj ma mb fo kc ks v4 else if x_4 = 14 then m_Law_b636 n L xs (m_Law_b33 n L xs f) xi xa xg mi mj ma mb fo kc ks v4 else if x_4 = 15 then m_Law_b673 n L xs (m_Law_b33 n L xs f) xi xa xg mi mj ma mb fo kc ks v4 else if x_4 = 16 then m_Law_b710 n L xs (m_Law_b33 n L xs f) xi xa xg mi mj ma mb fo kc ks v4 else if x_4 = 17 then m_Law_b747 n L xs (m_Law_b33 n L xs f) xi xa xg mi mj ma mb fo kc ks v4 else if x_4 = 18 then m_Law_b784 n L xs (m_Law_b33 n L xs f) xi xa xg mi mj ma mb fo kc ks v4 else m_Law_b797 n L xs (m_Law_b33 n L xs f) xi xa xg mi mj ma mb fo kc ks v4)))
set_option maxHeartbeats 4000000 in
set_option maxRecDepth 100000 in
theorem lb_Law_33 {p : Program} {e : Env} {s : State} {m : MethodId} {below : List Frame} {meth : Method} {c : Code} (l : Launch) (hf : l.flags = pinnedFlags ++ [noTraceFlag]) {b L : Nat} {xs : Nat → Int32} {A : Nat → Prop} (hA : ∀ q, s.heap.size ≤ q → A q) (hAs : ∀ q, A q → s.heap.size ≤ q) (C0 : lw_At p s m meth c b L xs) (hL9 : L < 2 ^ 31) (dC : Nat → ClassId) (dI : Nat → Nat → Nat) (cI cJ cB : ClassId) (hK : va_K (dC, dI) classes [(cI, .int), (cJ, .long), (cB, .byte)] s) (adK adV adA : Nat → Nat) (hE : tw_E adK adV adA A s s.heap) (hN : tw_N A s s.heap) (hX : tw_X A s s.heap) (hC : tw_scr b L xs A s s.heap) (n : Nat) {u : Nat → Nat} {h : Nat} {v : Nat → Nat} {o9 : Nat} : ∀ (f : Nat) (xi : Nat → Int32) (xa : Nat → Nat → Int32) (xg : Nat → Nat) (mi : Nat → Int32) (mj : Nat → Int64) (ma : Nat → Nat → Int32) (mb : Nat → Nat → Int64) (fo : Nat → Int64) (kc : Nat) (ks : Nat) (v4 : Int32), m_Law_b33 n L xs f xi xa xg mi mj ma mb fo kc ks v4 = some (1 : Int32) → ∀ (o : Nat → Nat), kc ≤ 601024 → ks ≤ 7293000 → ∀ (H : Heap) (locs : List Loc) (ls : Array Slot), va_P (dC, dI) classes (LT cI cJ cB u o h v o9 xi xa xg mi mj ma mb fo) H → va_D A (LT cI cJ cB u o h v o9 xi xa xg mi mj ma mb fo) → va_S A s.heap H locs → lv_has ls 7 [(0, .ref b), (1, .ref ((u 0))), (2, .ref h), (3, .ref o9), (4, .int v4)] → W p l e room_1 s m #[Value.ref b] below meth c H locs kc ks (lw_Z below #[Value.ref b] s) (F0 m 33 ls []) := by
  obtain ⟨hx, hb, hr, hml, hown, hts, hXs, hbl, hlocks, hgv⟩ := id C0
  have htt : ∀ w ∈ tw_T, w.before #[Value.ref b] s = true := fun w h => hts w (tw_law w h)
  intro f
  induction f with
  | zero =>
    intro xi xa xg mi mj ma mb fo kc ks v4 hm
    rw [m_Law_b33] at hm
    cases hm
  | succ f ih =>
    intro xi xa xg mi mj ma mb fo kc ks v4 hm o hkc hks H locs ls hP hD hS hl
    rw [m_Law_b33] at hm
    refine lv_iload hx hb d_Law_law_33 (lv_at hl 4 rfl) ?_
    refine lv_aload_n hx hb d_Law_law_35 rfl (lv_at hl 0 rfl) ?_
    refine va_slen hx hb hC.1 hC.2.1 hC.2.2.1 hS d_Law_law_36 ?_
    refine lv_bipush (v := 6) hx hb d_Law_law_37 (by decide) ?_
    refine lv_isub hx hb d_Law_law_39 ?_
    refine lv_icmp_gt (tgt := 803) hx hb d_Law_law_40 (by decide) (fun c_1 => ?_) (fun c_1 => ?_)
    · replace hm := if_t c_1 hm
      exact law_end l hx hb hr hlocks hAs hkc hks hS
    · replace hm := if_f c_1 hm
      refine lv_aload_n hx hb d_Law_law_43 rfl (lv_at hl 0 rfl) ?_
      refine lv_iload hx hb d_Law_law_44 (lv_at hl 4 rfl) ?_
      obtain ⟨h_2, hm⟩ := ck_some hm
      refine va_sld hx hb hC.1 hC.2.1 hC.2.2.1 hS h_2 d_Law_law_46 ?_
      refine lv_topi (fun x_3 ex_3 => ?_)
      replace hm := ob1_at ex_3 hm
      refine lv_bipush (v := 31) hx hb d_Law_law_47 (by decide) ?_
      refine lv_iand hx hb d_Law_law_49 ?_
      refine lv_topi (fun x_4 ex_4 => ?_)
      replace hm := ob1_at ex_4 hm
      rcases Classical.em (x_4 = 0) with c_5 | c_5
      · replace hm := if_t c_5 hm
        refine lv_tableIn (x := x_4) (tgt := 140) hx hb d_Law_law_50 (by rw [c_5]; decide) (by rw [c_5]; decide) (by rw [c_5]; rfl) (by decide) ?_
        exact lb_Law_140 l hf hA hAs C0 hL9 dC dI cI cJ cB hK adK adV adA hE hN hX hC n (m_Law_b33 n L xs f) ih _ _ _ _ _ _ _ _ _ _ _ hm o hkc hks _ _ _ hP hD hS (lv_sub hl [0, 1, 2, 3, 4] rfl)
      replace hm := if_f c_5 hm
      rcases Classical.em (x_4 = 1) with c_6 | c_6
      · replace hm := if_t c_6 hm
        refine lv_tableIn (x := x_4) (tgt := 213) hx hb d_Law_law_50 (by rw [c_6]; decide) (by rw [c_6]; decide) (by rw [c_6]; rfl) (by decide) ?_
        exact lb_Law_213 l hf hA hAs C0 hL9 dC dI cI cJ cB hK adK adV adA hE hN hX hC n (m_Law_b33 n L xs f) ih _ _ _ _ _ _ _ _ _ _ _ hm o hkc hks _ _ _ hP hD hS (lv_sub hl [0, 1, 2, 3, 4] rfl)
      replace hm := if_f c_6 hm
      rcases Classical.em (x_4 = 2) with c_7 | c_7
      · replace hm := if_t c_7 hm
        refine lv_tableIn (x := x_4) (tgt := 238) hx hb d_Law_law_50 (by rw [c_7]; decide) (by rw [c_7]; decide) (by rw [c_7]; rfl) (by decide) ?_
        exact lb_Law_238 l hf hA hAs C0 hL9 dC dI cI cJ cB hK adK adV adA hE hN hX hC n (m_Law_b33 n L xs f) ih _ _ _ _ _ _ _ _ _ _ _ hm o hkc hks _ _ _ hP hD hS (lv_sub hl [0, 1, 2, 3, 4] rfl)
      replace hm := if_f c_7 hm
      rcases Classical.em (x_4 = 3) with c_8 | c_8
      · replace hm := if_t c_8 hm
        refine lv_tableIn (x := x_4) (tgt := 251) hx hb d_Law_law_50 (by rw [c_8]; decide) (by rw [c_8]; decide) (by rw [c_8]; rfl) (by decide) ?_
        exact lb_Law_251 l hf hA hAs C0 hL9 dC dI cI cJ cB hK adK adV adA hE hN hX hC n (m_Law_b33 n L xs f) ih _ _ _ _ _ _ _ _ _ _ _ hm o hkc hks _ _ _ hP hD hS (lv_sub hl [0, 1, 2, 3, 4] rfl)
      replace hm := if_f c_8 hm
      rcases Classical.em (x_4 = 4) with c_9 | c_9
      · replace hm := if_t c_9 hm
        refine lv_tableIn (x := x_4) (tgt := 264) hx hb d_Law_law_50 (by rw [c_9]; decide) (by rw [c_9]; decide) (by rw [c_9]; rfl) (by decide) ?_
        exact lb_Law_264 l hf hA hAs C0 hL9 dC dI cI cJ cB hK adK adV adA hE hN hX hC n (m_Law_b33 n L xs f) ih _ _ _ _ _ _ _ _ _ _ _ hm o hkc hks _ _ _ hP hD hS (lv_sub hl [0, 1, 2, 3, 4] rfl)
      replace hm := if_f c_9 hm
      rcases Classical.em (x_4 = 5) with c_10 | c_10
      · replace hm := if_t c_10 hm
        refine lv_tableIn (x := x_4) (tgt := 289) hx hb d_Law_law_50 (by rw [c_10]; decide) (by rw [c_10]; decide) (by rw [c_10]; rfl) (by decide) ?_
        exact lb_Law_289 l hf hA hAs C0 hL9 dC dI cI cJ cB hK adK adV adA hE hN hX hC n (m_Law_b33 n L xs f) ih _ _ _ _ _ _ _ _ _ _ _ hm o hkc hks _ _ _ hP hD hS (lv_sub hl [0, 1, 2, 3, 4] rfl)
      replace hm := if_f c_10 hm
      rcases Classical.em (x_4 = 6) with c_11 | c_11
      · replace hm := if_t c_11 hm
        refine lv_tableIn (x := x_4) (tgt := 314) hx hb d_Law_law_50 (by rw [c_11]; decide) (by rw [c_11]; decide) (by rw [c_11]; rfl) (by decide) ?_
        exact lb_Law_314 l hf hA hAs C0 hL9 dC dI cI cJ cB hK adK adV adA hE hN hX hC n (m_Law_b33 n L xs f) ih _ _ _ _ _ _ _ _ _ _ _ hm o hkc hks _ _ _ hP hD hS (lv_sub hl [0, 1, 2, 3, 4] rfl)
      replace hm := if_f c_11 hm
      rcases Classical.em (x_4 = 7) with c_12 | c_12
      · replace hm := if_t c_12 hm
        refine lv_tableIn (x := x_4) (tgt := 339) hx hb d_Law_law_50 (by rw [c_12]; decide) (by rw [c_12]; decide) (by rw [c_12]; rfl) (by decide) ?_
        exact lb_Law_339 l hf hA hAs C0 hL9 dC dI cI cJ cB hK adK adV adA hE hN hX hC n (m_Law_b33 n L xs f) ih _ _ _ _ _ _ _ _ _ _ _ hm o hkc hks _ _ _ hP hD hS (lv_sub hl [0, 1, 2, 3, 4] rfl)
      replace hm := if_f c_12 hm
      rcases Classical.em (x_4 = 8) with c_13 | c_13
      · replace hm := if_t c_13 hm
        refine lv_tableIn (x := x_4) (tgt := 352) hx hb d_Law_law_50 (by rw [c_13]; decide) (by rw [c_13]; decide) (by rw [c_13]; rfl) (by decide) ?_
        exact lb_Law_352 l hf hA hAs C0 hL9 dC dI cI cJ cB hK adK adV adA hE hN hX hC n (m_Law_b33 n L xs f) ih _ _ _ _ _ _ _ _ _ _ _ hm o hkc hks _ _ _ hP hD hS (lv_sub hl [0, 1, 2, 3, 4] rfl)
      replace hm := if_f c_13 hm
      rcases Classical.em (x_4 = 9) with c_14 | c_14
      · replace hm := if_t c_14 hm
        refine lv_tableIn (x := x_4) (tgt := 377) hx hb d_Law_law_50 (by rw [c_14]; decide) (by rw [c_14]; decide) (by rw [c_14]; rfl) (by decide) ?_
        exact lb_Law_377 l hf hA hAs C0 hL9 dC dI cI cJ cB hK adK adV adA hE hN hX hC n (m_Law_b33 n L xs f) ih _ _ _ _ _ _ _ _ _ _ _ hm o hkc hks _ _ _ hP hD hS (lv_sub hl [0, 1, 2, 3, 4] rfl)
      replace hm := if_f c_14 hm
      rcases Classical.em (x_4 = 10) with c_15 | c_15
      · replace hm := if_t c_15 hm
        refine lv_tableIn (x := x_4) (tgt := 457) hx hb d_Law_law_50 (by rw [c_15]; decide) (by rw [c_15]; decide) (by rw [c_15]; rfl) (by decide) ?_
        exact lb_Law_457 l hf hA hAs C0 hL9 dC dI cI cJ cB hK adK adV adA hE hN hX hC n (m_Law_b33 n L xs f) ih _ _ _ _ _ _ _ _ _ _ _ hm o hkc hks _ _ _ hP hD hS (lv_sub hl [0, 1, 2, 3, 4] rfl)
      replace hm := if_f c_15 hm
      rcases Classical.em (x_4 = 11) with c_16 | c_16
      · replace hm := if_t c_16 hm
        refine lv_tableIn (x := x_4) (tgt := 537) hx hb d_Law_law_50 (by rw [c_16]; decide) (by rw [c_16]; decide) (by rw [c_16]; rfl) (by decide) ?_
        exact lb_Law_537 l hf hA hAs C0 hL9 dC dI cI cJ cB hK adK adV adA hE hN hX hC n (m_Law_b33 n L xs f) ih _ _ _ _ _ _ _ _ _ _ _ hm o hkc hks _ _ _ hP hD hS (lv_sub hl [0, 1, 2, 3, 4] rfl)
      replace hm := if_f c_16 hm
      rcases Classical.em (x_4 = 12) with c_17 | c_17
      · replace hm := if_t c_17 hm
        refine lv_tableIn (x := x_4) (tgt := 574) hx hb d_Law_law_50 (by rw [c_17]; decide) (by rw [c_17]; decide) (by rw [c_17]; rfl) (by decide) ?_
        exact lb_Law_574 l hf hA hAs C0 hL9 dC dI cI cJ cB hK adK adV adA hE hN hX hC n (m_Law_b33 n L xs f) ih _ _ _ _ _ _ _ _ _ _ _ hm o hkc hks _ _ _ hP hD hS (lv_sub hl [0, 1, 2, 3, 4] rfl)
      replace hm := if_f c_17 hm
      rcases Classical.em (x_4 = 13) with c_18 | c_18
      · replace hm := if_t c_18 hm
        refine lv_tableIn (x := x_4) (tgt := 611) hx hb d_Law_law_50 (by rw [c_18]; decide) (by rw [c_18]; decide) (by rw [c_18]; rfl) (by decide) ?_
        exact lb_Law_611 l hf hA hAs C0 hL9 dC dI cI cJ cB hK adK adV adA hE hN hX hC n (m_Law_b33 n L xs f) ih _ _ _ _ _ _ _ _ _ _ _ hm o hkc hks _ _ _ hP hD hS (lv_sub hl [0, 1, 2, 3, 4] rfl)
      replace hm := if_f c_18 hm
      rcases Classical.em (x_4 = 14) with c_19 | c_19
      · replace hm := if_t c_19 hm
        refine lv_tableIn (x := x_4) (tgt := 636) hx hb d_Law_law_50 (by rw [c_19]; decide) (by rw [c_19]; decide) (by rw [c_19]; rfl) (by decide) ?_
        exact lb_Law_636 l hf hA hAs C0 hL9 dC dI cI cJ cB hK adK adV adA hE hN hX hC n (m_Law_b33 n L xs f) ih _ _ _ _ _ _ _ _ _ _ _ hm o hkc hks _ _ _ hP hD hS (lv_sub hl [0, 1, 2, 3, 4] rfl)
      replace hm := if_f c_19 hm
      rcases Classical.em (x_4 = 15) with c_20 | c_20
      · replace hm := if_t c_20 hm
        refine lv_tableIn (x := x_4) (tgt := 673) hx hb d_Law_law_50 (by rw [c_20]; decide) (by rw [c_20]; decide) (by rw [c_20]; rfl) (by decide) ?_
        exact lb_Law_673 l hf hA hAs C0 hL9 dC dI cI cJ cB hK adK adV adA hE hN hX hC n (m_Law_b33 n L xs f) ih _ _ _ _ _ _ _ _ _ _ _ hm o hkc hks _ _ _ hP hD hS (lv_sub hl [0, 1, 2, 3, 4] rfl)
      replace hm := if_f c_20 hm
      rcases Classical.em (x_4 = 16) with c_21 | c_21
      · replace hm := if_t c_21 hm
        refine lv_tableIn (x := x_4) (tgt := 710) hx hb d_Law_law_50 (by rw [c_21]; decide) (by rw [c_21]; decide) (by rw [c_21]; rfl) (by decide) ?_
        exact lb_Law_710 l hf hA hAs C0 hL9 dC dI cI cJ cB hK adK adV adA hE hN hX hC n (m_Law_b33 n L xs f) ih _ _ _ _ _ _ _ _ _ _ _ hm o hkc hks _ _ _ hP hD hS (lv_sub hl [0, 1, 2, 3, 4] rfl)
      replace hm := if_f c_21 hm
      rcases Classical.em (x_4 = 17) with c_22 | c_22
      · replace hm := if_t c_22 hm
        refine lv_tableIn (x := x_4) (tgt := 747) hx hb d_Law_law_50 (by rw [c_22]; decide) (by rw [c_22]; decide) (by rw [c_22]; rfl) (by decide) ?_
        exact lb_Law_747 l hf hA hAs C0 hL9 dC dI cI cJ cB hK adK adV adA hE hN hX hC n (m_Law_b33 n L xs f) ih _ _ _ _ _ _ _ _ _ _ _ hm o hkc hks _ _ _ hP hD hS (lv_sub hl [0, 1, 2, 3, 4] rfl)
      replace hm := if_f c_22 hm
      rcases Classical.em (x_4 = 18) with c_23 | c_23
      · replace hm := if_t c_23 hm
        refine lv_tableIn (x := x_4) (tgt := 784) hx hb d_Law_law_50 (by rw [c_23]; decide) (by rw [c_23]; decide) (by rw [c_23]; rfl) (by decide) ?_
        exact lb_Law_784 l hf hA hAs C0 hL9 dC dI cI cJ cB hK adK adV adA hE hN hX hC n (m_Law_b33 n L xs f) ih _ _ _ _ _ _ _ _ _ _ _ hm o hkc hks _ _ _ hP hD hS (lv_sub hl [0, 1, 2, 3, 4] rfl)
      replace hm := if_f c_23 hm
      refine lv_tableOut (x := x_4) (tgt := 797) hx hb d_Law_law_50 (by have q0 := lv_neT c_5 (show (0 : Int32).toInt = 0 from by decide); have q1 := lv_neT c_6 (show (1 : Int32).toInt = 1 from by decide); have q2 := lv_neT c_7 (show (2 : Int32).toInt = 2 from by decide); have q3 := lv_neT c_8 (show (3 : Int32).toInt = 3 from by decide); have q4 := lv_neT c_9 (show (4 : Int32).toInt = 4 from by decide); have q5 := lv_neT c_10 (show (5 : Int32).toInt = 5 from by decide); have q6 := lv_neT c_11 (show (6 : Int32).toInt = 6 from by decide); have q7 := lv_neT c_12 (show (7 : Int32).toInt = 7 from by decide); have q8 := lv_neT c_13 (show (8 : Int32).toInt = 8 from by decide); have q9 := lv_neT c_14 (show (9 : Int32).toInt = 9 from by decide); have q10 := lv_neT c_15 (show (10 : Int32).toInt = 10 from by decide); have q11 := lv_neT c_16 (show (11 : Int32).toInt = 11 from by decide); have q12 := lv_neT c_17 (show (12 : Int32).toInt = 12 from by decide); have q13 := lv_neT c_18 (show (13 : Int32).toInt = 13 from by decide); have q14 := lv_neT c_19 (show (14 : Int32).toInt = 14 from by decide); have q15 := lv_neT c_20 (show (15 : Int32).toInt = 15 from by decide); have q16 := lv_neT c_21 (show (16 : Int32).toInt = 16 from by decide); have q17 := lv_neT c_22 (show (17 : Int32).toInt = 17 from by decide); have q18 := lv_neT c_23 (show (18 : Int32).toInt = 18 from by decide); omega) (by decide) ?_
      exact lb_Law_797 l hf hA hAs C0 hL9 dC dI cI cJ cB hK adK adV adA hE hN hX hC n (m_Law_b33 n L xs f) ih _ _ _ _ _ _ _ _ _ _ _ hm o hkc hks _ _ _ hP hD hS (lv_sub hl [0, 1, 2, 3, 4] rfl)
