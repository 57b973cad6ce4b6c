
theorem law_tail {p : Program} {e : Env} {s : State} {m : MethodId} {below : List Frame} {meth : Method} {c : Code} (l : Launch) (hf : l.flags = pinnedFlags ++ [noTraceFlag]) {b L : Nat} {xs : Nat → Int32} {A : Nat → Prop} (hA : ∀ q, s.heap.size ≤ q → A q) (hAs : ∀ q, A q → s.heap.size ≤ q) (C0 : lw_At p s m meth c b L xs) (hL9 : L < 2 ^ 31) (hC : tw_scr b L xs A s s.heap) (hL7 : L = 7) {H : Heap} {locs : List Loc} {ls : Array Slot} {o9 h0 hw : Nat} {cells slots : Nat} (hc : cells ≤ 600002) (hs : slots ≤ 7302198) (hS : va_S A s.heap H locs) (hl : lv_has ls 7 [(4, .int 1), (3, .ref o9), (2, .ref h0), (1, .ref hw), (0, .ref b)]) : W p l e room_1 s m #[Value.ref b] below meth c H locs cells slots (lw_Z below #[Value.ref b] s) (F0 m 797 ls []) := by
  subst hL7
  obtain ⟨hx, hb, hr, hml, hown, hts, hXs, hbl, hlocks, hgv⟩ := id C0
  have htt : ∀ w ∈ tw_T, w.before #[Value.ref b] s = true := fun w h => hts w (tw_law w h)
  refine lv_iinc (v := 7) (lv' := [(4, .int 7), (3, .ref o9), (2, .ref h0), (1, .ref hw), (0, .ref b)]) hx hb d_Law_law_797 hl (k := 0) rfl (by decide) (by decide) rfl (fun ls hl => ?_)
  refine lv_goto (tgt := 33) hx hb d_Law_law_800 (by decide) ?_
  refine lv_iload hx hb d_Law_law_33 (lv_at hl 0 rfl) ?_
  refine lv_aload_n hx hb d_Law_law_35 rfl (lv_at hl 4 rfl) ?_
  refine va_slen hx hb hC.1 hC.2.1 hC.2.2.1 hS d_Law_law_36 ?_
  refine lv_topi (fun x_1 ex_1 => ?_)
  obtain rfl : x_1 = 7 := by exact ex_1
  clear ex_1
  refine lv_bipush (v := 6) hx hb d_Law_law_37 (by decide) ?_
  refine lv_isub hx hb d_Law_law_39 ?_
  refine lv_topi (fun x_2 ex_2 => ?_)
  obtain rfl : x_2 = 1 := by rw [ex_2]; decide
  clear ex_2
  refine lv_icmp_gt (tgt := 803) hx hb d_Law_law_40 (by decide) (fun c_3 => ?_) (fun c_3 => ?_)
  · exact law_end l hx hb hr hlocks hAs hc hs hS
  · exact absurd c_3 (by decide)
