theorem n_Model : ∀ a, a < 127 → ∀ b, b < 127 → a ≠ b → (F_Model a).2.1 ≠ (F_Model b).2.1 := by decide +kernel
theorem t_Model_ok : ∀ k, k < 127 → parseFieldDescriptor (F_Model k).2.2.1 = some (t_Model k) := by decide +kernel
theorem iw_Model : ∀ w ∈ u_ws R_Model F_Model 127, w ∈ tw_T := by
  intro w hw
  obtain ⟨k, hk, rfl⟩ := List.mem_map.mp hw
  have hk := List.mem_range.mp hk
  match k, hk with
  | 0, _ => exact tw_i8 205 (by decide +kernel) (by decide +kernel)
  | 1, _ => exact tw_i8 207 (by decide +kernel) (by decide +kernel)
  | 2, _ => exact tw_i8 209 (by decide +kernel) (by decide +kernel)
  | 3, _ => exact tw_i8 211 (by decide +kernel) (by decide +kernel)
  | 4, _ => exact tw_i8 213 (by decide +kernel) (by decide +kernel)
  | 5, _ => exact tw_i8 215 (by decide +kernel) (by decide +kernel)
  | 6, _ => exact tw_i8 217 (by decide +kernel) (by decide +kernel)
  | 7, _ => exact tw_i8 219 (by decide +kernel) (by decide +kernel)
  | 8, _ => exact tw_i8 221 (by decide +kernel) (by decide +kernel)
  | 9, _ => exact tw_i8 223 (by decide +kernel) (by decide +kernel)
  | 10, _ => exact tw_i8 225 (by decide +kernel) (by decide +kernel)
  | 11, _ => exact tw_i8 227 (by decide +kernel) (by decide +kernel)
  | 12, _ => exact tw_i8 229 (by decide +kernel) (by decide +kernel)
  | 13, _ => exact tw_i8 231 (by decide +kernel) (by decide +kernel)
  | 14, _ => exact tw_i8 233 (by decide +kernel) (by decide +kernel)
  | 15, _ => exact tw_i8 235 (by decide +kernel) (by decide +kernel)
  | 16, _ => exact tw_i8 237 (by decide +kernel) (by decide +kernel)
  | 17, _ => exact tw_i8 239 (by decide +kernel) (by decide +kernel)
  | 18, _ => exact tw_i9 1 (by decide +kernel) (by decide +kernel)
  | 19, _ => exact tw_i9 3 (by decide +kernel) (by decide +kernel)
  | 20, _ => exact tw_i9 5 (by decide +kernel) (by decide +kernel)
  | 21, _ => exact tw_i9 7 (by decide +kernel) (by decide +kernel)
  | 22, _ => exact tw_i9 9 (by decide +kernel) (by decide +kernel)
  | 23, _ => exact tw_i9 11 (by decide +kernel) (by decide +kernel)
  | 24, _ => exact tw_i9 13 (by decide +kernel) (by decide +kernel)
  | 25, _ => exact tw_i9 15 (by decide +kernel) (by decide +kernel)
  | 26, _ => exact tw_i9 17 (by decide +kernel) (by decide +kernel)
  | 27, _ => exact tw_i9 19 (by decide +kernel) (by decide +kernel)
  | 28, _ => exact tw_i9 21 (by decide +kernel) (by decide +kernel)
  | 29, _ => exact tw_i9 23 (by decide +kernel) (by decide +kernel)
  | 30, _ => exact tw_i9 25 (by decide +kernel) (by decide +kernel)
  | 31, _ => exact tw_i9 27 (by decide +kernel) (by decide +kernel)
  | 32, _ => exact tw_i9 29 (by decide +kernel) (by decide +kernel)
  | 33, _ => exact tw_i9 31 (by decide +kernel) (by decide +kernel)
  | 34, _ => exact tw_i9 33 (by decide +kernel) (by decide +kernel)
  | 35, _ => exact tw_i9 35 (by decide +kernel) (by decide +kernel)
  | 36, _ => exact tw_i9 37 (by decide +kernel) (by decide +kernel)
  | 37, _ => exact tw_i9 39 (by decide +kernel) (by decide +kernel)
  | 38, _ => exact tw_i9 41 (by decide +kernel) (by decide +kernel)
  | 39, _ => exact tw_i9 43 (by decide +kernel) (by decide +kernel)
  | 40, _ => exact tw_i9 45 (by decide +kernel) (by decide +kernel)
  | 41, _ => exact tw_i9 47 (by decide +kernel) (by decide +kernel)
  | 42, _ => exact tw_i9 49 (by decide +kernel) (by decide +kernel)
  | 43, _ => exact tw_i9 51 (by decide +kernel) (by decide +kernel)
  | 44, _ => exact tw_i9 53 (by decide +kernel) (by decide +kernel)
  | 45, _ => exact tw_i9 55 (by decide +kernel) (by decide +kernel)
  | 46, _ => exact tw_i9 57 (by decide +kernel) (by decide +kernel)
  | 47, _ => exact tw_i9 59 (by decide +kernel) (by decide +kernel)
  | 48, _ => exact tw_i9 61 (by decide +kernel) (by decide +kernel)
  | 49, _ => exact tw_i9 63 (by decide +kernel) (by decide +kernel)
  | 50, _ => exact tw_i9 65 (by decide +kernel) (by decide +kernel)
  | 51, _ => exact tw_i9 67 (by decide +kernel) (by decide +kernel)
  | 52, _ => exact tw_i9 69 (by decide +kernel) (by decide +kernel)
  | 53, _ => exact tw_i9 71 (by decide +kernel) (by decide +kernel)
  | 54, _ => exact tw_i9 73 (by decide +kernel) (by decide +kernel)
  | 55, _ => exact tw_i9 75 (by decide +kernel) (by decide +kernel)
  | 56, _ => exact tw_i9 77 (by decide +kernel) (by decide +kernel)
  | 57, _ => exact tw_i9 79 (by decide +kernel) (by decide +kernel)
  | 58, _ => exact tw_i9 81 (by decide +kernel) (by decide +kernel)
  | 59, _ => exact tw_i9 83 (by decide +kernel) (by decide +kernel)
  | 60, _ => exact tw_i9 85 (by decide +kernel) (by decide +kernel)
  | 61, _ => exact tw_i9 87 (by decide +kernel) (by decide +kernel)
  | 62, _ => exact tw_i9 89 (by decide +kernel) (by decide +kernel)
  | 63, _ => exact tw_i9 91 (by decide +kernel) (by decide +kernel)
  | 64, _ => exact tw_i9 93 (by decide +kernel) (by decide +kernel)
  | 65, _ => exact tw_i9 95 (by decide +kernel) (by decide +kernel)
  | 66, _ => exact tw_i9 97 (by decide +kernel) (by decide +kernel)
  | 67, _ => exact tw_i9 99 (by decide +kernel) (by decide +kernel)
  | 68, _ => exact tw_i9 101 (by decide +kernel) (by decide +kernel)
  | 69, _ => exact tw_i9 103 (by decide +kernel) (by decide +kernel)
  | 70, _ => exact tw_i9 105 (by decide +kernel) (by decide +kernel)
  | 71, _ => exact tw_i9 107 (by decide +kernel) (by decide +kernel)
  | 72, _ => exact tw_i9 109 (by decide +kernel) (by decide +kernel)
  | 73, _ => exact tw_i9 111 (by decide +kernel) (by decide +kernel)
  | 74, _ => exact tw_i9 113 (by decide +kernel) (by decide +kernel)
  | 75, _ => exact tw_i9 115 (by decide +kernel) (by decide +kernel)
  | 76, _ => exact tw_i9 117 (by decide +kernel) (by decide +kernel)
  | 77, _ => exact tw_i9 119 (by decide +kernel) (by decide +kernel)
  | 78, _ => exact tw_i9 121 (by decide +kernel) (by decide +kernel)
  | 79, _ => exact tw_i9 123 (by decide +kernel) (by decide +kernel)
  | 80, _ => exact tw_i9 125 (by decide +kernel) (by decide +kernel)
  | 81, _ => exact tw_i9 127 (by decide +kernel) (by decide +kernel)
  | 82, _ => exact tw_i9 129 (by decide +kernel) (by decide +kernel)
  | 83, _ => exact tw_i9 131 (by decide +kernel) (by decide +kernel)
  | 84, _ => exact tw_i9 133 (by decide +kernel) (by decide +kernel)
  | 85, _ => exact tw_i9 135 (by decide +kernel) (by decide +kernel)
  | 86, _ => exact tw_i9 137 (by decide +kernel) (by decide +kernel)
  | 87, _ => exact tw_i9 139 (by decide +kernel) (by decide +kernel)
  | 88, _ => exact tw_i9 141 (by decide +kernel) (by decide +kernel)
  | 89, _ => exact tw_i9 143 (by decide +kernel) (by decide +kernel)
  | 90, _ => exact tw_i9 145 (by decide +kernel) (by decide +kernel)
  | 91, _ => exact tw_i9 147 (by decide +kernel) (by decide +kernel)
  | 92, _ => exact tw_i9 149 (by decide +kernel) (by decide +kernel)
  | 93, _ => exact tw_i9 151 (by decide +kernel) (by decide +kernel)
  | 94, _ => exact tw_i9 153 (by decide +kernel) (by decide +kernel)
  | 95, _ => exact tw_i9 155 (by decide +kernel) (by decide +kernel)
  | 96, _ => exact tw_i9 157 (by decide +kernel) (by decide +kernel)
  | 97, _ => exact tw_i9 159 (by decide +kernel) (by decide +kernel)
  | 98, _ => exact tw_i9 161 (by decide +kernel) (by decide +kernel)
  | 99, _ => exact tw_i9 163 (by decide +kernel) (by decide +kernel)
  | 100, _ => exact tw_i9 165 (by decide +kernel) (by decide +kernel)
  | 101, _ => exact tw_i9 167 (by decide +kernel) (by decide +kernel)
  | 102, _ => exact tw_i9 169 (by decide +kernel) (by decide +kernel)
  | 103, _ => exact tw_i9 171 (by decide +kernel) (by decide +kernel)
  | 104, _ => exact tw_i9 173 (by decide +kernel) (by decide +kernel)
  | 105, _ => exact tw_i9 175 (by decide +kernel) (by decide +kernel)
  | 106, _ => exact tw_i9 177 (by decide +kernel) (by decide +kernel)
  | 107, _ => exact tw_i9 179 (by decide +kernel) (by decide +kernel)
  | 108, _ => exact tw_i9 181 (by decide +kernel) (by decide +kernel)
  | 109, _ => exact tw_i9 183 (by decide +kernel) (by decide +kernel)
  | 110, _ => exact tw_i9 185 (by decide +kernel) (by decide +kernel)
  | 111, _ => exact tw_i9 187 (by decide +kernel) (by decide +kernel)
  | 112, _ => exact tw_i9 189 (by decide +kernel) (by decide +kernel)
  | 113, _ => exact tw_i9 191 (by decide +kernel) (by decide +kernel)
  | 114, _ => exact tw_i9 193 (by decide +kernel) (by decide +kernel)
  | 115, _ => exact tw_i9 195 (by decide +kernel) (by decide +kernel)
  | 116, _ => exact tw_i9 197 (by decide +kernel) (by decide +kernel)
  | 117, _ => exact tw_i9 199 (by decide +kernel) (by decide +kernel)
  | 118, _ => exact tw_i9 201 (by decide +kernel) (by decide +kernel)
  | 119, _ => exact tw_i9 203 (by decide +kernel) (by decide +kernel)
  | 120, _ => exact tw_i9 205 (by decide +kernel) (by decide +kernel)
  | 121, _ => exact tw_i9 207 (by decide +kernel) (by decide +kernel)
  | 122, _ => exact tw_i9 209 (by decide +kernel) (by decide +kernel)
  | 123, _ => exact tw_i9 211 (by decide +kernel) (by decide +kernel)
  | 124, _ => exact tw_i9 213 (by decide +kernel) (by decide +kernel)
  | 125, _ => exact tw_i9 215 (by decide +kernel) (by decide +kernel)
  | 126, _ => exact tw_i9 217 (by decide +kernel) (by decide +kernel)
  | k + 127, h => exact absurd h (by omega)
theorem d_Model_end_0 : decode b_Model_end 0 = .ok (.aload_n 0, 1) := by decide +kernel
theorem d_Model_end_1 : decode b_Model_end 1 = .ok (.iconst 0, 1) := by decide +kernel
theorem d_Model_end_2 : decode b_Model_end 2 = .ok (.putfield 1, 3) := by decide +kernel
theorem d_Model_end_5 : decode b_Model_end 5 = .ok (.iload_n 1, 1) := by decide +kernel
theorem d_Model_end_6 : decode b_Model_end 6 = .ok (.ifCond .lt 11, 3) := by decide +kernel
theorem d_Model_end_9 : decode b_Model_end 9 = .ok (.iload_n 1, 1) := by decide +kernel
theorem d_Model_end_10 : decode b_Model_end 10 = .ok (.aload_n 0, 1) := by decide +kernel
theorem d_Model_end_11 : decode b_Model_end 11 = .ok (.getfield 409, 3) := by decide +kernel
theorem d_Model_end_14 : decode b_Model_end 14 = .ok (.if_icmp .le 5, 3) := by decide +kernel
theorem d_Model_end_17 : decode b_Model_end 17 = .ok (.iconst 0, 1) := by decide +kernel
theorem d_Model_end_18 : decode b_Model_end 18 = .ok (.ireturn, 1) := by decide +kernel
theorem d_Model_end_19 : decode b_Model_end 19 = .ok (.aload_n 0, 1) := by decide +kernel
theorem d_Model_end_20 : decode b_Model_end 20 = .ok (.iload_n 1, 1) := by decide +kernel
theorem d_Model_end_21 : decode b_Model_end 21 = .ok (.putfield 409, 3) := by decide +kernel
theorem d_Model_end_24 : decode b_Model_end 24 = .ok (.iconst 1, 1) := by decide +kernel
theorem d_Model_end_25 : decode b_Model_end 25 = .ok (.ireturn, 1) := by decide +kernel
theorem lk_Model_1 : Cond.fieldLink "TurtleWorldModel" 1 "TurtleWorldModel" "thrown" "I" ∈ tw_T := tw_i8 78 (by decide +kernel) (by decide +kernel)
theorem lk_Model_409 : Cond.fieldLink "TurtleWorldModel" 409 "TurtleWorldModel" "taped" "I" ∈ tw_T := tw_i8 152 (by decide +kernel) (by decide +kernel)
theorem d_Model_isTurtle_0 : decode b_Model_isTurtle 0 = .ok (.iload_n 1, 1) := by decide +kernel
theorem d_Model_isTurtle_1 : decode b_Model_isTurtle 1 = .ok (.ifCond .lt 13, 3) := by decide +kernel
theorem d_Model_isTurtle_4 : decode b_Model_isTurtle 4 = .ok (.iload_n 1, 1) := by decide +kernel
theorem d_Model_isTurtle_5 : decode b_Model_isTurtle 5 = .ok (.bipush 8, 2) := by decide +kernel
theorem d_Model_isTurtle_7 : decode b_Model_isTurtle 7 = .ok (.if_icmp .ge 7, 3) := by decide +kernel
theorem d_Model_isTurtle_10 : decode b_Model_isTurtle 10 = .ok (.iconst 1, 1) := by decide +kernel
theorem d_Model_isTurtle_11 : decode b_Model_isTurtle 11 = .ok (.goto 4, 3) := by decide +kernel
theorem d_Model_isTurtle_14 : decode b_Model_isTurtle 14 = .ok (.iconst 0, 1) := by decide +kernel
theorem d_Model_isTurtle_15 : decode b_Model_isTurtle 15 = .ok (.ireturn, 1) := by decide +kernel
theorem d_Model_turtle_0 : decode b_Model_turtle 0 = .ok (.aload_n 0, 1) := by decide +kernel
theorem d_Model_turtle_1 : decode b_Model_turtle 1 = .ok (.iconst 0, 1) := by decide +kernel
theorem d_Model_turtle_2 : decode b_Model_turtle 2 = .ok (.putfield 1, 3) := by decide +kernel
theorem d_Model_turtle_5 : decode b_Model_turtle 5 = .ok (.aload_n 0, 1) := by decide +kernel
theorem d_Model_turtle_6 : decode b_Model_turtle 6 = .ok (.iload_n 1, 1) := by decide +kernel
theorem d_Model_turtle_7 : decode b_Model_turtle 7 = .ok (.invokevirtual 849, 3) := by decide +kernel
theorem d_Model_turtle_10 : decode b_Model_turtle 10 = .ok (.ifCond .ne 7, 3) := by decide +kernel
theorem d_Model_turtle_13 : decode b_Model_turtle 13 = .ok (.iconst (-1), 1) := by decide +kernel
theorem d_Model_turtle_14 : decode b_Model_turtle 14 = .ok (.goto 48, 3) := by decide +kernel
theorem d_Model_turtle_17 : decode b_Model_turtle 17 = .ok (.iload_n 2, 1) := by decide +kernel
theorem d_Model_turtle_18 : decode b_Model_turtle 18 = .ok (.ifCond .ne 15, 3) := by decide +kernel
theorem d_Model_turtle_21 : decode b_Model_turtle 21 = .ok (.bipush 30, 2) := by decide +kernel
theorem d_Model_turtle_23 : decode b_Model_turtle 23 = .ok (.aload_n 0, 1) := by decide +kernel
theorem d_Model_turtle_24 : decode b_Model_turtle 24 = .ok (.getfield 213, 3) := by decide +kernel
theorem d_Model_turtle_27 : decode b_Model_turtle 27 = .ok (.iload_n 1, 1) := by decide +kernel
theorem d_Model_turtle_28 : decode b_Model_turtle 28 = .ok (.iaload, 1) := by decide +kernel
theorem d_Model_turtle_29 : decode b_Model_turtle 29 = .ok (.imul, 1) := by decide +kernel
theorem d_Model_turtle_30 : decode b_Model_turtle 30 = .ok (.goto 32, 3) := by decide +kernel
theorem d_Model_turtle_33 : decode b_Model_turtle 33 = .ok (.iload_n 2, 1) := by decide +kernel
theorem d_Model_turtle_34 : decode b_Model_turtle 34 = .ok (.iconst 1, 1) := by decide +kernel
theorem d_Model_turtle_35 : decode b_Model_turtle 35 = .ok (.if_icmp .ne 12, 3) := by decide +kernel
theorem d_Model_turtle_38 : decode b_Model_turtle 38 = .ok (.aload_n 0, 1) := by decide +kernel
theorem d_Model_turtle_39 : decode b_Model_turtle 39 = .ok (.getfield 216, 3) := by decide +kernel
theorem d_Model_turtle_42 : decode b_Model_turtle 42 = .ok (.iload_n 1, 1) := by decide +kernel
theorem d_Model_turtle_43 : decode b_Model_turtle 43 = .ok (.iaload, 1) := by decide +kernel
theorem d_Model_turtle_44 : decode b_Model_turtle 44 = .ok (.goto 18, 3) := by decide +kernel
theorem d_Model_turtle_47 : decode b_Model_turtle 47 = .ok (.iload_n 2, 1) := by decide +kernel
theorem d_Model_turtle_48 : decode b_Model_turtle 48 = .ok (.iconst 2, 1) := by decide +kernel
theorem d_Model_turtle_49 : decode b_Model_turtle 49 = .ok (.if_icmp .ne 12, 3) := by decide +kernel
theorem d_Model_turtle_52 : decode b_Model_turtle 52 = .ok (.aload_n 0, 1) := by decide +kernel
theorem d_Model_turtle_53 : decode b_Model_turtle 53 = .ok (.getfield 219, 3) := by decide +kernel
theorem d_Model_turtle_56 : decode b_Model_turtle 56 = .ok (.iload_n 1, 1) := by decide +kernel
theorem d_Model_turtle_57 : decode b_Model_turtle 57 = .ok (.iaload, 1) := by decide +kernel
theorem d_Model_turtle_58 : decode b_Model_turtle 58 = .ok (.goto 4, 3) := by decide +kernel
theorem d_Model_turtle_61 : decode b_Model_turtle 61 = .ok (.iconst (-1), 1) := by decide +kernel
theorem d_Model_turtle_62 : decode b_Model_turtle 62 = .ok (.ireturn, 1) := by decide +kernel
theorem lk_Model_849 : Cond.methodLink "TurtleWorldModel" 849 ⟨"TurtleWorldModel", "isTurtle", "(I)Z"⟩ ∈ tw_T := tw_i11 208 (by decide +kernel) (by decide +kernel)
theorem in_Model_isTurtle : Cond.instanceMethod ⟨"TurtleWorldModel", "isTurtle", "(I)Z"⟩ ∈ tw_T := tw_i11 210 (by decide +kernel) (by decide +kernel)
theorem sel_Model_isTurtle : Cond.selects "TurtleWorldModel" ⟨"TurtleWorldModel", "isTurtle", "(I)Z"⟩ ⟨"TurtleWorldModel", "isTurtle", "(I)Z"⟩ ∈ tw_T := tw_inS 168 (by decide +kernel) (by decide +kernel)
theorem lk_Model_219 : Cond.fieldLink "TurtleWorldModel" 219 "TurtleWorldModel" "isDown" "[I" ∈ tw_T := tw_i8 121 (by decide +kernel) (by decide +kernel)
theorem lk_Model_216 : Cond.fieldLink "TurtleWorldModel" 216 "TurtleWorldModel" "pen" "[I" ∈ tw_T := tw_i8 120 (by decide +kernel) (by decide +kernel)
theorem lk_Model_213 : Cond.fieldLink "TurtleWorldModel" 213 "TurtleWorldModel" "heading" "[I" ∈ tw_T := tw_i8 119 (by decide +kernel) (by decide +kernel)
/-- the fields of the reference: what they refer to, its ints, its longs -/
def mo (r : Nat → Nat) (i : Nat → Int32) (j : Nat → Int64) : List Value := [.int (i 0), .ref (r 1), .ref (r 2), .ref (r 3), .ref (r 4), .ref (r 5), .ref (r 6), .ref (r 7), .ref (r 8), .ref (r 9), .ref (r 10), .ref (r 11), .ref (r 12), .ref (r 13), .ref (r 14), .ref (r 15), .ref (r 16), .ref (r 17), .int (i 18), .int (i 19), .int (i 20), .int (i 21), .ref (r 22), .ref (r 23), .ref (r 24), .int (i 25), .ref (r 26), .ref (r 27), .int (i 28), .ref (r 29), .ref (r 30), .ref (r 31), .ref (r 32), .int (i 33), .ref (r 34), .ref (r 35), .int (i 36), .ref (r 37), .ref (r 38), .ref (r 39), .ref (r 40), .ref (r 41), .ref (r 42), .ref (r 43), .ref (r 44), .ref (r 45), .int (i 46), .int (i 47), .long (j 48), .ref (r 49), .ref (r 50), .ref (r 51), .ref (r 52), .ref (r 53), .ref (r 54), .ref (r 55), .ref (r 56), .ref (r 57), .long (j 58), .int (i 59), .int (i 60), .int (i 61), .int (i 62), .int (i 63), .int (i 64), .int (i 65), .int (i 66), .int (i 67), .int (i 68), .int (i 69), .int (i 70), .ref (r 71), .ref (r 72), .ref (r 73), .int (i 74), .int (i 75), .int (i 76), .ref (r 77), .ref (r 78), .ref (r 79), .ref (r 80), .int (i 81), .ref (r 82), .ref (r 83), .int (i 84), .int (i 85), .int (i 86), .ref (r 87), .ref (r 88), .ref (r 89), .ref (r 90), .ref (r 91), .int (i 92), .int (i 93), .int (i 94), .int (i 95), .int (i 96), .int (i 97), .int (i 98), .int (i 99), .int (i 100), .long (j 101), .int (i 102), .int (i 103), .int (i 104), .int (i 105), .int (i 106), .int (i 107), .long (j 108), .long (j 109), .long (j 110), .ref (r 111), .ref (r 112), .ref (r 113), .ref (r 114), .ref (r 115), .int (i 116), .int (i 117), .int (i 118), .ref (r 119), .ref (r 120), .ref (r 121), .ref (r 122), .ref (r 123), .long (j 124), .long (j 125), .int (i 126)]
def m_Model_end_r (v_i : Nat → Int32) (n : Int32) : Int32 := if n < ((0 : Int32)) then 0 else if n ≤ ((v_i 74)) then 1 else 0
theorem m_Model_end_z {v_i : Nat → Int32} {n : Int32} : narrow .boolean (.int (m_Model_end_r v_i n)) = .int (m_Model_end_r v_i n) := by
  unfold m_Model_end_r
  repeat' split
  all_goals first | rfl | rfl | decide
def m_Model_end_w0_i (v_i : Nat → Int32) (n : Int32) : Nat → Int32 := if n < ((0 : Int32)) then upd v_i 0 0 else if n ≤ ((v_i 74)) then upd (upd v_i 0 0) 74 n else upd v_i 0 0
set_option maxHeartbeats 4000000 in
set_option maxRecDepth 100000 in
theorem c_Model_end (l : Launch) (dC : Nat → ClassId) (dI : Nat → Nat → Nat) (sz : Nat) (h0 : Nat) (v_r : Nat → Nat) (v_i : Nat → Int32) (v_j : Nat → Int64) (cI : ClassId) (cJ : ClassId) (cB : ClassId) (n : Int32)  : Met l y_Model_end w_Model_end ({ frames := 0, cells := 0, slots := 0, locals := 0 }) (va_Pc [.ref h0, .int n] (fun U => U.heap.size = sz ∧ va_P (dC, dI) classes [(h0, .inr (12, mo v_r v_i v_j))] U.heap ∧ va_K (dC, dI) classes [(cI, .int), (cJ, .long), (cB, .byte)] U ∧ va_D (fun _ => True) [(h0, .inr (12, mo v_r v_i v_j))])) (va_Qi (fun (r : Int32) (_ : Unit) => r = m_Model_end_r v_i n) (fun (_ : Unit) t => va_P (dC, dI) classes [(h0, .inr (12, mo v_r (m_Model_end_w0_i v_i n) v_j))] t.heap ∧ va_K (dC, dI) classes [(cI, .int), (cJ, .long), (cB, .byte)] t ∧ va_D (va_A [(h0, .inr (12, mo v_r v_i v_j))] sz) [(h0, .inr (12, mo v_r (m_Model_end_w0_i v_i n) v_j))]) (va_A [(h0, .inr (12, mo v_r v_i v_j))] sz)) 0 0 (va_A [(h0, .inr (12, mo v_r v_i v_j))] sz) := by
  refine Met.ofW (cc := b_Model_end) (maxL := 2) (ret := (some .boolean)) (by decide) rfl ?_
  intro p e s m args below meth c s₁ B hml hv
  obtain ⟨rfl, hsz, hP, hK, hD0⟩ := hv
  have hx := B.exec
  have hb := B.bytes
  have hr := B.returns
  have hts := atoms_spec (ws := w_Model_end) B.pre
  have htt : ∀ w ∈ tw_T, w.before _ s = true := fun w h => hts w (List.mem_cons_of_mem _ h)
  have hown : s.vm.findClass R_Model = some m.cls := findClass_of_methodNamed B.named
  have hlocks := B.notSynchronized
  subst hsz
  have hD := hD0.self (sz := s.heap.size)
  generalize hAe : va_A [(h0, .inr (12, mo v_r v_i v_j))] s.heap.size = A at hD ⊢
  have hA : ∀ q : Nat, s.heap.size ≤ q → A q := fun q h => by rw [← hAe]; exact Or.inr h
  have hS : va_S A s.heap s.heap [] := va_S.rf
  have hP : va_P (dC, dI) classes [(h0, .inr (12, mo v_r v_i v_j))] s.heap := hP
  have hl := lv_entry ([.ref h0, .int n]) (n := 2) (Nat.le_of_ble_eq_true rfl)
  rw [lg_entry_eq]
  generalize (lg_sl ([.ref h0, .int n]) ++ List.replicate (2 - (lg_sl ([.ref h0, .int n])).length) Slot.unset).toArray = ls at hl ⊢
  have hl : lv_has ls 2 [(0, .ref h0), (1, .int n)] := hl
  refine lv_aload_n hx hb d_Model_end_0 rfl (lv_at hl 0 rfl) ?_
  refine lv_iconst (v := 0) hx hb d_Model_end_1 (by decide) ?_
  refine va_put (D := (dC, dI)) (ci := 12) (v := .int 0) (ty := .int) (C := R_Model) (T := F_Model) (N := 127) hx hb htt iw_Model t_Model t_Model_ok n_Model hown hK hP hD hS 0 rfl rfl 0 (by decide) (htt _ lk_Model_1) (fun _ h9 => h9) rfl (by decide +kernel) rfl rfl (Nat.le_of_ble_eq_true rfl) d_Model_end_2 (fun H locs hP hD hS => ?_)
  have hP : va_P (dC, dI) classes [(h0, .inr (12, mo v_r (upd v_i 0 0) v_j))] H := hP
  have hD : va_D A [(h0, .inr (12, mo v_r (upd v_i 0 0) v_j))] := hD
  refine lv_iload_n hx hb d_Model_end_5 rfl (lv_at hl 1 rfl) ?_
  refine lv_if_lt (tgt := 17) hx hb d_Model_end_6 (by decide) (fun c_1 => ?_) (fun c_1 => ?_)
  · refine lv_iconst (v := 0) hx hb d_Model_end_17 (by decide) ?_
    have hP9 := hP.sub (ws' := [(h0, .inr (12, mo v_r (upd v_i 0 0) v_j))]) [0] rfl
    have hD9 := hD.sub (ws' := [(h0, .inr (12, mo v_r (upd v_i 0 0) v_j))]) [0] (by decide) rfl
    have eW : [(h0, .inr (12, mo v_r (upd v_i 0 0) v_j))] = ([(h0, .inr (12, mo v_r (m_Model_end_w0_i v_i n) v_j))] : va_W) := by unfold m_Model_end_w0_i; simp only [if_pos c_1]
    rw [eW] at hP9 hD9
    exact W.zret (v := 0) hx hb hr (by decide) (fun t9 ht hW => ⟨⟨0, (), rfl, by unfold m_Model_end_r; simp only [if_pos c_1], by rw [ht]; exact hP9, va_K.moved hW.alike hK, hD9⟩, hS.F ht⟩) hS.2.2 d_Model_end_18
  · refine lv_iload_n hx hb d_Model_end_9 rfl (lv_at hl 1 rfl) ?_
    refine lv_aload_n hx hb d_Model_end_10 rfl (lv_at hl 0 rfl) ?_
    refine va_get (D := (dC, dI)) (ci := 12) (v := .int (v_i 74)) (C := R_Model) (T := F_Model) (N := 127) hx hb htt iw_Model hown hK hP 0 rfl rfl 74 (by decide) (htt _ lk_Model_409) (fun _ h9 => h9) rfl d_Model_end_11 ?_
    refine lv_icmp_le (tgt := 19) hx hb d_Model_end_14 (by decide) (fun c_2 => ?_) (fun c_2 => ?_)
    · refine lv_aload_n hx hb d_Model_end_19 rfl (lv_at hl 0 rfl) ?_
      refine lv_iload_n hx hb d_Model_end_20 rfl (lv_at hl 1 rfl) ?_
      refine va_put (D := (dC, dI)) (ci := 12) (v := .int n) (ty := .int) (C := R_Model) (T := F_Model) (N := 127) hx hb htt iw_Model t_Model t_Model_ok n_Model hown hK hP hD hS 0 rfl rfl 74 (by decide) (htt _ lk_Model_409) (fun _ h9 => h9) rfl (by decide +kernel) rfl rfl (Nat.le_of_ble_eq_true rfl) d_Model_end_21 (fun H locs hP hD hS => ?_)
      have hP : va_P (dC, dI) classes [(h0, .inr (12, mo v_r (upd (upd v_i 0 0) 74 n) v_j))] H := hP
      have hD : va_D A [(h0, .inr (12, mo v_r (upd (upd v_i 0 0) 74 n) v_j))] := hD
      refine lv_iconst (v := 1) hx hb d_Model_end_24 (by decide) ?_
      have hP9 := hP.sub (ws' := [(h0, .inr (12, mo v_r (upd (upd v_i 0 0) 74 n) v_j))]) [0] rfl
      have hD9 := hD.sub (ws' := [(h0, .inr (12, mo v_r (upd (upd v_i 0 0) 74 n) v_j))]) [0] (by decide) rfl
      have eW : [(h0, .inr (12, mo v_r (upd (upd v_i 0 0) 74 n) v_j))] = ([(h0, .inr (12, mo v_r (m_Model_end_w0_i v_i n) v_j))] : va_W) := by unfold m_Model_end_w0_i; simp only [if_neg c_1, if_pos c_2]
      rw [eW] at hP9 hD9
      exact W.zret (v := 1) hx hb hr (by decide) (fun t9 ht hW => ⟨⟨1, (), rfl, by unfold m_Model_end_r; simp only [if_neg c_1, if_pos c_2], by rw [ht]; exact hP9, va_K.moved hW.alike hK, hD9⟩, hS.F ht⟩) hS.2.2 d_Model_end_25
    · refine lv_iconst (v := 0) hx hb d_Model_end_17 (by decide) ?_
      have hP9 := hP.sub (ws' := [(h0, .inr (12, mo v_r (upd v_i 0 0) v_j))]) [0] rfl
      have hD9 := hD.sub (ws' := [(h0, .inr (12, mo v_r (upd v_i 0 0) v_j))]) [0] (by decide) rfl
      have eW : [(h0, .inr (12, mo v_r (upd v_i 0 0) v_j))] = ([(h0, .inr (12, mo v_r (m_Model_end_w0_i v_i n) v_j))] : va_W) := by unfold m_Model_end_w0_i; simp only [if_neg c_1, if_neg c_2]
      rw [eW] at hP9 hD9
      exact W.zret (v := 0) hx hb hr (by decide) (fun t9 ht hW => ⟨⟨0, (), rfl, by unfold m_Model_end_r; simp only [if_neg c_1, if_neg c_2], by rw [ht]; exact hP9, va_K.moved hW.alike hK, hD9⟩, hS.F ht⟩) hS.2.2 d_Model_end_18

def m_Model_isTurtle_r (t : Int32) : Int32 := if t < ((0 : Int32)) then 0 else if ((8 : Int32)) ≤ t then 0 else 1
theorem m_Model_isTurtle_z {t : Int32} : narrow .boolean (.int (m_Model_isTurtle_r t)) = .int (m_Model_isTurtle_r t) := by
  unfold m_Model_isTurtle_r
  repeat' split
  all_goals first | rfl | rfl | decide
set_option maxHeartbeats 4000000 in
set_option maxRecDepth 100000 in
theorem c_Model_isTurtle (l : Launch) (dC : Nat → ClassId) (dI : Nat → Nat → Nat) (sz : Nat) (h0 : Nat) (v_r : Nat → Nat) (v_i : Nat → Int32) (v_j : Nat → Int64) (cI : ClassId) (cJ : ClassId) (cB : ClassId) (t : Int32)  : Met l y_Model_isTurtle w_Model_isTurtle ({ frames := 0, cells := 0, slots := 0, locals := 0 }) (va_Pc [.ref h0, .int t] (fun U => U.heap.size = sz ∧ va_P (dC, dI) classes [(h0, .inr (12, mo v_r v_i v_j))] U.heap ∧ va_K (dC, dI) classes [(cI, .int), (cJ, .long), (cB, .byte)] U ∧ va_D (fun _ => True) [(h0, .inr (12, mo v_r v_i v_j))])) (va_Qi (fun (r : Int32) (_ : Unit) => r = m_Model_isTurtle_r t) (fun (_ : Unit) t => va_P (dC, dI) classes [(h0, .inr (12, mo v_r v_i v_j))] t.heap ∧ va_K (dC, dI) classes [(cI, .int), (cJ, .long), (cB, .byte)] t ∧ va_D (va_A [(h0, .inr (12, mo v_r v_i v_j))] sz) [(h0, .inr (12, mo v_r v_i v_j))]) (va_A [(h0, .inr (12, mo v_r v_i v_j))] sz)) 0 0 (va_A [(h0, .inr (12, mo v_r v_i v_j))] sz) := by
  refine Met.ofW (cc := b_Model_isTurtle) (maxL := 2) (ret := (some .boolean)) (by decide) rfl ?_
  intro p e s m args below meth c s₁ B hml hv
  obtain ⟨rfl, hsz, hP, hK, hD0⟩ := hv
  have hx := B.exec
  have hb := B.bytes
  have hr := B.returns
  have hts := atoms_spec (ws := w_Model_isTurtle) B.pre
  have htt : ∀ w ∈ tw_T, w.before _ s = true := fun w h => hts w (List.mem_cons_of_mem _ h)
  have hown : s.vm.findClass R_Model = some m.cls := findClass_of_methodNamed B.named
  have hlocks := B.notSynchronized
  subst hsz
  have hD := hD0.self (sz := s.heap.size)
  generalize hAe : va_A [(h0, .inr (12, mo v_r v_i v_j))] s.heap.size = A at hD ⊢
  have hA : ∀ q : Nat, s.heap.size ≤ q → A q := fun q h => by rw [← hAe]; exact Or.inr h
  have hS : va_S A s.heap s.heap [] := va_S.rf
  have hP : va_P (dC, dI) classes [(h0, .inr (12, mo v_r v_i v_j))] s.heap := hP
  have hl := lv_entry ([.ref h0, .int t]) (n := 2) (Nat.le_of_ble_eq_true rfl)
  rw [lg_entry_eq]
  generalize (lg_sl ([.ref h0, .int t]) ++ List.replicate (2 - (lg_sl ([.ref h0, .int t])).length) Slot.unset).toArray = ls at hl ⊢
  have hl : lv_has ls 2 [(0, .ref h0), (1, .int t)] := hl
  refine lv_iload_n hx hb d_Model_isTurtle_0 rfl (lv_at hl 1 rfl) ?_
  refine lv_if_lt (tgt := 14) hx hb d_Model_isTurtle_1 (by decide) (fun c_1 => ?_) (fun c_1 => ?_)
  · refine lv_iconst (v := 0) hx hb d_Model_isTurtle_14 (by decide) ?_
    have hP9 := hP.sub (ws' := [(h0, .inr (12, mo v_r v_i v_j))]) [0] rfl
    have hD9 := hD.sub (ws' := [(h0, .inr (12, mo v_r v_i v_j))]) [0] (by decide) rfl
    exact W.zret (v := 0) hx hb hr (by decide) (fun t9 ht hW => ⟨⟨0, (), rfl, by unfold m_Model_isTurtle_r; simp only [if_pos c_1], by rw [ht]; exact hP9, va_K.moved hW.alike hK, hD9⟩, hS.F ht⟩) hS.2.2 d_Model_isTurtle_15
  · refine lv_iload_n hx hb d_Model_isTurtle_4 rfl (lv_at hl 1 rfl) ?_
    refine lv_bipush (v := 8) hx hb d_Model_isTurtle_5 (by decide) ?_
    refine lv_icmp_ge (tgt := 14) hx hb d_Model_isTurtle_7 (by decide) (fun c_2 => ?_) (fun c_2 => ?_)
    · refine lv_iconst (v := 0) hx hb d_Model_isTurtle_14 (by decide) ?_
      have hP9 := hP.sub (ws' := [(h0, .inr (12, mo v_r v_i v_j))]) [0] rfl
      have hD9 := hD.sub (ws' := [(h0, .inr (12, mo v_r v_i v_j))]) [0] (by decide) rfl
      exact W.zret (v := 0) hx hb hr (by decide) (fun t9 ht hW => ⟨⟨0, (), rfl, by unfold m_Model_isTurtle_r; simp only [if_neg c_1, if_pos c_2], by rw [ht]; exact hP9, va_K.moved hW.alike hK, hD9⟩, hS.F ht⟩) hS.2.2 d_Model_isTurtle_15
    · refine lv_iconst (v := 1) hx hb d_Model_isTurtle_10 (by decide) ?_
      refine lv_goto (tgt := 15) hx hb d_Model_isTurtle_11 (by decide) ?_
      have hP9 := hP.sub (ws' := [(h0, .inr (12, mo v_r v_i v_j))]) [0] rfl
      have hD9 := hD.sub (ws' := [(h0, .inr (12, mo v_r v_i v_j))]) [0] (by decide) rfl
      exact W.zret (v := 1) hx hb hr (by decide) (fun t9 ht hW => ⟨⟨1, (), rfl, by unfold m_Model_isTurtle_r; simp only [if_neg c_1, if_neg c_2], by rw [ht]; exact hP9, va_K.moved hW.alike hK, hD9⟩, hS.F ht⟩) hS.2.2 d_Model_isTurtle_15

def m_Model_turtle_r (v_heading_v : Nat → Int32) (v_pen_v : Nat → Int32) (v_isDown_v : Nat → Int32) (a : Int32) (b : Int32) : Int32 := if ((m_Model_isTurtle_r a)) = ((0 : Int32)) then (-1) else if b = ((0 : Int32)) then 30 * (v_heading_v a.toNatClampNeg) else if b = ((1 : Int32)) then v_pen_v a.toNatClampNeg else if b = ((2 : Int32)) then v_isDown_v a.toNatClampNeg else (-1)
def m_Model_turtle_w0_i (v_i : Nat → Int32) (a : Int32) (b : Int32) : Nat → Int32 := if ((m_Model_isTurtle_r a)) = ((0 : Int32)) then (upd v_i 0 0) else if b = ((0 : Int32)) then (upd v_i 0 0) else if b = ((1 : Int32)) then (upd v_i 0 0) else if b = ((2 : Int32)) then (upd v_i 0 0) else (upd v_i 0 0)
theorem mt_in {t : Int32} (h : ¬ m_Model_isTurtle_r t = 0) : vp_in t 8 := by
  unfold m_Model_isTurtle_r at h
  by_cases a : t < 0
  · rw [if_pos a] at h; exact absurd rfl h
  · rw [if_neg a] at h
    by_cases b : 8 ≤ t
    · rw [if_pos b] at h; exact absurd rfl h
    · obtain ⟨j, hj, rfl⟩ := ts_nat (n := 8) (by decide) a b
      exact vp_in_nI hj (by decide)

set_option maxHeartbeats 4000000 in
set_option maxRecDepth 100000 in
theorem c_Model_turtle (l : Launch) (dC : Nat → ClassId) (dI : Nat → Nat → Nat) (sz : Nat) (h0 : Nat) (v_r : Nat → Nat) (v_i : Nat → Int32) (v_j : Nat → Int64) (v_heading_v : Nat → Int32) (v_pen_v : Nat → Int32) (v_isDown_v : Nat → Int32) (cI : ClassId) (cJ : ClassId) (cB : ClassId) (a : Int32) (b : Int32)  : Met l y_Model_turtle w_Model_turtle ({ frames := 1, cells := 0, slots := 0, locals := 21 }) (va_Pc [.ref h0, .int a, .int b] (fun U => U.heap.size = sz ∧ va_P (dC, dI) classes [(h0, .inr (12, mo v_r v_i v_j)), (v_r 41, .inl (cI, 8, .inl v_heading_v)), (v_r 42, .inl (cI, 8, .inl v_pen_v)), (v_r 43, .inl (cI, 8, .inl v_isDown_v))] U.heap ∧ va_K (dC, dI) classes [(cI, .int), (cJ, .long), (cB, .byte)] U ∧ va_D (fun _ => True) [(h0, .inr (12, mo v_r v_i v_j)), (v_r 41, .inl (cI, 8, .inl v_heading_v)), (v_r 42, .inl (cI, 8, .inl v_pen_v)), (v_r 43, .inl (cI, 8, .inl v_isDown_v))])) (va_Qi (fun (r : Int32) (_ : Unit) => r = m_Model_turtle_r v_heading_v v_pen_v v_isDown_v a b) (fun (_ : Unit) t => va_P (dC, dI) classes [(h0, .inr (12, mo v_r (m_Model_turtle_w0_i v_i a b) v_j)), (v_r 41, .inl (cI, 8, .inl v_heading_v)), (v_r 42, .inl (cI, 8, .inl v_pen_v)), (v_r 43, .inl (cI, 8, .inl v_isDown_v))] t.heap ∧ va_K (dC, dI) classes [(cI, .int), (cJ, .long), (cB, .byte)] t ∧ va_D (va_A [(h0, .inr (12, mo v_r v_i v_j)), (v_r 41, .inl (cI, 8, .inl v_heading_v)), (v_r 42, .inl (cI, 8, .inl v_pen_v)), (v_r 43, .inl (cI, 8, .inl v_isDown_v))] sz) [(h0, .inr (12, mo v_r (m_Model_turtle_w0_i v_i a b) v_j)), (v_r 41, .inl (cI, 8, .inl v_heading_v)), (v_r 42, .inl (cI, 8, .inl v_pen_v)), (v_r 43, .inl (cI, 8, .inl v_isDown_v))]) (va_A [(h0, .inr (12, mo v_r v_i v_j)), (v_r 41, .inl (cI, 8, .inl v_heading_v)), (v_r 42, .inl (cI, 8, .inl v_pen_v)), (v_r 43, .inl (cI, 8, .inl v_isDown_v))] sz)) 0 0 (va_A [(h0, .inr (12, mo v_r v_i v_j)), (v_r 41, .inl (cI, 8, .inl v_heading_v)), (v_r 42, .inl (cI, 8, .inl v_pen_v)), (v_r 43, .inl (cI, 8, .inl v_isDown_v))] sz) := by
  refine Met.ofW (cc := b_Model_turtle) (maxL := 3) (ret := (some .int)) (by decide) rfl ?_
  intro p e s m args below meth c s₁ B hml hv
  obtain ⟨rfl, hsz, hP, hK, hD0⟩ := hv
  have hx := B.exec
  have hb := B.bytes
  have hr := B.returns
  have hts := atoms_spec (ws := w_Model_turtle) B.pre
  have htt : ∀ w ∈ tw_T, w.before _ s = true := fun w h => hts w (List.mem_cons_of_mem _ h)
  have hown : s.vm.findClass R_Model = some m.cls := findClass_of_methodNamed B.named
  have hlocks := B.notSynchronized
  subst hsz
  have hD := hD0.self (sz := s.heap.size)
  generalize hAe : va_A [(h0, .inr (12, mo v_r v_i v_j)), (v_r 41, .inl (cI, 8, .inl v_heading_v)), (v_r 42, .inl (cI, 8, .inl v_pen_v)), (v_r 43, .inl (cI, 8, .inl v_isDown_v))] s.heap.size = A at hD ⊢
  have hA : ∀ q : Nat, s.heap.size ≤ q → A q := fun q h => by rw [← hAe]; exact Or.inr h
  have hS : va_S A s.heap s.heap [] := va_S.rf
  have hP : va_P (dC, dI) classes [(h0, .inr (12, mo v_r v_i v_j)), (v_r 41, .inl (cI, 8, .inl v_heading_v)), (v_r 42, .inl (cI, 8, .inl v_pen_v)), (v_r 43, .inl (cI, 8, .inl v_isDown_v))] s.heap := hP
  have hl := lv_entry ([.ref h0, .int a, .int b]) (n := 3) (Nat.le_of_ble_eq_true rfl)
  rw [lg_entry_eq]
  generalize (lg_sl ([.ref h0, .int a, .int b]) ++ List.replicate (3 - (lg_sl ([.ref h0, .int a, .int b])).length) Slot.unset).toArray = ls at hl ⊢
  have hl : lv_has ls 3 [(0, .ref h0), (1, .int a), (2, .int b)] := hl
  refine lv_aload_n hx hb d_Model_turtle_0 rfl (lv_at hl 0 rfl) ?_
  refine lv_iconst (v := 0) hx hb d_Model_turtle_1 (by decide) ?_
  refine va_put (D := (dC, dI)) (ci := 12) (v := .int 0) (ty := .int) (C := R_Model) (T := F_Model) (N := 127) hx hb htt iw_Model t_Model t_Model_ok n_Model hown hK hP hD hS 0 rfl rfl 0 (by decide) (htt _ lk_Model_1) (fun _ h9 => h9) rfl (by decide +kernel) rfl rfl (Nat.le_of_ble_eq_true rfl) d_Model_turtle_2 (fun H locs hP hD hS => ?_)
  have hP : va_P (dC, dI) classes [(h0, .inr (12, mo v_r (upd v_i 0 0) v_j)), (v_r 41, .inl (cI, 8, .inl v_heading_v)), (v_r 42, .inl (cI, 8, .inl v_pen_v)), (v_r 43, .inl (cI, 8, .inl v_isDown_v))] H := hP
  have hD : va_D A [(h0, .inr (12, mo v_r (upd v_i 0 0) v_j)), (v_r 41, .inl (cI, 8, .inl v_heading_v)), (v_r 42, .inl (cI, 8, .inl v_pen_v)), (v_r 43, .inl (cI, 8, .inl v_isDown_v))] := hD
  refine lv_aload_n hx hb d_Model_turtle_5 rfl (lv_at hl 0 rfl) ?_
  refine lv_iload_n hx hb d_Model_turtle_6 rfl (lv_at hl 1 rfl) ?_
  have hPc := hP.sub (ws' := [(h0, .inr (12, mo v_r ((upd v_i 0 0)) v_j))]) [0] rfl
  have hDc := hD.sub (ws' := [(h0, .inr (12, mo v_r ((upd v_i 0 0)) v_j))]) [0] (by decide) rfl
  have hKc := hK.sub (tys' := [(cI, .int), (cJ, .long), (cB, .byte)]) [0, 1, 2] rfl
  have hFc := va_free (wc := [(h0, .inr (12, mo v_r ((upd v_i 0 0)) v_j))]) hD hS hA [0] rfl
  refine va_calli (va_runV (As := [.int a]) (rest := []) ⟨hx, hb, hml, hown, hts⟩ (c_Model_isTurtle l dC dI H.size h0 v_r (upd v_i 0 0) v_j cI cJ cB a) (cwV 1 hts (tw_GV tw_cons cw_Model_isTurtle lk_Model_849 in_Model_isTurtle sel_Model_isTurtle ini_Model) rfl rfl rfl (by decide +kernel) ⟨Nat.le_of_ble_eq_true rfl, Nat.le_of_ble_eq_true rfl⟩) ⟨fun a U g mk q => by obtain ⟨q0, q1, qP, qK, qD⟩ := q; exact ⟨q0, q1, qP, va_K.moved (u := U) (U := U.calling g mk a) (Vm.Alike.refl U.vm) qK, qD⟩, va_recv hKc hPc (ci := 12) (q0 := 0) rfl rfl, fun U hU hW => ⟨rfl, by rw [hU], by rw [hU]; exact hPc, va_K.moved hW.alike hKc, hDc.weaken (fun _ _ _ _ => trivial)⟩⟩ rfl rfl hl.1 rfl (lv_room (Nat.le_of_ble_eq_true rfl)) d_Model_turtle_7 ⟨Nat.le_of_ble_eq_true rfl, Nat.le_of_ble_eq_true rfl⟩) hS (fun q _ h => hFc q h) hFc (fun r9 u9 t9 H1 locs ht hvm e9 hB hz1 hk1 hS => ?_)
  obtain ⟨hP1, hK1, hD1⟩ := hB
  rw [ht] at hP1
  obtain ⟨hP, hD⟩ := va_join (wr := [(v_r 41, .inl (cI, 8, .inl v_heading_v)), (v_r 42, .inl (cI, 8, .inl v_pen_v)), (v_r 43, .inl (cI, 8, .inl v_isDown_v))]) (w1 := [(h0, .inr (12, mo v_r ((upd v_i 0 0)) v_j))]) hP hD [0] [1, 2, 3] rfl rfl (by decide) (by decide) hk1 hFc hP1 hD1
  subst e9
  clear hP1 hD1 hK1 hvm hz1 hk1 hFc hKc hDc hPc
  subst ht
  generalize t9.heap = H at hP hS ⊢
  have hP : va_P (dC, dI) classes [(v_r 41, .inl (cI, 8, .inl v_heading_v)), (v_r 42, .inl (cI, 8, .inl v_pen_v)), (v_r 43, .inl (cI, 8, .inl v_isDown_v)), (h0, .inr (12, mo v_r ((upd v_i 0 0)) v_j))] H := hP
  have hD : va_D A [(v_r 41, .inl (cI, 8, .inl v_heading_v)), (v_r 42, .inl (cI, 8, .inl v_pen_v)), (v_r 43, .inl (cI, 8, .inl v_isDown_v)), (h0, .inr (12, mo v_r ((upd v_i 0 0)) v_j))] := hD
  refine lv_if_ne (tgt := 17) hx hb d_Model_turtle_10 (by decide) (fun c_1 => ?_) (fun c_1 => ?_)
  · refine lv_iload_n hx hb d_Model_turtle_17 rfl (lv_at hl 2 rfl) ?_
    refine lv_if_ne (tgt := 33) hx hb d_Model_turtle_18 (by decide) (fun c_2 => ?_) (fun c_2 => ?_)
    · refine lv_iload_n hx hb d_Model_turtle_33 rfl (lv_at hl 2 rfl) ?_
      refine lv_iconst (v := 1) hx hb d_Model_turtle_34 (by decide) ?_
      refine lv_icmp_ne (tgt := 47) hx hb d_Model_turtle_35 (by decide) (fun c_3 => ?_) (fun c_3 => ?_)
      · refine lv_iload_n hx hb d_Model_turtle_47 rfl (lv_at hl 2 rfl) ?_
        refine lv_iconst (v := 2) hx hb d_Model_turtle_48 (by decide) ?_
        refine lv_icmp_ne (tgt := 61) hx hb d_Model_turtle_49 (by decide) (fun c_4 => ?_) (fun c_4 => ?_)
        · refine lv_iconst (v := -1) hx hb d_Model_turtle_61 (by decide) ?_
          have hP9 := hP.sub (ws' := [(h0, .inr (12, mo v_r ((upd v_i 0 0)) v_j)), (v_r 41, .inl (cI, 8, .inl v_heading_v)), (v_r 42, .inl (cI, 8, .inl v_pen_v)), (v_r 43, .inl (cI, 8, .inl v_isDown_v))]) [3, 0, 1, 2] rfl
          have hD9 := hD.sub (ws' := [(h0, .inr (12, mo v_r ((upd v_i 0 0)) v_j)), (v_r 41, .inl (cI, 8, .inl v_heading_v)), (v_r 42, .inl (cI, 8, .inl v_pen_v)), (v_r 43, .inl (cI, 8, .inl v_isDown_v))]) [3, 0, 1, 2] (by decide) rfl
          have eW : [(h0, .inr (12, mo v_r ((upd v_i 0 0)) v_j)), (v_r 41, .inl (cI, 8, .inl v_heading_v)), (v_r 42, .inl (cI, 8, .inl v_pen_v)), (v_r 43, .inl (cI, 8, .inl v_isDown_v))] = ([(h0, .inr (12, mo v_r (m_Model_turtle_w0_i v_i a b) v_j)), (v_r 41, .inl (cI, 8, .inl v_heading_v)), (v_r 42, .inl (cI, 8, .inl v_pen_v)), (v_r 43, .inl (cI, 8, .inl v_isDown_v))] : va_W) := by unfold m_Model_turtle_w0_i; simp only [if_neg c_1, if_neg c_2, if_neg c_3, if_neg c_4]
          rw [eW] at hP9 hD9
          exact W.iret (v := (-1)) hx hb hr (fun t9 ht hW => ⟨⟨(-1), (), rfl, by unfold m_Model_turtle_r; simp only [if_neg c_1, if_neg c_2, if_neg c_3, if_neg c_4], by rw [ht]; exact hP9, va_K.moved hW.alike hK, hD9⟩, hS.F ht⟩) hS.2.2 d_Model_turtle_62
        · refine lv_aload_n hx hb d_Model_turtle_52 rfl (lv_at hl 0 rfl) ?_
          refine va_get (D := (dC, dI)) (ci := 12) (v := .ref (v_r 43)) (C := R_Model) (T := F_Model) (N := 127) hx hb htt iw_Model hown hK hP 3 rfl rfl 43 (by decide) (htt _ lk_Model_219) (fun _ h9 => h9) rfl d_Model_turtle_53 ?_
          refine lv_iload_n hx hb d_Model_turtle_56 rfl (lv_at hl 1 rfl) ?_
          have h_5 : vp_in a 8 := mt_in c_1
          refine va_iald hx hb hK hP 2 0 rfl rfl h_5 d_Model_turtle_57 ?_
          refine lv_goto (tgt := 62) hx hb d_Model_turtle_58 (by decide) ?_
          have hP9 := hP.sub (ws' := [(h0, .inr (12, mo v_r ((upd v_i 0 0)) v_j)), (v_r 41, .inl (cI, 8, .inl v_heading_v)), (v_r 42, .inl (cI, 8, .inl v_pen_v)), (v_r 43, .inl (cI, 8, .inl v_isDown_v))]) [3, 0, 1, 2] rfl
          have hD9 := hD.sub (ws' := [(h0, .inr (12, mo v_r ((upd v_i 0 0)) v_j)), (v_r 41, .inl (cI, 8, .inl v_heading_v)), (v_r 42, .inl (cI, 8, .inl v_pen_v)), (v_r 43, .inl (cI, 8, .inl v_isDown_v))]) [3, 0, 1, 2] (by decide) rfl
          have eW : [(h0, .inr (12, mo v_r ((upd v_i 0 0)) v_j)), (v_r 41, .inl (cI, 8, .inl v_heading_v)), (v_r 42, .inl (cI, 8, .inl v_pen_v)), (v_r 43, .inl (cI, 8, .inl v_isDown_v))] = ([(h0, .inr (12, mo v_r (m_Model_turtle_w0_i v_i a b) v_j)), (v_r 41, .inl (cI, 8, .inl v_heading_v)), (v_r 42, .inl (cI, 8, .inl v_pen_v)), (v_r 43, .inl (cI, 8, .inl v_isDown_v))] : va_W) := by unfold m_Model_turtle_w0_i; simp only [if_neg c_1, if_neg c_2, if_neg c_3, if_pos c_4]
          rw [eW] at hP9 hD9
          exact W.iret (v := v_isDown_v a.toNatClampNeg) hx hb hr (fun t9 ht hW => ⟨⟨v_isDown_v a.toNatClampNeg, (), rfl, by unfold m_Model_turtle_r; simp only [if_neg c_1, if_neg c_2, if_neg c_3, if_pos c_4], by rw [ht]; exact hP9, va_K.moved hW.alike hK, hD9⟩, hS.F ht⟩) hS.2.2 d_Model_turtle_62
      · refine lv_aload_n hx hb d_Model_turtle_38 rfl (lv_at hl 0 rfl) ?_
        refine va_get (D := (dC, dI)) (ci := 12) (v := .ref (v_r 42)) (C := R_Model) (T := F_Model) (N := 127) hx hb htt iw_Model hown hK hP 3 rfl rfl 42 (by decide) (htt _ lk_Model_216) (fun _ h9 => h9) rfl d_Model_turtle_39 ?_
        refine lv_iload_n hx hb d_Model_turtle_42 rfl (lv_at hl 1 rfl) ?_
        have h_6 : vp_in a 8 := mt_in c_1
        refine va_iald hx hb hK hP 1 0 rfl rfl h_6 d_Model_turtle_43 ?_
        refine lv_goto (tgt := 62) hx hb d_Model_turtle_44 (by decide) ?_
        have hP9 := hP.sub (ws' := [(h0, .inr (12, mo v_r ((upd v_i 0 0)) v_j)), (v_r 41, .inl (cI, 8, .inl v_heading_v)), (v_r 42, .inl (cI, 8, .inl v_pen_v)), (v_r 43, .inl (cI, 8, .inl v_isDown_v))]) [3, 0, 1, 2] rfl
        have hD9 := hD.sub (ws' := [(h0, .inr (12, mo v_r ((upd v_i 0 0)) v_j)), (v_r 41, .inl (cI, 8, .inl v_heading_v)), (v_r 42, .inl (cI, 8, .inl v_pen_v)), (v_r 43, .inl (cI, 8, .inl v_isDown_v))]) [3, 0, 1, 2] (by decide) rfl
        have eW : [(h0, .inr (12, mo v_r ((upd v_i 0 0)) v_j)), (v_r 41, .inl (cI, 8, .inl v_heading_v)), (v_r 42, .inl (cI, 8, .inl v_pen_v)), (v_r 43, .inl (cI, 8, .inl v_isDown_v))] = ([(h0, .inr (12, mo v_r (m_Model_turtle_w0_i v_i a b) v_j)), (v_r 41, .inl (cI, 8, .inl v_heading_v)), (v_r 42, .inl (cI, 8, .inl v_pen_v)), (v_r 43, .inl (cI, 8, .inl v_isDown_v))] : va_W) := by unfold m_Model_turtle_w0_i; simp only [if_neg c_1, if_neg c_2, if_pos c_3]
        rw [eW] at hP9 hD9
        exact W.iret (v := v_pen_v a.toNatClampNeg) hx hb hr (fun t9 ht hW => ⟨⟨v_pen_v a.toNatClampNeg, (), rfl, by unfold m_Model_turtle_r; simp only [if_neg c_1, if_neg c_2, if_pos c_3], by rw [ht]; exact hP9, va_K.moved hW.alike hK, hD9⟩, hS.F ht⟩) hS.2.2 d_Model_turtle_62
    · refine lv_bipush (v := 30) hx hb d_Model_turtle_21 (by decide) ?_
      refine lv_aload_n hx hb d_Model_turtle_23 rfl (lv_at hl 0 rfl) ?_
      refine va_get (D := (dC, dI)) (ci := 12) (v := .ref (v_r 41)) (C := R_Model) (T := F_Model) (N := 127) hx hb htt iw_Model hown hK hP 3 rfl rfl 41 (by decide) (htt _ lk_Model_213) (fun _ h9 => h9) rfl d_Model_turtle_24 ?_
      refine lv_iload_n hx hb d_Model_turtle_27 rfl (lv_at hl 1 rfl) ?_
      have h_7 : vp_in a 8 := mt_in c_1
      refine va_iald hx hb hK hP 0 0 rfl rfl h_7 d_Model_turtle_28 ?_
      refine lv_imul hx hb d_Model_turtle_29 ?_
      refine lv_goto (tgt := 62) hx hb d_Model_turtle_30 (by decide) ?_
      have hP9 := hP.sub (ws' := [(h0, .inr (12, mo v_r ((upd v_i 0 0)) v_j)), (v_r 41, .inl (cI, 8, .inl v_heading_v)), (v_r 42, .inl (cI, 8, .inl v_pen_v)), (v_r 43, .inl (cI, 8, .inl v_isDown_v))]) [3, 0, 1, 2] rfl
      have hD9 := hD.sub (ws' := [(h0, .inr (12, mo v_r ((upd v_i 0 0)) v_j)), (v_r 41, .inl (cI, 8, .inl v_heading_v)), (v_r 42, .inl (cI, 8, .inl v_pen_v)), (v_r 43, .inl (cI, 8, .inl v_isDown_v))]) [3, 0, 1, 2] (by decide) rfl
      have eW : [(h0, .inr (12, mo v_r ((upd v_i 0 0)) v_j)), (v_r 41, .inl (cI, 8, .inl v_heading_v)), (v_r 42, .inl (cI, 8, .inl v_pen_v)), (v_r 43, .inl (cI, 8, .inl v_isDown_v))] = ([(h0, .inr (12, mo v_r (m_Model_turtle_w0_i v_i a b) v_j)), (v_r 41, .inl (cI, 8, .inl v_heading_v)), (v_r 42, .inl (cI, 8, .inl v_pen_v)), (v_r 43, .inl (cI, 8, .inl v_isDown_v))] : va_W) := by unfold m_Model_turtle_w0_i; simp only [if_neg c_1, if_pos c_2]
      rw [eW] at hP9 hD9
      exact W.iret (v := 30 * (v_heading_v a.toNatClampNeg)) hx hb hr (fun t9 ht hW => ⟨⟨30 * (v_heading_v a.toNatClampNeg), (), rfl, by unfold m_Model_turtle_r; simp only [if_neg c_1, if_pos c_2], by rw [ht]; exact hP9, va_K.moved hW.alike hK, hD9⟩, hS.F ht⟩) hS.2.2 d_Model_turtle_62
  · refine lv_iconst (v := -1) hx hb d_Model_turtle_13 (by decide) ?_
    refine lv_goto (tgt := 62) hx hb d_Model_turtle_14 (by decide) ?_
    have hP9 := hP.sub (ws' := [(h0, .inr (12, mo v_r ((upd v_i 0 0)) v_j)), (v_r 41, .inl (cI, 8, .inl v_heading_v)), (v_r 42, .inl (cI, 8, .inl v_pen_v)), (v_r 43, .inl (cI, 8, .inl v_isDown_v))]) [3, 0, 1, 2] rfl
    have hD9 := hD.sub (ws' := [(h0, .inr (12, mo v_r ((upd v_i 0 0)) v_j)), (v_r 41, .inl (cI, 8, .inl v_heading_v)), (v_r 42, .inl (cI, 8, .inl v_pen_v)), (v_r 43, .inl (cI, 8, .inl v_isDown_v))]) [3, 0, 1, 2] (by decide) rfl
    have eW : [(h0, .inr (12, mo v_r ((upd v_i 0 0)) v_j)), (v_r 41, .inl (cI, 8, .inl v_heading_v)), (v_r 42, .inl (cI, 8, .inl v_pen_v)), (v_r 43, .inl (cI, 8, .inl v_isDown_v))] = ([(h0, .inr (12, mo v_r (m_Model_turtle_w0_i v_i a b) v_j)), (v_r 41, .inl (cI, 8, .inl v_heading_v)), (v_r 42, .inl (cI, 8, .inl v_pen_v)), (v_r 43, .inl (cI, 8, .inl v_isDown_v))] : va_W) := by unfold m_Model_turtle_w0_i; simp only [if_pos c_1]
    rw [eW] at hP9 hD9
    exact W.iret (v := (-1)) hx hb hr (fun t9 ht hW => ⟨⟨(-1), (), rfl, by unfold m_Model_turtle_r; simp only [if_pos c_1], by rw [ht]; exact hP9, va_K.moved hW.alike hK, hD9⟩, hS.F ht⟩) hS.2.2 d_Model_turtle_62

