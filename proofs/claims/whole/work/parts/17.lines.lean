theorem d_Line_callAt_0 : decode b_Line_callAt 0 = .ok (.iconst 0, 1) := by decide +kernel
theorem d_Line_callAt_1 : decode b_Line_callAt 1 = .ok (.istore_n 2, 1) := by decide +kernel
theorem d_Line_callAt_2 : decode b_Line_callAt 2 = .ok (.aload_n 0, 1) := by decide +kernel
theorem d_Line_callAt_3 : decode b_Line_callAt 3 = .ok (.getfield 62, 3) := by decide +kernel
theorem d_Line_callAt_6 : decode b_Line_callAt 6 = .ok (.iconst 1, 1) := by decide +kernel
theorem d_Line_callAt_7 : decode b_Line_callAt 7 = .ok (.isub, 1) := by decide +kernel
theorem d_Line_callAt_8 : decode b_Line_callAt 8 = .ok (.istore_n 3, 1) := by decide +kernel
theorem d_Line_callAt_9 : decode b_Line_callAt 9 = .ok (.iload_n 3, 1) := by decide +kernel
theorem d_Line_callAt_10 : decode b_Line_callAt 10 = .ok (.ifCond .lt 29, 3) := by decide +kernel
theorem d_Line_callAt_13 : decode b_Line_callAt 13 = .ok (.aload_n 0, 1) := by decide +kernel
theorem d_Line_callAt_14 : decode b_Line_callAt 14 = .ok (.getfield 9, 3) := by decide +kernel
theorem d_Line_callAt_17 : decode b_Line_callAt 17 = .ok (.iload_n 3, 1) := by decide +kernel
theorem d_Line_callAt_18 : decode b_Line_callAt 18 = .ok (.iaload, 1) := by decide +kernel
theorem d_Line_callAt_19 : decode b_Line_callAt 19 = .ok (.iconst 1, 1) := by decide +kernel
theorem d_Line_callAt_20 : decode b_Line_callAt 20 = .ok (.if_icmp .ne 13, 3) := by decide +kernel
theorem d_Line_callAt_23 : decode b_Line_callAt 23 = .ok (.iload_n 2, 1) := by decide +kernel
theorem d_Line_callAt_24 : decode b_Line_callAt 24 = .ok (.iload_n 1, 1) := by decide +kernel
theorem d_Line_callAt_25 : decode b_Line_callAt 25 = .ok (.if_icmp .ne 5, 3) := by decide +kernel
theorem d_Line_callAt_28 : decode b_Line_callAt 28 = .ok (.iload_n 3, 1) := by decide +kernel
theorem d_Line_callAt_29 : decode b_Line_callAt 29 = .ok (.ireturn, 1) := by decide +kernel
theorem d_Line_callAt_30 : decode b_Line_callAt 30 = .ok (.iinc 2 1, 3) := by decide +kernel
theorem d_Line_callAt_33 : decode b_Line_callAt 33 = .ok (.iinc 3 (-1), 3) := by decide +kernel
theorem d_Line_callAt_36 : decode b_Line_callAt 36 = .ok (.goto (-27), 3) := by decide +kernel
theorem d_Line_callAt_39 : decode b_Line_callAt 39 = .ok (.iconst (-1), 1) := by decide +kernel
theorem d_Line_callAt_40 : decode b_Line_callAt 40 = .ok (.ireturn, 1) := by decide +kernel
theorem lk_Line_9 : Cond.fieldLink "TurtleWorld$Line" 9 "TurtleWorld$Line" "kind" "[I" ∈ tw_T := tw_i3 16 (by decide +kernel) (by decide +kernel)
theorem d_Line_newest_0 : decode b_Line_newest 0 = .ok (.aload_n 0, 1) := by decide +kernel
theorem d_Line_newest_1 : decode b_Line_newest 1 = .ok (.getfield 62, 3) := by decide +kernel
theorem d_Line_newest_4 : decode b_Line_newest 4 = .ok (.iconst 1, 1) := by decide +kernel
theorem d_Line_newest_5 : decode b_Line_newest 5 = .ok (.isub, 1) := by decide +kernel
theorem d_Line_newest_6 : decode b_Line_newest 6 = .ok (.istore_n 3, 1) := by decide +kernel
theorem d_Line_newest_7 : decode b_Line_newest 7 = .ok (.iload_n 3, 1) := by decide +kernel
theorem d_Line_newest_8 : decode b_Line_newest 8 = .ok (.ifCond .lt 41, 3) := by decide +kernel
theorem d_Line_newest_11 : decode b_Line_newest 11 = .ok (.aload_n 0, 1) := by decide +kernel
theorem d_Line_newest_12 : decode b_Line_newest 12 = .ok (.getfield 9, 3) := by decide +kernel
theorem d_Line_newest_15 : decode b_Line_newest 15 = .ok (.iload_n 3, 1) := by decide +kernel
theorem d_Line_newest_16 : decode b_Line_newest 16 = .ok (.iaload, 1) := by decide +kernel
theorem d_Line_newest_17 : decode b_Line_newest 17 = .ok (.iconst 1, 1) := by decide +kernel
theorem d_Line_newest_18 : decode b_Line_newest 18 = .ok (.if_icmp .eq 31, 3) := by decide +kernel
theorem d_Line_newest_21 : decode b_Line_newest 21 = .ok (.aload_n 0, 1) := by decide +kernel
theorem d_Line_newest_22 : decode b_Line_newest 22 = .ok (.getfield 9, 3) := by decide +kernel
theorem d_Line_newest_25 : decode b_Line_newest 25 = .ok (.iload_n 3, 1) := by decide +kernel
theorem d_Line_newest_26 : decode b_Line_newest 26 = .ok (.iaload, 1) := by decide +kernel
theorem d_Line_newest_27 : decode b_Line_newest 27 = .ok (.iload_n 1, 1) := by decide +kernel
theorem d_Line_newest_28 : decode b_Line_newest 28 = .ok (.if_icmp .eq 13, 3) := by decide +kernel
theorem d_Line_newest_31 : decode b_Line_newest 31 = .ok (.aload_n 0, 1) := by decide +kernel
theorem d_Line_newest_32 : decode b_Line_newest 32 = .ok (.getfield 9, 3) := by decide +kernel
theorem d_Line_newest_35 : decode b_Line_newest 35 = .ok (.iload_n 3, 1) := by decide +kernel
theorem d_Line_newest_36 : decode b_Line_newest 36 = .ok (.iaload, 1) := by decide +kernel
theorem d_Line_newest_37 : decode b_Line_newest 37 = .ok (.iload_n 2, 1) := by decide +kernel
theorem d_Line_newest_38 : decode b_Line_newest 38 = .ok (.if_icmp .ne 5, 3) := by decide +kernel
theorem d_Line_newest_41 : decode b_Line_newest 41 = .ok (.iload_n 3, 1) := by decide +kernel
theorem d_Line_newest_42 : decode b_Line_newest 42 = .ok (.ireturn, 1) := by decide +kernel
theorem d_Line_newest_43 : decode b_Line_newest 43 = .ok (.iinc 3 (-1), 3) := by decide +kernel
theorem d_Line_newest_46 : decode b_Line_newest 46 = .ok (.goto (-39), 3) := by decide +kernel
theorem d_Line_newest_49 : decode b_Line_newest 49 = .ok (.iconst (-1), 1) := by decide +kernel
theorem d_Line_newest_50 : decode b_Line_newest 50 = .ok (.ireturn, 1) := by decide +kernel
theorem d_Names_countValues_0 : decode b_Names_countValues 0 = .ok (.iconst 0, 1) := by decide +kernel
theorem d_Names_countValues_1 : decode b_Names_countValues 1 = .ok (.istore_n 3, 1) := by decide +kernel
theorem d_Names_countValues_2 : decode b_Names_countValues 2 = .ok (.iload_n 1, 1) := by decide +kernel
theorem d_Names_countValues_3 : decode b_Names_countValues 3 = .ok (.iconst 0, 1) := by decide +kernel
theorem d_Names_countValues_4 : decode b_Names_countValues 4 = .ok (.invokestatic 58, 3) := by decide +kernel
theorem d_Names_countValues_7 : decode b_Names_countValues 7 = .ok (.istore 4, 2) := by decide +kernel
theorem d_Names_countValues_9 : decode b_Names_countValues 9 = .ok (.iload 4, 2) := by decide +kernel
theorem d_Names_countValues_11 : decode b_Names_countValues 11 = .ok (.iload_n 2, 1) := by decide +kernel
theorem d_Names_countValues_12 : decode b_Names_countValues 12 = .ok (.if_icmp .ge 32, 3) := by decide +kernel
theorem d_Names_countValues_15 : decode b_Names_countValues 15 = .ok (.iload 4, 2) := by decide +kernel
theorem d_Names_countValues_17 : decode b_Names_countValues 17 = .ok (.sipush 1800, 3) := by decide +kernel
theorem d_Names_countValues_20 : decode b_Names_countValues 20 = .ok (.if_icmp .ge 24, 3) := by decide +kernel
theorem d_Names_countValues_23 : decode b_Names_countValues 23 = .ok (.aload_n 0, 1) := by decide +kernel
theorem d_Names_countValues_24 : decode b_Names_countValues 24 = .ok (.getfield 21, 3) := by decide +kernel
theorem d_Names_countValues_27 : decode b_Names_countValues 27 = .ok (.iload 4, 2) := by decide +kernel
theorem d_Names_countValues_29 : decode b_Names_countValues 29 = .ok (.iaload, 1) := by decide +kernel
theorem d_Names_countValues_30 : decode b_Names_countValues 30 = .ok (.ldc 48, 2) := by decide +kernel
theorem d_Names_countValues_32 : decode b_Names_countValues 32 = .ok (.if_icmp .eq 6, 3) := by decide +kernel
theorem d_Names_countValues_35 : decode b_Names_countValues 35 = .ok (.iinc 3 1, 3) := by decide +kernel
theorem d_Names_countValues_38 : decode b_Names_countValues 38 = .ok (.iinc 4 1, 3) := by decide +kernel
theorem d_Names_countValues_41 : decode b_Names_countValues 41 = .ok (.goto (-32), 3) := by decide +kernel
theorem d_Names_countValues_44 : decode b_Names_countValues 44 = .ok (.iload_n 3, 1) := by decide +kernel
theorem d_Names_countValues_45 : decode b_Names_countValues 45 = .ok (.ireturn, 1) := by decide +kernel
theorem lk_Names_58 : Cond.methodLink "TurtleWorld$Names" 58 ⟨"java/lang/Math", "max", "(II)I"⟩ ∈ tw_T := tw_i7 214 (by decide +kernel) (by decide +kernel)
theorem up_step {i : Int32} (h : i.toInt < 2147483647) : (i + 1).toInt = i.toInt + 1 := by
  have := Int32.le_toInt i
  have e : (i + 1).toInt = i.toInt + (1 : Int32).toInt := i32_add (by simp only [Int32.reduceToInt]; omega) (by simp only [Int32.reduceToInt]; omega)
  rw [e]; simp only [Int32.reduceToInt]
theorem mx0 (a : Int32) : 0 ≤ (m_Math_max_r a 0).toInt := by
  unfold m_Math_max_r
  split
  · simp only [Int32.reduceToInt]; omega
  · rename_i h
    simp only [Int32.lt_iff_toInt_lt, Int32.reduceToInt] at h; omega
