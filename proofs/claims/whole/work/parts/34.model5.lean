theorem d_Model_sameLetters_0 : decode b_Model_sameLetters 0 = .ok (.iload_n 2, 1) := by decide +kernel
theorem d_Model_sameLetters_1 : decode b_Model_sameLetters 1 = .ok (.iload 4, 2) := by decide +kernel
theorem d_Model_sameLetters_3 : decode b_Model_sameLetters 3 = .ok (.if_icmp .eq 5, 3) := by decide +kernel
theorem d_Model_sameLetters_6 : decode b_Model_sameLetters 6 = .ok (.iconst 0, 1) := by decide +kernel
theorem d_Model_sameLetters_7 : decode b_Model_sameLetters 7 = .ok (.ireturn, 1) := by decide +kernel
theorem d_Model_sameLetters_8 : decode b_Model_sameLetters 8 = .ok (.iconst 0, 1) := by decide +kernel
theorem d_Model_sameLetters_9 : decode b_Model_sameLetters 9 = .ok (.istore 5, 2) := by decide +kernel
theorem d_Model_sameLetters_11 : decode b_Model_sameLetters 11 = .ok (.iload 5, 2) := by decide +kernel
theorem d_Model_sameLetters_13 : decode b_Model_sameLetters 13 = .ok (.iload_n 2, 1) := by decide +kernel
theorem d_Model_sameLetters_14 : decode b_Model_sameLetters 14 = .ok (.if_icmp .ge 32, 3) := by decide +kernel
theorem d_Model_sameLetters_17 : decode b_Model_sameLetters 17 = .ok (.aload_n 0, 1) := by decide +kernel
theorem d_Model_sameLetters_18 : decode b_Model_sameLetters 18 = .ok (.getfield 67, 3) := by decide +kernel
theorem d_Model_sameLetters_21 : decode b_Model_sameLetters 21 = .ok (.iload_n 1, 1) := by decide +kernel
theorem d_Model_sameLetters_22 : decode b_Model_sameLetters 22 = .ok (.iload 5, 2) := by decide +kernel
theorem d_Model_sameLetters_24 : decode b_Model_sameLetters 24 = .ok (.iadd, 1) := by decide +kernel
theorem d_Model_sameLetters_25 : decode b_Model_sameLetters 25 = .ok (.baload, 1) := by decide +kernel
theorem d_Model_sameLetters_26 : decode b_Model_sameLetters 26 = .ok (.aload_n 0, 1) := by decide +kernel
theorem d_Model_sameLetters_27 : decode b_Model_sameLetters 27 = .ok (.getfield 67, 3) := by decide +kernel
theorem d_Model_sameLetters_30 : decode b_Model_sameLetters 30 = .ok (.iload_n 3, 1) := by decide +kernel
theorem d_Model_sameLetters_31 : decode b_Model_sameLetters 31 = .ok (.iload 5, 2) := by decide +kernel
theorem d_Model_sameLetters_33 : decode b_Model_sameLetters 33 = .ok (.iadd, 1) := by decide +kernel
theorem d_Model_sameLetters_34 : decode b_Model_sameLetters 34 = .ok (.baload, 1) := by decide +kernel
theorem d_Model_sameLetters_35 : decode b_Model_sameLetters 35 = .ok (.if_icmp .eq 5, 3) := by decide +kernel
theorem d_Model_sameLetters_38 : decode b_Model_sameLetters 38 = .ok (.iconst 0, 1) := by decide +kernel
theorem d_Model_sameLetters_39 : decode b_Model_sameLetters 39 = .ok (.ireturn, 1) := by decide +kernel
theorem d_Model_sameLetters_40 : decode b_Model_sameLetters 40 = .ok (.iinc 5 1, 3) := by decide +kernel
theorem d_Model_sameLetters_43 : decode b_Model_sameLetters 43 = .ok (.goto (-32), 3) := by decide +kernel
theorem d_Model_sameLetters_46 : decode b_Model_sameLetters 46 = .ok (.iconst 1, 1) := by decide +kernel
theorem d_Model_sameLetters_47 : decode b_Model_sameLetters 47 = .ok (.ireturn, 1) := by decide +kernel
theorem lk_Model_67 : Cond.fieldLink "TurtleWorldModel" 67 "TurtleWorldModel" "letter" "[B" ∈ tw_T := tw_i8 79 (by decide +kernel) (by decide +kernel)
