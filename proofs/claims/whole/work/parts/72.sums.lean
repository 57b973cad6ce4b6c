theorem d_Model_sum_0 : decode b_Model_sum 0 = .ok (.aload_n 0, 1) := by decide +kernel
theorem d_Model_sum_1 : decode b_Model_sum 1 = .ok (.iconst 0, 1) := by decide +kernel
theorem d_Model_sum_2 : decode b_Model_sum 2 = .ok (.putfield 1, 3) := by decide +kernel
theorem d_Model_sum_5 : decode b_Model_sum 5 = .ok (.iconst 0, 1) := by decide +kernel
theorem d_Model_sum_6 : decode b_Model_sum 6 = .ok (.istore_n 1, 1) := by decide +kernel
theorem d_Model_sum_7 : decode b_Model_sum 7 = .ok (.iconst 0, 1) := by decide +kernel
theorem d_Model_sum_8 : decode b_Model_sum 8 = .ok (.istore_n 2, 1) := by decide +kernel
theorem d_Model_sum_9 : decode b_Model_sum 9 = .ok (.iload_n 2, 1) := by decide +kernel
theorem d_Model_sum_10 : decode b_Model_sum 10 = .ok (.sipush 4096, 3) := by decide +kernel
theorem d_Model_sum_13 : decode b_Model_sum 13 = .ok (.if_icmp .ge 21, 3) := by decide +kernel
theorem d_Model_sum_16 : decode b_Model_sum 16 = .ok (.bipush 31, 2) := by decide +kernel
theorem d_Model_sum_18 : decode b_Model_sum 18 = .ok (.iload_n 1, 1) := by decide +kernel
theorem d_Model_sum_19 : decode b_Model_sum 19 = .ok (.imul, 1) := by decide +kernel
theorem d_Model_sum_20 : decode b_Model_sum 20 = .ok (.aload_n 0, 1) := by decide +kernel
theorem d_Model_sum_21 : decode b_Model_sum 21 = .ok (.getfield 222, 3) := by decide +kernel
theorem d_Model_sum_24 : decode b_Model_sum 24 = .ok (.iload_n 2, 1) := by decide +kernel
theorem d_Model_sum_25 : decode b_Model_sum 25 = .ok (.iaload, 1) := by decide +kernel
theorem d_Model_sum_26 : decode b_Model_sum 26 = .ok (.iadd, 1) := by decide +kernel
theorem d_Model_sum_27 : decode b_Model_sum 27 = .ok (.istore_n 1, 1) := by decide +kernel
theorem d_Model_sum_28 : decode b_Model_sum 28 = .ok (.iinc 2 1, 3) := by decide +kernel
theorem d_Model_sum_31 : decode b_Model_sum 31 = .ok (.goto (-22), 3) := by decide +kernel
theorem d_Model_sum_34 : decode b_Model_sum 34 = .ok (.iconst 0, 1) := by decide +kernel
theorem d_Model_sum_35 : decode b_Model_sum 35 = .ok (.istore_n 2, 1) := by decide +kernel
theorem d_Model_sum_36 : decode b_Model_sum 36 = .ok (.iload_n 2, 1) := by decide +kernel
theorem d_Model_sum_37 : decode b_Model_sum 37 = .ok (.bipush 8, 2) := by decide +kernel
theorem d_Model_sum_39 : decode b_Model_sum 39 = .ok (.if_icmp .ge 36, 3) := by decide +kernel
theorem d_Model_sum_42 : decode b_Model_sum 42 = .ok (.iconst 0, 1) := by decide +kernel
theorem d_Model_sum_43 : decode b_Model_sum 43 = .ok (.istore_n 3, 1) := by decide +kernel
theorem d_Model_sum_44 : decode b_Model_sum 44 = .ok (.iload_n 3, 1) := by decide +kernel
theorem d_Model_sum_45 : decode b_Model_sum 45 = .ok (.bipush 7, 2) := by decide +kernel
theorem d_Model_sum_47 : decode b_Model_sum 47 = .ok (.if_icmp .ge 22, 3) := by decide +kernel
theorem d_Model_sum_50 : decode b_Model_sum 50 = .ok (.bipush 31, 2) := by decide +kernel
theorem d_Model_sum_52 : decode b_Model_sum 52 = .ok (.iload_n 1, 1) := by decide +kernel
theorem d_Model_sum_53 : decode b_Model_sum 53 = .ok (.imul, 1) := by decide +kernel
theorem d_Model_sum_54 : decode b_Model_sum 54 = .ok (.aload_n 0, 1) := by decide +kernel
theorem d_Model_sum_55 : decode b_Model_sum 55 = .ok (.iload_n 3, 1) := by decide +kernel
theorem d_Model_sum_56 : decode b_Model_sum 56 = .ok (.invokevirtual 340, 3) := by decide +kernel
theorem d_Model_sum_59 : decode b_Model_sum 59 = .ok (.iload_n 2, 1) := by decide +kernel
theorem d_Model_sum_60 : decode b_Model_sum 60 = .ok (.iaload, 1) := by decide +kernel
theorem d_Model_sum_61 : decode b_Model_sum 61 = .ok (.iadd, 1) := by decide +kernel
theorem d_Model_sum_62 : decode b_Model_sum 62 = .ok (.istore_n 1, 1) := by decide +kernel
theorem d_Model_sum_63 : decode b_Model_sum 63 = .ok (.iinc 3 1, 3) := by decide +kernel
theorem d_Model_sum_66 : decode b_Model_sum 66 = .ok (.goto (-22), 3) := by decide +kernel
theorem d_Model_sum_69 : decode b_Model_sum 69 = .ok (.iinc 2 1, 3) := by decide +kernel
theorem d_Model_sum_72 : decode b_Model_sum 72 = .ok (.goto (-36), 3) := by decide +kernel
theorem d_Model_sum_75 : decode b_Model_sum 75 = .ok (.iload_n 1, 1) := by decide +kernel
theorem d_Model_sum_76 : decode b_Model_sum 76 = .ok (.ireturn, 1) := by decide +kernel
