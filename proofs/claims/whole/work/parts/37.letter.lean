theorem d_Heap_letter_0 : decode b_Heap_letter 0 = .ok (.iload_n 1, 1) := by decide +kernel
theorem d_Heap_letter_1 : decode b_Heap_letter 1 = .ok (.invokestatic 129, 3) := by decide +kernel
theorem d_Heap_letter_4 : decode b_Heap_letter 4 = .ok (.ifCond .eq 29, 3) := by decide +kernel
theorem d_Heap_letter_7 : decode b_Heap_letter 7 = .ok (.iload_n 2, 1) := by decide +kernel
theorem d_Heap_letter_8 : decode b_Heap_letter 8 = .ok (.ifCond .lt 25, 3) := by decide +kernel
theorem d_Heap_letter_11 : decode b_Heap_letter 11 = .ok (.iload_n 2, 1) := by decide +kernel
theorem d_Heap_letter_12 : decode b_Heap_letter 12 = .ok (.aload_n 0, 1) := by decide +kernel
theorem d_Heap_letter_13 : decode b_Heap_letter 13 = .ok (.iload_n 1, 1) := by decide +kernel
theorem d_Heap_letter_14 : decode b_Heap_letter 14 = .ok (.invokevirtual 119, 3) := by decide +kernel
theorem d_Heap_letter_17 : decode b_Heap_letter 17 = .ok (.if_icmp .ge 16, 3) := by decide +kernel
theorem d_Heap_letter_20 : decode b_Heap_letter 20 = .ok (.aload_n 0, 1) := by decide +kernel
theorem d_Heap_letter_21 : decode b_Heap_letter 21 = .ok (.getfield 11, 3) := by decide +kernel
theorem d_Heap_letter_24 : decode b_Heap_letter 24 = .ok (.iload_n 1, 1) := by decide +kernel
theorem d_Heap_letter_25 : decode b_Heap_letter 25 = .ok (.iconst 2, 1) := by decide +kernel
theorem d_Heap_letter_26 : decode b_Heap_letter 26 = .ok (.ishr, 1) := by decide +kernel
theorem d_Heap_letter_27 : decode b_Heap_letter 27 = .ok (.iload_n 2, 1) := by decide +kernel
theorem d_Heap_letter_28 : decode b_Heap_letter 28 = .ok (.iadd, 1) := by decide +kernel
theorem d_Heap_letter_29 : decode b_Heap_letter 29 = .ok (.iaload, 1) := by decide +kernel
theorem d_Heap_letter_30 : decode b_Heap_letter 30 = .ok (.goto 4, 3) := by decide +kernel
theorem d_Heap_letter_33 : decode b_Heap_letter 33 = .ok (.iconst (-1), 1) := by decide +kernel
theorem d_Heap_letter_34 : decode b_Heap_letter 34 = .ok (.ireturn, 1) := by decide +kernel
