theorem d_Model_run_0 : decode b_Model_run 0 = .ok (.aload_n 0, 1) := by decide +kernel
theorem d_Model_run_1 : decode b_Model_run 1 = .ok (.iconst 0, 1) := by decide +kernel
theorem d_Model_run_2 : decode b_Model_run 2 = .ok (.putfield 1, 3) := by decide +kernel
theorem d_Model_run_5 : decode b_Model_run 5 = .ok (.aload_n 0, 1) := by decide +kernel
theorem d_Model_run_6 : decode b_Model_run 6 = .ok (.getfield 494, 3) := by decide +kernel
theorem d_Model_run_9 : decode b_Model_run 9 = .ok (.iconst 1, 1) := by decide +kernel
theorem d_Model_run_10 : decode b_Model_run 10 = .ok (.if_icmp .ne 8, 3) := by decide +kernel
theorem d_Model_run_13 : decode b_Model_run 13 = .ok (.iload_n 1, 1) := by decide +kernel
theorem d_Model_run_14 : decode b_Model_run 14 = .ok (.iconst 1, 1) := by decide +kernel
theorem d_Model_run_15 : decode b_Model_run 15 = .ok (.if_icmp .ge 5, 3) := by decide +kernel
theorem d_Model_run_18 : decode b_Model_run 18 = .ok (.iconst 0, 1) := by decide +kernel
theorem d_Model_run_19 : decode b_Model_run 19 = .ok (.ireturn, 1) := by decide +kernel
theorem d_Model_run_20 : decode b_Model_run 20 = .ok (.aload_n 0, 1) := by decide +kernel
theorem d_Model_run_21 : decode b_Model_run 21 = .ok (.getfield 523, 3) := by decide +kernel
theorem d_Model_run_24 : decode b_Model_run 24 = .ok (.istore_n 2, 1) := by decide +kernel
theorem d_Model_run_25 : decode b_Model_run 25 = .ok (.aload_n 0, 1) := by decide +kernel
theorem d_Model_run_26 : decode b_Model_run 26 = .ok (.invokevirtual 526, 3) := by decide +kernel
theorem d_Model_run_29 : decode b_Model_run 29 = .ok (.aload_n 0, 1) := by decide +kernel
theorem d_Model_run_30 : decode b_Model_run 30 = .ok (.iload_n 2, 1) := by decide +kernel
theorem d_Model_run_31 : decode b_Model_run 31 = .ok (.i2l, 1) := by decide +kernel
theorem d_Model_run_32 : decode b_Model_run 32 = .ok (.iload_n 1, 1) := by decide +kernel
theorem d_Model_run_33 : decode b_Model_run 33 = .ok (.i2l, 1) := by decide +kernel
theorem d_Model_run_34 : decode b_Model_run 34 = .ok (.ladd, 1) := by decide +kernel
theorem d_Model_run_35 : decode b_Model_run 35 = .ok (.invokevirtual 520, 3) := by decide +kernel
theorem d_Model_run_38 : decode b_Model_run 38 = .ok (.aload_n 0, 1) := by decide +kernel
theorem d_Model_run_39 : decode b_Model_run 39 = .ok (.getfield 523, 3) := by decide +kernel
theorem d_Model_run_42 : decode b_Model_run 42 = .ok (.iload_n 2, 1) := by decide +kernel
theorem d_Model_run_43 : decode b_Model_run 43 = .ok (.isub, 1) := by decide +kernel
theorem d_Model_run_44 : decode b_Model_run 44 = .ok (.ireturn, 1) := by decide +kernel
theorem d_Model_go_0 : decode b_Model_go 0 = .ok (.aload_n 0, 1) := by decide +kernel
theorem d_Model_go_1 : decode b_Model_go 1 = .ok (.iconst 0, 1) := by decide +kernel
theorem d_Model_go_2 : decode b_Model_go 2 = .ok (.putfield 1, 3) := by decide +kernel
theorem d_Model_go_5 : decode b_Model_go 5 = .ok (.aload_n 0, 1) := by decide +kernel
theorem d_Model_go_6 : decode b_Model_go 6 = .ok (.getfield 494, 3) := by decide +kernel
theorem d_Model_go_9 : decode b_Model_go 9 = .ok (.ifCond .eq 30, 3) := by decide +kernel
theorem d_Model_go_12 : decode b_Model_go 12 = .ok (.iload_n 1, 1) := by decide +kernel
theorem d_Model_go_13 : decode b_Model_go 13 = .ok (.ifCond .lt 26, 3) := by decide +kernel
theorem d_Model_go_16 : decode b_Model_go 16 = .ok (.iload_n 1, 1) := by decide +kernel
theorem d_Model_go_17 : decode b_Model_go 17 = .ok (.aload_n 0, 1) := by decide +kernel
theorem d_Model_go_18 : decode b_Model_go 18 = .ok (.getfield 523, 3) := by decide +kernel
theorem d_Model_go_21 : decode b_Model_go 21 = .ok (.if_icmp .gt 18, 3) := by decide +kernel
theorem d_Model_go_24 : decode b_Model_go 24 = .ok (.aload_n 0, 1) := by decide +kernel
theorem d_Model_go_25 : decode b_Model_go 25 = .ok (.getfield 494, 3) := by decide +kernel
theorem d_Model_go_28 : decode b_Model_go 28 = .ok (.iconst 1, 1) := by decide +kernel
theorem d_Model_go_29 : decode b_Model_go 29 = .ok (.if_icmp .le 12, 3) := by decide +kernel
theorem d_Model_go_32 : decode b_Model_go 32 = .ok (.aload_n 0, 1) := by decide +kernel
theorem d_Model_go_33 : decode b_Model_go 33 = .ok (.getfield 507, 3) := by decide +kernel
theorem d_Model_go_36 : decode b_Model_go 36 = .ok (.ifCond .eq 5, 3) := by decide +kernel
theorem d_Model_go_39 : decode b_Model_go 39 = .ok (.iconst 0, 1) := by decide +kernel
theorem d_Model_go_40 : decode b_Model_go 40 = .ok (.ireturn, 1) := by decide +kernel
theorem d_Model_go_41 : decode b_Model_go 41 = .ok (.aload_n 0, 1) := by decide +kernel
theorem d_Model_go_42 : decode b_Model_go 42 = .ok (.invokevirtual 526, 3) := by decide +kernel
theorem d_Model_go_45 : decode b_Model_go 45 = .ok (.aload_n 0, 1) := by decide +kernel
theorem d_Model_go_46 : decode b_Model_go 46 = .ok (.iload_n 1, 1) := by decide +kernel
theorem d_Model_go_47 : decode b_Model_go 47 = .ok (.i2l, 1) := by decide +kernel
theorem d_Model_go_48 : decode b_Model_go 48 = .ok (.invokevirtual 520, 3) := by decide +kernel
theorem d_Model_go_51 : decode b_Model_go 51 = .ok (.iconst 1, 1) := by decide +kernel
theorem d_Model_go_52 : decode b_Model_go 52 = .ok (.ireturn, 1) := by decide +kernel
theorem d_Model_out_0 : decode b_Model_out 0 = .ok (.aload_n 0, 1) := by decide +kernel
theorem d_Model_out_1 : decode b_Model_out 1 = .ok (.iconst 0, 1) := by decide +kernel
theorem d_Model_out_2 : decode b_Model_out 2 = .ok (.putfield 1, 3) := by decide +kernel
theorem d_Model_out_5 : decode b_Model_out 5 = .ok (.iload_n 1, 1) := by decide +kernel
theorem d_Model_out_6 : decode b_Model_out 6 = .ok (.ifCond .lt 19, 3) := by decide +kernel
theorem d_Model_out_9 : decode b_Model_out 9 = .ok (.iload_n 1, 1) := by decide +kernel
theorem d_Model_out_10 : decode b_Model_out 10 = .ok (.i2l, 1) := by decide +kernel
theorem d_Model_out_11 : decode b_Model_out 11 = .ok (.aload_n 0, 1) := by decide +kernel
theorem d_Model_out_12 : decode b_Model_out 12 = .ok (.getfield 356, 3) := by decide +kernel
theorem d_Model_out_15 : decode b_Model_out 15 = .ok (.ldc2_w 789, 3) := by decide +kernel
theorem d_Model_out_18 : decode b_Model_out 18 = .ok (.invokestatic 140, 3) := by decide +kernel
theorem d_Model_out_21 : decode b_Model_out 21 = .ok (.lcmp, 1) := by decide +kernel
theorem d_Model_out_22 : decode b_Model_out 22 = .ok (.ifCond .lt 7, 3) := by decide +kernel
theorem d_Model_out_25 : decode b_Model_out 25 = .ok (.iconst (-1), 1) := by decide +kernel
theorem d_Model_out_26 : decode b_Model_out 26 = .ok (.goto 22, 3) := by decide +kernel
theorem d_Model_out_29 : decode b_Model_out 29 = .ok (.aload_n 0, 1) := by decide +kernel
theorem d_Model_out_30 : decode b_Model_out 30 = .ok (.getfield 225, 3) := by decide +kernel
theorem d_Model_out_33 : decode b_Model_out 33 = .ok (.aload_n 0, 1) := by decide +kernel
theorem d_Model_out_34 : decode b_Model_out 34 = .ok (.getfield 356, 3) := by decide +kernel
theorem d_Model_out_37 : decode b_Model_out 37 = .ok (.lconst 1, 1) := by decide +kernel
theorem d_Model_out_38 : decode b_Model_out 38 = .ok (.lsub, 1) := by decide +kernel
theorem d_Model_out_39 : decode b_Model_out 39 = .ok (.iload_n 1, 1) := by decide +kernel
theorem d_Model_out_40 : decode b_Model_out 40 = .ok (.i2l, 1) := by decide +kernel
theorem d_Model_out_41 : decode b_Model_out 41 = .ok (.lsub, 1) := by decide +kernel
theorem d_Model_out_42 : decode b_Model_out 42 = .ok (.ldc2_w 789, 3) := by decide +kernel
theorem d_Model_out_45 : decode b_Model_out 45 = .ok (.lrem, 1) := by decide +kernel
theorem d_Model_out_46 : decode b_Model_out 46 = .ok (.l2i, 1) := by decide +kernel
theorem d_Model_out_47 : decode b_Model_out 47 = .ok (.baload, 1) := by decide +kernel
theorem d_Model_out_48 : decode b_Model_out 48 = .ok (.ireturn, 1) := by decide +kernel
theorem d_Model_name_0 : decode b_Model_name 0 = .ok (.aload_n 0, 1) := by decide +kernel
theorem d_Model_name_1 : decode b_Model_name 1 = .ok (.iconst 0, 1) := by decide +kernel
theorem d_Model_name_2 : decode b_Model_name 2 = .ok (.putfield 1, 3) := by decide +kernel
theorem d_Model_name_5 : decode b_Model_name 5 = .ok (.iload_n 1, 1) := by decide +kernel
theorem d_Model_name_6 : decode b_Model_name 6 = .ok (.ifCond .lt 30, 3) := by decide +kernel
theorem d_Model_name_9 : decode b_Model_name 9 = .ok (.iload_n 1, 1) := by decide +kernel
theorem d_Model_name_10 : decode b_Model_name 10 = .ok (.aload_n 0, 1) := by decide +kernel
theorem d_Model_name_11 : decode b_Model_name 11 = .ok (.getfield 350, 3) := by decide +kernel
theorem d_Model_name_14 : decode b_Model_name 14 = .ok (.if_icmp .ge 22, 3) := by decide +kernel
theorem d_Model_name_17 : decode b_Model_name 17 = .ok (.iload_n 2, 1) := by decide +kernel
theorem d_Model_name_18 : decode b_Model_name 18 = .ok (.ifCond .lt 18, 3) := by decide +kernel
theorem d_Model_name_21 : decode b_Model_name 21 = .ok (.iload_n 2, 1) := by decide +kernel
theorem d_Model_name_22 : decode b_Model_name 22 = .ok (.aload_n 0, 1) := by decide +kernel
theorem d_Model_name_23 : decode b_Model_name 23 = .ok (.getfield 22, 3) := by decide +kernel
theorem d_Model_name_26 : decode b_Model_name 26 = .ok (.aload_n 0, 1) := by decide +kernel
theorem d_Model_name_27 : decode b_Model_name 27 = .ok (.getfield 195, 3) := by decide +kernel
theorem d_Model_name_30 : decode b_Model_name 30 = .ok (.iload_n 1, 1) := by decide +kernel
theorem d_Model_name_31 : decode b_Model_name 31 = .ok (.iaload, 1) := by decide +kernel
theorem d_Model_name_32 : decode b_Model_name 32 = .ok (.iaload, 1) := by decide +kernel
theorem d_Model_name_33 : decode b_Model_name 33 = .ok (.if_icmp .lt 7, 3) := by decide +kernel
theorem d_Model_name_36 : decode b_Model_name 36 = .ok (.iconst (-1), 1) := by decide +kernel
theorem d_Model_name_37 : decode b_Model_name 37 = .ok (.goto 21, 3) := by decide +kernel
theorem d_Model_name_40 : decode b_Model_name 40 = .ok (.aload_n 0, 1) := by decide +kernel
theorem d_Model_name_41 : decode b_Model_name 41 = .ok (.getfield 67, 3) := by decide +kernel
theorem d_Model_name_44 : decode b_Model_name 44 = .ok (.aload_n 0, 1) := by decide +kernel
theorem d_Model_name_45 : decode b_Model_name 45 = .ok (.getfield 15, 3) := by decide +kernel
theorem d_Model_name_48 : decode b_Model_name 48 = .ok (.aload_n 0, 1) := by decide +kernel
theorem d_Model_name_49 : decode b_Model_name 49 = .ok (.getfield 195, 3) := by decide +kernel
theorem d_Model_name_52 : decode b_Model_name 52 = .ok (.iload_n 1, 1) := by decide +kernel
theorem d_Model_name_53 : decode b_Model_name 53 = .ok (.iaload, 1) := by decide +kernel
theorem d_Model_name_54 : decode b_Model_name 54 = .ok (.iaload, 1) := by decide +kernel
theorem d_Model_name_55 : decode b_Model_name 55 = .ok (.iload_n 2, 1) := by decide +kernel
theorem d_Model_name_56 : decode b_Model_name 56 = .ok (.iadd, 1) := by decide +kernel
theorem d_Model_name_57 : decode b_Model_name 57 = .ok (.baload, 1) := by decide +kernel
theorem d_Model_name_58 : decode b_Model_name 58 = .ok (.ireturn, 1) := by decide +kernel
theorem d_Model_value_0 : decode b_Model_value 0 = .ok (.aload_n 0, 1) := by decide +kernel
theorem d_Model_value_1 : decode b_Model_value 1 = .ok (.iconst 0, 1) := by decide +kernel
theorem d_Model_value_2 : decode b_Model_value 2 = .ok (.putfield 1, 3) := by decide +kernel
theorem d_Model_value_5 : decode b_Model_value 5 = .ok (.iload_n 1, 1) := by decide +kernel
theorem d_Model_value_6 : decode b_Model_value 6 = .ok (.ifCond .lt 11, 3) := by decide +kernel
theorem d_Model_value_9 : decode b_Model_value 9 = .ok (.iload_n 1, 1) := by decide +kernel
theorem d_Model_value_10 : decode b_Model_value 10 = .ok (.aload_n 0, 1) := by decide +kernel
theorem d_Model_value_11 : decode b_Model_value 11 = .ok (.getfield 350, 3) := by decide +kernel
theorem d_Model_value_14 : decode b_Model_value 14 = .ok (.if_icmp .lt 5, 3) := by decide +kernel
theorem d_Model_value_17 : decode b_Model_value 17 = .ok (.iconst (-1), 1) := by decide +kernel
theorem d_Model_value_18 : decode b_Model_value 18 = .ok (.ireturn, 1) := by decide +kernel
theorem d_Model_value_19 : decode b_Model_value 19 = .ok (.aload_n 0, 1) := by decide +kernel
theorem d_Model_value_20 : decode b_Model_value 20 = .ok (.aload_n 0, 1) := by decide +kernel
theorem d_Model_value_21 : decode b_Model_value 21 = .ok (.getfield 198, 3) := by decide +kernel
theorem d_Model_value_24 : decode b_Model_value 24 = .ok (.iload_n 1, 1) := by decide +kernel
theorem d_Model_value_25 : decode b_Model_value 25 = .ok (.laload, 1) := by decide +kernel
theorem d_Model_value_26 : decode b_Model_value 26 = .ok (.iconst 0, 1) := by decide +kernel
theorem d_Model_value_27 : decode b_Model_value 27 = .ok (.invokevirtual 782, 3) := by decide +kernel
theorem d_Model_value_30 : decode b_Model_value 30 = .ok (.iload_n 2, 1) := by decide +kernel
theorem d_Model_value_31 : decode b_Model_value 31 = .ok (.ifCond .lt 11, 3) := by decide +kernel
theorem d_Model_value_34 : decode b_Model_value 34 = .ok (.iload_n 2, 1) := by decide +kernel
theorem d_Model_value_35 : decode b_Model_value 35 = .ok (.aload_n 0, 1) := by decide +kernel
theorem d_Model_value_36 : decode b_Model_value 36 = .ok (.getfield 108, 3) := by decide +kernel
theorem d_Model_value_39 : decode b_Model_value 39 = .ok (.if_icmp .lt 7, 3) := by decide +kernel
theorem d_Model_value_42 : decode b_Model_value 42 = .ok (.iconst (-1), 1) := by decide +kernel
theorem d_Model_value_43 : decode b_Model_value 43 = .ok (.goto 9, 3) := by decide +kernel
theorem d_Model_value_46 : decode b_Model_value 46 = .ok (.aload_n 0, 1) := by decide +kernel
theorem d_Model_value_47 : decode b_Model_value 47 = .ok (.getfield 105, 3) := by decide +kernel
theorem d_Model_value_50 : decode b_Model_value 50 = .ok (.iload_n 2, 1) := by decide +kernel
theorem d_Model_value_51 : decode b_Model_value 51 = .ok (.baload, 1) := by decide +kernel
theorem d_Model_value_52 : decode b_Model_value 52 = .ok (.ireturn, 1) := by decide +kernel
theorem d_Model_procedure_0 : decode b_Model_procedure 0 = .ok (.aload_n 0, 1) := by decide +kernel
theorem d_Model_procedure_1 : decode b_Model_procedure 1 = .ok (.iconst 0, 1) := by decide +kernel
theorem d_Model_procedure_2 : decode b_Model_procedure 2 = .ok (.putfield 1, 3) := by decide +kernel
theorem d_Model_procedure_5 : decode b_Model_procedure 5 = .ok (.iload_n 1, 1) := by decide +kernel
theorem d_Model_procedure_6 : decode b_Model_procedure 6 = .ok (.ifCond .lt 15, 3) := by decide +kernel
theorem d_Model_procedure_9 : decode b_Model_procedure 9 = .ok (.iload_n 1, 1) := by decide +kernel
theorem d_Model_procedure_10 : decode b_Model_procedure 10 = .ok (.aload_n 0, 1) := by decide +kernel
theorem d_Model_procedure_11 : decode b_Model_procedure 11 = .ok (.getfield 344, 3) := by decide +kernel
theorem d_Model_procedure_14 : decode b_Model_procedure 14 = .ok (.if_icmp .ge 7, 3) := by decide +kernel
theorem d_Model_procedure_17 : decode b_Model_procedure 17 = .ok (.iload_n 2, 1) := by decide +kernel
theorem d_Model_procedure_18 : decode b_Model_procedure 18 = .ok (.ifCond .ge 5, 3) := by decide +kernel
theorem d_Model_procedure_21 : decode b_Model_procedure 21 = .ok (.iconst (-1), 1) := by decide +kernel
theorem d_Model_procedure_22 : decode b_Model_procedure 22 = .ok (.ireturn, 1) := by decide +kernel
theorem d_Model_procedure_23 : decode b_Model_procedure 23 = .ok (.aload_n 0, 1) := by decide +kernel
theorem d_Model_procedure_24 : decode b_Model_procedure 24 = .ok (.getfield 183, 3) := by decide +kernel
theorem d_Model_procedure_27 : decode b_Model_procedure 27 = .ok (.iload_n 1, 1) := by decide +kernel
theorem d_Model_procedure_28 : decode b_Model_procedure 28 = .ok (.iaload, 1) := by decide +kernel
theorem d_Model_procedure_29 : decode b_Model_procedure 29 = .ok (.istore_n 3, 1) := by decide +kernel
theorem d_Model_procedure_30 : decode b_Model_procedure 30 = .ok (.iload_n 2, 1) := by decide +kernel
theorem d_Model_procedure_31 : decode b_Model_procedure 31 = .ok (.ifCond .ne 12, 3) := by decide +kernel
theorem d_Model_procedure_34 : decode b_Model_procedure 34 = .ok (.aload_n 0, 1) := by decide +kernel
theorem d_Model_procedure_35 : decode b_Model_procedure 35 = .ok (.getfield 186, 3) := by decide +kernel
theorem d_Model_procedure_38 : decode b_Model_procedure 38 = .ok (.iload_n 1, 1) := by decide +kernel
theorem d_Model_procedure_39 : decode b_Model_procedure 39 = .ok (.iaload, 1) := by decide +kernel
theorem d_Model_procedure_40 : decode b_Model_procedure 40 = .ok (.goto 52, 3) := by decide +kernel
theorem d_Model_procedure_43 : decode b_Model_procedure 43 = .ok (.iload_n 2, 1) := by decide +kernel
theorem d_Model_procedure_44 : decode b_Model_procedure 44 = .ok (.iconst 1, 1) := by decide +kernel
theorem d_Model_procedure_45 : decode b_Model_procedure 45 = .ok (.if_icmp .ne 16, 3) := by decide +kernel
theorem d_Model_procedure_48 : decode b_Model_procedure 48 = .ok (.aload_n 0, 1) := by decide +kernel
theorem d_Model_procedure_49 : decode b_Model_procedure 49 = .ok (.aload_n 0, 1) := by decide +kernel
theorem d_Model_procedure_50 : decode b_Model_procedure 50 = .ok (.getfield 192, 3) := by decide +kernel
theorem d_Model_procedure_53 : decode b_Model_procedure 53 = .ok (.iload_n 1, 1) := by decide +kernel
theorem d_Model_procedure_54 : decode b_Model_procedure 54 = .ok (.laload, 1) := by decide +kernel
theorem d_Model_procedure_55 : decode b_Model_procedure 55 = .ok (.invokevirtual 98, 3) := by decide +kernel
theorem d_Model_procedure_58 : decode b_Model_procedure 58 = .ok (.goto 34, 3) := by decide +kernel
theorem d_Model_procedure_61 : decode b_Model_procedure 61 = .ok (.iload_n 2, 1) := by decide +kernel
theorem d_Model_procedure_62 : decode b_Model_procedure 62 = .ok (.iconst 2, 1) := by decide +kernel
theorem d_Model_procedure_63 : decode b_Model_procedure 63 = .ok (.isub, 1) := by decide +kernel
theorem d_Model_procedure_64 : decode b_Model_procedure 64 = .ok (.aload_n 0, 1) := by decide +kernel
theorem d_Model_procedure_65 : decode b_Model_procedure 65 = .ok (.getfield 22, 3) := by decide +kernel
theorem d_Model_procedure_68 : decode b_Model_procedure 68 = .ok (.iload_n 3, 1) := by decide +kernel
theorem d_Model_procedure_69 : decode b_Model_procedure 69 = .ok (.iaload, 1) := by decide +kernel
theorem d_Model_procedure_70 : decode b_Model_procedure 70 = .ok (.if_icmp .lt 7, 3) := by decide +kernel
theorem d_Model_procedure_73 : decode b_Model_procedure 73 = .ok (.iconst (-1), 1) := by decide +kernel
theorem d_Model_procedure_74 : decode b_Model_procedure 74 = .ok (.goto 18, 3) := by decide +kernel
theorem d_Model_procedure_77 : decode b_Model_procedure 77 = .ok (.aload_n 0, 1) := by decide +kernel
theorem d_Model_procedure_78 : decode b_Model_procedure 78 = .ok (.getfield 67, 3) := by decide +kernel
theorem d_Model_procedure_81 : decode b_Model_procedure 81 = .ok (.aload_n 0, 1) := by decide +kernel
theorem d_Model_procedure_82 : decode b_Model_procedure 82 = .ok (.getfield 15, 3) := by decide +kernel
theorem d_Model_procedure_85 : decode b_Model_procedure 85 = .ok (.iload_n 3, 1) := by decide +kernel
theorem d_Model_procedure_86 : decode b_Model_procedure 86 = .ok (.iaload, 1) := by decide +kernel
theorem d_Model_procedure_87 : decode b_Model_procedure 87 = .ok (.iload_n 2, 1) := by decide +kernel
theorem d_Model_procedure_88 : decode b_Model_procedure 88 = .ok (.iadd, 1) := by decide +kernel
theorem d_Model_procedure_89 : decode b_Model_procedure 89 = .ok (.iconst 2, 1) := by decide +kernel
theorem d_Model_procedure_90 : decode b_Model_procedure 90 = .ok (.isub, 1) := by decide +kernel
theorem d_Model_procedure_91 : decode b_Model_procedure 91 = .ok (.baload, 1) := by decide +kernel
theorem d_Model_procedure_92 : decode b_Model_procedure 92 = .ok (.ireturn, 1) := by decide +kernel
theorem d_Model_call_0 : decode b_Model_call 0 = .ok (.aload_n 0, 1) := by decide +kernel
theorem d_Model_call_1 : decode b_Model_call 1 = .ok (.iconst 0, 1) := by decide +kernel
theorem d_Model_call_2 : decode b_Model_call 2 = .ok (.putfield 1, 3) := by decide +kernel
theorem d_Model_call_5 : decode b_Model_call 5 = .ok (.iload_n 1, 1) := by decide +kernel
theorem d_Model_call_6 : decode b_Model_call 6 = .ok (.ifCond .lt 11, 3) := by decide +kernel
theorem d_Model_call_9 : decode b_Model_call 9 = .ok (.iload_n 1, 1) := by decide +kernel
theorem d_Model_call_10 : decode b_Model_call 10 = .ok (.aload_n 0, 1) := by decide +kernel
theorem d_Model_call_11 : decode b_Model_call 11 = .ok (.getfield 538, 3) := by decide +kernel
theorem d_Model_call_14 : decode b_Model_call 14 = .ok (.if_icmp .lt 5, 3) := by decide +kernel
theorem d_Model_call_17 : decode b_Model_call 17 = .ok (.iconst (-1), 1) := by decide +kernel
theorem d_Model_call_18 : decode b_Model_call 18 = .ok (.ireturn, 1) := by decide +kernel
theorem d_Model_call_19 : decode b_Model_call 19 = .ok (.aload_n 0, 1) := by decide +kernel
theorem d_Model_call_20 : decode b_Model_call 20 = .ok (.getfield 538, 3) := by decide +kernel
theorem d_Model_call_23 : decode b_Model_call 23 = .ok (.iconst 1, 1) := by decide +kernel
theorem d_Model_call_24 : decode b_Model_call 24 = .ok (.isub, 1) := by decide +kernel
theorem d_Model_call_25 : decode b_Model_call 25 = .ok (.iload_n 1, 1) := by decide +kernel
theorem d_Model_call_26 : decode b_Model_call 26 = .ok (.isub, 1) := by decide +kernel
theorem d_Model_call_27 : decode b_Model_call 27 = .ok (.istore_n 3, 1) := by decide +kernel
theorem d_Model_call_28 : decode b_Model_call 28 = .ok (.iconst 0, 1) := by decide +kernel
theorem d_Model_call_29 : decode b_Model_call 29 = .ok (.istore 4, 2) := by decide +kernel
theorem d_Model_call_31 : decode b_Model_call 31 = .ok (.bipush 12, 2) := by decide +kernel
theorem d_Model_call_33 : decode b_Model_call 33 = .ok (.iload_n 3, 1) := by decide +kernel
theorem d_Model_call_34 : decode b_Model_call 34 = .ok (.imul, 1) := by decide +kernel
theorem d_Model_call_35 : decode b_Model_call 35 = .ok (.istore 5, 2) := by decide +kernel
theorem d_Model_call_37 : decode b_Model_call 37 = .ok (.iload 5, 2) := by decide +kernel
theorem d_Model_call_39 : decode b_Model_call 39 = .ok (.bipush 12, 2) := by decide +kernel
theorem d_Model_call_41 : decode b_Model_call 41 = .ok (.iload_n 3, 1) := by decide +kernel
theorem d_Model_call_42 : decode b_Model_call 42 = .ok (.imul, 1) := by decide +kernel
theorem d_Model_call_43 : decode b_Model_call 43 = .ok (.aload_n 0, 1) := by decide +kernel
theorem d_Model_call_44 : decode b_Model_call 44 = .ok (.getfield 307, 3) := by decide +kernel
theorem d_Model_call_47 : decode b_Model_call 47 = .ok (.iload_n 3, 1) := by decide +kernel
theorem d_Model_call_48 : decode b_Model_call 48 = .ok (.iaload, 1) := by decide +kernel
theorem d_Model_call_49 : decode b_Model_call 49 = .ok (.iadd, 1) := by decide +kernel
theorem d_Model_call_50 : decode b_Model_call 50 = .ok (.if_icmp .ge 33, 3) := by decide +kernel
theorem d_Model_call_53 : decode b_Model_call 53 = .ok (.iload 4, 2) := by decide +kernel
theorem d_Model_call_55 : decode b_Model_call 55 = .ok (.aload_n 0, 1) := by decide +kernel
theorem d_Model_call_56 : decode b_Model_call 56 = .ok (.getfield 313, 3) := by decide +kernel
theorem d_Model_call_59 : decode b_Model_call 59 = .ok (.iload 5, 2) := by decide +kernel
theorem d_Model_call_61 : decode b_Model_call 61 = .ok (.laload, 1) := by decide +kernel
theorem d_Model_call_62 : decode b_Model_call 62 = .ok (.ldc2_w 7, 3) := by decide +kernel
theorem d_Model_call_65 : decode b_Model_call 65 = .ok (.lcmp, 1) := by decide +kernel
theorem d_Model_call_66 : decode b_Model_call 66 = .ok (.ifCond .ne 7, 3) := by decide +kernel
theorem d_Model_call_69 : decode b_Model_call 69 = .ok (.iconst 0, 1) := by decide +kernel
theorem d_Model_call_70 : decode b_Model_call 70 = .ok (.goto 4, 3) := by decide +kernel
theorem d_Model_call_73 : decode b_Model_call 73 = .ok (.iconst 1, 1) := by decide +kernel
theorem d_Model_call_74 : decode b_Model_call 74 = .ok (.iadd, 1) := by decide +kernel
theorem d_Model_call_75 : decode b_Model_call 75 = .ok (.istore 4, 2) := by decide +kernel
theorem d_Model_call_77 : decode b_Model_call 77 = .ok (.iinc 5 1, 3) := by decide +kernel
theorem d_Model_call_80 : decode b_Model_call 80 = .ok (.goto (-43), 3) := by decide +kernel
theorem d_Model_call_83 : decode b_Model_call 83 = .ok (.iload_n 2, 1) := by decide +kernel
theorem d_Model_call_84 : decode b_Model_call 84 = .ok (.ifCond .ne 12, 3) := by decide +kernel
theorem d_Model_call_87 : decode b_Model_call 87 = .ok (.aload_n 0, 1) := by decide +kernel
theorem d_Model_call_88 : decode b_Model_call 88 = .ok (.getfield 304, 3) := by decide +kernel
theorem d_Model_call_91 : decode b_Model_call 91 = .ok (.iload_n 3, 1) := by decide +kernel
theorem d_Model_call_92 : decode b_Model_call 92 = .ok (.iaload, 1) := by decide +kernel
theorem d_Model_call_93 : decode b_Model_call 93 = .ok (.goto 28, 3) := by decide +kernel
theorem d_Model_call_96 : decode b_Model_call 96 = .ok (.iload_n 2, 1) := by decide +kernel
theorem d_Model_call_97 : decode b_Model_call 97 = .ok (.iconst 1, 1) := by decide +kernel
theorem d_Model_call_98 : decode b_Model_call 98 = .ok (.if_icmp .ne 12, 3) := by decide +kernel
theorem d_Model_call_101 : decode b_Model_call 101 = .ok (.aload_n 0, 1) := by decide +kernel
theorem d_Model_call_102 : decode b_Model_call 102 = .ok (.getfield 307, 3) := by decide +kernel
theorem d_Model_call_105 : decode b_Model_call 105 = .ok (.iload_n 3, 1) := by decide +kernel
theorem d_Model_call_106 : decode b_Model_call 106 = .ok (.iaload, 1) := by decide +kernel
theorem d_Model_call_107 : decode b_Model_call 107 = .ok (.goto 14, 3) := by decide +kernel
theorem d_Model_call_110 : decode b_Model_call 110 = .ok (.iload_n 2, 1) := by decide +kernel
theorem d_Model_call_111 : decode b_Model_call 111 = .ok (.iconst 2, 1) := by decide +kernel
theorem d_Model_call_112 : decode b_Model_call 112 = .ok (.if_icmp .ne 8, 3) := by decide +kernel
theorem d_Model_call_115 : decode b_Model_call 115 = .ok (.iload 4, 2) := by decide +kernel
theorem d_Model_call_117 : decode b_Model_call 117 = .ok (.goto 4, 3) := by decide +kernel
theorem d_Model_call_120 : decode b_Model_call 120 = .ok (.iconst (-1), 1) := by decide +kernel
theorem d_Model_call_121 : decode b_Model_call 121 = .ok (.ireturn, 1) := by decide +kernel
theorem d_Model_turtleRow_0 : decode b_Model_turtleRow 0 = .ok (.iload_n 1, 1) := by decide +kernel
theorem d_Model_turtleRow_1 : decode b_Model_turtleRow 1 = .ok (.ifCond .ne 10, 3) := by decide +kernel
theorem d_Model_turtleRow_4 : decode b_Model_turtleRow 4 = .ok (.aload_n 0, 1) := by decide +kernel
theorem d_Model_turtleRow_5 : decode b_Model_turtleRow 5 = .ok (.getfield 201, 3) := by decide +kernel
theorem d_Model_turtleRow_8 : decode b_Model_turtleRow 8 = .ok (.goto 67, 3) := by decide +kernel
theorem d_Model_turtleRow_11 : decode b_Model_turtleRow 11 = .ok (.iload_n 1, 1) := by decide +kernel
theorem d_Model_turtleRow_12 : decode b_Model_turtleRow 12 = .ok (.iconst 1, 1) := by decide +kernel
theorem d_Model_turtleRow_13 : decode b_Model_turtleRow 13 = .ok (.if_icmp .ne 10, 3) := by decide +kernel
theorem d_Model_turtleRow_16 : decode b_Model_turtleRow 16 = .ok (.aload_n 0, 1) := by decide +kernel
theorem d_Model_turtleRow_17 : decode b_Model_turtleRow 17 = .ok (.getfield 204, 3) := by decide +kernel
theorem d_Model_turtleRow_20 : decode b_Model_turtleRow 20 = .ok (.goto 55, 3) := by decide +kernel
theorem d_Model_turtleRow_23 : decode b_Model_turtleRow 23 = .ok (.iload_n 1, 1) := by decide +kernel
theorem d_Model_turtleRow_24 : decode b_Model_turtleRow 24 = .ok (.iconst 2, 1) := by decide +kernel
theorem d_Model_turtleRow_25 : decode b_Model_turtleRow 25 = .ok (.if_icmp .ne 10, 3) := by decide +kernel
theorem d_Model_turtleRow_28 : decode b_Model_turtleRow 28 = .ok (.aload_n 0, 1) := by decide +kernel
theorem d_Model_turtleRow_29 : decode b_Model_turtleRow 29 = .ok (.getfield 207, 3) := by decide +kernel
theorem d_Model_turtleRow_32 : decode b_Model_turtleRow 32 = .ok (.goto 43, 3) := by decide +kernel
theorem d_Model_turtleRow_35 : decode b_Model_turtleRow 35 = .ok (.iload_n 1, 1) := by decide +kernel
theorem d_Model_turtleRow_36 : decode b_Model_turtleRow 36 = .ok (.iconst 3, 1) := by decide +kernel
theorem d_Model_turtleRow_37 : decode b_Model_turtleRow 37 = .ok (.if_icmp .ne 10, 3) := by decide +kernel
theorem d_Model_turtleRow_40 : decode b_Model_turtleRow 40 = .ok (.aload_n 0, 1) := by decide +kernel
theorem d_Model_turtleRow_41 : decode b_Model_turtleRow 41 = .ok (.getfield 210, 3) := by decide +kernel
theorem d_Model_turtleRow_44 : decode b_Model_turtleRow 44 = .ok (.goto 31, 3) := by decide +kernel
theorem d_Model_turtleRow_47 : decode b_Model_turtleRow 47 = .ok (.iload_n 1, 1) := by decide +kernel
theorem d_Model_turtleRow_48 : decode b_Model_turtleRow 48 = .ok (.iconst 4, 1) := by decide +kernel
theorem d_Model_turtleRow_49 : decode b_Model_turtleRow 49 = .ok (.if_icmp .ne 10, 3) := by decide +kernel
theorem d_Model_turtleRow_52 : decode b_Model_turtleRow 52 = .ok (.aload_n 0, 1) := by decide +kernel
theorem d_Model_turtleRow_53 : decode b_Model_turtleRow 53 = .ok (.getfield 213, 3) := by decide +kernel
theorem d_Model_turtleRow_56 : decode b_Model_turtleRow 56 = .ok (.goto 19, 3) := by decide +kernel
theorem d_Model_turtleRow_59 : decode b_Model_turtleRow 59 = .ok (.iload_n 1, 1) := by decide +kernel
theorem d_Model_turtleRow_60 : decode b_Model_turtleRow 60 = .ok (.iconst 5, 1) := by decide +kernel
theorem d_Model_turtleRow_61 : decode b_Model_turtleRow 61 = .ok (.if_icmp .ne 10, 3) := by decide +kernel
theorem d_Model_turtleRow_64 : decode b_Model_turtleRow 64 = .ok (.aload_n 0, 1) := by decide +kernel
theorem d_Model_turtleRow_65 : decode b_Model_turtleRow 65 = .ok (.getfield 216, 3) := by decide +kernel
theorem d_Model_turtleRow_68 : decode b_Model_turtleRow 68 = .ok (.goto 7, 3) := by decide +kernel
theorem d_Model_turtleRow_71 : decode b_Model_turtleRow 71 = .ok (.aload_n 0, 1) := by decide +kernel
theorem d_Model_turtleRow_72 : decode b_Model_turtleRow 72 = .ok (.getfield 219, 3) := by decide +kernel
theorem d_Model_turtleRow_75 : decode b_Model_turtleRow 75 = .ok (.areturn, 1) := by decide +kernel
def i_Model_run_r  : Int32 := 0
def i_Model_run_w0_i (v_i : Nat → Int32) : Nat → Int32 := upd v_i 0 0
set_option maxHeartbeats 4000000 in
set_option maxRecDepth 100000 in
/-- run of the reference, where there is nothing -/
theorem c_Model_run_i (l : Launch) (dC : Nat → ClassId) (dI : Nat → Nat → Nat) (sz : Nat) (h0 : Nat) (v_r : Nat → Nat) (v_i : Nat → Int32) (v_j : Nat → Int64) (cI : ClassId) (cJ : ClassId) (cB : ClassId) (n : Int32) (hs : ¬ v_i 92 = 1) : Met l y_Model_run w_Model_run ({ frames := 0, cells := 0, slots := 0, locals := 0 }) (va_Pc [.ref h0, .int n] (fun U => U.heap.size = sz ∧ va_P (dC, dI) classes [(h0, .inr (12, mo v_r v_i v_j))] U.heap ∧ va_K (dC, dI) classes [(cI, .int), (cJ, .long), (cB, .byte)] U ∧ va_D (fun _ => True) [(h0, .inr (12, mo v_r v_i v_j))])) (va_Qi (fun (r : Int32) (_ : Unit) => r = i_Model_run_r) (fun (_ : Unit) t => va_P (dC, dI) classes [(h0, .inr (12, mo v_r (i_Model_run_w0_i v_i) v_j))] t.heap ∧ va_K (dC, dI) classes [(cI, .int), (cJ, .long), (cB, .byte)] t ∧ va_D (va_A [(h0, .inr (12, mo v_r v_i v_j))] sz) [(h0, .inr (12, mo v_r (i_Model_run_w0_i v_i) v_j))]) (va_A [(h0, .inr (12, mo v_r v_i v_j))] sz)) 0 0 (va_A [(h0, .inr (12, mo v_r v_i v_j))] sz) := by
  refine Met.ofW (cc := b_Model_run) (maxL := 3) (ret := (some .int)) (by decide) rfl ?_
  intro p e s m args below meth c s₁ B hml hv
  obtain ⟨rfl, hsz, hP, hK, hD0⟩ := hv
  have hx := B.exec
  have hb := B.bytes
  have hr := B.returns
  have hts := atoms_spec (ws := w_Model_run) B.pre
  have htt : ∀ w ∈ tw_T, w.before _ s = true := fun w h => hts w (List.mem_cons_of_mem _ h)
  have hown : s.vm.findClass R_Model = some m.cls := findClass_of_methodNamed B.named
  have hlocks := B.notSynchronized
  subst hsz
  have hD := hD0.self (sz := s.heap.size)
  generalize hAe : va_A [(h0, .inr (12, mo v_r v_i v_j))] s.heap.size = A at hD ⊢
  have hA : ∀ q : Nat, s.heap.size ≤ q → A q := fun q h => by rw [← hAe]; exact Or.inr h
  have hS : va_S A s.heap s.heap [] := va_S.rf
  have hP : va_P (dC, dI) classes [(h0, .inr (12, mo v_r v_i v_j))] s.heap := hP
  have hl := lv_entry ([.ref h0, .int n]) (n := 3) (Nat.le_of_ble_eq_true rfl)
  rw [lg_entry_eq]
  generalize (lg_sl ([.ref h0, .int n]) ++ List.replicate (3 - (lg_sl ([.ref h0, .int n])).length) Slot.unset).toArray = ls at hl ⊢
  have hl : lv_has ls 3 [(0, .ref h0), (1, .int n)] := hl
  refine lv_aload_n hx hb d_Model_run_0 rfl (lv_at hl 0 rfl) ?_
  refine lv_iconst (v := 0) hx hb d_Model_run_1 (by decide) ?_
  refine va_put (D := (dC, dI)) (ci := 12) (v := .int 0) (ty := .int) (C := R_Model) (T := F_Model) (N := 127) hx hb htt iw_Model t_Model t_Model_ok n_Model hown hK hP hD hS 0 rfl rfl 0 (by decide) (htt _ lk_Model_1) (fun _ h9 => h9) rfl (by decide +kernel) rfl rfl (Nat.le_of_ble_eq_true rfl) d_Model_run_2 (fun H locs hP hD hS => ?_)
  have hP : va_P (dC, dI) classes [(h0, .inr (12, mo v_r (upd v_i 0 0) v_j))] H := hP
  have hD : va_D A [(h0, .inr (12, mo v_r (upd v_i 0 0) v_j))] := hD
  refine lv_aload_n hx hb d_Model_run_5 rfl (lv_at hl 0 rfl) ?_
  refine va_get (D := (dC, dI)) (ci := 12) (v := .int (v_i 92)) (C := R_Model) (T := F_Model) (N := 127) hx hb htt iw_Model hown hK hP 0 rfl rfl 92 (by decide) (htt _ lk_Model_494) (fun _ h9 => h9) rfl d_Model_run_6 ?_
  refine lv_iconst (v := 1) hx hb d_Model_run_9 (by decide) ?_
  refine lv_icmp_ne (tgt := 18) hx hb d_Model_run_10 (by decide) (fun c_1 => ?_) (fun c_1 => ?_)
  · refine lv_iconst (v := 0) hx hb d_Model_run_18 (by decide) ?_
    have hP9 := hP.sub (ws' := [(h0, .inr (12, mo v_r (upd v_i 0 0) v_j))]) [0] rfl
    have hD9 := hD.sub (ws' := [(h0, .inr (12, mo v_r (upd v_i 0 0) v_j))]) [0] (by decide) rfl
    have eW : [(h0, .inr (12, mo v_r (upd v_i 0 0) v_j))] = ([(h0, .inr (12, mo v_r (i_Model_run_w0_i v_i) v_j))] : va_W) := by unfold i_Model_run_w0_i; rfl
    rw [eW] at hP9 hD9
    exact W.iret (v := 0) hx hb hr (fun t9 ht hW => ⟨⟨0, (), rfl, by unfold i_Model_run_r; rfl, by rw [ht]; exact hP9, va_K.moved hW.alike hK, hD9⟩, hS.F ht⟩) hS.2.2 d_Model_run_19
  · exact absurd c_1 (hs)

def i_Model_go_r  : Int32 := 0
theorem i_Model_go_z  : narrow .boolean (.int (i_Model_go_r)) = .int (i_Model_go_r) := by
  unfold i_Model_go_r
  repeat' split
  all_goals first | rfl | rfl | decide
def i_Model_go_w0_i (v_i : Nat → Int32) : Nat → Int32 := upd v_i 0 0
set_option maxHeartbeats 4000000 in
set_option maxRecDepth 100000 in
/-- go of the reference, where there is nothing -/
theorem c_Model_go_i (l : Launch) (dC : Nat → ClassId) (dI : Nat → Nat → Nat) (sz : Nat) (h0 : Nat) (v_r : Nat → Nat) (v_i : Nat → Int32) (v_j : Nat → Int64) (cI : ClassId) (cJ : ClassId) (cB : ClassId) (n : Int32) (hs : v_i 92 = 0) : Met l y_Model_go w_Model_go ({ frames := 0, cells := 0, slots := 0, locals := 0 }) (va_Pc [.ref h0, .int n] (fun U => U.heap.size = sz ∧ va_P (dC, dI) classes [(h0, .inr (12, mo v_r v_i v_j))] U.heap ∧ va_K (dC, dI) classes [(cI, .int), (cJ, .long), (cB, .byte)] U ∧ va_D (fun _ => True) [(h0, .inr (12, mo v_r v_i v_j))])) (va_Qi (fun (r : Int32) (_ : Unit) => r = i_Model_go_r) (fun (_ : Unit) t => va_P (dC, dI) classes [(h0, .inr (12, mo v_r (i_Model_go_w0_i v_i) v_j))] t.heap ∧ va_K (dC, dI) classes [(cI, .int), (cJ, .long), (cB, .byte)] t ∧ va_D (va_A [(h0, .inr (12, mo v_r v_i v_j))] sz) [(h0, .inr (12, mo v_r (i_Model_go_w0_i v_i) v_j))]) (va_A [(h0, .inr (12, mo v_r v_i v_j))] sz)) 0 0 (va_A [(h0, .inr (12, mo v_r v_i v_j))] sz) := by
  refine Met.ofW (cc := b_Model_go) (maxL := 2) (ret := (some .boolean)) (by decide) rfl ?_
  intro p e s m args below meth c s₁ B hml hv
  obtain ⟨rfl, hsz, hP, hK, hD0⟩ := hv
  have hx := B.exec
  have hb := B.bytes
  have hr := B.returns
  have hts := atoms_spec (ws := w_Model_go) B.pre
  have htt : ∀ w ∈ tw_T, w.before _ s = true := fun w h => hts w (List.mem_cons_of_mem _ h)
  have hown : s.vm.findClass R_Model = some m.cls := findClass_of_methodNamed B.named
  have hlocks := B.notSynchronized
  subst hsz
  have hD := hD0.self (sz := s.heap.size)
  generalize hAe : va_A [(h0, .inr (12, mo v_r v_i v_j))] s.heap.size = A at hD ⊢
  have hA : ∀ q : Nat, s.heap.size ≤ q → A q := fun q h => by rw [← hAe]; exact Or.inr h
  have hS : va_S A s.heap s.heap [] := va_S.rf
  have hP : va_P (dC, dI) classes [(h0, .inr (12, mo v_r v_i v_j))] s.heap := hP
  have hl := lv_entry ([.ref h0, .int n]) (n := 2) (Nat.le_of_ble_eq_true rfl)
  rw [lg_entry_eq]
  generalize (lg_sl ([.ref h0, .int n]) ++ List.replicate (2 - (lg_sl ([.ref h0, .int n])).length) Slot.unset).toArray = ls at hl ⊢
  have hl : lv_has ls 2 [(0, .ref h0), (1, .int n)] := hl
  refine lv_aload_n hx hb d_Model_go_0 rfl (lv_at hl 0 rfl) ?_
  refine lv_iconst (v := 0) hx hb d_Model_go_1 (by decide) ?_
  refine va_put (D := (dC, dI)) (ci := 12) (v := .int 0) (ty := .int) (C := R_Model) (T := F_Model) (N := 127) hx hb htt iw_Model t_Model t_Model_ok n_Model hown hK hP hD hS 0 rfl rfl 0 (by decide) (htt _ lk_Model_1) (fun _ h9 => h9) rfl (by decide +kernel) rfl rfl (Nat.le_of_ble_eq_true rfl) d_Model_go_2 (fun H locs hP hD hS => ?_)
  have hP : va_P (dC, dI) classes [(h0, .inr (12, mo v_r (upd v_i 0 0) v_j))] H := hP
  have hD : va_D A [(h0, .inr (12, mo v_r (upd v_i 0 0) v_j))] := hD
  refine lv_aload_n hx hb d_Model_go_5 rfl (lv_at hl 0 rfl) ?_
  refine va_get (D := (dC, dI)) (ci := 12) (v := .int (v_i 92)) (C := R_Model) (T := F_Model) (N := 127) hx hb htt iw_Model hown hK hP 0 rfl rfl 92 (by decide) (htt _ lk_Model_494) (fun _ h9 => h9) rfl d_Model_go_6 ?_
  refine lv_if_eq (tgt := 39) hx hb d_Model_go_9 (by decide) (fun c_1 => ?_) (fun c_1 => ?_)
  · refine lv_iconst (v := 0) hx hb d_Model_go_39 (by decide) ?_
    have hP9 := hP.sub (ws' := [(h0, .inr (12, mo v_r (upd v_i 0 0) v_j))]) [0] rfl
    have hD9 := hD.sub (ws' := [(h0, .inr (12, mo v_r (upd v_i 0 0) v_j))]) [0] (by decide) rfl
    have eW : [(h0, .inr (12, mo v_r (upd v_i 0 0) v_j))] = ([(h0, .inr (12, mo v_r (i_Model_go_w0_i v_i) v_j))] : va_W) := by unfold i_Model_go_w0_i; rfl
    rw [eW] at hP9 hD9
    exact W.zret (v := 0) hx hb hr (by decide) (fun t9 ht hW => ⟨⟨0, (), rfl, by unfold i_Model_go_r; rfl, by rw [ht]; exact hP9, va_K.moved hW.alike hK, hD9⟩, hS.F ht⟩) hS.2.2 d_Model_go_40
  · exact absurd (hs) c_1

theorem mo_out {a : Int32} (h : ¬ a < 0) : ¬ lg_cmp a.toInt64 (m_Math_min2_r 0 2000) < 0 := by
  rw [show m_Math_min2_r 0 2000 = 0 from by decide, lg_cmp_lt, Int64.lt_iff_toInt_lt, Int32.toInt_toInt64]
  rw [Int32.lt_iff_toInt_lt] at h
  simpa using h

def i_Model_out_r (a : Int32) : Int32 := if a < ((0 : Int32)) then (-1) else (-1)
def i_Model_out_w0_i (v_i : Nat → Int32) (a : Int32) : Nat → Int32 := if a < ((0 : Int32)) then upd v_i 0 0 else upd v_i 0 0
set_option maxHeartbeats 4000000 in
set_option maxRecDepth 100000 in
/-- out of the reference, where there is nothing -/
theorem c_Model_out_i (l : Launch) (dC : Nat → ClassId) (dI : Nat → Nat → Nat) (sz : Nat) (h0 : Nat) (v_r : Nat → Nat) (v_i : Nat → Int32) (v_j : Nat → Int64) (cI : ClassId) (cJ : ClassId) (cB : ClassId) (a : Int32) (hno : v_j 48 = 0) : Met l y_Model_out w_Model_out ({ frames := 1, cells := 0, slots := 0, locals := 23 }) (va_Pc [.ref h0, .int a] (fun U => U.heap.size = sz ∧ va_P (dC, dI) classes [(h0, .inr (12, mo v_r v_i v_j))] U.heap ∧ va_K (dC, dI) classes [(cI, .int), (cJ, .long), (cB, .byte)] U ∧ va_D (fun _ => True) [(h0, .inr (12, mo v_r v_i v_j))])) (va_Qi (fun (r : Int32) (_ : Unit) => r = i_Model_out_r a) (fun (_ : Unit) t => va_P (dC, dI) classes [(h0, .inr (12, mo v_r (i_Model_out_w0_i v_i a) v_j))] t.heap ∧ va_K (dC, dI) classes [(cI, .int), (cJ, .long), (cB, .byte)] t ∧ va_D (va_A [(h0, .inr (12, mo v_r v_i v_j))] sz) [(h0, .inr (12, mo v_r (i_Model_out_w0_i v_i a) v_j))]) (va_A [(h0, .inr (12, mo v_r v_i v_j))] sz)) 0 0 (va_A [(h0, .inr (12, mo v_r v_i v_j))] sz) := by
  refine Met.ofW (cc := b_Model_out) (maxL := 2) (ret := (some .int)) (by decide) rfl ?_
  intro p e s m args below meth c s₁ B hml hv
  obtain ⟨rfl, hsz, hP, hK, hD0⟩ := hv
  have hx := B.exec
  have hb := B.bytes
  have hr := B.returns
  have hts := atoms_spec (ws := w_Model_out) B.pre
  have htt : ∀ w ∈ tw_T, w.before _ s = true := fun w h => hts w (List.mem_cons_of_mem _ h)
  have hown : s.vm.findClass R_Model = some m.cls := findClass_of_methodNamed B.named
  have hlocks := B.notSynchronized
  subst hsz
  have hD := hD0.self (sz := s.heap.size)
  generalize hAe : va_A [(h0, .inr (12, mo v_r v_i v_j))] s.heap.size = A at hD ⊢
  have hA : ∀ q : Nat, s.heap.size ≤ q → A q := fun q h => by rw [← hAe]; exact Or.inr h
  have hS : va_S A s.heap s.heap [] := va_S.rf
  have hP : va_P (dC, dI) classes [(h0, .inr (12, mo v_r v_i v_j))] s.heap := hP
  have hl := lv_entry ([.ref h0, .int a]) (n := 2) (Nat.le_of_ble_eq_true rfl)
  rw [lg_entry_eq]
  generalize (lg_sl ([.ref h0, .int a]) ++ List.replicate (2 - (lg_sl ([.ref h0, .int a])).length) Slot.unset).toArray = ls at hl ⊢
  have hl : lv_has ls 2 [(0, .ref h0), (1, .int a)] := hl
  refine lv_aload_n hx hb d_Model_out_0 rfl (lv_at hl 0 rfl) ?_
  refine lv_iconst (v := 0) hx hb d_Model_out_1 (by decide) ?_
  refine va_put (D := (dC, dI)) (ci := 12) (v := .int 0) (ty := .int) (C := R_Model) (T := F_Model) (N := 127) hx hb htt iw_Model t_Model t_Model_ok n_Model hown hK hP hD hS 0 rfl rfl 0 (by decide) (htt _ lk_Model_1) (fun _ h9 => h9) rfl (by decide +kernel) rfl rfl (Nat.le_of_ble_eq_true rfl) d_Model_out_2 (fun H locs hP hD hS => ?_)
  have hP : va_P (dC, dI) classes [(h0, .inr (12, mo v_r (upd v_i 0 0) v_j))] H := hP
  have hD : va_D A [(h0, .inr (12, mo v_r (upd v_i 0 0) v_j))] := hD
  refine lv_iload_n hx hb d_Model_out_5 rfl (lv_at hl 1 rfl) ?_
  refine lv_if_lt (tgt := 25) hx hb d_Model_out_6 (by decide) (fun c_1 => ?_) (fun c_1 => ?_)
  · refine lv_iconst (v := -1) hx hb d_Model_out_25 (by decide) ?_
    refine lv_goto (tgt := 48) hx hb d_Model_out_26 (by decide) ?_
    have hP9 := hP.sub (ws' := [(h0, .inr (12, mo v_r (upd v_i 0 0) v_j))]) [0] rfl
    have hD9 := hD.sub (ws' := [(h0, .inr (12, mo v_r (upd v_i 0 0) v_j))]) [0] (by decide) rfl
    have eW : [(h0, .inr (12, mo v_r (upd v_i 0 0) v_j))] = ([(h0, .inr (12, mo v_r (i_Model_out_w0_i v_i a) v_j))] : va_W) := by unfold i_Model_out_w0_i; simp only [if_pos c_1]
    rw [eW] at hP9 hD9
    exact W.iret (v := (-1)) hx hb hr (fun t9 ht hW => ⟨⟨(-1), (), rfl, by unfold i_Model_out_r; simp only [if_pos c_1], by rw [ht]; exact hP9, va_K.moved hW.alike hK, hD9⟩, hS.F ht⟩) hS.2.2 d_Model_out_48
  · refine lv_iload_n hx hb d_Model_out_9 rfl (lv_at hl 1 rfl) ?_
    refine lv_i2l hx hb d_Model_out_10 rfl ?_
    refine lv_aload_n hx hb d_Model_out_11 rfl (lv_at hl 0 rfl) ?_
    refine va_get (D := (dC, dI)) (ci := 12) (v := .long (v_j 48)) (C := R_Model) (T := F_Model) (N := 127) hx hb htt iw_Model hown hK hP 0 rfl rfl 48 (by decide) (htt _ lk_Model_356) (fun _ h9 => h9) rfl d_Model_out_12 ?_
    refine lv_ldc2 (v := 2000) hx hb hown (htt _ lk_Model_789) d_Model_out_15 ?_
    have hPc := hP.sub (ws' := []) [] rfl
    have hDc := hD.sub (ws' := []) [] (by decide) rfl
    have hKc := hK.sub (tys' := []) [] rfl
    have hFc := va_free (wc := []) hD hS hA [] rfl
    refine va_calll (va_runS (As := [.long (v_j 48), .long 2000]) (rest := [.long a.toInt64]) ⟨hx, hb, hml, hown, hts⟩ (c_Math_min2 l dC dI H.size (v_j 48) 2000) (va_cwS 2 hts (tw_GS tw_cons cw_Math_min2 lk_Model_140 st_Math_min2 ini_Math) rfl rfl rfl (by decide +kernel) ⟨Nat.le_of_ble_eq_true rfl, Nat.le_of_ble_eq_true rfl⟩) ⟨fun a U g mk q => by obtain ⟨q0, q1, qP, qK, qD⟩ := q; exact ⟨q0, q1, qP, va_K.moved (u := U) (U := U.calling g mk a) (Vm.Alike.refl U.vm) qK, qD⟩, fun U hU hW => ⟨rfl, by rw [hU], by rw [hU]; exact hPc, va_K.moved hW.alike hKc, hDc.weaken (fun _ _ _ _ => trivial)⟩⟩ rfl rfl hl.1 rfl (lv_room (Nat.le_of_ble_eq_true rfl)) d_Model_out_18 ⟨Nat.le_of_ble_eq_true rfl, Nat.le_of_ble_eq_true rfl⟩) hS (fun q _ h => hFc q h) hFc (fun r9 u9 t9 H1 locs ht hvm e9 hB hz1 hk1 hS => ?_)
    obtain ⟨hP1, hK1, hD1⟩ := hB
    rw [ht] at hP1
    obtain ⟨hP, hD⟩ := va_join (wr := [(h0, .inr (12, mo v_r (upd v_i 0 0) v_j))]) (w1 := []) hP hD [] [0] rfl rfl (by decide) (by decide) hk1 hFc hP1 hD1
    subst e9
    clear hP1 hD1 hK1 hvm hz1 hk1 hFc hKc hDc hPc
    subst ht
    generalize t9.heap = H at hP hS ⊢
    have hP : va_P (dC, dI) classes [(h0, .inr (12, mo v_r (upd v_i 0 0) v_j))] H := hP
    have hD : va_D A [(h0, .inr (12, mo v_r (upd v_i 0 0) v_j))] := hD
    refine W.lcmp hx hb d_Model_out_21 ?_
    refine lv_if_lt (tgt := 29) hx hb d_Model_out_22 (by decide) (fun c_2 => ?_) (fun c_2 => ?_)
    · exact absurd c_2 (by rw [hno]; exact mo_out c_1)
    · refine lv_iconst (v := -1) hx hb d_Model_out_25 (by decide) ?_
      refine lv_goto (tgt := 48) hx hb d_Model_out_26 (by decide) ?_
      have hP9 := hP.sub (ws' := [(h0, .inr (12, mo v_r (upd v_i 0 0) v_j))]) [0] rfl
      have hD9 := hD.sub (ws' := [(h0, .inr (12, mo v_r (upd v_i 0 0) v_j))]) [0] (by decide) rfl
      have eW : [(h0, .inr (12, mo v_r (upd v_i 0 0) v_j))] = ([(h0, .inr (12, mo v_r (i_Model_out_w0_i v_i a) v_j))] : va_W) := by unfold i_Model_out_w0_i; simp only [if_neg c_1]
      rw [eW] at hP9 hD9
      exact W.iret (v := (-1)) hx hb hr (fun t9 ht hW => ⟨⟨(-1), (), rfl, by unfold i_Model_out_r; simp only [if_neg c_1], by rw [ht]; exact hP9, va_K.moved hW.alike hK, hD9⟩, hS.F ht⟩) hS.2.2 d_Model_out_48

def i_Model_name_r (a : Int32) : Int32 := if a < ((0 : Int32)) then (-1) else (-1)
def i_Model_name_w0_i (v_i : Nat → Int32) (a : Int32) : Nat → Int32 := if a < ((0 : Int32)) then upd v_i 0 0 else upd v_i 0 0
set_option maxHeartbeats 4000000 in
set_option maxRecDepth 100000 in
/-- name of the reference, where there is nothing -/
theorem c_Model_name_i (l : Launch) (dC : Nat → ClassId) (dI : Nat → Nat → Nat) (sz : Nat) (h0 : Nat) (v_r : Nat → Nat) (v_i : Nat → Int32) (v_j : Nat → Int64) (cI : ClassId) (cJ : ClassId) (cB : ClassId) (a : Int32) (b : Int32) (hno : a < 0 ∨ v_i 36 ≤ a) : Met l y_Model_name w_Model_name ({ frames := 0, cells := 0, slots := 0, locals := 0 }) (va_Pc [.ref h0, .int a, .int b] (fun U => U.heap.size = sz ∧ va_P (dC, dI) classes [(h0, .inr (12, mo v_r v_i v_j))] U.heap ∧ va_K (dC, dI) classes [(cI, .int), (cJ, .long), (cB, .byte)] U ∧ va_D (fun _ => True) [(h0, .inr (12, mo v_r v_i v_j))])) (va_Qi (fun (r : Int32) (_ : Unit) => r = i_Model_name_r a) (fun (_ : Unit) t => va_P (dC, dI) classes [(h0, .inr (12, mo v_r (i_Model_name_w0_i v_i a) v_j))] t.heap ∧ va_K (dC, dI) classes [(cI, .int), (cJ, .long), (cB, .byte)] t ∧ va_D (va_A [(h0, .inr (12, mo v_r v_i v_j))] sz) [(h0, .inr (12, mo v_r (i_Model_name_w0_i v_i a) v_j))]) (va_A [(h0, .inr (12, mo v_r v_i v_j))] sz)) 0 0 (va_A [(h0, .inr (12, mo v_r v_i v_j))] sz) := by
  refine Met.ofW (cc := b_Model_name) (maxL := 3) (ret := (some .int)) (by decide) rfl ?_
  intro p e s m args below meth c s₁ B hml hv
  obtain ⟨rfl, hsz, hP, hK, hD0⟩ := hv
  have hx := B.exec
  have hb := B.bytes
  have hr := B.returns
  have hts := atoms_spec (ws := w_Model_name) B.pre
  have htt : ∀ w ∈ tw_T, w.before _ s = true := fun w h => hts w (List.mem_cons_of_mem _ h)
  have hown : s.vm.findClass R_Model = some m.cls := findClass_of_methodNamed B.named
  have hlocks := B.notSynchronized
  subst hsz
  have hD := hD0.self (sz := s.heap.size)
  generalize hAe : va_A [(h0, .inr (12, mo v_r v_i v_j))] s.heap.size = A at hD ⊢
  have hA : ∀ q : Nat, s.heap.size ≤ q → A q := fun q h => by rw [← hAe]; exact Or.inr h
  have hS : va_S A s.heap s.heap [] := va_S.rf
  have hP : va_P (dC, dI) classes [(h0, .inr (12, mo v_r v_i v_j))] s.heap := hP
  have hl := lv_entry ([.ref h0, .int a, .int b]) (n := 3) (Nat.le_of_ble_eq_true rfl)
  rw [lg_entry_eq]
  generalize (lg_sl ([.ref h0, .int a, .int b]) ++ List.replicate (3 - (lg_sl ([.ref h0, .int a, .int b])).length) Slot.unset).toArray = ls at hl ⊢
  have hl : lv_has ls 3 [(0, .ref h0), (1, .int a), (2, .int b)] := hl
  refine lv_aload_n hx hb d_Model_name_0 rfl (lv_at hl 0 rfl) ?_
  refine lv_iconst (v := 0) hx hb d_Model_name_1 (by decide) ?_
  refine va_put (D := (dC, dI)) (ci := 12) (v := .int 0) (ty := .int) (C := R_Model) (T := F_Model) (N := 127) hx hb htt iw_Model t_Model t_Model_ok n_Model hown hK hP hD hS 0 rfl rfl 0 (by decide) (htt _ lk_Model_1) (fun _ h9 => h9) rfl (by decide +kernel) rfl rfl (Nat.le_of_ble_eq_true rfl) d_Model_name_2 (fun H locs hP hD hS => ?_)
  have hP : va_P (dC, dI) classes [(h0, .inr (12, mo v_r (upd v_i 0 0) v_j))] H := hP
  have hD : va_D A [(h0, .inr (12, mo v_r (upd v_i 0 0) v_j))] := hD
  refine lv_iload_n hx hb d_Model_name_5 rfl (lv_at hl 1 rfl) ?_
  refine lv_if_lt (tgt := 36) hx hb d_Model_name_6 (by decide) (fun c_1 => ?_) (fun c_1 => ?_)
  · refine lv_iconst (v := -1) hx hb d_Model_name_36 (by decide) ?_
    refine lv_goto (tgt := 58) hx hb d_Model_name_37 (by decide) ?_
    have hP9 := hP.sub (ws' := [(h0, .inr (12, mo v_r (upd v_i 0 0) v_j))]) [0] rfl
    have hD9 := hD.sub (ws' := [(h0, .inr (12, mo v_r (upd v_i 0 0) v_j))]) [0] (by decide) rfl
    have eW : [(h0, .inr (12, mo v_r (upd v_i 0 0) v_j))] = ([(h0, .inr (12, mo v_r (i_Model_name_w0_i v_i a) v_j))] : va_W) := by unfold i_Model_name_w0_i; simp only [if_pos c_1]
    rw [eW] at hP9 hD9
    exact W.iret (v := (-1)) hx hb hr (fun t9 ht hW => ⟨⟨(-1), (), rfl, by unfold i_Model_name_r; simp only [if_pos c_1], by rw [ht]; exact hP9, va_K.moved hW.alike hK, hD9⟩, hS.F ht⟩) hS.2.2 d_Model_name_58
  · refine lv_iload_n hx hb d_Model_name_9 rfl (lv_at hl 1 rfl) ?_
    refine lv_aload_n hx hb d_Model_name_10 rfl (lv_at hl 0 rfl) ?_
    refine va_get (D := (dC, dI)) (ci := 12) (v := .int (v_i 36)) (C := R_Model) (T := F_Model) (N := 127) hx hb htt iw_Model hown hK hP 0 rfl rfl 36 (by decide) (htt _ lk_Model_350) (fun _ h9 => h9) rfl d_Model_name_11 ?_
    refine lv_icmp_ge (tgt := 36) hx hb d_Model_name_14 (by decide) (fun c_2 => ?_) (fun c_2 => ?_)
    · refine lv_iconst (v := -1) hx hb d_Model_name_36 (by decide) ?_
      refine lv_goto (tgt := 58) hx hb d_Model_name_37 (by decide) ?_
      have hP9 := hP.sub (ws' := [(h0, .inr (12, mo v_r (upd v_i 0 0) v_j))]) [0] rfl
      have hD9 := hD.sub (ws' := [(h0, .inr (12, mo v_r (upd v_i 0 0) v_j))]) [0] (by decide) rfl
      have eW : [(h0, .inr (12, mo v_r (upd v_i 0 0) v_j))] = ([(h0, .inr (12, mo v_r (i_Model_name_w0_i v_i a) v_j))] : va_W) := by unfold i_Model_name_w0_i; simp only [if_neg c_1]
      rw [eW] at hP9 hD9
      exact W.iret (v := (-1)) hx hb hr (fun t9 ht hW => ⟨⟨(-1), (), rfl, by unfold i_Model_name_r; simp only [if_neg c_1], by rw [ht]; exact hP9, va_K.moved hW.alike hK, hD9⟩, hS.F ht⟩) hS.2.2 d_Model_name_58
    · exact absurd (hno.elim (fun h8 => absurd h8 c_1) id) c_2

def i_Model_value_r (a : Int32) : Int32 := if a < ((0 : Int32)) then (-1) else (-1)
def i_Model_value_w0_i (v_i : Nat → Int32) (a : Int32) : Nat → Int32 := if a < ((0 : Int32)) then upd v_i 0 0 else upd v_i 0 0
set_option maxHeartbeats 4000000 in
set_option maxRecDepth 100000 in
/-- value of the reference, where there is nothing -/
theorem c_Model_value_i (l : Launch) (dC : Nat → ClassId) (dI : Nat → Nat → Nat) (sz : Nat) (h0 : Nat) (v_r : Nat → Nat) (v_i : Nat → Int32) (v_j : Nat → Int64) (cI : ClassId) (cJ : ClassId) (cB : ClassId) (a : Int32) (b : Int32) (hno : a < 0 ∨ v_i 36 ≤ a) : Met l y_Model_value w_Model_value ({ frames := 0, cells := 0, slots := 0, locals := 0 }) (va_Pc [.ref h0, .int a, .int b] (fun U => U.heap.size = sz ∧ va_P (dC, dI) classes [(h0, .inr (12, mo v_r v_i v_j))] U.heap ∧ va_K (dC, dI) classes [(cI, .int), (cJ, .long), (cB, .byte)] U ∧ va_D (fun _ => True) [(h0, .inr (12, mo v_r v_i v_j))])) (va_Qi (fun (r : Int32) (_ : Unit) => r = i_Model_value_r a) (fun (_ : Unit) t => va_P (dC, dI) classes [(h0, .inr (12, mo v_r (i_Model_value_w0_i v_i a) v_j))] t.heap ∧ va_K (dC, dI) classes [(cI, .int), (cJ, .long), (cB, .byte)] t ∧ va_D (va_A [(h0, .inr (12, mo v_r v_i v_j))] sz) [(h0, .inr (12, mo v_r (i_Model_value_w0_i v_i a) v_j))]) (va_A [(h0, .inr (12, mo v_r v_i v_j))] sz)) 0 0 (va_A [(h0, .inr (12, mo v_r v_i v_j))] sz) := by
  refine Met.ofW (cc := b_Model_value) (maxL := 3) (ret := (some .int)) (by decide) rfl ?_
  intro p e s m args below meth c s₁ B hml hv
  obtain ⟨rfl, hsz, hP, hK, hD0⟩ := hv
  have hx := B.exec
  have hb := B.bytes
  have hr := B.returns
  have hts := atoms_spec (ws := w_Model_value) B.pre
  have htt : ∀ w ∈ tw_T, w.before _ s = true := fun w h => hts w (List.mem_cons_of_mem _ h)
  have hown : s.vm.findClass R_Model = some m.cls := findClass_of_methodNamed B.named
  have hlocks := B.notSynchronized
  subst hsz
  have hD := hD0.self (sz := s.heap.size)
  generalize hAe : va_A [(h0, .inr (12, mo v_r v_i v_j))] s.heap.size = A at hD ⊢
  have hA : ∀ q : Nat, s.heap.size ≤ q → A q := fun q h => by rw [← hAe]; exact Or.inr h
  have hS : va_S A s.heap s.heap [] := va_S.rf
  have hP : va_P (dC, dI) classes [(h0, .inr (12, mo v_r v_i v_j))] s.heap := hP
  have hl := lv_entry ([.ref h0, .int a, .int b]) (n := 3) (Nat.le_of_ble_eq_true rfl)
  rw [lg_entry_eq]
  generalize (lg_sl ([.ref h0, .int a, .int b]) ++ List.replicate (3 - (lg_sl ([.ref h0, .int a, .int b])).length) Slot.unset).toArray = ls at hl ⊢
  have hl : lv_has ls 3 [(0, .ref h0), (1, .int a), (2, .int b)] := hl
  refine lv_aload_n hx hb d_Model_value_0 rfl (lv_at hl 0 rfl) ?_
  refine lv_iconst (v := 0) hx hb d_Model_value_1 (by decide) ?_
  refine va_put (D := (dC, dI)) (ci := 12) (v := .int 0) (ty := .int) (C := R_Model) (T := F_Model) (N := 127) hx hb htt iw_Model t_Model t_Model_ok n_Model hown hK hP hD hS 0 rfl rfl 0 (by decide) (htt _ lk_Model_1) (fun _ h9 => h9) rfl (by decide +kernel) rfl rfl (Nat.le_of_ble_eq_true rfl) d_Model_value_2 (fun H locs hP hD hS => ?_)
  have hP : va_P (dC, dI) classes [(h0, .inr (12, mo v_r (upd v_i 0 0) v_j))] H := hP
  have hD : va_D A [(h0, .inr (12, mo v_r (upd v_i 0 0) v_j))] := hD
  refine lv_iload_n hx hb d_Model_value_5 rfl (lv_at hl 1 rfl) ?_
  refine lv_if_lt (tgt := 17) hx hb d_Model_value_6 (by decide) (fun c_1 => ?_) (fun c_1 => ?_)
  · refine lv_iconst (v := -1) hx hb d_Model_value_17 (by decide) ?_
    have hP9 := hP.sub (ws' := [(h0, .inr (12, mo v_r (upd v_i 0 0) v_j))]) [0] rfl
    have hD9 := hD.sub (ws' := [(h0, .inr (12, mo v_r (upd v_i 0 0) v_j))]) [0] (by decide) rfl
    have eW : [(h0, .inr (12, mo v_r (upd v_i 0 0) v_j))] = ([(h0, .inr (12, mo v_r (i_Model_value_w0_i v_i a) v_j))] : va_W) := by unfold i_Model_value_w0_i; simp only [if_pos c_1]
    rw [eW] at hP9 hD9
    exact W.iret (v := (-1)) hx hb hr (fun t9 ht hW => ⟨⟨(-1), (), rfl, by unfold i_Model_value_r; simp only [if_pos c_1], by rw [ht]; exact hP9, va_K.moved hW.alike hK, hD9⟩, hS.F ht⟩) hS.2.2 d_Model_value_18
  · refine lv_iload_n hx hb d_Model_value_9 rfl (lv_at hl 1 rfl) ?_
    refine lv_aload_n hx hb d_Model_value_10 rfl (lv_at hl 0 rfl) ?_
    refine va_get (D := (dC, dI)) (ci := 12) (v := .int (v_i 36)) (C := R_Model) (T := F_Model) (N := 127) hx hb htt iw_Model hown hK hP 0 rfl rfl 36 (by decide) (htt _ lk_Model_350) (fun _ h9 => h9) rfl d_Model_value_11 ?_
    refine lv_icmp_lt (tgt := 19) hx hb d_Model_value_14 (by decide) (fun c_2 => ?_) (fun c_2 => ?_)
    · exact absurd c_2 (fun h9 => hno.elim c_1 (fun h8 => absurd h9 (Int32.not_lt.mpr h8)))
    · refine lv_iconst (v := -1) hx hb d_Model_value_17 (by decide) ?_
      have hP9 := hP.sub (ws' := [(h0, .inr (12, mo v_r (upd v_i 0 0) v_j))]) [0] rfl
      have hD9 := hD.sub (ws' := [(h0, .inr (12, mo v_r (upd v_i 0 0) v_j))]) [0] (by decide) rfl
      have eW : [(h0, .inr (12, mo v_r (upd v_i 0 0) v_j))] = ([(h0, .inr (12, mo v_r (i_Model_value_w0_i v_i a) v_j))] : va_W) := by unfold i_Model_value_w0_i; simp only [if_neg c_1]
      rw [eW] at hP9 hD9
      exact W.iret (v := (-1)) hx hb hr (fun t9 ht hW => ⟨⟨(-1), (), rfl, by unfold i_Model_value_r; simp only [if_neg c_1], by rw [ht]; exact hP9, va_K.moved hW.alike hK, hD9⟩, hS.F ht⟩) hS.2.2 d_Model_value_18

def i_Model_procedure_r (a : Int32) : Int32 := if a < ((0 : Int32)) then (-1) else (-1)
def i_Model_procedure_w0_i (v_i : Nat → Int32) (a : Int32) : Nat → Int32 := if a < ((0 : Int32)) then upd v_i 0 0 else upd v_i 0 0
set_option maxHeartbeats 4000000 in
set_option maxRecDepth 100000 in
/-- procedure of the reference, where there is nothing -/
theorem c_Model_procedure_i (l : Launch) (dC : Nat → ClassId) (dI : Nat → Nat → Nat) (sz : Nat) (h0 : Nat) (v_r : Nat → Nat) (v_i : Nat → Int32) (v_j : Nat → Int64) (cI : ClassId) (cJ : ClassId) (cB : ClassId) (a : Int32) (b : Int32) (hno : a < 0 ∨ v_i 33 ≤ a) : Met l y_Model_procedure w_Model_procedure ({ frames := 0, cells := 0, slots := 0, locals := 0 }) (va_Pc [.ref h0, .int a, .int b] (fun U => U.heap.size = sz ∧ va_P (dC, dI) classes [(h0, .inr (12, mo v_r v_i v_j))] U.heap ∧ va_K (dC, dI) classes [(cI, .int), (cJ, .long), (cB, .byte)] U ∧ va_D (fun _ => True) [(h0, .inr (12, mo v_r v_i v_j))])) (va_Qi (fun (r : Int32) (_ : Unit) => r = i_Model_procedure_r a) (fun (_ : Unit) t => va_P (dC, dI) classes [(h0, .inr (12, mo v_r (i_Model_procedure_w0_i v_i a) v_j))] t.heap ∧ va_K (dC, dI) classes [(cI, .int), (cJ, .long), (cB, .byte)] t ∧ va_D (va_A [(h0, .inr (12, mo v_r v_i v_j))] sz) [(h0, .inr (12, mo v_r (i_Model_procedure_w0_i v_i a) v_j))]) (va_A [(h0, .inr (12, mo v_r v_i v_j))] sz)) 0 0 (va_A [(h0, .inr (12, mo v_r v_i v_j))] sz) := by
  refine Met.ofW (cc := b_Model_procedure) (maxL := 4) (ret := (some .int)) (by decide) rfl ?_
  intro p e s m args below meth c s₁ B hml hv
  obtain ⟨rfl, hsz, hP, hK, hD0⟩ := hv
  have hx := B.exec
  have hb := B.bytes
  have hr := B.returns
  have hts := atoms_spec (ws := w_Model_procedure) B.pre
  have htt : ∀ w ∈ tw_T, w.before _ s = true := fun w h => hts w (List.mem_cons_of_mem _ h)
  have hown : s.vm.findClass R_Model = some m.cls := findClass_of_methodNamed B.named
  have hlocks := B.notSynchronized
  subst hsz
  have hD := hD0.self (sz := s.heap.size)
  generalize hAe : va_A [(h0, .inr (12, mo v_r v_i v_j))] s.heap.size = A at hD ⊢
  have hA : ∀ q : Nat, s.heap.size ≤ q → A q := fun q h => by rw [← hAe]; exact Or.inr h
  have hS : va_S A s.heap s.heap [] := va_S.rf
  have hP : va_P (dC, dI) classes [(h0, .inr (12, mo v_r v_i v_j))] s.heap := hP
  have hl := lv_entry ([.ref h0, .int a, .int b]) (n := 4) (Nat.le_of_ble_eq_true rfl)
  rw [lg_entry_eq]
  generalize (lg_sl ([.ref h0, .int a, .int b]) ++ List.replicate (4 - (lg_sl ([.ref h0, .int a, .int b])).length) Slot.unset).toArray = ls at hl ⊢
  have hl : lv_has ls 4 [(0, .ref h0), (1, .int a), (2, .int b)] := hl
  refine lv_aload_n hx hb d_Model_procedure_0 rfl (lv_at hl 0 rfl) ?_
  refine lv_iconst (v := 0) hx hb d_Model_procedure_1 (by decide) ?_
  refine va_put (D := (dC, dI)) (ci := 12) (v := .int 0) (ty := .int) (C := R_Model) (T := F_Model) (N := 127) hx hb htt iw_Model t_Model t_Model_ok n_Model hown hK hP hD hS 0 rfl rfl 0 (by decide) (htt _ lk_Model_1) (fun _ h9 => h9) rfl (by decide +kernel) rfl rfl (Nat.le_of_ble_eq_true rfl) d_Model_procedure_2 (fun H locs hP hD hS => ?_)
  have hP : va_P (dC, dI) classes [(h0, .inr (12, mo v_r (upd v_i 0 0) v_j))] H := hP
  have hD : va_D A [(h0, .inr (12, mo v_r (upd v_i 0 0) v_j))] := hD
  refine lv_iload_n hx hb d_Model_procedure_5 rfl (lv_at hl 1 rfl) ?_
  refine lv_if_lt (tgt := 21) hx hb d_Model_procedure_6 (by decide) (fun c_1 => ?_) (fun c_1 => ?_)
  · refine lv_iconst (v := -1) hx hb d_Model_procedure_21 (by decide) ?_
    have hP9 := hP.sub (ws' := [(h0, .inr (12, mo v_r (upd v_i 0 0) v_j))]) [0] rfl
    have hD9 := hD.sub (ws' := [(h0, .inr (12, mo v_r (upd v_i 0 0) v_j))]) [0] (by decide) rfl
    have eW : [(h0, .inr (12, mo v_r (upd v_i 0 0) v_j))] = ([(h0, .inr (12, mo v_r (i_Model_procedure_w0_i v_i a) v_j))] : va_W) := by unfold i_Model_procedure_w0_i; simp only [if_pos c_1]
    rw [eW] at hP9 hD9
    exact W.iret (v := (-1)) hx hb hr (fun t9 ht hW => ⟨⟨(-1), (), rfl, by unfold i_Model_procedure_r; simp only [if_pos c_1], by rw [ht]; exact hP9, va_K.moved hW.alike hK, hD9⟩, hS.F ht⟩) hS.2.2 d_Model_procedure_22
  · refine lv_iload_n hx hb d_Model_procedure_9 rfl (lv_at hl 1 rfl) ?_
    refine lv_aload_n hx hb d_Model_procedure_10 rfl (lv_at hl 0 rfl) ?_
    refine va_get (D := (dC, dI)) (ci := 12) (v := .int (v_i 33)) (C := R_Model) (T := F_Model) (N := 127) hx hb htt iw_Model hown hK hP 0 rfl rfl 33 (by decide) (htt _ lk_Model_344) (fun _ h9 => h9) rfl d_Model_procedure_11 ?_
    refine lv_icmp_ge (tgt := 21) hx hb d_Model_procedure_14 (by decide) (fun c_2 => ?_) (fun c_2 => ?_)
    · refine lv_iconst (v := -1) hx hb d_Model_procedure_21 (by decide) ?_
      have hP9 := hP.sub (ws' := [(h0, .inr (12, mo v_r (upd v_i 0 0) v_j))]) [0] rfl
      have hD9 := hD.sub (ws' := [(h0, .inr (12, mo v_r (upd v_i 0 0) v_j))]) [0] (by decide) rfl
      have eW : [(h0, .inr (12, mo v_r (upd v_i 0 0) v_j))] = ([(h0, .inr (12, mo v_r (i_Model_procedure_w0_i v_i a) v_j))] : va_W) := by unfold i_Model_procedure_w0_i; simp only [if_neg c_1]
      rw [eW] at hP9 hD9
      exact W.iret (v := (-1)) hx hb hr (fun t9 ht hW => ⟨⟨(-1), (), rfl, by unfold i_Model_procedure_r; simp only [if_neg c_1], by rw [ht]; exact hP9, va_K.moved hW.alike hK, hD9⟩, hS.F ht⟩) hS.2.2 d_Model_procedure_22
    · exact absurd (hno.elim (fun h8 => absurd h8 c_1) id) c_2

def i_Model_call_r (a : Int32) : Int32 := if a < ((0 : Int32)) then (-1) else (-1)
def i_Model_call_w0_i (v_i : Nat → Int32) (a : Int32) : Nat → Int32 := if a < ((0 : Int32)) then upd v_i 0 0 else upd v_i 0 0
set_option maxHeartbeats 4000000 in
set_option maxRecDepth 100000 in
/-- call of the reference, where there is nothing -/
theorem c_Model_call_i (l : Launch) (dC : Nat → ClassId) (dI : Nat → Nat → Nat) (sz : Nat) (h0 : Nat) (v_r : Nat → Nat) (v_i : Nat → Int32) (v_j : Nat → Int64) (cI : ClassId) (cJ : ClassId) (cB : ClassId) (a : Int32) (b : Int32) (hno : a < 0 ∨ v_i 99 ≤ a) : Met l y_Model_call w_Model_call ({ frames := 0, cells := 0, slots := 0, locals := 0 }) (va_Pc [.ref h0, .int a, .int b] (fun U => U.heap.size = sz ∧ va_P (dC, dI) classes [(h0, .inr (12, mo v_r v_i v_j))] U.heap ∧ va_K (dC, dI) classes [(cI, .int), (cJ, .long), (cB, .byte)] U ∧ va_D (fun _ => True) [(h0, .inr (12, mo v_r v_i v_j))])) (va_Qi (fun (r : Int32) (_ : Unit) => r = i_Model_call_r a) (fun (_ : Unit) t => va_P (dC, dI) classes [(h0, .inr (12, mo v_r (i_Model_call_w0_i v_i a) v_j))] t.heap ∧ va_K (dC, dI) classes [(cI, .int), (cJ, .long), (cB, .byte)] t ∧ va_D (va_A [(h0, .inr (12, mo v_r v_i v_j))] sz) [(h0, .inr (12, mo v_r (i_Model_call_w0_i v_i a) v_j))]) (va_A [(h0, .inr (12, mo v_r v_i v_j))] sz)) 0 0 (va_A [(h0, .inr (12, mo v_r v_i v_j))] sz) := by
  refine Met.ofW (cc := b_Model_call) (maxL := 6) (ret := (some .int)) (by decide) rfl ?_
  intro p e s m args below meth c s₁ B hml hv
  obtain ⟨rfl, hsz, hP, hK, hD0⟩ := hv
  have hx := B.exec
  have hb := B.bytes
  have hr := B.returns
  have hts := atoms_spec (ws := w_Model_call) B.pre
  have htt : ∀ w ∈ tw_T, w.before _ s = true := fun w h => hts w (List.mem_cons_of_mem _ h)
  have hown : s.vm.findClass R_Model = some m.cls := findClass_of_methodNamed B.named
  have hlocks := B.notSynchronized
  subst hsz
  have hD := hD0.self (sz := s.heap.size)
  generalize hAe : va_A [(h0, .inr (12, mo v_r v_i v_j))] s.heap.size = A at hD ⊢
  have hA : ∀ q : Nat, s.heap.size ≤ q → A q := fun q h => by rw [← hAe]; exact Or.inr h
  have hS : va_S A s.heap s.heap [] := va_S.rf
  have hP : va_P (dC, dI) classes [(h0, .inr (12, mo v_r v_i v_j))] s.heap := hP
  have hl := lv_entry ([.ref h0, .int a, .int b]) (n := 6) (Nat.le_of_ble_eq_true rfl)
  rw [lg_entry_eq]
  generalize (lg_sl ([.ref h0, .int a, .int b]) ++ List.replicate (6 - (lg_sl ([.ref h0, .int a, .int b])).length) Slot.unset).toArray = ls at hl ⊢
  have hl : lv_has ls 6 [(0, .ref h0), (1, .int a), (2, .int b)] := hl
  refine lv_aload_n hx hb d_Model_call_0 rfl (lv_at hl 0 rfl) ?_
  refine lv_iconst (v := 0) hx hb d_Model_call_1 (by decide) ?_
  refine va_put (D := (dC, dI)) (ci := 12) (v := .int 0) (ty := .int) (C := R_Model) (T := F_Model) (N := 127) hx hb htt iw_Model t_Model t_Model_ok n_Model hown hK hP hD hS 0 rfl rfl 0 (by decide) (htt _ lk_Model_1) (fun _ h9 => h9) rfl (by decide +kernel) rfl rfl (Nat.le_of_ble_eq_true rfl) d_Model_call_2 (fun H locs hP hD hS => ?_)
  have hP : va_P (dC, dI) classes [(h0, .inr (12, mo v_r (upd v_i 0 0) v_j))] H := hP
  have hD : va_D A [(h0, .inr (12, mo v_r (upd v_i 0 0) v_j))] := hD
  refine lv_iload_n hx hb d_Model_call_5 rfl (lv_at hl 1 rfl) ?_
  refine lv_if_lt (tgt := 17) hx hb d_Model_call_6 (by decide) (fun c_1 => ?_) (fun c_1 => ?_)
  · refine lv_iconst (v := -1) hx hb d_Model_call_17 (by decide) ?_
    have hP9 := hP.sub (ws' := [(h0, .inr (12, mo v_r (upd v_i 0 0) v_j))]) [0] rfl
    have hD9 := hD.sub (ws' := [(h0, .inr (12, mo v_r (upd v_i 0 0) v_j))]) [0] (by decide) rfl
    have eW : [(h0, .inr (12, mo v_r (upd v_i 0 0) v_j))] = ([(h0, .inr (12, mo v_r (i_Model_call_w0_i v_i a) v_j))] : va_W) := by unfold i_Model_call_w0_i; simp only [if_pos c_1]
    rw [eW] at hP9 hD9
    exact W.iret (v := (-1)) hx hb hr (fun t9 ht hW => ⟨⟨(-1), (), rfl, by unfold i_Model_call_r; simp only [if_pos c_1], by rw [ht]; exact hP9, va_K.moved hW.alike hK, hD9⟩, hS.F ht⟩) hS.2.2 d_Model_call_18
  · refine lv_iload_n hx hb d_Model_call_9 rfl (lv_at hl 1 rfl) ?_
    refine lv_aload_n hx hb d_Model_call_10 rfl (lv_at hl 0 rfl) ?_
    refine va_get (D := (dC, dI)) (ci := 12) (v := .int (v_i 99)) (C := R_Model) (T := F_Model) (N := 127) hx hb htt iw_Model hown hK hP 0 rfl rfl 99 (by decide) (htt _ lk_Model_538) (fun _ h9 => h9) rfl d_Model_call_11 ?_
    refine lv_icmp_lt (tgt := 19) hx hb d_Model_call_14 (by decide) (fun c_2 => ?_) (fun c_2 => ?_)
    · exact absurd c_2 (fun h9 => hno.elim c_1 (fun h8 => absurd h9 (Int32.not_lt.mpr h8)))
    · refine lv_iconst (v := -1) hx hb d_Model_call_17 (by decide) ?_
      have hP9 := hP.sub (ws' := [(h0, .inr (12, mo v_r (upd v_i 0 0) v_j))]) [0] rfl
      have hD9 := hD.sub (ws' := [(h0, .inr (12, mo v_r (upd v_i 0 0) v_j))]) [0] (by decide) rfl
      have eW : [(h0, .inr (12, mo v_r (upd v_i 0 0) v_j))] = ([(h0, .inr (12, mo v_r (i_Model_call_w0_i v_i a) v_j))] : va_W) := by unfold i_Model_call_w0_i; simp only [if_neg c_1]
      rw [eW] at hP9 hD9
      exact W.iret (v := (-1)) hx hb hr (fun t9 ht hW => ⟨⟨(-1), (), rfl, by unfold i_Model_call_r; simp only [if_neg c_1], by rw [ht]; exact hP9, va_K.moved hW.alike hK, hD9⟩, hS.F ht⟩) hS.2.2 d_Model_call_18

set_option maxHeartbeats 4000000 in
set_option maxRecDepth 100000 in
/-- the row of a part -/
theorem c_Model_turtleRow_0 (l : Launch) (dC : Nat → ClassId) (dI : Nat → Nat → Nat) (sz : Nat) (h0 : Nat) (v_r : Nat → Nat) (v_i : Nat → Int32) (v_j : Nat → Int64) (cI : ClassId) (cJ : ClassId) (cB : ClassId)  : Met l y_Model_turtleRow w_Model_turtleRow ({ frames := 0, cells := 0, slots := 0, locals := 0 }) (va_Pc [.ref h0, .int 0] (fun U => U.heap.size = sz ∧ va_P (dC, dI) classes [(h0, .inr (12, mo v_r v_i v_j))] U.heap ∧ va_K (dC, dI) classes [(cI, .int), (cJ, .long), (cB, .byte)] U ∧ va_D (fun _ => True) [(h0, .inr (12, mo v_r v_i v_j))])) (va_Qr (fun (_ : Unit) => True) (fun (_ : Unit) (a9 : Nat) t => a9 = v_r 37 ∧ va_P (dC, dI) classes [(h0, .inr (12, mo v_r v_i v_j))] t.heap ∧ va_K (dC, dI) classes [(cI, .int), (cJ, .long), (cB, .byte)] t ∧ va_D (va_A [(h0, .inr (12, mo v_r v_i v_j))] sz) [(h0, .inr (12, mo v_r v_i v_j))]) (va_A [(h0, .inr (12, mo v_r v_i v_j))] sz)) 0 0 (va_A [(h0, .inr (12, mo v_r v_i v_j))] sz) := by
  refine Met.ofW (cc := b_Model_turtleRow) (maxL := 2) (ret := (some (.array .int))) (by decide) rfl ?_
  intro p e s m args below meth c s₁ B hml hv
  obtain ⟨rfl, hsz, hP, hK, hD0⟩ := hv
  have hx := B.exec
  have hb := B.bytes
  have hr := B.returns
  have hts := atoms_spec (ws := w_Model_turtleRow) B.pre
  have htt : ∀ w ∈ tw_T, w.before _ s = true := fun w h => hts w (List.mem_cons_of_mem _ h)
  have hown : s.vm.findClass R_Model = some m.cls := findClass_of_methodNamed B.named
  have hlocks := B.notSynchronized
  subst hsz
  have hD := hD0.self (sz := s.heap.size)
  generalize hAe : va_A [(h0, .inr (12, mo v_r v_i v_j))] s.heap.size = A at hD ⊢
  have hA : ∀ q : Nat, s.heap.size ≤ q → A q := fun q h => by rw [← hAe]; exact Or.inr h
  have hS : va_S A s.heap s.heap [] := va_S.rf
  have hP : va_P (dC, dI) classes [(h0, .inr (12, mo v_r v_i v_j))] s.heap := hP
  have hl := lv_entry ([.ref h0, .int 0]) (n := 2) (Nat.le_of_ble_eq_true rfl)
  rw [lg_entry_eq]
  generalize (lg_sl ([.ref h0, .int 0]) ++ List.replicate (2 - (lg_sl ([.ref h0, .int 0])).length) Slot.unset).toArray = ls at hl ⊢
  have hl : lv_has ls 2 [(0, .ref h0), (1, .int 0)] := hl
  refine lv_iload_n hx hb d_Model_turtleRow_0 rfl (lv_at hl 1 rfl) ?_
  refine lv_if_ne (tgt := 11) hx hb d_Model_turtleRow_1 (by decide) (fun c_1 => ?_) (fun c_1 => ?_)
  · exact absurd c_1 (by decide)
  · refine lv_aload_n hx hb d_Model_turtleRow_4 rfl (lv_at hl 0 rfl) ?_
    refine va_get (D := (dC, dI)) (ci := 12) (v := .ref (v_r 37)) (C := R_Model) (T := F_Model) (N := 127) hx hb htt iw_Model hown hK hP 0 rfl rfl 37 (by decide) (htt _ lk_Model_201) (fun _ h9 => h9) rfl d_Model_turtleRow_5 ?_
    refine lv_goto (tgt := 75) hx hb d_Model_turtleRow_8 (by decide) ?_
    have hP9 := hP.sub (ws' := [(h0, .inr (12, mo v_r v_i v_j))]) [0] rfl
    have hD9 := hD.sub (ws' := [(h0, .inr (12, mo v_r v_i v_j))]) [0] (by decide) rfl
    exact W.aret (v := .ref (v_r 37)) hx hb hr (Or.inr ⟨_, rfl⟩) (Or.inr ⟨_, rfl⟩) (fun t9 ht hW => ⟨⟨(), (v_r 37), rfl, trivial, rfl, by rw [ht]; exact hP9, va_K.moved hW.alike hK, hD9⟩, hS.F ht⟩) hS.2.2 d_Model_turtleRow_75

set_option maxHeartbeats 4000000 in
set_option maxRecDepth 100000 in
/-- the row of a part -/
theorem c_Model_turtleRow_1 (l : Launch) (dC : Nat → ClassId) (dI : Nat → Nat → Nat) (sz : Nat) (h0 : Nat) (v_r : Nat → Nat) (v_i : Nat → Int32) (v_j : Nat → Int64) (cI : ClassId) (cJ : ClassId) (cB : ClassId)  : Met l y_Model_turtleRow w_Model_turtleRow ({ frames := 0, cells := 0, slots := 0, locals := 0 }) (va_Pc [.ref h0, .int 1] (fun U => U.heap.size = sz ∧ va_P (dC, dI) classes [(h0, .inr (12, mo v_r v_i v_j))] U.heap ∧ va_K (dC, dI) classes [(cI, .int), (cJ, .long), (cB, .byte)] U ∧ va_D (fun _ => True) [(h0, .inr (12, mo v_r v_i v_j))])) (va_Qr (fun (_ : Unit) => True) (fun (_ : Unit) (a9 : Nat) t => a9 = v_r 38 ∧ va_P (dC, dI) classes [(h0, .inr (12, mo v_r v_i v_j))] t.heap ∧ va_K (dC, dI) classes [(cI, .int), (cJ, .long), (cB, .byte)] t ∧ va_D (va_A [(h0, .inr (12, mo v_r v_i v_j))] sz) [(h0, .inr (12, mo v_r v_i v_j))]) (va_A [(h0, .inr (12, mo v_r v_i v_j))] sz)) 0 0 (va_A [(h0, .inr (12, mo v_r v_i v_j))] sz) := by
  refine Met.ofW (cc := b_Model_turtleRow) (maxL := 2) (ret := (some (.array .int))) (by decide) rfl ?_
  intro p e s m args below meth c s₁ B hml hv
  obtain ⟨rfl, hsz, hP, hK, hD0⟩ := hv
  have hx := B.exec
  have hb := B.bytes
  have hr := B.returns
  have hts := atoms_spec (ws := w_Model_turtleRow) B.pre
  have htt : ∀ w ∈ tw_T, w.before _ s = true := fun w h => hts w (List.mem_cons_of_mem _ h)
  have hown : s.vm.findClass R_Model = some m.cls := findClass_of_methodNamed B.named
  have hlocks := B.notSynchronized
  subst hsz
  have hD := hD0.self (sz := s.heap.size)
  generalize hAe : va_A [(h0, .inr (12, mo v_r v_i v_j))] s.heap.size = A at hD ⊢
  have hA : ∀ q : Nat, s.heap.size ≤ q → A q := fun q h => by rw [← hAe]; exact Or.inr h
  have hS : va_S A s.heap s.heap [] := va_S.rf
  have hP : va_P (dC, dI) classes [(h0, .inr (12, mo v_r v_i v_j))] s.heap := hP
  have hl := lv_entry ([.ref h0, .int 1]) (n := 2) (Nat.le_of_ble_eq_true rfl)
  rw [lg_entry_eq]
  generalize (lg_sl ([.ref h0, .int 1]) ++ List.replicate (2 - (lg_sl ([.ref h0, .int 1])).length) Slot.unset).toArray = ls at hl ⊢
  have hl : lv_has ls 2 [(0, .ref h0), (1, .int 1)] := hl
  refine lv_iload_n hx hb d_Model_turtleRow_0 rfl (lv_at hl 1 rfl) ?_
  refine lv_if_ne (tgt := 11) hx hb d_Model_turtleRow_1 (by decide) (fun c_1 => ?_) (fun c_1 => ?_)
  · refine lv_iload_n hx hb d_Model_turtleRow_11 rfl (lv_at hl 1 rfl) ?_
    refine lv_iconst (v := 1) hx hb d_Model_turtleRow_12 (by decide) ?_
    refine lv_icmp_ne (tgt := 23) hx hb d_Model_turtleRow_13 (by decide) (fun c_2 => ?_) (fun c_2 => ?_)
    · exact absurd c_2 (by decide)
    · refine lv_aload_n hx hb d_Model_turtleRow_16 rfl (lv_at hl 0 rfl) ?_
      refine va_get (D := (dC, dI)) (ci := 12) (v := .ref (v_r 38)) (C := R_Model) (T := F_Model) (N := 127) hx hb htt iw_Model hown hK hP 0 rfl rfl 38 (by decide) (htt _ lk_Model_204) (fun _ h9 => h9) rfl d_Model_turtleRow_17 ?_
      refine lv_goto (tgt := 75) hx hb d_Model_turtleRow_20 (by decide) ?_
      have hP9 := hP.sub (ws' := [(h0, .inr (12, mo v_r v_i v_j))]) [0] rfl
      have hD9 := hD.sub (ws' := [(h0, .inr (12, mo v_r v_i v_j))]) [0] (by decide) rfl
      exact W.aret (v := .ref (v_r 38)) hx hb hr (Or.inr ⟨_, rfl⟩) (Or.inr ⟨_, rfl⟩) (fun t9 ht hW => ⟨⟨(), (v_r 38), rfl, trivial, rfl, by rw [ht]; exact hP9, va_K.moved hW.alike hK, hD9⟩, hS.F ht⟩) hS.2.2 d_Model_turtleRow_75
  · exact absurd c_1 (by decide)

set_option maxHeartbeats 4000000 in
set_option maxRecDepth 100000 in
/-- the row of a part -/
theorem c_Model_turtleRow_2 (l : Launch) (dC : Nat → ClassId) (dI : Nat → Nat → Nat) (sz : Nat) (h0 : Nat) (v_r : Nat → Nat) (v_i : Nat → Int32) (v_j : Nat → Int64) (cI : ClassId) (cJ : ClassId) (cB : ClassId)  : Met l y_Model_turtleRow w_Model_turtleRow ({ frames := 0, cells := 0, slots := 0, locals := 0 }) (va_Pc [.ref h0, .int 2] (fun U => U.heap.size = sz ∧ va_P (dC, dI) classes [(h0, .inr (12, mo v_r v_i v_j))] U.heap ∧ va_K (dC, dI) classes [(cI, .int), (cJ, .long), (cB, .byte)] U ∧ va_D (fun _ => True) [(h0, .inr (12, mo v_r v_i v_j))])) (va_Qr (fun (_ : Unit) => True) (fun (_ : Unit) (a9 : Nat) t => a9 = v_r 39 ∧ va_P (dC, dI) classes [(h0, .inr (12, mo v_r v_i v_j))] t.heap ∧ va_K (dC, dI) classes [(cI, .int), (cJ, .long), (cB, .byte)] t ∧ va_D (va_A [(h0, .inr (12, mo v_r v_i v_j))] sz) [(h0, .inr (12, mo v_r v_i v_j))]) (va_A [(h0, .inr (12, mo v_r v_i v_j))] sz)) 0 0 (va_A [(h0, .inr (12, mo v_r v_i v_j))] sz) := by
  refine Met.ofW (cc := b_Model_turtleRow) (maxL := 2) (ret := (some (.array .int))) (by decide) rfl ?_
  intro p e s m args below meth c s₁ B hml hv
  obtain ⟨rfl, hsz, hP, hK, hD0⟩ := hv
  have hx := B.exec
  have hb := B.bytes
  have hr := B.returns
  have hts := atoms_spec (ws := w_Model_turtleRow) B.pre
  have htt : ∀ w ∈ tw_T, w.before _ s = true := fun w h => hts w (List.mem_cons_of_mem _ h)
  have hown : s.vm.findClass R_Model = some m.cls := findClass_of_methodNamed B.named
  have hlocks := B.notSynchronized
  subst hsz
  have hD := hD0.self (sz := s.heap.size)
  generalize hAe : va_A [(h0, .inr (12, mo v_r v_i v_j))] s.heap.size = A at hD ⊢
  have hA : ∀ q : Nat, s.heap.size ≤ q → A q := fun q h => by rw [← hAe]; exact Or.inr h
  have hS : va_S A s.heap s.heap [] := va_S.rf
  have hP : va_P (dC, dI) classes [(h0, .inr (12, mo v_r v_i v_j))] s.heap := hP
  have hl := lv_entry ([.ref h0, .int 2]) (n := 2) (Nat.le_of_ble_eq_true rfl)
  rw [lg_entry_eq]
  generalize (lg_sl ([.ref h0, .int 2]) ++ List.replicate (2 - (lg_sl ([.ref h0, .int 2])).length) Slot.unset).toArray = ls at hl ⊢
  have hl : lv_has ls 2 [(0, .ref h0), (1, .int 2)] := hl
  refine lv_iload_n hx hb d_Model_turtleRow_0 rfl (lv_at hl 1 rfl) ?_
  refine lv_if_ne (tgt := 11) hx hb d_Model_turtleRow_1 (by decide) (fun c_1 => ?_) (fun c_1 => ?_)
  · refine lv_iload_n hx hb d_Model_turtleRow_11 rfl (lv_at hl 1 rfl) ?_
    refine lv_iconst (v := 1) hx hb d_Model_turtleRow_12 (by decide) ?_
    refine lv_icmp_ne (tgt := 23) hx hb d_Model_turtleRow_13 (by decide) (fun c_2 => ?_) (fun c_2 => ?_)
    · refine lv_iload_n hx hb d_Model_turtleRow_23 rfl (lv_at hl 1 rfl) ?_
      refine lv_iconst (v := 2) hx hb d_Model_turtleRow_24 (by decide) ?_
      refine lv_icmp_ne (tgt := 35) hx hb d_Model_turtleRow_25 (by decide) (fun c_3 => ?_) (fun c_3 => ?_)
      · exact absurd c_3 (by decide)
      · refine lv_aload_n hx hb d_Model_turtleRow_28 rfl (lv_at hl 0 rfl) ?_
        refine va_get (D := (dC, dI)) (ci := 12) (v := .ref (v_r 39)) (C := R_Model) (T := F_Model) (N := 127) hx hb htt iw_Model hown hK hP 0 rfl rfl 39 (by decide) (htt _ lk_Model_207) (fun _ h9 => h9) rfl d_Model_turtleRow_29 ?_
        refine lv_goto (tgt := 75) hx hb d_Model_turtleRow_32 (by decide) ?_
        have hP9 := hP.sub (ws' := [(h0, .inr (12, mo v_r v_i v_j))]) [0] rfl
        have hD9 := hD.sub (ws' := [(h0, .inr (12, mo v_r v_i v_j))]) [0] (by decide) rfl
        exact W.aret (v := .ref (v_r 39)) hx hb hr (Or.inr ⟨_, rfl⟩) (Or.inr ⟨_, rfl⟩) (fun t9 ht hW => ⟨⟨(), (v_r 39), rfl, trivial, rfl, by rw [ht]; exact hP9, va_K.moved hW.alike hK, hD9⟩, hS.F ht⟩) hS.2.2 d_Model_turtleRow_75
    · exact absurd c_2 (by decide)
  · exact absurd c_1 (by decide)

set_option maxHeartbeats 4000000 in
set_option maxRecDepth 100000 in
/-- the row of a part -/
theorem c_Model_turtleRow_3 (l : Launch) (dC : Nat → ClassId) (dI : Nat → Nat → Nat) (sz : Nat) (h0 : Nat) (v_r : Nat → Nat) (v_i : Nat → Int32) (v_j : Nat → Int64) (cI : ClassId) (cJ : ClassId) (cB : ClassId)  : Met l y_Model_turtleRow w_Model_turtleRow ({ frames := 0, cells := 0, slots := 0, locals := 0 }) (va_Pc [.ref h0, .int 3] (fun U => U.heap.size = sz ∧ va_P (dC, dI) classes [(h0, .inr (12, mo v_r v_i v_j))] U.heap ∧ va_K (dC, dI) classes [(cI, .int), (cJ, .long), (cB, .byte)] U ∧ va_D (fun _ => True) [(h0, .inr (12, mo v_r v_i v_j))])) (va_Qr (fun (_ : Unit) => True) (fun (_ : Unit) (a9 : Nat) t => a9 = v_r 40 ∧ va_P (dC, dI) classes [(h0, .inr (12, mo v_r v_i v_j))] t.heap ∧ va_K (dC, dI) classes [(cI, .int), (cJ, .long), (cB, .byte)] t ∧ va_D (va_A [(h0, .inr (12, mo v_r v_i v_j))] sz) [(h0, .inr (12, mo v_r v_i v_j))]) (va_A [(h0, .inr (12, mo v_r v_i v_j))] sz)) 0 0 (va_A [(h0, .inr (12, mo v_r v_i v_j))] sz) := by
  refine Met.ofW (cc := b_Model_turtleRow) (maxL := 2) (ret := (some (.array .int))) (by decide) rfl ?_
  intro p e s m args below meth c s₁ B hml hv
  obtain ⟨rfl, hsz, hP, hK, hD0⟩ := hv
  have hx := B.exec
  have hb := B.bytes
  have hr := B.returns
  have hts := atoms_spec (ws := w_Model_turtleRow) B.pre
  have htt : ∀ w ∈ tw_T, w.before _ s = true := fun w h => hts w (List.mem_cons_of_mem _ h)
  have hown : s.vm.findClass R_Model = some m.cls := findClass_of_methodNamed B.named
  have hlocks := B.notSynchronized
  subst hsz
  have hD := hD0.self (sz := s.heap.size)
  generalize hAe : va_A [(h0, .inr (12, mo v_r v_i v_j))] s.heap.size = A at hD ⊢
  have hA : ∀ q : Nat, s.heap.size ≤ q → A q := fun q h => by rw [← hAe]; exact Or.inr h
  have hS : va_S A s.heap s.heap [] := va_S.rf
  have hP : va_P (dC, dI) classes [(h0, .inr (12, mo v_r v_i v_j))] s.heap := hP
  have hl := lv_entry ([.ref h0, .int 3]) (n := 2) (Nat.le_of_ble_eq_true rfl)
  rw [lg_entry_eq]
  generalize (lg_sl ([.ref h0, .int 3]) ++ List.replicate (2 - (lg_sl ([.ref h0, .int 3])).length) Slot.unset).toArray = ls at hl ⊢
  have hl : lv_has ls 2 [(0, .ref h0), (1, .int 3)] := hl
  refine lv_iload_n hx hb d_Model_turtleRow_0 rfl (lv_at hl 1 rfl) ?_
  refine lv_if_ne (tgt := 11) hx hb d_Model_turtleRow_1 (by decide) (fun c_1 => ?_) (fun c_1 => ?_)
  · refine lv_iload_n hx hb d_Model_turtleRow_11 rfl (lv_at hl 1 rfl) ?_
    refine lv_iconst (v := 1) hx hb d_Model_turtleRow_12 (by decide) ?_
    refine lv_icmp_ne (tgt := 23) hx hb d_Model_turtleRow_13 (by decide) (fun c_2 => ?_) (fun c_2 => ?_)
    · refine lv_iload_n hx hb d_Model_turtleRow_23 rfl (lv_at hl 1 rfl) ?_
      refine lv_iconst (v := 2) hx hb d_Model_turtleRow_24 (by decide) ?_
      refine lv_icmp_ne (tgt := 35) hx hb d_Model_turtleRow_25 (by decide) (fun c_3 => ?_) (fun c_3 => ?_)
      · refine lv_iload_n hx hb d_Model_turtleRow_35 rfl (lv_at hl 1 rfl) ?_
        refine lv_iconst (v := 3) hx hb d_Model_turtleRow_36 (by decide) ?_
        refine lv_icmp_ne (tgt := 47) hx hb d_Model_turtleRow_37 (by decide) (fun c_4 => ?_) (fun c_4 => ?_)
        · exact absurd c_4 (by decide)
        · refine lv_aload_n hx hb d_Model_turtleRow_40 rfl (lv_at hl 0 rfl) ?_
          refine va_get (D := (dC, dI)) (ci := 12) (v := .ref (v_r 40)) (C := R_Model) (T := F_Model) (N := 127) hx hb htt iw_Model hown hK hP 0 rfl rfl 40 (by decide) (htt _ lk_Model_210) (fun _ h9 => h9) rfl d_Model_turtleRow_41 ?_
          refine lv_goto (tgt := 75) hx hb d_Model_turtleRow_44 (by decide) ?_
          have hP9 := hP.sub (ws' := [(h0, .inr (12, mo v_r v_i v_j))]) [0] rfl
          have hD9 := hD.sub (ws' := [(h0, .inr (12, mo v_r v_i v_j))]) [0] (by decide) rfl
          exact W.aret (v := .ref (v_r 40)) hx hb hr (Or.inr ⟨_, rfl⟩) (Or.inr ⟨_, rfl⟩) (fun t9 ht hW => ⟨⟨(), (v_r 40), rfl, trivial, rfl, by rw [ht]; exact hP9, va_K.moved hW.alike hK, hD9⟩, hS.F ht⟩) hS.2.2 d_Model_turtleRow_75
      · exact absurd c_3 (by decide)
    · exact absurd c_2 (by decide)
  · exact absurd c_1 (by decide)

set_option maxHeartbeats 4000000 in
set_option maxRecDepth 100000 in
/-- the row of a part -/
theorem c_Model_turtleRow_4 (l : Launch) (dC : Nat → ClassId) (dI : Nat → Nat → Nat) (sz : Nat) (h0 : Nat) (v_r : Nat → Nat) (v_i : Nat → Int32) (v_j : Nat → Int64) (cI : ClassId) (cJ : ClassId) (cB : ClassId)  : Met l y_Model_turtleRow w_Model_turtleRow ({ frames := 0, cells := 0, slots := 0, locals := 0 }) (va_Pc [.ref h0, .int 4] (fun U => U.heap.size = sz ∧ va_P (dC, dI) classes [(h0, .inr (12, mo v_r v_i v_j))] U.heap ∧ va_K (dC, dI) classes [(cI, .int), (cJ, .long), (cB, .byte)] U ∧ va_D (fun _ => True) [(h0, .inr (12, mo v_r v_i v_j))])) (va_Qr (fun (_ : Unit) => True) (fun (_ : Unit) (a9 : Nat) t => a9 = v_r 41 ∧ va_P (dC, dI) classes [(h0, .inr (12, mo v_r v_i v_j))] t.heap ∧ va_K (dC, dI) classes [(cI, .int), (cJ, .long), (cB, .byte)] t ∧ va_D (va_A [(h0, .inr (12, mo v_r v_i v_j))] sz) [(h0, .inr (12, mo v_r v_i v_j))]) (va_A [(h0, .inr (12, mo v_r v_i v_j))] sz)) 0 0 (va_A [(h0, .inr (12, mo v_r v_i v_j))] sz) := by
  refine Met.ofW (cc := b_Model_turtleRow) (maxL := 2) (ret := (some (.array .int))) (by decide) rfl ?_
  intro p e s m args below meth c s₁ B hml hv
  obtain ⟨rfl, hsz, hP, hK, hD0⟩ := hv
  have hx := B.exec
  have hb := B.bytes
  have hr := B.returns
  have hts := atoms_spec (ws := w_Model_turtleRow) B.pre
  have htt : ∀ w ∈ tw_T, w.before _ s = true := fun w h => hts w (List.mem_cons_of_mem _ h)
  have hown : s.vm.findClass R_Model = some m.cls := findClass_of_methodNamed B.named
  have hlocks := B.notSynchronized
  subst hsz
  have hD := hD0.self (sz := s.heap.size)
  generalize hAe : va_A [(h0, .inr (12, mo v_r v_i v_j))] s.heap.size = A at hD ⊢
  have hA : ∀ q : Nat, s.heap.size ≤ q → A q := fun q h => by rw [← hAe]; exact Or.inr h
  have hS : va_S A s.heap s.heap [] := va_S.rf
  have hP : va_P (dC, dI) classes [(h0, .inr (12, mo v_r v_i v_j))] s.heap := hP
  have hl := lv_entry ([.ref h0, .int 4]) (n := 2) (Nat.le_of_ble_eq_true rfl)
  rw [lg_entry_eq]
  generalize (lg_sl ([.ref h0, .int 4]) ++ List.replicate (2 - (lg_sl ([.ref h0, .int 4])).length) Slot.unset).toArray = ls at hl ⊢
  have hl : lv_has ls 2 [(0, .ref h0), (1, .int 4)] := hl
  refine lv_iload_n hx hb d_Model_turtleRow_0 rfl (lv_at hl 1 rfl) ?_
  refine lv_if_ne (tgt := 11) hx hb d_Model_turtleRow_1 (by decide) (fun c_1 => ?_) (fun c_1 => ?_)
  · refine lv_iload_n hx hb d_Model_turtleRow_11 rfl (lv_at hl 1 rfl) ?_
    refine lv_iconst (v := 1) hx hb d_Model_turtleRow_12 (by decide) ?_
    refine lv_icmp_ne (tgt := 23) hx hb d_Model_turtleRow_13 (by decide) (fun c_2 => ?_) (fun c_2 => ?_)
    · refine lv_iload_n hx hb d_Model_turtleRow_23 rfl (lv_at hl 1 rfl) ?_
      refine lv_iconst (v := 2) hx hb d_Model_turtleRow_24 (by decide) ?_
      refine lv_icmp_ne (tgt := 35) hx hb d_Model_turtleRow_25 (by decide) (fun c_3 => ?_) (fun c_3 => ?_)
      · refine lv_iload_n hx hb d_Model_turtleRow_35 rfl (lv_at hl 1 rfl) ?_
        refine lv_iconst (v := 3) hx hb d_Model_turtleRow_36 (by decide) ?_
        refine lv_icmp_ne (tgt := 47) hx hb d_Model_turtleRow_37 (by decide) (fun c_4 => ?_) (fun c_4 => ?_)
        · refine lv_iload_n hx hb d_Model_turtleRow_47 rfl (lv_at hl 1 rfl) ?_
          refine lv_iconst (v := 4) hx hb d_Model_turtleRow_48 (by decide) ?_
          refine lv_icmp_ne (tgt := 59) hx hb d_Model_turtleRow_49 (by decide) (fun c_5 => ?_) (fun c_5 => ?_)
          · exact absurd c_5 (by decide)
          · refine lv_aload_n hx hb d_Model_turtleRow_52 rfl (lv_at hl 0 rfl) ?_
            refine va_get (D := (dC, dI)) (ci := 12) (v := .ref (v_r 41)) (C := R_Model) (T := F_Model) (N := 127) hx hb htt iw_Model hown hK hP 0 rfl rfl 41 (by decide) (htt _ lk_Model_213) (fun _ h9 => h9) rfl d_Model_turtleRow_53 ?_
            refine lv_goto (tgt := 75) hx hb d_Model_turtleRow_56 (by decide) ?_
            have hP9 := hP.sub (ws' := [(h0, .inr (12, mo v_r v_i v_j))]) [0] rfl
            have hD9 := hD.sub (ws' := [(h0, .inr (12, mo v_r v_i v_j))]) [0] (by decide) rfl
            exact W.aret (v := .ref (v_r 41)) hx hb hr (Or.inr ⟨_, rfl⟩) (Or.inr ⟨_, rfl⟩) (fun t9 ht hW => ⟨⟨(), (v_r 41), rfl, trivial, rfl, by rw [ht]; exact hP9, va_K.moved hW.alike hK, hD9⟩, hS.F ht⟩) hS.2.2 d_Model_turtleRow_75
        · exact absurd c_4 (by decide)
      · exact absurd c_3 (by decide)
    · exact absurd c_2 (by decide)
  · exact absurd c_1 (by decide)

set_option maxHeartbeats 4000000 in
set_option maxRecDepth 100000 in
/-- the row of a part -/
theorem c_Model_turtleRow_5 (l : Launch) (dC : Nat → ClassId) (dI : Nat → Nat → Nat) (sz : Nat) (h0 : Nat) (v_r : Nat → Nat) (v_i : Nat → Int32) (v_j : Nat → Int64) (cI : ClassId) (cJ : ClassId) (cB : ClassId)  : Met l y_Model_turtleRow w_Model_turtleRow ({ frames := 0, cells := 0, slots := 0, locals := 0 }) (va_Pc [.ref h0, .int 5] (fun U => U.heap.size = sz ∧ va_P (dC, dI) classes [(h0, .inr (12, mo v_r v_i v_j))] U.heap ∧ va_K (dC, dI) classes [(cI, .int), (cJ, .long), (cB, .byte)] U ∧ va_D (fun _ => True) [(h0, .inr (12, mo v_r v_i v_j))])) (va_Qr (fun (_ : Unit) => True) (fun (_ : Unit) (a9 : Nat) t => a9 = v_r 42 ∧ va_P (dC, dI) classes [(h0, .inr (12, mo v_r v_i v_j))] t.heap ∧ va_K (dC, dI) classes [(cI, .int), (cJ, .long), (cB, .byte)] t ∧ va_D (va_A [(h0, .inr (12, mo v_r v_i v_j))] sz) [(h0, .inr (12, mo v_r v_i v_j))]) (va_A [(h0, .inr (12, mo v_r v_i v_j))] sz)) 0 0 (va_A [(h0, .inr (12, mo v_r v_i v_j))] sz) := by
  refine Met.ofW (cc := b_Model_turtleRow) (maxL := 2) (ret := (some (.array .int))) (by decide) rfl ?_
  intro p e s m args below meth c s₁ B hml hv
  obtain ⟨rfl, hsz, hP, hK, hD0⟩ := hv
  have hx := B.exec
  have hb := B.bytes
  have hr := B.returns
  have hts := atoms_spec (ws := w_Model_turtleRow) B.pre
  have htt : ∀ w ∈ tw_T, w.before _ s = true := fun w h => hts w (List.mem_cons_of_mem _ h)
  have hown : s.vm.findClass R_Model = some m.cls := findClass_of_methodNamed B.named
  have hlocks := B.notSynchronized
  subst hsz
  have hD := hD0.self (sz := s.heap.size)
  generalize hAe : va_A [(h0, .inr (12, mo v_r v_i v_j))] s.heap.size = A at hD ⊢
  have hA : ∀ q : Nat, s.heap.size ≤ q → A q := fun q h => by rw [← hAe]; exact Or.inr h
  have hS : va_S A s.heap s.heap [] := va_S.rf
  have hP : va_P (dC, dI) classes [(h0, .inr (12, mo v_r v_i v_j))] s.heap := hP
  have hl := lv_entry ([.ref h0, .int 5]) (n := 2) (Nat.le_of_ble_eq_true rfl)
  rw [lg_entry_eq]
  generalize (lg_sl ([.ref h0, .int 5]) ++ List.replicate (2 - (lg_sl ([.ref h0, .int 5])).length) Slot.unset).toArray = ls at hl ⊢
  have hl : lv_has ls 2 [(0, .ref h0), (1, .int 5)] := hl
  refine lv_iload_n hx hb d_Model_turtleRow_0 rfl (lv_at hl 1 rfl) ?_
  refine lv_if_ne (tgt := 11) hx hb d_Model_turtleRow_1 (by decide) (fun c_1 => ?_) (fun c_1 => ?_)
  · refine lv_iload_n hx hb d_Model_turtleRow_11 rfl (lv_at hl 1 rfl) ?_
    refine lv_iconst (v := 1) hx hb d_Model_turtleRow_12 (by decide) ?_
    refine lv_icmp_ne (tgt := 23) hx hb d_Model_turtleRow_13 (by decide) (fun c_2 => ?_) (fun c_2 => ?_)
    · refine lv_iload_n hx hb d_Model_turtleRow_23 rfl (lv_at hl 1 rfl) ?_
      refine lv_iconst (v := 2) hx hb d_Model_turtleRow_24 (by decide) ?_
      refine lv_icmp_ne (tgt := 35) hx hb d_Model_turtleRow_25 (by decide) (fun c_3 => ?_) (fun c_3 => ?_)
      · refine lv_iload_n hx hb d_Model_turtleRow_35 rfl (lv_at hl 1 rfl) ?_
        refine lv_iconst (v := 3) hx hb d_Model_turtleRow_36 (by decide) ?_
        refine lv_icmp_ne (tgt := 47) hx hb d_Model_turtleRow_37 (by decide) (fun c_4 => ?_) (fun c_4 => ?_)
        · refine lv_iload_n hx hb d_Model_turtleRow_47 rfl (lv_at hl 1 rfl) ?_
          refine lv_iconst (v := 4) hx hb d_Model_turtleRow_48 (by decide) ?_
          refine lv_icmp_ne (tgt := 59) hx hb d_Model_turtleRow_49 (by decide) (fun c_5 => ?_) (fun c_5 => ?_)
          · refine lv_iload_n hx hb d_Model_turtleRow_59 rfl (lv_at hl 1 rfl) ?_
            refine lv_iconst (v := 5) hx hb d_Model_turtleRow_60 (by decide) ?_
            refine lv_icmp_ne (tgt := 71) hx hb d_Model_turtleRow_61 (by decide) (fun c_6 => ?_) (fun c_6 => ?_)
            · exact absurd c_6 (by decide)
            · refine lv_aload_n hx hb d_Model_turtleRow_64 rfl (lv_at hl 0 rfl) ?_
              refine va_get (D := (dC, dI)) (ci := 12) (v := .ref (v_r 42)) (C := R_Model) (T := F_Model) (N := 127) hx hb htt iw_Model hown hK hP 0 rfl rfl 42 (by decide) (htt _ lk_Model_216) (fun _ h9 => h9) rfl d_Model_turtleRow_65 ?_
              refine lv_goto (tgt := 75) hx hb d_Model_turtleRow_68 (by decide) ?_
              have hP9 := hP.sub (ws' := [(h0, .inr (12, mo v_r v_i v_j))]) [0] rfl
              have hD9 := hD.sub (ws' := [(h0, .inr (12, mo v_r v_i v_j))]) [0] (by decide) rfl
              exact W.aret (v := .ref (v_r 42)) hx hb hr (Or.inr ⟨_, rfl⟩) (Or.inr ⟨_, rfl⟩) (fun t9 ht hW => ⟨⟨(), (v_r 42), rfl, trivial, rfl, by rw [ht]; exact hP9, va_K.moved hW.alike hK, hD9⟩, hS.F ht⟩) hS.2.2 d_Model_turtleRow_75
          · exact absurd c_5 (by decide)
        · exact absurd c_4 (by decide)
      · exact absurd c_3 (by decide)
    · exact absurd c_2 (by decide)
  · exact absurd c_1 (by decide)

set_option maxHeartbeats 4000000 in
set_option maxRecDepth 100000 in
/-- the row of a part -/
theorem c_Model_turtleRow_6 (l : Launch) (dC : Nat → ClassId) (dI : Nat → Nat → Nat) (sz : Nat) (h0 : Nat) (v_r : Nat → Nat) (v_i : Nat → Int32) (v_j : Nat → Int64) (cI : ClassId) (cJ : ClassId) (cB : ClassId)  : Met l y_Model_turtleRow w_Model_turtleRow ({ frames := 0, cells := 0, slots := 0, locals := 0 }) (va_Pc [.ref h0, .int 6] (fun U => U.heap.size = sz ∧ va_P (dC, dI) classes [(h0, .inr (12, mo v_r v_i v_j))] U.heap ∧ va_K (dC, dI) classes [(cI, .int), (cJ, .long), (cB, .byte)] U ∧ va_D (fun _ => True) [(h0, .inr (12, mo v_r v_i v_j))])) (va_Qr (fun (_ : Unit) => True) (fun (_ : Unit) (a9 : Nat) t => a9 = v_r 43 ∧ va_P (dC, dI) classes [(h0, .inr (12, mo v_r v_i v_j))] t.heap ∧ va_K (dC, dI) classes [(cI, .int), (cJ, .long), (cB, .byte)] t ∧ va_D (va_A [(h0, .inr (12, mo v_r v_i v_j))] sz) [(h0, .inr (12, mo v_r v_i v_j))]) (va_A [(h0, .inr (12, mo v_r v_i v_j))] sz)) 0 0 (va_A [(h0, .inr (12, mo v_r v_i v_j))] sz) := by
  refine Met.ofW (cc := b_Model_turtleRow) (maxL := 2) (ret := (some (.array .int))) (by decide) rfl ?_
  intro p e s m args below meth c s₁ B hml hv
  obtain ⟨rfl, hsz, hP, hK, hD0⟩ := hv
  have hx := B.exec
  have hb := B.bytes
  have hr := B.returns
  have hts := atoms_spec (ws := w_Model_turtleRow) B.pre
  have htt : ∀ w ∈ tw_T, w.before _ s = true := fun w h => hts w (List.mem_cons_of_mem _ h)
  have hown : s.vm.findClass R_Model = some m.cls := findClass_of_methodNamed B.named
  have hlocks := B.notSynchronized
  subst hsz
  have hD := hD0.self (sz := s.heap.size)
  generalize hAe : va_A [(h0, .inr (12, mo v_r v_i v_j))] s.heap.size = A at hD ⊢
  have hA : ∀ q : Nat, s.heap.size ≤ q → A q := fun q h => by rw [← hAe]; exact Or.inr h
  have hS : va_S A s.heap s.heap [] := va_S.rf
  have hP : va_P (dC, dI) classes [(h0, .inr (12, mo v_r v_i v_j))] s.heap := hP
  have hl := lv_entry ([.ref h0, .int 6]) (n := 2) (Nat.le_of_ble_eq_true rfl)
  rw [lg_entry_eq]
  generalize (lg_sl ([.ref h0, .int 6]) ++ List.replicate (2 - (lg_sl ([.ref h0, .int 6])).length) Slot.unset).toArray = ls at hl ⊢
  have hl : lv_has ls 2 [(0, .ref h0), (1, .int 6)] := hl
  refine lv_iload_n hx hb d_Model_turtleRow_0 rfl (lv_at hl 1 rfl) ?_
  refine lv_if_ne (tgt := 11) hx hb d_Model_turtleRow_1 (by decide) (fun c_1 => ?_) (fun c_1 => ?_)
  · refine lv_iload_n hx hb d_Model_turtleRow_11 rfl (lv_at hl 1 rfl) ?_
    refine lv_iconst (v := 1) hx hb d_Model_turtleRow_12 (by decide) ?_
    refine lv_icmp_ne (tgt := 23) hx hb d_Model_turtleRow_13 (by decide) (fun c_2 => ?_) (fun c_2 => ?_)
    · refine lv_iload_n hx hb d_Model_turtleRow_23 rfl (lv_at hl 1 rfl) ?_
      refine lv_iconst (v := 2) hx hb d_Model_turtleRow_24 (by decide) ?_
      refine lv_icmp_ne (tgt := 35) hx hb d_Model_turtleRow_25 (by decide) (fun c_3 => ?_) (fun c_3 => ?_)
      · refine lv_iload_n hx hb d_Model_turtleRow_35 rfl (lv_at hl 1 rfl) ?_
        refine lv_iconst (v := 3) hx hb d_Model_turtleRow_36 (by decide) ?_
        refine lv_icmp_ne (tgt := 47) hx hb d_Model_turtleRow_37 (by decide) (fun c_4 => ?_) (fun c_4 => ?_)
        · refine lv_iload_n hx hb d_Model_turtleRow_47 rfl (lv_at hl 1 rfl) ?_
          refine lv_iconst (v := 4) hx hb d_Model_turtleRow_48 (by decide) ?_
          refine lv_icmp_ne (tgt := 59) hx hb d_Model_turtleRow_49 (by decide) (fun c_5 => ?_) (fun c_5 => ?_)
          · refine lv_iload_n hx hb d_Model_turtleRow_59 rfl (lv_at hl 1 rfl) ?_
            refine lv_iconst (v := 5) hx hb d_Model_turtleRow_60 (by decide) ?_
            refine lv_icmp_ne (tgt := 71) hx hb d_Model_turtleRow_61 (by decide) (fun c_6 => ?_) (fun c_6 => ?_)
            · refine lv_aload_n hx hb d_Model_turtleRow_71 rfl (lv_at hl 0 rfl) ?_
              refine va_get (D := (dC, dI)) (ci := 12) (v := .ref (v_r 43)) (C := R_Model) (T := F_Model) (N := 127) hx hb htt iw_Model hown hK hP 0 rfl rfl 43 (by decide) (htt _ lk_Model_219) (fun _ h9 => h9) rfl d_Model_turtleRow_72 ?_
              have hP9 := hP.sub (ws' := [(h0, .inr (12, mo v_r v_i v_j))]) [0] rfl
              have hD9 := hD.sub (ws' := [(h0, .inr (12, mo v_r v_i v_j))]) [0] (by decide) rfl
              exact W.aret (v := .ref (v_r 43)) hx hb hr (Or.inr ⟨_, rfl⟩) (Or.inr ⟨_, rfl⟩) (fun t9 ht hW => ⟨⟨(), (v_r 43), rfl, trivial, rfl, by rw [ht]; exact hP9, va_K.moved hW.alike hK, hD9⟩, hS.F ht⟩) hS.2.2 d_Model_turtleRow_75
            · exact absurd c_6 (by decide)
          · exact absurd c_5 (by decide)
        · exact absurd c_4 (by decide)
      · exact absurd c_3 (by decide)
    · exact absurd c_2 (by decide)
  · exact absurd c_1 (by decide)
