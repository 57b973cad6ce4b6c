theorem d_Model_run_0 : decode b_Model_run 0 = .ok (.aload_n 0, 1) := by decide +kernel
theorem d_Model_run_1 : decode b_Model_run 1 = .ok (.iconst 0, 1) := by decide +kernel
theorem d_Model_run_2 : decode b_Model_run 2 = .ok (.putfield 1, 3) := by decide +kernel
theorem d_Model_run_5 : decode b_Model_run 5 = .ok (.aload_n 0, 1) := by decide +kernel
theorem d_Model_run_6 : decode b_Model_run 6 = .ok (.getfield 494, 3) := by decide +kernel
theorem d_Model_run_9 : decode b_Model_run 9 = .ok (.iconst 1, 1) := by decide +kernel
theorem d_Model_run_10 : decode b_Model_run 10 = .ok (.if_icmp .ne 8, 3) := by decide +kernel
theorem d_Model_run_13 : decode b_Model_run 13 = .ok (.iload_n 1, 1) := by decide +kernel
theorem d_Model_run_14 : decode b_Model_run 14 = .ok (.iconst 1, 1) := by decide +kernel
theorem d_Model_run_15 : decode b_Model_run 15 = .ok (.if_icmp .ge 5, 3) := by decide +kernel
theorem d_Model_run_18 : decode b_Model_run 18 = .ok (.iconst 0, 1) := by decide +kernel
theorem d_Model_run_19 : decode b_Model_run 19 = .ok (.ireturn, 1) := by decide +kernel
theorem d_Model_run_20 : decode b_Model_run 20 = .ok (.aload_n 0, 1) := by decide +kernel
theorem d_Model_run_21 : decode b_Model_run 21 = .ok (.getfield 523, 3) := by decide +kernel
theorem d_Model_run_24 : decode b_Model_run 24 = .ok (.istore_n 2, 1) := by decide +kernel
theorem d_Model_run_25 : decode b_Model_run 25 = .ok (.aload_n 0, 1) := by decide +kernel
theorem d_Model_run_26 : decode b_Model_run 26 = .ok (.invokevirtual 526, 3) := by decide +kernel
theorem d_Model_run_29 : decode b_Model_run 29 = .ok (.aload_n 0, 1) := by decide +kernel
theorem d_Model_run_30 : decode b_Model_run 30 = .ok (.iload_n 2, 1) := by decide +kernel
theorem d_Model_run_31 : decode b_Model_run 31 = .ok (.i2l, 1) := by decide +kernel
theorem d_Model_run_32 : decode b_Model_run 32 = .ok (.iload_n 1, 1) := by decide +kernel
theorem d_Model_run_33 : decode b_Model_run 33 = .ok (.i2l, 1) := by decide +kernel
theorem d_Model_run_34 : decode b_Model_run 34 = .ok (.ladd, 1) := by decide +kernel
theorem d_Model_run_35 : decode b_Model_run 35 = .ok (.invokevirtual 520, 3) := by decide +kernel
theorem d_Model_run_38 : decode b_Model_run 38 = .ok (.aload_n 0, 1) := by decide +kernel
theorem d_Model_run_39 : decode b_Model_run 39 = .ok (.getfield 523, 3) := by decide +kernel
theorem d_Model_run_42 : decode b_Model_run 42 = .ok (.iload_n 2, 1) := by decide +kernel
theorem d_Model_run_43 : decode b_Model_run 43 = .ok (.isub, 1) := by decide +kernel
theorem d_Model_run_44 : decode b_Model_run 44 = .ok (.ireturn, 1) := by decide +kernel
theorem d_Model_go_0 : decode b_Model_go 0 = .ok (.aload_n 0, 1) := by decide +kernel
theorem d_Model_go_1 : decode b_Model_go 1 = .ok (.iconst 0, 1) := by decide +kernel
theorem d_Model_go_2 : decode b_Model_go 2 = .ok (.putfield 1, 3) := by decide +kernel
theorem d_Model_go_5 : decode b_Model_go 5 = .ok (.aload_n 0, 1) := by decide +kernel
theorem d_Model_go_6 : decode b_Model_go 6 = .ok (.getfield 494, 3) := by decide +kernel
theorem d_Model_go_9 : decode b_Model_go 9 = .ok (.ifCond .eq 30, 3) := by decide +kernel
theorem d_Model_go_12 : decode b_Model_go 12 = .ok (.iload_n 1, 1) := by decide +kernel
theorem d_Model_go_13 : decode b_Model_go 13 = .ok (.ifCond .lt 26, 3) := by decide +kernel
theorem d_Model_go_16 : decode b_Model_go 16 = .ok (.iload_n 1, 1) := by decide +kernel
theorem d_Model_go_17 : decode b_Model_go 17 = .ok (.aload_n 0, 1) := by decide +kernel
theorem d_Model_go_18 : decode b_Model_go 18 = .ok (.getfield 523, 3) := by decide +kernel
theorem d_Model_go_21 : decode b_Model_go 21 = .ok (.if_icmp .gt 18, 3) := by decide +kernel
theorem d_Model_go_24 : decode b_Model_go 24 = .ok (.aload_n 0, 1) := by decide +kernel
theorem d_Model_go_25 : decode b_Model_go 25 = .ok (.getfield 494, 3) := by decide +kernel
theorem d_Model_go_28 : decode b_Model_go 28 = .ok (.iconst 1, 1) := by decide +kernel
theorem d_Model_go_29 : decode b_Model_go 29 = .ok (.if_icmp .le 12, 3) := by decide +kernel
theorem d_Model_go_32 : decode b_Model_go 32 = .ok (.aload_n 0, 1) := by decide +kernel
theorem d_Model_go_33 : decode b_Model_go 33 = .ok (.getfield 507, 3) := by decide +kernel
theorem d_Model_go_36 : decode b_Model_go 36 = .ok (.ifCond .eq 5, 3) := by decide +kernel
theorem d_Model_go_39 : decode b_Model_go 39 = .ok (.iconst 0, 1) := by decide +kernel
theorem d_Model_go_40 : decode b_Model_go 40 = .ok (.ireturn, 1) := by decide +kernel
theorem d_Model_go_41 : decode b_Model_go 41 = .ok (.aload_n 0, 1) := by decide +kernel
theorem d_Model_go_42 : decode b_Model_go 42 = .ok (.invokevirtual 526, 3) := by decide +kernel
theorem d_Model_go_45 : decode b_Model_go 45 = .ok (.aload_n 0, 1) := by decide +kernel
theorem d_Model_go_46 : decode b_Model_go 46 = .ok (.iload_n 1, 1) := by decide +kernel
theorem d_Model_go_47 : decode b_Model_go 47 = .ok (.i2l, 1) := by decide +kernel
theorem d_Model_go_48 : decode b_Model_go 48 = .ok (.invokevirtual 520, 3) := by decide +kernel
theorem d_Model_go_51 : decode b_Model_go 51 = .ok (.iconst 1, 1) := by decide +kernel
theorem d_Model_go_52 : decode b_Model_go 52 = .ok (.ireturn, 1) := by decide +kernel
theorem d_Model_out_0 : decode b_Model_out 0 = .ok (.aload_n 0, 1) := by decide +kernel
theorem d_Model_out_1 : decode b_Model_out 1 = .ok (.iconst 0, 1) := by decide +kernel
theorem d_Model_out_2 : decode b_Model_out 2 = .ok (.putfield 1, 3) := by decide +kernel
theorem d_Model_out_5 : decode b_Model_out 5 = .ok (.iload_n 1, 1) := by decide +kernel
theorem d_Model_out_6 : decode b_Model_out 6 = .ok (.ifCond .lt 19, 3) := by decide +kernel
theorem d_Model_out_9 : decode b_Model_out 9 = .ok (.iload_n 1, 1) := by decide +kernel
theorem d_Model_out_10 : decode b_Model_out 10 = .ok (.i2l, 1) := by decide +kernel
theorem d_Model_out_11 : decode b_Model_out 11 = .ok (.aload_n 0, 1) := by decide +kernel
theorem d_Model_out_12 : decode b_Model_out 12 = .ok (.getfield 356, 3) := by decide +kernel
theorem d_Model_out_15 : decode b_Model_out 15 = .ok (.ldc2_w 789, 3) := by decide +kernel
theorem d_Model_out_18 : decode b_Model_out 18 = .ok (.invokestatic 140, 3) := by decide +kernel
theorem d_Model_out_21 : decode b_Model_out 21 = .ok (.lcmp, 1) := by decide +kernel
theorem d_Model_out_22 : decode b_Model_out 22 = .ok (.ifCond .lt 7, 3) := by decide +kernel
theorem d_Model_out_25 : decode b_Model_out 25 = .ok (.iconst (-1), 1) := by decide +kernel
theorem d_Model_out_26 : decode b_Model_out 26 = .ok (.goto 22, 3) := by decide +kernel
theorem d_Model_out_29 : decode b_Model_out 29 = .ok (.aload_n 0, 1) := by decide +kernel
theorem d_Model_out_30 : decode b_Model_out 30 = .ok (.getfield 225, 3) := by decide +kernel
theorem d_Model_out_33 : decode b_Model_out 33 = .ok (.aload_n 0, 1) := by decide +kernel
theorem d_Model_out_34 : decode b_Model_out 34 = .ok (.getfield 356, 3) := by decide +kernel
theorem d_Model_out_37 : decode b_Model_out 37 = .ok (.lconst 1, 1) := by decide +kernel
theorem d_Model_out_38 : decode b_Model_out 38 = .ok (.lsub, 1) := by decide +kernel
theorem d_Model_out_39 : decode b_Model_out 39 = .ok (.iload_n 1, 1) := by decide +kernel
theorem d_Model_out_40 : decode b_Model_out 40 = .ok (.i2l, 1) := by decide +kernel
theorem d_Model_out_41 : decode b_Model_out 41 = .ok (.lsub, 1) := by decide +kernel
theorem d_Model_out_42 : decode b_Model_out 42 = .ok (.ldc2_w 789, 3) := by decide +kernel
theorem d_Model_out_45 : decode b_Model_out 45 = .ok (.lrem, 1) := by decide +kernel
theorem d_Model_out_46 : decode b_Model_out 46 = .ok (.l2i, 1) := by decide +kernel
theorem d_Model_out_47 : decode b_Model_out 47 = .ok (.baload, 1) := by decide +kernel
theorem d_Model_out_48 : decode b_Model_out 48 = .ok (.ireturn, 1) := by decide +kernel
theorem d_Model_name_0 : decode b_Model_name 0 = .ok (.aload_n 0, 1) := by decide +kernel
theorem d_Model_name_1 : decode b_Model_name 1 = .ok (.iconst 0, 1) := by decide +kernel
theorem d_Model_name_2 : decode b_Model_name 2 = .ok (.putfield 1, 3) := by decide +kernel
theorem d_Model_name_5 : decode b_Model_name 5 = .ok (.iload_n 1, 1) := by decide +kernel
theorem d_Model_name_6 : decode b_Model_name 6 = .ok (.ifCond .lt 30, 3) := by decide +kernel
theorem d_Model_name_9 : decode b_Model_name 9 = .ok (.iload_n 1, 1) := by decide +kernel
theorem d_Model_name_10 : decode b_Model_name 10 = .ok (.aload_n 0, 1) := by decide +kernel
theorem d_Model_name_11 : decode b_Model_name 11 = .ok (.getfield 350, 3) := by decide +kernel
theorem d_Model_name_14 : decode b_Model_name 14 = .ok (.if_icmp .ge 22, 3) := by decide +kernel
theorem d_Model_name_17 : decode b_Model_name 17 = .ok (.iload_n 2, 1) := by decide +kernel
theorem d_Model_name_18 : decode b_Model_name 18 = .ok (.ifCond .lt 18, 3) := by decide +kernel
theorem d_Model_name_21 : decode b_Model_name 21 = .ok (.iload_n 2, 1) := by decide +kernel
theorem d_Model_name_22 : decode b_Model_name 22 = .ok (.aload_n 0, 1) := by decide +kernel
theorem d_Model_name_23 : decode b_Model_name 23 = .ok (.getfield 22, 3) := by decide +kernel
theorem d_Model_name_26 : decode b_Model_name 26 = .ok (.aload_n 0, 1) := by decide +kernel
theorem d_Model_name_27 : decode b_Model_name 27 = .ok (.getfield 195, 3) := by decide +kernel
theorem d_Model_name_30 : decode b_Model_name 30 = .ok (.iload_n 1, 1) := by decide +kernel
theorem d_Model_name_31 : decode b_Model_name 31 = .ok (.iaload, 1) := by decide +kernel
theorem d_Model_name_32 : decode b_Model_name 32 = .ok (.iaload, 1) := by decide +kernel
theorem d_Model_name_33 : decode b_Model_name 33 = .ok (.if_icmp .lt 7, 3) := by decide +kernel
theorem d_Model_name_36 : decode b_Model_name 36 = .ok (.iconst (-1), 1) := by decide +kernel
theorem d_Model_name_37 : decode b_Model_name 37 = .ok (.goto 21, 3) := by decide +kernel
theorem d_Model_name_40 : decode b_Model_name 40 = .ok (.aload_n 0, 1) := by decide +kernel
theorem d_Model_name_41 : decode b_Model_name 41 = .ok (.getfield 67, 3) := by decide +kernel
theorem d_Model_name_44 : decode b_Model_name 44 = .ok (.aload_n 0, 1) := by decide +kernel
theorem d_Model_name_45 : decode b_Model_name 45 = .ok (.getfield 15, 3) := by decide +kernel
theorem d_Model_name_48 : decode b_Model_name 48 = .ok (.aload_n 0, 1) := by decide +kernel
theorem d_Model_name_49 : decode b_Model_name 49 = .ok (.getfield 195, 3) := by decide +kernel
theorem d_Model_name_52 : decode b_Model_name 52 = .ok (.iload_n 1, 1) := by decide +kernel
theorem d_Model_name_53 : decode b_Model_name 53 = .ok (.iaload, 1) := by decide +kernel
theorem d_Model_name_54 : decode b_Model_name 54 = .ok (.iaload, 1) := by decide +kernel
theorem d_Model_name_55 : decode b_Model_name 55 = .ok (.iload_n 2, 1) := by decide +kernel
theorem d_Model_name_56 : decode b_Model_name 56 = .ok (.iadd, 1) := by decide +kernel
theorem d_Model_name_57 : decode b_Model_name 57 = .ok (.baload, 1) := by decide +kernel
theorem d_Model_name_58 : decode b_Model_name 58 = .ok (.ireturn, 1) := by decide +kernel
theorem d_Model_value_0 : decode b_Model_value 0 = .ok (.aload_n 0, 1) := by decide +kernel
theorem d_Model_value_1 : decode b_Model_value 1 = .ok (.iconst 0, 1) := by decide +kernel
theorem d_Model_value_2 : decode b_Model_value 2 = .ok (.putfield 1, 3) := by decide +kernel
theorem d_Model_value_5 : decode b_Model_value 5 = .ok (.iload_n 1, 1) := by decide +kernel
theorem d_Model_value_6 : decode b_Model_value 6 = .ok (.ifCond .lt 11, 3) := by decide +kernel
theorem d_Model_value_9 : decode b_Model_value 9 = .ok (.iload_n 1, 1) := by decide +kernel
theorem d_Model_value_10 : decode b_Model_value 10 = .ok (.aload_n 0, 1) := by decide +kernel
theorem d_Model_value_11 : decode b_Model_value 11 = .ok (.getfield 350, 3) := by decide +kernel
theorem d_Model_value_14 : decode b_Model_value 14 = .ok (.if_icmp .lt 5, 3) := by decide +kernel
theorem d_Model_value_17 : decode b_Model_value 17 = .ok (.iconst (-1), 1) := by decide +kernel
theorem d_Model_value_18 : decode b_Model_value 18 = .ok (.ireturn, 1) := by decide +kernel
theorem d_Model_value_19 : decode b_Model_value 19 = .ok (.aload_n 0, 1) := by decide +kernel
theorem d_Model_value_20 : decode b_Model_value 20 = .ok (.aload_n 0, 1) := by decide +kernel
theorem d_Model_value_21 : decode b_Model_value 21 = .ok (.getfield 198, 3) := by decide +kernel
theorem d_Model_value_24 : decode b_Model_value 24 = .ok (.iload_n 1, 1) := by decide +kernel
theorem d_Model_value_25 : decode b_Model_value 25 = .ok (.laload, 1) := by decide +kernel
theorem d_Model_value_26 : decode b_Model_value 26 = .ok (.iconst 0, 1) := by decide +kernel
theorem d_Model_value_27 : decode b_Model_value 27 = .ok (.invokevirtual 782, 3) := by decide +kernel
theorem d_Model_value_30 : decode b_Model_value 30 = .ok (.iload_n 2, 1) := by decide +kernel
theorem d_Model_value_31 : decode b_Model_value 31 = .ok (.ifCond .lt 11, 3) := by decide +kernel
theorem d_Model_value_34 : decode b_Model_value 34 = .ok (.iload_n 2, 1) := by decide +kernel
theorem d_Model_value_35 : decode b_Model_value 35 = .ok (.aload_n 0, 1) := by decide +kernel
theorem d_Model_value_36 : decode b_Model_value 36 = .ok (.getfield 108, 3) := by decide +kernel
theorem d_Model_value_39 : decode b_Model_value 39 = .ok (.if_icmp .lt 7, 3) := by decide +kernel
theorem d_Model_value_42 : decode b_Model_value 42 = .ok (.iconst (-1), 1) := by decide +kernel
theorem d_Model_value_43 : decode b_Model_value 43 = .ok (.goto 9, 3) := by decide +kernel
theorem d_Model_value_46 : decode b_Model_value 46 = .ok (.aload_n 0, 1) := by decide +kernel
theorem d_Model_value_47 : decode b_Model_value 47 = .ok (.getfield 105, 3) := by decide +kernel
theorem d_Model_value_50 : decode b_Model_value 50 = .ok (.iload_n 2, 1) := by decide +kernel
theorem d_Model_value_51 : decode b_Model_value 51 = .ok (.baload, 1) := by decide +kernel
theorem d_Model_value_52 : decode b_Model_value 52 = .ok (.ireturn, 1) := by decide +kernel
theorem d_Model_procedure_0 : decode b_Model_procedure 0 = .ok (.aload_n 0, 1) := by decide +kernel
theorem d_Model_procedure_1 : decode b_Model_procedure 1 = .ok (.iconst 0, 1) := by decide +kernel
theorem d_Model_procedure_2 : decode b_Model_procedure 2 = .ok (.putfield 1, 3) := by decide +kernel
theorem d_Model_procedure_5 : decode b_Model_procedure 5 = .ok (.iload_n 1, 1) := by decide +kernel
theorem d_Model_procedure_6 : decode b_Model_procedure 6 = .ok (.ifCond .lt 15, 3) := by decide +kernel
theorem d_Model_procedure_9 : decode b_Model_procedure 9 = .ok (.iload_n 1, 1) := by decide +kernel
theorem d_Model_procedure_10 : decode b_Model_procedure 10 = .ok (.aload_n 0, 1) := by decide +kernel
theorem d_Model_procedure_11 : decode b_Model_procedure 11 = .ok (.getfield 344, 3) := by decide +kernel
theorem d_Model_procedure_14 : decode b_Model_procedure 14 = .ok (.if_icmp .ge 7, 3) := by decide +kernel
theorem d_Model_procedure_17 : decode b_Model_procedure 17 = .ok (.iload_n 2, 1) := by decide +kernel
theorem d_Model_procedure_18 : decode b_Model_procedure 18 = .ok (.ifCond .ge 5, 3) := by decide +kernel
theorem d_Model_procedure_21 : decode b_Model_procedure 21 = .ok (.iconst (-1), 1) := by decide +kernel
theorem d_Model_procedure_22 : decode b_Model_procedure 22 = .ok (.ireturn, 1) := by decide +kernel
theorem d_Model_procedure_23 : decode b_Model_procedure 23 = .ok (.aload_n 0, 1) := by decide +kernel
theorem d_Model_procedure_24 : decode b_Model_procedure 24 = .ok (.getfield 183, 3) := by decide +kernel
theorem d_Model_procedure_27 : decode b_Model_procedure 27 = .ok (.iload_n 1, 1) := by decide +kernel
theorem d_Model_procedure_28 : decode b_Model_procedure 28 = .ok (.iaload, 1) := by decide +kernel
theorem d_Model_procedure_29 : decode b_Model_procedure 29 = .ok (.istore_n 3, 1) := by decide +kernel
theorem d_Model_procedure_30 : decode b_Model_procedure 30 = .ok (.iload_n 2, 1) := by decide +kernel
theorem d_Model_procedure_31 : decode b_Model_procedure 31 = .ok (.ifCond .ne 12, 3) := by decide +kernel
theorem d_Model_procedure_34 : decode b_Model_procedure 34 = .ok (.aload_n 0, 1) := by decide +kernel
theorem d_Model_procedure_35 : decode b_Model_procedure 35 = .ok (.getfield 186, 3) := by decide +kernel
theorem d_Model_procedure_38 : decode b_Model_procedure 38 = .ok (.iload_n 1, 1) := by decide +kernel
theorem d_Model_procedure_39 : decode b_Model_procedure 39 = .ok (.iaload, 1) := by decide +kernel
theorem d_Model_procedure_40 : decode b_Model_procedure 40 = .ok (.goto 52, 3) := by decide +kernel
theorem d_Model_procedure_43 : decode b_Model_procedure 43 = .ok (.iload_n 2, 1) := by decide +kernel
theorem d_Model_procedure_44 : decode b_Model_procedure 44 = .ok (.iconst 1, 1) := by decide +kernel
theorem d_Model_procedure_45 : decode b_Model_procedure 45 = .ok (.if_icmp .ne 16, 3) := by decide +kernel
theorem d_Model_procedure_48 : decode b_Model_procedure 48 = .ok (.aload_n 0, 1) := by decide +kernel
theorem d_Model_procedure_49 : decode b_Model_procedure 49 = .ok (.aload_n 0, 1) := by decide +kernel
theorem d_Model_procedure_50 : decode b_Model_procedure 50 = .ok (.getfield 192, 3) := by decide +kernel
theorem d_Model_procedure_53 : decode b_Model_procedure 53 = .ok (.iload_n 1, 1) := by decide +kernel
theorem d_Model_procedure_54 : decode b_Model_procedure 54 = .ok (.laload, 1) := by decide +kernel
theorem d_Model_procedure_55 : decode b_Model_procedure 55 = .ok (.invokevirtual 98, 3) := by decide +kernel
theorem d_Model_procedure_58 : decode b_Model_procedure 58 = .ok (.goto 34, 3) := by decide +kernel
theorem d_Model_procedure_61 : decode b_Model_procedure 61 = .ok (.iload_n 2, 1) := by decide +kernel
theorem d_Model_procedure_62 : decode b_Model_procedure 62 = .ok (.iconst 2, 1) := by decide +kernel
theorem d_Model_procedure_63 : decode b_Model_procedure 63 = .ok (.isub, 1) := by decide +kernel
theorem d_Model_procedure_64 : decode b_Model_procedure 64 = .ok (.aload_n 0, 1) := by decide +kernel
theorem d_Model_procedure_65 : decode b_Model_procedure 65 = .ok (.getfield 22, 3) := by decide +kernel
theorem d_Model_procedure_68 : decode b_Model_procedure 68 = .ok (.iload_n 3, 1) := by decide +kernel
theorem d_Model_procedure_69 : decode b_Model_procedure 69 = .ok (.iaload, 1) := by decide +kernel
theorem d_Model_procedure_70 : decode b_Model_procedure 70 = .ok (.if_icmp .lt 7, 3) := by decide +kernel
theorem d_Model_procedure_73 : decode b_Model_procedure 73 = .ok (.iconst (-1), 1) := by decide +kernel
theorem d_Model_procedure_74 : decode b_Model_procedure 74 = .ok (.goto 18, 3) := by decide +kernel
theorem d_Model_procedure_77 : decode b_Model_procedure 77 = .ok (.aload_n 0, 1) := by decide +kernel
theorem d_Model_procedure_78 : decode b_Model_procedure 78 = .ok (.getfield 67, 3) := by decide +kernel
theorem d_Model_procedure_81 : decode b_Model_procedure 81 = .ok (.aload_n 0, 1) := by decide +kernel
theorem d_Model_procedure_82 : decode b_Model_procedure 82 = .ok (.getfield 15, 3) := by decide +kernel
theorem d_Model_procedure_85 : decode b_Model_procedure 85 = .ok (.iload_n 3, 1) := by decide +kernel
theorem d_Model_procedure_86 : decode b_Model_procedure 86 = .ok (.iaload, 1) := by decide +kernel
theorem d_Model_procedure_87 : decode b_Model_procedure 87 = .ok (.iload_n 2, 1) := by decide +kernel
theorem d_Model_procedure_88 : decode b_Model_procedure 88 = .ok (.iadd, 1) := by decide +kernel
theorem d_Model_procedure_89 : decode b_Model_procedure 89 = .ok (.iconst 2, 1) := by decide +kernel
theorem d_Model_procedure_90 : decode b_Model_procedure 90 = .ok (.isub, 1) := by decide +kernel
theorem d_Model_procedure_91 : decode b_Model_procedure 91 = .ok (.baload, 1) := by decide +kernel
theorem d_Model_procedure_92 : decode b_Model_procedure 92 = .ok (.ireturn, 1) := by decide +kernel
theorem d_Model_call_0 : decode b_Model_call 0 = .ok (.aload_n 0, 1) := by decide +kernel
theorem d_Model_call_1 : decode b_Model_call 1 = .ok (.iconst 0, 1) := by decide +kernel
theorem d_Model_call_2 : decode b_Model_call 2 = .ok (.putfield 1, 3) := by decide +kernel
theorem d_Model_call_5 : decode b_Model_call 5 = .ok (.iload_n 1, 1) := by decide +kernel
theorem d_Model_call_6 : decode b_Model_call 6 = .ok (.ifCond .lt 11, 3) := by decide +kernel
theorem d_Model_call_9 : decode b_Model_call 9 = .ok (.iload_n 1, 1) := by decide +kernel
theorem d_Model_call_10 : decode b_Model_call 10 = .ok (.aload_n 0, 1) := by decide +kernel
theorem d_Model_call_11 : decode b_Model_call 11 = .ok (.getfield 538, 3) := by decide +kernel
theorem d_Model_call_14 : decode b_Model_call 14 = .ok (.if_icmp .lt 5, 3) := by decide +kernel
theorem d_Model_call_17 : decode b_Model_call 17 = .ok (.iconst (-1), 1) := by decide +kernel
theorem d_Model_call_18 : decode b_Model_call 18 = .ok (.ireturn, 1) := by decide +kernel
theorem d_Model_call_19 : decode b_Model_call 19 = .ok (.aload_n 0, 1) := by decide +kernel
theorem d_Model_call_20 : decode b_Model_call 20 = .ok (.getfield 538, 3) := by decide +kernel
theorem d_Model_call_23 : decode b_Model_call 23 = .ok (.iconst 1, 1) := by decide +kernel
theorem d_Model_call_24 : decode b_Model_call 24 = .ok (.isub, 1) := by decide +kernel
theorem d_Model_call_25 : decode b_Model_call 25 = .ok (.iload_n 1, 1) := by decide +kernel
theorem d_Model_call_26 : decode b_Model_call 26 = .ok (.isub, 1) := by decide +kernel
theorem d_Model_call_27 : decode b_Model_call 27 = .ok (.istore_n 3, 1) := by decide +kernel
theorem d_Model_call_28 : decode b_Model_call 28 = .ok (.iconst 0, 1) := by decide +kernel
theorem d_Model_call_29 : decode b_Model_call 29 = .ok (.istore 4, 2) := by decide +kernel
theorem d_Model_call_31 : decode b_Model_call 31 = .ok (.bipush 12, 2) := by decide +kernel
theorem d_Model_call_33 : decode b_Model_call 33 = .ok (.iload_n 3, 1) := by decide +kernel
theorem d_Model_call_34 : decode b_Model_call 34 = .ok (.imul, 1) := by decide +kernel
theorem d_Model_call_35 : decode b_Model_call 35 = .ok (.istore 5, 2) := by decide +kernel
theorem d_Model_call_37 : decode b_Model_call 37 = .ok (.iload 5, 2) := by decide +kernel
theorem d_Model_call_39 : decode b_Model_call 39 = .ok (.bipush 12, 2) := by decide +kernel
theorem d_Model_call_41 : decode b_Model_call 41 = .ok (.iload_n 3, 1) := by decide +kernel
theorem d_Model_call_42 : decode b_Model_call 42 = .ok (.imul, 1) := by decide +kernel
theorem d_Model_call_43 : decode b_Model_call 43 = .ok (.aload_n 0, 1) := by decide +kernel
theorem d_Model_call_44 : decode b_Model_call 44 = .ok (.getfield 307, 3) := by decide +kernel
theorem d_Model_call_47 : decode b_Model_call 47 = .ok (.iload_n 3, 1) := by decide +kernel
theorem d_Model_call_48 : decode b_Model_call 48 = .ok (.iaload, 1) := by decide +kernel
theorem d_Model_call_49 : decode b_Model_call 49 = .ok (.iadd, 1) := by decide +kernel
theorem d_Model_call_50 : decode b_Model_call 50 = .ok (.if_icmp .ge 33, 3) := by decide +kernel
theorem d_Model_call_53 : decode b_Model_call 53 = .ok (.iload 4, 2) := by decide +kernel
theorem d_Model_call_55 : decode b_Model_call 55 = .ok (.aload_n 0, 1) := by decide +kernel
theorem d_Model_call_56 : decode b_Model_call 56 = .ok (.getfield 313, 3) := by decide +kernel
theorem d_Model_call_59 : decode b_Model_call 59 = .ok (.iload 5, 2) := by decide +kernel
theorem d_Model_call_61 : decode b_Model_call 61 = .ok (.laload, 1) := by decide +kernel
theorem d_Model_call_62 : decode b_Model_call 62 = .ok (.ldc2_w 7, 3) := by decide +kernel
theorem d_Model_call_65 : decode b_Model_call 65 = .ok (.lcmp, 1) := by decide +kernel
theorem d_Model_call_66 : decode b_Model_call 66 = .ok (.ifCond .ne 7, 3) := by decide +kernel
theorem d_Model_call_69 : decode b_Model_call 69 = .ok (.iconst 0, 1) := by decide +kernel
theorem d_Model_call_70 : decode b_Model_call 70 = .ok (.goto 4, 3) := by decide +kernel
theorem d_Model_call_73 : decode b_Model_call 73 = .ok (.iconst 1, 1) := by decide +kernel
theorem d_Model_call_74 : decode b_Model_call 74 = .ok (.iadd, 1) := by decide +kernel
theorem d_Model_call_75 : decode b_Model_call 75 = .ok (.istore 4, 2) := by decide +kernel
theorem d_Model_call_77 : decode b_Model_call 77 = .ok (.iinc 5 1, 3) := by decide +kernel
theorem d_Model_call_80 : decode b_Model_call 80 = .ok (.goto (-43), 3) := by decide +kernel
theorem d_Model_call_83 : decode b_Model_call 83 = .ok (.iload_n 2, 1) := by decide +kernel
theorem d_Model_call_84 : decode b_Model_call 84 = .ok (.ifCond .ne 12, 3) := by decide +kernel
theorem d_Model_call_87 : decode b_Model_call 87 = .ok (.aload_n 0, 1) := by decide +kernel
theorem d_Model_call_88 : decode b_Model_call 88 = .ok (.getfield 304, 3) := by decide +kernel
theorem d_Model_call_91 : decode b_Model_call 91 = .ok (.iload_n 3, 1) := by decide +kernel
theorem d_Model_call_92 : decode b_Model_call 92 = .ok (.iaload, 1) := by decide +kernel
theorem d_Model_call_93 : decode b_Model_call 93 = .ok (.goto 28, 3) := by decide +kernel
theorem d_Model_call_96 : decode b_Model_call 96 = .ok (.iload_n 2, 1) := by decide +kernel
theorem d_Model_call_97 : decode b_Model_call 97 = .ok (.iconst 1, 1) := by decide +kernel
theorem d_Model_call_98 : decode b_Model_call 98 = .ok (.if_icmp .ne 12, 3) := by decide +kernel
theorem d_Model_call_101 : decode b_Model_call 101 = .ok (.aload_n 0, 1) := by decide +kernel
theorem d_Model_call_102 : decode b_Model_call 102 = .ok (.getfield 307, 3) := by decide +kernel
theorem d_Model_call_105 : decode b_Model_call 105 = .ok (.iload_n 3, 1) := by decide +kernel
theorem d_Model_call_106 : decode b_Model_call 106 = .ok (.iaload, 1) := by decide +kernel
theorem d_Model_call_107 : decode b_Model_call 107 = .ok (.goto 14, 3) := by decide +kernel
theorem d_Model_call_110 : decode b_Model_call 110 = .ok (.iload_n 2, 1) := by decide +kernel
theorem d_Model_call_111 : decode b_Model_call 111 = .ok (.iconst 2, 1) := by decide +kernel
theorem d_Model_call_112 : decode b_Model_call 112 = .ok (.if_icmp .ne 8, 3) := by decide +kernel
theorem d_Model_call_115 : decode b_Model_call 115 = .ok (.iload 4, 2) := by decide +kernel
theorem d_Model_call_117 : decode b_Model_call 117 = .ok (.goto 4, 3) := by decide +kernel
theorem d_Model_call_120 : decode b_Model_call 120 = .ok (.iconst (-1), 1) := by decide +kernel
theorem d_Model_call_121 : decode b_Model_call 121 = .ok (.ireturn, 1) := by decide +kernel
theorem d_Model_turtleRow_0 : decode b_Model_turtleRow 0 = .ok (.iload_n 1, 1) := by decide +kernel
theorem d_Model_turtleRow_1 : decode b_Model_turtleRow 1 = .ok (.ifCond .ne 10, 3) := by decide +kernel
theorem d_Model_turtleRow_4 : decode b_Model_turtleRow 4 = .ok (.aload_n 0, 1) := by decide +kernel
theorem d_Model_turtleRow_5 : decode b_Model_turtleRow 5 = .ok (.getfield 201, 3) := by decide +kernel
theorem d_Model_turtleRow_8 : decode b_Model_turtleRow 8 = .ok (.goto 67, 3) := by decide +kernel
theorem d_Model_turtleRow_11 : decode b_Model_turtleRow 11 = .ok (.iload_n 1, 1) := by decide +kernel
theorem d_Model_turtleRow_12 : decode b_Model_turtleRow 12 = .ok (.iconst 1, 1) := by decide +kernel
theorem d_Model_turtleRow_13 : decode b_Model_turtleRow 13 = .ok (.if_icmp .ne 10, 3) := by decide +kernel
theorem d_Model_turtleRow_16 : decode b_Model_turtleRow 16 = .ok (.aload_n 0, 1) := by decide +kernel
theorem d_Model_turtleRow_17 : decode b_Model_turtleRow 17 = .ok (.getfield 204, 3) := by decide +kernel
theorem d_Model_turtleRow_20 : decode b_Model_turtleRow 20 = .ok (.goto 55, 3) := by decide +kernel
theorem d_Model_turtleRow_23 : decode b_Model_turtleRow 23 = .ok (.iload_n 1, 1) := by decide +kernel
theorem d_Model_turtleRow_24 : decode b_Model_turtleRow 24 = .ok (.iconst 2, 1) := by decide +kernel
theorem d_Model_turtleRow_25 : decode b_Model_turtleRow 25 = .ok (.if_icmp .ne 10, 3) := by decide +kernel
theorem d_Model_turtleRow_28 : decode b_Model_turtleRow 28 = .ok (.aload_n 0, 1) := by decide +kernel
theorem d_Model_turtleRow_29 : decode b_Model_turtleRow 29 = .ok (.getfield 207, 3) := by decide +kernel
theorem d_Model_turtleRow_32 : decode b_Model_turtleRow 32 = .ok (.goto 43, 3) := by decide +kernel
theorem d_Model_turtleRow_35 : decode b_Model_turtleRow 35 = .ok (.iload_n 1, 1) := by decide +kernel
theorem d_Model_turtleRow_36 : decode b_Model_turtleRow 36 = .ok (.iconst 3, 1) := by decide +kernel
theorem d_Model_turtleRow_37 : decode b_Model_turtleRow 37 = .ok (.if_icmp .ne 10, 3) := by decide +kernel
theorem d_Model_turtleRow_40 : decode b_Model_turtleRow 40 = .ok (.aload_n 0, 1) := by decide +kernel
theorem d_Model_turtleRow_41 : decode b_Model_turtleRow 41 = .ok (.getfield 210, 3) := by decide +kernel
theorem d_Model_turtleRow_44 : decode b_Model_turtleRow 44 = .ok (.goto 31, 3) := by decide +kernel
theorem d_Model_turtleRow_47 : decode b_Model_turtleRow 47 = .ok (.iload_n 1, 1) := by decide +kernel
theorem d_Model_turtleRow_48 : decode b_Model_turtleRow 48 = .ok (.iconst 4, 1) := by decide +kernel
theorem d_Model_turtleRow_49 : decode b_Model_turtleRow 49 = .ok (.if_icmp .ne 10, 3) := by decide +kernel
theorem d_Model_turtleRow_52 : decode b_Model_turtleRow 52 = .ok (.aload_n 0, 1) := by decide +kernel
theorem d_Model_turtleRow_53 : decode b_Model_turtleRow 53 = .ok (.getfield 213, 3) := by decide +kernel
theorem d_Model_turtleRow_56 : decode b_Model_turtleRow 56 = .ok (.goto 19, 3) := by decide +kernel
theorem d_Model_turtleRow_59 : decode b_Model_turtleRow 59 = .ok (.iload_n 1, 1) := by decide +kernel
theorem d_Model_turtleRow_60 : decode b_Model_turtleRow 60 = .ok (.iconst 5, 1) := by decide +kernel
theorem d_Model_turtleRow_61 : decode b_Model_turtleRow 61 = .ok (.if_icmp .ne 10, 3) := by decide +kernel
theorem d_Model_turtleRow_64 : decode b_Model_turtleRow 64 = .ok (.aload_n 0, 1) := by decide +kernel
theorem d_Model_turtleRow_65 : decode b_Model_turtleRow 65 = .ok (.getfield 216, 3) := by decide +kernel
theorem d_Model_turtleRow_68 : decode b_Model_turtleRow 68 = .ok (.goto 7, 3) := by decide +kernel
theorem d_Model_turtleRow_71 : decode b_Model_turtleRow 71 = .ok (.aload_n 0, 1) := by decide +kernel
theorem d_Model_turtleRow_72 : decode b_Model_turtleRow 72 = .ok (.getfield 219, 3) := by decide +kernel
theorem d_Model_turtleRow_75 : decode b_Model_turtleRow 75 = .ok (.areturn, 1) := by decide +kernel
