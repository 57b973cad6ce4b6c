theorem d_Waiting_init_0 : decode b_Waiting_init 0 = .ok (.aload_n 0, 1) := by decide +kernel
theorem d_Waiting_init_1 : decode b_Waiting_init 1 = .ok (.invokespecial 3, 3) := by decide +kernel
theorem d_Waiting_init_4 : decode b_Waiting_init 4 = .ok (.aload_n 0, 1) := by decide +kernel
theorem d_Waiting_init_5 : decode b_Waiting_init 5 = .ok (.sipush 401, 3) := by decide +kernel
theorem d_Waiting_init_8 : decode b_Waiting_init 8 = .ok (.newarray .int, 2) := by decide +kernel
theorem d_Waiting_init_10 : decode b_Waiting_init 10 = .ok (.putfield 9, 3) := by decide +kernel
theorem d_Waiting_init_13 : decode b_Waiting_init 13 = .ok (.aload_n 0, 1) := by decide +kernel
theorem d_Waiting_init_14 : decode b_Waiting_init 14 = .ok (.sipush 401, 3) := by decide +kernel
theorem d_Waiting_init_17 : decode b_Waiting_init 17 = .ok (.newarray .int, 2) := by decide +kernel
theorem d_Waiting_init_19 : decode b_Waiting_init 19 = .ok (.putfield 15, 3) := by decide +kernel
theorem d_Waiting_init_22 : decode b_Waiting_init 22 = .ok (.aload_n 0, 1) := by decide +kernel
theorem d_Waiting_init_23 : decode b_Waiting_init 23 = .ok (.sipush 401, 3) := by decide +kernel
theorem d_Waiting_init_26 : decode b_Waiting_init 26 = .ok (.newarray .int, 2) := by decide +kernel
theorem d_Waiting_init_28 : decode b_Waiting_init 28 = .ok (.putfield 18, 3) := by decide +kernel
theorem d_Waiting_init_31 : decode b_Waiting_init 31 = .ok (.aload_n 0, 1) := by decide +kernel
theorem d_Waiting_init_32 : decode b_Waiting_init 32 = .ok (.sipush 401, 3) := by decide +kernel
theorem d_Waiting_init_35 : decode b_Waiting_init 35 = .ok (.newarray .int, 2) := by decide +kernel
theorem d_Waiting_init_37 : decode b_Waiting_init 37 = .ok (.putfield 21, 3) := by decide +kernel
theorem d_Waiting_init_40 : decode b_Waiting_init 40 = .ok (.aload_n 0, 1) := by decide +kernel
theorem d_Waiting_init_41 : decode b_Waiting_init 41 = .ok (.sipush 401, 3) := by decide +kernel
theorem d_Waiting_init_44 : decode b_Waiting_init 44 = .ok (.newarray .int, 2) := by decide +kernel
theorem d_Waiting_init_46 : decode b_Waiting_init 46 = .ok (.putfield 24, 3) := by decide +kernel
theorem d_Waiting_init_49 : decode b_Waiting_init 49 = .ok (.aload_n 0, 1) := by decide +kernel
theorem d_Waiting_init_50 : decode b_Waiting_init 50 = .ok (.sipush 401, 3) := by decide +kernel
theorem d_Waiting_init_53 : decode b_Waiting_init 53 = .ok (.newarray .int, 2) := by decide +kernel
theorem d_Waiting_init_55 : decode b_Waiting_init 55 = .ok (.putfield 27, 3) := by decide +kernel
theorem d_Waiting_init_58 : decode b_Waiting_init 58 = .ok (.aload_n 0, 1) := by decide +kernel
theorem d_Waiting_init_59 : decode b_Waiting_init 59 = .ok (.sipush 401, 3) := by decide +kernel
theorem d_Waiting_init_62 : decode b_Waiting_init 62 = .ok (.newarray .int, 2) := by decide +kernel
theorem d_Waiting_init_64 : decode b_Waiting_init 64 = .ok (.putfield 30, 3) := by decide +kernel
theorem d_Waiting_init_67 : decode b_Waiting_init 67 = .ok (.aload_n 0, 1) := by decide +kernel
theorem d_Waiting_init_68 : decode b_Waiting_init 68 = .ok (.sipush 32000, 3) := by decide +kernel
theorem d_Waiting_init_71 : decode b_Waiting_init 71 = .ok (.newarray .int, 2) := by decide +kernel
theorem d_Waiting_init_73 : decode b_Waiting_init 73 = .ok (.putfield 33, 3) := by decide +kernel
theorem d_Waiting_init_76 : decode b_Waiting_init 76 = .ok (.return_, 1) := by decide +kernel
theorem lk_Waiting_3 : Cond.methodLink "TurtleWorld$Waiting" 3 ⟨"java/lang/Object", "<init>", "()V"⟩ ∈ tw_T := tw_i3 81 (by decide +kernel) (by decide +kernel)
set_option maxRecDepth 100000 in
theorem cw_objInit : Cond.code objectInit ⟨#[0xb1]⟩ 1 none ∈ tw_T := tw_i1 33 rfl rfl
theorem in_objInit : Cond.instanceMethod ⟨"java/lang/Object", "<init>", "()V"⟩ ∈ tw_T := tw_i1 32 (by decide +kernel) (by decide +kernel)
theorem ac_int : Cond.arrayClass Jvm.ClassFile.FieldType.int ∈ tw_T := tw_i1 144 (by decide +kernel) (by decide +kernel)
theorem d_Line_init_0 : decode b_Line_init 0 = .ok (.aload_n 0, 1) := by decide +kernel
theorem d_Line_init_1 : decode b_Line_init 1 = .ok (.invokespecial 3, 3) := by decide +kernel
theorem d_Line_init_4 : decode b_Line_init 4 = .ok (.aload_n 0, 1) := by decide +kernel
theorem d_Line_init_5 : decode b_Line_init 5 = .ok (.sipush 150, 3) := by decide +kernel
theorem d_Line_init_8 : decode b_Line_init 8 = .ok (.newarray .int, 2) := by decide +kernel
theorem d_Line_init_10 : decode b_Line_init 10 = .ok (.putfield 9, 3) := by decide +kernel
theorem d_Line_init_13 : decode b_Line_init 13 = .ok (.aload_n 0, 1) := by decide +kernel
theorem d_Line_init_14 : decode b_Line_init 14 = .ok (.sipush 150, 3) := by decide +kernel
theorem d_Line_init_17 : decode b_Line_init 17 = .ok (.newarray .int, 2) := by decide +kernel
theorem d_Line_init_19 : decode b_Line_init 19 = .ok (.putfield 15, 3) := by decide +kernel
theorem d_Line_init_22 : decode b_Line_init 22 = .ok (.aload_n 0, 1) := by decide +kernel
theorem d_Line_init_23 : decode b_Line_init 23 = .ok (.sipush 150, 3) := by decide +kernel
theorem d_Line_init_26 : decode b_Line_init 26 = .ok (.newarray .int, 2) := by decide +kernel
theorem d_Line_init_28 : decode b_Line_init 28 = .ok (.putfield 18, 3) := by decide +kernel
theorem d_Line_init_31 : decode b_Line_init 31 = .ok (.aload_n 0, 1) := by decide +kernel
theorem d_Line_init_32 : decode b_Line_init 32 = .ok (.sipush 150, 3) := by decide +kernel
theorem d_Line_init_35 : decode b_Line_init 35 = .ok (.newarray .int, 2) := by decide +kernel
theorem d_Line_init_37 : decode b_Line_init 37 = .ok (.putfield 21, 3) := by decide +kernel
theorem d_Line_init_40 : decode b_Line_init 40 = .ok (.aload_n 0, 1) := by decide +kernel
theorem d_Line_init_41 : decode b_Line_init 41 = .ok (.sipush 150, 3) := by decide +kernel
theorem d_Line_init_44 : decode b_Line_init 44 = .ok (.newarray .int, 2) := by decide +kernel
theorem d_Line_init_46 : decode b_Line_init 46 = .ok (.putfield 24, 3) := by decide +kernel
theorem d_Line_init_49 : decode b_Line_init 49 = .ok (.aload_n 0, 1) := by decide +kernel
theorem d_Line_init_50 : decode b_Line_init 50 = .ok (.sipush 150, 3) := by decide +kernel
theorem d_Line_init_53 : decode b_Line_init 53 = .ok (.newarray .int, 2) := by decide +kernel
theorem d_Line_init_55 : decode b_Line_init 55 = .ok (.putfield 27, 3) := by decide +kernel
theorem d_Line_init_58 : decode b_Line_init 58 = .ok (.aload_n 0, 1) := by decide +kernel
theorem d_Line_init_59 : decode b_Line_init 59 = .ok (.sipush 150, 3) := by decide +kernel
theorem d_Line_init_62 : decode b_Line_init 62 = .ok (.newarray .int, 2) := by decide +kernel
theorem d_Line_init_64 : decode b_Line_init 64 = .ok (.putfield 30, 3) := by decide +kernel
theorem d_Line_init_67 : decode b_Line_init 67 = .ok (.aload_n 0, 1) := by decide +kernel
theorem d_Line_init_68 : decode b_Line_init 68 = .ok (.sipush 150, 3) := by decide +kernel
theorem d_Line_init_71 : decode b_Line_init 71 = .ok (.newarray .int, 2) := by decide +kernel
theorem d_Line_init_73 : decode b_Line_init 73 = .ok (.putfield 33, 3) := by decide +kernel
theorem d_Line_init_76 : decode b_Line_init 76 = .ok (.aload_n 0, 1) := by decide +kernel
theorem d_Line_init_77 : decode b_Line_init 77 = .ok (.sipush 150, 3) := by decide +kernel
theorem d_Line_init_80 : decode b_Line_init 80 = .ok (.newarray .int, 2) := by decide +kernel
theorem d_Line_init_82 : decode b_Line_init 82 = .ok (.putfield 36, 3) := by decide +kernel
theorem d_Line_init_85 : decode b_Line_init 85 = .ok (.aload_n 0, 1) := by decide +kernel
theorem d_Line_init_86 : decode b_Line_init 86 = .ok (.sipush 150, 3) := by decide +kernel
theorem d_Line_init_89 : decode b_Line_init 89 = .ok (.newarray .int, 2) := by decide +kernel
theorem d_Line_init_91 : decode b_Line_init 91 = .ok (.putfield 39, 3) := by decide +kernel
theorem d_Line_init_94 : decode b_Line_init 94 = .ok (.aload_n 0, 1) := by decide +kernel
theorem d_Line_init_95 : decode b_Line_init 95 = .ok (.aload_n 1, 1) := by decide +kernel
theorem d_Line_init_96 : decode b_Line_init 96 = .ok (.putfield 42, 3) := by decide +kernel
theorem d_Line_init_99 : decode b_Line_init 99 = .ok (.return_, 1) := by decide +kernel
theorem lk_Line_3 : Cond.methodLink "TurtleWorld$Line" 3 ⟨"java/lang/Object", "<init>", "()V"⟩ ∈ tw_T := tw_i2 230 (by decide +kernel) (by decide +kernel)
theorem d_Names_init_0 : decode b_Names_init 0 = .ok (.aload_n 0, 1) := by decide +kernel
theorem d_Names_init_1 : decode b_Names_init 1 = .ok (.invokespecial 3, 3) := by decide +kernel
theorem d_Names_init_4 : decode b_Names_init 4 = .ok (.aload_n 0, 1) := by decide +kernel
theorem d_Names_init_5 : decode b_Names_init 5 = .ok (.bipush 64, 2) := by decide +kernel
theorem d_Names_init_7 : decode b_Names_init 7 = .ok (.newarray .int, 2) := by decide +kernel
theorem d_Names_init_9 : decode b_Names_init 9 = .ok (.putfield 11, 3) := by decide +kernel
theorem d_Names_init_12 : decode b_Names_init 12 = .ok (.aload_n 0, 1) := by decide +kernel
theorem d_Names_init_13 : decode b_Names_init 13 = .ok (.bipush 64, 2) := by decide +kernel
theorem d_Names_init_15 : decode b_Names_init 15 = .ok (.newarray .int, 2) := by decide +kernel
theorem d_Names_init_17 : decode b_Names_init 17 = .ok (.putfield 15, 3) := by decide +kernel
theorem d_Names_init_20 : decode b_Names_init 20 = .ok (.aload_n 0, 1) := by decide +kernel
theorem d_Names_init_21 : decode b_Names_init 21 = .ok (.sipush 1800, 3) := by decide +kernel
theorem d_Names_init_24 : decode b_Names_init 24 = .ok (.newarray .int, 2) := by decide +kernel
theorem d_Names_init_26 : decode b_Names_init 26 = .ok (.putfield 18, 3) := by decide +kernel
theorem d_Names_init_29 : decode b_Names_init 29 = .ok (.aload_n 0, 1) := by decide +kernel
theorem d_Names_init_30 : decode b_Names_init 30 = .ok (.sipush 1800, 3) := by decide +kernel
theorem d_Names_init_33 : decode b_Names_init 33 = .ok (.newarray .int, 2) := by decide +kernel
theorem d_Names_init_35 : decode b_Names_init 35 = .ok (.putfield 21, 3) := by decide +kernel
theorem d_Names_init_38 : decode b_Names_init 38 = .ok (.aload_n 0, 1) := by decide +kernel
theorem d_Names_init_39 : decode b_Names_init 39 = .ok (.bipush 64, 2) := by decide +kernel
theorem d_Names_init_41 : decode b_Names_init 41 = .ok (.newarray .int, 2) := by decide +kernel
theorem d_Names_init_43 : decode b_Names_init 43 = .ok (.putfield 24, 3) := by decide +kernel
theorem d_Names_init_46 : decode b_Names_init 46 = .ok (.aload_n 0, 1) := by decide +kernel
theorem d_Names_init_47 : decode b_Names_init 47 = .ok (.aload_n 1, 1) := by decide +kernel
theorem d_Names_init_48 : decode b_Names_init 48 = .ok (.putfield 27, 3) := by decide +kernel
theorem d_Names_init_51 : decode b_Names_init 51 = .ok (.return_, 1) := by decide +kernel
theorem lk_Names_3 : Cond.methodLink "TurtleWorld$Names" 3 ⟨"java/lang/Object", "<init>", "()V"⟩ ∈ tw_T := tw_i2 7 (by decide +kernel) (by decide +kernel)
theorem d_Procedures_init_0 : decode b_Procedures_init 0 = .ok (.aload_n 0, 1) := by decide +kernel
theorem d_Procedures_init_1 : decode b_Procedures_init 1 = .ok (.invokespecial 3, 3) := by decide +kernel
theorem d_Procedures_init_4 : decode b_Procedures_init 4 = .ok (.aload_n 0, 1) := by decide +kernel
theorem d_Procedures_init_5 : decode b_Procedures_init 5 = .ok (.bipush 40, 2) := by decide +kernel
theorem d_Procedures_init_7 : decode b_Procedures_init 7 = .ok (.newarray .int, 2) := by decide +kernel
theorem d_Procedures_init_9 : decode b_Procedures_init 9 = .ok (.putfield 11, 3) := by decide +kernel
theorem d_Procedures_init_12 : decode b_Procedures_init 12 = .ok (.aload_n 0, 1) := by decide +kernel
theorem d_Procedures_init_13 : decode b_Procedures_init 13 = .ok (.bipush 40, 2) := by decide +kernel
theorem d_Procedures_init_15 : decode b_Procedures_init 15 = .ok (.newarray .int, 2) := by decide +kernel
theorem d_Procedures_init_17 : decode b_Procedures_init 17 = .ok (.putfield 15, 3) := by decide +kernel
theorem d_Procedures_init_20 : decode b_Procedures_init 20 = .ok (.aload_n 0, 1) := by decide +kernel
theorem d_Procedures_init_21 : decode b_Procedures_init 21 = .ok (.bipush 40, 2) := by decide +kernel
theorem d_Procedures_init_23 : decode b_Procedures_init 23 = .ok (.newarray .int, 2) := by decide +kernel
theorem d_Procedures_init_25 : decode b_Procedures_init 25 = .ok (.putfield 18, 3) := by decide +kernel
theorem d_Procedures_init_28 : decode b_Procedures_init 28 = .ok (.aload_n 0, 1) := by decide +kernel
theorem d_Procedures_init_29 : decode b_Procedures_init 29 = .ok (.bipush 40, 2) := by decide +kernel
theorem d_Procedures_init_31 : decode b_Procedures_init 31 = .ok (.newarray .int, 2) := by decide +kernel
theorem d_Procedures_init_33 : decode b_Procedures_init 33 = .ok (.putfield 21, 3) := by decide +kernel
theorem d_Procedures_init_36 : decode b_Procedures_init 36 = .ok (.aload_n 0, 1) := by decide +kernel
theorem d_Procedures_init_37 : decode b_Procedures_init 37 = .ok (.bipush 40, 2) := by decide +kernel
theorem d_Procedures_init_39 : decode b_Procedures_init 39 = .ok (.newarray .int, 2) := by decide +kernel
theorem d_Procedures_init_41 : decode b_Procedures_init 41 = .ok (.putfield 24, 3) := by decide +kernel
theorem d_Procedures_init_44 : decode b_Procedures_init 44 = .ok (.aload_n 0, 1) := by decide +kernel
theorem d_Procedures_init_45 : decode b_Procedures_init 45 = .ok (.aload_n 1, 1) := by decide +kernel
theorem d_Procedures_init_46 : decode b_Procedures_init 46 = .ok (.putfield 27, 3) := by decide +kernel
theorem d_Procedures_init_49 : decode b_Procedures_init 49 = .ok (.return_, 1) := by decide +kernel
theorem lk_Procedures_3 : Cond.methodLink "TurtleWorld$Procedures" 3 ⟨"java/lang/Object", "<init>", "()V"⟩ ∈ tw_T := tw_i2 45 (by decide +kernel) (by decide +kernel)
theorem d_Output_init_0 : decode b_Output_init 0 = .ok (.aload_n 0, 1) := by decide +kernel
theorem d_Output_init_1 : decode b_Output_init 1 = .ok (.invokespecial 3, 3) := by decide +kernel
theorem d_Output_init_4 : decode b_Output_init 4 = .ok (.aload_n 0, 1) := by decide +kernel
theorem d_Output_init_5 : decode b_Output_init 5 = .ok (.sipush 2000, 3) := by decide +kernel
theorem d_Output_init_8 : decode b_Output_init 8 = .ok (.newarray .int, 2) := by decide +kernel
theorem d_Output_init_10 : decode b_Output_init 10 = .ok (.putfield 11, 3) := by decide +kernel
theorem d_Output_init_13 : decode b_Output_init 13 = .ok (.aload_n 0, 1) := by decide +kernel
theorem d_Output_init_14 : decode b_Output_init 14 = .ok (.sipush 2000, 3) := by decide +kernel
theorem d_Output_init_17 : decode b_Output_init 17 = .ok (.newarray .int, 2) := by decide +kernel
theorem d_Output_init_19 : decode b_Output_init 19 = .ok (.putfield 15, 3) := by decide +kernel
theorem d_Output_init_22 : decode b_Output_init 22 = .ok (.aload_n 0, 1) := by decide +kernel
theorem d_Output_init_23 : decode b_Output_init 23 = .ok (.sipush 8192, 3) := by decide +kernel
theorem d_Output_init_26 : decode b_Output_init 26 = .ok (.newarray .int, 2) := by decide +kernel
theorem d_Output_init_28 : decode b_Output_init 28 = .ok (.putfield 18, 3) := by decide +kernel
theorem d_Output_init_31 : decode b_Output_init 31 = .ok (.aload_n 0, 1) := by decide +kernel
theorem d_Output_init_32 : decode b_Output_init 32 = .ok (.sipush 700, 3) := by decide +kernel
theorem d_Output_init_35 : decode b_Output_init 35 = .ok (.newarray .int, 2) := by decide +kernel
theorem d_Output_init_37 : decode b_Output_init 37 = .ok (.putfield 21, 3) := by decide +kernel
theorem d_Output_init_40 : decode b_Output_init 40 = .ok (.aload_n 0, 1) := by decide +kernel
theorem d_Output_init_41 : decode b_Output_init 41 = .ok (.sipush 700, 3) := by decide +kernel
theorem d_Output_init_44 : decode b_Output_init 44 = .ok (.newarray .int, 2) := by decide +kernel
theorem d_Output_init_46 : decode b_Output_init 46 = .ok (.putfield 24, 3) := by decide +kernel
theorem d_Output_init_49 : decode b_Output_init 49 = .ok (.aload_n 0, 1) := by decide +kernel
theorem d_Output_init_50 : decode b_Output_init 50 = .ok (.aload_n 1, 1) := by decide +kernel
theorem d_Output_init_51 : decode b_Output_init 51 = .ok (.putfield 27, 3) := by decide +kernel
theorem d_Output_init_54 : decode b_Output_init 54 = .ok (.return_, 1) := by decide +kernel
theorem lk_Output_3 : Cond.methodLink "TurtleWorld$Output" 3 ⟨"java/lang/Object", "<init>", "()V"⟩ ∈ tw_T := tw_i2 119 (by decide +kernel) (by decide +kernel)
theorem lk_Output_21 : Cond.fieldLink "TurtleWorld$Output" 21 "TurtleWorld$Output" "lists" "[I" ∈ tw_T := tw_i2 132 (by decide +kernel) (by decide +kernel)
theorem lk_Output_24 : Cond.fieldLink "TurtleWorld$Output" 24 "TurtleWorld$Output" "nextMembers" "[I" ∈ tw_T := tw_i2 133 (by decide +kernel) (by decide +kernel)
theorem lk_Output_27 : Cond.fieldLink "TurtleWorld$Output" 27 "TurtleWorld$Output" "heap" "LTurtleWorld$Heap;" ∈ tw_T := tw_i2 120 (by decide +kernel) (by decide +kernel)
theorem d_Reader_init_0 : decode b_Reader_init 0 = .ok (.aload_n 0, 1) := by decide +kernel
theorem d_Reader_init_1 : decode b_Reader_init 1 = .ok (.invokespecial 3, 3) := by decide +kernel
theorem d_Reader_init_4 : decode b_Reader_init 4 = .ok (.aload_n 0, 1) := by decide +kernel
theorem d_Reader_init_5 : decode b_Reader_init 5 = .ok (.sipush 4000, 3) := by decide +kernel
theorem d_Reader_init_8 : decode b_Reader_init 8 = .ok (.newarray .int, 2) := by decide +kernel
theorem d_Reader_init_10 : decode b_Reader_init 10 = .ok (.putfield 11, 3) := by decide +kernel
theorem d_Reader_init_13 : decode b_Reader_init 13 = .ok (.aload_n 0, 1) := by decide +kernel
theorem d_Reader_init_14 : decode b_Reader_init 14 = .ok (.sipush 600, 3) := by decide +kernel
theorem d_Reader_init_17 : decode b_Reader_init 17 = .ok (.newarray .int, 2) := by decide +kernel
theorem d_Reader_init_19 : decode b_Reader_init 19 = .ok (.putfield 15, 3) := by decide +kernel
theorem d_Reader_init_22 : decode b_Reader_init 22 = .ok (.aload_n 0, 1) := by decide +kernel
theorem d_Reader_init_23 : decode b_Reader_init 23 = .ok (.bipush 20, 2) := by decide +kernel
theorem d_Reader_init_25 : decode b_Reader_init 25 = .ok (.newarray .int, 2) := by decide +kernel
theorem d_Reader_init_27 : decode b_Reader_init 27 = .ok (.putfield 18, 3) := by decide +kernel
theorem d_Reader_init_30 : decode b_Reader_init 30 = .ok (.aload_n 0, 1) := by decide +kernel
theorem d_Reader_init_31 : decode b_Reader_init 31 = .ok (.sipush 200, 3) := by decide +kernel
theorem d_Reader_init_34 : decode b_Reader_init 34 = .ok (.newarray .int, 2) := by decide +kernel
theorem d_Reader_init_36 : decode b_Reader_init 36 = .ok (.putfield 21, 3) := by decide +kernel
theorem d_Reader_init_39 : decode b_Reader_init 39 = .ok (.aload_n 0, 1) := by decide +kernel
theorem d_Reader_init_40 : decode b_Reader_init 40 = .ok (.sipush 200, 3) := by decide +kernel
theorem d_Reader_init_43 : decode b_Reader_init 43 = .ok (.newarray .int, 2) := by decide +kernel
theorem d_Reader_init_45 : decode b_Reader_init 45 = .ok (.putfield 24, 3) := by decide +kernel
theorem d_Reader_init_48 : decode b_Reader_init 48 = .ok (.aload_n 0, 1) := by decide +kernel
theorem d_Reader_init_49 : decode b_Reader_init 49 = .ok (.sipush 200, 3) := by decide +kernel
theorem d_Reader_init_52 : decode b_Reader_init 52 = .ok (.newarray .int, 2) := by decide +kernel
theorem d_Reader_init_54 : decode b_Reader_init 54 = .ok (.putfield 27, 3) := by decide +kernel
theorem d_Reader_init_57 : decode b_Reader_init 57 = .ok (.aload_n 0, 1) := by decide +kernel
theorem d_Reader_init_58 : decode b_Reader_init 58 = .ok (.aload_n 1, 1) := by decide +kernel
theorem d_Reader_init_59 : decode b_Reader_init 59 = .ok (.putfield 30, 3) := by decide +kernel
theorem d_Reader_init_62 : decode b_Reader_init 62 = .ok (.aload_n 0, 1) := by decide +kernel
theorem d_Reader_init_63 : decode b_Reader_init 63 = .ok (.aload_n 2, 1) := by decide +kernel
theorem d_Reader_init_64 : decode b_Reader_init 64 = .ok (.putfield 34, 3) := by decide +kernel
theorem d_Reader_init_67 : decode b_Reader_init 67 = .ok (.return_, 1) := by decide +kernel
theorem lk_Reader_3 : Cond.methodLink "TurtleWorld$Reader" 3 ⟨"java/lang/Object", "<init>", "()V"⟩ ∈ tw_T := tw_i2 162 (by decide +kernel) (by decide +kernel)
theorem lk_Reader_15 : Cond.fieldLink "TurtleWorld$Reader" 15 "TurtleWorld$Reader" "members" "[I" ∈ tw_T := tw_i2 174 (by decide +kernel) (by decide +kernel)
theorem lk_Reader_18 : Cond.fieldLink "TurtleWorld$Reader" 18 "TurtleWorld$Reader" "opened" "[I" ∈ tw_T := tw_i2 176 (by decide +kernel) (by decide +kernel)
theorem lk_Reader_21 : Cond.fieldLink "TurtleWorld$Reader" 21 "TurtleWorld$Reader" "newNames" "[I" ∈ tw_T := tw_i2 181 (by decide +kernel) (by decide +kernel)
theorem lk_Reader_24 : Cond.fieldLink "TurtleWorld$Reader" 24 "TurtleWorld$Reader" "newInputs" "[I" ∈ tw_T := tw_i2 182 (by decide +kernel) (by decide +kernel)
theorem lk_Reader_27 : Cond.fieldLink "TurtleWorld$Reader" 27 "TurtleWorld$Reader" "newBodies" "[I" ∈ tw_T := tw_i2 183 (by decide +kernel) (by decide +kernel)
theorem lk_Reader_30 : Cond.fieldLink "TurtleWorld$Reader" 30 "TurtleWorld$Reader" "heap" "LTurtleWorld$Heap;" ∈ tw_T := tw_i2 163 (by decide +kernel) (by decide +kernel)
theorem lk_Reader_34 : Cond.fieldLink "TurtleWorld$Reader" 34 "TurtleWorld$Reader" "procedures" "LTurtleWorld$Procedures;" ∈ tw_T := tw_i2 164 (by decide +kernel) (by decide +kernel)
theorem d_Turtles_init_0 : decode b_Turtles_init 0 = .ok (.aload_n 0, 1) := by decide +kernel
theorem d_Turtles_init_1 : decode b_Turtles_init 1 = .ok (.invokespecial 3, 3) := by decide +kernel
theorem d_Turtles_init_4 : decode b_Turtles_init 4 = .ok (.aload_n 0, 1) := by decide +kernel
theorem d_Turtles_init_5 : decode b_Turtles_init 5 = .ok (.bipush 56, 2) := by decide +kernel
theorem d_Turtles_init_7 : decode b_Turtles_init 7 = .ok (.newarray .int, 2) := by decide +kernel
theorem d_Turtles_init_9 : decode b_Turtles_init 9 = .ok (.putfield 11, 3) := by decide +kernel
theorem d_Turtles_init_12 : decode b_Turtles_init 12 = .ok (.aload_n 0, 1) := by decide +kernel
theorem d_Turtles_init_13 : decode b_Turtles_init 13 = .ok (.sipush 4096, 3) := by decide +kernel
theorem d_Turtles_init_16 : decode b_Turtles_init 16 = .ok (.newarray .int, 2) := by decide +kernel
theorem d_Turtles_init_18 : decode b_Turtles_init 18 = .ok (.putfield 15, 3) := by decide +kernel
theorem d_Turtles_init_21 : decode b_Turtles_init 21 = .ok (.aload_n 0, 1) := by decide +kernel
theorem d_Turtles_init_22 : decode b_Turtles_init 22 = .ok (.iconst 4, 1) := by decide +kernel
theorem d_Turtles_init_23 : decode b_Turtles_init 23 = .ok (.newarray .int, 2) := by decide +kernel
theorem d_Turtles_init_25 : decode b_Turtles_init 25 = .ok (.putfield 18, 3) := by decide +kernel
theorem d_Turtles_init_28 : decode b_Turtles_init 28 = .ok (.aload_n 0, 1) := by decide +kernel
theorem d_Turtles_init_29 : decode b_Turtles_init 29 = .ok (.iconst 4, 1) := by decide +kernel
theorem d_Turtles_init_30 : decode b_Turtles_init 30 = .ok (.newarray .int, 2) := by decide +kernel
theorem d_Turtles_init_32 : decode b_Turtles_init 32 = .ok (.putfield 21, 3) := by decide +kernel
theorem d_Turtles_init_35 : decode b_Turtles_init 35 = .ok (.aload_n 0, 1) := by decide +kernel
theorem d_Turtles_init_36 : decode b_Turtles_init 36 = .ok (.bipush 56, 2) := by decide +kernel
theorem d_Turtles_init_38 : decode b_Turtles_init 38 = .ok (.newarray .int, 2) := by decide +kernel
theorem d_Turtles_init_40 : decode b_Turtles_init 40 = .ok (.putfield 24, 3) := by decide +kernel
theorem d_Turtles_init_43 : decode b_Turtles_init 43 = .ok (.aload_n 0, 1) := by decide +kernel
theorem d_Turtles_init_44 : decode b_Turtles_init 44 = .ok (.sipush 4096, 3) := by decide +kernel
theorem d_Turtles_init_47 : decode b_Turtles_init 47 = .ok (.newarray .int, 2) := by decide +kernel
theorem d_Turtles_init_49 : decode b_Turtles_init 49 = .ok (.putfield 27, 3) := by decide +kernel
theorem d_Turtles_init_52 : decode b_Turtles_init 52 = .ok (.iconst 0, 1) := by decide +kernel
theorem d_Turtles_init_53 : decode b_Turtles_init 53 = .ok (.istore_n 1, 1) := by decide +kernel
theorem d_Turtles_init_54 : decode b_Turtles_init 54 = .ok (.iload_n 1, 1) := by decide +kernel
theorem d_Turtles_init_55 : decode b_Turtles_init 55 = .ok (.bipush 8, 2) := by decide +kernel
theorem d_Turtles_init_57 : decode b_Turtles_init 57 = .ok (.if_icmp .ge 34, 3) := by decide +kernel
theorem d_Turtles_init_60 : decode b_Turtles_init 60 = .ok (.aload_n 0, 1) := by decide +kernel
theorem d_Turtles_init_61 : decode b_Turtles_init 61 = .ok (.getfield 11, 3) := by decide +kernel
theorem d_Turtles_init_64 : decode b_Turtles_init 64 = .ok (.iload_n 1, 1) := by decide +kernel
theorem d_Turtles_init_65 : decode b_Turtles_init 65 = .ok (.bipush 7, 2) := by decide +kernel
theorem d_Turtles_init_67 : decode b_Turtles_init 67 = .ok (.imul, 1) := by decide +kernel
theorem d_Turtles_init_68 : decode b_Turtles_init 68 = .ok (.iconst 5, 1) := by decide +kernel
theorem d_Turtles_init_69 : decode b_Turtles_init 69 = .ok (.iadd, 1) := by decide +kernel
theorem d_Turtles_init_70 : decode b_Turtles_init 70 = .ok (.iconst 1, 1) := by decide +kernel
theorem d_Turtles_init_71 : decode b_Turtles_init 71 = .ok (.iastore, 1) := by decide +kernel
theorem d_Turtles_init_72 : decode b_Turtles_init 72 = .ok (.aload_n 0, 1) := by decide +kernel
theorem d_Turtles_init_73 : decode b_Turtles_init 73 = .ok (.getfield 11, 3) := by decide +kernel
theorem d_Turtles_init_76 : decode b_Turtles_init 76 = .ok (.iload_n 1, 1) := by decide +kernel
theorem d_Turtles_init_77 : decode b_Turtles_init 77 = .ok (.bipush 7, 2) := by decide +kernel
theorem d_Turtles_init_79 : decode b_Turtles_init 79 = .ok (.imul, 1) := by decide +kernel
theorem d_Turtles_init_80 : decode b_Turtles_init 80 = .ok (.bipush 6, 2) := by decide +kernel
theorem d_Turtles_init_82 : decode b_Turtles_init 82 = .ok (.iadd, 1) := by decide +kernel
theorem d_Turtles_init_83 : decode b_Turtles_init 83 = .ok (.iconst 1, 1) := by decide +kernel
theorem d_Turtles_init_84 : decode b_Turtles_init 84 = .ok (.iastore, 1) := by decide +kernel
theorem d_Turtles_init_85 : decode b_Turtles_init 85 = .ok (.iinc 1 1, 3) := by decide +kernel
theorem d_Turtles_init_88 : decode b_Turtles_init 88 = .ok (.goto (-34), 3) := by decide +kernel
theorem d_Turtles_init_91 : decode b_Turtles_init 91 = .ok (.return_, 1) := by decide +kernel
theorem lk_Turtles_3 : Cond.methodLink "TurtleWorld$Turtles" 3 ⟨"java/lang/Object", "<init>", "()V"⟩ ∈ tw_T := tw_i2 85 (by decide +kernel) (by decide +kernel)
theorem lk_Turtles_18 : Cond.fieldLink "TurtleWorld$Turtles" 18 "TurtleWorld$Turtles" "start" "[I" ∈ tw_T := tw_i2 92 (by decide +kernel) (by decide +kernel)
theorem lk_Turtles_21 : Cond.fieldLink "TurtleWorld$Turtles" 21 "TurtleWorld$Turtles" "goal" "[I" ∈ tw_T := tw_i2 93 (by decide +kernel) (by decide +kernel)
theorem cls_one {D : va_G} {cl : List vw_C} {tys : List (ClassId × FieldType)} {s : State} {c1 c2 : ClassId} (hK : va_K D cl (tys ++ [(c2, .int)]) s) (h : tys[0]? = some (c1, .int)) : c1 = c2 := by
  have h0 : (tys ++ [(c2, FieldType.int)])[0]? = some (c1, .int) := by
    rw [List.getElem?_append_left (List.getElem?_eq_some_iff.mp h).1]; exact h
  have a : s.vm.findClass ("[" ++ FieldType.int.toString) = some c1 := (hK.2 0 _ h0).2
  have b : s.vm.findClass ("[" ++ FieldType.int.toString) = some c2 := (hK.2 tys.length (c2, .int) (by simp)).2
  exact Option.some.inj (a.symm.trans b)

set_option maxHeartbeats 4000000 in
set_option maxRecDepth 100000 in
/-- a new Waiting -/
theorem c_Waiting_init (l : Launch) (dC : Nat → ClassId) (dI : Nat → Nat → Nat) (sz : Nat) (h0 : Nat) (cI : ClassId)  : Met l y_Waiting_init w_Waiting_init ({ frames := 1, cells := 8, slots := 34807, locals := 12 }) (va_Pc [.ref h0] (fun U => U.heap.size = sz ∧ va_P (dC, dI) classes [(h0, .inr (9, [.null, .null, .null, .null, .null, .null, .null, .int 0, .null, .int 0, .int 0]))] U.heap ∧ va_K (dC, dI) classes [(cI, .int)] U ∧ va_D (fun _ => True) [(h0, .inr (9, [.null, .null, .null, .null, .null, .null, .null, .int 0, .null, .int 0, .int 0]))])) (va_Qv (fun (_ : Unit) => True) (fun (_ : Unit) t => ∃ (q_1 q_2 q_3 q_4 q_5 q_6 q_7 q_8 : Nat), va_P (dC, dI) classes [(h0, .inr (9, [.ref q_1, .ref q_2, .ref q_3, .ref q_4, .ref q_5, .ref q_6, .ref q_7, .int 0, .ref q_8, .int 0, .int 0])), (q_1, .inl (cI, 401, .inl (fun _ => 0))), (q_2, .inl (cI, 401, .inl (fun _ => 0))), (q_3, .inl (cI, 401, .inl (fun _ => 0))), (q_4, .inl (cI, 401, .inl (fun _ => 0))), (q_5, .inl (cI, 401, .inl (fun _ => 0))), (q_6, .inl (cI, 401, .inl (fun _ => 0))), (q_7, .inl (cI, 401, .inl (fun _ => 0))), (q_8, .inl (cI, 32000, .inl (fun _ => 0)))] t.heap ∧ va_K (dC, dI) classes [(cI, .int)] t ∧ va_D (va_A [(h0, .inr (9, [.null, .null, .null, .null, .null, .null, .null, .int 0, .null, .int 0, .int 0]))] sz) [(h0, .inr (9, [.ref q_1, .ref q_2, .ref q_3, .ref q_4, .ref q_5, .ref q_6, .ref q_7, .int 0, .ref q_8, .int 0, .int 0])), (q_1, .inl (cI, 401, .inl (fun _ => 0))), (q_2, .inl (cI, 401, .inl (fun _ => 0))), (q_3, .inl (cI, 401, .inl (fun _ => 0))), (q_4, .inl (cI, 401, .inl (fun _ => 0))), (q_5, .inl (cI, 401, .inl (fun _ => 0))), (q_6, .inl (cI, 401, .inl (fun _ => 0))), (q_7, .inl (cI, 401, .inl (fun _ => 0))), (q_8, .inl (cI, 32000, .inl (fun _ => 0)))]) (va_A [(h0, .inr (9, [.null, .null, .null, .null, .null, .null, .null, .int 0, .null, .int 0, .int 0]))] sz)) 8 34807 (va_A [(h0, .inr (9, [.null, .null, .null, .null, .null, .null, .null, .int 0, .null, .int 0, .int 0]))] sz) := by
  refine Met.ofW (cc := b_Waiting_init) (maxL := 1) (ret := none) (by decide) rfl ?_
  intro p e s m args below meth c s₁ B hml hv
  obtain ⟨rfl, hsz, hP, hK, hD0⟩ := hv
  have hx := B.exec
  have hb := B.bytes
  have hr := B.returns
  have hts := atoms_spec (ws := w_Waiting_init) B.pre
  have htt : ∀ w ∈ tw_T, w.before _ s = true := fun w h => hts w (List.mem_cons_of_mem _ h)
  have hown : s.vm.findClass R_Waiting = some m.cls := findClass_of_methodNamed B.named
  have hlocks := B.notSynchronized
  subst hsz
  have hD := hD0.self (sz := s.heap.size)
  generalize hAe : va_A [(h0, .inr (9, [.null, .null, .null, .null, .null, .null, .null, .int 0, .null, .int 0, .int 0]))] s.heap.size = A at hD ⊢
  have hA : ∀ q : Nat, s.heap.size ≤ q → A q := fun q h => by rw [← hAe]; exact Or.inr h
  have hS : va_S A s.heap s.heap [] := va_S.rf
  have hP : va_P (dC, dI) classes [(h0, .inr (9, [.null, .null, .null, .null, .null, .null, .null, .int 0, .null, .int 0, .int 0]))] s.heap := hP
  have hl := lv_entry ([.ref h0]) (n := 1) (Nat.le_of_ble_eq_true rfl)
  rw [lg_entry_eq]
  generalize (lg_sl ([.ref h0]) ++ List.replicate (1 - (lg_sl ([.ref h0])).length) Slot.unset).toArray = ls at hl ⊢
  have hl : lv_has ls 1 [(0, .ref h0)] := hl
  have hin : meth.name = "<init>" := (name_of_methodNamed B.named B.method).1
  refine lv_aload_n hx hb d_Waiting_init_0 rfl (lv_at hl 0 rfl) ?_
  refine W.objInit hx hb hown (htt _ lk_Waiting_3) (htt _ in_objInit) (htt _ cw_objInit) rfl (by rw [hml]; exact hl.1) rfl d_Waiting_init_1 (Nat.le_of_ble_eq_true rfl) (Nat.le_of_ble_eq_true rfl) ?_
  refine W.eq (g2 := F0 m 4 ls []) rfl ?_
  refine lv_aload_n hx hb d_Waiting_init_4 rfl (lv_at hl 0 rfl) ?_
  refine lv_sipush (v := 401) hx hb d_Waiting_init_5 (by decide) ?_
  refine va_newa (atype := .int) (ty := .int) (a0 := (401, .inl (fun _ => 0))) (N' := 401) hx hb (htt _ ac_int) rfl hK hP hD hS hA (fun _ => rfl) (by decide) (by decide) (by decide) (Nat.le_of_ble_eq_true rfl) (Nat.le_of_ble_eq_true rfl) d_Waiting_init_8 (fun q_1 cA H hK hP hD hS => ?_)
  have e8 : cI = cA := cls_one hK rfl
  subst e8
  have hK := hK.sub (tys' := [(cI, .int)]) [0] rfl
  have hP : va_P (dC, dI) classes [(h0, .inr (9, [.null, .null, .null, .null, .null, .null, .null, .int 0, .null, .int 0, .int 0])), (q_1, .inl (cI, 401, .inl (fun _ => 0)))] H := hP
  have hD : va_D A [(h0, .inr (9, [.null, .null, .null, .null, .null, .null, .null, .int 0, .null, .int 0, .int 0])), (q_1, .inl (cI, 401, .inl (fun _ => 0)))] := hD
  refine va_putF (D := (dC, dI)) (ci := 9) (v := .ref q_1) (ty := .array .int) (C := R_Waiting) (T := F_Waiting) (N := 11) hx hb htt iw_Waiting t_Waiting t_Waiting_ok n_Waiting hown hK hP hD hS 0 rfl rfl 0 (by decide) (htt _ lk_Waiting_9) (fun _ h9 => h9) rfl hin rfl (by decide +kernel) rfl rfl (Nat.le_of_ble_eq_true rfl) d_Waiting_init_10 (fun H locs hP hD hS => ?_)
  have hP : va_P (dC, dI) classes [(h0, .inr (9, [.ref q_1, .null, .null, .null, .null, .null, .null, .int 0, .null, .int 0, .int 0])), (q_1, .inl (cI, 401, .inl (fun _ => 0)))] H := hP
  have hD : va_D A [(h0, .inr (9, [.ref q_1, .null, .null, .null, .null, .null, .null, .int 0, .null, .int 0, .int 0])), (q_1, .inl (cI, 401, .inl (fun _ => 0)))] := hD
  refine lv_aload_n hx hb d_Waiting_init_13 rfl (lv_at hl 0 rfl) ?_
  refine lv_sipush (v := 401) hx hb d_Waiting_init_14 (by decide) ?_
  refine va_newa (atype := .int) (ty := .int) (a0 := (401, .inl (fun _ => 0))) (N' := 401) hx hb (htt _ ac_int) rfl hK hP hD hS hA (fun _ => rfl) (by decide) (by decide) (by decide) (Nat.le_of_ble_eq_true rfl) (Nat.le_of_ble_eq_true rfl) d_Waiting_init_17 (fun q_2 cA H hK hP hD hS => ?_)
  have e8 : cI = cA := cls_one hK rfl
  subst e8
  have hK := hK.sub (tys' := [(cI, .int)]) [0] rfl
  have hP : va_P (dC, dI) classes [(h0, .inr (9, [.ref q_1, .null, .null, .null, .null, .null, .null, .int 0, .null, .int 0, .int 0])), (q_1, .inl (cI, 401, .inl (fun _ => 0))), (q_2, .inl (cI, 401, .inl (fun _ => 0)))] H := hP
  have hD : va_D A [(h0, .inr (9, [.ref q_1, .null, .null, .null, .null, .null, .null, .int 0, .null, .int 0, .int 0])), (q_1, .inl (cI, 401, .inl (fun _ => 0))), (q_2, .inl (cI, 401, .inl (fun _ => 0)))] := hD
  refine va_putF (D := (dC, dI)) (ci := 9) (v := .ref q_2) (ty := .array .int) (C := R_Waiting) (T := F_Waiting) (N := 11) hx hb htt iw_Waiting t_Waiting t_Waiting_ok n_Waiting hown hK hP hD hS 0 rfl rfl 1 (by decide) (htt _ lk_Waiting_15) (fun _ h9 => h9) rfl hin rfl (by decide +kernel) rfl rfl (Nat.le_of_ble_eq_true rfl) d_Waiting_init_19 (fun H locs hP hD hS => ?_)
  have hP : va_P (dC, dI) classes [(h0, .inr (9, [.ref q_1, .ref q_2, .null, .null, .null, .null, .null, .int 0, .null, .int 0, .int 0])), (q_1, .inl (cI, 401, .inl (fun _ => 0))), (q_2, .inl (cI, 401, .inl (fun _ => 0)))] H := hP
  have hD : va_D A [(h0, .inr (9, [.ref q_1, .ref q_2, .null, .null, .null, .null, .null, .int 0, .null, .int 0, .int 0])), (q_1, .inl (cI, 401, .inl (fun _ => 0))), (q_2, .inl (cI, 401, .inl (fun _ => 0)))] := hD
  refine lv_aload_n hx hb d_Waiting_init_22 rfl (lv_at hl 0 rfl) ?_
  refine lv_sipush (v := 401) hx hb d_Waiting_init_23 (by decide) ?_
  refine va_newa (atype := .int) (ty := .int) (a0 := (401, .inl (fun _ => 0))) (N' := 401) hx hb (htt _ ac_int) rfl hK hP hD hS hA (fun _ => rfl) (by decide) (by decide) (by decide) (Nat.le_of_ble_eq_true rfl) (Nat.le_of_ble_eq_true rfl) d_Waiting_init_26 (fun q_3 cA H hK hP hD hS => ?_)
  have e8 : cI = cA := cls_one hK rfl
  subst e8
  have hK := hK.sub (tys' := [(cI, .int)]) [0] rfl
  have hP : va_P (dC, dI) classes [(h0, .inr (9, [.ref q_1, .ref q_2, .null, .null, .null, .null, .null, .int 0, .null, .int 0, .int 0])), (q_1, .inl (cI, 401, .inl (fun _ => 0))), (q_2, .inl (cI, 401, .inl (fun _ => 0))), (q_3, .inl (cI, 401, .inl (fun _ => 0)))] H := hP
  have hD : va_D A [(h0, .inr (9, [.ref q_1, .ref q_2, .null, .null, .null, .null, .null, .int 0, .null, .int 0, .int 0])), (q_1, .inl (cI, 401, .inl (fun _ => 0))), (q_2, .inl (cI, 401, .inl (fun _ => 0))), (q_3, .inl (cI, 401, .inl (fun _ => 0)))] := hD
  refine va_putF (D := (dC, dI)) (ci := 9) (v := .ref q_3) (ty := .array .int) (C := R_Waiting) (T := F_Waiting) (N := 11) hx hb htt iw_Waiting t_Waiting t_Waiting_ok n_Waiting hown hK hP hD hS 0 rfl rfl 2 (by decide) (htt _ lk_Waiting_18) (fun _ h9 => h9) rfl hin rfl (by decide +kernel) rfl rfl (Nat.le_of_ble_eq_true rfl) d_Waiting_init_28 (fun H locs hP hD hS => ?_)
  have hP : va_P (dC, dI) classes [(h0, .inr (9, [.ref q_1, .ref q_2, .ref q_3, .null, .null, .null, .null, .int 0, .null, .int 0, .int 0])), (q_1, .inl (cI, 401, .inl (fun _ => 0))), (q_2, .inl (cI, 401, .inl (fun _ => 0))), (q_3, .inl (cI, 401, .inl (fun _ => 0)))] H := hP
  have hD : va_D A [(h0, .inr (9, [.ref q_1, .ref q_2, .ref q_3, .null, .null, .null, .null, .int 0, .null, .int 0, .int 0])), (q_1, .inl (cI, 401, .inl (fun _ => 0))), (q_2, .inl (cI, 401, .inl (fun _ => 0))), (q_3, .inl (cI, 401, .inl (fun _ => 0)))] := hD
  refine lv_aload_n hx hb d_Waiting_init_31 rfl (lv_at hl 0 rfl) ?_
  refine lv_sipush (v := 401) hx hb d_Waiting_init_32 (by decide) ?_
  refine va_newa (atype := .int) (ty := .int) (a0 := (401, .inl (fun _ => 0))) (N' := 401) hx hb (htt _ ac_int) rfl hK hP hD hS hA (fun _ => rfl) (by decide) (by decide) (by decide) (Nat.le_of_ble_eq_true rfl) (Nat.le_of_ble_eq_true rfl) d_Waiting_init_35 (fun q_4 cA H hK hP hD hS => ?_)
  have e8 : cI = cA := cls_one hK rfl
  subst e8
  have hK := hK.sub (tys' := [(cI, .int)]) [0] rfl
  have hP : va_P (dC, dI) classes [(h0, .inr (9, [.ref q_1, .ref q_2, .ref q_3, .null, .null, .null, .null, .int 0, .null, .int 0, .int 0])), (q_1, .inl (cI, 401, .inl (fun _ => 0))), (q_2, .inl (cI, 401, .inl (fun _ => 0))), (q_3, .inl (cI, 401, .inl (fun _ => 0))), (q_4, .inl (cI, 401, .inl (fun _ => 0)))] H := hP
  have hD : va_D A [(h0, .inr (9, [.ref q_1, .ref q_2, .ref q_3, .null, .null, .null, .null, .int 0, .null, .int 0, .int 0])), (q_1, .inl (cI, 401, .inl (fun _ => 0))), (q_2, .inl (cI, 401, .inl (fun _ => 0))), (q_3, .inl (cI, 401, .inl (fun _ => 0))), (q_4, .inl (cI, 401, .inl (fun _ => 0)))] := hD
  refine va_putF (D := (dC, dI)) (ci := 9) (v := .ref q_4) (ty := .array .int) (C := R_Waiting) (T := F_Waiting) (N := 11) hx hb htt iw_Waiting t_Waiting t_Waiting_ok n_Waiting hown hK hP hD hS 0 rfl rfl 3 (by decide) (htt _ lk_Waiting_21) (fun _ h9 => h9) rfl hin rfl (by decide +kernel) rfl rfl (Nat.le_of_ble_eq_true rfl) d_Waiting_init_37 (fun H locs hP hD hS => ?_)
  have hP : va_P (dC, dI) classes [(h0, .inr (9, [.ref q_1, .ref q_2, .ref q_3, .ref q_4, .null, .null, .null, .int 0, .null, .int 0, .int 0])), (q_1, .inl (cI, 401, .inl (fun _ => 0))), (q_2, .inl (cI, 401, .inl (fun _ => 0))), (q_3, .inl (cI, 401, .inl (fun _ => 0))), (q_4, .inl (cI, 401, .inl (fun _ => 0)))] H := hP
  have hD : va_D A [(h0, .inr (9, [.ref q_1, .ref q_2, .ref q_3, .ref q_4, .null, .null, .null, .int 0, .null, .int 0, .int 0])), (q_1, .inl (cI, 401, .inl (fun _ => 0))), (q_2, .inl (cI, 401, .inl (fun _ => 0))), (q_3, .inl (cI, 401, .inl (fun _ => 0))), (q_4, .inl (cI, 401, .inl (fun _ => 0)))] := hD
  refine lv_aload_n hx hb d_Waiting_init_40 rfl (lv_at hl 0 rfl) ?_
  refine lv_sipush (v := 401) hx hb d_Waiting_init_41 (by decide) ?_
  refine va_newa (atype := .int) (ty := .int) (a0 := (401, .inl (fun _ => 0))) (N' := 401) hx hb (htt _ ac_int) rfl hK hP hD hS hA (fun _ => rfl) (by decide) (by decide) (by decide) (Nat.le_of_ble_eq_true rfl) (Nat.le_of_ble_eq_true rfl) d_Waiting_init_44 (fun q_5 cA H hK hP hD hS => ?_)
  have e8 : cI = cA := cls_one hK rfl
  subst e8
  have hK := hK.sub (tys' := [(cI, .int)]) [0] rfl
  have hP : va_P (dC, dI) classes [(h0, .inr (9, [.ref q_1, .ref q_2, .ref q_3, .ref q_4, .null, .null, .null, .int 0, .null, .int 0, .int 0])), (q_1, .inl (cI, 401, .inl (fun _ => 0))), (q_2, .inl (cI, 401, .inl (fun _ => 0))), (q_3, .inl (cI, 401, .inl (fun _ => 0))), (q_4, .inl (cI, 401, .inl (fun _ => 0))), (q_5, .inl (cI, 401, .inl (fun _ => 0)))] H := hP
  have hD : va_D A [(h0, .inr (9, [.ref q_1, .ref q_2, .ref q_3, .ref q_4, .null, .null, .null, .int 0, .null, .int 0, .int 0])), (q_1, .inl (cI, 401, .inl (fun _ => 0))), (q_2, .inl (cI, 401, .inl (fun _ => 0))), (q_3, .inl (cI, 401, .inl (fun _ => 0))), (q_4, .inl (cI, 401, .inl (fun _ => 0))), (q_5, .inl (cI, 401, .inl (fun _ => 0)))] := hD
  refine va_putF (D := (dC, dI)) (ci := 9) (v := .ref q_5) (ty := .array .int) (C := R_Waiting) (T := F_Waiting) (N := 11) hx hb htt iw_Waiting t_Waiting t_Waiting_ok n_Waiting hown hK hP hD hS 0 rfl rfl 4 (by decide) (htt _ lk_Waiting_24) (fun _ h9 => h9) rfl hin rfl (by decide +kernel) rfl rfl (Nat.le_of_ble_eq_true rfl) d_Waiting_init_46 (fun H locs hP hD hS => ?_)
  have hP : va_P (dC, dI) classes [(h0, .inr (9, [.ref q_1, .ref q_2, .ref q_3, .ref q_4, .ref q_5, .null, .null, .int 0, .null, .int 0, .int 0])), (q_1, .inl (cI, 401, .inl (fun _ => 0))), (q_2, .inl (cI, 401, .inl (fun _ => 0))), (q_3, .inl (cI, 401, .inl (fun _ => 0))), (q_4, .inl (cI, 401, .inl (fun _ => 0))), (q_5, .inl (cI, 401, .inl (fun _ => 0)))] H := hP
  have hD : va_D A [(h0, .inr (9, [.ref q_1, .ref q_2, .ref q_3, .ref q_4, .ref q_5, .null, .null, .int 0, .null, .int 0, .int 0])), (q_1, .inl (cI, 401, .inl (fun _ => 0))), (q_2, .inl (cI, 401, .inl (fun _ => 0))), (q_3, .inl (cI, 401, .inl (fun _ => 0))), (q_4, .inl (cI, 401, .inl (fun _ => 0))), (q_5, .inl (cI, 401, .inl (fun _ => 0)))] := hD
  refine lv_aload_n hx hb d_Waiting_init_49 rfl (lv_at hl 0 rfl) ?_
  refine lv_sipush (v := 401) hx hb d_Waiting_init_50 (by decide) ?_
  refine va_newa (atype := .int) (ty := .int) (a0 := (401, .inl (fun _ => 0))) (N' := 401) hx hb (htt _ ac_int) rfl hK hP hD hS hA (fun _ => rfl) (by decide) (by decide) (by decide) (Nat.le_of_ble_eq_true rfl) (Nat.le_of_ble_eq_true rfl) d_Waiting_init_53 (fun q_6 cA H hK hP hD hS => ?_)
  have e8 : cI = cA := cls_one hK rfl
  subst e8
  have hK := hK.sub (tys' := [(cI, .int)]) [0] rfl
  have hP : va_P (dC, dI) classes [(h0, .inr (9, [.ref q_1, .ref q_2, .ref q_3, .ref q_4, .ref q_5, .null, .null, .int 0, .null, .int 0, .int 0])), (q_1, .inl (cI, 401, .inl (fun _ => 0))), (q_2, .inl (cI, 401, .inl (fun _ => 0))), (q_3, .inl (cI, 401, .inl (fun _ => 0))), (q_4, .inl (cI, 401, .inl (fun _ => 0))), (q_5, .inl (cI, 401, .inl (fun _ => 0))), (q_6, .inl (cI, 401, .inl (fun _ => 0)))] H := hP
  have hD : va_D A [(h0, .inr (9, [.ref q_1, .ref q_2, .ref q_3, .ref q_4, .ref q_5, .null, .null, .int 0, .null, .int 0, .int 0])), (q_1, .inl (cI, 401, .inl (fun _ => 0))), (q_2, .inl (cI, 401, .inl (fun _ => 0))), (q_3, .inl (cI, 401, .inl (fun _ => 0))), (q_4, .inl (cI, 401, .inl (fun _ => 0))), (q_5, .inl (cI, 401, .inl (fun _ => 0))), (q_6, .inl (cI, 401, .inl (fun _ => 0)))] := hD
  refine va_putF (D := (dC, dI)) (ci := 9) (v := .ref q_6) (ty := .array .int) (C := R_Waiting) (T := F_Waiting) (N := 11) hx hb htt iw_Waiting t_Waiting t_Waiting_ok n_Waiting hown hK hP hD hS 0 rfl rfl 5 (by decide) (htt _ lk_Waiting_27) (fun _ h9 => h9) rfl hin rfl (by decide +kernel) rfl rfl (Nat.le_of_ble_eq_true rfl) d_Waiting_init_55 (fun H locs hP hD hS => ?_)
  have hP : va_P (dC, dI) classes [(h0, .inr (9, [.ref q_1, .ref q_2, .ref q_3, .ref q_4, .ref q_5, .ref q_6, .null, .int 0, .null, .int 0, .int 0])), (q_1, .inl (cI, 401, .inl (fun _ => 0))), (q_2, .inl (cI, 401, .inl (fun _ => 0))), (q_3, .inl (cI, 401, .inl (fun _ => 0))), (q_4, .inl (cI, 401, .inl (fun _ => 0))), (q_5, .inl (cI, 401, .inl (fun _ => 0))), (q_6, .inl (cI, 401, .inl (fun _ => 0)))] H := hP
  have hD : va_D A [(h0, .inr (9, [.ref q_1, .ref q_2, .ref q_3, .ref q_4, .ref q_5, .ref q_6, .null, .int 0, .null, .int 0, .int 0])), (q_1, .inl (cI, 401, .inl (fun _ => 0))), (q_2, .inl (cI, 401, .inl (fun _ => 0))), (q_3, .inl (cI, 401, .inl (fun _ => 0))), (q_4, .inl (cI, 401, .inl (fun _ => 0))), (q_5, .inl (cI, 401, .inl (fun _ => 0))), (q_6, .inl (cI, 401, .inl (fun _ => 0)))] := hD
  refine lv_aload_n hx hb d_Waiting_init_58 rfl (lv_at hl 0 rfl) ?_
  refine lv_sipush (v := 401) hx hb d_Waiting_init_59 (by decide) ?_
  refine va_newa (atype := .int) (ty := .int) (a0 := (401, .inl (fun _ => 0))) (N' := 401) hx hb (htt _ ac_int) rfl hK hP hD hS hA (fun _ => rfl) (by decide) (by decide) (by decide) (Nat.le_of_ble_eq_true rfl) (Nat.le_of_ble_eq_true rfl) d_Waiting_init_62 (fun q_7 cA H hK hP hD hS => ?_)
  have e8 : cI = cA := cls_one hK rfl
  subst e8
  have hK := hK.sub (tys' := [(cI, .int)]) [0] rfl
  have hP : va_P (dC, dI) classes [(h0, .inr (9, [.ref q_1, .ref q_2, .ref q_3, .ref q_4, .ref q_5, .ref q_6, .null, .int 0, .null, .int 0, .int 0])), (q_1, .inl (cI, 401, .inl (fun _ => 0))), (q_2, .inl (cI, 401, .inl (fun _ => 0))), (q_3, .inl (cI, 401, .inl (fun _ => 0))), (q_4, .inl (cI, 401, .inl (fun _ => 0))), (q_5, .inl (cI, 401, .inl (fun _ => 0))), (q_6, .inl (cI, 401, .inl (fun _ => 0))), (q_7, .inl (cI, 401, .inl (fun _ => 0)))] H := hP
  have hD : va_D A [(h0, .inr (9, [.ref q_1, .ref q_2, .ref q_3, .ref q_4, .ref q_5, .ref q_6, .null, .int 0, .null, .int 0, .int 0])), (q_1, .inl (cI, 401, .inl (fun _ => 0))), (q_2, .inl (cI, 401, .inl (fun _ => 0))), (q_3, .inl (cI, 401, .inl (fun _ => 0))), (q_4, .inl (cI, 401, .inl (fun _ => 0))), (q_5, .inl (cI, 401, .inl (fun _ => 0))), (q_6, .inl (cI, 401, .inl (fun _ => 0))), (q_7, .inl (cI, 401, .inl (fun _ => 0)))] := hD
  refine va_putF (D := (dC, dI)) (ci := 9) (v := .ref q_7) (ty := .array .int) (C := R_Waiting) (T := F_Waiting) (N := 11) hx hb htt iw_Waiting t_Waiting t_Waiting_ok n_Waiting hown hK hP hD hS 0 rfl rfl 6 (by decide) (htt _ lk_Waiting_30) (fun _ h9 => h9) rfl hin rfl (by decide +kernel) rfl rfl (Nat.le_of_ble_eq_true rfl) d_Waiting_init_64 (fun H locs hP hD hS => ?_)
  have hP : va_P (dC, dI) classes [(h0, .inr (9, [.ref q_1, .ref q_2, .ref q_3, .ref q_4, .ref q_5, .ref q_6, .ref q_7, .int 0, .null, .int 0, .int 0])), (q_1, .inl (cI, 401, .inl (fun _ => 0))), (q_2, .inl (cI, 401, .inl (fun _ => 0))), (q_3, .inl (cI, 401, .inl (fun _ => 0))), (q_4, .inl (cI, 401, .inl (fun _ => 0))), (q_5, .inl (cI, 401, .inl (fun _ => 0))), (q_6, .inl (cI, 401, .inl (fun _ => 0))), (q_7, .inl (cI, 401, .inl (fun _ => 0)))] H := hP
  have hD : va_D A [(h0, .inr (9, [.ref q_1, .ref q_2, .ref q_3, .ref q_4, .ref q_5, .ref q_6, .ref q_7, .int 0, .null, .int 0, .int 0])), (q_1, .inl (cI, 401, .inl (fun _ => 0))), (q_2, .inl (cI, 401, .inl (fun _ => 0))), (q_3, .inl (cI, 401, .inl (fun _ => 0))), (q_4, .inl (cI, 401, .inl (fun _ => 0))), (q_5, .inl (cI, 401, .inl (fun _ => 0))), (q_6, .inl (cI, 401, .inl (fun _ => 0))), (q_7, .inl (cI, 401, .inl (fun _ => 0)))] := hD
  refine lv_aload_n hx hb d_Waiting_init_67 rfl (lv_at hl 0 rfl) ?_
  refine lv_sipush (v := 32000) hx hb d_Waiting_init_68 (by decide) ?_
  refine va_newa (atype := .int) (ty := .int) (a0 := (32000, .inl (fun _ => 0))) (N' := 32000) hx hb (htt _ ac_int) rfl hK hP hD hS hA (fun _ => rfl) (by decide) (by decide) (by decide) (Nat.le_of_ble_eq_true rfl) (Nat.le_of_ble_eq_true rfl) d_Waiting_init_71 (fun q_8 cA H hK hP hD hS => ?_)
  have e8 : cI = cA := cls_one hK rfl
  subst e8
  have hK := hK.sub (tys' := [(cI, .int)]) [0] rfl
  have hP : va_P (dC, dI) classes [(h0, .inr (9, [.ref q_1, .ref q_2, .ref q_3, .ref q_4, .ref q_5, .ref q_6, .ref q_7, .int 0, .null, .int 0, .int 0])), (q_1, .inl (cI, 401, .inl (fun _ => 0))), (q_2, .inl (cI, 401, .inl (fun _ => 0))), (q_3, .inl (cI, 401, .inl (fun _ => 0))), (q_4, .inl (cI, 401, .inl (fun _ => 0))), (q_5, .inl (cI, 401, .inl (fun _ => 0))), (q_6, .inl (cI, 401, .inl (fun _ => 0))), (q_7, .inl (cI, 401, .inl (fun _ => 0))), (q_8, .inl (cI, 32000, .inl (fun _ => 0)))] H := hP
  have hD : va_D A [(h0, .inr (9, [.ref q_1, .ref q_2, .ref q_3, .ref q_4, .ref q_5, .ref q_6, .ref q_7, .int 0, .null, .int 0, .int 0])), (q_1, .inl (cI, 401, .inl (fun _ => 0))), (q_2, .inl (cI, 401, .inl (fun _ => 0))), (q_3, .inl (cI, 401, .inl (fun _ => 0))), (q_4, .inl (cI, 401, .inl (fun _ => 0))), (q_5, .inl (cI, 401, .inl (fun _ => 0))), (q_6, .inl (cI, 401, .inl (fun _ => 0))), (q_7, .inl (cI, 401, .inl (fun _ => 0))), (q_8, .inl (cI, 32000, .inl (fun _ => 0)))] := hD
  refine va_putF (D := (dC, dI)) (ci := 9) (v := .ref q_8) (ty := .array .int) (C := R_Waiting) (T := F_Waiting) (N := 11) hx hb htt iw_Waiting t_Waiting t_Waiting_ok n_Waiting hown hK hP hD hS 0 rfl rfl 8 (by decide) (htt _ lk_Waiting_33) (fun _ h9 => h9) rfl hin rfl (by decide +kernel) rfl rfl (Nat.le_of_ble_eq_true rfl) d_Waiting_init_73 (fun H locs hP hD hS => ?_)
  have hP : va_P (dC, dI) classes [(h0, .inr (9, [.ref q_1, .ref q_2, .ref q_3, .ref q_4, .ref q_5, .ref q_6, .ref q_7, .int 0, .ref q_8, .int 0, .int 0])), (q_1, .inl (cI, 401, .inl (fun _ => 0))), (q_2, .inl (cI, 401, .inl (fun _ => 0))), (q_3, .inl (cI, 401, .inl (fun _ => 0))), (q_4, .inl (cI, 401, .inl (fun _ => 0))), (q_5, .inl (cI, 401, .inl (fun _ => 0))), (q_6, .inl (cI, 401, .inl (fun _ => 0))), (q_7, .inl (cI, 401, .inl (fun _ => 0))), (q_8, .inl (cI, 32000, .inl (fun _ => 0)))] H := hP
  have hD : va_D A [(h0, .inr (9, [.ref q_1, .ref q_2, .ref q_3, .ref q_4, .ref q_5, .ref q_6, .ref q_7, .int 0, .ref q_8, .int 0, .int 0])), (q_1, .inl (cI, 401, .inl (fun _ => 0))), (q_2, .inl (cI, 401, .inl (fun _ => 0))), (q_3, .inl (cI, 401, .inl (fun _ => 0))), (q_4, .inl (cI, 401, .inl (fun _ => 0))), (q_5, .inl (cI, 401, .inl (fun _ => 0))), (q_6, .inl (cI, 401, .inl (fun _ => 0))), (q_7, .inl (cI, 401, .inl (fun _ => 0))), (q_8, .inl (cI, 32000, .inl (fun _ => 0)))] := hD
  have hP9 := hP.sub (ws' := [(h0, .inr (9, [.ref q_1, .ref q_2, .ref q_3, .ref q_4, .ref q_5, .ref q_6, .ref q_7, .int 0, .ref q_8, .int 0, .int 0])), (q_1, .inl (cI, 401, .inl (fun _ => 0))), (q_2, .inl (cI, 401, .inl (fun _ => 0))), (q_3, .inl (cI, 401, .inl (fun _ => 0))), (q_4, .inl (cI, 401, .inl (fun _ => 0))), (q_5, .inl (cI, 401, .inl (fun _ => 0))), (q_6, .inl (cI, 401, .inl (fun _ => 0))), (q_7, .inl (cI, 401, .inl (fun _ => 0))), (q_8, .inl (cI, 32000, .inl (fun _ => 0)))]) [0, 1, 2, 3, 4, 5, 6, 7, 8] rfl
  have hD9 := hD.sub (ws' := [(h0, .inr (9, [.ref q_1, .ref q_2, .ref q_3, .ref q_4, .ref q_5, .ref q_6, .ref q_7, .int 0, .ref q_8, .int 0, .int 0])), (q_1, .inl (cI, 401, .inl (fun _ => 0))), (q_2, .inl (cI, 401, .inl (fun _ => 0))), (q_3, .inl (cI, 401, .inl (fun _ => 0))), (q_4, .inl (cI, 401, .inl (fun _ => 0))), (q_5, .inl (cI, 401, .inl (fun _ => 0))), (q_6, .inl (cI, 401, .inl (fun _ => 0))), (q_7, .inl (cI, 401, .inl (fun _ => 0))), (q_8, .inl (cI, 32000, .inl (fun _ => 0)))]) [0, 1, 2, 3, 4, 5, 6, 7, 8] (by decide) rfl
  refine W.widen (k := 8) (n := 34807) (Nat.le_of_ble_eq_true rfl) (Nat.le_of_ble_eq_true rfl) ?_
  exact W.vret hx hb hr (fun t9 ht hW => ⟨⟨(), rfl, trivial, q_1, q_2, q_3, q_4, q_5, q_6, q_7, q_8, by rw [ht]; exact hP9, va_K.moved hW.alike hK, hD9⟩, hS.F ht⟩) hS.2.2 d_Waiting_init_76

set_option maxHeartbeats 4000000 in
set_option maxRecDepth 100000 in
/-- a new Line -/
theorem c_Line_init (l : Launch) (dC : Nat → ClassId) (dI : Nat → Nat → Nat) (sz : Nat) (h0 : Nat) (cI : ClassId) (a1 : Nat)  : Met l y_Line_init w_Line_init ({ frames := 1, cells := 10, slots := 1500, locals := 12 }) (va_Pc [.ref h0, .ref a1] (fun U => U.heap.size = sz ∧ va_P (dC, dI) classes [(h0, .inr (8, [.null, .int 0, .int 0, .int 0, .int 0, .int 0, .int 0, .int 0, .null, .null, .null, .null, .null, .null, .null, .null, .null, .null]))] U.heap ∧ va_K (dC, dI) classes [(cI, .int)] U ∧ va_D (fun _ => True) [(h0, .inr (8, [.null, .int 0, .int 0, .int 0, .int 0, .int 0, .int 0, .int 0, .null, .null, .null, .null, .null, .null, .null, .null, .null, .null]))])) (va_Qv (fun (_ : Unit) => True) (fun (_ : Unit) t => ∃ (q_1 q_2 q_3 q_4 q_5 q_6 q_7 q_8 q_9 q_10 : Nat), va_P (dC, dI) classes [(h0, .inr (8, [.ref a1, .int 0, .int 0, .int 0, .int 0, .int 0, .int 0, .int 0, .ref q_1, .ref q_2, .ref q_3, .ref q_4, .ref q_5, .ref q_6, .ref q_7, .ref q_8, .ref q_9, .ref q_10])), (q_1, .inl (cI, 150, .inl (fun _ => 0))), (q_2, .inl (cI, 150, .inl (fun _ => 0))), (q_3, .inl (cI, 150, .inl (fun _ => 0))), (q_4, .inl (cI, 150, .inl (fun _ => 0))), (q_5, .inl (cI, 150, .inl (fun _ => 0))), (q_6, .inl (cI, 150, .inl (fun _ => 0))), (q_7, .inl (cI, 150, .inl (fun _ => 0))), (q_8, .inl (cI, 150, .inl (fun _ => 0))), (q_9, .inl (cI, 150, .inl (fun _ => 0))), (q_10, .inl (cI, 150, .inl (fun _ => 0)))] t.heap ∧ va_K (dC, dI) classes [(cI, .int)] t ∧ va_D (va_A [(h0, .inr (8, [.null, .int 0, .int 0, .int 0, .int 0, .int 0, .int 0, .int 0, .null, .null, .null, .null, .null, .null, .null, .null, .null, .null]))] sz) [(h0, .inr (8, [.ref a1, .int 0, .int 0, .int 0, .int 0, .int 0, .int 0, .int 0, .ref q_1, .ref q_2, .ref q_3, .ref q_4, .ref q_5, .ref q_6, .ref q_7, .ref q_8, .ref q_9, .ref q_10])), (q_1, .inl (cI, 150, .inl (fun _ => 0))), (q_2, .inl (cI, 150, .inl (fun _ => 0))), (q_3, .inl (cI, 150, .inl (fun _ => 0))), (q_4, .inl (cI, 150, .inl (fun _ => 0))), (q_5, .inl (cI, 150, .inl (fun _ => 0))), (q_6, .inl (cI, 150, .inl (fun _ => 0))), (q_7, .inl (cI, 150, .inl (fun _ => 0))), (q_8, .inl (cI, 150, .inl (fun _ => 0))), (q_9, .inl (cI, 150, .inl (fun _ => 0))), (q_10, .inl (cI, 150, .inl (fun _ => 0)))]) (va_A [(h0, .inr (8, [.null, .int 0, .int 0, .int 0, .int 0, .int 0, .int 0, .int 0, .null, .null, .null, .null, .null, .null, .null, .null, .null, .null]))] sz)) 10 1500 (va_A [(h0, .inr (8, [.null, .int 0, .int 0, .int 0, .int 0, .int 0, .int 0, .int 0, .null, .null, .null, .null, .null, .null, .null, .null, .null, .null]))] sz) := by
  refine Met.ofW (cc := b_Line_init) (maxL := 2) (ret := none) (by decide) rfl ?_
  intro p e s m args below meth c s₁ B hml hv
  obtain ⟨rfl, hsz, hP, hK, hD0⟩ := hv
  have hx := B.exec
  have hb := B.bytes
  have hr := B.returns
  have hts := atoms_spec (ws := w_Line_init) B.pre
  have htt : ∀ w ∈ tw_T, w.before _ s = true := fun w h => hts w (List.mem_cons_of_mem _ h)
  have hown : s.vm.findClass R_Line = some m.cls := findClass_of_methodNamed B.named
  have hlocks := B.notSynchronized
  subst hsz
  have hD := hD0.self (sz := s.heap.size)
  generalize hAe : va_A [(h0, .inr (8, [.null, .int 0, .int 0, .int 0, .int 0, .int 0, .int 0, .int 0, .null, .null, .null, .null, .null, .null, .null, .null, .null, .null]))] s.heap.size = A at hD ⊢
  have hA : ∀ q : Nat, s.heap.size ≤ q → A q := fun q h => by rw [← hAe]; exact Or.inr h
  have hS : va_S A s.heap s.heap [] := va_S.rf
  have hP : va_P (dC, dI) classes [(h0, .inr (8, [.null, .int 0, .int 0, .int 0, .int 0, .int 0, .int 0, .int 0, .null, .null, .null, .null, .null, .null, .null, .null, .null, .null]))] s.heap := hP
  have hl := lv_entry ([.ref h0, .ref a1]) (n := 2) (Nat.le_of_ble_eq_true rfl)
  rw [lg_entry_eq]
  generalize (lg_sl ([.ref h0, .ref a1]) ++ List.replicate (2 - (lg_sl ([.ref h0, .ref a1])).length) Slot.unset).toArray = ls at hl ⊢
  have hl : lv_has ls 2 [(0, .ref h0), (1, .ref a1)] := hl
  have hin : meth.name = "<init>" := (name_of_methodNamed B.named B.method).1
  refine lv_aload_n hx hb d_Line_init_0 rfl (lv_at hl 0 rfl) ?_
  refine W.objInit hx hb hown (htt _ lk_Line_3) (htt _ in_objInit) (htt _ cw_objInit) rfl (by rw [hml]; exact hl.1) rfl d_Line_init_1 (Nat.le_of_ble_eq_true rfl) (Nat.le_of_ble_eq_true rfl) ?_
  refine W.eq (g2 := F0 m 4 ls []) rfl ?_
  refine lv_aload_n hx hb d_Line_init_4 rfl (lv_at hl 0 rfl) ?_
  refine lv_sipush (v := 150) hx hb d_Line_init_5 (by decide) ?_
  refine va_newa (atype := .int) (ty := .int) (a0 := (150, .inl (fun _ => 0))) (N' := 150) hx hb (htt _ ac_int) rfl hK hP hD hS hA (fun _ => rfl) (by decide) (by decide) (by decide) (Nat.le_of_ble_eq_true rfl) (Nat.le_of_ble_eq_true rfl) d_Line_init_8 (fun q_1 cA H hK hP hD hS => ?_)
  have e8 : cI = cA := cls_one hK rfl
  subst e8
  have hK := hK.sub (tys' := [(cI, .int)]) [0] rfl
  have hP : va_P (dC, dI) classes [(h0, .inr (8, [.null, .int 0, .int 0, .int 0, .int 0, .int 0, .int 0, .int 0, .null, .null, .null, .null, .null, .null, .null, .null, .null, .null])), (q_1, .inl (cI, 150, .inl (fun _ => 0)))] H := hP
  have hD : va_D A [(h0, .inr (8, [.null, .int 0, .int 0, .int 0, .int 0, .int 0, .int 0, .int 0, .null, .null, .null, .null, .null, .null, .null, .null, .null, .null])), (q_1, .inl (cI, 150, .inl (fun _ => 0)))] := hD
  refine va_putF (D := (dC, dI)) (ci := 8) (v := .ref q_1) (ty := .array .int) (C := R_Line) (T := F_Line) (N := 18) hx hb htt iw_Line t_Line t_Line_ok n_Line hown hK hP hD hS 0 rfl rfl 8 (by decide) (htt _ lk_Line_9) (fun _ h9 => h9) rfl hin rfl (by decide +kernel) rfl rfl (Nat.le_of_ble_eq_true rfl) d_Line_init_10 (fun H locs hP hD hS => ?_)
  have hP : va_P (dC, dI) classes [(h0, .inr (8, [.null, .int 0, .int 0, .int 0, .int 0, .int 0, .int 0, .int 0, .ref q_1, .null, .null, .null, .null, .null, .null, .null, .null, .null])), (q_1, .inl (cI, 150, .inl (fun _ => 0)))] H := hP
  have hD : va_D A [(h0, .inr (8, [.null, .int 0, .int 0, .int 0, .int 0, .int 0, .int 0, .int 0, .ref q_1, .null, .null, .null, .null, .null, .null, .null, .null, .null])), (q_1, .inl (cI, 150, .inl (fun _ => 0)))] := hD
  refine lv_aload_n hx hb d_Line_init_13 rfl (lv_at hl 0 rfl) ?_
  refine lv_sipush (v := 150) hx hb d_Line_init_14 (by decide) ?_
  refine va_newa (atype := .int) (ty := .int) (a0 := (150, .inl (fun _ => 0))) (N' := 150) hx hb (htt _ ac_int) rfl hK hP hD hS hA (fun _ => rfl) (by decide) (by decide) (by decide) (Nat.le_of_ble_eq_true rfl) (Nat.le_of_ble_eq_true rfl) d_Line_init_17 (fun q_2 cA H hK hP hD hS => ?_)
  have e8 : cI = cA := cls_one hK rfl
  subst e8
  have hK := hK.sub (tys' := [(cI, .int)]) [0] rfl
  have hP : va_P (dC, dI) classes [(h0, .inr (8, [.null, .int 0, .int 0, .int 0, .int 0, .int 0, .int 0, .int 0, .ref q_1, .null, .null, .null, .null, .null, .null, .null, .null, .null])), (q_1, .inl (cI, 150, .inl (fun _ => 0))), (q_2, .inl (cI, 150, .inl (fun _ => 0)))] H := hP
  have hD : va_D A [(h0, .inr (8, [.null, .int 0, .int 0, .int 0, .int 0, .int 0, .int 0, .int 0, .ref q_1, .null, .null, .null, .null, .null, .null, .null, .null, .null])), (q_1, .inl (cI, 150, .inl (fun _ => 0))), (q_2, .inl (cI, 150, .inl (fun _ => 0)))] := hD
  refine va_putF (D := (dC, dI)) (ci := 8) (v := .ref q_2) (ty := .array .int) (C := R_Line) (T := F_Line) (N := 18) hx hb htt iw_Line t_Line t_Line_ok n_Line hown hK hP hD hS 0 rfl rfl 9 (by decide) (htt _ lk_Line_15) (fun _ h9 => h9) rfl hin rfl (by decide +kernel) rfl rfl (Nat.le_of_ble_eq_true rfl) d_Line_init_19 (fun H locs hP hD hS => ?_)
  have hP : va_P (dC, dI) classes [(h0, .inr (8, [.null, .int 0, .int 0, .int 0, .int 0, .int 0, .int 0, .int 0, .ref q_1, .ref q_2, .null, .null, .null, .null, .null, .null, .null, .null])), (q_1, .inl (cI, 150, .inl (fun _ => 0))), (q_2, .inl (cI, 150, .inl (fun _ => 0)))] H := hP
  have hD : va_D A [(h0, .inr (8, [.null, .int 0, .int 0, .int 0, .int 0, .int 0, .int 0, .int 0, .ref q_1, .ref q_2, .null, .null, .null, .null, .null, .null, .null, .null])), (q_1, .inl (cI, 150, .inl (fun _ => 0))), (q_2, .inl (cI, 150, .inl (fun _ => 0)))] := hD
  refine lv_aload_n hx hb d_Line_init_22 rfl (lv_at hl 0 rfl) ?_
  refine lv_sipush (v := 150) hx hb d_Line_init_23 (by decide) ?_
  refine va_newa (atype := .int) (ty := .int) (a0 := (150, .inl (fun _ => 0))) (N' := 150) hx hb (htt _ ac_int) rfl hK hP hD hS hA (fun _ => rfl) (by decide) (by decide) (by decide) (Nat.le_of_ble_eq_true rfl) (Nat.le_of_ble_eq_true rfl) d_Line_init_26 (fun q_3 cA H hK hP hD hS => ?_)
  have e8 : cI = cA := cls_one hK rfl
  subst e8
  have hK := hK.sub (tys' := [(cI, .int)]) [0] rfl
  have hP : va_P (dC, dI) classes [(h0, .inr (8, [.null, .int 0, .int 0, .int 0, .int 0, .int 0, .int 0, .int 0, .ref q_1, .ref q_2, .null, .null, .null, .null, .null, .null, .null, .null])), (q_1, .inl (cI, 150, .inl (fun _ => 0))), (q_2, .inl (cI, 150, .inl (fun _ => 0))), (q_3, .inl (cI, 150, .inl (fun _ => 0)))] H := hP
  have hD : va_D A [(h0, .inr (8, [.null, .int 0, .int 0, .int 0, .int 0, .int 0, .int 0, .int 0, .ref q_1, .ref q_2, .null, .null, .null, .null, .null, .null, .null, .null])), (q_1, .inl (cI, 150, .inl (fun _ => 0))), (q_2, .inl (cI, 150, .inl (fun _ => 0))), (q_3, .inl (cI, 150, .inl (fun _ => 0)))] := hD
  refine va_putF (D := (dC, dI)) (ci := 8) (v := .ref q_3) (ty := .array .int) (C := R_Line) (T := F_Line) (N := 18) hx hb htt iw_Line t_Line t_Line_ok n_Line hown hK hP hD hS 0 rfl rfl 10 (by decide) (htt _ lk_Line_18) (fun _ h9 => h9) rfl hin rfl (by decide +kernel) rfl rfl (Nat.le_of_ble_eq_true rfl) d_Line_init_28 (fun H locs hP hD hS => ?_)
  have hP : va_P (dC, dI) classes [(h0, .inr (8, [.null, .int 0, .int 0, .int 0, .int 0, .int 0, .int 0, .int 0, .ref q_1, .ref q_2, .ref q_3, .null, .null, .null, .null, .null, .null, .null])), (q_1, .inl (cI, 150, .inl (fun _ => 0))), (q_2, .inl (cI, 150, .inl (fun _ => 0))), (q_3, .inl (cI, 150, .inl (fun _ => 0)))] H := hP
  have hD : va_D A [(h0, .inr (8, [.null, .int 0, .int 0, .int 0, .int 0, .int 0, .int 0, .int 0, .ref q_1, .ref q_2, .ref q_3, .null, .null, .null, .null, .null, .null, .null])), (q_1, .inl (cI, 150, .inl (fun _ => 0))), (q_2, .inl (cI, 150, .inl (fun _ => 0))), (q_3, .inl (cI, 150, .inl (fun _ => 0)))] := hD
  refine lv_aload_n hx hb d_Line_init_31 rfl (lv_at hl 0 rfl) ?_
  refine lv_sipush (v := 150) hx hb d_Line_init_32 (by decide) ?_
  refine va_newa (atype := .int) (ty := .int) (a0 := (150, .inl (fun _ => 0))) (N' := 150) hx hb (htt _ ac_int) rfl hK hP hD hS hA (fun _ => rfl) (by decide) (by decide) (by decide) (Nat.le_of_ble_eq_true rfl) (Nat.le_of_ble_eq_true rfl) d_Line_init_35 (fun q_4 cA H hK hP hD hS => ?_)
  have e8 : cI = cA := cls_one hK rfl
  subst e8
  have hK := hK.sub (tys' := [(cI, .int)]) [0] rfl
  have hP : va_P (dC, dI) classes [(h0, .inr (8, [.null, .int 0, .int 0, .int 0, .int 0, .int 0, .int 0, .int 0, .ref q_1, .ref q_2, .ref q_3, .null, .null, .null, .null, .null, .null, .null])), (q_1, .inl (cI, 150, .inl (fun _ => 0))), (q_2, .inl (cI, 150, .inl (fun _ => 0))), (q_3, .inl (cI, 150, .inl (fun _ => 0))), (q_4, .inl (cI, 150, .inl (fun _ => 0)))] H := hP
  have hD : va_D A [(h0, .inr (8, [.null, .int 0, .int 0, .int 0, .int 0, .int 0, .int 0, .int 0, .ref q_1, .ref q_2, .ref q_3, .null, .null, .null, .null, .null, .null, .null])), (q_1, .inl (cI, 150, .inl (fun _ => 0))), (q_2, .inl (cI, 150, .inl (fun _ => 0))), (q_3, .inl (cI, 150, .inl (fun _ => 0))), (q_4, .inl (cI, 150, .inl (fun _ => 0)))] := hD
  refine va_putF (D := (dC, dI)) (ci := 8) (v := .ref q_4) (ty := .array .int) (C := R_Line) (T := F_Line) (N := 18) hx hb htt iw_Line t_Line t_Line_ok n_Line hown hK hP hD hS 0 rfl rfl 11 (by decide) (htt _ lk_Line_21) (fun _ h9 => h9) rfl hin rfl (by decide +kernel) rfl rfl (Nat.le_of_ble_eq_true rfl) d_Line_init_37 (fun H locs hP hD hS => ?_)
  have hP : va_P (dC, dI) classes [(h0, .inr (8, [.null, .int 0, .int 0, .int 0, .int 0, .int 0, .int 0, .int 0, .ref q_1, .ref q_2, .ref q_3, .ref q_4, .null, .null, .null, .null, .null, .null])), (q_1, .inl (cI, 150, .inl (fun _ => 0))), (q_2, .inl (cI, 150, .inl (fun _ => 0))), (q_3, .inl (cI, 150, .inl (fun _ => 0))), (q_4, .inl (cI, 150, .inl (fun _ => 0)))] H := hP
  have hD : va_D A [(h0, .inr (8, [.null, .int 0, .int 0, .int 0, .int 0, .int 0, .int 0, .int 0, .ref q_1, .ref q_2, .ref q_3, .ref q_4, .null, .null, .null, .null, .null, .null])), (q_1, .inl (cI, 150, .inl (fun _ => 0))), (q_2, .inl (cI, 150, .inl (fun _ => 0))), (q_3, .inl (cI, 150, .inl (fun _ => 0))), (q_4, .inl (cI, 150, .inl (fun _ => 0)))] := hD
  refine lv_aload_n hx hb d_Line_init_40 rfl (lv_at hl 0 rfl) ?_
  refine lv_sipush (v := 150) hx hb d_Line_init_41 (by decide) ?_
  refine va_newa (atype := .int) (ty := .int) (a0 := (150, .inl (fun _ => 0))) (N' := 150) hx hb (htt _ ac_int) rfl hK hP hD hS hA (fun _ => rfl) (by decide) (by decide) (by decide) (Nat.le_of_ble_eq_true rfl) (Nat.le_of_ble_eq_true rfl) d_Line_init_44 (fun q_5 cA H hK hP hD hS => ?_)
  have e8 : cI = cA := cls_one hK rfl
  subst e8
  have hK := hK.sub (tys' := [(cI, .int)]) [0] rfl
  have hP : va_P (dC, dI) classes [(h0, .inr (8, [.null, .int 0, .int 0, .int 0, .int 0, .int 0, .int 0, .int 0, .ref q_1, .ref q_2, .ref q_3, .ref q_4, .null, .null, .null, .null, .null, .null])), (q_1, .inl (cI, 150, .inl (fun _ => 0))), (q_2, .inl (cI, 150, .inl (fun _ => 0))), (q_3, .inl (cI, 150, .inl (fun _ => 0))), (q_4, .inl (cI, 150, .inl (fun _ => 0))), (q_5, .inl (cI, 150, .inl (fun _ => 0)))] H := hP
  have hD : va_D A [(h0, .inr (8, [.null, .int 0, .int 0, .int 0, .int 0, .int 0, .int 0, .int 0, .ref q_1, .ref q_2, .ref q_3, .ref q_4, .null, .null, .null, .null, .null, .null])), (q_1, .inl (cI, 150, .inl (fun _ => 0))), (q_2, .inl (cI, 150, .inl (fun _ => 0))), (q_3, .inl (cI, 150, .inl (fun _ => 0))), (q_4, .inl (cI, 150, .inl (fun _ => 0))), (q_5, .inl (cI, 150, .inl (fun _ => 0)))] := hD
  refine va_putF (D := (dC, dI)) (ci := 8) (v := .ref q_5) (ty := .array .int) (C := R_Line) (T := F_Line) (N := 18) hx hb htt iw_Line t_Line t_Line_ok n_Line hown hK hP hD hS 0 rfl rfl 12 (by decide) (htt _ lk_Line_24) (fun _ h9 => h9) rfl hin rfl (by decide +kernel) rfl rfl (Nat.le_of_ble_eq_true rfl) d_Line_init_46 (fun H locs hP hD hS => ?_)
  have hP : va_P (dC, dI) classes [(h0, .inr (8, [.null, .int 0, .int 0, .int 0, .int 0, .int 0, .int 0, .int 0, .ref q_1, .ref q_2, .ref q_3, .ref q_4, .ref q_5, .null, .null, .null, .null, .null])), (q_1, .inl (cI, 150, .inl (fun _ => 0))), (q_2, .inl (cI, 150, .inl (fun _ => 0))), (q_3, .inl (cI, 150, .inl (fun _ => 0))), (q_4, .inl (cI, 150, .inl (fun _ => 0))), (q_5, .inl (cI, 150, .inl (fun _ => 0)))] H := hP
  have hD : va_D A [(h0, .inr (8, [.null, .int 0, .int 0, .int 0, .int 0, .int 0, .int 0, .int 0, .ref q_1, .ref q_2, .ref q_3, .ref q_4, .ref q_5, .null, .null, .null, .null, .null])), (q_1, .inl (cI, 150, .inl (fun _ => 0))), (q_2, .inl (cI, 150, .inl (fun _ => 0))), (q_3, .inl (cI, 150, .inl (fun _ => 0))), (q_4, .inl (cI, 150, .inl (fun _ => 0))), (q_5, .inl (cI, 150, .inl (fun _ => 0)))] := hD
  refine lv_aload_n hx hb d_Line_init_49 rfl (lv_at hl 0 rfl) ?_
  refine lv_sipush (v := 150) hx hb d_Line_init_50 (by decide) ?_
  refine va_newa (atype := .int) (ty := .int) (a0 := (150, .inl (fun _ => 0))) (N' := 150) hx hb (htt _ ac_int) rfl hK hP hD hS hA (fun _ => rfl) (by decide) (by decide) (by decide) (Nat.le_of_ble_eq_true rfl) (Nat.le_of_ble_eq_true rfl) d_Line_init_53 (fun q_6 cA H hK hP hD hS => ?_)
  have e8 : cI = cA := cls_one hK rfl
  subst e8
  have hK := hK.sub (tys' := [(cI, .int)]) [0] rfl
  have hP : va_P (dC, dI) classes [(h0, .inr (8, [.null, .int 0, .int 0, .int 0, .int 0, .int 0, .int 0, .int 0, .ref q_1, .ref q_2, .ref q_3, .ref q_4, .ref q_5, .null, .null, .null, .null, .null])), (q_1, .inl (cI, 150, .inl (fun _ => 0))), (q_2, .inl (cI, 150, .inl (fun _ => 0))), (q_3, .inl (cI, 150, .inl (fun _ => 0))), (q_4, .inl (cI, 150, .inl (fun _ => 0))), (q_5, .inl (cI, 150, .inl (fun _ => 0))), (q_6, .inl (cI, 150, .inl (fun _ => 0)))] H := hP
  have hD : va_D A [(h0, .inr (8, [.null, .int 0, .int 0, .int 0, .int 0, .int 0, .int 0, .int 0, .ref q_1, .ref q_2, .ref q_3, .ref q_4, .ref q_5, .null, .null, .null, .null, .null])), (q_1, .inl (cI, 150, .inl (fun _ => 0))), (q_2, .inl (cI, 150, .inl (fun _ => 0))), (q_3, .inl (cI, 150, .inl (fun _ => 0))), (q_4, .inl (cI, 150, .inl (fun _ => 0))), (q_5, .inl (cI, 150, .inl (fun _ => 0))), (q_6, .inl (cI, 150, .inl (fun _ => 0)))] := hD
  refine va_putF (D := (dC, dI)) (ci := 8) (v := .ref q_6) (ty := .array .int) (C := R_Line) (T := F_Line) (N := 18) hx hb htt iw_Line t_Line t_Line_ok n_Line hown hK hP hD hS 0 rfl rfl 13 (by decide) (htt _ lk_Line_27) (fun _ h9 => h9) rfl hin rfl (by decide +kernel) rfl rfl (Nat.le_of_ble_eq_true rfl) d_Line_init_55 (fun H locs hP hD hS => ?_)
  have hP : va_P (dC, dI) classes [(h0, .inr (8, [.null, .int 0, .int 0, .int 0, .int 0, .int 0, .int 0, .int 0, .ref q_1, .ref q_2, .ref q_3, .ref q_4, .ref q_5, .ref q_6, .null, .null, .null, .null])), (q_1, .inl (cI, 150, .inl (fun _ => 0))), (q_2, .inl (cI, 150, .inl (fun _ => 0))), (q_3, .inl (cI, 150, .inl (fun _ => 0))), (q_4, .inl (cI, 150, .inl (fun _ => 0))), (q_5, .inl (cI, 150, .inl (fun _ => 0))), (q_6, .inl (cI, 150, .inl (fun _ => 0)))] H := hP
  have hD : va_D A [(h0, .inr (8, [.null, .int 0, .int 0, .int 0, .int 0, .int 0, .int 0, .int 0, .ref q_1, .ref q_2, .ref q_3, .ref q_4, .ref q_5, .ref q_6, .null, .null, .null, .null])), (q_1, .inl (cI, 150, .inl (fun _ => 0))), (q_2, .inl (cI, 150, .inl (fun _ => 0))), (q_3, .inl (cI, 150, .inl (fun _ => 0))), (q_4, .inl (cI, 150, .inl (fun _ => 0))), (q_5, .inl (cI, 150, .inl (fun _ => 0))), (q_6, .inl (cI, 150, .inl (fun _ => 0)))] := hD
  refine lv_aload_n hx hb d_Line_init_58 rfl (lv_at hl 0 rfl) ?_
  refine lv_sipush (v := 150) hx hb d_Line_init_59 (by decide) ?_
  refine va_newa (atype := .int) (ty := .int) (a0 := (150, .inl (fun _ => 0))) (N' := 150) hx hb (htt _ ac_int) rfl hK hP hD hS hA (fun _ => rfl) (by decide) (by decide) (by decide) (Nat.le_of_ble_eq_true rfl) (Nat.le_of_ble_eq_true rfl) d_Line_init_62 (fun q_7 cA H hK hP hD hS => ?_)
  have e8 : cI = cA := cls_one hK rfl
  subst e8
  have hK := hK.sub (tys' := [(cI, .int)]) [0] rfl
  have hP : va_P (dC, dI) classes [(h0, .inr (8, [.null, .int 0, .int 0, .int 0, .int 0, .int 0, .int 0, .int 0, .ref q_1, .ref q_2, .ref q_3, .ref q_4, .ref q_5, .ref q_6, .null, .null, .null, .null])), (q_1, .inl (cI, 150, .inl (fun _ => 0))), (q_2, .inl (cI, 150, .inl (fun _ => 0))), (q_3, .inl (cI, 150, .inl (fun _ => 0))), (q_4, .inl (cI, 150, .inl (fun _ => 0))), (q_5, .inl (cI, 150, .inl (fun _ => 0))), (q_6, .inl (cI, 150, .inl (fun _ => 0))), (q_7, .inl (cI, 150, .inl (fun _ => 0)))] H := hP
  have hD : va_D A [(h0, .inr (8, [.null, .int 0, .int 0, .int 0, .int 0, .int 0, .int 0, .int 0, .ref q_1, .ref q_2, .ref q_3, .ref q_4, .ref q_5, .ref q_6, .null, .null, .null, .null])), (q_1, .inl (cI, 150, .inl (fun _ => 0))), (q_2, .inl (cI, 150, .inl (fun _ => 0))), (q_3, .inl (cI, 150, .inl (fun _ => 0))), (q_4, .inl (cI, 150, .inl (fun _ => 0))), (q_5, .inl (cI, 150, .inl (fun _ => 0))), (q_6, .inl (cI, 150, .inl (fun _ => 0))), (q_7, .inl (cI, 150, .inl (fun _ => 0)))] := hD
  refine va_putF (D := (dC, dI)) (ci := 8) (v := .ref q_7) (ty := .array .int) (C := R_Line) (T := F_Line) (N := 18) hx hb htt iw_Line t_Line t_Line_ok n_Line hown hK hP hD hS 0 rfl rfl 14 (by decide) (htt _ lk_Line_30) (fun _ h9 => h9) rfl hin rfl (by decide +kernel) rfl rfl (Nat.le_of_ble_eq_true rfl) d_Line_init_64 (fun H locs hP hD hS => ?_)
  have hP : va_P (dC, dI) classes [(h0, .inr (8, [.null, .int 0, .int 0, .int 0, .int 0, .int 0, .int 0, .int 0, .ref q_1, .ref q_2, .ref q_3, .ref q_4, .ref q_5, .ref q_6, .ref q_7, .null, .null, .null])), (q_1, .inl (cI, 150, .inl (fun _ => 0))), (q_2, .inl (cI, 150, .inl (fun _ => 0))), (q_3, .inl (cI, 150, .inl (fun _ => 0))), (q_4, .inl (cI, 150, .inl (fun _ => 0))), (q_5, .inl (cI, 150, .inl (fun _ => 0))), (q_6, .inl (cI, 150, .inl (fun _ => 0))), (q_7, .inl (cI, 150, .inl (fun _ => 0)))] H := hP
  have hD : va_D A [(h0, .inr (8, [.null, .int 0, .int 0, .int 0, .int 0, .int 0, .int 0, .int 0, .ref q_1, .ref q_2, .ref q_3, .ref q_4, .ref q_5, .ref q_6, .ref q_7, .null, .null, .null])), (q_1, .inl (cI, 150, .inl (fun _ => 0))), (q_2, .inl (cI, 150, .inl (fun _ => 0))), (q_3, .inl (cI, 150, .inl (fun _ => 0))), (q_4, .inl (cI, 150, .inl (fun _ => 0))), (q_5, .inl (cI, 150, .inl (fun _ => 0))), (q_6, .inl (cI, 150, .inl (fun _ => 0))), (q_7, .inl (cI, 150, .inl (fun _ => 0)))] := hD
  refine lv_aload_n hx hb d_Line_init_67 rfl (lv_at hl 0 rfl) ?_
  refine lv_sipush (v := 150) hx hb d_Line_init_68 (by decide) ?_
  refine va_newa (atype := .int) (ty := .int) (a0 := (150, .inl (fun _ => 0))) (N' := 150) hx hb (htt _ ac_int) rfl hK hP hD hS hA (fun _ => rfl) (by decide) (by decide) (by decide) (Nat.le_of_ble_eq_true rfl) (Nat.le_of_ble_eq_true rfl) d_Line_init_71 (fun q_8 cA H hK hP hD hS => ?_)
  have e8 : cI = cA := cls_one hK rfl
  subst e8
  have hK := hK.sub (tys' := [(cI, .int)]) [0] rfl
  have hP : va_P (dC, dI) classes [(h0, .inr (8, [.null, .int 0, .int 0, .int 0, .int 0, .int 0, .int 0, .int 0, .ref q_1, .ref q_2, .ref q_3, .ref q_4, .ref q_5, .ref q_6, .ref q_7, .null, .null, .null])), (q_1, .inl (cI, 150, .inl (fun _ => 0))), (q_2, .inl (cI, 150, .inl (fun _ => 0))), (q_3, .inl (cI, 150, .inl (fun _ => 0))), (q_4, .inl (cI, 150, .inl (fun _ => 0))), (q_5, .inl (cI, 150, .inl (fun _ => 0))), (q_6, .inl (cI, 150, .inl (fun _ => 0))), (q_7, .inl (cI, 150, .inl (fun _ => 0))), (q_8, .inl (cI, 150, .inl (fun _ => 0)))] H := hP
  have hD : va_D A [(h0, .inr (8, [.null, .int 0, .int 0, .int 0, .int 0, .int 0, .int 0, .int 0, .ref q_1, .ref q_2, .ref q_3, .ref q_4, .ref q_5, .ref q_6, .ref q_7, .null, .null, .null])), (q_1, .inl (cI, 150, .inl (fun _ => 0))), (q_2, .inl (cI, 150, .inl (fun _ => 0))), (q_3, .inl (cI, 150, .inl (fun _ => 0))), (q_4, .inl (cI, 150, .inl (fun _ => 0))), (q_5, .inl (cI, 150, .inl (fun _ => 0))), (q_6, .inl (cI, 150, .inl (fun _ => 0))), (q_7, .inl (cI, 150, .inl (fun _ => 0))), (q_8, .inl (cI, 150, .inl (fun _ => 0)))] := hD
  refine va_putF (D := (dC, dI)) (ci := 8) (v := .ref q_8) (ty := .array .int) (C := R_Line) (T := F_Line) (N := 18) hx hb htt iw_Line t_Line t_Line_ok n_Line hown hK hP hD hS 0 rfl rfl 15 (by decide) (htt _ lk_Line_33) (fun _ h9 => h9) rfl hin rfl (by decide +kernel) rfl rfl (Nat.le_of_ble_eq_true rfl) d_Line_init_73 (fun H locs hP hD hS => ?_)
  have hP : va_P (dC, dI) classes [(h0, .inr (8, [.null, .int 0, .int 0, .int 0, .int 0, .int 0, .int 0, .int 0, .ref q_1, .ref q_2, .ref q_3, .ref q_4, .ref q_5, .ref q_6, .ref q_7, .ref q_8, .null, .null])), (q_1, .inl (cI, 150, .inl (fun _ => 0))), (q_2, .inl (cI, 150, .inl (fun _ => 0))), (q_3, .inl (cI, 150, .inl (fun _ => 0))), (q_4, .inl (cI, 150, .inl (fun _ => 0))), (q_5, .inl (cI, 150, .inl (fun _ => 0))), (q_6, .inl (cI, 150, .inl (fun _ => 0))), (q_7, .inl (cI, 150, .inl (fun _ => 0))), (q_8, .inl (cI, 150, .inl (fun _ => 0)))] H := hP
  have hD : va_D A [(h0, .inr (8, [.null, .int 0, .int 0, .int 0, .int 0, .int 0, .int 0, .int 0, .ref q_1, .ref q_2, .ref q_3, .ref q_4, .ref q_5, .ref q_6, .ref q_7, .ref q_8, .null, .null])), (q_1, .inl (cI, 150, .inl (fun _ => 0))), (q_2, .inl (cI, 150, .inl (fun _ => 0))), (q_3, .inl (cI, 150, .inl (fun _ => 0))), (q_4, .inl (cI, 150, .inl (fun _ => 0))), (q_5, .inl (cI, 150, .inl (fun _ => 0))), (q_6, .inl (cI, 150, .inl (fun _ => 0))), (q_7, .inl (cI, 150, .inl (fun _ => 0))), (q_8, .inl (cI, 150, .inl (fun _ => 0)))] := hD
  refine lv_aload_n hx hb d_Line_init_76 rfl (lv_at hl 0 rfl) ?_
  refine lv_sipush (v := 150) hx hb d_Line_init_77 (by decide) ?_
  refine va_newa (atype := .int) (ty := .int) (a0 := (150, .inl (fun _ => 0))) (N' := 150) hx hb (htt _ ac_int) rfl hK hP hD hS hA (fun _ => rfl) (by decide) (by decide) (by decide) (Nat.le_of_ble_eq_true rfl) (Nat.le_of_ble_eq_true rfl) d_Line_init_80 (fun q_9 cA H hK hP hD hS => ?_)
  have e8 : cI = cA := cls_one hK rfl
  subst e8
  have hK := hK.sub (tys' := [(cI, .int)]) [0] rfl
  have hP : va_P (dC, dI) classes [(h0, .inr (8, [.null, .int 0, .int 0, .int 0, .int 0, .int 0, .int 0, .int 0, .ref q_1, .ref q_2, .ref q_3, .ref q_4, .ref q_5, .ref q_6, .ref q_7, .ref q_8, .null, .null])), (q_1, .inl (cI, 150, .inl (fun _ => 0))), (q_2, .inl (cI, 150, .inl (fun _ => 0))), (q_3, .inl (cI, 150, .inl (fun _ => 0))), (q_4, .inl (cI, 150, .inl (fun _ => 0))), (q_5, .inl (cI, 150, .inl (fun _ => 0))), (q_6, .inl (cI, 150, .inl (fun _ => 0))), (q_7, .inl (cI, 150, .inl (fun _ => 0))), (q_8, .inl (cI, 150, .inl (fun _ => 0))), (q_9, .inl (cI, 150, .inl (fun _ => 0)))] H := hP
  have hD : va_D A [(h0, .inr (8, [.null, .int 0, .int 0, .int 0, .int 0, .int 0, .int 0, .int 0, .ref q_1, .ref q_2, .ref q_3, .ref q_4, .ref q_5, .ref q_6, .ref q_7, .ref q_8, .null, .null])), (q_1, .inl (cI, 150, .inl (fun _ => 0))), (q_2, .inl (cI, 150, .inl (fun _ => 0))), (q_3, .inl (cI, 150, .inl (fun _ => 0))), (q_4, .inl (cI, 150, .inl (fun _ => 0))), (q_5, .inl (cI, 150, .inl (fun _ => 0))), (q_6, .inl (cI, 150, .inl (fun _ => 0))), (q_7, .inl (cI, 150, .inl (fun _ => 0))), (q_8, .inl (cI, 150, .inl (fun _ => 0))), (q_9, .inl (cI, 150, .inl (fun _ => 0)))] := hD
  refine va_putF (D := (dC, dI)) (ci := 8) (v := .ref q_9) (ty := .array .int) (C := R_Line) (T := F_Line) (N := 18) hx hb htt iw_Line t_Line t_Line_ok n_Line hown hK hP hD hS 0 rfl rfl 16 (by decide) (htt _ lk_Line_36) (fun _ h9 => h9) rfl hin rfl (by decide +kernel) rfl rfl (Nat.le_of_ble_eq_true rfl) d_Line_init_82 (fun H locs hP hD hS => ?_)
  have hP : va_P (dC, dI) classes [(h0, .inr (8, [.null, .int 0, .int 0, .int 0, .int 0, .int 0, .int 0, .int 0, .ref q_1, .ref q_2, .ref q_3, .ref q_4, .ref q_5, .ref q_6, .ref q_7, .ref q_8, .ref q_9, .null])), (q_1, .inl (cI, 150, .inl (fun _ => 0))), (q_2, .inl (cI, 150, .inl (fun _ => 0))), (q_3, .inl (cI, 150, .inl (fun _ => 0))), (q_4, .inl (cI, 150, .inl (fun _ => 0))), (q_5, .inl (cI, 150, .inl (fun _ => 0))), (q_6, .inl (cI, 150, .inl (fun _ => 0))), (q_7, .inl (cI, 150, .inl (fun _ => 0))), (q_8, .inl (cI, 150, .inl (fun _ => 0))), (q_9, .inl (cI, 150, .inl (fun _ => 0)))] H := hP
  have hD : va_D A [(h0, .inr (8, [.null, .int 0, .int 0, .int 0, .int 0, .int 0, .int 0, .int 0, .ref q_1, .ref q_2, .ref q_3, .ref q_4, .ref q_5, .ref q_6, .ref q_7, .ref q_8, .ref q_9, .null])), (q_1, .inl (cI, 150, .inl (fun _ => 0))), (q_2, .inl (cI, 150, .inl (fun _ => 0))), (q_3, .inl (cI, 150, .inl (fun _ => 0))), (q_4, .inl (cI, 150, .inl (fun _ => 0))), (q_5, .inl (cI, 150, .inl (fun _ => 0))), (q_6, .inl (cI, 150, .inl (fun _ => 0))), (q_7, .inl (cI, 150, .inl (fun _ => 0))), (q_8, .inl (cI, 150, .inl (fun _ => 0))), (q_9, .inl (cI, 150, .inl (fun _ => 0)))] := hD
  refine lv_aload_n hx hb d_Line_init_85 rfl (lv_at hl 0 rfl) ?_
  refine lv_sipush (v := 150) hx hb d_Line_init_86 (by decide) ?_
  refine va_newa (atype := .int) (ty := .int) (a0 := (150, .inl (fun _ => 0))) (N' := 150) hx hb (htt _ ac_int) rfl hK hP hD hS hA (fun _ => rfl) (by decide) (by decide) (by decide) (Nat.le_of_ble_eq_true rfl) (Nat.le_of_ble_eq_true rfl) d_Line_init_89 (fun q_10 cA H hK hP hD hS => ?_)
  have e8 : cI = cA := cls_one hK rfl
  subst e8
  have hK := hK.sub (tys' := [(cI, .int)]) [0] rfl
  have hP : va_P (dC, dI) classes [(h0, .inr (8, [.null, .int 0, .int 0, .int 0, .int 0, .int 0, .int 0, .int 0, .ref q_1, .ref q_2, .ref q_3, .ref q_4, .ref q_5, .ref q_6, .ref q_7, .ref q_8, .ref q_9, .null])), (q_1, .inl (cI, 150, .inl (fun _ => 0))), (q_2, .inl (cI, 150, .inl (fun _ => 0))), (q_3, .inl (cI, 150, .inl (fun _ => 0))), (q_4, .inl (cI, 150, .inl (fun _ => 0))), (q_5, .inl (cI, 150, .inl (fun _ => 0))), (q_6, .inl (cI, 150, .inl (fun _ => 0))), (q_7, .inl (cI, 150, .inl (fun _ => 0))), (q_8, .inl (cI, 150, .inl (fun _ => 0))), (q_9, .inl (cI, 150, .inl (fun _ => 0))), (q_10, .inl (cI, 150, .inl (fun _ => 0)))] H := hP
  have hD : va_D A [(h0, .inr (8, [.null, .int 0, .int 0, .int 0, .int 0, .int 0, .int 0, .int 0, .ref q_1, .ref q_2, .ref q_3, .ref q_4, .ref q_5, .ref q_6, .ref q_7, .ref q_8, .ref q_9, .null])), (q_1, .inl (cI, 150, .inl (fun _ => 0))), (q_2, .inl (cI, 150, .inl (fun _ => 0))), (q_3, .inl (cI, 150, .inl (fun _ => 0))), (q_4, .inl (cI, 150, .inl (fun _ => 0))), (q_5, .inl (cI, 150, .inl (fun _ => 0))), (q_6, .inl (cI, 150, .inl (fun _ => 0))), (q_7, .inl (cI, 150, .inl (fun _ => 0))), (q_8, .inl (cI, 150, .inl (fun _ => 0))), (q_9, .inl (cI, 150, .inl (fun _ => 0))), (q_10, .inl (cI, 150, .inl (fun _ => 0)))] := hD
  refine va_putF (D := (dC, dI)) (ci := 8) (v := .ref q_10) (ty := .array .int) (C := R_Line) (T := F_Line) (N := 18) hx hb htt iw_Line t_Line t_Line_ok n_Line hown hK hP hD hS 0 rfl rfl 17 (by decide) (htt _ lk_Line_39) (fun _ h9 => h9) rfl hin rfl (by decide +kernel) rfl rfl (Nat.le_of_ble_eq_true rfl) d_Line_init_91 (fun H locs hP hD hS => ?_)
  have hP : va_P (dC, dI) classes [(h0, .inr (8, [.null, .int 0, .int 0, .int 0, .int 0, .int 0, .int 0, .int 0, .ref q_1, .ref q_2, .ref q_3, .ref q_4, .ref q_5, .ref q_6, .ref q_7, .ref q_8, .ref q_9, .ref q_10])), (q_1, .inl (cI, 150, .inl (fun _ => 0))), (q_2, .inl (cI, 150, .inl (fun _ => 0))), (q_3, .inl (cI, 150, .inl (fun _ => 0))), (q_4, .inl (cI, 150, .inl (fun _ => 0))), (q_5, .inl (cI, 150, .inl (fun _ => 0))), (q_6, .inl (cI, 150, .inl (fun _ => 0))), (q_7, .inl (cI, 150, .inl (fun _ => 0))), (q_8, .inl (cI, 150, .inl (fun _ => 0))), (q_9, .inl (cI, 150, .inl (fun _ => 0))), (q_10, .inl (cI, 150, .inl (fun _ => 0)))] H := hP
  have hD : va_D A [(h0, .inr (8, [.null, .int 0, .int 0, .int 0, .int 0, .int 0, .int 0, .int 0, .ref q_1, .ref q_2, .ref q_3, .ref q_4, .ref q_5, .ref q_6, .ref q_7, .ref q_8, .ref q_9, .ref q_10])), (q_1, .inl (cI, 150, .inl (fun _ => 0))), (q_2, .inl (cI, 150, .inl (fun _ => 0))), (q_3, .inl (cI, 150, .inl (fun _ => 0))), (q_4, .inl (cI, 150, .inl (fun _ => 0))), (q_5, .inl (cI, 150, .inl (fun _ => 0))), (q_6, .inl (cI, 150, .inl (fun _ => 0))), (q_7, .inl (cI, 150, .inl (fun _ => 0))), (q_8, .inl (cI, 150, .inl (fun _ => 0))), (q_9, .inl (cI, 150, .inl (fun _ => 0))), (q_10, .inl (cI, 150, .inl (fun _ => 0)))] := hD
  refine lv_aload_n hx hb d_Line_init_94 rfl (lv_at hl 0 rfl) ?_
  refine lv_aload_n hx hb d_Line_init_95 rfl (lv_at hl 1 rfl) ?_
  refine va_putF (D := (dC, dI)) (ci := 8) (v := .ref a1) (ty := .object "TurtleWorld$Heap") (C := R_Line) (T := F_Line) (N := 18) hx hb htt iw_Line t_Line t_Line_ok n_Line hown hK hP hD hS 0 rfl rfl 0 (by decide) (htt _ lk_Line_42) (fun _ h9 => h9) rfl hin rfl (by decide +kernel) rfl rfl (Nat.le_of_ble_eq_true rfl) d_Line_init_96 (fun H locs hP hD hS => ?_)
  have hP : va_P (dC, dI) classes [(h0, .inr (8, [.ref a1, .int 0, .int 0, .int 0, .int 0, .int 0, .int 0, .int 0, .ref q_1, .ref q_2, .ref q_3, .ref q_4, .ref q_5, .ref q_6, .ref q_7, .ref q_8, .ref q_9, .ref q_10])), (q_1, .inl (cI, 150, .inl (fun _ => 0))), (q_2, .inl (cI, 150, .inl (fun _ => 0))), (q_3, .inl (cI, 150, .inl (fun _ => 0))), (q_4, .inl (cI, 150, .inl (fun _ => 0))), (q_5, .inl (cI, 150, .inl (fun _ => 0))), (q_6, .inl (cI, 150, .inl (fun _ => 0))), (q_7, .inl (cI, 150, .inl (fun _ => 0))), (q_8, .inl (cI, 150, .inl (fun _ => 0))), (q_9, .inl (cI, 150, .inl (fun _ => 0))), (q_10, .inl (cI, 150, .inl (fun _ => 0)))] H := hP
  have hD : va_D A [(h0, .inr (8, [.ref a1, .int 0, .int 0, .int 0, .int 0, .int 0, .int 0, .int 0, .ref q_1, .ref q_2, .ref q_3, .ref q_4, .ref q_5, .ref q_6, .ref q_7, .ref q_8, .ref q_9, .ref q_10])), (q_1, .inl (cI, 150, .inl (fun _ => 0))), (q_2, .inl (cI, 150, .inl (fun _ => 0))), (q_3, .inl (cI, 150, .inl (fun _ => 0))), (q_4, .inl (cI, 150, .inl (fun _ => 0))), (q_5, .inl (cI, 150, .inl (fun _ => 0))), (q_6, .inl (cI, 150, .inl (fun _ => 0))), (q_7, .inl (cI, 150, .inl (fun _ => 0))), (q_8, .inl (cI, 150, .inl (fun _ => 0))), (q_9, .inl (cI, 150, .inl (fun _ => 0))), (q_10, .inl (cI, 150, .inl (fun _ => 0)))] := hD
  have hP9 := hP.sub (ws' := [(h0, .inr (8, [.ref a1, .int 0, .int 0, .int 0, .int 0, .int 0, .int 0, .int 0, .ref q_1, .ref q_2, .ref q_3, .ref q_4, .ref q_5, .ref q_6, .ref q_7, .ref q_8, .ref q_9, .ref q_10])), (q_1, .inl (cI, 150, .inl (fun _ => 0))), (q_2, .inl (cI, 150, .inl (fun _ => 0))), (q_3, .inl (cI, 150, .inl (fun _ => 0))), (q_4, .inl (cI, 150, .inl (fun _ => 0))), (q_5, .inl (cI, 150, .inl (fun _ => 0))), (q_6, .inl (cI, 150, .inl (fun _ => 0))), (q_7, .inl (cI, 150, .inl (fun _ => 0))), (q_8, .inl (cI, 150, .inl (fun _ => 0))), (q_9, .inl (cI, 150, .inl (fun _ => 0))), (q_10, .inl (cI, 150, .inl (fun _ => 0)))]) [0, 1, 2, 3, 4, 5, 6, 7, 8, 9, 10] rfl
  have hD9 := hD.sub (ws' := [(h0, .inr (8, [.ref a1, .int 0, .int 0, .int 0, .int 0, .int 0, .int 0, .int 0, .ref q_1, .ref q_2, .ref q_3, .ref q_4, .ref q_5, .ref q_6, .ref q_7, .ref q_8, .ref q_9, .ref q_10])), (q_1, .inl (cI, 150, .inl (fun _ => 0))), (q_2, .inl (cI, 150, .inl (fun _ => 0))), (q_3, .inl (cI, 150, .inl (fun _ => 0))), (q_4, .inl (cI, 150, .inl (fun _ => 0))), (q_5, .inl (cI, 150, .inl (fun _ => 0))), (q_6, .inl (cI, 150, .inl (fun _ => 0))), (q_7, .inl (cI, 150, .inl (fun _ => 0))), (q_8, .inl (cI, 150, .inl (fun _ => 0))), (q_9, .inl (cI, 150, .inl (fun _ => 0))), (q_10, .inl (cI, 150, .inl (fun _ => 0)))]) [0, 1, 2, 3, 4, 5, 6, 7, 8, 9, 10] (by decide) rfl
  refine W.widen (k := 10) (n := 1500) (Nat.le_of_ble_eq_true rfl) (Nat.le_of_ble_eq_true rfl) ?_
  exact W.vret hx hb hr (fun t9 ht hW => ⟨⟨(), rfl, trivial, q_1, q_2, q_3, q_4, q_5, q_6, q_7, q_8, q_9, q_10, by rw [ht]; exact hP9, va_K.moved hW.alike hK, hD9⟩, hS.F ht⟩) hS.2.2 d_Line_init_99

set_option maxHeartbeats 4000000 in
set_option maxRecDepth 100000 in
/-- a new Names -/
theorem c_Names_init (l : Launch) (dC : Nat → ClassId) (dI : Nat → Nat → Nat) (sz : Nat) (h0 : Nat) (cI : ClassId) (a1 : Nat)  : Met l y_Names_init w_Names_init ({ frames := 1, cells := 5, slots := 3792, locals := 12 }) (va_Pc [.ref h0, .ref a1] (fun U => U.heap.size = sz ∧ va_P (dC, dI) classes [(h0, .inr (3, [.null, .null, .null, .int 0, .null, .null, .int 0, .null, .int 0]))] U.heap ∧ va_K (dC, dI) classes [(cI, .int)] U ∧ va_D (fun _ => True) [(h0, .inr (3, [.null, .null, .null, .int 0, .null, .null, .int 0, .null, .int 0]))])) (va_Qv (fun (_ : Unit) => True) (fun (_ : Unit) t => ∃ (q_1 q_2 q_3 q_4 q_5 : Nat), va_P (dC, dI) classes [(h0, .inr (3, [.ref a1, .ref q_1, .ref q_2, .int 0, .ref q_3, .ref q_4, .int 0, .ref q_5, .int 0])), (q_1, .inl (cI, 64, .inl (fun _ => 0))), (q_2, .inl (cI, 64, .inl (fun _ => 0))), (q_3, .inl (cI, 1800, .inl (fun _ => 0))), (q_4, .inl (cI, 1800, .inl (fun _ => 0))), (q_5, .inl (cI, 64, .inl (fun _ => 0)))] t.heap ∧ va_K (dC, dI) classes [(cI, .int)] t ∧ va_D (va_A [(h0, .inr (3, [.null, .null, .null, .int 0, .null, .null, .int 0, .null, .int 0]))] sz) [(h0, .inr (3, [.ref a1, .ref q_1, .ref q_2, .int 0, .ref q_3, .ref q_4, .int 0, .ref q_5, .int 0])), (q_1, .inl (cI, 64, .inl (fun _ => 0))), (q_2, .inl (cI, 64, .inl (fun _ => 0))), (q_3, .inl (cI, 1800, .inl (fun _ => 0))), (q_4, .inl (cI, 1800, .inl (fun _ => 0))), (q_5, .inl (cI, 64, .inl (fun _ => 0)))]) (va_A [(h0, .inr (3, [.null, .null, .null, .int 0, .null, .null, .int 0, .null, .int 0]))] sz)) 5 3792 (va_A [(h0, .inr (3, [.null, .null, .null, .int 0, .null, .null, .int 0, .null, .int 0]))] sz) := by
  refine Met.ofW (cc := b_Names_init) (maxL := 2) (ret := none) (by decide) rfl ?_
  intro p e s m args below meth c s₁ B hml hv
  obtain ⟨rfl, hsz, hP, hK, hD0⟩ := hv
  have hx := B.exec
  have hb := B.bytes
  have hr := B.returns
  have hts := atoms_spec (ws := w_Names_init) B.pre
  have htt : ∀ w ∈ tw_T, w.before _ s = true := fun w h => hts w (List.mem_cons_of_mem _ h)
  have hown : s.vm.findClass R_Names = some m.cls := findClass_of_methodNamed B.named
  have hlocks := B.notSynchronized
  subst hsz
  have hD := hD0.self (sz := s.heap.size)
  generalize hAe : va_A [(h0, .inr (3, [.null, .null, .null, .int 0, .null, .null, .int 0, .null, .int 0]))] s.heap.size = A at hD ⊢
  have hA : ∀ q : Nat, s.heap.size ≤ q → A q := fun q h => by rw [← hAe]; exact Or.inr h
  have hS : va_S A s.heap s.heap [] := va_S.rf
  have hP : va_P (dC, dI) classes [(h0, .inr (3, [.null, .null, .null, .int 0, .null, .null, .int 0, .null, .int 0]))] s.heap := hP
  have hl := lv_entry ([.ref h0, .ref a1]) (n := 2) (Nat.le_of_ble_eq_true rfl)
  rw [lg_entry_eq]
  generalize (lg_sl ([.ref h0, .ref a1]) ++ List.replicate (2 - (lg_sl ([.ref h0, .ref a1])).length) Slot.unset).toArray = ls at hl ⊢
  have hl : lv_has ls 2 [(0, .ref h0), (1, .ref a1)] := hl
  have hin : meth.name = "<init>" := (name_of_methodNamed B.named B.method).1
  refine lv_aload_n hx hb d_Names_init_0 rfl (lv_at hl 0 rfl) ?_
  refine W.objInit hx hb hown (htt _ lk_Names_3) (htt _ in_objInit) (htt _ cw_objInit) rfl (by rw [hml]; exact hl.1) rfl d_Names_init_1 (Nat.le_of_ble_eq_true rfl) (Nat.le_of_ble_eq_true rfl) ?_
  refine W.eq (g2 := F0 m 4 ls []) rfl ?_
  refine lv_aload_n hx hb d_Names_init_4 rfl (lv_at hl 0 rfl) ?_
  refine lv_bipush (v := 64) hx hb d_Names_init_5 (by decide) ?_
  refine va_newa (atype := .int) (ty := .int) (a0 := (64, .inl (fun _ => 0))) (N' := 64) hx hb (htt _ ac_int) rfl hK hP hD hS hA (fun _ => rfl) (by decide) (by decide) (by decide) (Nat.le_of_ble_eq_true rfl) (Nat.le_of_ble_eq_true rfl) d_Names_init_7 (fun q_1 cA H hK hP hD hS => ?_)
  have e8 : cI = cA := cls_one hK rfl
  subst e8
  have hK := hK.sub (tys' := [(cI, .int)]) [0] rfl
  have hP : va_P (dC, dI) classes [(h0, .inr (3, [.null, .null, .null, .int 0, .null, .null, .int 0, .null, .int 0])), (q_1, .inl (cI, 64, .inl (fun _ => 0)))] H := hP
  have hD : va_D A [(h0, .inr (3, [.null, .null, .null, .int 0, .null, .null, .int 0, .null, .int 0])), (q_1, .inl (cI, 64, .inl (fun _ => 0)))] := hD
  refine va_putF (D := (dC, dI)) (ci := 3) (v := .ref q_1) (ty := .array .int) (C := R_Names) (T := F_Names) (N := 9) hx hb htt iw_Names t_Names t_Names_ok n_Names hown hK hP hD hS 0 rfl rfl 1 (by decide) (htt _ lk_Names_11) (fun _ h9 => h9) rfl hin rfl (by decide +kernel) rfl rfl (Nat.le_of_ble_eq_true rfl) d_Names_init_9 (fun H locs hP hD hS => ?_)
  have hP : va_P (dC, dI) classes [(h0, .inr (3, [.null, .ref q_1, .null, .int 0, .null, .null, .int 0, .null, .int 0])), (q_1, .inl (cI, 64, .inl (fun _ => 0)))] H := hP
  have hD : va_D A [(h0, .inr (3, [.null, .ref q_1, .null, .int 0, .null, .null, .int 0, .null, .int 0])), (q_1, .inl (cI, 64, .inl (fun _ => 0)))] := hD
  refine lv_aload_n hx hb d_Names_init_12 rfl (lv_at hl 0 rfl) ?_
  refine lv_bipush (v := 64) hx hb d_Names_init_13 (by decide) ?_
  refine va_newa (atype := .int) (ty := .int) (a0 := (64, .inl (fun _ => 0))) (N' := 64) hx hb (htt _ ac_int) rfl hK hP hD hS hA (fun _ => rfl) (by decide) (by decide) (by decide) (Nat.le_of_ble_eq_true rfl) (Nat.le_of_ble_eq_true rfl) d_Names_init_15 (fun q_2 cA H hK hP hD hS => ?_)
  have e8 : cI = cA := cls_one hK rfl
  subst e8
  have hK := hK.sub (tys' := [(cI, .int)]) [0] rfl
  have hP : va_P (dC, dI) classes [(h0, .inr (3, [.null, .ref q_1, .null, .int 0, .null, .null, .int 0, .null, .int 0])), (q_1, .inl (cI, 64, .inl (fun _ => 0))), (q_2, .inl (cI, 64, .inl (fun _ => 0)))] H := hP
  have hD : va_D A [(h0, .inr (3, [.null, .ref q_1, .null, .int 0, .null, .null, .int 0, .null, .int 0])), (q_1, .inl (cI, 64, .inl (fun _ => 0))), (q_2, .inl (cI, 64, .inl (fun _ => 0)))] := hD
  refine va_putF (D := (dC, dI)) (ci := 3) (v := .ref q_2) (ty := .array .int) (C := R_Names) (T := F_Names) (N := 9) hx hb htt iw_Names t_Names t_Names_ok n_Names hown hK hP hD hS 0 rfl rfl 2 (by decide) (htt _ lk_Names_15) (fun _ h9 => h9) rfl hin rfl (by decide +kernel) rfl rfl (Nat.le_of_ble_eq_true rfl) d_Names_init_17 (fun H locs hP hD hS => ?_)
  have hP : va_P (dC, dI) classes [(h0, .inr (3, [.null, .ref q_1, .ref q_2, .int 0, .null, .null, .int 0, .null, .int 0])), (q_1, .inl (cI, 64, .inl (fun _ => 0))), (q_2, .inl (cI, 64, .inl (fun _ => 0)))] H := hP
  have hD : va_D A [(h0, .inr (3, [.null, .ref q_1, .ref q_2, .int 0, .null, .null, .int 0, .null, .int 0])), (q_1, .inl (cI, 64, .inl (fun _ => 0))), (q_2, .inl (cI, 64, .inl (fun _ => 0)))] := hD
  refine lv_aload_n hx hb d_Names_init_20 rfl (lv_at hl 0 rfl) ?_
  refine lv_sipush (v := 1800) hx hb d_Names_init_21 (by decide) ?_
  refine va_newa (atype := .int) (ty := .int) (a0 := (1800, .inl (fun _ => 0))) (N' := 1800) hx hb (htt _ ac_int) rfl hK hP hD hS hA (fun _ => rfl) (by decide) (by decide) (by decide) (Nat.le_of_ble_eq_true rfl) (Nat.le_of_ble_eq_true rfl) d_Names_init_24 (fun q_3 cA H hK hP hD hS => ?_)
  have e8 : cI = cA := cls_one hK rfl
  subst e8
  have hK := hK.sub (tys' := [(cI, .int)]) [0] rfl
  have hP : va_P (dC, dI) classes [(h0, .inr (3, [.null, .ref q_1, .ref q_2, .int 0, .null, .null, .int 0, .null, .int 0])), (q_1, .inl (cI, 64, .inl (fun _ => 0))), (q_2, .inl (cI, 64, .inl (fun _ => 0))), (q_3, .inl (cI, 1800, .inl (fun _ => 0)))] H := hP
  have hD : va_D A [(h0, .inr (3, [.null, .ref q_1, .ref q_2, .int 0, .null, .null, .int 0, .null, .int 0])), (q_1, .inl (cI, 64, .inl (fun _ => 0))), (q_2, .inl (cI, 64, .inl (fun _ => 0))), (q_3, .inl (cI, 1800, .inl (fun _ => 0)))] := hD
  refine va_putF (D := (dC, dI)) (ci := 3) (v := .ref q_3) (ty := .array .int) (C := R_Names) (T := F_Names) (N := 9) hx hb htt iw_Names t_Names t_Names_ok n_Names hown hK hP hD hS 0 rfl rfl 4 (by decide) (htt _ lk_Names_18) (fun _ h9 => h9) rfl hin rfl (by decide +kernel) rfl rfl (Nat.le_of_ble_eq_true rfl) d_Names_init_26 (fun H locs hP hD hS => ?_)
  have hP : va_P (dC, dI) classes [(h0, .inr (3, [.null, .ref q_1, .ref q_2, .int 0, .ref q_3, .null, .int 0, .null, .int 0])), (q_1, .inl (cI, 64, .inl (fun _ => 0))), (q_2, .inl (cI, 64, .inl (fun _ => 0))), (q_3, .inl (cI, 1800, .inl (fun _ => 0)))] H := hP
  have hD : va_D A [(h0, .inr (3, [.null, .ref q_1, .ref q_2, .int 0, .ref q_3, .null, .int 0, .null, .int 0])), (q_1, .inl (cI, 64, .inl (fun _ => 0))), (q_2, .inl (cI, 64, .inl (fun _ => 0))), (q_3, .inl (cI, 1800, .inl (fun _ => 0)))] := hD
  refine lv_aload_n hx hb d_Names_init_29 rfl (lv_at hl 0 rfl) ?_
  refine lv_sipush (v := 1800) hx hb d_Names_init_30 (by decide) ?_
  refine va_newa (atype := .int) (ty := .int) (a0 := (1800, .inl (fun _ => 0))) (N' := 1800) hx hb (htt _ ac_int) rfl hK hP hD hS hA (fun _ => rfl) (by decide) (by decide) (by decide) (Nat.le_of_ble_eq_true rfl) (Nat.le_of_ble_eq_true rfl) d_Names_init_33 (fun q_4 cA H hK hP hD hS => ?_)
  have e8 : cI = cA := cls_one hK rfl
  subst e8
  have hK := hK.sub (tys' := [(cI, .int)]) [0] rfl
  have hP : va_P (dC, dI) classes [(h0, .inr (3, [.null, .ref q_1, .ref q_2, .int 0, .ref q_3, .null, .int 0, .null, .int 0])), (q_1, .inl (cI, 64, .inl (fun _ => 0))), (q_2, .inl (cI, 64, .inl (fun _ => 0))), (q_3, .inl (cI, 1800, .inl (fun _ => 0))), (q_4, .inl (cI, 1800, .inl (fun _ => 0)))] H := hP
  have hD : va_D A [(h0, .inr (3, [.null, .ref q_1, .ref q_2, .int 0, .ref q_3, .null, .int 0, .null, .int 0])), (q_1, .inl (cI, 64, .inl (fun _ => 0))), (q_2, .inl (cI, 64, .inl (fun _ => 0))), (q_3, .inl (cI, 1800, .inl (fun _ => 0))), (q_4, .inl (cI, 1800, .inl (fun _ => 0)))] := hD
  refine va_putF (D := (dC, dI)) (ci := 3) (v := .ref q_4) (ty := .array .int) (C := R_Names) (T := F_Names) (N := 9) hx hb htt iw_Names t_Names t_Names_ok n_Names hown hK hP hD hS 0 rfl rfl 5 (by decide) (htt _ lk_Names_21) (fun _ h9 => h9) rfl hin rfl (by decide +kernel) rfl rfl (Nat.le_of_ble_eq_true rfl) d_Names_init_35 (fun H locs hP hD hS => ?_)
  have hP : va_P (dC, dI) classes [(h0, .inr (3, [.null, .ref q_1, .ref q_2, .int 0, .ref q_3, .ref q_4, .int 0, .null, .int 0])), (q_1, .inl (cI, 64, .inl (fun _ => 0))), (q_2, .inl (cI, 64, .inl (fun _ => 0))), (q_3, .inl (cI, 1800, .inl (fun _ => 0))), (q_4, .inl (cI, 1800, .inl (fun _ => 0)))] H := hP
  have hD : va_D A [(h0, .inr (3, [.null, .ref q_1, .ref q_2, .int 0, .ref q_3, .ref q_4, .int 0, .null, .int 0])), (q_1, .inl (cI, 64, .inl (fun _ => 0))), (q_2, .inl (cI, 64, .inl (fun _ => 0))), (q_3, .inl (cI, 1800, .inl (fun _ => 0))), (q_4, .inl (cI, 1800, .inl (fun _ => 0)))] := hD
  refine lv_aload_n hx hb d_Names_init_38 rfl (lv_at hl 0 rfl) ?_
  refine lv_bipush (v := 64) hx hb d_Names_init_39 (by decide) ?_
  refine va_newa (atype := .int) (ty := .int) (a0 := (64, .inl (fun _ => 0))) (N' := 64) hx hb (htt _ ac_int) rfl hK hP hD hS hA (fun _ => rfl) (by decide) (by decide) (by decide) (Nat.le_of_ble_eq_true rfl) (Nat.le_of_ble_eq_true rfl) d_Names_init_41 (fun q_5 cA H hK hP hD hS => ?_)
  have e8 : cI = cA := cls_one hK rfl
  subst e8
  have hK := hK.sub (tys' := [(cI, .int)]) [0] rfl
  have hP : va_P (dC, dI) classes [(h0, .inr (3, [.null, .ref q_1, .ref q_2, .int 0, .ref q_3, .ref q_4, .int 0, .null, .int 0])), (q_1, .inl (cI, 64, .inl (fun _ => 0))), (q_2, .inl (cI, 64, .inl (fun _ => 0))), (q_3, .inl (cI, 1800, .inl (fun _ => 0))), (q_4, .inl (cI, 1800, .inl (fun _ => 0))), (q_5, .inl (cI, 64, .inl (fun _ => 0)))] H := hP
  have hD : va_D A [(h0, .inr (3, [.null, .ref q_1, .ref q_2, .int 0, .ref q_3, .ref q_4, .int 0, .null, .int 0])), (q_1, .inl (cI, 64, .inl (fun _ => 0))), (q_2, .inl (cI, 64, .inl (fun _ => 0))), (q_3, .inl (cI, 1800, .inl (fun _ => 0))), (q_4, .inl (cI, 1800, .inl (fun _ => 0))), (q_5, .inl (cI, 64, .inl (fun _ => 0)))] := hD
  refine va_putF (D := (dC, dI)) (ci := 3) (v := .ref q_5) (ty := .array .int) (C := R_Names) (T := F_Names) (N := 9) hx hb htt iw_Names t_Names t_Names_ok n_Names hown hK hP hD hS 0 rfl rfl 7 (by decide) (htt _ lk_Names_24) (fun _ h9 => h9) rfl hin rfl (by decide +kernel) rfl rfl (Nat.le_of_ble_eq_true rfl) d_Names_init_43 (fun H locs hP hD hS => ?_)
  have hP : va_P (dC, dI) classes [(h0, .inr (3, [.null, .ref q_1, .ref q_2, .int 0, .ref q_3, .ref q_4, .int 0, .ref q_5, .int 0])), (q_1, .inl (cI, 64, .inl (fun _ => 0))), (q_2, .inl (cI, 64, .inl (fun _ => 0))), (q_3, .inl (cI, 1800, .inl (fun _ => 0))), (q_4, .inl (cI, 1800, .inl (fun _ => 0))), (q_5, .inl (cI, 64, .inl (fun _ => 0)))] H := hP
  have hD : va_D A [(h0, .inr (3, [.null, .ref q_1, .ref q_2, .int 0, .ref q_3, .ref q_4, .int 0, .ref q_5, .int 0])), (q_1, .inl (cI, 64, .inl (fun _ => 0))), (q_2, .inl (cI, 64, .inl (fun _ => 0))), (q_3, .inl (cI, 1800, .inl (fun _ => 0))), (q_4, .inl (cI, 1800, .inl (fun _ => 0))), (q_5, .inl (cI, 64, .inl (fun _ => 0)))] := hD
  refine lv_aload_n hx hb d_Names_init_46 rfl (lv_at hl 0 rfl) ?_
  refine lv_aload_n hx hb d_Names_init_47 rfl (lv_at hl 1 rfl) ?_
  refine va_putF (D := (dC, dI)) (ci := 3) (v := .ref a1) (ty := .object "TurtleWorld$Heap") (C := R_Names) (T := F_Names) (N := 9) hx hb htt iw_Names t_Names t_Names_ok n_Names hown hK hP hD hS 0 rfl rfl 0 (by decide) (htt _ lk_Names_27) (fun _ h9 => h9) rfl hin rfl (by decide +kernel) rfl rfl (Nat.le_of_ble_eq_true rfl) d_Names_init_48 (fun H locs hP hD hS => ?_)
  have hP : va_P (dC, dI) classes [(h0, .inr (3, [.ref a1, .ref q_1, .ref q_2, .int 0, .ref q_3, .ref q_4, .int 0, .ref q_5, .int 0])), (q_1, .inl (cI, 64, .inl (fun _ => 0))), (q_2, .inl (cI, 64, .inl (fun _ => 0))), (q_3, .inl (cI, 1800, .inl (fun _ => 0))), (q_4, .inl (cI, 1800, .inl (fun _ => 0))), (q_5, .inl (cI, 64, .inl (fun _ => 0)))] H := hP
  have hD : va_D A [(h0, .inr (3, [.ref a1, .ref q_1, .ref q_2, .int 0, .ref q_3, .ref q_4, .int 0, .ref q_5, .int 0])), (q_1, .inl (cI, 64, .inl (fun _ => 0))), (q_2, .inl (cI, 64, .inl (fun _ => 0))), (q_3, .inl (cI, 1800, .inl (fun _ => 0))), (q_4, .inl (cI, 1800, .inl (fun _ => 0))), (q_5, .inl (cI, 64, .inl (fun _ => 0)))] := hD
  have hP9 := hP.sub (ws' := [(h0, .inr (3, [.ref a1, .ref q_1, .ref q_2, .int 0, .ref q_3, .ref q_4, .int 0, .ref q_5, .int 0])), (q_1, .inl (cI, 64, .inl (fun _ => 0))), (q_2, .inl (cI, 64, .inl (fun _ => 0))), (q_3, .inl (cI, 1800, .inl (fun _ => 0))), (q_4, .inl (cI, 1800, .inl (fun _ => 0))), (q_5, .inl (cI, 64, .inl (fun _ => 0)))]) [0, 1, 2, 3, 4, 5] rfl
  have hD9 := hD.sub (ws' := [(h0, .inr (3, [.ref a1, .ref q_1, .ref q_2, .int 0, .ref q_3, .ref q_4, .int 0, .ref q_5, .int 0])), (q_1, .inl (cI, 64, .inl (fun _ => 0))), (q_2, .inl (cI, 64, .inl (fun _ => 0))), (q_3, .inl (cI, 1800, .inl (fun _ => 0))), (q_4, .inl (cI, 1800, .inl (fun _ => 0))), (q_5, .inl (cI, 64, .inl (fun _ => 0)))]) [0, 1, 2, 3, 4, 5] (by decide) rfl
  refine W.widen (k := 5) (n := 3792) (Nat.le_of_ble_eq_true rfl) (Nat.le_of_ble_eq_true rfl) ?_
  exact W.vret hx hb hr (fun t9 ht hW => ⟨⟨(), rfl, trivial, q_1, q_2, q_3, q_4, q_5, by rw [ht]; exact hP9, va_K.moved hW.alike hK, hD9⟩, hS.F ht⟩) hS.2.2 d_Names_init_51

set_option maxHeartbeats 4000000 in
set_option maxRecDepth 100000 in
/-- a new Procedures -/
theorem c_Procedures_init (l : Launch) (dC : Nat → ClassId) (dI : Nat → Nat → Nat) (sz : Nat) (h0 : Nat) (cI : ClassId) (a1 : Nat)  : Met l y_Procedures_init w_Procedures_init ({ frames := 1, cells := 5, slots := 200, locals := 12 }) (va_Pc [.ref h0, .ref a1] (fun U => U.heap.size = sz ∧ va_P (dC, dI) classes [(h0, .inr (4, [.null, .null, .null, .null, .int 0, .null, .null, .int 0]))] U.heap ∧ va_K (dC, dI) classes [(cI, .int)] U ∧ va_D (fun _ => True) [(h0, .inr (4, [.null, .null, .null, .null, .int 0, .null, .null, .int 0]))])) (va_Qv (fun (_ : Unit) => True) (fun (_ : Unit) t => ∃ (q_1 q_2 q_3 q_4 q_5 : Nat), va_P (dC, dI) classes [(h0, .inr (4, [.ref a1, .ref q_1, .ref q_2, .ref q_3, .int 0, .ref q_4, .ref q_5, .int 0])), (q_1, .inl (cI, 40, .inl (fun _ => 0))), (q_2, .inl (cI, 40, .inl (fun _ => 0))), (q_3, .inl (cI, 40, .inl (fun _ => 0))), (q_4, .inl (cI, 40, .inl (fun _ => 0))), (q_5, .inl (cI, 40, .inl (fun _ => 0)))] t.heap ∧ va_K (dC, dI) classes [(cI, .int)] t ∧ va_D (va_A [(h0, .inr (4, [.null, .null, .null, .null, .int 0, .null, .null, .int 0]))] sz) [(h0, .inr (4, [.ref a1, .ref q_1, .ref q_2, .ref q_3, .int 0, .ref q_4, .ref q_5, .int 0])), (q_1, .inl (cI, 40, .inl (fun _ => 0))), (q_2, .inl (cI, 40, .inl (fun _ => 0))), (q_3, .inl (cI, 40, .inl (fun _ => 0))), (q_4, .inl (cI, 40, .inl (fun _ => 0))), (q_5, .inl (cI, 40, .inl (fun _ => 0)))]) (va_A [(h0, .inr (4, [.null, .null, .null, .null, .int 0, .null, .null, .int 0]))] sz)) 5 200 (va_A [(h0, .inr (4, [.null, .null, .null, .null, .int 0, .null, .null, .int 0]))] sz) := by
  refine Met.ofW (cc := b_Procedures_init) (maxL := 2) (ret := none) (by decide) rfl ?_
  intro p e s m args below meth c s₁ B hml hv
  obtain ⟨rfl, hsz, hP, hK, hD0⟩ := hv
  have hx := B.exec
  have hb := B.bytes
  have hr := B.returns
  have hts := atoms_spec (ws := w_Procedures_init) B.pre
  have htt : ∀ w ∈ tw_T, w.before _ s = true := fun w h => hts w (List.mem_cons_of_mem _ h)
  have hown : s.vm.findClass R_Procedures = some m.cls := findClass_of_methodNamed B.named
  have hlocks := B.notSynchronized
  subst hsz
  have hD := hD0.self (sz := s.heap.size)
  generalize hAe : va_A [(h0, .inr (4, [.null, .null, .null, .null, .int 0, .null, .null, .int 0]))] s.heap.size = A at hD ⊢
  have hA : ∀ q : Nat, s.heap.size ≤ q → A q := fun q h => by rw [← hAe]; exact Or.inr h
  have hS : va_S A s.heap s.heap [] := va_S.rf
  have hP : va_P (dC, dI) classes [(h0, .inr (4, [.null, .null, .null, .null, .int 0, .null, .null, .int 0]))] s.heap := hP
  have hl := lv_entry ([.ref h0, .ref a1]) (n := 2) (Nat.le_of_ble_eq_true rfl)
  rw [lg_entry_eq]
  generalize (lg_sl ([.ref h0, .ref a1]) ++ List.replicate (2 - (lg_sl ([.ref h0, .ref a1])).length) Slot.unset).toArray = ls at hl ⊢
  have hl : lv_has ls 2 [(0, .ref h0), (1, .ref a1)] := hl
  have hin : meth.name = "<init>" := (name_of_methodNamed B.named B.method).1
  refine lv_aload_n hx hb d_Procedures_init_0 rfl (lv_at hl 0 rfl) ?_
  refine W.objInit hx hb hown (htt _ lk_Procedures_3) (htt _ in_objInit) (htt _ cw_objInit) rfl (by rw [hml]; exact hl.1) rfl d_Procedures_init_1 (Nat.le_of_ble_eq_true rfl) (Nat.le_of_ble_eq_true rfl) ?_
  refine W.eq (g2 := F0 m 4 ls []) rfl ?_
  refine lv_aload_n hx hb d_Procedures_init_4 rfl (lv_at hl 0 rfl) ?_
  refine lv_bipush (v := 40) hx hb d_Procedures_init_5 (by decide) ?_
  refine va_newa (atype := .int) (ty := .int) (a0 := (40, .inl (fun _ => 0))) (N' := 40) hx hb (htt _ ac_int) rfl hK hP hD hS hA (fun _ => rfl) (by decide) (by decide) (by decide) (Nat.le_of_ble_eq_true rfl) (Nat.le_of_ble_eq_true rfl) d_Procedures_init_7 (fun q_1 cA H hK hP hD hS => ?_)
  have e8 : cI = cA := cls_one hK rfl
  subst e8
  have hK := hK.sub (tys' := [(cI, .int)]) [0] rfl
  have hP : va_P (dC, dI) classes [(h0, .inr (4, [.null, .null, .null, .null, .int 0, .null, .null, .int 0])), (q_1, .inl (cI, 40, .inl (fun _ => 0)))] H := hP
  have hD : va_D A [(h0, .inr (4, [.null, .null, .null, .null, .int 0, .null, .null, .int 0])), (q_1, .inl (cI, 40, .inl (fun _ => 0)))] := hD
  refine va_putF (D := (dC, dI)) (ci := 4) (v := .ref q_1) (ty := .array .int) (C := R_Procedures) (T := F_Procedures) (N := 8) hx hb htt iw_Procedures t_Procedures t_Procedures_ok n_Procedures hown hK hP hD hS 0 rfl rfl 1 (by decide) (htt _ lk_Procedures_11) (fun _ h9 => h9) rfl hin rfl (by decide +kernel) rfl rfl (Nat.le_of_ble_eq_true rfl) d_Procedures_init_9 (fun H locs hP hD hS => ?_)
  have hP : va_P (dC, dI) classes [(h0, .inr (4, [.null, .ref q_1, .null, .null, .int 0, .null, .null, .int 0])), (q_1, .inl (cI, 40, .inl (fun _ => 0)))] H := hP
  have hD : va_D A [(h0, .inr (4, [.null, .ref q_1, .null, .null, .int 0, .null, .null, .int 0])), (q_1, .inl (cI, 40, .inl (fun _ => 0)))] := hD
  refine lv_aload_n hx hb d_Procedures_init_12 rfl (lv_at hl 0 rfl) ?_
  refine lv_bipush (v := 40) hx hb d_Procedures_init_13 (by decide) ?_
  refine va_newa (atype := .int) (ty := .int) (a0 := (40, .inl (fun _ => 0))) (N' := 40) hx hb (htt _ ac_int) rfl hK hP hD hS hA (fun _ => rfl) (by decide) (by decide) (by decide) (Nat.le_of_ble_eq_true rfl) (Nat.le_of_ble_eq_true rfl) d_Procedures_init_15 (fun q_2 cA H hK hP hD hS => ?_)
  have e8 : cI = cA := cls_one hK rfl
  subst e8
  have hK := hK.sub (tys' := [(cI, .int)]) [0] rfl
  have hP : va_P (dC, dI) classes [(h0, .inr (4, [.null, .ref q_1, .null, .null, .int 0, .null, .null, .int 0])), (q_1, .inl (cI, 40, .inl (fun _ => 0))), (q_2, .inl (cI, 40, .inl (fun _ => 0)))] H := hP
  have hD : va_D A [(h0, .inr (4, [.null, .ref q_1, .null, .null, .int 0, .null, .null, .int 0])), (q_1, .inl (cI, 40, .inl (fun _ => 0))), (q_2, .inl (cI, 40, .inl (fun _ => 0)))] := hD
  refine va_putF (D := (dC, dI)) (ci := 4) (v := .ref q_2) (ty := .array .int) (C := R_Procedures) (T := F_Procedures) (N := 8) hx hb htt iw_Procedures t_Procedures t_Procedures_ok n_Procedures hown hK hP hD hS 0 rfl rfl 2 (by decide) (htt _ lk_Procedures_15) (fun _ h9 => h9) rfl hin rfl (by decide +kernel) rfl rfl (Nat.le_of_ble_eq_true rfl) d_Procedures_init_17 (fun H locs hP hD hS => ?_)
  have hP : va_P (dC, dI) classes [(h0, .inr (4, [.null, .ref q_1, .ref q_2, .null, .int 0, .null, .null, .int 0])), (q_1, .inl (cI, 40, .inl (fun _ => 0))), (q_2, .inl (cI, 40, .inl (fun _ => 0)))] H := hP
  have hD : va_D A [(h0, .inr (4, [.null, .ref q_1, .ref q_2, .null, .int 0, .null, .null, .int 0])), (q_1, .inl (cI, 40, .inl (fun _ => 0))), (q_2, .inl (cI, 40, .inl (fun _ => 0)))] := hD
  refine lv_aload_n hx hb d_Procedures_init_20 rfl (lv_at hl 0 rfl) ?_
  refine lv_bipush (v := 40) hx hb d_Procedures_init_21 (by decide) ?_
  refine va_newa (atype := .int) (ty := .int) (a0 := (40, .inl (fun _ => 0))) (N' := 40) hx hb (htt _ ac_int) rfl hK hP hD hS hA (fun _ => rfl) (by decide) (by decide) (by decide) (Nat.le_of_ble_eq_true rfl) (Nat.le_of_ble_eq_true rfl) d_Procedures_init_23 (fun q_3 cA H hK hP hD hS => ?_)
  have e8 : cI = cA := cls_one hK rfl
  subst e8
  have hK := hK.sub (tys' := [(cI, .int)]) [0] rfl
  have hP : va_P (dC, dI) classes [(h0, .inr (4, [.null, .ref q_1, .ref q_2, .null, .int 0, .null, .null, .int 0])), (q_1, .inl (cI, 40, .inl (fun _ => 0))), (q_2, .inl (cI, 40, .inl (fun _ => 0))), (q_3, .inl (cI, 40, .inl (fun _ => 0)))] H := hP
  have hD : va_D A [(h0, .inr (4, [.null, .ref q_1, .ref q_2, .null, .int 0, .null, .null, .int 0])), (q_1, .inl (cI, 40, .inl (fun _ => 0))), (q_2, .inl (cI, 40, .inl (fun _ => 0))), (q_3, .inl (cI, 40, .inl (fun _ => 0)))] := hD
  refine va_putF (D := (dC, dI)) (ci := 4) (v := .ref q_3) (ty := .array .int) (C := R_Procedures) (T := F_Procedures) (N := 8) hx hb htt iw_Procedures t_Procedures t_Procedures_ok n_Procedures hown hK hP hD hS 0 rfl rfl 3 (by decide) (htt _ lk_Procedures_18) (fun _ h9 => h9) rfl hin rfl (by decide +kernel) rfl rfl (Nat.le_of_ble_eq_true rfl) d_Procedures_init_25 (fun H locs hP hD hS => ?_)
  have hP : va_P (dC, dI) classes [(h0, .inr (4, [.null, .ref q_1, .ref q_2, .ref q_3, .int 0, .null, .null, .int 0])), (q_1, .inl (cI, 40, .inl (fun _ => 0))), (q_2, .inl (cI, 40, .inl (fun _ => 0))), (q_3, .inl (cI, 40, .inl (fun _ => 0)))] H := hP
  have hD : va_D A [(h0, .inr (4, [.null, .ref q_1, .ref q_2, .ref q_3, .int 0, .null, .null, .int 0])), (q_1, .inl (cI, 40, .inl (fun _ => 0))), (q_2, .inl (cI, 40, .inl (fun _ => 0))), (q_3, .inl (cI, 40, .inl (fun _ => 0)))] := hD
  refine lv_aload_n hx hb d_Procedures_init_28 rfl (lv_at hl 0 rfl) ?_
  refine lv_bipush (v := 40) hx hb d_Procedures_init_29 (by decide) ?_
  refine va_newa (atype := .int) (ty := .int) (a0 := (40, .inl (fun _ => 0))) (N' := 40) hx hb (htt _ ac_int) rfl hK hP hD hS hA (fun _ => rfl) (by decide) (by decide) (by decide) (Nat.le_of_ble_eq_true rfl) (Nat.le_of_ble_eq_true rfl) d_Procedures_init_31 (fun q_4 cA H hK hP hD hS => ?_)
  have e8 : cI = cA := cls_one hK rfl
  subst e8
  have hK := hK.sub (tys' := [(cI, .int)]) [0] rfl
  have hP : va_P (dC, dI) classes [(h0, .inr (4, [.null, .ref q_1, .ref q_2, .ref q_3, .int 0, .null, .null, .int 0])), (q_1, .inl (cI, 40, .inl (fun _ => 0))), (q_2, .inl (cI, 40, .inl (fun _ => 0))), (q_3, .inl (cI, 40, .inl (fun _ => 0))), (q_4, .inl (cI, 40, .inl (fun _ => 0)))] H := hP
  have hD : va_D A [(h0, .inr (4, [.null, .ref q_1, .ref q_2, .ref q_3, .int 0, .null, .null, .int 0])), (q_1, .inl (cI, 40, .inl (fun _ => 0))), (q_2, .inl (cI, 40, .inl (fun _ => 0))), (q_3, .inl (cI, 40, .inl (fun _ => 0))), (q_4, .inl (cI, 40, .inl (fun _ => 0)))] := hD
  refine va_putF (D := (dC, dI)) (ci := 4) (v := .ref q_4) (ty := .array .int) (C := R_Procedures) (T := F_Procedures) (N := 8) hx hb htt iw_Procedures t_Procedures t_Procedures_ok n_Procedures hown hK hP hD hS 0 rfl rfl 5 (by decide) (htt _ lk_Procedures_21) (fun _ h9 => h9) rfl hin rfl (by decide +kernel) rfl rfl (Nat.le_of_ble_eq_true rfl) d_Procedures_init_33 (fun H locs hP hD hS => ?_)
  have hP : va_P (dC, dI) classes [(h0, .inr (4, [.null, .ref q_1, .ref q_2, .ref q_3, .int 0, .ref q_4, .null, .int 0])), (q_1, .inl (cI, 40, .inl (fun _ => 0))), (q_2, .inl (cI, 40, .inl (fun _ => 0))), (q_3, .inl (cI, 40, .inl (fun _ => 0))), (q_4, .inl (cI, 40, .inl (fun _ => 0)))] H := hP
  have hD : va_D A [(h0, .inr (4, [.null, .ref q_1, .ref q_2, .ref q_3, .int 0, .ref q_4, .null, .int 0])), (q_1, .inl (cI, 40, .inl (fun _ => 0))), (q_2, .inl (cI, 40, .inl (fun _ => 0))), (q_3, .inl (cI, 40, .inl (fun _ => 0))), (q_4, .inl (cI, 40, .inl (fun _ => 0)))] := hD
  refine lv_aload_n hx hb d_Procedures_init_36 rfl (lv_at hl 0 rfl) ?_
  refine lv_bipush (v := 40) hx hb d_Procedures_init_37 (by decide) ?_
  refine va_newa (atype := .int) (ty := .int) (a0 := (40, .inl (fun _ => 0))) (N' := 40) hx hb (htt _ ac_int) rfl hK hP hD hS hA (fun _ => rfl) (by decide) (by decide) (by decide) (Nat.le_of_ble_eq_true rfl) (Nat.le_of_ble_eq_true rfl) d_Procedures_init_39 (fun q_5 cA H hK hP hD hS => ?_)
  have e8 : cI = cA := cls_one hK rfl
  subst e8
  have hK := hK.sub (tys' := [(cI, .int)]) [0] rfl
  have hP : va_P (dC, dI) classes [(h0, .inr (4, [.null, .ref q_1, .ref q_2, .ref q_3, .int 0, .ref q_4, .null, .int 0])), (q_1, .inl (cI, 40, .inl (fun _ => 0))), (q_2, .inl (cI, 40, .inl (fun _ => 0))), (q_3, .inl (cI, 40, .inl (fun _ => 0))), (q_4, .inl (cI, 40, .inl (fun _ => 0))), (q_5, .inl (cI, 40, .inl (fun _ => 0)))] H := hP
  have hD : va_D A [(h0, .inr (4, [.null, .ref q_1, .ref q_2, .ref q_3, .int 0, .ref q_4, .null, .int 0])), (q_1, .inl (cI, 40, .inl (fun _ => 0))), (q_2, .inl (cI, 40, .inl (fun _ => 0))), (q_3, .inl (cI, 40, .inl (fun _ => 0))), (q_4, .inl (cI, 40, .inl (fun _ => 0))), (q_5, .inl (cI, 40, .inl (fun _ => 0)))] := hD
  refine va_putF (D := (dC, dI)) (ci := 4) (v := .ref q_5) (ty := .array .int) (C := R_Procedures) (T := F_Procedures) (N := 8) hx hb htt iw_Procedures t_Procedures t_Procedures_ok n_Procedures hown hK hP hD hS 0 rfl rfl 6 (by decide) (htt _ lk_Procedures_24) (fun _ h9 => h9) rfl hin rfl (by decide +kernel) rfl rfl (Nat.le_of_ble_eq_true rfl) d_Procedures_init_41 (fun H locs hP hD hS => ?_)
  have hP : va_P (dC, dI) classes [(h0, .inr (4, [.null, .ref q_1, .ref q_2, .ref q_3, .int 0, .ref q_4, .ref q_5, .int 0])), (q_1, .inl (cI, 40, .inl (fun _ => 0))), (q_2, .inl (cI, 40, .inl (fun _ => 0))), (q_3, .inl (cI, 40, .inl (fun _ => 0))), (q_4, .inl (cI, 40, .inl (fun _ => 0))), (q_5, .inl (cI, 40, .inl (fun _ => 0)))] H := hP
  have hD : va_D A [(h0, .inr (4, [.null, .ref q_1, .ref q_2, .ref q_3, .int 0, .ref q_4, .ref q_5, .int 0])), (q_1, .inl (cI, 40, .inl (fun _ => 0))), (q_2, .inl (cI, 40, .inl (fun _ => 0))), (q_3, .inl (cI, 40, .inl (fun _ => 0))), (q_4, .inl (cI, 40, .inl (fun _ => 0))), (q_5, .inl (cI, 40, .inl (fun _ => 0)))] := hD
  refine lv_aload_n hx hb d_Procedures_init_44 rfl (lv_at hl 0 rfl) ?_
  refine lv_aload_n hx hb d_Procedures_init_45 rfl (lv_at hl 1 rfl) ?_
  refine va_putF (D := (dC, dI)) (ci := 4) (v := .ref a1) (ty := .object "TurtleWorld$Heap") (C := R_Procedures) (T := F_Procedures) (N := 8) hx hb htt iw_Procedures t_Procedures t_Procedures_ok n_Procedures hown hK hP hD hS 0 rfl rfl 0 (by decide) (htt _ lk_Procedures_27) (fun _ h9 => h9) rfl hin rfl (by decide +kernel) rfl rfl (Nat.le_of_ble_eq_true rfl) d_Procedures_init_46 (fun H locs hP hD hS => ?_)
  have hP : va_P (dC, dI) classes [(h0, .inr (4, [.ref a1, .ref q_1, .ref q_2, .ref q_3, .int 0, .ref q_4, .ref q_5, .int 0])), (q_1, .inl (cI, 40, .inl (fun _ => 0))), (q_2, .inl (cI, 40, .inl (fun _ => 0))), (q_3, .inl (cI, 40, .inl (fun _ => 0))), (q_4, .inl (cI, 40, .inl (fun _ => 0))), (q_5, .inl (cI, 40, .inl (fun _ => 0)))] H := hP
  have hD : va_D A [(h0, .inr (4, [.ref a1, .ref q_1, .ref q_2, .ref q_3, .int 0, .ref q_4, .ref q_5, .int 0])), (q_1, .inl (cI, 40, .inl (fun _ => 0))), (q_2, .inl (cI, 40, .inl (fun _ => 0))), (q_3, .inl (cI, 40, .inl (fun _ => 0))), (q_4, .inl (cI, 40, .inl (fun _ => 0))), (q_5, .inl (cI, 40, .inl (fun _ => 0)))] := hD
  have hP9 := hP.sub (ws' := [(h0, .inr (4, [.ref a1, .ref q_1, .ref q_2, .ref q_3, .int 0, .ref q_4, .ref q_5, .int 0])), (q_1, .inl (cI, 40, .inl (fun _ => 0))), (q_2, .inl (cI, 40, .inl (fun _ => 0))), (q_3, .inl (cI, 40, .inl (fun _ => 0))), (q_4, .inl (cI, 40, .inl (fun _ => 0))), (q_5, .inl (cI, 40, .inl (fun _ => 0)))]) [0, 1, 2, 3, 4, 5] rfl
  have hD9 := hD.sub (ws' := [(h0, .inr (4, [.ref a1, .ref q_1, .ref q_2, .ref q_3, .int 0, .ref q_4, .ref q_5, .int 0])), (q_1, .inl (cI, 40, .inl (fun _ => 0))), (q_2, .inl (cI, 40, .inl (fun _ => 0))), (q_3, .inl (cI, 40, .inl (fun _ => 0))), (q_4, .inl (cI, 40, .inl (fun _ => 0))), (q_5, .inl (cI, 40, .inl (fun _ => 0)))]) [0, 1, 2, 3, 4, 5] (by decide) rfl
  refine W.widen (k := 5) (n := 200) (Nat.le_of_ble_eq_true rfl) (Nat.le_of_ble_eq_true rfl) ?_
  exact W.vret hx hb hr (fun t9 ht hW => ⟨⟨(), rfl, trivial, q_1, q_2, q_3, q_4, q_5, by rw [ht]; exact hP9, va_K.moved hW.alike hK, hD9⟩, hS.F ht⟩) hS.2.2 d_Procedures_init_49

set_option maxHeartbeats 4000000 in
set_option maxRecDepth 100000 in
/-- a new Output -/
theorem c_Output_init (l : Launch) (dC : Nat → ClassId) (dI : Nat → Nat → Nat) (sz : Nat) (h0 : Nat) (cI : ClassId) (a1 : Nat)  : Met l y_Output_init w_Output_init ({ frames := 1, cells := 5, slots := 13592, locals := 12 }) (va_Pc [.ref h0, .ref a1] (fun U => U.heap.size = sz ∧ va_P (dC, dI) classes [(h0, .inr (6, [.null, .null, .int 0, .int 0, .null, .int 0, .int 0, .null, .int 0, .null, .null]))] U.heap ∧ va_K (dC, dI) classes [(cI, .int)] U ∧ va_D (fun _ => True) [(h0, .inr (6, [.null, .null, .int 0, .int 0, .null, .int 0, .int 0, .null, .int 0, .null, .null]))])) (va_Qv (fun (_ : Unit) => True) (fun (_ : Unit) t => ∃ (q_1 q_2 q_3 q_4 q_5 : Nat), va_P (dC, dI) classes [(h0, .inr (6, [.ref a1, .ref q_1, .int 0, .int 0, .ref q_2, .int 0, .int 0, .ref q_3, .int 0, .ref q_4, .ref q_5])), (q_1, .inl (cI, 2000, .inl (fun _ => 0))), (q_2, .inl (cI, 2000, .inl (fun _ => 0))), (q_3, .inl (cI, 8192, .inl (fun _ => 0))), (q_4, .inl (cI, 700, .inl (fun _ => 0))), (q_5, .inl (cI, 700, .inl (fun _ => 0)))] t.heap ∧ va_K (dC, dI) classes [(cI, .int)] t ∧ va_D (va_A [(h0, .inr (6, [.null, .null, .int 0, .int 0, .null, .int 0, .int 0, .null, .int 0, .null, .null]))] sz) [(h0, .inr (6, [.ref a1, .ref q_1, .int 0, .int 0, .ref q_2, .int 0, .int 0, .ref q_3, .int 0, .ref q_4, .ref q_5])), (q_1, .inl (cI, 2000, .inl (fun _ => 0))), (q_2, .inl (cI, 2000, .inl (fun _ => 0))), (q_3, .inl (cI, 8192, .inl (fun _ => 0))), (q_4, .inl (cI, 700, .inl (fun _ => 0))), (q_5, .inl (cI, 700, .inl (fun _ => 0)))]) (va_A [(h0, .inr (6, [.null, .null, .int 0, .int 0, .null, .int 0, .int 0, .null, .int 0, .null, .null]))] sz)) 5 13592 (va_A [(h0, .inr (6, [.null, .null, .int 0, .int 0, .null, .int 0, .int 0, .null, .int 0, .null, .null]))] sz) := by
  refine Met.ofW (cc := b_Output_init) (maxL := 2) (ret := none) (by decide) rfl ?_
  intro p e s m args below meth c s₁ B hml hv
  obtain ⟨rfl, hsz, hP, hK, hD0⟩ := hv
  have hx := B.exec
  have hb := B.bytes
  have hr := B.returns
  have hts := atoms_spec (ws := w_Output_init) B.pre
  have htt : ∀ w ∈ tw_T, w.before _ s = true := fun w h => hts w (List.mem_cons_of_mem _ h)
  have hown : s.vm.findClass R_Output = some m.cls := findClass_of_methodNamed B.named
  have hlocks := B.notSynchronized
  subst hsz
  have hD := hD0.self (sz := s.heap.size)
  generalize hAe : va_A [(h0, .inr (6, [.null, .null, .int 0, .int 0, .null, .int 0, .int 0, .null, .int 0, .null, .null]))] s.heap.size = A at hD ⊢
  have hA : ∀ q : Nat, s.heap.size ≤ q → A q := fun q h => by rw [← hAe]; exact Or.inr h
  have hS : va_S A s.heap s.heap [] := va_S.rf
  have hP : va_P (dC, dI) classes [(h0, .inr (6, [.null, .null, .int 0, .int 0, .null, .int 0, .int 0, .null, .int 0, .null, .null]))] s.heap := hP
  have hl := lv_entry ([.ref h0, .ref a1]) (n := 2) (Nat.le_of_ble_eq_true rfl)
  rw [lg_entry_eq]
  generalize (lg_sl ([.ref h0, .ref a1]) ++ List.replicate (2 - (lg_sl ([.ref h0, .ref a1])).length) Slot.unset).toArray = ls at hl ⊢
  have hl : lv_has ls 2 [(0, .ref h0), (1, .ref a1)] := hl
  have hin : meth.name = "<init>" := (name_of_methodNamed B.named B.method).1
  refine lv_aload_n hx hb d_Output_init_0 rfl (lv_at hl 0 rfl) ?_
  refine W.objInit hx hb hown (htt _ lk_Output_3) (htt _ in_objInit) (htt _ cw_objInit) rfl (by rw [hml]; exact hl.1) rfl d_Output_init_1 (Nat.le_of_ble_eq_true rfl) (Nat.le_of_ble_eq_true rfl) ?_
  refine W.eq (g2 := F0 m 4 ls []) rfl ?_
  refine lv_aload_n hx hb d_Output_init_4 rfl (lv_at hl 0 rfl) ?_
  refine lv_sipush (v := 2000) hx hb d_Output_init_5 (by decide) ?_
  refine va_newa (atype := .int) (ty := .int) (a0 := (2000, .inl (fun _ => 0))) (N' := 2000) hx hb (htt _ ac_int) rfl hK hP hD hS hA (fun _ => rfl) (by decide) (by decide) (by decide) (Nat.le_of_ble_eq_true rfl) (Nat.le_of_ble_eq_true rfl) d_Output_init_8 (fun q_1 cA H hK hP hD hS => ?_)
  have e8 : cI = cA := cls_one hK rfl
  subst e8
  have hK := hK.sub (tys' := [(cI, .int)]) [0] rfl
  have hP : va_P (dC, dI) classes [(h0, .inr (6, [.null, .null, .int 0, .int 0, .null, .int 0, .int 0, .null, .int 0, .null, .null])), (q_1, .inl (cI, 2000, .inl (fun _ => 0)))] H := hP
  have hD : va_D A [(h0, .inr (6, [.null, .null, .int 0, .int 0, .null, .int 0, .int 0, .null, .int 0, .null, .null])), (q_1, .inl (cI, 2000, .inl (fun _ => 0)))] := hD
  refine va_putF (D := (dC, dI)) (ci := 6) (v := .ref q_1) (ty := .array .int) (C := R_Output) (T := F_Output) (N := 11) hx hb htt iw_Output t_Output t_Output_ok n_Output hown hK hP hD hS 0 rfl rfl 1 (by decide) (htt _ lk_Output_11) (fun _ h9 => h9) rfl hin rfl (by decide +kernel) rfl rfl (Nat.le_of_ble_eq_true rfl) d_Output_init_10 (fun H locs hP hD hS => ?_)
  have hP : va_P (dC, dI) classes [(h0, .inr (6, [.null, .ref q_1, .int 0, .int 0, .null, .int 0, .int 0, .null, .int 0, .null, .null])), (q_1, .inl (cI, 2000, .inl (fun _ => 0)))] H := hP
  have hD : va_D A [(h0, .inr (6, [.null, .ref q_1, .int 0, .int 0, .null, .int 0, .int 0, .null, .int 0, .null, .null])), (q_1, .inl (cI, 2000, .inl (fun _ => 0)))] := hD
  refine lv_aload_n hx hb d_Output_init_13 rfl (lv_at hl 0 rfl) ?_
  refine lv_sipush (v := 2000) hx hb d_Output_init_14 (by decide) ?_
  refine va_newa (atype := .int) (ty := .int) (a0 := (2000, .inl (fun _ => 0))) (N' := 2000) hx hb (htt _ ac_int) rfl hK hP hD hS hA (fun _ => rfl) (by decide) (by decide) (by decide) (Nat.le_of_ble_eq_true rfl) (Nat.le_of_ble_eq_true rfl) d_Output_init_17 (fun q_2 cA H hK hP hD hS => ?_)
  have e8 : cI = cA := cls_one hK rfl
  subst e8
  have hK := hK.sub (tys' := [(cI, .int)]) [0] rfl
  have hP : va_P (dC, dI) classes [(h0, .inr (6, [.null, .ref q_1, .int 0, .int 0, .null, .int 0, .int 0, .null, .int 0, .null, .null])), (q_1, .inl (cI, 2000, .inl (fun _ => 0))), (q_2, .inl (cI, 2000, .inl (fun _ => 0)))] H := hP
  have hD : va_D A [(h0, .inr (6, [.null, .ref q_1, .int 0, .int 0, .null, .int 0, .int 0, .null, .int 0, .null, .null])), (q_1, .inl (cI, 2000, .inl (fun _ => 0))), (q_2, .inl (cI, 2000, .inl (fun _ => 0)))] := hD
  refine va_putF (D := (dC, dI)) (ci := 6) (v := .ref q_2) (ty := .array .int) (C := R_Output) (T := F_Output) (N := 11) hx hb htt iw_Output t_Output t_Output_ok n_Output hown hK hP hD hS 0 rfl rfl 4 (by decide) (htt _ lk_Output_15) (fun _ h9 => h9) rfl hin rfl (by decide +kernel) rfl rfl (Nat.le_of_ble_eq_true rfl) d_Output_init_19 (fun H locs hP hD hS => ?_)
  have hP : va_P (dC, dI) classes [(h0, .inr (6, [.null, .ref q_1, .int 0, .int 0, .ref q_2, .int 0, .int 0, .null, .int 0, .null, .null])), (q_1, .inl (cI, 2000, .inl (fun _ => 0))), (q_2, .inl (cI, 2000, .inl (fun _ => 0)))] H := hP
  have hD : va_D A [(h0, .inr (6, [.null, .ref q_1, .int 0, .int 0, .ref q_2, .int 0, .int 0, .null, .int 0, .null, .null])), (q_1, .inl (cI, 2000, .inl (fun _ => 0))), (q_2, .inl (cI, 2000, .inl (fun _ => 0)))] := hD
  refine lv_aload_n hx hb d_Output_init_22 rfl (lv_at hl 0 rfl) ?_
  refine lv_sipush (v := 8192) hx hb d_Output_init_23 (by decide) ?_
  refine va_newa (atype := .int) (ty := .int) (a0 := (8192, .inl (fun _ => 0))) (N' := 8192) hx hb (htt _ ac_int) rfl hK hP hD hS hA (fun _ => rfl) (by decide) (by decide) (by decide) (Nat.le_of_ble_eq_true rfl) (Nat.le_of_ble_eq_true rfl) d_Output_init_26 (fun q_3 cA H hK hP hD hS => ?_)
  have e8 : cI = cA := cls_one hK rfl
  subst e8
  have hK := hK.sub (tys' := [(cI, .int)]) [0] rfl
  have hP : va_P (dC, dI) classes [(h0, .inr (6, [.null, .ref q_1, .int 0, .int 0, .ref q_2, .int 0, .int 0, .null, .int 0, .null, .null])), (q_1, .inl (cI, 2000, .inl (fun _ => 0))), (q_2, .inl (cI, 2000, .inl (fun _ => 0))), (q_3, .inl (cI, 8192, .inl (fun _ => 0)))] H := hP
  have hD : va_D A [(h0, .inr (6, [.null, .ref q_1, .int 0, .int 0, .ref q_2, .int 0, .int 0, .null, .int 0, .null, .null])), (q_1, .inl (cI, 2000, .inl (fun _ => 0))), (q_2, .inl (cI, 2000, .inl (fun _ => 0))), (q_3, .inl (cI, 8192, .inl (fun _ => 0)))] := hD
  refine va_putF (D := (dC, dI)) (ci := 6) (v := .ref q_3) (ty := .array .int) (C := R_Output) (T := F_Output) (N := 11) hx hb htt iw_Output t_Output t_Output_ok n_Output hown hK hP hD hS 0 rfl rfl 7 (by decide) (htt _ lk_Output_18) (fun _ h9 => h9) rfl hin rfl (by decide +kernel) rfl rfl (Nat.le_of_ble_eq_true rfl) d_Output_init_28 (fun H locs hP hD hS => ?_)
  have hP : va_P (dC, dI) classes [(h0, .inr (6, [.null, .ref q_1, .int 0, .int 0, .ref q_2, .int 0, .int 0, .ref q_3, .int 0, .null, .null])), (q_1, .inl (cI, 2000, .inl (fun _ => 0))), (q_2, .inl (cI, 2000, .inl (fun _ => 0))), (q_3, .inl (cI, 8192, .inl (fun _ => 0)))] H := hP
  have hD : va_D A [(h0, .inr (6, [.null, .ref q_1, .int 0, .int 0, .ref q_2, .int 0, .int 0, .ref q_3, .int 0, .null, .null])), (q_1, .inl (cI, 2000, .inl (fun _ => 0))), (q_2, .inl (cI, 2000, .inl (fun _ => 0))), (q_3, .inl (cI, 8192, .inl (fun _ => 0)))] := hD
  refine lv_aload_n hx hb d_Output_init_31 rfl (lv_at hl 0 rfl) ?_
  refine lv_sipush (v := 700) hx hb d_Output_init_32 (by decide) ?_
  refine va_newa (atype := .int) (ty := .int) (a0 := (700, .inl (fun _ => 0))) (N' := 700) hx hb (htt _ ac_int) rfl hK hP hD hS hA (fun _ => rfl) (by decide) (by decide) (by decide) (Nat.le_of_ble_eq_true rfl) (Nat.le_of_ble_eq_true rfl) d_Output_init_35 (fun q_4 cA H hK hP hD hS => ?_)
  have e8 : cI = cA := cls_one hK rfl
  subst e8
  have hK := hK.sub (tys' := [(cI, .int)]) [0] rfl
  have hP : va_P (dC, dI) classes [(h0, .inr (6, [.null, .ref q_1, .int 0, .int 0, .ref q_2, .int 0, .int 0, .ref q_3, .int 0, .null, .null])), (q_1, .inl (cI, 2000, .inl (fun _ => 0))), (q_2, .inl (cI, 2000, .inl (fun _ => 0))), (q_3, .inl (cI, 8192, .inl (fun _ => 0))), (q_4, .inl (cI, 700, .inl (fun _ => 0)))] H := hP
  have hD : va_D A [(h0, .inr (6, [.null, .ref q_1, .int 0, .int 0, .ref q_2, .int 0, .int 0, .ref q_3, .int 0, .null, .null])), (q_1, .inl (cI, 2000, .inl (fun _ => 0))), (q_2, .inl (cI, 2000, .inl (fun _ => 0))), (q_3, .inl (cI, 8192, .inl (fun _ => 0))), (q_4, .inl (cI, 700, .inl (fun _ => 0)))] := hD
  refine va_putF (D := (dC, dI)) (ci := 6) (v := .ref q_4) (ty := .array .int) (C := R_Output) (T := F_Output) (N := 11) hx hb htt iw_Output t_Output t_Output_ok n_Output hown hK hP hD hS 0 rfl rfl 9 (by decide) (htt _ lk_Output_21) (fun _ h9 => h9) rfl hin rfl (by decide +kernel) rfl rfl (Nat.le_of_ble_eq_true rfl) d_Output_init_37 (fun H locs hP hD hS => ?_)
  have hP : va_P (dC, dI) classes [(h0, .inr (6, [.null, .ref q_1, .int 0, .int 0, .ref q_2, .int 0, .int 0, .ref q_3, .int 0, .ref q_4, .null])), (q_1, .inl (cI, 2000, .inl (fun _ => 0))), (q_2, .inl (cI, 2000, .inl (fun _ => 0))), (q_3, .inl (cI, 8192, .inl (fun _ => 0))), (q_4, .inl (cI, 700, .inl (fun _ => 0)))] H := hP
  have hD : va_D A [(h0, .inr (6, [.null, .ref q_1, .int 0, .int 0, .ref q_2, .int 0, .int 0, .ref q_3, .int 0, .ref q_4, .null])), (q_1, .inl (cI, 2000, .inl (fun _ => 0))), (q_2, .inl (cI, 2000, .inl (fun _ => 0))), (q_3, .inl (cI, 8192, .inl (fun _ => 0))), (q_4, .inl (cI, 700, .inl (fun _ => 0)))] := hD
  refine lv_aload_n hx hb d_Output_init_40 rfl (lv_at hl 0 rfl) ?_
  refine lv_sipush (v := 700) hx hb d_Output_init_41 (by decide) ?_
  refine va_newa (atype := .int) (ty := .int) (a0 := (700, .inl (fun _ => 0))) (N' := 700) hx hb (htt _ ac_int) rfl hK hP hD hS hA (fun _ => rfl) (by decide) (by decide) (by decide) (Nat.le_of_ble_eq_true rfl) (Nat.le_of_ble_eq_true rfl) d_Output_init_44 (fun q_5 cA H hK hP hD hS => ?_)
  have e8 : cI = cA := cls_one hK rfl
  subst e8
  have hK := hK.sub (tys' := [(cI, .int)]) [0] rfl
  have hP : va_P (dC, dI) classes [(h0, .inr (6, [.null, .ref q_1, .int 0, .int 0, .ref q_2, .int 0, .int 0, .ref q_3, .int 0, .ref q_4, .null])), (q_1, .inl (cI, 2000, .inl (fun _ => 0))), (q_2, .inl (cI, 2000, .inl (fun _ => 0))), (q_3, .inl (cI, 8192, .inl (fun _ => 0))), (q_4, .inl (cI, 700, .inl (fun _ => 0))), (q_5, .inl (cI, 700, .inl (fun _ => 0)))] H := hP
  have hD : va_D A [(h0, .inr (6, [.null, .ref q_1, .int 0, .int 0, .ref q_2, .int 0, .int 0, .ref q_3, .int 0, .ref q_4, .null])), (q_1, .inl (cI, 2000, .inl (fun _ => 0))), (q_2, .inl (cI, 2000, .inl (fun _ => 0))), (q_3, .inl (cI, 8192, .inl (fun _ => 0))), (q_4, .inl (cI, 700, .inl (fun _ => 0))), (q_5, .inl (cI, 700, .inl (fun _ => 0)))] := hD
  refine va_putF (D := (dC, dI)) (ci := 6) (v := .ref q_5) (ty := .array .int) (C := R_Output) (T := F_Output) (N := 11) hx hb htt iw_Output t_Output t_Output_ok n_Output hown hK hP hD hS 0 rfl rfl 10 (by decide) (htt _ lk_Output_24) (fun _ h9 => h9) rfl hin rfl (by decide +kernel) rfl rfl (Nat.le_of_ble_eq_true rfl) d_Output_init_46 (fun H locs hP hD hS => ?_)
  have hP : va_P (dC, dI) classes [(h0, .inr (6, [.null, .ref q_1, .int 0, .int 0, .ref q_2, .int 0, .int 0, .ref q_3, .int 0, .ref q_4, .ref q_5])), (q_1, .inl (cI, 2000, .inl (fun _ => 0))), (q_2, .inl (cI, 2000, .inl (fun _ => 0))), (q_3, .inl (cI, 8192, .inl (fun _ => 0))), (q_4, .inl (cI, 700, .inl (fun _ => 0))), (q_5, .inl (cI, 700, .inl (fun _ => 0)))] H := hP
  have hD : va_D A [(h0, .inr (6, [.null, .ref q_1, .int 0, .int 0, .ref q_2, .int 0, .int 0, .ref q_3, .int 0, .ref q_4, .ref q_5])), (q_1, .inl (cI, 2000, .inl (fun _ => 0))), (q_2, .inl (cI, 2000, .inl (fun _ => 0))), (q_3, .inl (cI, 8192, .inl (fun _ => 0))), (q_4, .inl (cI, 700, .inl (fun _ => 0))), (q_5, .inl (cI, 700, .inl (fun _ => 0)))] := hD
  refine lv_aload_n hx hb d_Output_init_49 rfl (lv_at hl 0 rfl) ?_
  refine lv_aload_n hx hb d_Output_init_50 rfl (lv_at hl 1 rfl) ?_
  refine va_putF (D := (dC, dI)) (ci := 6) (v := .ref a1) (ty := .object "TurtleWorld$Heap") (C := R_Output) (T := F_Output) (N := 11) hx hb htt iw_Output t_Output t_Output_ok n_Output hown hK hP hD hS 0 rfl rfl 0 (by decide) (htt _ lk_Output_27) (fun _ h9 => h9) rfl hin rfl (by decide +kernel) rfl rfl (Nat.le_of_ble_eq_true rfl) d_Output_init_51 (fun H locs hP hD hS => ?_)
  have hP : va_P (dC, dI) classes [(h0, .inr (6, [.ref a1, .ref q_1, .int 0, .int 0, .ref q_2, .int 0, .int 0, .ref q_3, .int 0, .ref q_4, .ref q_5])), (q_1, .inl (cI, 2000, .inl (fun _ => 0))), (q_2, .inl (cI, 2000, .inl (fun _ => 0))), (q_3, .inl (cI, 8192, .inl (fun _ => 0))), (q_4, .inl (cI, 700, .inl (fun _ => 0))), (q_5, .inl (cI, 700, .inl (fun _ => 0)))] H := hP
  have hD : va_D A [(h0, .inr (6, [.ref a1, .ref q_1, .int 0, .int 0, .ref q_2, .int 0, .int 0, .ref q_3, .int 0, .ref q_4, .ref q_5])), (q_1, .inl (cI, 2000, .inl (fun _ => 0))), (q_2, .inl (cI, 2000, .inl (fun _ => 0))), (q_3, .inl (cI, 8192, .inl (fun _ => 0))), (q_4, .inl (cI, 700, .inl (fun _ => 0))), (q_5, .inl (cI, 700, .inl (fun _ => 0)))] := hD
  have hP9 := hP.sub (ws' := [(h0, .inr (6, [.ref a1, .ref q_1, .int 0, .int 0, .ref q_2, .int 0, .int 0, .ref q_3, .int 0, .ref q_4, .ref q_5])), (q_1, .inl (cI, 2000, .inl (fun _ => 0))), (q_2, .inl (cI, 2000, .inl (fun _ => 0))), (q_3, .inl (cI, 8192, .inl (fun _ => 0))), (q_4, .inl (cI, 700, .inl (fun _ => 0))), (q_5, .inl (cI, 700, .inl (fun _ => 0)))]) [0, 1, 2, 3, 4, 5] rfl
  have hD9 := hD.sub (ws' := [(h0, .inr (6, [.ref a1, .ref q_1, .int 0, .int 0, .ref q_2, .int 0, .int 0, .ref q_3, .int 0, .ref q_4, .ref q_5])), (q_1, .inl (cI, 2000, .inl (fun _ => 0))), (q_2, .inl (cI, 2000, .inl (fun _ => 0))), (q_3, .inl (cI, 8192, .inl (fun _ => 0))), (q_4, .inl (cI, 700, .inl (fun _ => 0))), (q_5, .inl (cI, 700, .inl (fun _ => 0)))]) [0, 1, 2, 3, 4, 5] (by decide) rfl
  refine W.widen (k := 5) (n := 13592) (Nat.le_of_ble_eq_true rfl) (Nat.le_of_ble_eq_true rfl) ?_
  exact W.vret hx hb hr (fun t9 ht hW => ⟨⟨(), rfl, trivial, q_1, q_2, q_3, q_4, q_5, by rw [ht]; exact hP9, va_K.moved hW.alike hK, hD9⟩, hS.F ht⟩) hS.2.2 d_Output_init_54

set_option maxHeartbeats 4000000 in
set_option maxRecDepth 100000 in
/-- a new Reader -/
theorem c_Reader_init (l : Launch) (dC : Nat → ClassId) (dI : Nat → Nat → Nat) (sz : Nat) (h0 : Nat) (cI : ClassId) (a1 : Nat) (a2 : Nat)  : Met l y_Reader_init w_Reader_init ({ frames := 1, cells := 6, slots := 5220, locals := 12 }) (va_Pc [.ref h0, .ref a1, .ref a2] (fun U => U.heap.size = sz ∧ va_P (dC, dI) classes [(h0, .inr (7, [.null, .null, .null, .int 0, .int 0, .int 0, .int 0, .null, .int 0, .null, .int 0, .int 0, .int 0, .int 0, .null, .null, .null, .int 0, .int 0]))] U.heap ∧ va_K (dC, dI) classes [(cI, .int)] U ∧ va_D (fun _ => True) [(h0, .inr (7, [.null, .null, .null, .int 0, .int 0, .int 0, .int 0, .null, .int 0, .null, .int 0, .int 0, .int 0, .int 0, .null, .null, .null, .int 0, .int 0]))])) (va_Qv (fun (_ : Unit) => True) (fun (_ : Unit) t => ∃ (q_1 q_2 q_3 q_4 q_5 q_6 : Nat), va_P (dC, dI) classes [(h0, .inr (7, [.ref a1, .ref a2, .ref q_1, .int 0, .int 0, .int 0, .int 0, .ref q_2, .int 0, .ref q_3, .int 0, .int 0, .int 0, .int 0, .ref q_4, .ref q_5, .ref q_6, .int 0, .int 0])), (q_1, .inl (cI, 4000, .inl (fun _ => 0))), (q_2, .inl (cI, 600, .inl (fun _ => 0))), (q_3, .inl (cI, 20, .inl (fun _ => 0))), (q_4, .inl (cI, 200, .inl (fun _ => 0))), (q_5, .inl (cI, 200, .inl (fun _ => 0))), (q_6, .inl (cI, 200, .inl (fun _ => 0)))] t.heap ∧ va_K (dC, dI) classes [(cI, .int)] t ∧ va_D (va_A [(h0, .inr (7, [.null, .null, .null, .int 0, .int 0, .int 0, .int 0, .null, .int 0, .null, .int 0, .int 0, .int 0, .int 0, .null, .null, .null, .int 0, .int 0]))] sz) [(h0, .inr (7, [.ref a1, .ref a2, .ref q_1, .int 0, .int 0, .int 0, .int 0, .ref q_2, .int 0, .ref q_3, .int 0, .int 0, .int 0, .int 0, .ref q_4, .ref q_5, .ref q_6, .int 0, .int 0])), (q_1, .inl (cI, 4000, .inl (fun _ => 0))), (q_2, .inl (cI, 600, .inl (fun _ => 0))), (q_3, .inl (cI, 20, .inl (fun _ => 0))), (q_4, .inl (cI, 200, .inl (fun _ => 0))), (q_5, .inl (cI, 200, .inl (fun _ => 0))), (q_6, .inl (cI, 200, .inl (fun _ => 0)))]) (va_A [(h0, .inr (7, [.null, .null, .null, .int 0, .int 0, .int 0, .int 0, .null, .int 0, .null, .int 0, .int 0, .int 0, .int 0, .null, .null, .null, .int 0, .int 0]))] sz)) 6 5220 (va_A [(h0, .inr (7, [.null, .null, .null, .int 0, .int 0, .int 0, .int 0, .null, .int 0, .null, .int 0, .int 0, .int 0, .int 0, .null, .null, .null, .int 0, .int 0]))] sz) := by
  refine Met.ofW (cc := b_Reader_init) (maxL := 3) (ret := none) (by decide) rfl ?_
  intro p e s m args below meth c s₁ B hml hv
  obtain ⟨rfl, hsz, hP, hK, hD0⟩ := hv
  have hx := B.exec
  have hb := B.bytes
  have hr := B.returns
  have hts := atoms_spec (ws := w_Reader_init) B.pre
  have htt : ∀ w ∈ tw_T, w.before _ s = true := fun w h => hts w (List.mem_cons_of_mem _ h)
  have hown : s.vm.findClass R_Reader = some m.cls := findClass_of_methodNamed B.named
  have hlocks := B.notSynchronized
  subst hsz
  have hD := hD0.self (sz := s.heap.size)
  generalize hAe : va_A [(h0, .inr (7, [.null, .null, .null, .int 0, .int 0, .int 0, .int 0, .null, .int 0, .null, .int 0, .int 0, .int 0, .int 0, .null, .null, .null, .int 0, .int 0]))] s.heap.size = A at hD ⊢
  have hA : ∀ q : Nat, s.heap.size ≤ q → A q := fun q h => by rw [← hAe]; exact Or.inr h
  have hS : va_S A s.heap s.heap [] := va_S.rf
  have hP : va_P (dC, dI) classes [(h0, .inr (7, [.null, .null, .null, .int 0, .int 0, .int 0, .int 0, .null, .int 0, .null, .int 0, .int 0, .int 0, .int 0, .null, .null, .null, .int 0, .int 0]))] s.heap := hP
  have hl := lv_entry ([.ref h0, .ref a1, .ref a2]) (n := 3) (Nat.le_of_ble_eq_true rfl)
  rw [lg_entry_eq]
  generalize (lg_sl ([.ref h0, .ref a1, .ref a2]) ++ List.replicate (3 - (lg_sl ([.ref h0, .ref a1, .ref a2])).length) Slot.unset).toArray = ls at hl ⊢
  have hl : lv_has ls 3 [(0, .ref h0), (1, .ref a1), (2, .ref a2)] := hl
  have hin : meth.name = "<init>" := (name_of_methodNamed B.named B.method).1
  refine lv_aload_n hx hb d_Reader_init_0 rfl (lv_at hl 0 rfl) ?_
  refine W.objInit hx hb hown (htt _ lk_Reader_3) (htt _ in_objInit) (htt _ cw_objInit) rfl (by rw [hml]; exact hl.1) rfl d_Reader_init_1 (Nat.le_of_ble_eq_true rfl) (Nat.le_of_ble_eq_true rfl) ?_
  refine W.eq (g2 := F0 m 4 ls []) rfl ?_
  refine lv_aload_n hx hb d_Reader_init_4 rfl (lv_at hl 0 rfl) ?_
  refine lv_sipush (v := 4000) hx hb d_Reader_init_5 (by decide) ?_
  refine va_newa (atype := .int) (ty := .int) (a0 := (4000, .inl (fun _ => 0))) (N' := 4000) hx hb (htt _ ac_int) rfl hK hP hD hS hA (fun _ => rfl) (by decide) (by decide) (by decide) (Nat.le_of_ble_eq_true rfl) (Nat.le_of_ble_eq_true rfl) d_Reader_init_8 (fun q_1 cA H hK hP hD hS => ?_)
  have e8 : cI = cA := cls_one hK rfl
  subst e8
  have hK := hK.sub (tys' := [(cI, .int)]) [0] rfl
  have hP : va_P (dC, dI) classes [(h0, .inr (7, [.null, .null, .null, .int 0, .int 0, .int 0, .int 0, .null, .int 0, .null, .int 0, .int 0, .int 0, .int 0, .null, .null, .null, .int 0, .int 0])), (q_1, .inl (cI, 4000, .inl (fun _ => 0)))] H := hP
  have hD : va_D A [(h0, .inr (7, [.null, .null, .null, .int 0, .int 0, .int 0, .int 0, .null, .int 0, .null, .int 0, .int 0, .int 0, .int 0, .null, .null, .null, .int 0, .int 0])), (q_1, .inl (cI, 4000, .inl (fun _ => 0)))] := hD
  refine va_putF (D := (dC, dI)) (ci := 7) (v := .ref q_1) (ty := .array .int) (C := R_Reader) (T := F_Reader) (N := 19) hx hb htt iw_Reader t_Reader t_Reader_ok n_Reader hown hK hP hD hS 0 rfl rfl 2 (by decide) (htt _ lk_Reader_11) (fun _ h9 => h9) rfl hin rfl (by decide +kernel) rfl rfl (Nat.le_of_ble_eq_true rfl) d_Reader_init_10 (fun H locs hP hD hS => ?_)
  have hP : va_P (dC, dI) classes [(h0, .inr (7, [.null, .null, .ref q_1, .int 0, .int 0, .int 0, .int 0, .null, .int 0, .null, .int 0, .int 0, .int 0, .int 0, .null, .null, .null, .int 0, .int 0])), (q_1, .inl (cI, 4000, .inl (fun _ => 0)))] H := hP
  have hD : va_D A [(h0, .inr (7, [.null, .null, .ref q_1, .int 0, .int 0, .int 0, .int 0, .null, .int 0, .null, .int 0, .int 0, .int 0, .int 0, .null, .null, .null, .int 0, .int 0])), (q_1, .inl (cI, 4000, .inl (fun _ => 0)))] := hD
  refine lv_aload_n hx hb d_Reader_init_13 rfl (lv_at hl 0 rfl) ?_
  refine lv_sipush (v := 600) hx hb d_Reader_init_14 (by decide) ?_
  refine va_newa (atype := .int) (ty := .int) (a0 := (600, .inl (fun _ => 0))) (N' := 600) hx hb (htt _ ac_int) rfl hK hP hD hS hA (fun _ => rfl) (by decide) (by decide) (by decide) (Nat.le_of_ble_eq_true rfl) (Nat.le_of_ble_eq_true rfl) d_Reader_init_17 (fun q_2 cA H hK hP hD hS => ?_)
  have e8 : cI = cA := cls_one hK rfl
  subst e8
  have hK := hK.sub (tys' := [(cI, .int)]) [0] rfl
  have hP : va_P (dC, dI) classes [(h0, .inr (7, [.null, .null, .ref q_1, .int 0, .int 0, .int 0, .int 0, .null, .int 0, .null, .int 0, .int 0, .int 0, .int 0, .null, .null, .null, .int 0, .int 0])), (q_1, .inl (cI, 4000, .inl (fun _ => 0))), (q_2, .inl (cI, 600, .inl (fun _ => 0)))] H := hP
  have hD : va_D A [(h0, .inr (7, [.null, .null, .ref q_1, .int 0, .int 0, .int 0, .int 0, .null, .int 0, .null, .int 0, .int 0, .int 0, .int 0, .null, .null, .null, .int 0, .int 0])), (q_1, .inl (cI, 4000, .inl (fun _ => 0))), (q_2, .inl (cI, 600, .inl (fun _ => 0)))] := hD
  refine va_putF (D := (dC, dI)) (ci := 7) (v := .ref q_2) (ty := .array .int) (C := R_Reader) (T := F_Reader) (N := 19) hx hb htt iw_Reader t_Reader t_Reader_ok n_Reader hown hK hP hD hS 0 rfl rfl 7 (by decide) (htt _ lk_Reader_15) (fun _ h9 => h9) rfl hin rfl (by decide +kernel) rfl rfl (Nat.le_of_ble_eq_true rfl) d_Reader_init_19 (fun H locs hP hD hS => ?_)
  have hP : va_P (dC, dI) classes [(h0, .inr (7, [.null, .null, .ref q_1, .int 0, .int 0, .int 0, .int 0, .ref q_2, .int 0, .null, .int 0, .int 0, .int 0, .int 0, .null, .null, .null, .int 0, .int 0])), (q_1, .inl (cI, 4000, .inl (fun _ => 0))), (q_2, .inl (cI, 600, .inl (fun _ => 0)))] H := hP
  have hD : va_D A [(h0, .inr (7, [.null, .null, .ref q_1, .int 0, .int 0, .int 0, .int 0, .ref q_2, .int 0, .null, .int 0, .int 0, .int 0, .int 0, .null, .null, .null, .int 0, .int 0])), (q_1, .inl (cI, 4000, .inl (fun _ => 0))), (q_2, .inl (cI, 600, .inl (fun _ => 0)))] := hD
  refine lv_aload_n hx hb d_Reader_init_22 rfl (lv_at hl 0 rfl) ?_
  refine lv_bipush (v := 20) hx hb d_Reader_init_23 (by decide) ?_
  refine va_newa (atype := .int) (ty := .int) (a0 := (20, .inl (fun _ => 0))) (N' := 20) hx hb (htt _ ac_int) rfl hK hP hD hS hA (fun _ => rfl) (by decide) (by decide) (by decide) (Nat.le_of_ble_eq_true rfl) (Nat.le_of_ble_eq_true rfl) d_Reader_init_25 (fun q_3 cA H hK hP hD hS => ?_)
  have e8 : cI = cA := cls_one hK rfl
  subst e8
  have hK := hK.sub (tys' := [(cI, .int)]) [0] rfl
  have hP : va_P (dC, dI) classes [(h0, .inr (7, [.null, .null, .ref q_1, .int 0, .int 0, .int 0, .int 0, .ref q_2, .int 0, .null, .int 0, .int 0, .int 0, .int 0, .null, .null, .null, .int 0, .int 0])), (q_1, .inl (cI, 4000, .inl (fun _ => 0))), (q_2, .inl (cI, 600, .inl (fun _ => 0))), (q_3, .inl (cI, 20, .inl (fun _ => 0)))] H := hP
  have hD : va_D A [(h0, .inr (7, [.null, .null, .ref q_1, .int 0, .int 0, .int 0, .int 0, .ref q_2, .int 0, .null, .int 0, .int 0, .int 0, .int 0, .null, .null, .null, .int 0, .int 0])), (q_1, .inl (cI, 4000, .inl (fun _ => 0))), (q_2, .inl (cI, 600, .inl (fun _ => 0))), (q_3, .inl (cI, 20, .inl (fun _ => 0)))] := hD
  refine va_putF (D := (dC, dI)) (ci := 7) (v := .ref q_3) (ty := .array .int) (C := R_Reader) (T := F_Reader) (N := 19) hx hb htt iw_Reader t_Reader t_Reader_ok n_Reader hown hK hP hD hS 0 rfl rfl 9 (by decide) (htt _ lk_Reader_18) (fun _ h9 => h9) rfl hin rfl (by decide +kernel) rfl rfl (Nat.le_of_ble_eq_true rfl) d_Reader_init_27 (fun H locs hP hD hS => ?_)
  have hP : va_P (dC, dI) classes [(h0, .inr (7, [.null, .null, .ref q_1, .int 0, .int 0, .int 0, .int 0, .ref q_2, .int 0, .ref q_3, .int 0, .int 0, .int 0, .int 0, .null, .null, .null, .int 0, .int 0])), (q_1, .inl (cI, 4000, .inl (fun _ => 0))), (q_2, .inl (cI, 600, .inl (fun _ => 0))), (q_3, .inl (cI, 20, .inl (fun _ => 0)))] H := hP
  have hD : va_D A [(h0, .inr (7, [.null, .null, .ref q_1, .int 0, .int 0, .int 0, .int 0, .ref q_2, .int 0, .ref q_3, .int 0, .int 0, .int 0, .int 0, .null, .null, .null, .int 0, .int 0])), (q_1, .inl (cI, 4000, .inl (fun _ => 0))), (q_2, .inl (cI, 600, .inl (fun _ => 0))), (q_3, .inl (cI, 20, .inl (fun _ => 0)))] := hD
  refine lv_aload_n hx hb d_Reader_init_30 rfl (lv_at hl 0 rfl) ?_
  refine lv_sipush (v := 200) hx hb d_Reader_init_31 (by decide) ?_
  refine va_newa (atype := .int) (ty := .int) (a0 := (200, .inl (fun _ => 0))) (N' := 200) hx hb (htt _ ac_int) rfl hK hP hD hS hA (fun _ => rfl) (by decide) (by decide) (by decide) (Nat.le_of_ble_eq_true rfl) (Nat.le_of_ble_eq_true rfl) d_Reader_init_34 (fun q_4 cA H hK hP hD hS => ?_)
  have e8 : cI = cA := cls_one hK rfl
  subst e8
  have hK := hK.sub (tys' := [(cI, .int)]) [0] rfl
  have hP : va_P (dC, dI) classes [(h0, .inr (7, [.null, .null, .ref q_1, .int 0, .int 0, .int 0, .int 0, .ref q_2, .int 0, .ref q_3, .int 0, .int 0, .int 0, .int 0, .null, .null, .null, .int 0, .int 0])), (q_1, .inl (cI, 4000, .inl (fun _ => 0))), (q_2, .inl (cI, 600, .inl (fun _ => 0))), (q_3, .inl (cI, 20, .inl (fun _ => 0))), (q_4, .inl (cI, 200, .inl (fun _ => 0)))] H := hP
  have hD : va_D A [(h0, .inr (7, [.null, .null, .ref q_1, .int 0, .int 0, .int 0, .int 0, .ref q_2, .int 0, .ref q_3, .int 0, .int 0, .int 0, .int 0, .null, .null, .null, .int 0, .int 0])), (q_1, .inl (cI, 4000, .inl (fun _ => 0))), (q_2, .inl (cI, 600, .inl (fun _ => 0))), (q_3, .inl (cI, 20, .inl (fun _ => 0))), (q_4, .inl (cI, 200, .inl (fun _ => 0)))] := hD
  refine va_putF (D := (dC, dI)) (ci := 7) (v := .ref q_4) (ty := .array .int) (C := R_Reader) (T := F_Reader) (N := 19) hx hb htt iw_Reader t_Reader t_Reader_ok n_Reader hown hK hP hD hS 0 rfl rfl 14 (by decide) (htt _ lk_Reader_21) (fun _ h9 => h9) rfl hin rfl (by decide +kernel) rfl rfl (Nat.le_of_ble_eq_true rfl) d_Reader_init_36 (fun H locs hP hD hS => ?_)
  have hP : va_P (dC, dI) classes [(h0, .inr (7, [.null, .null, .ref q_1, .int 0, .int 0, .int 0, .int 0, .ref q_2, .int 0, .ref q_3, .int 0, .int 0, .int 0, .int 0, .ref q_4, .null, .null, .int 0, .int 0])), (q_1, .inl (cI, 4000, .inl (fun _ => 0))), (q_2, .inl (cI, 600, .inl (fun _ => 0))), (q_3, .inl (cI, 20, .inl (fun _ => 0))), (q_4, .inl (cI, 200, .inl (fun _ => 0)))] H := hP
  have hD : va_D A [(h0, .inr (7, [.null, .null, .ref q_1, .int 0, .int 0, .int 0, .int 0, .ref q_2, .int 0, .ref q_3, .int 0, .int 0, .int 0, .int 0, .ref q_4, .null, .null, .int 0, .int 0])), (q_1, .inl (cI, 4000, .inl (fun _ => 0))), (q_2, .inl (cI, 600, .inl (fun _ => 0))), (q_3, .inl (cI, 20, .inl (fun _ => 0))), (q_4, .inl (cI, 200, .inl (fun _ => 0)))] := hD
  refine lv_aload_n hx hb d_Reader_init_39 rfl (lv_at hl 0 rfl) ?_
  refine lv_sipush (v := 200) hx hb d_Reader_init_40 (by decide) ?_
  refine va_newa (atype := .int) (ty := .int) (a0 := (200, .inl (fun _ => 0))) (N' := 200) hx hb (htt _ ac_int) rfl hK hP hD hS hA (fun _ => rfl) (by decide) (by decide) (by decide) (Nat.le_of_ble_eq_true rfl) (Nat.le_of_ble_eq_true rfl) d_Reader_init_43 (fun q_5 cA H hK hP hD hS => ?_)
  have e8 : cI = cA := cls_one hK rfl
  subst e8
  have hK := hK.sub (tys' := [(cI, .int)]) [0] rfl
  have hP : va_P (dC, dI) classes [(h0, .inr (7, [.null, .null, .ref q_1, .int 0, .int 0, .int 0, .int 0, .ref q_2, .int 0, .ref q_3, .int 0, .int 0, .int 0, .int 0, .ref q_4, .null, .null, .int 0, .int 0])), (q_1, .inl (cI, 4000, .inl (fun _ => 0))), (q_2, .inl (cI, 600, .inl (fun _ => 0))), (q_3, .inl (cI, 20, .inl (fun _ => 0))), (q_4, .inl (cI, 200, .inl (fun _ => 0))), (q_5, .inl (cI, 200, .inl (fun _ => 0)))] H := hP
  have hD : va_D A [(h0, .inr (7, [.null, .null, .ref q_1, .int 0, .int 0, .int 0, .int 0, .ref q_2, .int 0, .ref q_3, .int 0, .int 0, .int 0, .int 0, .ref q_4, .null, .null, .int 0, .int 0])), (q_1, .inl (cI, 4000, .inl (fun _ => 0))), (q_2, .inl (cI, 600, .inl (fun _ => 0))), (q_3, .inl (cI, 20, .inl (fun _ => 0))), (q_4, .inl (cI, 200, .inl (fun _ => 0))), (q_5, .inl (cI, 200, .inl (fun _ => 0)))] := hD
  refine va_putF (D := (dC, dI)) (ci := 7) (v := .ref q_5) (ty := .array .int) (C := R_Reader) (T := F_Reader) (N := 19) hx hb htt iw_Reader t_Reader t_Reader_ok n_Reader hown hK hP hD hS 0 rfl rfl 15 (by decide) (htt _ lk_Reader_24) (fun _ h9 => h9) rfl hin rfl (by decide +kernel) rfl rfl (Nat.le_of_ble_eq_true rfl) d_Reader_init_45 (fun H locs hP hD hS => ?_)
  have hP : va_P (dC, dI) classes [(h0, .inr (7, [.null, .null, .ref q_1, .int 0, .int 0, .int 0, .int 0, .ref q_2, .int 0, .ref q_3, .int 0, .int 0, .int 0, .int 0, .ref q_4, .ref q_5, .null, .int 0, .int 0])), (q_1, .inl (cI, 4000, .inl (fun _ => 0))), (q_2, .inl (cI, 600, .inl (fun _ => 0))), (q_3, .inl (cI, 20, .inl (fun _ => 0))), (q_4, .inl (cI, 200, .inl (fun _ => 0))), (q_5, .inl (cI, 200, .inl (fun _ => 0)))] H := hP
  have hD : va_D A [(h0, .inr (7, [.null, .null, .ref q_1, .int 0, .int 0, .int 0, .int 0, .ref q_2, .int 0, .ref q_3, .int 0, .int 0, .int 0, .int 0, .ref q_4, .ref q_5, .null, .int 0, .int 0])), (q_1, .inl (cI, 4000, .inl (fun _ => 0))), (q_2, .inl (cI, 600, .inl (fun _ => 0))), (q_3, .inl (cI, 20, .inl (fun _ => 0))), (q_4, .inl (cI, 200, .inl (fun _ => 0))), (q_5, .inl (cI, 200, .inl (fun _ => 0)))] := hD
  refine lv_aload_n hx hb d_Reader_init_48 rfl (lv_at hl 0 rfl) ?_
  refine lv_sipush (v := 200) hx hb d_Reader_init_49 (by decide) ?_
  refine va_newa (atype := .int) (ty := .int) (a0 := (200, .inl (fun _ => 0))) (N' := 200) hx hb (htt _ ac_int) rfl hK hP hD hS hA (fun _ => rfl) (by decide) (by decide) (by decide) (Nat.le_of_ble_eq_true rfl) (Nat.le_of_ble_eq_true rfl) d_Reader_init_52 (fun q_6 cA H hK hP hD hS => ?_)
  have e8 : cI = cA := cls_one hK rfl
  subst e8
  have hK := hK.sub (tys' := [(cI, .int)]) [0] rfl
  have hP : va_P (dC, dI) classes [(h0, .inr (7, [.null, .null, .ref q_1, .int 0, .int 0, .int 0, .int 0, .ref q_2, .int 0, .ref q_3, .int 0, .int 0, .int 0, .int 0, .ref q_4, .ref q_5, .null, .int 0, .int 0])), (q_1, .inl (cI, 4000, .inl (fun _ => 0))), (q_2, .inl (cI, 600, .inl (fun _ => 0))), (q_3, .inl (cI, 20, .inl (fun _ => 0))), (q_4, .inl (cI, 200, .inl (fun _ => 0))), (q_5, .inl (cI, 200, .inl (fun _ => 0))), (q_6, .inl (cI, 200, .inl (fun _ => 0)))] H := hP
  have hD : va_D A [(h0, .inr (7, [.null, .null, .ref q_1, .int 0, .int 0, .int 0, .int 0, .ref q_2, .int 0, .ref q_3, .int 0, .int 0, .int 0, .int 0, .ref q_4, .ref q_5, .null, .int 0, .int 0])), (q_1, .inl (cI, 4000, .inl (fun _ => 0))), (q_2, .inl (cI, 600, .inl (fun _ => 0))), (q_3, .inl (cI, 20, .inl (fun _ => 0))), (q_4, .inl (cI, 200, .inl (fun _ => 0))), (q_5, .inl (cI, 200, .inl (fun _ => 0))), (q_6, .inl (cI, 200, .inl (fun _ => 0)))] := hD
  refine va_putF (D := (dC, dI)) (ci := 7) (v := .ref q_6) (ty := .array .int) (C := R_Reader) (T := F_Reader) (N := 19) hx hb htt iw_Reader t_Reader t_Reader_ok n_Reader hown hK hP hD hS 0 rfl rfl 16 (by decide) (htt _ lk_Reader_27) (fun _ h9 => h9) rfl hin rfl (by decide +kernel) rfl rfl (Nat.le_of_ble_eq_true rfl) d_Reader_init_54 (fun H locs hP hD hS => ?_)
  have hP : va_P (dC, dI) classes [(h0, .inr (7, [.null, .null, .ref q_1, .int 0, .int 0, .int 0, .int 0, .ref q_2, .int 0, .ref q_3, .int 0, .int 0, .int 0, .int 0, .ref q_4, .ref q_5, .ref q_6, .int 0, .int 0])), (q_1, .inl (cI, 4000, .inl (fun _ => 0))), (q_2, .inl (cI, 600, .inl (fun _ => 0))), (q_3, .inl (cI, 20, .inl (fun _ => 0))), (q_4, .inl (cI, 200, .inl (fun _ => 0))), (q_5, .inl (cI, 200, .inl (fun _ => 0))), (q_6, .inl (cI, 200, .inl (fun _ => 0)))] H := hP
  have hD : va_D A [(h0, .inr (7, [.null, .null, .ref q_1, .int 0, .int 0, .int 0, .int 0, .ref q_2, .int 0, .ref q_3, .int 0, .int 0, .int 0, .int 0, .ref q_4, .ref q_5, .ref q_6, .int 0, .int 0])), (q_1, .inl (cI, 4000, .inl (fun _ => 0))), (q_2, .inl (cI, 600, .inl (fun _ => 0))), (q_3, .inl (cI, 20, .inl (fun _ => 0))), (q_4, .inl (cI, 200, .inl (fun _ => 0))), (q_5, .inl (cI, 200, .inl (fun _ => 0))), (q_6, .inl (cI, 200, .inl (fun _ => 0)))] := hD
  refine lv_aload_n hx hb d_Reader_init_57 rfl (lv_at hl 0 rfl) ?_
  refine lv_aload_n hx hb d_Reader_init_58 rfl (lv_at hl 1 rfl) ?_
  refine va_putF (D := (dC, dI)) (ci := 7) (v := .ref a1) (ty := .object "TurtleWorld$Heap") (C := R_Reader) (T := F_Reader) (N := 19) hx hb htt iw_Reader t_Reader t_Reader_ok n_Reader hown hK hP hD hS 0 rfl rfl 0 (by decide) (htt _ lk_Reader_30) (fun _ h9 => h9) rfl hin rfl (by decide +kernel) rfl rfl (Nat.le_of_ble_eq_true rfl) d_Reader_init_59 (fun H locs hP hD hS => ?_)
  have hP : va_P (dC, dI) classes [(h0, .inr (7, [.ref a1, .null, .ref q_1, .int 0, .int 0, .int 0, .int 0, .ref q_2, .int 0, .ref q_3, .int 0, .int 0, .int 0, .int 0, .ref q_4, .ref q_5, .ref q_6, .int 0, .int 0])), (q_1, .inl (cI, 4000, .inl (fun _ => 0))), (q_2, .inl (cI, 600, .inl (fun _ => 0))), (q_3, .inl (cI, 20, .inl (fun _ => 0))), (q_4, .inl (cI, 200, .inl (fun _ => 0))), (q_5, .inl (cI, 200, .inl (fun _ => 0))), (q_6, .inl (cI, 200, .inl (fun _ => 0)))] H := hP
  have hD : va_D A [(h0, .inr (7, [.ref a1, .null, .ref q_1, .int 0, .int 0, .int 0, .int 0, .ref q_2, .int 0, .ref q_3, .int 0, .int 0, .int 0, .int 0, .ref q_4, .ref q_5, .ref q_6, .int 0, .int 0])), (q_1, .inl (cI, 4000, .inl (fun _ => 0))), (q_2, .inl (cI, 600, .inl (fun _ => 0))), (q_3, .inl (cI, 20, .inl (fun _ => 0))), (q_4, .inl (cI, 200, .inl (fun _ => 0))), (q_5, .inl (cI, 200, .inl (fun _ => 0))), (q_6, .inl (cI, 200, .inl (fun _ => 0)))] := hD
  refine lv_aload_n hx hb d_Reader_init_62 rfl (lv_at hl 0 rfl) ?_
  refine lv_aload_n hx hb d_Reader_init_63 rfl (lv_at hl 2 rfl) ?_
  refine va_putF (D := (dC, dI)) (ci := 7) (v := .ref a2) (ty := .object "TurtleWorld$Procedures") (C := R_Reader) (T := F_Reader) (N := 19) hx hb htt iw_Reader t_Reader t_Reader_ok n_Reader hown hK hP hD hS 0 rfl rfl 1 (by decide) (htt _ lk_Reader_34) (fun _ h9 => h9) rfl hin rfl (by decide +kernel) rfl rfl (Nat.le_of_ble_eq_true rfl) d_Reader_init_64 (fun H locs hP hD hS => ?_)
  have hP : va_P (dC, dI) classes [(h0, .inr (7, [.ref a1, .ref a2, .ref q_1, .int 0, .int 0, .int 0, .int 0, .ref q_2, .int 0, .ref q_3, .int 0, .int 0, .int 0, .int 0, .ref q_4, .ref q_5, .ref q_6, .int 0, .int 0])), (q_1, .inl (cI, 4000, .inl (fun _ => 0))), (q_2, .inl (cI, 600, .inl (fun _ => 0))), (q_3, .inl (cI, 20, .inl (fun _ => 0))), (q_4, .inl (cI, 200, .inl (fun _ => 0))), (q_5, .inl (cI, 200, .inl (fun _ => 0))), (q_6, .inl (cI, 200, .inl (fun _ => 0)))] H := hP
  have hD : va_D A [(h0, .inr (7, [.ref a1, .ref a2, .ref q_1, .int 0, .int 0, .int 0, .int 0, .ref q_2, .int 0, .ref q_3, .int 0, .int 0, .int 0, .int 0, .ref q_4, .ref q_5, .ref q_6, .int 0, .int 0])), (q_1, .inl (cI, 4000, .inl (fun _ => 0))), (q_2, .inl (cI, 600, .inl (fun _ => 0))), (q_3, .inl (cI, 20, .inl (fun _ => 0))), (q_4, .inl (cI, 200, .inl (fun _ => 0))), (q_5, .inl (cI, 200, .inl (fun _ => 0))), (q_6, .inl (cI, 200, .inl (fun _ => 0)))] := hD
  have hP9 := hP.sub (ws' := [(h0, .inr (7, [.ref a1, .ref a2, .ref q_1, .int 0, .int 0, .int 0, .int 0, .ref q_2, .int 0, .ref q_3, .int 0, .int 0, .int 0, .int 0, .ref q_4, .ref q_5, .ref q_6, .int 0, .int 0])), (q_1, .inl (cI, 4000, .inl (fun _ => 0))), (q_2, .inl (cI, 600, .inl (fun _ => 0))), (q_3, .inl (cI, 20, .inl (fun _ => 0))), (q_4, .inl (cI, 200, .inl (fun _ => 0))), (q_5, .inl (cI, 200, .inl (fun _ => 0))), (q_6, .inl (cI, 200, .inl (fun _ => 0)))]) [0, 1, 2, 3, 4, 5, 6] rfl
  have hD9 := hD.sub (ws' := [(h0, .inr (7, [.ref a1, .ref a2, .ref q_1, .int 0, .int 0, .int 0, .int 0, .ref q_2, .int 0, .ref q_3, .int 0, .int 0, .int 0, .int 0, .ref q_4, .ref q_5, .ref q_6, .int 0, .int 0])), (q_1, .inl (cI, 4000, .inl (fun _ => 0))), (q_2, .inl (cI, 600, .inl (fun _ => 0))), (q_3, .inl (cI, 20, .inl (fun _ => 0))), (q_4, .inl (cI, 200, .inl (fun _ => 0))), (q_5, .inl (cI, 200, .inl (fun _ => 0))), (q_6, .inl (cI, 200, .inl (fun _ => 0)))]) [0, 1, 2, 3, 4, 5, 6] (by decide) rfl
  refine W.widen (k := 6) (n := 5220) (Nat.le_of_ble_eq_true rfl) (Nat.le_of_ble_eq_true rfl) ?_
  exact W.vret hx hb hr (fun t9 ht hW => ⟨⟨(), rfl, trivial, q_1, q_2, q_3, q_4, q_5, q_6, by rw [ht]; exact hP9, va_K.moved hW.alike hK, hD9⟩, hS.F ht⟩) hS.2.2 d_Reader_init_67

set_option maxHeartbeats 4000000 in
set_option maxRecDepth 100000 in
/-- new turtles -/
theorem c_Turtles_init (l : Launch) (dC : Nat → ClassId) (dI : Nat → Nat → Nat) (sz : Nat) (h0 : Nat) (cI : ClassId)  : Met l y_Turtles_init w_Turtles_init ({ frames := 1, cells := 6, slots := 8312, locals := 12 }) (va_Pc [.ref h0] (fun U => U.heap.size = sz ∧ va_P (dC, dI) classes [(h0, .inr (5, [.null, .null, .int 0, .null, .null, .null, .null, .int 0]))] U.heap ∧ va_K (dC, dI) classes [(cI, .int)] U ∧ va_D (fun _ => True) [(h0, .inr (5, [.null, .null, .int 0, .null, .null, .null, .null, .int 0]))])) (va_Qv (fun (_ : Unit) => True) (fun (_ : Unit) t => ∃ (q_1 q_2 q_3 q_4 q_5 q_6 : Nat), va_P (dC, dI) classes [(h0, .inr (5, [.ref q_1, .ref q_2, .int 0, .ref q_3, .ref q_4, .ref q_5, .ref q_6, .int 0])), (q_1, .inl (cI, 56, .inl (upd (upd (upd (upd (upd (upd (upd (upd (upd (upd (upd (upd (upd (upd (upd (upd (fun _ => 0) ((0 * 7) + 5 : Int32).toNatClampNeg 1) ((0 * 7) + 6 : Int32).toNatClampNeg 1) ((1 * 7) + 5 : Int32).toNatClampNeg 1) ((1 * 7) + 6 : Int32).toNatClampNeg 1) ((2 * 7) + 5 : Int32).toNatClampNeg 1) ((2 * 7) + 6 : Int32).toNatClampNeg 1) ((3 * 7) + 5 : Int32).toNatClampNeg 1) ((3 * 7) + 6 : Int32).toNatClampNeg 1) ((4 * 7) + 5 : Int32).toNatClampNeg 1) ((4 * 7) + 6 : Int32).toNatClampNeg 1) ((5 * 7) + 5 : Int32).toNatClampNeg 1) ((5 * 7) + 6 : Int32).toNatClampNeg 1) ((6 * 7) + 5 : Int32).toNatClampNeg 1) ((6 * 7) + 6 : Int32).toNatClampNeg 1) ((7 * 7) + 5 : Int32).toNatClampNeg 1) ((7 * 7) + 6 : Int32).toNatClampNeg 1))), (q_2, .inl (cI, 4096, .inl (fun _ => 0))), (q_3, .inl (cI, 4, .inl (fun _ => 0))), (q_4, .inl (cI, 4, .inl (fun _ => 0))), (q_5, .inl (cI, 56, .inl (fun _ => 0))), (q_6, .inl (cI, 4096, .inl (fun _ => 0)))] t.heap ∧ va_K (dC, dI) classes [(cI, .int)] t ∧ va_D (va_A [(h0, .inr (5, [.null, .null, .int 0, .null, .null, .null, .null, .int 0]))] sz) [(h0, .inr (5, [.ref q_1, .ref q_2, .int 0, .ref q_3, .ref q_4, .ref q_5, .ref q_6, .int 0])), (q_1, .inl (cI, 56, .inl (upd (upd (upd (upd (upd (upd (upd (upd (upd (upd (upd (upd (upd (upd (upd (upd (fun _ => 0) ((0 * 7) + 5 : Int32).toNatClampNeg 1) ((0 * 7) + 6 : Int32).toNatClampNeg 1) ((1 * 7) + 5 : Int32).toNatClampNeg 1) ((1 * 7) + 6 : Int32).toNatClampNeg 1) ((2 * 7) + 5 : Int32).toNatClampNeg 1) ((2 * 7) + 6 : Int32).toNatClampNeg 1) ((3 * 7) + 5 : Int32).toNatClampNeg 1) ((3 * 7) + 6 : Int32).toNatClampNeg 1) ((4 * 7) + 5 : Int32).toNatClampNeg 1) ((4 * 7) + 6 : Int32).toNatClampNeg 1) ((5 * 7) + 5 : Int32).toNatClampNeg 1) ((5 * 7) + 6 : Int32).toNatClampNeg 1) ((6 * 7) + 5 : Int32).toNatClampNeg 1) ((6 * 7) + 6 : Int32).toNatClampNeg 1) ((7 * 7) + 5 : Int32).toNatClampNeg 1) ((7 * 7) + 6 : Int32).toNatClampNeg 1))), (q_2, .inl (cI, 4096, .inl (fun _ => 0))), (q_3, .inl (cI, 4, .inl (fun _ => 0))), (q_4, .inl (cI, 4, .inl (fun _ => 0))), (q_5, .inl (cI, 56, .inl (fun _ => 0))), (q_6, .inl (cI, 4096, .inl (fun _ => 0)))]) (va_A [(h0, .inr (5, [.null, .null, .int 0, .null, .null, .null, .null, .int 0]))] sz)) 6 8312 (va_A [(h0, .inr (5, [.null, .null, .int 0, .null, .null, .null, .null, .int 0]))] sz) := by
  refine Met.ofW (cc := b_Turtles_init) (maxL := 2) (ret := none) (by decide) rfl ?_
  intro p e s m args below meth c s₁ B hml hv
  obtain ⟨rfl, hsz, hP, hK, hD0⟩ := hv
  have hx := B.exec
  have hb := B.bytes
  have hr := B.returns
  have hts := atoms_spec (ws := w_Turtles_init) B.pre
  have htt : ∀ w ∈ tw_T, w.before _ s = true := fun w h => hts w (List.mem_cons_of_mem _ h)
  have hown : s.vm.findClass R_Turtles = some m.cls := findClass_of_methodNamed B.named
  have hlocks := B.notSynchronized
  subst hsz
  have hD := hD0.self (sz := s.heap.size)
  generalize hAe : va_A [(h0, .inr (5, [.null, .null, .int 0, .null, .null, .null, .null, .int 0]))] s.heap.size = A at hD ⊢
  have hA : ∀ q : Nat, s.heap.size ≤ q → A q := fun q h => by rw [← hAe]; exact Or.inr h
  have hS : va_S A s.heap s.heap [] := va_S.rf
  have hP : va_P (dC, dI) classes [(h0, .inr (5, [.null, .null, .int 0, .null, .null, .null, .null, .int 0]))] s.heap := hP
  have hl := lv_entry ([.ref h0]) (n := 2) (Nat.le_of_ble_eq_true rfl)
  rw [lg_entry_eq]
  generalize (lg_sl ([.ref h0]) ++ List.replicate (2 - (lg_sl ([.ref h0])).length) Slot.unset).toArray = ls at hl ⊢
  have hl : lv_has ls 2 [(0, .ref h0)] := hl
  have hin : meth.name = "<init>" := (name_of_methodNamed B.named B.method).1
  refine lv_aload_n hx hb d_Turtles_init_0 rfl (lv_at hl 0 rfl) ?_
  refine W.objInit hx hb hown (htt _ lk_Turtles_3) (htt _ in_objInit) (htt _ cw_objInit) rfl (by rw [hml]; exact hl.1) rfl d_Turtles_init_1 (Nat.le_of_ble_eq_true rfl) (Nat.le_of_ble_eq_true rfl) ?_
  refine W.eq (g2 := F0 m 4 ls []) rfl ?_
  refine lv_aload_n hx hb d_Turtles_init_4 rfl (lv_at hl 0 rfl) ?_
  refine lv_bipush (v := 56) hx hb d_Turtles_init_5 (by decide) ?_
  refine va_newa (atype := .int) (ty := .int) (a0 := (56, .inl (fun _ => 0))) (N' := 56) hx hb (htt _ ac_int) rfl hK hP hD hS hA (fun _ => rfl) (by decide) (by decide) (by decide) (Nat.le_of_ble_eq_true rfl) (Nat.le_of_ble_eq_true rfl) d_Turtles_init_7 (fun q_1 cA H hK hP hD hS => ?_)
  have e8 : cI = cA := cls_one hK rfl
  subst e8
  have hK := hK.sub (tys' := [(cI, .int)]) [0] rfl
  have hP : va_P (dC, dI) classes [(h0, .inr (5, [.null, .null, .int 0, .null, .null, .null, .null, .int 0])), (q_1, .inl (cI, 56, .inl (fun _ => 0)))] H := hP
  have hD : va_D A [(h0, .inr (5, [.null, .null, .int 0, .null, .null, .null, .null, .int 0])), (q_1, .inl (cI, 56, .inl (fun _ => 0)))] := hD
  refine va_putF (D := (dC, dI)) (ci := 5) (v := .ref q_1) (ty := .array .int) (C := R_Turtles) (T := F_Turtles) (N := 8) hx hb htt iw_Turtles t_Turtles t_Turtles_ok n_Turtles hown hK hP hD hS 0 rfl rfl 0 (by decide) (htt _ lk_Turtles_11) (fun _ h9 => h9) rfl hin rfl (by decide +kernel) rfl rfl (Nat.le_of_ble_eq_true rfl) d_Turtles_init_9 (fun H locs hP hD hS => ?_)
  have hP : va_P (dC, dI) classes [(h0, .inr (5, [.ref q_1, .null, .int 0, .null, .null, .null, .null, .int 0])), (q_1, .inl (cI, 56, .inl (fun _ => 0)))] H := hP
  have hD : va_D A [(h0, .inr (5, [.ref q_1, .null, .int 0, .null, .null, .null, .null, .int 0])), (q_1, .inl (cI, 56, .inl (fun _ => 0)))] := hD
  refine lv_aload_n hx hb d_Turtles_init_12 rfl (lv_at hl 0 rfl) ?_
  refine lv_sipush (v := 4096) hx hb d_Turtles_init_13 (by decide) ?_
  refine va_newa (atype := .int) (ty := .int) (a0 := (4096, .inl (fun _ => 0))) (N' := 4096) hx hb (htt _ ac_int) rfl hK hP hD hS hA (fun _ => rfl) (by decide) (by decide) (by decide) (Nat.le_of_ble_eq_true rfl) (Nat.le_of_ble_eq_true rfl) d_Turtles_init_16 (fun q_2 cA H hK hP hD hS => ?_)
  have e8 : cI = cA := cls_one hK rfl
  subst e8
  have hK := hK.sub (tys' := [(cI, .int)]) [0] rfl
  have hP : va_P (dC, dI) classes [(h0, .inr (5, [.ref q_1, .null, .int 0, .null, .null, .null, .null, .int 0])), (q_1, .inl (cI, 56, .inl (fun _ => 0))), (q_2, .inl (cI, 4096, .inl (fun _ => 0)))] H := hP
  have hD : va_D A [(h0, .inr (5, [.ref q_1, .null, .int 0, .null, .null, .null, .null, .int 0])), (q_1, .inl (cI, 56, .inl (fun _ => 0))), (q_2, .inl (cI, 4096, .inl (fun _ => 0)))] := hD
  refine va_putF (D := (dC, dI)) (ci := 5) (v := .ref q_2) (ty := .array .int) (C := R_Turtles) (T := F_Turtles) (N := 8) hx hb htt iw_Turtles t_Turtles t_Turtles_ok n_Turtles hown hK hP hD hS 0 rfl rfl 1 (by decide) (htt _ lk_Turtles_15) (fun _ h9 => h9) rfl hin rfl (by decide +kernel) rfl rfl (Nat.le_of_ble_eq_true rfl) d_Turtles_init_18 (fun H locs hP hD hS => ?_)
  have hP : va_P (dC, dI) classes [(h0, .inr (5, [.ref q_1, .ref q_2, .int 0, .null, .null, .null, .null, .int 0])), (q_1, .inl (cI, 56, .inl (fun _ => 0))), (q_2, .inl (cI, 4096, .inl (fun _ => 0)))] H := hP
  have hD : va_D A [(h0, .inr (5, [.ref q_1, .ref q_2, .int 0, .null, .null, .null, .null, .int 0])), (q_1, .inl (cI, 56, .inl (fun _ => 0))), (q_2, .inl (cI, 4096, .inl (fun _ => 0)))] := hD
  refine lv_aload_n hx hb d_Turtles_init_21 rfl (lv_at hl 0 rfl) ?_
  refine lv_iconst (v := 4) hx hb d_Turtles_init_22 (by decide) ?_
  refine va_newa (atype := .int) (ty := .int) (a0 := (4, .inl (fun _ => 0))) (N' := 4) hx hb (htt _ ac_int) rfl hK hP hD hS hA (fun _ => rfl) (by decide) (by decide) (by decide) (Nat.le_of_ble_eq_true rfl) (Nat.le_of_ble_eq_true rfl) d_Turtles_init_23 (fun q_3 cA H hK hP hD hS => ?_)
  have e8 : cI = cA := cls_one hK rfl
  subst e8
  have hK := hK.sub (tys' := [(cI, .int)]) [0] rfl
  have hP : va_P (dC, dI) classes [(h0, .inr (5, [.ref q_1, .ref q_2, .int 0, .null, .null, .null, .null, .int 0])), (q_1, .inl (cI, 56, .inl (fun _ => 0))), (q_2, .inl (cI, 4096, .inl (fun _ => 0))), (q_3, .inl (cI, 4, .inl (fun _ => 0)))] H := hP
  have hD : va_D A [(h0, .inr (5, [.ref q_1, .ref q_2, .int 0, .null, .null, .null, .null, .int 0])), (q_1, .inl (cI, 56, .inl (fun _ => 0))), (q_2, .inl (cI, 4096, .inl (fun _ => 0))), (q_3, .inl (cI, 4, .inl (fun _ => 0)))] := hD
  refine va_putF (D := (dC, dI)) (ci := 5) (v := .ref q_3) (ty := .array .int) (C := R_Turtles) (T := F_Turtles) (N := 8) hx hb htt iw_Turtles t_Turtles t_Turtles_ok n_Turtles hown hK hP hD hS 0 rfl rfl 3 (by decide) (htt _ lk_Turtles_18) (fun _ h9 => h9) rfl hin rfl (by decide +kernel) rfl rfl (Nat.le_of_ble_eq_true rfl) d_Turtles_init_25 (fun H locs hP hD hS => ?_)
  have hP : va_P (dC, dI) classes [(h0, .inr (5, [.ref q_1, .ref q_2, .int 0, .ref q_3, .null, .null, .null, .int 0])), (q_1, .inl (cI, 56, .inl (fun _ => 0))), (q_2, .inl (cI, 4096, .inl (fun _ => 0))), (q_3, .inl (cI, 4, .inl (fun _ => 0)))] H := hP
  have hD : va_D A [(h0, .inr (5, [.ref q_1, .ref q_2, .int 0, .ref q_3, .null, .null, .null, .int 0])), (q_1, .inl (cI, 56, .inl (fun _ => 0))), (q_2, .inl (cI, 4096, .inl (fun _ => 0))), (q_3, .inl (cI, 4, .inl (fun _ => 0)))] := hD
  refine lv_aload_n hx hb d_Turtles_init_28 rfl (lv_at hl 0 rfl) ?_
  refine lv_iconst (v := 4) hx hb d_Turtles_init_29 (by decide) ?_
  refine va_newa (atype := .int) (ty := .int) (a0 := (4, .inl (fun _ => 0))) (N' := 4) hx hb (htt _ ac_int) rfl hK hP hD hS hA (fun _ => rfl) (by decide) (by decide) (by decide) (Nat.le_of_ble_eq_true rfl) (Nat.le_of_ble_eq_true rfl) d_Turtles_init_30 (fun q_4 cA H hK hP hD hS => ?_)
  have e8 : cI = cA := cls_one hK rfl
  subst e8
  have hK := hK.sub (tys' := [(cI, .int)]) [0] rfl
  have hP : va_P (dC, dI) classes [(h0, .inr (5, [.ref q_1, .ref q_2, .int 0, .ref q_3, .null, .null, .null, .int 0])), (q_1, .inl (cI, 56, .inl (fun _ => 0))), (q_2, .inl (cI, 4096, .inl (fun _ => 0))), (q_3, .inl (cI, 4, .inl (fun _ => 0))), (q_4, .inl (cI, 4, .inl (fun _ => 0)))] H := hP
  have hD : va_D A [(h0, .inr (5, [.ref q_1, .ref q_2, .int 0, .ref q_3, .null, .null, .null, .int 0])), (q_1, .inl (cI, 56, .inl (fun _ => 0))), (q_2, .inl (cI, 4096, .inl (fun _ => 0))), (q_3, .inl (cI, 4, .inl (fun _ => 0))), (q_4, .inl (cI, 4, .inl (fun _ => 0)))] := hD
  refine va_putF (D := (dC, dI)) (ci := 5) (v := .ref q_4) (ty := .array .int) (C := R_Turtles) (T := F_Turtles) (N := 8) hx hb htt iw_Turtles t_Turtles t_Turtles_ok n_Turtles hown hK hP hD hS 0 rfl rfl 4 (by decide) (htt _ lk_Turtles_21) (fun _ h9 => h9) rfl hin rfl (by decide +kernel) rfl rfl (Nat.le_of_ble_eq_true rfl) d_Turtles_init_32 (fun H locs hP hD hS => ?_)
  have hP : va_P (dC, dI) classes [(h0, .inr (5, [.ref q_1, .ref q_2, .int 0, .ref q_3, .ref q_4, .null, .null, .int 0])), (q_1, .inl (cI, 56, .inl (fun _ => 0))), (q_2, .inl (cI, 4096, .inl (fun _ => 0))), (q_3, .inl (cI, 4, .inl (fun _ => 0))), (q_4, .inl (cI, 4, .inl (fun _ => 0)))] H := hP
  have hD : va_D A [(h0, .inr (5, [.ref q_1, .ref q_2, .int 0, .ref q_3, .ref q_4, .null, .null, .int 0])), (q_1, .inl (cI, 56, .inl (fun _ => 0))), (q_2, .inl (cI, 4096, .inl (fun _ => 0))), (q_3, .inl (cI, 4, .inl (fun _ => 0))), (q_4, .inl (cI, 4, .inl (fun _ => 0)))] := hD
  refine lv_aload_n hx hb d_Turtles_init_35 rfl (lv_at hl 0 rfl) ?_
  refine lv_bipush (v := 56) hx hb d_Turtles_init_36 (by decide) ?_
  refine va_newa (atype := .int) (ty := .int) (a0 := (56, .inl (fun _ => 0))) (N' := 56) hx hb (htt _ ac_int) rfl hK hP hD hS hA (fun _ => rfl) (by decide) (by decide) (by decide) (Nat.le_of_ble_eq_true rfl) (Nat.le_of_ble_eq_true rfl) d_Turtles_init_38 (fun q_5 cA H hK hP hD hS => ?_)
  have e8 : cI = cA := cls_one hK rfl
  subst e8
  have hK := hK.sub (tys' := [(cI, .int)]) [0] rfl
  have hP : va_P (dC, dI) classes [(h0, .inr (5, [.ref q_1, .ref q_2, .int 0, .ref q_3, .ref q_4, .null, .null, .int 0])), (q_1, .inl (cI, 56, .inl (fun _ => 0))), (q_2, .inl (cI, 4096, .inl (fun _ => 0))), (q_3, .inl (cI, 4, .inl (fun _ => 0))), (q_4, .inl (cI, 4, .inl (fun _ => 0))), (q_5, .inl (cI, 56, .inl (fun _ => 0)))] H := hP
  have hD : va_D A [(h0, .inr (5, [.ref q_1, .ref q_2, .int 0, .ref q_3, .ref q_4, .null, .null, .int 0])), (q_1, .inl (cI, 56, .inl (fun _ => 0))), (q_2, .inl (cI, 4096, .inl (fun _ => 0))), (q_3, .inl (cI, 4, .inl (fun _ => 0))), (q_4, .inl (cI, 4, .inl (fun _ => 0))), (q_5, .inl (cI, 56, .inl (fun _ => 0)))] := hD
  refine va_putF (D := (dC, dI)) (ci := 5) (v := .ref q_5) (ty := .array .int) (C := R_Turtles) (T := F_Turtles) (N := 8) hx hb htt iw_Turtles t_Turtles t_Turtles_ok n_Turtles hown hK hP hD hS 0 rfl rfl 5 (by decide) (htt _ lk_Turtles_24) (fun _ h9 => h9) rfl hin rfl (by decide +kernel) rfl rfl (Nat.le_of_ble_eq_true rfl) d_Turtles_init_40 (fun H locs hP hD hS => ?_)
  have hP : va_P (dC, dI) classes [(h0, .inr (5, [.ref q_1, .ref q_2, .int 0, .ref q_3, .ref q_4, .ref q_5, .null, .int 0])), (q_1, .inl (cI, 56, .inl (fun _ => 0))), (q_2, .inl (cI, 4096, .inl (fun _ => 0))), (q_3, .inl (cI, 4, .inl (fun _ => 0))), (q_4, .inl (cI, 4, .inl (fun _ => 0))), (q_5, .inl (cI, 56, .inl (fun _ => 0)))] H := hP
  have hD : va_D A [(h0, .inr (5, [.ref q_1, .ref q_2, .int 0, .ref q_3, .ref q_4, .ref q_5, .null, .int 0])), (q_1, .inl (cI, 56, .inl (fun _ => 0))), (q_2, .inl (cI, 4096, .inl (fun _ => 0))), (q_3, .inl (cI, 4, .inl (fun _ => 0))), (q_4, .inl (cI, 4, .inl (fun _ => 0))), (q_5, .inl (cI, 56, .inl (fun _ => 0)))] := hD
  refine lv_aload_n hx hb d_Turtles_init_43 rfl (lv_at hl 0 rfl) ?_
  refine lv_sipush (v := 4096) hx hb d_Turtles_init_44 (by decide) ?_
  refine va_newa (atype := .int) (ty := .int) (a0 := (4096, .inl (fun _ => 0))) (N' := 4096) hx hb (htt _ ac_int) rfl hK hP hD hS hA (fun _ => rfl) (by decide) (by decide) (by decide) (Nat.le_of_ble_eq_true rfl) (Nat.le_of_ble_eq_true rfl) d_Turtles_init_47 (fun q_6 cA H hK hP hD hS => ?_)
  have e8 : cI = cA := cls_one hK rfl
  subst e8
  have hK := hK.sub (tys' := [(cI, .int)]) [0] rfl
  have hP : va_P (dC, dI) classes [(h0, .inr (5, [.ref q_1, .ref q_2, .int 0, .ref q_3, .ref q_4, .ref q_5, .null, .int 0])), (q_1, .inl (cI, 56, .inl (fun _ => 0))), (q_2, .inl (cI, 4096, .inl (fun _ => 0))), (q_3, .inl (cI, 4, .inl (fun _ => 0))), (q_4, .inl (cI, 4, .inl (fun _ => 0))), (q_5, .inl (cI, 56, .inl (fun _ => 0))), (q_6, .inl (cI, 4096, .inl (fun _ => 0)))] H := hP
  have hD : va_D A [(h0, .inr (5, [.ref q_1, .ref q_2, .int 0, .ref q_3, .ref q_4, .ref q_5, .null, .int 0])), (q_1, .inl (cI, 56, .inl (fun _ => 0))), (q_2, .inl (cI, 4096, .inl (fun _ => 0))), (q_3, .inl (cI, 4, .inl (fun _ => 0))), (q_4, .inl (cI, 4, .inl (fun _ => 0))), (q_5, .inl (cI, 56, .inl (fun _ => 0))), (q_6, .inl (cI, 4096, .inl (fun _ => 0)))] := hD
  refine va_putF (D := (dC, dI)) (ci := 5) (v := .ref q_6) (ty := .array .int) (C := R_Turtles) (T := F_Turtles) (N := 8) hx hb htt iw_Turtles t_Turtles t_Turtles_ok n_Turtles hown hK hP hD hS 0 rfl rfl 6 (by decide) (htt _ lk_Turtles_27) (fun _ h9 => h9) rfl hin rfl (by decide +kernel) rfl rfl (Nat.le_of_ble_eq_true rfl) d_Turtles_init_49 (fun H locs hP hD hS => ?_)
  have hP : va_P (dC, dI) classes [(h0, .inr (5, [.ref q_1, .ref q_2, .int 0, .ref q_3, .ref q_4, .ref q_5, .ref q_6, .int 0])), (q_1, .inl (cI, 56, .inl (fun _ => 0))), (q_2, .inl (cI, 4096, .inl (fun _ => 0))), (q_3, .inl (cI, 4, .inl (fun _ => 0))), (q_4, .inl (cI, 4, .inl (fun _ => 0))), (q_5, .inl (cI, 56, .inl (fun _ => 0))), (q_6, .inl (cI, 4096, .inl (fun _ => 0)))] H := hP
  have hD : va_D A [(h0, .inr (5, [.ref q_1, .ref q_2, .int 0, .ref q_3, .ref q_4, .ref q_5, .ref q_6, .int 0])), (q_1, .inl (cI, 56, .inl (fun _ => 0))), (q_2, .inl (cI, 4096, .inl (fun _ => 0))), (q_3, .inl (cI, 4, .inl (fun _ => 0))), (q_4, .inl (cI, 4, .inl (fun _ => 0))), (q_5, .inl (cI, 56, .inl (fun _ => 0))), (q_6, .inl (cI, 4096, .inl (fun _ => 0)))] := hD
  refine lv_iconst (v := 0) hx hb d_Turtles_init_52 (by decide) ?_
  refine lv_istore_n (lv' := [(1, .int 0), (0, .ref h0)]) hx hb d_Turtles_init_53 rfl hl (by decide) rfl (fun ls hl => ?_)
  refine lv_iload_n hx hb d_Turtles_init_54 rfl (lv_at hl 0 rfl) ?_
  refine lv_bipush (v := 8) hx hb d_Turtles_init_55 (by decide) ?_
  refine lv_icmp_ge (tgt := 91) hx hb d_Turtles_init_57 (by decide) (fun c_7 => ?_) (fun c_7 => ?_)
  · exact absurd c_7 (by decide)
  · refine lv_aload_n hx hb d_Turtles_init_60 rfl (lv_at hl 1 rfl) ?_
    refine va_get (D := (dC, dI)) (ci := 5) (v := .ref q_1) (C := R_Turtles) (T := F_Turtles) (N := 8) hx hb htt iw_Turtles hown hK hP 0 rfl rfl 0 (by decide) (htt _ lk_Turtles_11) (fun _ h9 => h9) rfl d_Turtles_init_61 ?_
    refine lv_iload_n hx hb d_Turtles_init_64 rfl (lv_at hl 0 rfl) ?_
    refine lv_bipush (v := 7) hx hb d_Turtles_init_65 (by decide) ?_
    refine lv_imul hx hb d_Turtles_init_67 ?_
    refine lv_iconst (v := 5) hx hb d_Turtles_init_68 (by decide) ?_
    refine lv_iadd hx hb d_Turtles_init_69 ?_
    refine lv_iconst (v := 1) hx hb d_Turtles_init_70 (by decide) ?_
    have h_8 : vp_in ((0 * 7) + 5 : Int32) 56 := vp_in_iff.mpr (by decide +kernel)
    refine va_iast hx hb hK hP hD hS 1 0 rfl rfl h_8 d_Turtles_init_71 (fun H locs hP hD hS => ?_)
    have hP : va_P (dC, dI) classes [(h0, .inr (5, [.ref q_1, .ref q_2, .int 0, .ref q_3, .ref q_4, .ref q_5, .ref q_6, .int 0])), (q_1, .inl (cI, 56, .inl (upd (fun _ => 0) ((0 * 7) + 5 : Int32).toNatClampNeg 1))), (q_2, .inl (cI, 4096, .inl (fun _ => 0))), (q_3, .inl (cI, 4, .inl (fun _ => 0))), (q_4, .inl (cI, 4, .inl (fun _ => 0))), (q_5, .inl (cI, 56, .inl (fun _ => 0))), (q_6, .inl (cI, 4096, .inl (fun _ => 0)))] H := hP
    have hD : va_D A [(h0, .inr (5, [.ref q_1, .ref q_2, .int 0, .ref q_3, .ref q_4, .ref q_5, .ref q_6, .int 0])), (q_1, .inl (cI, 56, .inl (upd (fun _ => 0) ((0 * 7) + 5 : Int32).toNatClampNeg 1))), (q_2, .inl (cI, 4096, .inl (fun _ => 0))), (q_3, .inl (cI, 4, .inl (fun _ => 0))), (q_4, .inl (cI, 4, .inl (fun _ => 0))), (q_5, .inl (cI, 56, .inl (fun _ => 0))), (q_6, .inl (cI, 4096, .inl (fun _ => 0)))] := hD
    refine lv_aload_n hx hb d_Turtles_init_72 rfl (lv_at hl 1 rfl) ?_
    refine va_get (D := (dC, dI)) (ci := 5) (v := .ref q_1) (C := R_Turtles) (T := F_Turtles) (N := 8) hx hb htt iw_Turtles hown hK hP 0 rfl rfl 0 (by decide) (htt _ lk_Turtles_11) (fun _ h9 => h9) rfl d_Turtles_init_73 ?_
    refine lv_iload_n hx hb d_Turtles_init_76 rfl (lv_at hl 0 rfl) ?_
    refine lv_bipush (v := 7) hx hb d_Turtles_init_77 (by decide) ?_
    refine lv_imul hx hb d_Turtles_init_79 ?_
    refine lv_bipush (v := 6) hx hb d_Turtles_init_80 (by decide) ?_
    refine lv_iadd hx hb d_Turtles_init_82 ?_
    refine lv_iconst (v := 1) hx hb d_Turtles_init_83 (by decide) ?_
    have h_9 : vp_in ((0 * 7) + 6 : Int32) 56 := vp_in_iff.mpr (by decide +kernel)
    refine va_iast hx hb hK hP hD hS 1 0 rfl rfl h_9 d_Turtles_init_84 (fun H locs hP hD hS => ?_)
    have hP : va_P (dC, dI) classes [(h0, .inr (5, [.ref q_1, .ref q_2, .int 0, .ref q_3, .ref q_4, .ref q_5, .ref q_6, .int 0])), (q_1, .inl (cI, 56, .inl (upd (upd (fun _ => 0) ((0 * 7) + 5 : Int32).toNatClampNeg 1) ((0 * 7) + 6 : Int32).toNatClampNeg 1))), (q_2, .inl (cI, 4096, .inl (fun _ => 0))), (q_3, .inl (cI, 4, .inl (fun _ => 0))), (q_4, .inl (cI, 4, .inl (fun _ => 0))), (q_5, .inl (cI, 56, .inl (fun _ => 0))), (q_6, .inl (cI, 4096, .inl (fun _ => 0)))] H := hP
    have hD : va_D A [(h0, .inr (5, [.ref q_1, .ref q_2, .int 0, .ref q_3, .ref q_4, .ref q_5, .ref q_6, .int 0])), (q_1, .inl (cI, 56, .inl (upd (upd (fun _ => 0) ((0 * 7) + 5 : Int32).toNatClampNeg 1) ((0 * 7) + 6 : Int32).toNatClampNeg 1))), (q_2, .inl (cI, 4096, .inl (fun _ => 0))), (q_3, .inl (cI, 4, .inl (fun _ => 0))), (q_4, .inl (cI, 4, .inl (fun _ => 0))), (q_5, .inl (cI, 56, .inl (fun _ => 0))), (q_6, .inl (cI, 4096, .inl (fun _ => 0)))] := hD
    refine lv_iinc (v := 1) (lv' := [(1, .int 1), (0, .ref h0)]) hx hb d_Turtles_init_85 hl (k := 0) rfl (by decide) (by decide) rfl (fun ls hl => ?_)
    refine lv_goto (tgt := 54) hx hb d_Turtles_init_88 (by decide) ?_
    refine lv_iload_n hx hb d_Turtles_init_54 rfl (lv_at hl 0 rfl) ?_
    refine lv_bipush (v := 8) hx hb d_Turtles_init_55 (by decide) ?_
    refine lv_icmp_ge (tgt := 91) hx hb d_Turtles_init_57 (by decide) (fun c_10 => ?_) (fun c_10 => ?_)
    · exact absurd c_10 (by decide)
    · refine lv_aload_n hx hb d_Turtles_init_60 rfl (lv_at hl 1 rfl) ?_
      refine va_get (D := (dC, dI)) (ci := 5) (v := .ref q_1) (C := R_Turtles) (T := F_Turtles) (N := 8) hx hb htt iw_Turtles hown hK hP 0 rfl rfl 0 (by decide) (htt _ lk_Turtles_11) (fun _ h9 => h9) rfl d_Turtles_init_61 ?_
      refine lv_iload_n hx hb d_Turtles_init_64 rfl (lv_at hl 0 rfl) ?_
      refine lv_bipush (v := 7) hx hb d_Turtles_init_65 (by decide) ?_
      refine lv_imul hx hb d_Turtles_init_67 ?_
      refine lv_iconst (v := 5) hx hb d_Turtles_init_68 (by decide) ?_
      refine lv_iadd hx hb d_Turtles_init_69 ?_
      refine lv_iconst (v := 1) hx hb d_Turtles_init_70 (by decide) ?_
      have h_11 : vp_in ((1 * 7) + 5 : Int32) 56 := vp_in_iff.mpr (by decide +kernel)
      refine va_iast hx hb hK hP hD hS 1 0 rfl rfl h_11 d_Turtles_init_71 (fun H locs hP hD hS => ?_)
      have hP : va_P (dC, dI) classes [(h0, .inr (5, [.ref q_1, .ref q_2, .int 0, .ref q_3, .ref q_4, .ref q_5, .ref q_6, .int 0])), (q_1, .inl (cI, 56, .inl (upd (upd (upd (fun _ => 0) ((0 * 7) + 5 : Int32).toNatClampNeg 1) ((0 * 7) + 6 : Int32).toNatClampNeg 1) ((1 * 7) + 5 : Int32).toNatClampNeg 1))), (q_2, .inl (cI, 4096, .inl (fun _ => 0))), (q_3, .inl (cI, 4, .inl (fun _ => 0))), (q_4, .inl (cI, 4, .inl (fun _ => 0))), (q_5, .inl (cI, 56, .inl (fun _ => 0))), (q_6, .inl (cI, 4096, .inl (fun _ => 0)))] H := hP
      have hD : va_D A [(h0, .inr (5, [.ref q_1, .ref q_2, .int 0, .ref q_3, .ref q_4, .ref q_5, .ref q_6, .int 0])), (q_1, .inl (cI, 56, .inl (upd (upd (upd (fun _ => 0) ((0 * 7) + 5 : Int32).toNatClampNeg 1) ((0 * 7) + 6 : Int32).toNatClampNeg 1) ((1 * 7) + 5 : Int32).toNatClampNeg 1))), (q_2, .inl (cI, 4096, .inl (fun _ => 0))), (q_3, .inl (cI, 4, .inl (fun _ => 0))), (q_4, .inl (cI, 4, .inl (fun _ => 0))), (q_5, .inl (cI, 56, .inl (fun _ => 0))), (q_6, .inl (cI, 4096, .inl (fun _ => 0)))] := hD
      refine lv_aload_n hx hb d_Turtles_init_72 rfl (lv_at hl 1 rfl) ?_
      refine va_get (D := (dC, dI)) (ci := 5) (v := .ref q_1) (C := R_Turtles) (T := F_Turtles) (N := 8) hx hb htt iw_Turtles hown hK hP 0 rfl rfl 0 (by decide) (htt _ lk_Turtles_11) (fun _ h9 => h9) rfl d_Turtles_init_73 ?_
      refine lv_iload_n hx hb d_Turtles_init_76 rfl (lv_at hl 0 rfl) ?_
      refine lv_bipush (v := 7) hx hb d_Turtles_init_77 (by decide) ?_
      refine lv_imul hx hb d_Turtles_init_79 ?_
      refine lv_bipush (v := 6) hx hb d_Turtles_init_80 (by decide) ?_
      refine lv_iadd hx hb d_Turtles_init_82 ?_
      refine lv_iconst (v := 1) hx hb d_Turtles_init_83 (by decide) ?_
      have h_12 : vp_in ((1 * 7) + 6 : Int32) 56 := vp_in_iff.mpr (by decide +kernel)
      refine va_iast hx hb hK hP hD hS 1 0 rfl rfl h_12 d_Turtles_init_84 (fun H locs hP hD hS => ?_)
      have hP : va_P (dC, dI) classes [(h0, .inr (5, [.ref q_1, .ref q_2, .int 0, .ref q_3, .ref q_4, .ref q_5, .ref q_6, .int 0])), (q_1, .inl (cI, 56, .inl (upd (upd (upd (upd (fun _ => 0) ((0 * 7) + 5 : Int32).toNatClampNeg 1) ((0 * 7) + 6 : Int32).toNatClampNeg 1) ((1 * 7) + 5 : Int32).toNatClampNeg 1) ((1 * 7) + 6 : Int32).toNatClampNeg 1))), (q_2, .inl (cI, 4096, .inl (fun _ => 0))), (q_3, .inl (cI, 4, .inl (fun _ => 0))), (q_4, .inl (cI, 4, .inl (fun _ => 0))), (q_5, .inl (cI, 56, .inl (fun _ => 0))), (q_6, .inl (cI, 4096, .inl (fun _ => 0)))] H := hP
      have hD : va_D A [(h0, .inr (5, [.ref q_1, .ref q_2, .int 0, .ref q_3, .ref q_4, .ref q_5, .ref q_6, .int 0])), (q_1, .inl (cI, 56, .inl (upd (upd (upd (upd (fun _ => 0) ((0 * 7) + 5 : Int32).toNatClampNeg 1) ((0 * 7) + 6 : Int32).toNatClampNeg 1) ((1 * 7) + 5 : Int32).toNatClampNeg 1) ((1 * 7) + 6 : Int32).toNatClampNeg 1))), (q_2, .inl (cI, 4096, .inl (fun _ => 0))), (q_3, .inl (cI, 4, .inl (fun _ => 0))), (q_4, .inl (cI, 4, .inl (fun _ => 0))), (q_5, .inl (cI, 56, .inl (fun _ => 0))), (q_6, .inl (cI, 4096, .inl (fun _ => 0)))] := hD
      refine lv_iinc (v := 2) (lv' := [(1, .int 2), (0, .ref h0)]) hx hb d_Turtles_init_85 hl (k := 0) rfl (by decide) (by decide) rfl (fun ls hl => ?_)
      refine lv_goto (tgt := 54) hx hb d_Turtles_init_88 (by decide) ?_
      refine lv_iload_n hx hb d_Turtles_init_54 rfl (lv_at hl 0 rfl) ?_
      refine lv_bipush (v := 8) hx hb d_Turtles_init_55 (by decide) ?_
      refine lv_icmp_ge (tgt := 91) hx hb d_Turtles_init_57 (by decide) (fun c_13 => ?_) (fun c_13 => ?_)
      · exact absurd c_13 (by decide)
      · refine lv_aload_n hx hb d_Turtles_init_60 rfl (lv_at hl 1 rfl) ?_
        refine va_get (D := (dC, dI)) (ci := 5) (v := .ref q_1) (C := R_Turtles) (T := F_Turtles) (N := 8) hx hb htt iw_Turtles hown hK hP 0 rfl rfl 0 (by decide) (htt _ lk_Turtles_11) (fun _ h9 => h9) rfl d_Turtles_init_61 ?_
        refine lv_iload_n hx hb d_Turtles_init_64 rfl (lv_at hl 0 rfl) ?_
        refine lv_bipush (v := 7) hx hb d_Turtles_init_65 (by decide) ?_
        refine lv_imul hx hb d_Turtles_init_67 ?_
        refine lv_iconst (v := 5) hx hb d_Turtles_init_68 (by decide) ?_
        refine lv_iadd hx hb d_Turtles_init_69 ?_
        refine lv_iconst (v := 1) hx hb d_Turtles_init_70 (by decide) ?_
        have h_14 : vp_in ((2 * 7) + 5 : Int32) 56 := vp_in_iff.mpr (by decide +kernel)
        refine va_iast hx hb hK hP hD hS 1 0 rfl rfl h_14 d_Turtles_init_71 (fun H locs hP hD hS => ?_)
        have hP : va_P (dC, dI) classes [(h0, .inr (5, [.ref q_1, .ref q_2, .int 0, .ref q_3, .ref q_4, .ref q_5, .ref q_6, .int 0])), (q_1, .inl (cI, 56, .inl (upd (upd (upd (upd (upd (fun _ => 0) ((0 * 7) + 5 : Int32).toNatClampNeg 1) ((0 * 7) + 6 : Int32).toNatClampNeg 1) ((1 * 7) + 5 : Int32).toNatClampNeg 1) ((1 * 7) + 6 : Int32).toNatClampNeg 1) ((2 * 7) + 5 : Int32).toNatClampNeg 1))), (q_2, .inl (cI, 4096, .inl (fun _ => 0))), (q_3, .inl (cI, 4, .inl (fun _ => 0))), (q_4, .inl (cI, 4, .inl (fun _ => 0))), (q_5, .inl (cI, 56, .inl (fun _ => 0))), (q_6, .inl (cI, 4096, .inl (fun _ => 0)))] H := hP
        have hD : va_D A [(h0, .inr (5, [.ref q_1, .ref q_2, .int 0, .ref q_3, .ref q_4, .ref q_5, .ref q_6, .int 0])), (q_1, .inl (cI, 56, .inl (upd (upd (upd (upd (upd (fun _ => 0) ((0 * 7) + 5 : Int32).toNatClampNeg 1) ((0 * 7) + 6 : Int32).toNatClampNeg 1) ((1 * 7) + 5 : Int32).toNatClampNeg 1) ((1 * 7) + 6 : Int32).toNatClampNeg 1) ((2 * 7) + 5 : Int32).toNatClampNeg 1))), (q_2, .inl (cI, 4096, .inl (fun _ => 0))), (q_3, .inl (cI, 4, .inl (fun _ => 0))), (q_4, .inl (cI, 4, .inl (fun _ => 0))), (q_5, .inl (cI, 56, .inl (fun _ => 0))), (q_6, .inl (cI, 4096, .inl (fun _ => 0)))] := hD
        refine lv_aload_n hx hb d_Turtles_init_72 rfl (lv_at hl 1 rfl) ?_
        refine va_get (D := (dC, dI)) (ci := 5) (v := .ref q_1) (C := R_Turtles) (T := F_Turtles) (N := 8) hx hb htt iw_Turtles hown hK hP 0 rfl rfl 0 (by decide) (htt _ lk_Turtles_11) (fun _ h9 => h9) rfl d_Turtles_init_73 ?_
        refine lv_iload_n hx hb d_Turtles_init_76 rfl (lv_at hl 0 rfl) ?_
        refine lv_bipush (v := 7) hx hb d_Turtles_init_77 (by decide) ?_
        refine lv_imul hx hb d_Turtles_init_79 ?_
        refine lv_bipush (v := 6) hx hb d_Turtles_init_80 (by decide) ?_
        refine lv_iadd hx hb d_Turtles_init_82 ?_
        refine lv_iconst (v := 1) hx hb d_Turtles_init_83 (by decide) ?_
        have h_15 : vp_in ((2 * 7) + 6 : Int32) 56 := vp_in_iff.mpr (by decide +kernel)
        refine va_iast hx hb hK hP hD hS 1 0 rfl rfl h_15 d_Turtles_init_84 (fun H locs hP hD hS => ?_)
        have hP : va_P (dC, dI) classes [(h0, .inr (5, [.ref q_1, .ref q_2, .int 0, .ref q_3, .ref q_4, .ref q_5, .ref q_6, .int 0])), (q_1, .inl (cI, 56, .inl (upd (upd (upd (upd (upd (upd (fun _ => 0) ((0 * 7) + 5 : Int32).toNatClampNeg 1) ((0 * 7) + 6 : Int32).toNatClampNeg 1) ((1 * 7) + 5 : Int32).toNatClampNeg 1) ((1 * 7) + 6 : Int32).toNatClampNeg 1) ((2 * 7) + 5 : Int32).toNatClampNeg 1) ((2 * 7) + 6 : Int32).toNatClampNeg 1))), (q_2, .inl (cI, 4096, .inl (fun _ => 0))), (q_3, .inl (cI, 4, .inl (fun _ => 0))), (q_4, .inl (cI, 4, .inl (fun _ => 0))), (q_5, .inl (cI, 56, .inl (fun _ => 0))), (q_6, .inl (cI, 4096, .inl (fun _ => 0)))] H := hP
        have hD : va_D A [(h0, .inr (5, [.ref q_1, .ref q_2, .int 0, .ref q_3, .ref q_4, .ref q_5, .ref q_6, .int 0])), (q_1, .inl (cI, 56, .inl (upd (upd (upd (upd (upd (upd (fun _ => 0) ((0 * 7) + 5 : Int32).toNatClampNeg 1) ((0 * 7) + 6 : Int32).toNatClampNeg 1) ((1 * 7) + 5 : Int32).toNatClampNeg 1) ((1 * 7) + 6 : Int32).toNatClampNeg 1) ((2 * 7) + 5 : Int32).toNatClampNeg 1) ((2 * 7) + 6 : Int32).toNatClampNeg 1))), (q_2, .inl (cI, 4096, .inl (fun _ => 0))), (q_3, .inl (cI, 4, .inl (fun _ => 0))), (q_4, .inl (cI, 4, .inl (fun _ => 0))), (q_5, .inl (cI, 56, .inl (fun _ => 0))), (q_6, .inl (cI, 4096, .inl (fun _ => 0)))] := hD
        refine lv_iinc (v := 3) (lv' := [(1, .int 3), (0, .ref h0)]) hx hb d_Turtles_init_85 hl (k := 0) rfl (by decide) (by decide) rfl (fun ls hl => ?_)
        refine lv_goto (tgt := 54) hx hb d_Turtles_init_88 (by decide) ?_
        refine lv_iload_n hx hb d_Turtles_init_54 rfl (lv_at hl 0 rfl) ?_
        refine lv_bipush (v := 8) hx hb d_Turtles_init_55 (by decide) ?_
        refine lv_icmp_ge (tgt := 91) hx hb d_Turtles_init_57 (by decide) (fun c_16 => ?_) (fun c_16 => ?_)
        · exact absurd c_16 (by decide)
        · refine lv_aload_n hx hb d_Turtles_init_60 rfl (lv_at hl 1 rfl) ?_
          refine va_get (D := (dC, dI)) (ci := 5) (v := .ref q_1) (C := R_Turtles) (T := F_Turtles) (N := 8) hx hb htt iw_Turtles hown hK hP 0 rfl rfl 0 (by decide) (htt _ lk_Turtles_11) (fun _ h9 => h9) rfl d_Turtles_init_61 ?_
          refine lv_iload_n hx hb d_Turtles_init_64 rfl (lv_at hl 0 rfl) ?_
          refine lv_bipush (v := 7) hx hb d_Turtles_init_65 (by decide) ?_
          refine lv_imul hx hb d_Turtles_init_67 ?_
          refine lv_iconst (v := 5) hx hb d_Turtles_init_68 (by decide) ?_
          refine lv_iadd hx hb d_Turtles_init_69 ?_
          refine lv_iconst (v := 1) hx hb d_Turtles_init_70 (by decide) ?_
          have h_17 : vp_in ((3 * 7) + 5 : Int32) 56 := vp_in_iff.mpr (by decide +kernel)
          refine va_iast hx hb hK hP hD hS 1 0 rfl rfl h_17 d_Turtles_init_71 (fun H locs hP hD hS => ?_)
          have hP : va_P (dC, dI) classes [(h0, .inr (5, [.ref q_1, .ref q_2, .int 0, .ref q_3, .ref q_4, .ref q_5, .ref q_6, .int 0])), (q_1, .inl (cI, 56, .inl (upd (upd (upd (upd (upd (upd (upd (fun _ => 0) ((0 * 7) + 5 : Int32).toNatClampNeg 1) ((0 * 7) + 6 : Int32).toNatClampNeg 1) ((1 * 7) + 5 : Int32).toNatClampNeg 1) ((1 * 7) + 6 : Int32).toNatClampNeg 1) ((2 * 7) + 5 : Int32).toNatClampNeg 1) ((2 * 7) + 6 : Int32).toNatClampNeg 1) ((3 * 7) + 5 : Int32).toNatClampNeg 1))), (q_2, .inl (cI, 4096, .inl (fun _ => 0))), (q_3, .inl (cI, 4, .inl (fun _ => 0))), (q_4, .inl (cI, 4, .inl (fun _ => 0))), (q_5, .inl (cI, 56, .inl (fun _ => 0))), (q_6, .inl (cI, 4096, .inl (fun _ => 0)))] H := hP
          have hD : va_D A [(h0, .inr (5, [.ref q_1, .ref q_2, .int 0, .ref q_3, .ref q_4, .ref q_5, .ref q_6, .int 0])), (q_1, .inl (cI, 56, .inl (upd (upd (upd (upd (upd (upd (upd (fun _ => 0) ((0 * 7) + 5 : Int32).toNatClampNeg 1) ((0 * 7) + 6 : Int32).toNatClampNeg 1) ((1 * 7) + 5 : Int32).toNatClampNeg 1) ((1 * 7) + 6 : Int32).toNatClampNeg 1) ((2 * 7) + 5 : Int32).toNatClampNeg 1) ((2 * 7) + 6 : Int32).toNatClampNeg 1) ((3 * 7) + 5 : Int32).toNatClampNeg 1))), (q_2, .inl (cI, 4096, .inl (fun _ => 0))), (q_3, .inl (cI, 4, .inl (fun _ => 0))), (q_4, .inl (cI, 4, .inl (fun _ => 0))), (q_5, .inl (cI, 56, .inl (fun _ => 0))), (q_6, .inl (cI, 4096, .inl (fun _ => 0)))] := hD
          refine lv_aload_n hx hb d_Turtles_init_72 rfl (lv_at hl 1 rfl) ?_
          refine va_get (D := (dC, dI)) (ci := 5) (v := .ref q_1) (C := R_Turtles) (T := F_Turtles) (N := 8) hx hb htt iw_Turtles hown hK hP 0 rfl rfl 0 (by decide) (htt _ lk_Turtles_11) (fun _ h9 => h9) rfl d_Turtles_init_73 ?_
          refine lv_iload_n hx hb d_Turtles_init_76 rfl (lv_at hl 0 rfl) ?_
          refine lv_bipush (v := 7) hx hb d_Turtles_init_77 (by decide) ?_
          refine lv_imul hx hb d_Turtles_init_79 ?_
          refine lv_bipush (v := 6) hx hb d_Turtles_init_80 (by decide) ?_
          refine lv_iadd hx hb d_Turtles_init_82 ?_
          refine lv_iconst (v := 1) hx hb d_Turtles_init_83 (by decide) ?_
          have h_18 : vp_in ((3 * 7) + 6 : Int32) 56 := vp_in_iff.mpr (by decide +kernel)
          refine va_iast hx hb hK hP hD hS 1 0 rfl rfl h_18 d_Turtles_init_84 (fun H locs hP hD hS => ?_)
          have hP : va_P (dC, dI) classes [(h0, .inr (5, [.ref q_1, .ref q_2, .int 0, .ref q_3, .ref q_4, .ref q_5, .ref q_6, .int 0])), (q_1, .inl (cI, 56, .inl (upd (upd (upd (upd (upd (upd (upd (upd (fun _ => 0) ((0 * 7) + 5 : Int32).toNatClampNeg 1) ((0 * 7) + 6 : Int32).toNatClampNeg 1) ((1 * 7) + 5 : Int32).toNatClampNeg 1) ((1 * 7) + 6 : Int32).toNatClampNeg 1) ((2 * 7) + 5 : Int32).toNatClampNeg 1) ((2 * 7) + 6 : Int32).toNatClampNeg 1) ((3 * 7) + 5 : Int32).toNatClampNeg 1) ((3 * 7) + 6 : Int32).toNatClampNeg 1))), (q_2, .inl (cI, 4096, .inl (fun _ => 0))), (q_3, .inl (cI, 4, .inl (fun _ => 0))), (q_4, .inl (cI, 4, .inl (fun _ => 0))), (q_5, .inl (cI, 56, .inl (fun _ => 0))), (q_6, .inl (cI, 4096, .inl (fun _ => 0)))] H := hP
          have hD : va_D A [(h0, .inr (5, [.ref q_1, .ref q_2, .int 0, .ref q_3, .ref q_4, .ref q_5, .ref q_6, .int 0])), (q_1, .inl (cI, 56, .inl (upd (upd (upd (upd (upd (upd (upd (upd (fun _ => 0) ((0 * 7) + 5 : Int32).toNatClampNeg 1) ((0 * 7) + 6 : Int32).toNatClampNeg 1) ((1 * 7) + 5 : Int32).toNatClampNeg 1) ((1 * 7) + 6 : Int32).toNatClampNeg 1) ((2 * 7) + 5 : Int32).toNatClampNeg 1) ((2 * 7) + 6 : Int32).toNatClampNeg 1) ((3 * 7) + 5 : Int32).toNatClampNeg 1) ((3 * 7) + 6 : Int32).toNatClampNeg 1))), (q_2, .inl (cI, 4096, .inl (fun _ => 0))), (q_3, .inl (cI, 4, .inl (fun _ => 0))), (q_4, .inl (cI, 4, .inl (fun _ => 0))), (q_5, .inl (cI, 56, .inl (fun _ => 0))), (q_6, .inl (cI, 4096, .inl (fun _ => 0)))] := hD
          refine lv_iinc (v := 4) (lv' := [(1, .int 4), (0, .ref h0)]) hx hb d_Turtles_init_85 hl (k := 0) rfl (by decide) (by decide) rfl (fun ls hl => ?_)
          refine lv_goto (tgt := 54) hx hb d_Turtles_init_88 (by decide) ?_
          refine lv_iload_n hx hb d_Turtles_init_54 rfl (lv_at hl 0 rfl) ?_
          refine lv_bipush (v := 8) hx hb d_Turtles_init_55 (by decide) ?_
          refine lv_icmp_ge (tgt := 91) hx hb d_Turtles_init_57 (by decide) (fun c_19 => ?_) (fun c_19 => ?_)
          · exact absurd c_19 (by decide)
          · refine lv_aload_n hx hb d_Turtles_init_60 rfl (lv_at hl 1 rfl) ?_
            refine va_get (D := (dC, dI)) (ci := 5) (v := .ref q_1) (C := R_Turtles) (T := F_Turtles) (N := 8) hx hb htt iw_Turtles hown hK hP 0 rfl rfl 0 (by decide) (htt _ lk_Turtles_11) (fun _ h9 => h9) rfl d_Turtles_init_61 ?_
            refine lv_iload_n hx hb d_Turtles_init_64 rfl (lv_at hl 0 rfl) ?_
            refine lv_bipush (v := 7) hx hb d_Turtles_init_65 (by decide) ?_
            refine lv_imul hx hb d_Turtles_init_67 ?_
            refine lv_iconst (v := 5) hx hb d_Turtles_init_68 (by decide) ?_
            refine lv_iadd hx hb d_Turtles_init_69 ?_
            refine lv_iconst (v := 1) hx hb d_Turtles_init_70 (by decide) ?_
            have h_20 : vp_in ((4 * 7) + 5 : Int32) 56 := vp_in_iff.mpr (by decide +kernel)
            refine va_iast hx hb hK hP hD hS 1 0 rfl rfl h_20 d_Turtles_init_71 (fun H locs hP hD hS => ?_)
            have hP : va_P (dC, dI) classes [(h0, .inr (5, [.ref q_1, .ref q_2, .int 0, .ref q_3, .ref q_4, .ref q_5, .ref q_6, .int 0])), (q_1, .inl (cI, 56, .inl (upd (upd (upd (upd (upd (upd (upd (upd (upd (fun _ => 0) ((0 * 7) + 5 : Int32).toNatClampNeg 1) ((0 * 7) + 6 : Int32).toNatClampNeg 1) ((1 * 7) + 5 : Int32).toNatClampNeg 1) ((1 * 7) + 6 : Int32).toNatClampNeg 1) ((2 * 7) + 5 : Int32).toNatClampNeg 1) ((2 * 7) + 6 : Int32).toNatClampNeg 1) ((3 * 7) + 5 : Int32).toNatClampNeg 1) ((3 * 7) + 6 : Int32).toNatClampNeg 1) ((4 * 7) + 5 : Int32).toNatClampNeg 1))), (q_2, .inl (cI, 4096, .inl (fun _ => 0))), (q_3, .inl (cI, 4, .inl (fun _ => 0))), (q_4, .inl (cI, 4, .inl (fun _ => 0))), (q_5, .inl (cI, 56, .inl (fun _ => 0))), (q_6, .inl (cI, 4096, .inl (fun _ => 0)))] H := hP
            have hD : va_D A [(h0, .inr (5, [.ref q_1, .ref q_2, .int 0, .ref q_3, .ref q_4, .ref q_5, .ref q_6, .int 0])), (q_1, .inl (cI, 56, .inl (upd (upd (upd (upd (upd (upd (upd (upd (upd (fun _ => 0) ((0 * 7) + 5 : Int32).toNatClampNeg 1) ((0 * 7) + 6 : Int32).toNatClampNeg 1) ((1 * 7) + 5 : Int32).toNatClampNeg 1) ((1 * 7) + 6 : Int32).toNatClampNeg 1) ((2 * 7) + 5 : Int32).toNatClampNeg 1) ((2 * 7) + 6 : Int32).toNatClampNeg 1) ((3 * 7) + 5 : Int32).toNatClampNeg 1) ((3 * 7) + 6 : Int32).toNatClampNeg 1) ((4 * 7) + 5 : Int32).toNatClampNeg 1))), (q_2, .inl (cI, 4096, .inl (fun _ => 0))), (q_3, .inl (cI, 4, .inl (fun _ => 0))), (q_4, .inl (cI, 4, .inl (fun _ => 0))), (q_5, .inl (cI, 56, .inl (fun _ => 0))), (q_6, .inl (cI, 4096, .inl (fun _ => 0)))] := hD
            refine lv_aload_n hx hb d_Turtles_init_72 rfl (lv_at hl 1 rfl) ?_
            refine va_get (D := (dC, dI)) (ci := 5) (v := .ref q_1) (C := R_Turtles) (T := F_Turtles) (N := 8) hx hb htt iw_Turtles hown hK hP 0 rfl rfl 0 (by decide) (htt _ lk_Turtles_11) (fun _ h9 => h9) rfl d_Turtles_init_73 ?_
            refine lv_iload_n hx hb d_Turtles_init_76 rfl (lv_at hl 0 rfl) ?_
            refine lv_bipush (v := 7) hx hb d_Turtles_init_77 (by decide) ?_
            refine lv_imul hx hb d_Turtles_init_79 ?_
            refine lv_bipush (v := 6) hx hb d_Turtles_init_80 (by decide) ?_
            refine lv_iadd hx hb d_Turtles_init_82 ?_
            refine lv_iconst (v := 1) hx hb d_Turtles_init_83 (by decide) ?_
            have h_21 : vp_in ((4 * 7) + 6 : Int32) 56 := vp_in_iff.mpr (by decide +kernel)
            refine va_iast hx hb hK hP hD hS 1 0 rfl rfl h_21 d_Turtles_init_84 (fun H locs hP hD hS => ?_)
            have hP : va_P (dC, dI) classes [(h0, .inr (5, [.ref q_1, .ref q_2, .int 0, .ref q_3, .ref q_4, .ref q_5, .ref q_6, .int 0])), (q_1, .inl (cI, 56, .inl (upd (upd (upd (upd (upd (upd (upd (upd (upd (upd (fun _ => 0) ((0 * 7) + 5 : Int32).toNatClampNeg 1) ((0 * 7) + 6 : Int32).toNatClampNeg 1) ((1 * 7) + 5 : Int32).toNatClampNeg 1) ((1 * 7) + 6 : Int32).toNatClampNeg 1) ((2 * 7) + 5 : Int32).toNatClampNeg 1) ((2 * 7) + 6 : Int32).toNatClampNeg 1) ((3 * 7) + 5 : Int32).toNatClampNeg 1) ((3 * 7) + 6 : Int32).toNatClampNeg 1) ((4 * 7) + 5 : Int32).toNatClampNeg 1) ((4 * 7) + 6 : Int32).toNatClampNeg 1))), (q_2, .inl (cI, 4096, .inl (fun _ => 0))), (q_3, .inl (cI, 4, .inl (fun _ => 0))), (q_4, .inl (cI, 4, .inl (fun _ => 0))), (q_5, .inl (cI, 56, .inl (fun _ => 0))), (q_6, .inl (cI, 4096, .inl (fun _ => 0)))] H := hP
            have hD : va_D A [(h0, .inr (5, [.ref q_1, .ref q_2, .int 0, .ref q_3, .ref q_4, .ref q_5, .ref q_6, .int 0])), (q_1, .inl (cI, 56, .inl (upd (upd (upd (upd (upd (upd (upd (upd (upd (upd (fun _ => 0) ((0 * 7) + 5 : Int32).toNatClampNeg 1) ((0 * 7) + 6 : Int32).toNatClampNeg 1) ((1 * 7) + 5 : Int32).toNatClampNeg 1) ((1 * 7) + 6 : Int32).toNatClampNeg 1) ((2 * 7) + 5 : Int32).toNatClampNeg 1) ((2 * 7) + 6 : Int32).toNatClampNeg 1) ((3 * 7) + 5 : Int32).toNatClampNeg 1) ((3 * 7) + 6 : Int32).toNatClampNeg 1) ((4 * 7) + 5 : Int32).toNatClampNeg 1) ((4 * 7) + 6 : Int32).toNatClampNeg 1))), (q_2, .inl (cI, 4096, .inl (fun _ => 0))), (q_3, .inl (cI, 4, .inl (fun _ => 0))), (q_4, .inl (cI, 4, .inl (fun _ => 0))), (q_5, .inl (cI, 56, .inl (fun _ => 0))), (q_6, .inl (cI, 4096, .inl (fun _ => 0)))] := hD
            refine lv_iinc (v := 5) (lv' := [(1, .int 5), (0, .ref h0)]) hx hb d_Turtles_init_85 hl (k := 0) rfl (by decide) (by decide) rfl (fun ls hl => ?_)
            refine lv_goto (tgt := 54) hx hb d_Turtles_init_88 (by decide) ?_
            refine lv_iload_n hx hb d_Turtles_init_54 rfl (lv_at hl 0 rfl) ?_
            refine lv_bipush (v := 8) hx hb d_Turtles_init_55 (by decide) ?_
            refine lv_icmp_ge (tgt := 91) hx hb d_Turtles_init_57 (by decide) (fun c_22 => ?_) (fun c_22 => ?_)
            · exact absurd c_22 (by decide)
            · refine lv_aload_n hx hb d_Turtles_init_60 rfl (lv_at hl 1 rfl) ?_
              refine va_get (D := (dC, dI)) (ci := 5) (v := .ref q_1) (C := R_Turtles) (T := F_Turtles) (N := 8) hx hb htt iw_Turtles hown hK hP 0 rfl rfl 0 (by decide) (htt _ lk_Turtles_11) (fun _ h9 => h9) rfl d_Turtles_init_61 ?_
              refine lv_iload_n hx hb d_Turtles_init_64 rfl (lv_at hl 0 rfl) ?_
              refine lv_bipush (v := 7) hx hb d_Turtles_init_65 (by decide) ?_
              refine lv_imul hx hb d_Turtles_init_67 ?_
              refine lv_iconst (v := 5) hx hb d_Turtles_init_68 (by decide) ?_
              refine lv_iadd hx hb d_Turtles_init_69 ?_
              refine lv_iconst (v := 1) hx hb d_Turtles_init_70 (by decide) ?_
              have h_23 : vp_in ((5 * 7) + 5 : Int32) 56 := vp_in_iff.mpr (by decide +kernel)
              refine va_iast hx hb hK hP hD hS 1 0 rfl rfl h_23 d_Turtles_init_71 (fun H locs hP hD hS => ?_)
              have hP : va_P (dC, dI) classes [(h0, .inr (5, [.ref q_1, .ref q_2, .int 0, .ref q_3, .ref q_4, .ref q_5, .ref q_6, .int 0])), (q_1, .inl (cI, 56, .inl (upd (upd (upd (upd (upd (upd (upd (upd (upd (upd (upd (fun _ => 0) ((0 * 7) + 5 : Int32).toNatClampNeg 1) ((0 * 7) + 6 : Int32).toNatClampNeg 1) ((1 * 7) + 5 : Int32).toNatClampNeg 1) ((1 * 7) + 6 : Int32).toNatClampNeg 1) ((2 * 7) + 5 : Int32).toNatClampNeg 1) ((2 * 7) + 6 : Int32).toNatClampNeg 1) ((3 * 7) + 5 : Int32).toNatClampNeg 1) ((3 * 7) + 6 : Int32).toNatClampNeg 1) ((4 * 7) + 5 : Int32).toNatClampNeg 1) ((4 * 7) + 6 : Int32).toNatClampNeg 1) ((5 * 7) + 5 : Int32).toNatClampNeg 1))), (q_2, .inl (cI, 4096, .inl (fun _ => 0))), (q_3, .inl (cI, 4, .inl (fun _ => 0))), (q_4, .inl (cI, 4, .inl (fun _ => 0))), (q_5, .inl (cI, 56, .inl (fun _ => 0))), (q_6, .inl (cI, 4096, .inl (fun _ => 0)))] H := hP
              have hD : va_D A [(h0, .inr (5, [.ref q_1, .ref q_2, .int 0, .ref q_3, .ref q_4, .ref q_5, .ref q_6, .int 0])), (q_1, .inl (cI, 56, .inl (upd (upd (upd (upd (upd (upd (upd (upd (upd (upd (upd (fun _ => 0) ((0 * 7) + 5 : Int32).toNatClampNeg 1) ((0 * 7) + 6 : Int32).toNatClampNeg 1) ((1 * 7) + 5 : Int32).toNatClampNeg 1) ((1 * 7) + 6 : Int32).toNatClampNeg 1) ((2 * 7) + 5 : Int32).toNatClampNeg 1) ((2 * 7) + 6 : Int32).toNatClampNeg 1) ((3 * 7) + 5 : Int32).toNatClampNeg 1) ((3 * 7) + 6 : Int32).toNatClampNeg 1) ((4 * 7) + 5 : Int32).toNatClampNeg 1) ((4 * 7) + 6 : Int32).toNatClampNeg 1) ((5 * 7) + 5 : Int32).toNatClampNeg 1))), (q_2, .inl (cI, 4096, .inl (fun _ => 0))), (q_3, .inl (cI, 4, .inl (fun _ => 0))), (q_4, .inl (cI, 4, .inl (fun _ => 0))), (q_5, .inl (cI, 56, .inl (fun _ => 0))), (q_6, .inl (cI, 4096, .inl (fun _ => 0)))] := hD
              refine lv_aload_n hx hb d_Turtles_init_72 rfl (lv_at hl 1 rfl) ?_
              refine va_get (D := (dC, dI)) (ci := 5) (v := .ref q_1) (C := R_Turtles) (T := F_Turtles) (N := 8) hx hb htt iw_Turtles hown hK hP 0 rfl rfl 0 (by decide) (htt _ lk_Turtles_11) (fun _ h9 => h9) rfl d_Turtles_init_73 ?_
              refine lv_iload_n hx hb d_Turtles_init_76 rfl (lv_at hl 0 rfl) ?_
              refine lv_bipush (v := 7) hx hb d_Turtles_init_77 (by decide) ?_
              refine lv_imul hx hb d_Turtles_init_79 ?_
              refine lv_bipush (v := 6) hx hb d_Turtles_init_80 (by decide) ?_
              refine lv_iadd hx hb d_Turtles_init_82 ?_
              refine lv_iconst (v := 1) hx hb d_Turtles_init_83 (by decide) ?_
              have h_24 : vp_in ((5 * 7) + 6 : Int32) 56 := vp_in_iff.mpr (by decide +kernel)
              refine va_iast hx hb hK hP hD hS 1 0 rfl rfl h_24 d_Turtles_init_84 (fun H locs hP hD hS => ?_)
              have hP : va_P (dC, dI) classes [(h0, .inr (5, [.ref q_1, .ref q_2, .int 0, .ref q_3, .ref q_4, .ref q_5, .ref q_6, .int 0])), (q_1, .inl (cI, 56, .inl (upd (upd (upd (upd (upd (upd (upd (upd (upd (upd (upd (upd (fun _ => 0) ((0 * 7) + 5 : Int32).toNatClampNeg 1) ((0 * 7) + 6 : Int32).toNatClampNeg 1) ((1 * 7) + 5 : Int32).toNatClampNeg 1) ((1 * 7) + 6 : Int32).toNatClampNeg 1) ((2 * 7) + 5 : Int32).toNatClampNeg 1) ((2 * 7) + 6 : Int32).toNatClampNeg 1) ((3 * 7) + 5 : Int32).toNatClampNeg 1) ((3 * 7) + 6 : Int32).toNatClampNeg 1) ((4 * 7) + 5 : Int32).toNatClampNeg 1) ((4 * 7) + 6 : Int32).toNatClampNeg 1) ((5 * 7) + 5 : Int32).toNatClampNeg 1) ((5 * 7) + 6 : Int32).toNatClampNeg 1))), (q_2, .inl (cI, 4096, .inl (fun _ => 0))), (q_3, .inl (cI, 4, .inl (fun _ => 0))), (q_4, .inl (cI, 4, .inl (fun _ => 0))), (q_5, .inl (cI, 56, .inl (fun _ => 0))), (q_6, .inl (cI, 4096, .inl (fun _ => 0)))] H := hP
              have hD : va_D A [(h0, .inr (5, [.ref q_1, .ref q_2, .int 0, .ref q_3, .ref q_4, .ref q_5, .ref q_6, .int 0])), (q_1, .inl (cI, 56, .inl (upd (upd (upd (upd (upd (upd (upd (upd (upd (upd (upd (upd (fun _ => 0) ((0 * 7) + 5 : Int32).toNatClampNeg 1) ((0 * 7) + 6 : Int32).toNatClampNeg 1) ((1 * 7) + 5 : Int32).toNatClampNeg 1) ((1 * 7) + 6 : Int32).toNatClampNeg 1) ((2 * 7) + 5 : Int32).toNatClampNeg 1) ((2 * 7) + 6 : Int32).toNatClampNeg 1) ((3 * 7) + 5 : Int32).toNatClampNeg 1) ((3 * 7) + 6 : Int32).toNatClampNeg 1) ((4 * 7) + 5 : Int32).toNatClampNeg 1) ((4 * 7) + 6 : Int32).toNatClampNeg 1) ((5 * 7) + 5 : Int32).toNatClampNeg 1) ((5 * 7) + 6 : Int32).toNatClampNeg 1))), (q_2, .inl (cI, 4096, .inl (fun _ => 0))), (q_3, .inl (cI, 4, .inl (fun _ => 0))), (q_4, .inl (cI, 4, .inl (fun _ => 0))), (q_5, .inl (cI, 56, .inl (fun _ => 0))), (q_6, .inl (cI, 4096, .inl (fun _ => 0)))] := hD
              refine lv_iinc (v := 6) (lv' := [(1, .int 6), (0, .ref h0)]) hx hb d_Turtles_init_85 hl (k := 0) rfl (by decide) (by decide) rfl (fun ls hl => ?_)
              refine lv_goto (tgt := 54) hx hb d_Turtles_init_88 (by decide) ?_
              refine lv_iload_n hx hb d_Turtles_init_54 rfl (lv_at hl 0 rfl) ?_
              refine lv_bipush (v := 8) hx hb d_Turtles_init_55 (by decide) ?_
              refine lv_icmp_ge (tgt := 91) hx hb d_Turtles_init_57 (by decide) (fun c_25 => ?_) (fun c_25 => ?_)
              · exact absurd c_25 (by decide)
              · refine lv_aload_n hx hb d_Turtles_init_60 rfl (lv_at hl 1 rfl) ?_
                refine va_get (D := (dC, dI)) (ci := 5) (v := .ref q_1) (C := R_Turtles) (T := F_Turtles) (N := 8) hx hb htt iw_Turtles hown hK hP 0 rfl rfl 0 (by decide) (htt _ lk_Turtles_11) (fun _ h9 => h9) rfl d_Turtles_init_61 ?_
                refine lv_iload_n hx hb d_Turtles_init_64 rfl (lv_at hl 0 rfl) ?_
                refine lv_bipush (v := 7) hx hb d_Turtles_init_65 (by decide) ?_
                refine lv_imul hx hb d_Turtles_init_67 ?_
                refine lv_iconst (v := 5) hx hb d_Turtles_init_68 (by decide) ?_
                refine lv_iadd hx hb d_Turtles_init_69 ?_
                refine lv_iconst (v := 1) hx hb d_Turtles_init_70 (by decide) ?_
                have h_26 : vp_in ((6 * 7) + 5 : Int32) 56 := vp_in_iff.mpr (by decide +kernel)
                refine va_iast hx hb hK hP hD hS 1 0 rfl rfl h_26 d_Turtles_init_71 (fun H locs hP hD hS => ?_)
                have hP : va_P (dC, dI) classes [(h0, .inr (5, [.ref q_1, .ref q_2, .int 0, .ref q_3, .ref q_4, .ref q_5, .ref q_6, .int 0])), (q_1, .inl (cI, 56, .inl (upd (upd (upd (upd (upd (upd (upd (upd (upd (upd (upd (upd (upd (fun _ => 0) ((0 * 7) + 5 : Int32).toNatClampNeg 1) ((0 * 7) + 6 : Int32).toNatClampNeg 1) ((1 * 7) + 5 : Int32).toNatClampNeg 1) ((1 * 7) + 6 : Int32).toNatClampNeg 1) ((2 * 7) + 5 : Int32).toNatClampNeg 1) ((2 * 7) + 6 : Int32).toNatClampNeg 1) ((3 * 7) + 5 : Int32).toNatClampNeg 1) ((3 * 7) + 6 : Int32).toNatClampNeg 1) ((4 * 7) + 5 : Int32).toNatClampNeg 1) ((4 * 7) + 6 : Int32).toNatClampNeg 1) ((5 * 7) + 5 : Int32).toNatClampNeg 1) ((5 * 7) + 6 : Int32).toNatClampNeg 1) ((6 * 7) + 5 : Int32).toNatClampNeg 1))), (q_2, .inl (cI, 4096, .inl (fun _ => 0))), (q_3, .inl (cI, 4, .inl (fun _ => 0))), (q_4, .inl (cI, 4, .inl (fun _ => 0))), (q_5, .inl (cI, 56, .inl (fun _ => 0))), (q_6, .inl (cI, 4096, .inl (fun _ => 0)))] H := hP
                have hD : va_D A [(h0, .inr (5, [.ref q_1, .ref q_2, .int 0, .ref q_3, .ref q_4, .ref q_5, .ref q_6, .int 0])), (q_1, .inl (cI, 56, .inl (upd (upd (upd (upd (upd (upd (upd (upd (upd (upd (upd (upd (upd (fun _ => 0) ((0 * 7) + 5 : Int32).toNatClampNeg 1) ((0 * 7) + 6 : Int32).toNatClampNeg 1) ((1 * 7) + 5 : Int32).toNatClampNeg 1) ((1 * 7) + 6 : Int32).toNatClampNeg 1) ((2 * 7) + 5 : Int32).toNatClampNeg 1) ((2 * 7) + 6 : Int32).toNatClampNeg 1) ((3 * 7) + 5 : Int32).toNatClampNeg 1) ((3 * 7) + 6 : Int32).toNatClampNeg 1) ((4 * 7) + 5 : Int32).toNatClampNeg 1) ((4 * 7) + 6 : Int32).toNatClampNeg 1) ((5 * 7) + 5 : Int32).toNatClampNeg 1) ((5 * 7) + 6 : Int32).toNatClampNeg 1) ((6 * 7) + 5 : Int32).toNatClampNeg 1))), (q_2, .inl (cI, 4096, .inl (fun _ => 0))), (q_3, .inl (cI, 4, .inl (fun _ => 0))), (q_4, .inl (cI, 4, .inl (fun _ => 0))), (q_5, .inl (cI, 56, .inl (fun _ => 0))), (q_6, .inl (cI, 4096, .inl (fun _ => 0)))] := hD
                refine lv_aload_n hx hb d_Turtles_init_72 rfl (lv_at hl 1 rfl) ?_
                refine va_get (D := (dC, dI)) (ci := 5) (v := .ref q_1) (C := R_Turtles) (T := F_Turtles) (N := 8) hx hb htt iw_Turtles hown hK hP 0 rfl rfl 0 (by decide) (htt _ lk_Turtles_11) (fun _ h9 => h9) rfl d_Turtles_init_73 ?_
                refine lv_iload_n hx hb d_Turtles_init_76 rfl (lv_at hl 0 rfl) ?_
                refine lv_bipush (v := 7) hx hb d_Turtles_init_77 (by decide) ?_
                refine lv_imul hx hb d_Turtles_init_79 ?_
                refine lv_bipush (v := 6) hx hb d_Turtles_init_80 (by decide) ?_
                refine lv_iadd hx hb d_Turtles_init_82 ?_
                refine lv_iconst (v := 1) hx hb d_Turtles_init_83 (by decide) ?_
                have h_27 : vp_in ((6 * 7) + 6 : Int32) 56 := vp_in_iff.mpr (by decide +kernel)
                refine va_iast hx hb hK hP hD hS 1 0 rfl rfl h_27 d_Turtles_init_84 (fun H locs hP hD hS => ?_)
                have hP : va_P (dC, dI) classes [(h0, .inr (5, [.ref q_1, .ref q_2, .int 0, .ref q_3, .ref q_4, .ref q_5, .ref q_6, .int 0])), (q_1, .inl (cI, 56, .inl (upd (upd (upd (upd (upd (upd (upd (upd (upd (upd (upd (upd (upd (upd (fun _ => 0) ((0 * 7) + 5 : Int32).toNatClampNeg 1) ((0 * 7) + 6 : Int32).toNatClampNeg 1) ((1 * 7) + 5 : Int32).toNatClampNeg 1) ((1 * 7) + 6 : Int32).toNatClampNeg 1) ((2 * 7) + 5 : Int32).toNatClampNeg 1) ((2 * 7) + 6 : Int32).toNatClampNeg 1) ((3 * 7) + 5 : Int32).toNatClampNeg 1) ((3 * 7) + 6 : Int32).toNatClampNeg 1) ((4 * 7) + 5 : Int32).toNatClampNeg 1) ((4 * 7) + 6 : Int32).toNatClampNeg 1) ((5 * 7) + 5 : Int32).toNatClampNeg 1) ((5 * 7) + 6 : Int32).toNatClampNeg 1) ((6 * 7) + 5 : Int32).toNatClampNeg 1) ((6 * 7) + 6 : Int32).toNatClampNeg 1))), (q_2, .inl (cI, 4096, .inl (fun _ => 0))), (q_3, .inl (cI, 4, .inl (fun _ => 0))), (q_4, .inl (cI, 4, .inl (fun _ => 0))), (q_5, .inl (cI, 56, .inl (fun _ => 0))), (q_6, .inl (cI, 4096, .inl (fun _ => 0)))] H := hP
                have hD : va_D A [(h0, .inr (5, [.ref q_1, .ref q_2, .int 0, .ref q_3, .ref q_4, .ref q_5, .ref q_6, .int 0])), (q_1, .inl (cI, 56, .inl (upd (upd (upd (upd (upd (upd (upd (upd (upd (upd (upd (upd (upd (upd (fun _ => 0) ((0 * 7) + 5 : Int32).toNatClampNeg 1) ((0 * 7) + 6 : Int32).toNatClampNeg 1) ((1 * 7) + 5 : Int32).toNatClampNeg 1) ((1 * 7) + 6 : Int32).toNatClampNeg 1) ((2 * 7) + 5 : Int32).toNatClampNeg 1) ((2 * 7) + 6 : Int32).toNatClampNeg 1) ((3 * 7) + 5 : Int32).toNatClampNeg 1) ((3 * 7) + 6 : Int32).toNatClampNeg 1) ((4 * 7) + 5 : Int32).toNatClampNeg 1) ((4 * 7) + 6 : Int32).toNatClampNeg 1) ((5 * 7) + 5 : Int32).toNatClampNeg 1) ((5 * 7) + 6 : Int32).toNatClampNeg 1) ((6 * 7) + 5 : Int32).toNatClampNeg 1) ((6 * 7) + 6 : Int32).toNatClampNeg 1))), (q_2, .inl (cI, 4096, .inl (fun _ => 0))), (q_3, .inl (cI, 4, .inl (fun _ => 0))), (q_4, .inl (cI, 4, .inl (fun _ => 0))), (q_5, .inl (cI, 56, .inl (fun _ => 0))), (q_6, .inl (cI, 4096, .inl (fun _ => 0)))] := hD
                refine lv_iinc (v := 7) (lv' := [(1, .int 7), (0, .ref h0)]) hx hb d_Turtles_init_85 hl (k := 0) rfl (by decide) (by decide) rfl (fun ls hl => ?_)
                refine lv_goto (tgt := 54) hx hb d_Turtles_init_88 (by decide) ?_
                refine lv_iload_n hx hb d_Turtles_init_54 rfl (lv_at hl 0 rfl) ?_
                refine lv_bipush (v := 8) hx hb d_Turtles_init_55 (by decide) ?_
                refine lv_icmp_ge (tgt := 91) hx hb d_Turtles_init_57 (by decide) (fun c_28 => ?_) (fun c_28 => ?_)
                · exact absurd c_28 (by decide)
                · refine lv_aload_n hx hb d_Turtles_init_60 rfl (lv_at hl 1 rfl) ?_
                  refine va_get (D := (dC, dI)) (ci := 5) (v := .ref q_1) (C := R_Turtles) (T := F_Turtles) (N := 8) hx hb htt iw_Turtles hown hK hP 0 rfl rfl 0 (by decide) (htt _ lk_Turtles_11) (fun _ h9 => h9) rfl d_Turtles_init_61 ?_
                  refine lv_iload_n hx hb d_Turtles_init_64 rfl (lv_at hl 0 rfl) ?_
                  refine lv_bipush (v := 7) hx hb d_Turtles_init_65 (by decide) ?_
                  refine lv_imul hx hb d_Turtles_init_67 ?_
                  refine lv_iconst (v := 5) hx hb d_Turtles_init_68 (by decide) ?_
                  refine lv_iadd hx hb d_Turtles_init_69 ?_
                  refine lv_iconst (v := 1) hx hb d_Turtles_init_70 (by decide) ?_
                  have h_29 : vp_in ((7 * 7) + 5 : Int32) 56 := vp_in_iff.mpr (by decide +kernel)
                  refine va_iast hx hb hK hP hD hS 1 0 rfl rfl h_29 d_Turtles_init_71 (fun H locs hP hD hS => ?_)
                  have hP : va_P (dC, dI) classes [(h0, .inr (5, [.ref q_1, .ref q_2, .int 0, .ref q_3, .ref q_4, .ref q_5, .ref q_6, .int 0])), (q_1, .inl (cI, 56, .inl (upd (upd (upd (upd (upd (upd (upd (upd (upd (upd (upd (upd (upd (upd (upd (fun _ => 0) ((0 * 7) + 5 : Int32).toNatClampNeg 1) ((0 * 7) + 6 : Int32).toNatClampNeg 1) ((1 * 7) + 5 : Int32).toNatClampNeg 1) ((1 * 7) + 6 : Int32).toNatClampNeg 1) ((2 * 7) + 5 : Int32).toNatClampNeg 1) ((2 * 7) + 6 : Int32).toNatClampNeg 1) ((3 * 7) + 5 : Int32).toNatClampNeg 1) ((3 * 7) + 6 : Int32).toNatClampNeg 1) ((4 * 7) + 5 : Int32).toNatClampNeg 1) ((4 * 7) + 6 : Int32).toNatClampNeg 1) ((5 * 7) + 5 : Int32).toNatClampNeg 1) ((5 * 7) + 6 : Int32).toNatClampNeg 1) ((6 * 7) + 5 : Int32).toNatClampNeg 1) ((6 * 7) + 6 : Int32).toNatClampNeg 1) ((7 * 7) + 5 : Int32).toNatClampNeg 1))), (q_2, .inl (cI, 4096, .inl (fun _ => 0))), (q_3, .inl (cI, 4, .inl (fun _ => 0))), (q_4, .inl (cI, 4, .inl (fun _ => 0))), (q_5, .inl (cI, 56, .inl (fun _ => 0))), (q_6, .inl (cI, 4096, .inl (fun _ => 0)))] H := hP
                  have hD : va_D A [(h0, .inr (5, [.ref q_1, .ref q_2, .int 0, .ref q_3, .ref q_4, .ref q_5, .ref q_6, .int 0])), (q_1, .inl (cI, 56, .inl (upd (upd (upd (upd (upd (upd (upd (upd (upd (upd (upd (upd (upd (upd (upd (fun _ => 0) ((0 * 7) + 5 : Int32).toNatClampNeg 1) ((0 * 7) + 6 : Int32).toNatClampNeg 1) ((1 * 7) + 5 : Int32).toNatClampNeg 1) ((1 * 7) + 6 : Int32).toNatClampNeg 1) ((2 * 7) + 5 : Int32).toNatClampNeg 1) ((2 * 7) + 6 : Int32).toNatClampNeg 1) ((3 * 7) + 5 : Int32).toNatClampNeg 1) ((3 * 7) + 6 : Int32).toNatClampNeg 1) ((4 * 7) + 5 : Int32).toNatClampNeg 1) ((4 * 7) + 6 : Int32).toNatClampNeg 1) ((5 * 7) + 5 : Int32).toNatClampNeg 1) ((5 * 7) + 6 : Int32).toNatClampNeg 1) ((6 * 7) + 5 : Int32).toNatClampNeg 1) ((6 * 7) + 6 : Int32).toNatClampNeg 1) ((7 * 7) + 5 : Int32).toNatClampNeg 1))), (q_2, .inl (cI, 4096, .inl (fun _ => 0))), (q_3, .inl (cI, 4, .inl (fun _ => 0))), (q_4, .inl (cI, 4, .inl (fun _ => 0))), (q_5, .inl (cI, 56, .inl (fun _ => 0))), (q_6, .inl (cI, 4096, .inl (fun _ => 0)))] := hD
                  refine lv_aload_n hx hb d_Turtles_init_72 rfl (lv_at hl 1 rfl) ?_
                  refine va_get (D := (dC, dI)) (ci := 5) (v := .ref q_1) (C := R_Turtles) (T := F_Turtles) (N := 8) hx hb htt iw_Turtles hown hK hP 0 rfl rfl 0 (by decide) (htt _ lk_Turtles_11) (fun _ h9 => h9) rfl d_Turtles_init_73 ?_
                  refine lv_iload_n hx hb d_Turtles_init_76 rfl (lv_at hl 0 rfl) ?_
                  refine lv_bipush (v := 7) hx hb d_Turtles_init_77 (by decide) ?_
                  refine lv_imul hx hb d_Turtles_init_79 ?_
                  refine lv_bipush (v := 6) hx hb d_Turtles_init_80 (by decide) ?_
                  refine lv_iadd hx hb d_Turtles_init_82 ?_
                  refine lv_iconst (v := 1) hx hb d_Turtles_init_83 (by decide) ?_
                  have h_30 : vp_in ((7 * 7) + 6 : Int32) 56 := vp_in_iff.mpr (by decide +kernel)
                  refine va_iast hx hb hK hP hD hS 1 0 rfl rfl h_30 d_Turtles_init_84 (fun H locs hP hD hS => ?_)
                  have hP : va_P (dC, dI) classes [(h0, .inr (5, [.ref q_1, .ref q_2, .int 0, .ref q_3, .ref q_4, .ref q_5, .ref q_6, .int 0])), (q_1, .inl (cI, 56, .inl (upd (upd (upd (upd (upd (upd (upd (upd (upd (upd (upd (upd (upd (upd (upd (upd (fun _ => 0) ((0 * 7) + 5 : Int32).toNatClampNeg 1) ((0 * 7) + 6 : Int32).toNatClampNeg 1) ((1 * 7) + 5 : Int32).toNatClampNeg 1) ((1 * 7) + 6 : Int32).toNatClampNeg 1) ((2 * 7) + 5 : Int32).toNatClampNeg 1) ((2 * 7) + 6 : Int32).toNatClampNeg 1) ((3 * 7) + 5 : Int32).toNatClampNeg 1) ((3 * 7) + 6 : Int32).toNatClampNeg 1) ((4 * 7) + 5 : Int32).toNatClampNeg 1) ((4 * 7) + 6 : Int32).toNatClampNeg 1) ((5 * 7) + 5 : Int32).toNatClampNeg 1) ((5 * 7) + 6 : Int32).toNatClampNeg 1) ((6 * 7) + 5 : Int32).toNatClampNeg 1) ((6 * 7) + 6 : Int32).toNatClampNeg 1) ((7 * 7) + 5 : Int32).toNatClampNeg 1) ((7 * 7) + 6 : Int32).toNatClampNeg 1))), (q_2, .inl (cI, 4096, .inl (fun _ => 0))), (q_3, .inl (cI, 4, .inl (fun _ => 0))), (q_4, .inl (cI, 4, .inl (fun _ => 0))), (q_5, .inl (cI, 56, .inl (fun _ => 0))), (q_6, .inl (cI, 4096, .inl (fun _ => 0)))] H := hP
                  have hD : va_D A [(h0, .inr (5, [.ref q_1, .ref q_2, .int 0, .ref q_3, .ref q_4, .ref q_5, .ref q_6, .int 0])), (q_1, .inl (cI, 56, .inl (upd (upd (upd (upd (upd (upd (upd (upd (upd (upd (upd (upd (upd (upd (upd (upd (fun _ => 0) ((0 * 7) + 5 : Int32).toNatClampNeg 1) ((0 * 7) + 6 : Int32).toNatClampNeg 1) ((1 * 7) + 5 : Int32).toNatClampNeg 1) ((1 * 7) + 6 : Int32).toNatClampNeg 1) ((2 * 7) + 5 : Int32).toNatClampNeg 1) ((2 * 7) + 6 : Int32).toNatClampNeg 1) ((3 * 7) + 5 : Int32).toNatClampNeg 1) ((3 * 7) + 6 : Int32).toNatClampNeg 1) ((4 * 7) + 5 : Int32).toNatClampNeg 1) ((4 * 7) + 6 : Int32).toNatClampNeg 1) ((5 * 7) + 5 : Int32).toNatClampNeg 1) ((5 * 7) + 6 : Int32).toNatClampNeg 1) ((6 * 7) + 5 : Int32).toNatClampNeg 1) ((6 * 7) + 6 : Int32).toNatClampNeg 1) ((7 * 7) + 5 : Int32).toNatClampNeg 1) ((7 * 7) + 6 : Int32).toNatClampNeg 1))), (q_2, .inl (cI, 4096, .inl (fun _ => 0))), (q_3, .inl (cI, 4, .inl (fun _ => 0))), (q_4, .inl (cI, 4, .inl (fun _ => 0))), (q_5, .inl (cI, 56, .inl (fun _ => 0))), (q_6, .inl (cI, 4096, .inl (fun _ => 0)))] := hD
                  refine lv_iinc (v := 8) (lv' := [(1, .int 8), (0, .ref h0)]) hx hb d_Turtles_init_85 hl (k := 0) rfl (by decide) (by decide) rfl (fun ls hl => ?_)
                  refine lv_goto (tgt := 54) hx hb d_Turtles_init_88 (by decide) ?_
                  refine lv_iload_n hx hb d_Turtles_init_54 rfl (lv_at hl 0 rfl) ?_
                  refine lv_bipush (v := 8) hx hb d_Turtles_init_55 (by decide) ?_
                  refine lv_icmp_ge (tgt := 91) hx hb d_Turtles_init_57 (by decide) (fun c_31 => ?_) (fun c_31 => ?_)
                  · have hP9 := hP.sub (ws' := [(h0, .inr (5, [.ref q_1, .ref q_2, .int 0, .ref q_3, .ref q_4, .ref q_5, .ref q_6, .int 0])), (q_1, .inl (cI, 56, .inl (upd (upd (upd (upd (upd (upd (upd (upd (upd (upd (upd (upd (upd (upd (upd (upd (fun _ => 0) ((0 * 7) + 5 : Int32).toNatClampNeg 1) ((0 * 7) + 6 : Int32).toNatClampNeg 1) ((1 * 7) + 5 : Int32).toNatClampNeg 1) ((1 * 7) + 6 : Int32).toNatClampNeg 1) ((2 * 7) + 5 : Int32).toNatClampNeg 1) ((2 * 7) + 6 : Int32).toNatClampNeg 1) ((3 * 7) + 5 : Int32).toNatClampNeg 1) ((3 * 7) + 6 : Int32).toNatClampNeg 1) ((4 * 7) + 5 : Int32).toNatClampNeg 1) ((4 * 7) + 6 : Int32).toNatClampNeg 1) ((5 * 7) + 5 : Int32).toNatClampNeg 1) ((5 * 7) + 6 : Int32).toNatClampNeg 1) ((6 * 7) + 5 : Int32).toNatClampNeg 1) ((6 * 7) + 6 : Int32).toNatClampNeg 1) ((7 * 7) + 5 : Int32).toNatClampNeg 1) ((7 * 7) + 6 : Int32).toNatClampNeg 1))), (q_2, .inl (cI, 4096, .inl (fun _ => 0))), (q_3, .inl (cI, 4, .inl (fun _ => 0))), (q_4, .inl (cI, 4, .inl (fun _ => 0))), (q_5, .inl (cI, 56, .inl (fun _ => 0))), (q_6, .inl (cI, 4096, .inl (fun _ => 0)))]) [0, 1, 2, 3, 4, 5, 6] rfl
                    have hD9 := hD.sub (ws' := [(h0, .inr (5, [.ref q_1, .ref q_2, .int 0, .ref q_3, .ref q_4, .ref q_5, .ref q_6, .int 0])), (q_1, .inl (cI, 56, .inl (upd (upd (upd (upd (upd (upd (upd (upd (upd (upd (upd (upd (upd (upd (upd (upd (fun _ => 0) ((0 * 7) + 5 : Int32).toNatClampNeg 1) ((0 * 7) + 6 : Int32).toNatClampNeg 1) ((1 * 7) + 5 : Int32).toNatClampNeg 1) ((1 * 7) + 6 : Int32).toNatClampNeg 1) ((2 * 7) + 5 : Int32).toNatClampNeg 1) ((2 * 7) + 6 : Int32).toNatClampNeg 1) ((3 * 7) + 5 : Int32).toNatClampNeg 1) ((3 * 7) + 6 : Int32).toNatClampNeg 1) ((4 * 7) + 5 : Int32).toNatClampNeg 1) ((4 * 7) + 6 : Int32).toNatClampNeg 1) ((5 * 7) + 5 : Int32).toNatClampNeg 1) ((5 * 7) + 6 : Int32).toNatClampNeg 1) ((6 * 7) + 5 : Int32).toNatClampNeg 1) ((6 * 7) + 6 : Int32).toNatClampNeg 1) ((7 * 7) + 5 : Int32).toNatClampNeg 1) ((7 * 7) + 6 : Int32).toNatClampNeg 1))), (q_2, .inl (cI, 4096, .inl (fun _ => 0))), (q_3, .inl (cI, 4, .inl (fun _ => 0))), (q_4, .inl (cI, 4, .inl (fun _ => 0))), (q_5, .inl (cI, 56, .inl (fun _ => 0))), (q_6, .inl (cI, 4096, .inl (fun _ => 0)))]) [0, 1, 2, 3, 4, 5, 6] (by decide) rfl
                    refine W.widen (k := 6) (n := 8312) (Nat.le_of_ble_eq_true rfl) (Nat.le_of_ble_eq_true rfl) ?_
                    exact W.vret hx hb hr (fun t9 ht hW => ⟨⟨(), rfl, trivial, q_1, q_2, q_3, q_4, q_5, q_6, by rw [ht]; exact hP9, va_K.moved hW.alike hK, hD9⟩, hS.F ht⟩) hS.2.2 d_Turtles_init_91
                  · exact absurd c_31 (by decide)
