theorem d_Model_put_0 : decode b_Model_put 0 = .ok (.aload_n 0, 1) := by decide +kernel
theorem d_Model_put_1 : decode b_Model_put 1 = .ok (.getfield 35, 3) := by decide +kernel
theorem d_Model_put_4 : decode b_Model_put 4 = .ok (.aload_n 0, 1) := by decide +kernel
theorem d_Model_put_5 : decode b_Model_put 5 = .ok (.getfield 32, 3) := by decide +kernel
theorem d_Model_put_8 : decode b_Model_put 8 = .ok (.lload_n 1, 1) := by decide +kernel
theorem d_Model_put_9 : decode b_Model_put 9 = .ok (.lastore, 1) := by decide +kernel
theorem d_Model_put_10 : decode b_Model_put 10 = .ok (.aload_n 0, 1) := by decide +kernel
theorem d_Model_put_11 : decode b_Model_put 11 = .ok (.dup, 1) := by decide +kernel
theorem d_Model_put_12 : decode b_Model_put 12 = .ok (.getfield 32, 3) := by decide +kernel
theorem d_Model_put_15 : decode b_Model_put 15 = .ok (.iconst 1, 1) := by decide +kernel
theorem d_Model_put_16 : decode b_Model_put 16 = .ok (.iadd, 1) := by decide +kernel
theorem d_Model_put_17 : decode b_Model_put 17 = .ok (.putfield 32, 3) := by decide +kernel
theorem d_Model_put_20 : decode b_Model_put 20 = .ok (.return_, 1) := by decide +kernel
theorem lk_Model_35 : Cond.fieldLink "TurtleWorldModel" 35 "TurtleWorldModel" "cell" "[J" ∈ tw_T := tw_i8 88 (by decide +kernel) (by decide +kernel)
theorem lk_Model_32 : Cond.fieldLink "TurtleWorldModel" 32 "TurtleWorldModel" "cells" "I" ∈ tw_T := tw_i8 98 (by decide +kernel) (by decide +kernel)
theorem d_Model_size_0 : decode b_Model_size 0 = .ok (.aload_n 0, 1) := by decide +kernel
theorem d_Model_size_1 : decode b_Model_size 1 = .ok (.getfield 47, 3) := by decide +kernel
theorem d_Model_size_4 : decode b_Model_size 4 = .ok (.lload_n 1, 1) := by decide +kernel
theorem d_Model_size_5 : decode b_Model_size 5 = .ok (.invokestatic 64, 3) := by decide +kernel
theorem d_Model_size_8 : decode b_Model_size 8 = .ok (.iaload, 1) := by decide +kernel
theorem d_Model_size_9 : decode b_Model_size 9 = .ok (.ireturn, 1) := by decide +kernel
theorem lk_Model_47 : Cond.fieldLink "TurtleWorldModel" 47 "TurtleWorldModel" "listSize" "[I" ∈ tw_T := tw_i8 91 (by decide +kernel) (by decide +kernel)
theorem lk_Model_64 : Cond.methodLink "TurtleWorldModel" 64 ⟨"TurtleWorldModel", "what", "(J)I"⟩ ∈ tw_T := tw_i10 51 (by decide +kernel) (by decide +kernel)
theorem st_Model_what : Cond.static ⟨"TurtleWorldModel", "what", "(J)I"⟩ ∈ tw_T := tw_i10 52 (by decide +kernel) (by decide +kernel)
theorem d_Model_member_0 : decode b_Model_member 0 = .ok (.aload_n 0, 1) := by decide +kernel
theorem d_Model_member_1 : decode b_Model_member 1 = .ok (.getfield 35, 3) := by decide +kernel
theorem d_Model_member_4 : decode b_Model_member 4 = .ok (.aload_n 0, 1) := by decide +kernel
theorem d_Model_member_5 : decode b_Model_member 5 = .ok (.getfield 41, 3) := by decide +kernel
theorem d_Model_member_8 : decode b_Model_member 8 = .ok (.lload_n 1, 1) := by decide +kernel
theorem d_Model_member_9 : decode b_Model_member 9 = .ok (.invokestatic 64, 3) := by decide +kernel
theorem d_Model_member_12 : decode b_Model_member 12 = .ok (.iaload, 1) := by decide +kernel
theorem d_Model_member_13 : decode b_Model_member 13 = .ok (.iload_n 3, 1) := by decide +kernel
theorem d_Model_member_14 : decode b_Model_member 14 = .ok (.iadd, 1) := by decide +kernel
theorem d_Model_member_15 : decode b_Model_member 15 = .ok (.laload, 1) := by decide +kernel
theorem d_Model_member_16 : decode b_Model_member 16 = .ok (.lreturn, 1) := by decide +kernel
theorem lk_Model_41 : Cond.fieldLink "TurtleWorldModel" 41 "TurtleWorldModel" "listAt" "[I" ∈ tw_T := tw_i8 90 (by decide +kernel) (by decide +kernel)
theorem d_Model_sizeOf_0 : decode b_Model_sizeOf 0 = .ok (.lload_n 1, 1) := by decide +kernel
theorem d_Model_sizeOf_1 : decode b_Model_sizeOf 1 = .ok (.invokestatic 57, 3) := by decide +kernel
theorem d_Model_sizeOf_4 : decode b_Model_sizeOf 4 = .ok (.ifCond .eq 7, 3) := by decide +kernel
theorem d_Model_sizeOf_7 : decode b_Model_sizeOf 7 = .ok (.iconst 1, 1) := by decide +kernel
theorem d_Model_sizeOf_8 : decode b_Model_sizeOf 8 = .ok (.goto 31, 3) := by decide +kernel
theorem d_Model_sizeOf_11 : decode b_Model_sizeOf 11 = .ok (.lload_n 1, 1) := by decide +kernel
theorem d_Model_sizeOf_12 : decode b_Model_sizeOf 12 = .ok (.invokestatic 61, 3) := by decide +kernel
theorem d_Model_sizeOf_15 : decode b_Model_sizeOf 15 = .ok (.ifCond .eq 15, 3) := by decide +kernel
theorem d_Model_sizeOf_18 : decode b_Model_sizeOf 18 = .ok (.aload_n 0, 1) := by decide +kernel
theorem d_Model_sizeOf_19 : decode b_Model_sizeOf 19 = .ok (.getfield 22, 3) := by decide +kernel
theorem d_Model_sizeOf_22 : decode b_Model_sizeOf 22 = .ok (.lload_n 1, 1) := by decide +kernel
theorem d_Model_sizeOf_23 : decode b_Model_sizeOf 23 = .ok (.invokestatic 64, 3) := by decide +kernel
theorem d_Model_sizeOf_26 : decode b_Model_sizeOf 26 = .ok (.iaload, 1) := by decide +kernel
theorem d_Model_sizeOf_27 : decode b_Model_sizeOf 27 = .ok (.goto 12, 3) := by decide +kernel
theorem d_Model_sizeOf_30 : decode b_Model_sizeOf 30 = .ok (.aload_n 0, 1) := by decide +kernel
theorem d_Model_sizeOf_31 : decode b_Model_sizeOf 31 = .ok (.getfield 50, 3) := by decide +kernel
theorem d_Model_sizeOf_34 : decode b_Model_sizeOf 34 = .ok (.lload_n 1, 1) := by decide +kernel
theorem d_Model_sizeOf_35 : decode b_Model_sizeOf 35 = .ok (.invokestatic 64, 3) := by decide +kernel
theorem d_Model_sizeOf_38 : decode b_Model_sizeOf 38 = .ok (.iaload, 1) := by decide +kernel
theorem d_Model_sizeOf_39 : decode b_Model_sizeOf 39 = .ok (.ireturn, 1) := by decide +kernel
theorem lk_Model_57 : Cond.methodLink "TurtleWorldModel" 57 ⟨"TurtleWorldModel", "isNumber", "(J)Z"⟩ ∈ tw_T := tw_i10 111 (by decide +kernel) (by decide +kernel)
theorem st_Model_isNumber : Cond.static ⟨"TurtleWorldModel", "isNumber", "(J)Z"⟩ ∈ tw_T := tw_i10 112 (by decide +kernel) (by decide +kernel)
theorem lk_Model_61 : Cond.methodLink "TurtleWorldModel" 61 ⟨"TurtleWorldModel", "isWord", "(J)Z"⟩ ∈ tw_T := tw_i10 45 (by decide +kernel) (by decide +kernel)
theorem st_Model_isWord : Cond.static ⟨"TurtleWorldModel", "isWord", "(J)Z"⟩ ∈ tw_T := tw_i10 46 (by decide +kernel) (by decide +kernel)
theorem lk_Model_50 : Cond.fieldLink "TurtleWorldModel" 50 "TurtleWorldModel" "weight" "[I" ∈ tw_T := tw_i8 92 (by decide +kernel) (by decide +kernel)
theorem lk_Model_22 : Cond.fieldLink "TurtleWorldModel" 22 "TurtleWorldModel" "wordSize" "[I" ∈ tw_T := tw_i8 82 (by decide +kernel) (by decide +kernel)
theorem d_Model_say_0 : decode b_Model_say 0 = .ok (.aload_n 0, 1) := by decide +kernel
theorem d_Model_say_1 : decode b_Model_say 1 = .ok (.getfield 105, 3) := by decide +kernel
theorem d_Model_say_4 : decode b_Model_say 4 = .ok (.aload_n 0, 1) := by decide +kernel
theorem d_Model_say_5 : decode b_Model_say 5 = .ok (.getfield 108, 3) := by decide +kernel
theorem d_Model_say_8 : decode b_Model_say 8 = .ok (.iload_n 1, 1) := by decide +kernel
theorem d_Model_say_9 : decode b_Model_say 9 = .ok (.i2b, 1) := by decide +kernel
theorem d_Model_say_10 : decode b_Model_say 10 = .ok (.bastore, 1) := by decide +kernel
theorem d_Model_say_11 : decode b_Model_say 11 = .ok (.aload_n 0, 1) := by decide +kernel
theorem d_Model_say_12 : decode b_Model_say 12 = .ok (.dup, 1) := by decide +kernel
theorem d_Model_say_13 : decode b_Model_say 13 = .ok (.getfield 108, 3) := by decide +kernel
theorem d_Model_say_16 : decode b_Model_say 16 = .ok (.iconst 1, 1) := by decide +kernel
theorem d_Model_say_17 : decode b_Model_say 17 = .ok (.iadd, 1) := by decide +kernel
theorem d_Model_say_18 : decode b_Model_say 18 = .ok (.putfield 108, 3) := by decide +kernel
theorem d_Model_say_21 : decode b_Model_say 21 = .ok (.return_, 1) := by decide +kernel
theorem lk_Model_105 : Cond.fieldLink "TurtleWorldModel" 105 "TurtleWorldModel" "shown" "[B" ∈ tw_T := tw_i8 102 (by decide +kernel) (by decide +kernel)
theorem lk_Model_108 : Cond.fieldLink "TurtleWorldModel" 108 "TurtleWorldModel" "shownSize" "I" ∈ tw_T := tw_i8 103 (by decide +kernel) (by decide +kernel)
theorem d_Model_newWord_0 : decode b_Model_newWord 0 = .ok (.aload_n 0, 1) := by decide +kernel
theorem d_Model_newWord_1 : decode b_Model_newWord 1 = .ok (.getfield 15, 3) := by decide +kernel
theorem d_Model_newWord_4 : decode b_Model_newWord 4 = .ok (.aload_n 0, 1) := by decide +kernel
theorem d_Model_newWord_5 : decode b_Model_newWord 5 = .ok (.getfield 19, 3) := by decide +kernel
theorem d_Model_newWord_8 : decode b_Model_newWord 8 = .ok (.iload_n 1, 1) := by decide +kernel
theorem d_Model_newWord_9 : decode b_Model_newWord 9 = .ok (.iastore, 1) := by decide +kernel
theorem d_Model_newWord_10 : decode b_Model_newWord 10 = .ok (.aload_n 0, 1) := by decide +kernel
theorem d_Model_newWord_11 : decode b_Model_newWord 11 = .ok (.getfield 22, 3) := by decide +kernel
theorem d_Model_newWord_14 : decode b_Model_newWord 14 = .ok (.aload_n 0, 1) := by decide +kernel
theorem d_Model_newWord_15 : decode b_Model_newWord 15 = .ok (.getfield 19, 3) := by decide +kernel
theorem d_Model_newWord_18 : decode b_Model_newWord 18 = .ok (.iload_n 2, 1) := by decide +kernel
theorem d_Model_newWord_19 : decode b_Model_newWord 19 = .ok (.iastore, 1) := by decide +kernel
theorem d_Model_newWord_20 : decode b_Model_newWord 20 = .ok (.aload_n 0, 1) := by decide +kernel
theorem d_Model_newWord_21 : decode b_Model_newWord 21 = .ok (.getfield 25, 3) := by decide +kernel
theorem d_Model_newWord_24 : decode b_Model_newWord 24 = .ok (.aload_n 0, 1) := by decide +kernel
theorem d_Model_newWord_25 : decode b_Model_newWord 25 = .ok (.getfield 19, 3) := by decide +kernel
theorem d_Model_newWord_28 : decode b_Model_newWord 28 = .ok (.iconst 0, 1) := by decide +kernel
theorem d_Model_newWord_29 : decode b_Model_newWord 29 = .ok (.iastore, 1) := by decide +kernel
theorem d_Model_newWord_30 : decode b_Model_newWord 30 = .ok (.aload_n 0, 1) := by decide +kernel
theorem d_Model_newWord_31 : decode b_Model_newWord 31 = .ok (.getfield 28, 3) := by decide +kernel
theorem d_Model_newWord_34 : decode b_Model_newWord 34 = .ok (.aload_n 0, 1) := by decide +kernel
theorem d_Model_newWord_35 : decode b_Model_newWord 35 = .ok (.getfield 19, 3) := by decide +kernel
theorem d_Model_newWord_38 : decode b_Model_newWord 38 = .ok (.ldc2_w 7, 3) := by decide +kernel
theorem d_Model_newWord_41 : decode b_Model_newWord 41 = .ok (.lastore, 1) := by decide +kernel
theorem d_Model_newWord_42 : decode b_Model_newWord 42 = .ok (.aload_n 0, 1) := by decide +kernel
theorem d_Model_newWord_43 : decode b_Model_newWord 43 = .ok (.dup, 1) := by decide +kernel
theorem d_Model_newWord_44 : decode b_Model_newWord 44 = .ok (.getfield 19, 3) := by decide +kernel
theorem d_Model_newWord_47 : decode b_Model_newWord 47 = .ok (.iconst 1, 1) := by decide +kernel
theorem d_Model_newWord_48 : decode b_Model_newWord 48 = .ok (.iadd, 1) := by decide +kernel
theorem d_Model_newWord_49 : decode b_Model_newWord 49 = .ok (.putfield 19, 3) := by decide +kernel
theorem d_Model_newWord_52 : decode b_Model_newWord 52 = .ok (.aload_n 0, 1) := by decide +kernel
theorem d_Model_newWord_53 : decode b_Model_newWord 53 = .ok (.getfield 19, 3) := by decide +kernel
theorem d_Model_newWord_56 : decode b_Model_newWord 56 = .ok (.iconst 1, 1) := by decide +kernel
theorem d_Model_newWord_57 : decode b_Model_newWord 57 = .ok (.isub, 1) := by decide +kernel
theorem d_Model_newWord_58 : decode b_Model_newWord 58 = .ok (.ireturn, 1) := by decide +kernel
theorem lk_Model_15 : Cond.fieldLink "TurtleWorldModel" 15 "TurtleWorldModel" "wordAt" "[I" ∈ tw_T := tw_i8 81 (by decide +kernel) (by decide +kernel)
theorem lk_Model_19 : Cond.fieldLink "TurtleWorldModel" 19 "TurtleWorldModel" "words" "I" ∈ tw_T := tw_i8 97 (by decide +kernel) (by decide +kernel)
theorem lk_Model_25 : Cond.fieldLink "TurtleWorldModel" 25 "TurtleWorldModel" "meaning" "[I" ∈ tw_T := tw_i8 85 (by decide +kernel) (by decide +kernel)
theorem lk_Model_28 : Cond.fieldLink "TurtleWorldModel" 28 "TurtleWorldModel" "quote" "[J" ∈ tw_T := tw_i8 87 (by decide +kernel) (by decide +kernel)
