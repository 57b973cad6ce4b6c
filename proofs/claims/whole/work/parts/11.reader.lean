theorem d_Reader_hasRoom_0 : decode b_Reader_hasRoom 0 = .ok (.aload_n 0, 1) := by decide +kernel
theorem d_Reader_hasRoom_1 : decode b_Reader_hasRoom 1 = .ok (.getfield 38, 3) := by decide +kernel
theorem d_Reader_hasRoom_4 : decode b_Reader_hasRoom 4 = .ok (.bipush 20, 2) := by decide +kernel
theorem d_Reader_hasRoom_6 : decode b_Reader_hasRoom 6 = .ok (.iadd, 1) := by decide +kernel
theorem d_Reader_hasRoom_7 : decode b_Reader_hasRoom 7 = .ok (.sipush 4000, 3) := by decide +kernel
theorem d_Reader_hasRoom_10 : decode b_Reader_hasRoom 10 = .ok (.if_icmp .gt 7, 3) := by decide +kernel
theorem d_Reader_hasRoom_13 : decode b_Reader_hasRoom 13 = .ok (.iconst 1, 1) := by decide +kernel
theorem d_Reader_hasRoom_14 : decode b_Reader_hasRoom 14 = .ok (.goto 4, 3) := by decide +kernel
theorem d_Reader_hasRoom_17 : decode b_Reader_hasRoom 17 = .ok (.iconst 0, 1) := by decide +kernel
theorem d_Reader_hasRoom_18 : decode b_Reader_hasRoom 18 = .ok (.ireturn, 1) := by decide +kernel
theorem lk_Reader_38 : Cond.fieldLink "TurtleWorld$Reader" 38 "TurtleWorld$Reader" "length" "I" ∈ tw_T := tw_i2 166 (by decide +kernel) (by decide +kernel)
theorem d_Reader_cut_0 : decode b_Reader_cut 0 = .ok (.iload_n 1, 1) := by decide +kernel
theorem d_Reader_cut_1 : decode b_Reader_cut 1 = .ok (.ifCond .lt 11, 3) := by decide +kernel
theorem d_Reader_cut_4 : decode b_Reader_cut 4 = .ok (.iload_n 1, 1) := by decide +kernel
theorem d_Reader_cut_5 : decode b_Reader_cut 5 = .ok (.aload_n 0, 1) := by decide +kernel
theorem d_Reader_cut_6 : decode b_Reader_cut 6 = .ok (.getfield 38, 3) := by decide +kernel
theorem d_Reader_cut_9 : decode b_Reader_cut 9 = .ok (.if_icmp .le 5, 3) := by decide +kernel
theorem d_Reader_cut_12 : decode b_Reader_cut 12 = .ok (.iconst 0, 1) := by decide +kernel
theorem d_Reader_cut_13 : decode b_Reader_cut 13 = .ok (.ireturn, 1) := by decide +kernel
theorem d_Reader_cut_14 : decode b_Reader_cut 14 = .ok (.aload_n 0, 1) := by decide +kernel
theorem d_Reader_cut_15 : decode b_Reader_cut 15 = .ok (.iload_n 1, 1) := by decide +kernel
theorem d_Reader_cut_16 : decode b_Reader_cut 16 = .ok (.putfield 38, 3) := by decide +kernel
theorem d_Reader_cut_19 : decode b_Reader_cut 19 = .ok (.iconst 1, 1) := by decide +kernel
theorem d_Reader_cut_20 : decode b_Reader_cut 20 = .ok (.ireturn, 1) := by decide +kernel
theorem d_Reader_addBytes_0 : decode b_Reader_addBytes 0 = .ok (.bipush 24, 2) := by decide +kernel
theorem d_Reader_addBytes_2 : decode b_Reader_addBytes 2 = .ok (.istore_n 2, 1) := by decide +kernel
theorem d_Reader_addBytes_3 : decode b_Reader_addBytes 3 = .ok (.iload_n 2, 1) := by decide +kernel
theorem d_Reader_addBytes_4 : decode b_Reader_addBytes 4 = .ok (.ifCond .lt 45, 3) := by decide +kernel
theorem d_Reader_addBytes_7 : decode b_Reader_addBytes 7 = .ok (.aload_n 0, 1) := by decide +kernel
theorem d_Reader_addBytes_8 : decode b_Reader_addBytes 8 = .ok (.getfield 38, 3) := by decide +kernel
theorem d_Reader_addBytes_11 : decode b_Reader_addBytes 11 = .ok (.sipush 4000, 3) := by decide +kernel
theorem d_Reader_addBytes_14 : decode b_Reader_addBytes 14 = .ok (.if_icmp .ge 35, 3) := by decide +kernel
theorem d_Reader_addBytes_17 : decode b_Reader_addBytes 17 = .ok (.aload_n 0, 1) := by decide +kernel
theorem d_Reader_addBytes_18 : decode b_Reader_addBytes 18 = .ok (.getfield 11, 3) := by decide +kernel
theorem d_Reader_addBytes_21 : decode b_Reader_addBytes 21 = .ok (.aload_n 0, 1) := by decide +kernel
theorem d_Reader_addBytes_22 : decode b_Reader_addBytes 22 = .ok (.getfield 38, 3) := by decide +kernel
theorem d_Reader_addBytes_25 : decode b_Reader_addBytes 25 = .ok (.iload_n 1, 1) := by decide +kernel
theorem d_Reader_addBytes_26 : decode b_Reader_addBytes 26 = .ok (.iload_n 2, 1) := by decide +kernel
theorem d_Reader_addBytes_27 : decode b_Reader_addBytes 27 = .ok (.iushr, 1) := by decide +kernel
theorem d_Reader_addBytes_28 : decode b_Reader_addBytes 28 = .ok (.sipush 255, 3) := by decide +kernel
theorem d_Reader_addBytes_31 : decode b_Reader_addBytes 31 = .ok (.iand, 1) := by decide +kernel
theorem d_Reader_addBytes_32 : decode b_Reader_addBytes 32 = .ok (.iastore, 1) := by decide +kernel
theorem d_Reader_addBytes_33 : decode b_Reader_addBytes 33 = .ok (.aload_n 0, 1) := by decide +kernel
theorem d_Reader_addBytes_34 : decode b_Reader_addBytes 34 = .ok (.dup, 1) := by decide +kernel
theorem d_Reader_addBytes_35 : decode b_Reader_addBytes 35 = .ok (.getfield 38, 3) := by decide +kernel
theorem d_Reader_addBytes_38 : decode b_Reader_addBytes 38 = .ok (.iconst 1, 1) := by decide +kernel
theorem d_Reader_addBytes_39 : decode b_Reader_addBytes 39 = .ok (.iadd, 1) := by decide +kernel
theorem d_Reader_addBytes_40 : decode b_Reader_addBytes 40 = .ok (.putfield 38, 3) := by decide +kernel
theorem d_Reader_addBytes_43 : decode b_Reader_addBytes 43 = .ok (.iinc 2 (-8), 3) := by decide +kernel
theorem d_Reader_addBytes_46 : decode b_Reader_addBytes 46 = .ok (.goto (-43), 3) := by decide +kernel
theorem d_Reader_addBytes_49 : decode b_Reader_addBytes 49 = .ok (.return_, 1) := by decide +kernel
theorem lk_Reader_11 : Cond.fieldLink "TurtleWorld$Reader" 11 "TurtleWorld$Reader" "tape" "[I" ∈ tw_T := tw_i2 165 (by decide +kernel) (by decide +kernel)
theorem d_World_end_0 : decode b_World_end 0 = .ok (.aload_n 0, 1) := by decide +kernel
theorem d_World_end_1 : decode b_World_end 1 = .ok (.getfield 56, 3) := by decide +kernel
theorem d_World_end_4 : decode b_World_end 4 = .ok (.iload_n 1, 1) := by decide +kernel
theorem d_World_end_5 : decode b_World_end 5 = .ok (.invokevirtual 96, 3) := by decide +kernel
theorem d_World_end_8 : decode b_World_end 8 = .ok (.ireturn, 1) := by decide +kernel
theorem lk_World_56 : Cond.fieldLink "TurtleWorld" 56 "TurtleWorld" "reader" "LTurtleWorld$Reader;" ∈ tw_T := tw_i3 199 (by decide +kernel) (by decide +kernel)
theorem lk_World_96 : Cond.methodLink "TurtleWorld" 96 ⟨"TurtleWorld$Reader", "cut", "(I)Z"⟩ ∈ tw_T := tw_i4 10 (by decide +kernel) (by decide +kernel)
theorem in_Reader_cut : Cond.instanceMethod ⟨"TurtleWorld$Reader", "cut", "(I)Z"⟩ ∈ tw_T := tw_i4 11 (by decide +kernel) (by decide +kernel)
theorem sel_Reader_cut : Cond.selects "TurtleWorld$Reader" ⟨"TurtleWorld$Reader", "cut", "(I)Z"⟩ ⟨"TurtleWorld$Reader", "cut", "(I)Z"⟩ ∈ tw_T := tw_i4 12 (by decide +kernel) (by decide +kernel)
theorem ini_Reader : Cond.initialized "TurtleWorld$Reader" ∈ tw_T := tw_i1 15 (by decide +kernel) (by decide +kernel)
theorem d_World_feed_0 : decode b_World_feed 0 = .ok (.aload_n 0, 1) := by decide +kernel
theorem d_World_feed_1 : decode b_World_feed 1 = .ok (.getfield 56, 3) := by decide +kernel
theorem d_World_feed_4 : decode b_World_feed 4 = .ok (.invokevirtual 88, 3) := by decide +kernel
theorem d_World_feed_7 : decode b_World_feed 7 = .ok (.ifCond .ne 5, 3) := by decide +kernel
theorem d_World_feed_10 : decode b_World_feed 10 = .ok (.iconst 0, 1) := by decide +kernel
theorem d_World_feed_11 : decode b_World_feed 11 = .ok (.ireturn, 1) := by decide +kernel
theorem d_World_feed_12 : decode b_World_feed 12 = .ok (.aload_n 0, 1) := by decide +kernel
theorem d_World_feed_13 : decode b_World_feed 13 = .ok (.getfield 56, 3) := by decide +kernel
theorem d_World_feed_16 : decode b_World_feed 16 = .ok (.iload_n 1, 1) := by decide +kernel
theorem d_World_feed_17 : decode b_World_feed 17 = .ok (.invokevirtual 92, 3) := by decide +kernel
theorem d_World_feed_20 : decode b_World_feed 20 = .ok (.aload_n 0, 1) := by decide +kernel
theorem d_World_feed_21 : decode b_World_feed 21 = .ok (.getfield 56, 3) := by decide +kernel
theorem d_World_feed_24 : decode b_World_feed 24 = .ok (.iload_n 2, 1) := by decide +kernel
theorem d_World_feed_25 : decode b_World_feed 25 = .ok (.invokevirtual 92, 3) := by decide +kernel
theorem d_World_feed_28 : decode b_World_feed 28 = .ok (.aload_n 0, 1) := by decide +kernel
theorem d_World_feed_29 : decode b_World_feed 29 = .ok (.getfield 56, 3) := by decide +kernel
theorem d_World_feed_32 : decode b_World_feed 32 = .ok (.iload_n 3, 1) := by decide +kernel
theorem d_World_feed_33 : decode b_World_feed 33 = .ok (.invokevirtual 92, 3) := by decide +kernel
theorem d_World_feed_36 : decode b_World_feed 36 = .ok (.aload_n 0, 1) := by decide +kernel
theorem d_World_feed_37 : decode b_World_feed 37 = .ok (.getfield 56, 3) := by decide +kernel
theorem d_World_feed_40 : decode b_World_feed 40 = .ok (.iload 4, 2) := by decide +kernel
theorem d_World_feed_42 : decode b_World_feed 42 = .ok (.invokevirtual 92, 3) := by decide +kernel
theorem d_World_feed_45 : decode b_World_feed 45 = .ok (.aload_n 0, 1) := by decide +kernel
theorem d_World_feed_46 : decode b_World_feed 46 = .ok (.getfield 56, 3) := by decide +kernel
theorem d_World_feed_49 : decode b_World_feed 49 = .ok (.iload 5, 2) := by decide +kernel
theorem d_World_feed_51 : decode b_World_feed 51 = .ok (.invokevirtual 92, 3) := by decide +kernel
theorem d_World_feed_54 : decode b_World_feed 54 = .ok (.iconst 1, 1) := by decide +kernel
theorem d_World_feed_55 : decode b_World_feed 55 = .ok (.ireturn, 1) := by decide +kernel
theorem lk_World_88 : Cond.methodLink "TurtleWorld" 88 ⟨"TurtleWorld$Reader", "hasRoom", "()Z"⟩ ∈ tw_T := tw_i3 238 (by decide +kernel) (by decide +kernel)
theorem in_Reader_hasRoom : Cond.instanceMethod ⟨"TurtleWorld$Reader", "hasRoom", "()Z"⟩ ∈ tw_T := tw_i3 239 (by decide +kernel) (by decide +kernel)
theorem sel_Reader_hasRoom : Cond.selects "TurtleWorld$Reader" ⟨"TurtleWorld$Reader", "hasRoom", "()Z"⟩ ⟨"TurtleWorld$Reader", "hasRoom", "()Z"⟩ ∈ tw_T := tw_i4 0 (by decide +kernel) (by decide +kernel)
theorem lk_World_92 : Cond.methodLink "TurtleWorld" 92 ⟨"TurtleWorld$Reader", "addBytes", "(I)V"⟩ ∈ tw_T := tw_i4 2 (by decide +kernel) (by decide +kernel)
theorem in_Reader_addBytes : Cond.instanceMethod ⟨"TurtleWorld$Reader", "addBytes", "(I)V"⟩ ∈ tw_T := tw_i4 3 (by decide +kernel) (by decide +kernel)
theorem sel_Reader_addBytes : Cond.selects "TurtleWorld$Reader" ⟨"TurtleWorld$Reader", "addBytes", "(I)V"⟩ ⟨"TurtleWorld$Reader", "addBytes", "(I)V"⟩ ∈ tw_T := tw_i4 4 (by decide +kernel) (by decide +kernel)
