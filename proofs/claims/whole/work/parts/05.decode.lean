theorem dX8_takesItem_247 : decode cX8_takesItem 247 = .ok (.invokevirtual 63, 3) := by decide +kernel
theorem dX8_takesItem_250 : decode cX8_takesItem 250 = .ok (.ifCond .eq 7, 3) := by decide +kernel
theorem dX8_takesItem_253 : decode cX8_takesItem 253 = .ok (.iconst 1, 1) := by decide +kernel
theorem dX8_takesItem_254 : decode cX8_takesItem 254 = .ok (.goto 4, 3) := by decide +kernel
theorem dX8_takesItem_257 : decode cX8_takesItem 257 = .ok (.iconst 0, 1) := by decide +kernel
theorem dX8_takesItem_258 : decode cX8_takesItem 258 = .ok (.ireturn, 1) := by decide +kernel
theorem dX8_takesItem_259 : decode cX8_takesItem 259 = .ok (.iconst 0, 1) := by decide +kernel
theorem dX8_takesItem_260 : decode cX8_takesItem 260 = .ok (.ireturn, 1) := by decide +kernel
theorem dX8_faultOf_0 : decode cX8_faultOf 0 = .ok (.aload_n 0, 1) := by decide +kernel
theorem dX8_faultOf_1 : decode cX8_faultOf 1 = .ok (.invokevirtual 46, 3) := by decide +kernel
theorem dX8_faultOf_4 : decode cX8_faultOf 4 = .ok (.aload_n 0, 1) := by decide +kernel
theorem dX8_faultOf_5 : decode cX8_faultOf 5 = .ok (.iconst 0, 1) := by decide +kernel
theorem dX8_faultOf_6 : decode cX8_faultOf 6 = .ok (.putfield 93, 3) := by decide +kernel
theorem dX8_faultOf_9 : decode cX8_faultOf 9 = .ok (.aload_n 0, 1) := by decide +kernel
theorem dX8_faultOf_10 : decode cX8_faultOf 10 = .ok (.iconst 1, 1) := by decide +kernel
theorem dX8_faultOf_11 : decode cX8_faultOf 11 = .ok (.putfield 104, 3) := by decide +kernel
theorem dX8_faultOf_14 : decode cX8_faultOf 14 = .ok (.aload_n 0, 1) := by decide +kernel
theorem dX8_faultOf_15 : decode cX8_faultOf 15 = .ok (.getfield 93, 3) := by decide +kernel
theorem dX8_faultOf_18 : decode cX8_faultOf 18 = .ok (.aload_n 0, 1) := by decide +kernel
theorem dX8_faultOf_19 : decode cX8_faultOf 19 = .ok (.getfield 90, 3) := by decide +kernel
theorem dX8_faultOf_22 : decode cX8_faultOf 22 = .ok (.if_icmp .ge 20, 3) := by decide +kernel
theorem dX8_faultOf_25 : decode cX8_faultOf 25 = .ok (.aload_n 0, 1) := by decide +kernel
theorem dX8_faultOf_26 : decode cX8_faultOf 26 = .ok (.getfield 93, 3) := by decide +kernel
theorem dX8_faultOf_29 : decode cX8_faultOf 29 = .ok (.istore_n 1, 1) := by decide +kernel
theorem dX8_faultOf_30 : decode cX8_faultOf 30 = .ok (.aload_n 0, 1) := by decide +kernel
theorem dX8_faultOf_31 : decode cX8_faultOf 31 = .ok (.invokevirtual 120, 3) := by decide +kernel
theorem dX8_faultOf_34 : decode cX8_faultOf 34 = .ok (.ifCond .ne 5, 3) := by decide +kernel
theorem dX8_faultOf_37 : decode cX8_faultOf 37 = .ok (.iload_n 1, 1) := by decide +kernel
theorem dX8_faultOf_38 : decode cX8_faultOf 38 = .ok (.ireturn, 1) := by decide +kernel
theorem dX8_faultOf_39 : decode cX8_faultOf 39 = .ok (.goto (-25), 3) := by decide +kernel
theorem dX8_faultOf_42 : decode cX8_faultOf 42 = .ok (.bipush (-4), 2) := by decide +kernel
theorem dX8_faultOf_44 : decode cX8_faultOf 44 = .ok (.ireturn, 1) := by decide +kernel
theorem dX8_fault_0 : decode cX8_fault 0 = .ok (.aload_n 0, 1) := by decide +kernel
theorem dX8_fault_1 : decode cX8_fault 1 = .ok (.invokevirtual 123, 3) := by decide +kernel
theorem dX8_fault_4 : decode cX8_fault 4 = .ok (.ireturn, 1) := by decide +kernel
theorem dX8_lay_0 : decode cX8_lay 0 = .ok (.aload_n 0, 1) := by decide +kernel
theorem dX8_lay_1 : decode cX8_lay 1 = .ok (.invokevirtual 123, 3) := by decide +kernel
theorem dX8_lay_4 : decode cX8_lay 4 = .ok (.bipush (-4), 2) := by decide +kernel
theorem dX8_lay_6 : decode cX8_lay 6 = .ok (.if_icmp .ne 10, 3) := by decide +kernel
theorem dX8_lay_9 : decode cX8_lay 9 = .ok (.aload_n 0, 1) := by decide +kernel
theorem dX8_lay_10 : decode cX8_lay 10 = .ok (.getfield 90, 3) := by decide +kernel
theorem dX8_lay_13 : decode cX8_lay 13 = .ok (.ifCond .ne 6, 3) := by decide +kernel
theorem dX8_lay_16 : decode cX8_lay 16 = .ok (.bipush (-2), 2) := by decide +kernel
theorem dX8_lay_18 : decode cX8_lay 18 = .ok (.ireturn, 1) := by decide +kernel
theorem dX8_lay_19 : decode cX8_lay 19 = .ok (.aload_n 0, 1) := by decide +kernel
theorem dX8_lay_20 : decode cX8_lay 20 = .ok (.invokevirtual 66, 3) := by decide +kernel
theorem dX8_lay_23 : decode cX8_lay 23 = .ok (.aload_n 0, 1) := by decide +kernel
theorem dX8_lay_24 : decode cX8_lay 24 = .ok (.getfield 7, 3) := by decide +kernel
theorem dX8_lay_27 : decode cX8_lay 27 = .ok (.iconst 0, 1) := by decide +kernel
theorem dX8_lay_28 : decode cX8_lay 28 = .ok (.iaload, 1) := by decide +kernel
theorem dX8_lay_29 : decode cX8_lay 29 = .ok (.ireturn, 1) := by decide +kernel
theorem dX8_isPost_0 : decode cX8_isPost 0 = .ok (.iload_n 1, 1) := by decide +kernel
theorem dX8_isPost_1 : decode cX8_isPost 1 = .ok (.i2l, 1) := by decide +kernel
theorem dX8_isPost_2 : decode cX8_isPost 2 = .ok (.lconst 0, 1) := by decide +kernel
theorem dX8_isPost_3 : decode cX8_isPost 3 = .ok (.aload_n 0, 1) := by decide +kernel
theorem dX8_isPost_4 : decode cX8_isPost 4 = .ok (.getfield 7, 3) := by decide +kernel
theorem dX8_isPost_7 : decode cX8_isPost 7 = .ok (.iconst 0, 1) := by decide +kernel
theorem dX8_isPost_8 : decode cX8_isPost 8 = .ok (.iaload, 1) := by decide +kernel
theorem dX8_isPost_9 : decode cX8_isPost 9 = .ok (.iconst 1, 1) := by decide +kernel
theorem dX8_isPost_10 : decode cX8_isPost 10 = .ok (.isub, 1) := by decide +kernel
theorem dX8_isPost_11 : decode cX8_isPost 11 = .ok (.i2l, 1) := by decide +kernel
theorem dX8_isPost_12 : decode cX8_isPost 12 = .ok (.invokestatic 69, 3) := by decide +kernel
theorem dX8_isPost_15 : decode cX8_isPost 15 = .ok (.ireturn, 1) := by decide +kernel
theorem dX8_isWalker_0 : decode cX8_isWalker 0 = .ok (.iload_n 1, 1) := by decide +kernel
theorem dX8_isWalker_1 : decode cX8_isWalker 1 = .ok (.i2l, 1) := by decide +kernel
theorem dX8_isWalker_2 : decode cX8_isWalker 2 = .ok (.lconst 0, 1) := by decide +kernel
theorem dX8_isWalker_3 : decode cX8_isWalker 3 = .ok (.aload_n 0, 1) := by decide +kernel
theorem dX8_isWalker_4 : decode cX8_isWalker 4 = .ok (.getfield 7, 3) := by decide +kernel
theorem dX8_isWalker_7 : decode cX8_isWalker 7 = .ok (.iconst 1, 1) := by decide +kernel
theorem dX8_isWalker_8 : decode cX8_isWalker 8 = .ok (.iaload, 1) := by decide +kernel
theorem dX8_isWalker_9 : decode cX8_isWalker 9 = .ok (.iconst 1, 1) := by decide +kernel
theorem dX8_isWalker_10 : decode cX8_isWalker 10 = .ok (.isub, 1) := by decide +kernel
theorem dX8_isWalker_11 : decode cX8_isWalker 11 = .ok (.i2l, 1) := by decide +kernel
theorem dX8_isWalker_12 : decode cX8_isWalker 12 = .ok (.invokestatic 69, 3) := by decide +kernel
theorem dX8_isWalker_15 : decode cX8_isWalker 15 = .ok (.ireturn, 1) := by decide +kernel
theorem dX8_isThing_0 : decode cX8_isThing 0 = .ok (.iload_n 1, 1) := by decide +kernel
theorem dX8_isThing_1 : decode cX8_isThing 1 = .ok (.i2l, 1) := by decide +kernel
theorem dX8_isThing_2 : decode cX8_isThing 2 = .ok (.lconst 0, 1) := by decide +kernel
theorem dX8_isThing_3 : decode cX8_isThing 3 = .ok (.aload_n 0, 1) := by decide +kernel
theorem dX8_isThing_4 : decode cX8_isThing 4 = .ok (.getfield 7, 3) := by decide +kernel
theorem dX8_isThing_7 : decode cX8_isThing 7 = .ok (.iconst 2, 1) := by decide +kernel
theorem dX8_isThing_8 : decode cX8_isThing 8 = .ok (.iaload, 1) := by decide +kernel
theorem dX8_isThing_9 : decode cX8_isThing 9 = .ok (.iconst 1, 1) := by decide +kernel
theorem dX8_isThing_10 : decode cX8_isThing 10 = .ok (.isub, 1) := by decide +kernel
theorem dX8_isThing_11 : decode cX8_isThing 11 = .ok (.i2l, 1) := by decide +kernel
theorem dX8_isThing_12 : decode cX8_isThing 12 = .ok (.invokestatic 69, 3) := by decide +kernel
theorem dX8_isThing_15 : decode cX8_isThing 15 = .ok (.ireturn, 1) := by decide +kernel
theorem dX8_isYard_0 : decode cX8_isYard 0 = .ok (.iload_n 0, 1) := by decide +kernel
theorem dX8_isYard_1 : decode cX8_isYard 1 = .ok (.i2l, 1) := by decide +kernel
theorem dX8_isYard_2 : decode cX8_isYard 2 = .ok (.lconst 0, 1) := by decide +kernel
theorem dX8_isYard_3 : decode cX8_isYard 3 = .ok (.ldc2_w 127, 3) := by decide +kernel
theorem dX8_isYard_6 : decode cX8_isYard 6 = .ok (.invokestatic 69, 3) := by decide +kernel
theorem dX8_isYard_9 : decode cX8_isYard 9 = .ok (.ireturn, 1) := by decide +kernel
theorem dX8_post_0 : decode cX8_post 0 = .ok (.aload_n 0, 1) := by decide +kernel
theorem dX8_post_1 : decode cX8_post 1 = .ok (.iload_n 1, 1) := by decide +kernel
theorem dX8_post_2 : decode cX8_post 2 = .ok (.invokevirtual 129, 3) := by decide +kernel
theorem dX8_post_5 : decode cX8_post 5 = .ok (.ifCond .eq 12, 3) := by decide +kernel
theorem dX8_post_8 : decode cX8_post 8 = .ok (.aload_n 0, 1) := by decide +kernel
theorem dX8_post_9 : decode cX8_post 9 = .ok (.getfield 13, 3) := by decide +kernel
theorem dX8_post_12 : decode cX8_post 12 = .ok (.iload_n 1, 1) := by decide +kernel
theorem dX8_post_13 : decode cX8_post 13 = .ok (.iaload, 1) := by decide +kernel
theorem dX8_post_14 : decode cX8_post 14 = .ok (.goto 4, 3) := by decide +kernel
theorem dX8_post_17 : decode cX8_post 17 = .ok (.iconst (-1), 1) := by decide +kernel
theorem dX8_post_18 : decode cX8_post 18 = .ok (.ireturn, 1) := by decide +kernel
theorem dX8_walker_0 : decode cX8_walker 0 = .ok (.aload_n 0, 1) := by decide +kernel
theorem dX8_walker_1 : decode cX8_walker 1 = .ok (.iload_n 1, 1) := by decide +kernel
theorem dX8_walker_2 : decode cX8_walker 2 = .ok (.invokevirtual 132, 3) := by decide +kernel
theorem dX8_walker_5 : decode cX8_walker 5 = .ok (.ifCond .eq 13, 3) := by decide +kernel
theorem dX8_walker_8 : decode cX8_walker 8 = .ok (.iload_n 2, 1) := by decide +kernel
theorem dX8_walker_9 : decode cX8_walker 9 = .ok (.i2l, 1) := by decide +kernel
theorem dX8_walker_10 : decode cX8_walker 10 = .ok (.lconst 0, 1) := by decide +kernel
theorem dX8_walker_11 : decode cX8_walker 11 = .ok (.lconst 1, 1) := by decide +kernel
theorem dX8_walker_12 : decode cX8_walker 12 = .ok (.invokestatic 69, 3) := by decide +kernel
theorem dX8_walker_15 : decode cX8_walker 15 = .ok (.ifCond .ne 5, 3) := by decide +kernel
theorem dX8_walker_18 : decode cX8_walker 18 = .ok (.iconst (-1), 1) := by decide +kernel
theorem dX8_walker_19 : decode cX8_walker 19 = .ok (.ireturn, 1) := by decide +kernel
theorem dX8_walker_20 : decode cX8_walker 20 = .ok (.aload_n 0, 1) := by decide +kernel
theorem dX8_walker_21 : decode cX8_walker 21 = .ok (.getfield 7, 3) := by decide +kernel
theorem dX8_walker_24 : decode cX8_walker 24 = .ok (.iload_n 2, 1) := by decide +kernel
theorem dX8_walker_25 : decode cX8_walker 25 = .ok (.ifCond .ne 10, 3) := by decide +kernel
theorem dX8_walker_28 : decode cX8_walker 28 = .ok (.bipush 21, 2) := by decide +kernel
theorem dX8_walker_30 : decode cX8_walker 30 = .ok (.iload_n 1, 1) := by decide +kernel
theorem dX8_walker_31 : decode cX8_walker 31 = .ok (.iadd, 1) := by decide +kernel
theorem dX8_walker_32 : decode cX8_walker 32 = .ok (.goto 7, 3) := by decide +kernel
theorem dX8_walker_35 : decode cX8_walker 35 = .ok (.bipush 25, 2) := by decide +kernel
theorem dX8_walker_37 : decode cX8_walker 37 = .ok (.iload_n 1, 1) := by decide +kernel
theorem dX8_walker_38 : decode cX8_walker 38 = .ok (.iadd, 1) := by decide +kernel
theorem dX8_walker_39 : decode cX8_walker 39 = .ok (.iaload, 1) := by decide +kernel
theorem dX8_walker_40 : decode cX8_walker 40 = .ok (.ireturn, 1) := by decide +kernel
theorem dX8_thing_0 : decode cX8_thing 0 = .ok (.aload_n 0, 1) := by decide +kernel
theorem dX8_thing_1 : decode cX8_thing 1 = .ok (.iload_n 1, 1) := by decide +kernel
theorem dX8_thing_2 : decode cX8_thing 2 = .ok (.invokevirtual 135, 3) := by decide +kernel
theorem dX8_thing_5 : decode cX8_thing 5 = .ok (.ifCond .eq 15, 3) := by decide +kernel
theorem dX8_thing_8 : decode cX8_thing 8 = .ok (.iload_n 2, 1) := by decide +kernel
theorem dX8_thing_9 : decode cX8_thing 9 = .ok (.i2l, 1) := by decide +kernel
theorem dX8_thing_10 : decode cX8_thing 10 = .ok (.lconst 0, 1) := by decide +kernel
theorem dX8_thing_11 : decode cX8_thing 11 = .ok (.ldc2_w 138, 3) := by decide +kernel
theorem dX8_thing_14 : decode cX8_thing 14 = .ok (.invokestatic 69, 3) := by decide +kernel
theorem dX8_thing_17 : decode cX8_thing 17 = .ok (.ifCond .ne 5, 3) := by decide +kernel
theorem dX8_thing_20 : decode cX8_thing 20 = .ok (.iconst (-1), 1) := by decide +kernel
theorem dX8_thing_21 : decode cX8_thing 21 = .ok (.ireturn, 1) := by decide +kernel
theorem dX8_thing_22 : decode cX8_thing 22 = .ok (.iload_n 2, 1) := by decide +kernel
theorem dX8_thing_23 : decode cX8_thing 23 = .ok (.ifCond .ne 15, 3) := by decide +kernel
theorem dX8_thing_26 : decode cX8_thing 26 = .ok (.aload_n 0, 1) := by decide +kernel
theorem dX8_thing_27 : decode cX8_thing 27 = .ok (.getfield 7, 3) := by decide +kernel
theorem dX8_thing_30 : decode cX8_thing 30 = .ok (.bipush 29, 2) := by decide +kernel
theorem dX8_thing_32 : decode cX8_thing 32 = .ok (.iload_n 1, 1) := by decide +kernel
theorem dX8_thing_33 : decode cX8_thing 33 = .ok (.iadd, 1) := by decide +kernel
theorem dX8_thing_34 : decode cX8_thing 34 = .ok (.iaload, 1) := by decide +kernel
theorem dX8_thing_35 : decode cX8_thing 35 = .ok (.goto 31, 3) := by decide +kernel
theorem dX8_thing_38 : decode cX8_thing 38 = .ok (.iload_n 2, 1) := by decide +kernel
theorem dX8_thing_39 : decode cX8_thing 39 = .ok (.iconst 1, 1) := by decide +kernel
theorem dX8_thing_40 : decode cX8_thing 40 = .ok (.if_icmp .ne 15, 3) := by decide +kernel
theorem dX8_thing_43 : decode cX8_thing 43 = .ok (.aload_n 0, 1) := by decide +kernel
theorem dX8_thing_44 : decode cX8_thing 44 = .ok (.getfield 7, 3) := by decide +kernel
theorem dX8_thing_47 : decode cX8_thing 47 = .ok (.bipush 35, 2) := by decide +kernel
theorem dX8_thing_49 : decode cX8_thing 49 = .ok (.iload_n 1, 1) := by decide +kernel
theorem dX8_thing_50 : decode cX8_thing 50 = .ok (.iadd, 1) := by decide +kernel
theorem dX8_thing_51 : decode cX8_thing 51 = .ok (.iaload, 1) := by decide +kernel
theorem dX8_thing_52 : decode cX8_thing 52 = .ok (.goto 14, 3) := by decide +kernel
theorem dX8_thing_55 : decode cX8_thing 55 = .ok (.aload_n 0, 1) := by decide +kernel
theorem dX8_thing_56 : decode cX8_thing 56 = .ok (.getfield 13, 3) := by decide +kernel
theorem dX8_thing_59 : decode cX8_thing 59 = .ok (.bipush 17, 2) := by decide +kernel
theorem dX8_thing_61 : decode cX8_thing 61 = .ok (.iaload, 1) := by decide +kernel
theorem dX8_thing_62 : decode cX8_thing 62 = .ok (.iload_n 1, 1) := by decide +kernel
theorem dX8_thing_63 : decode cX8_thing 63 = .ok (.ishr, 1) := by decide +kernel
theorem dX8_thing_64 : decode cX8_thing 64 = .ok (.iconst 1, 1) := by decide +kernel
theorem dX8_thing_65 : decode cX8_thing 65 = .ok (.iand, 1) := by decide +kernel
theorem dX8_thing_66 : decode cX8_thing 66 = .ok (.ireturn, 1) := by decide +kernel
theorem dX8_isFog_0 : decode cX8_isFog 0 = .ok (.iconst 0, 1) := by decide +kernel
theorem dX8_isFog_1 : decode cX8_isFog 1 = .ok (.istore_n 2, 1) := by decide +kernel
theorem dX8_isFog_2 : decode cX8_isFog 2 = .ok (.iconst 0, 1) := by decide +kernel
theorem dX8_isFog_3 : decode cX8_isFog 3 = .ok (.istore_n 3, 1) := by decide +kernel
theorem dX8_isFog_4 : decode cX8_isFog 4 = .ok (.iload_n 3, 1) := by decide +kernel
theorem dX8_isFog_5 : decode cX8_isFog 5 = .ok (.aload_n 0, 1) := by decide +kernel
theorem dX8_isFog_6 : decode cX8_isFog 6 = .ok (.getfield 7, 3) := by decide +kernel
theorem dX8_isFog_9 : decode cX8_isFog 9 = .ok (.iconst 4, 1) := by decide +kernel
theorem dX8_isFog_10 : decode cX8_isFog 10 = .ok (.iaload, 1) := by decide +kernel
theorem dX8_isFog_11 : decode cX8_isFog 11 = .ok (.if_icmp .ge 50, 3) := by decide +kernel
theorem dX8_isFog_14 : decode cX8_isFog 14 = .ok (.iload_n 2, 1) := by decide +kernel
theorem dX8_isFog_15 : decode cX8_isFog 15 = .ok (.ifCond .ne 34, 3) := by decide +kernel
theorem dX8_isFog_18 : decode cX8_isFog 18 = .ok (.iload_n 1, 1) := by decide +kernel
theorem dX8_isFog_19 : decode cX8_isFog 19 = .ok (.bipush 10, 2) := by decide +kernel
theorem dX8_isFog_21 : decode cX8_isFog 21 = .ok (.irem, 1) := by decide +kernel
theorem dX8_isFog_22 : decode cX8_isFog 22 = .ok (.i2l, 1) := by decide +kernel
theorem dX8_isFog_23 : decode cX8_isFog 23 = .ok (.aload_n 0, 1) := by decide +kernel
theorem dX8_isFog_24 : decode cX8_isFog 24 = .ok (.getfield 7, 3) := by decide +kernel
theorem dX8_isFog_27 : decode cX8_isFog 27 = .ok (.bipush 65, 2) := by decide +kernel
theorem dX8_isFog_29 : decode cX8_isFog 29 = .ok (.iload_n 3, 1) := by decide +kernel
theorem dX8_isFog_30 : decode cX8_isFog 30 = .ok (.iadd, 1) := by decide +kernel
theorem dX8_isFog_31 : decode cX8_isFog 31 = .ok (.iaload, 1) := by decide +kernel
theorem dX8_isFog_32 : decode cX8_isFog 32 = .ok (.i2l, 1) := by decide +kernel
theorem dX8_isFog_33 : decode cX8_isFog 33 = .ok (.aload_n 0, 1) := by decide +kernel
theorem dX8_isFog_34 : decode cX8_isFog 34 = .ok (.getfield 7, 3) := by decide +kernel
theorem dX8_isFog_37 : decode cX8_isFog 37 = .ok (.bipush 67, 2) := by decide +kernel
theorem dX8_isFog_39 : decode cX8_isFog 39 = .ok (.iload_n 3, 1) := by decide +kernel
theorem dX8_isFog_40 : decode cX8_isFog 40 = .ok (.iadd, 1) := by decide +kernel
theorem dX8_isFog_41 : decode cX8_isFog 41 = .ok (.iaload, 1) := by decide +kernel
theorem dX8_isFog_42 : decode cX8_isFog 42 = .ok (.i2l, 1) := by decide +kernel
theorem dX8_isFog_43 : decode cX8_isFog 43 = .ok (.invokestatic 69, 3) := by decide +kernel
theorem dX8_isFog_46 : decode cX8_isFog 46 = .ok (.ifCond .eq 7, 3) := by decide +kernel
theorem dX8_isFog_49 : decode cX8_isFog 49 = .ok (.iconst 1, 1) := by decide +kernel
theorem dX8_isFog_50 : decode cX8_isFog 50 = .ok (.goto 4, 3) := by decide +kernel
theorem dX8_isFog_53 : decode cX8_isFog 53 = .ok (.iconst 0, 1) := by decide +kernel
theorem dX8_isFog_54 : decode cX8_isFog 54 = .ok (.istore_n 2, 1) := by decide +kernel
theorem dX8_isFog_55 : decode cX8_isFog 55 = .ok (.iinc 3 1, 3) := by decide +kernel
theorem dX8_isFog_58 : decode cX8_isFog 58 = .ok (.goto (-54), 3) := by decide +kernel
theorem dX8_isFog_61 : decode cX8_isFog 61 = .ok (.iload_n 2, 1) := by decide +kernel
theorem dX8_isFog_62 : decode cX8_isFog 62 = .ok (.ireturn, 1) := by decide +kernel
theorem dX8_walksOn_0 : decode cX8_walksOn 0 = .ok (.iconst 0, 1) := by decide +kernel
theorem dX8_walksOn_1 : decode cX8_walksOn 1 = .ok (.istore_n 2, 1) := by decide +kernel
theorem dX8_walksOn_2 : decode cX8_walksOn 2 = .ok (.iconst 0, 1) := by decide +kernel
theorem dX8_walksOn_3 : decode cX8_walksOn 3 = .ok (.istore_n 3, 1) := by decide +kernel
theorem dX8_walksOn_4 : decode cX8_walksOn 4 = .ok (.iload_n 3, 1) := by decide +kernel
theorem dX8_walksOn_5 : decode cX8_walksOn 5 = .ok (.aload_n 0, 1) := by decide +kernel
theorem dX8_walksOn_6 : decode cX8_walksOn 6 = .ok (.getfield 7, 3) := by decide +kernel
theorem dX8_walksOn_9 : decode cX8_walksOn 9 = .ok (.iconst 3, 1) := by decide +kernel
theorem dX8_walksOn_10 : decode cX8_walksOn 10 = .ok (.iaload, 1) := by decide +kernel
theorem dX8_walksOn_11 : decode cX8_walksOn 11 = .ok (.if_icmp .ge 33, 3) := by decide +kernel
theorem dX8_walksOn_14 : decode cX8_walksOn 14 = .ok (.iload_n 2, 1) := by decide +kernel
theorem dX8_walksOn_15 : decode cX8_walksOn 15 = .ok (.aload_n 0, 1) := by decide +kernel
theorem dX8_walksOn_16 : decode cX8_walksOn 16 = .ok (.getfield 7, 3) := by decide +kernel
theorem dX8_walksOn_19 : decode cX8_walksOn 19 = .ok (.bipush 41, 2) := by decide +kernel
theorem dX8_walksOn_21 : decode cX8_walksOn 21 = .ok (.iload_n 3, 1) := by decide +kernel
theorem dX8_walksOn_22 : decode cX8_walksOn 22 = .ok (.iadd, 1) := by decide +kernel
theorem dX8_walksOn_23 : decode cX8_walksOn 23 = .ok (.iaload, 1) := by decide +kernel
theorem dX8_walksOn_24 : decode cX8_walksOn 24 = .ok (.iload_n 1, 1) := by decide +kernel
theorem dX8_walksOn_25 : decode cX8_walksOn 25 = .ok (.bipush 10, 2) := by decide +kernel
theorem dX8_walksOn_27 : decode cX8_walksOn 27 = .ok (.irem, 1) := by decide +kernel
theorem dX8_walksOn_28 : decode cX8_walksOn 28 = .ok (.if_icmp .ne 7, 3) := by decide +kernel
theorem dX8_walksOn_31 : decode cX8_walksOn 31 = .ok (.iconst 1, 1) := by decide +kernel
theorem dX8_walksOn_32 : decode cX8_walksOn 32 = .ok (.goto 4, 3) := by decide +kernel
theorem dX8_walksOn_35 : decode cX8_walksOn 35 = .ok (.iconst 0, 1) := by decide +kernel
theorem dX8_walksOn_36 : decode cX8_walksOn 36 = .ok (.iadd, 1) := by decide +kernel
theorem dX8_walksOn_37 : decode cX8_walksOn 37 = .ok (.istore_n 2, 1) := by decide +kernel
theorem dX8_walksOn_38 : decode cX8_walksOn 38 = .ok (.iinc 3 1, 3) := by decide +kernel
theorem dX8_walksOn_41 : decode cX8_walksOn 41 = .ok (.goto (-37), 3) := by decide +kernel
theorem dX8_walksOn_44 : decode cX8_walksOn 44 = .ok (.iload_n 2, 1) := by decide +kernel
theorem dX8_walksOn_45 : decode cX8_walksOn 45 = .ok (.ireturn, 1) := by decide +kernel
theorem dX8_day_0 : decode cX8_day 0 = .ok (.iload_n 1, 1) := by decide +kernel
theorem dX8_day_1 : decode cX8_day 1 = .ok (.i2l, 1) := by decide +kernel
theorem dX8_day_2 : decode cX8_day 2 = .ok (.lconst 0, 1) := by decide +kernel
theorem dX8_day_3 : decode cX8_day 3 = .ok (.ldc2_w 140, 3) := by decide +kernel
theorem dX8_day_6 : decode cX8_day 6 = .ok (.invokestatic 69, 3) := by decide +kernel
theorem dX8_day_9 : decode cX8_day 9 = .ok (.ifCond .eq 13, 3) := by decide +kernel
theorem dX8_day_12 : decode cX8_day 12 = .ok (.iload_n 2, 1) := by decide +kernel
theorem dX8_day_13 : decode cX8_day 13 = .ok (.i2l, 1) := by decide +kernel
theorem dX8_day_14 : decode cX8_day 14 = .ok (.lconst 0, 1) := by decide +kernel
theorem dX8_day_15 : decode cX8_day 15 = .ok (.lconst 1, 1) := by decide +kernel
theorem dX8_day_16 : decode cX8_day 16 = .ok (.invokestatic 69, 3) := by decide +kernel
theorem dX8_day_19 : decode cX8_day 19 = .ok (.ifCond .ne 5, 3) := by decide +kernel
theorem dX8_day_22 : decode cX8_day 22 = .ok (.iconst (-1), 1) := by decide +kernel
theorem dX8_day_23 : decode cX8_day 23 = .ok (.ireturn, 1) := by decide +kernel
theorem dX8_day_24 : decode cX8_day 24 = .ok (.iload_n 2, 1) := by decide +kernel
theorem dX8_day_25 : decode cX8_day 25 = .ok (.ifCond .ne 11, 3) := by decide +kernel
theorem dX8_day_28 : decode cX8_day 28 = .ok (.aload_n 0, 1) := by decide +kernel
theorem dX8_day_29 : decode cX8_day 29 = .ok (.iload_n 1, 1) := by decide +kernel
theorem dX8_day_30 : decode cX8_day 30 = .ok (.invokevirtual 142, 3) := by decide +kernel
theorem dX8_day_33 : decode cX8_day 33 = .ok (.goto 16, 3) := by decide +kernel
theorem dX8_day_36 : decode cX8_day 36 = .ok (.aload_n 0, 1) := by decide +kernel
theorem dX8_day_37 : decode cX8_day 37 = .ok (.iload_n 1, 1) := by decide +kernel
theorem dX8_day_38 : decode cX8_day 38 = .ok (.invokevirtual 145, 3) := by decide +kernel
theorem dX8_day_41 : decode cX8_day 41 = .ok (.ifCond .eq 7, 3) := by decide +kernel
theorem dX8_day_44 : decode cX8_day 44 = .ok (.iconst 1, 1) := by decide +kernel
theorem dX8_day_45 : decode cX8_day 45 = .ok (.goto 4, 3) := by decide +kernel
theorem dX8_day_48 : decode cX8_day 48 = .ok (.iconst 0, 1) := by decide +kernel
theorem dX8_day_49 : decode cX8_day 49 = .ok (.ireturn, 1) := by decide +kernel
theorem dX8_toward_0 : decode cX8_toward 0 = .ok (.iload_n 0, 1) := by decide +kernel
theorem dX8_toward_1 : decode cX8_toward 1 = .ok (.iload_n 1, 1) := by decide +kernel
theorem dX8_toward_2 : decode cX8_toward 2 = .ok (.if_icmp .ge 9, 3) := by decide +kernel
theorem dX8_toward_5 : decode cX8_toward 5 = .ok (.iload_n 0, 1) := by decide +kernel
theorem dX8_toward_6 : decode cX8_toward 6 = .ok (.iconst 1, 1) := by decide +kernel
theorem dX8_toward_7 : decode cX8_toward 7 = .ok (.iadd, 1) := by decide +kernel
theorem dX8_toward_8 : decode cX8_toward 8 = .ok (.goto 15, 3) := by decide +kernel
theorem dX8_toward_11 : decode cX8_toward 11 = .ok (.iload_n 0, 1) := by decide +kernel
theorem dX8_toward_12 : decode cX8_toward 12 = .ok (.iload_n 1, 1) := by decide +kernel
theorem dX8_toward_13 : decode cX8_toward 13 = .ok (.if_icmp .le 9, 3) := by decide +kernel
theorem dX8_toward_16 : decode cX8_toward 16 = .ok (.iload_n 0, 1) := by decide +kernel
theorem dX8_toward_17 : decode cX8_toward 17 = .ok (.iconst 1, 1) := by decide +kernel
theorem dX8_toward_18 : decode cX8_toward 18 = .ok (.isub, 1) := by decide +kernel
theorem dX8_toward_19 : decode cX8_toward 19 = .ok (.goto 4, 3) := by decide +kernel
theorem dX8_toward_22 : decode cX8_toward 22 = .ok (.iload_n 0, 1) := by decide +kernel
theorem dX8_toward_23 : decode cX8_toward 23 = .ok (.ireturn, 1) := by decide +kernel
theorem dX8_goes_0 : decode cX8_goes 0 = .ok (.aload_n 0, 1) := by decide +kernel
theorem dX8_goes_1 : decode cX8_goes 1 = .ok (.getfield 13, 3) := by decide +kernel
theorem dX8_goes_4 : decode cX8_goes 4 = .ok (.iload_n 1, 1) := by decide +kernel
theorem dX8_goes_5 : decode cX8_goes 5 = .ok (.iload_n 2, 1) := by decide +kernel
theorem dX8_goes_6 : decode cX8_goes 6 = .ok (.iadd, 1) := by decide +kernel
theorem dX8_goes_7 : decode cX8_goes 7 = .ok (.iaload, 1) := by decide +kernel
theorem dX8_goes_8 : decode cX8_goes 8 = .ok (.istore 5, 2) := by decide +kernel
theorem dX8_goes_10 : decode cX8_goes 10 = .ok (.iload_n 3, 1) := by decide +kernel
theorem dX8_goes_11 : decode cX8_goes 11 = .ok (.tableswitch 172 2 4 #[25, 86, 94], 25) := by decide +kernel
theorem dX8_goes_36 : decode cX8_goes 36 = .ok (.iload 5, 2) := by decide +kernel
theorem dX8_goes_38 : decode cX8_goes 38 = .ok (.iload 4, 2) := by decide +kernel
theorem dX8_goes_40 : decode cX8_goes 40 = .ok (.if_icmp .ge 10, 3) := by decide +kernel
theorem dX8_goes_43 : decode cX8_goes 43 = .ok (.iload 5, 2) := by decide +kernel
theorem dX8_goes_45 : decode cX8_goes 45 = .ok (.iconst 1, 1) := by decide +kernel
theorem dX8_goes_46 : decode cX8_goes 46 = .ok (.isub, 1) := by decide +kernel
theorem dX8_goes_47 : decode cX8_goes 47 = .ok (.goto 7, 3) := by decide +kernel
theorem dX8_goes_50 : decode cX8_goes 50 = .ok (.iload 5, 2) := by decide +kernel
theorem dX8_goes_52 : decode cX8_goes 52 = .ok (.iconst 1, 1) := by decide +kernel
theorem dX8_goes_53 : decode cX8_goes 53 = .ok (.iadd, 1) := by decide +kernel
theorem dX8_goes_54 : decode cX8_goes 54 = .ok (.istore 6, 2) := by decide +kernel
theorem dX8_goes_56 : decode cX8_goes 56 = .ok (.iload_n 2, 1) := by decide +kernel
theorem dX8_goes_57 : decode cX8_goes 57 = .ok (.iconst 2, 1) := by decide +kernel
theorem dX8_goes_58 : decode cX8_goes 58 = .ok (.irem, 1) := by decide +kernel
theorem dX8_goes_59 : decode cX8_goes 59 = .ok (.iconst 1, 1) := by decide +kernel
theorem dX8_goes_60 : decode cX8_goes 60 = .ok (.if_icmp .ne 13, 3) := by decide +kernel
theorem dX8_goes_63 : decode cX8_goes 63 = .ok (.iload 5, 2) := by decide +kernel
theorem dX8_goes_65 : decode cX8_goes 65 = .ok (.iload 4, 2) := by decide +kernel
theorem dX8_goes_67 : decode cX8_goes 67 = .ok (.invokestatic 148, 3) := by decide +kernel
theorem dX8_goes_70 : decode cX8_goes 70 = .ok (.goto 26, 3) := by decide +kernel
theorem dX8_goes_73 : decode cX8_goes 73 = .ok (.iload 6, 2) := by decide +kernel
theorem dX8_goes_75 : decode cX8_goes 75 = .ok (.ifCond .ge 7, 3) := by decide +kernel
theorem dX8_goes_78 : decode cX8_goes 78 = .ok (.iconst 0, 1) := by decide +kernel
theorem dX8_goes_79 : decode cX8_goes 79 = .ok (.goto 17, 3) := by decide +kernel
theorem dX8_goes_82 : decode cX8_goes 82 = .ok (.iload 6, 2) := by decide +kernel
theorem dX8_goes_84 : decode cX8_goes 84 = .ok (.bipush 60, 2) := by decide +kernel
theorem dX8_goes_86 : decode cX8_goes 86 = .ok (.if_icmp .le 8, 3) := by decide +kernel
theorem dX8_goes_89 : decode cX8_goes 89 = .ok (.bipush 60, 2) := by decide +kernel
theorem dX8_goes_91 : decode cX8_goes 91 = .ok (.goto 5, 3) := by decide +kernel
theorem dX8_goes_94 : decode cX8_goes 94 = .ok (.iload 6, 2) := by decide +kernel
theorem dX8_goes_96 : decode cX8_goes 96 = .ok (.ireturn, 1) := by decide +kernel
theorem dX8_goes_97 : decode cX8_goes 97 = .ok (.iload 5, 2) := by decide +kernel
theorem dX8_goes_99 : decode cX8_goes 99 = .ok (.bipush 30, 2) := by decide +kernel
theorem dX8_goes_101 : decode cX8_goes 101 = .ok (.invokestatic 148, 3) := by decide +kernel
theorem dX8_goes_104 : decode cX8_goes 104 = .ok (.ireturn, 1) := by decide +kernel
theorem dX8_goes_105 : decode cX8_goes 105 = .ok (.iload 5, 2) := by decide +kernel
theorem dX8_goes_107 : decode cX8_goes 107 = .ok (.aload_n 0, 1) := by decide +kernel
theorem dX8_goes_108 : decode cX8_goes 108 = .ok (.getfield 13, 3) := by decide +kernel
theorem dX8_goes_111 : decode cX8_goes 111 = .ok (.iload_n 1, 1) := by decide +kernel
theorem dX8_goes_112 : decode cX8_goes 112 = .ok (.iload_n 2, 1) := by decide +kernel
theorem dX8_goes_113 : decode cX8_goes 113 = .ok (.iadd, 1) := by decide +kernel
theorem dX8_goes_114 : decode cX8_goes 114 = .ok (.iconst 1, 1) := by decide +kernel
theorem dX8_goes_115 : decode cX8_goes 115 = .ok (.isub, 1) := by decide +kernel
theorem dX8_goes_116 : decode cX8_goes 116 = .ok (.iaload, 1) := by decide +kernel
theorem dX8_goes_117 : decode cX8_goes 117 = .ok (.invokestatic 152, 3) := by decide +kernel
theorem dX8_goes_120 : decode cX8_goes 120 = .ok (.istore 7, 2) := by decide +kernel
theorem dX8_goes_122 : decode cX8_goes 122 = .ok (.iload 7, 2) := by decide +kernel
theorem dX8_goes_124 : decode cX8_goes 124 = .ok (.iconst 3, 1) := by decide +kernel
theorem dX8_goes_125 : decode cX8_goes 125 = .ok (.if_icmp .le 7, 3) := by decide +kernel
theorem dX8_goes_128 : decode cX8_goes 128 = .ok (.iconst 3, 1) := by decide +kernel
theorem dX8_goes_129 : decode cX8_goes 129 = .ok (.goto 5, 3) := by decide +kernel
theorem dX8_goes_132 : decode cX8_goes 132 = .ok (.iload 7, 2) := by decide +kernel
theorem dX8_goes_134 : decode cX8_goes 134 = .ok (.istore 7, 2) := by decide +kernel
theorem dX8_goes_136 : decode cX8_goes 136 = .ok (.iload 7, 2) := by decide +kernel
theorem dX8_goes_138 : decode cX8_goes 138 = .ok (.iload 5, 2) := by decide +kernel
theorem dX8_goes_140 : decode cX8_goes 140 = .ok (.iload 4, 2) := by decide +kernel
theorem dX8_goes_142 : decode cX8_goes 142 = .ok (.invokestatic 152, 3) := by decide +kernel
theorem dX8_goes_145 : decode cX8_goes 145 = .ok (.if_icmp .le 13, 3) := by decide +kernel
theorem dX8_goes_148 : decode cX8_goes 148 = .ok (.iload 5, 2) := by decide +kernel
theorem dX8_goes_150 : decode cX8_goes 150 = .ok (.iload 4, 2) := by decide +kernel
theorem dX8_goes_152 : decode cX8_goes 152 = .ok (.invokestatic 152, 3) := by decide +kernel
theorem dX8_goes_155 : decode cX8_goes 155 = .ok (.goto 5, 3) := by decide +kernel
theorem dX8_goes_158 : decode cX8_goes 158 = .ok (.iload 7, 2) := by decide +kernel
theorem dX8_goes_160 : decode cX8_goes 160 = .ok (.istore 7, 2) := by decide +kernel
theorem dX8_goes_162 : decode cX8_goes 162 = .ok (.iload 5, 2) := by decide +kernel
theorem dX8_goes_164 : decode cX8_goes 164 = .ok (.iload 4, 2) := by decide +kernel
theorem dX8_goes_166 : decode cX8_goes 166 = .ok (.if_icmp .ge 11, 3) := by decide +kernel
theorem dX8_goes_169 : decode cX8_goes 169 = .ok (.iload 5, 2) := by decide +kernel
theorem dX8_goes_171 : decode cX8_goes 171 = .ok (.iload 7, 2) := by decide +kernel
theorem dX8_goes_173 : decode cX8_goes 173 = .ok (.iadd, 1) := by decide +kernel
theorem dX8_goes_174 : decode cX8_goes 174 = .ok (.goto 8, 3) := by decide +kernel
theorem dX8_goes_177 : decode cX8_goes 177 = .ok (.iload 5, 2) := by decide +kernel
theorem dX8_goes_179 : decode cX8_goes 179 = .ok (.iload 7, 2) := by decide +kernel
theorem dX8_goes_181 : decode cX8_goes 181 = .ok (.isub, 1) := by decide +kernel
theorem dX8_goes_182 : decode cX8_goes 182 = .ok (.ireturn, 1) := by decide +kernel
theorem dX8_goes_183 : decode cX8_goes 183 = .ok (.iload 5, 2) := by decide +kernel
theorem dX8_goes_185 : decode cX8_goes 185 = .ok (.iload 4, 2) := by decide +kernel
theorem dX8_goes_187 : decode cX8_goes 187 = .ok (.invokestatic 148, 3) := by decide +kernel
theorem dX8_goes_190 : decode cX8_goes 190 = .ok (.ireturn, 1) := by decide +kernel
theorem dX8_bends_0 : decode cX8_bends 0 = .ok (.iconst 0, 1) := by decide +kernel
theorem dX8_bends_1 : decode cX8_bends 1 = .ok (.istore 4, 2) := by decide +kernel
theorem dX8_bends_3 : decode cX8_bends 3 = .ok (.aload_n 0, 1) := by decide +kernel
theorem dX8_bends_4 : decode cX8_bends 4 = .ok (.getfield 7, 3) := by decide +kernel
theorem dX8_bends_7 : decode cX8_bends 7 = .ok (.bipush 21, 2) := by decide +kernel
theorem dX8_bends_9 : decode cX8_bends 9 = .ok (.iload_n 2, 1) := by decide +kernel
theorem dX8_bends_10 : decode cX8_bends 10 = .ok (.iadd, 1) := by decide +kernel
theorem dX8_bends_11 : decode cX8_bends 11 = .ok (.iaload, 1) := by decide +kernel
theorem dX8_bends_12 : decode cX8_bends 12 = .ok (.istore 5, 2) := by decide +kernel
theorem dX8_bends_14 : decode cX8_bends 14 = .ok (.aload_n 0, 1) := by decide +kernel
theorem dX8_bends_15 : decode cX8_bends 15 = .ok (.getfield 7, 3) := by decide +kernel
theorem dX8_bends_18 : decode cX8_bends 18 = .ok (.bipush 29, 2) := by decide +kernel
theorem dX8_bends_20 : decode cX8_bends 20 = .ok (.iload_n 3, 1) := by decide +kernel
theorem dX8_bends_21 : decode cX8_bends 21 = .ok (.iadd, 1) := by decide +kernel
theorem dX8_bends_22 : decode cX8_bends 22 = .ok (.iaload, 1) := by decide +kernel
theorem dX8_bends_23 : decode cX8_bends 23 = .ok (.istore 6, 2) := by decide +kernel
theorem dX8_bends_25 : decode cX8_bends 25 = .ok (.iconst 1, 1) := by decide +kernel
theorem dX8_bends_26 : decode cX8_bends 26 = .ok (.istore 7, 2) := by decide +kernel
theorem dX8_bends_28 : decode cX8_bends 28 = .ok (.iload 7, 2) := by decide +kernel
theorem dX8_bends_30 : decode cX8_bends 30 = .ok (.aload_n 0, 1) := by decide +kernel
theorem dX8_bends_31 : decode cX8_bends 31 = .ok (.getfield 7, 3) := by decide +kernel
theorem dX8_bends_34 : decode cX8_bends 34 = .ok (.iconst 0, 1) := by decide +kernel
theorem dX8_bends_35 : decode cX8_bends 35 = .ok (.iaload, 1) := by decide +kernel
theorem dX8_bends_36 : decode cX8_bends 36 = .ok (.iconst 1, 1) := by decide +kernel
theorem dX8_bends_37 : decode cX8_bends 37 = .ok (.isub, 1) := by decide +kernel
theorem dX8_bends_38 : decode cX8_bends 38 = .ok (.if_icmp .ge 108, 3) := by decide +kernel
theorem dX8_bends_41 : decode cX8_bends 41 = .ok (.aload_n 0, 1) := by decide +kernel
theorem dX8_bends_42 : decode cX8_bends 42 = .ok (.getfield 13, 3) := by decide +kernel
theorem dX8_bends_45 : decode cX8_bends 45 = .ok (.iload_n 1, 1) := by decide +kernel
theorem dX8_bends_46 : decode cX8_bends 46 = .ok (.bipush 17, 2) := by decide +kernel
theorem dX8_bends_48 : decode cX8_bends 48 = .ok (.iadd, 1) := by decide +kernel
theorem dX8_bends_49 : decode cX8_bends 49 = .ok (.iaload, 1) := by decide +kernel
theorem dX8_bends_50 : decode cX8_bends 50 = .ok (.iload_n 3, 1) := by decide +kernel
theorem dX8_bends_51 : decode cX8_bends 51 = .ok (.invokestatic 155, 3) := by decide +kernel
theorem dX8_bends_54 : decode cX8_bends 54 = .ok (.ifCond .ne 92, 3) := by decide +kernel
theorem dX8_bends_57 : decode cX8_bends 57 = .ok (.iload 5, 2) := by decide +kernel
theorem dX8_bends_59 : decode cX8_bends 59 = .ok (.iconst 1, 1) := by decide +kernel
theorem dX8_bends_60 : decode cX8_bends 60 = .ok (.if_icmp .ne 7, 3) := by decide +kernel
theorem dX8_bends_63 : decode cX8_bends 63 = .ok (.iconst 0, 1) := by decide +kernel
theorem dX8_bends_64 : decode cX8_bends 64 = .ok (.goto 12, 3) := by decide +kernel
theorem dX8_bends_67 : decode cX8_bends 67 = .ok (.aload_n 0, 1) := by decide +kernel
theorem dX8_bends_68 : decode cX8_bends 68 = .ok (.getfield 7, 3) := by decide +kernel
theorem dX8_bends_71 : decode cX8_bends 71 = .ok (.bipush 25, 2) := by decide +kernel
theorem dX8_bends_73 : decode cX8_bends 73 = .ok (.iload_n 2, 1) := by decide +kernel
theorem dX8_bends_74 : decode cX8_bends 74 = .ok (.iadd, 1) := by decide +kernel
theorem dX8_bends_75 : decode cX8_bends 75 = .ok (.iaload, 1) := by decide +kernel
theorem dX8_bends_76 : decode cX8_bends 76 = .ok (.istore 8, 2) := by decide +kernel
theorem dX8_bends_78 : decode cX8_bends 78 = .ok (.iload 7, 2) := by decide +kernel
theorem dX8_bends_80 : decode cX8_bends 80 = .ok (.iload 6, 2) := by decide +kernel
theorem dX8_bends_82 : decode cX8_bends 82 = .ok (.invokestatic 152, 3) := by decide +kernel
theorem dX8_bends_85 : decode cX8_bends 85 = .ok (.iload 8, 2) := by decide +kernel
theorem dX8_bends_87 : decode cX8_bends 87 = .ok (.if_icmp .gt 53, 3) := by decide +kernel
theorem dX8_bends_90 : decode cX8_bends 90 = .ok (.aload_n 0, 1) := by decide +kernel
theorem dX8_bends_91 : decode cX8_bends 91 = .ok (.iload_n 1, 1) := by decide +kernel
theorem dX8_bends_92 : decode cX8_bends 92 = .ok (.iload 7, 2) := by decide +kernel
theorem dX8_bends_94 : decode cX8_bends 94 = .ok (.iload 5, 2) := by decide +kernel
theorem dX8_bends_96 : decode cX8_bends 96 = .ok (.aload_n 0, 1) := by decide +kernel
theorem dX8_bends_97 : decode cX8_bends 97 = .ok (.getfield 7, 3) := by decide +kernel
theorem dX8_bends_100 : decode cX8_bends 100 = .ok (.bipush 35, 2) := by decide +kernel
theorem dX8_bends_102 : decode cX8_bends 102 = .ok (.iload_n 3, 1) := by decide +kernel
theorem dX8_bends_103 : decode cX8_bends 103 = .ok (.iadd, 1) := by decide +kernel
theorem dX8_bends_104 : decode cX8_bends 104 = .ok (.iaload, 1) := by decide +kernel
theorem dX8_bends_105 : decode cX8_bends 105 = .ok (.invokevirtual 158, 3) := by decide +kernel
theorem dX8_bends_108 : decode cX8_bends 108 = .ok (.istore 9, 2) := by decide +kernel
theorem dX8_bends_110 : decode cX8_bends 110 = .ok (.iload 4, 2) := by decide +kernel
theorem dX8_bends_112 : decode cX8_bends 112 = .ok (.iload 9, 2) := by decide +kernel
theorem dX8_bends_114 : decode cX8_bends 114 = .ok (.aload_n 0, 1) := by decide +kernel
theorem dX8_bends_115 : decode cX8_bends 115 = .ok (.getfield 13, 3) := by decide +kernel
theorem dX8_bends_118 : decode cX8_bends 118 = .ok (.iload_n 1, 1) := by decide +kernel
theorem dX8_bends_119 : decode cX8_bends 119 = .ok (.iload 7, 2) := by decide +kernel
theorem dX8_bends_121 : decode cX8_bends 121 = .ok (.iadd, 1) := by decide +kernel
theorem dX8_bends_122 : decode cX8_bends 122 = .ok (.iaload, 1) := by decide +kernel
theorem dX8_bends_123 : decode cX8_bends 123 = .ok (.invokestatic 152, 3) := by decide +kernel
theorem dX8_bends_126 : decode cX8_bends 126 = .ok (.iadd, 1) := by decide +kernel
theorem dX8_bends_127 : decode cX8_bends 127 = .ok (.istore 4, 2) := by decide +kernel
theorem dX8_bends_129 : decode cX8_bends 129 = .ok (.aload_n 0, 1) := by decide +kernel
theorem dX8_bends_130 : decode cX8_bends 130 = .ok (.getfield 13, 3) := by decide +kernel
theorem dX8_bends_133 : decode cX8_bends 133 = .ok (.iload_n 1, 1) := by decide +kernel
theorem dX8_bends_134 : decode cX8_bends 134 = .ok (.iload 7, 2) := by decide +kernel
theorem dX8_bends_136 : decode cX8_bends 136 = .ok (.iadd, 1) := by decide +kernel
theorem dX8_bends_137 : decode cX8_bends 137 = .ok (.iload 9, 2) := by decide +kernel
theorem dX8_bends_139 : decode cX8_bends 139 = .ok (.iastore, 1) := by decide +kernel
theorem dX8_bends_140 : decode cX8_bends 140 = .ok (.iinc 7 1, 3) := by decide +kernel
theorem dX8_bends_143 : decode cX8_bends 143 = .ok (.goto (-115), 3) := by decide +kernel
theorem dX8_bends_146 : decode cX8_bends 146 = .ok (.iload 4, 2) := by decide +kernel
theorem dX8_bends_148 : decode cX8_bends 148 = .ok (.ireturn, 1) := by decide +kernel
theorem dX8_straightens_0 : decode cX8_straightens 0 = .ok (.iconst 1, 1) := by decide +kernel
theorem dX8_straightens_1 : decode cX8_straightens 1 = .ok (.istore_n 2, 1) := by decide +kernel
theorem dX8_straightens_2 : decode cX8_straightens 2 = .ok (.iload_n 2, 1) := by decide +kernel
theorem dX8_straightens_3 : decode cX8_straightens 3 = .ok (.aload_n 0, 1) := by decide +kernel
theorem dX8_straightens_4 : decode cX8_straightens 4 = .ok (.getfield 7, 3) := by decide +kernel
theorem dX8_straightens_7 : decode cX8_straightens 7 = .ok (.iconst 0, 1) := by decide +kernel
theorem dX8_straightens_8 : decode cX8_straightens 8 = .ok (.iaload, 1) := by decide +kernel
theorem dX8_straightens_9 : decode cX8_straightens 9 = .ok (.iconst 1, 1) := by decide +kernel
theorem dX8_straightens_10 : decode cX8_straightens 10 = .ok (.isub, 1) := by decide +kernel
theorem dX8_straightens_11 : decode cX8_straightens 11 = .ok (.if_icmp .ge 30, 3) := by decide +kernel
theorem dX8_straightens_14 : decode cX8_straightens 14 = .ok (.aload_n 0, 1) := by decide +kernel
theorem dX8_straightens_15 : decode cX8_straightens 15 = .ok (.getfield 13, 3) := by decide +kernel
theorem dX8_straightens_18 : decode cX8_straightens 18 = .ok (.iload_n 1, 1) := by decide +kernel
theorem dX8_straightens_19 : decode cX8_straightens 19 = .ok (.iload_n 2, 1) := by decide +kernel
theorem dX8_straightens_20 : decode cX8_straightens 20 = .ok (.iadd, 1) := by decide +kernel
theorem dX8_straightens_21 : decode cX8_straightens 21 = .ok (.aload_n 0, 1) := by decide +kernel
theorem dX8_straightens_22 : decode cX8_straightens 22 = .ok (.getfield 13, 3) := by decide +kernel
theorem dX8_straightens_25 : decode cX8_straightens 25 = .ok (.iload_n 1, 1) := by decide +kernel
theorem dX8_straightens_26 : decode cX8_straightens 26 = .ok (.iload_n 2, 1) := by decide +kernel
theorem dX8_straightens_27 : decode cX8_straightens 27 = .ok (.iadd, 1) := by decide +kernel
theorem dX8_straightens_28 : decode cX8_straightens 28 = .ok (.iaload, 1) := by decide +kernel
theorem dX8_straightens_29 : decode cX8_straightens 29 = .ok (.bipush 30, 2) := by decide +kernel
theorem dX8_straightens_31 : decode cX8_straightens 31 = .ok (.invokestatic 148, 3) := by decide +kernel
theorem dX8_straightens_34 : decode cX8_straightens 34 = .ok (.iastore, 1) := by decide +kernel
theorem dX8_straightens_35 : decode cX8_straightens 35 = .ok (.iinc 2 1, 3) := by decide +kernel
theorem dX8_straightens_38 : decode cX8_straightens 38 = .ok (.goto (-36), 3) := by decide +kernel
theorem dX8_straightens_41 : decode cX8_straightens 41 = .ok (.return_, 1) := by decide +kernel
theorem dX8_passes_0 : decode cX8_passes 0 = .ok (.aload_n 0, 1) := by decide +kernel
theorem dX8_passes_1 : decode cX8_passes 1 = .ok (.getfield 13, 3) := by decide +kernel
theorem dX8_passes_4 : decode cX8_passes 4 = .ok (.iload_n 1, 1) := by decide +kernel
theorem dX8_passes_5 : decode cX8_passes 5 = .ok (.bipush 16, 2) := by decide +kernel
theorem dX8_passes_7 : decode cX8_passes 7 = .ok (.iadd, 1) := by decide +kernel
theorem dX8_passes_8 : decode cX8_passes 8 = .ok (.iaload, 1) := by decide +kernel
theorem dX8_passes_9 : decode cX8_passes 9 = .ok (.bipush 10, 2) := by decide +kernel
theorem dX8_passes_11 : decode cX8_passes 11 = .ok (.irem, 1) := by decide +kernel
theorem dX8_passes_12 : decode cX8_passes 12 = .ok (.istore_n 3, 1) := by decide +kernel
theorem dX8_passes_13 : decode cX8_passes 13 = .ok (.aload_n 0, 1) := by decide +kernel
theorem dX8_passes_14 : decode cX8_passes 14 = .ok (.getfield 13, 3) := by decide +kernel
theorem dX8_passes_17 : decode cX8_passes 17 = .ok (.iload_n 1, 1) := by decide +kernel
theorem dX8_passes_18 : decode cX8_passes 18 = .ok (.bipush 18, 2) := by decide +kernel
theorem dX8_passes_20 : decode cX8_passes 20 = .ok (.iadd, 1) := by decide +kernel
theorem dX8_passes_21 : decode cX8_passes 21 = .ok (.iaload, 1) := by decide +kernel
theorem dX8_passes_22 : decode cX8_passes 22 = .ok (.iconst 1, 1) := by decide +kernel
theorem dX8_passes_23 : decode cX8_passes 23 = .ok (.if_icmp .ne 7, 3) := by decide +kernel
theorem dX8_passes_26 : decode cX8_passes 26 = .ok (.iconst 1, 1) := by decide +kernel
theorem dX8_passes_27 : decode cX8_passes 27 = .ok (.goto 4, 3) := by decide +kernel
theorem dX8_passes_30 : decode cX8_passes 30 = .ok (.iconst 0, 1) := by decide +kernel
theorem dX8_passes_31 : decode cX8_passes 31 = .ok (.istore 4, 2) := by decide +kernel
theorem dX8_passes_33 : decode cX8_passes 33 = .ok (.iconst 0, 1) := by decide +kernel
theorem dX8_passes_34 : decode cX8_passes 34 = .ok (.istore 5, 2) := by decide +kernel
theorem dX8_passes_36 : decode cX8_passes 36 = .ok (.iload 5, 2) := by decide +kernel
theorem dX8_passes_38 : decode cX8_passes 38 = .ok (.aload_n 0, 1) := by decide +kernel
theorem dX8_passes_39 : decode cX8_passes 39 = .ok (.getfield 7, 3) := by decide +kernel
theorem dX8_passes_42 : decode cX8_passes 42 = .ok (.iconst 3, 1) := by decide +kernel
theorem dX8_passes_43 : decode cX8_passes 43 = .ok (.iaload, 1) := by decide +kernel
theorem dX8_passes_44 : decode cX8_passes 44 = .ok (.if_icmp .ge 56, 3) := by decide +kernel
theorem dX8_passes_47 : decode cX8_passes 47 = .ok (.aload_n 0, 1) := by decide +kernel
theorem dX8_passes_48 : decode cX8_passes 48 = .ok (.getfield 7, 3) := by decide +kernel
theorem dX8_passes_51 : decode cX8_passes 51 = .ok (.bipush 41, 2) := by decide +kernel
theorem dX8_passes_53 : decode cX8_passes 53 = .ok (.iload 5, 2) := by decide +kernel
theorem dX8_passes_55 : decode cX8_passes 55 = .ok (.iadd, 1) := by decide +kernel
theorem dX8_passes_56 : decode cX8_passes 56 = .ok (.iaload, 1) := by decide +kernel
theorem dX8_passes_57 : decode cX8_passes 57 = .ok (.iload_n 3, 1) := by decide +kernel
theorem dX8_passes_58 : decode cX8_passes 58 = .ok (.if_icmp .ne 36, 3) := by decide +kernel
theorem dX8_passes_61 : decode cX8_passes 61 = .ok (.iconst 1, 1) := by decide +kernel
theorem dX8_passes_62 : decode cX8_passes 62 = .ok (.istore 4, 2) := by decide +kernel
theorem dX8_passes_64 : decode cX8_passes 64 = .ok (.iload_n 2, 1) := by decide +kernel
theorem dX8_passes_65 : decode cX8_passes 65 = .ok (.ifCond .ne 29, 3) := by decide +kernel
theorem dX8_passes_68 : decode cX8_passes 68 = .ok (.aload_n 0, 1) := by decide +kernel
theorem dX8_passes_69 : decode cX8_passes 69 = .ok (.iload_n 1, 1) := by decide +kernel
theorem dX8_passes_70 : decode cX8_passes 70 = .ok (.aload_n 0, 1) := by decide +kernel
theorem dX8_passes_71 : decode cX8_passes 71 = .ok (.getfield 7, 3) := by decide +kernel
theorem dX8_passes_74 : decode cX8_passes 74 = .ok (.bipush 49, 2) := by decide +kernel
theorem dX8_passes_76 : decode cX8_passes 76 = .ok (.iload 5, 2) := by decide +kernel
theorem dX8_passes_78 : decode cX8_passes 78 = .ok (.iadd, 1) := by decide +kernel
theorem dX8_passes_79 : decode cX8_passes 79 = .ok (.iaload, 1) := by decide +kernel
theorem dX8_passes_80 : decode cX8_passes 80 = .ok (.aload_n 0, 1) := by decide +kernel
theorem dX8_passes_81 : decode cX8_passes 81 = .ok (.getfield 7, 3) := by decide +kernel
theorem dX8_passes_84 : decode cX8_passes 84 = .ok (.bipush 57, 2) := by decide +kernel
theorem dX8_passes_86 : decode cX8_passes 86 = .ok (.iload 5, 2) := by decide +kernel
theorem dX8_passes_88 : decode cX8_passes 88 = .ok (.iadd, 1) := by decide +kernel
theorem dX8_passes_89 : decode cX8_passes 89 = .ok (.iaload, 1) := by decide +kernel
theorem dX8_passes_90 : decode cX8_passes 90 = .ok (.invokevirtual 162, 3) := by decide +kernel
theorem dX8_passes_93 : decode cX8_passes 93 = .ok (.pop, 1) := by decide +kernel
theorem dX8_passes_94 : decode cX8_passes 94 = .ok (.iinc 5 1, 3) := by decide +kernel
theorem dX8_passes_97 : decode cX8_passes 97 = .ok (.goto (-61), 3) := by decide +kernel
theorem dX8_passes_100 : decode cX8_passes 100 = .ok (.iload 4, 2) := by decide +kernel
theorem dX8_passes_102 : decode cX8_passes 102 = .ok (.ifCond .ne 8, 3) := by decide +kernel
theorem dX8_passes_105 : decode cX8_passes 105 = .ok (.aload_n 0, 1) := by decide +kernel
theorem dX8_passes_106 : decode cX8_passes 106 = .ok (.iload_n 1, 1) := by decide +kernel
theorem dX8_passes_107 : decode cX8_passes 107 = .ok (.invokevirtual 166, 3) := by decide +kernel
theorem dX8_passes_110 : decode cX8_passes 110 = .ok (.aload_n 0, 1) := by decide +kernel
theorem dX8_passes_111 : decode cX8_passes 111 = .ok (.getfield 13, 3) := by decide +kernel
theorem dX8_passes_114 : decode cX8_passes 114 = .ok (.iload_n 1, 1) := by decide +kernel
theorem dX8_passes_115 : decode cX8_passes 115 = .ok (.bipush 16, 2) := by decide +kernel
theorem dX8_passes_117 : decode cX8_passes 117 = .ok (.iadd, 1) := by decide +kernel
theorem dX8_passes_118 : decode cX8_passes 118 = .ok (.dup2, 1) := by decide +kernel
theorem dX8_passes_119 : decode cX8_passes 119 = .ok (.iaload, 1) := by decide +kernel
theorem dX8_passes_120 : decode cX8_passes 120 = .ok (.iconst 1, 1) := by decide +kernel
theorem dX8_passes_121 : decode cX8_passes 121 = .ok (.iadd, 1) := by decide +kernel
theorem dX8_passes_122 : decode cX8_passes 122 = .ok (.iastore, 1) := by decide +kernel
theorem dX8_passes_123 : decode cX8_passes 123 = .ok (.aload_n 0, 1) := by decide +kernel
theorem dX8_passes_124 : decode cX8_passes 124 = .ok (.getfield 13, 3) := by decide +kernel
theorem dX8_passes_127 : decode cX8_passes 127 = .ok (.iload_n 1, 1) := by decide +kernel
theorem dX8_passes_128 : decode cX8_passes 128 = .ok (.bipush 18, 2) := by decide +kernel
theorem dX8_passes_130 : decode cX8_passes 130 = .ok (.iadd, 1) := by decide +kernel
theorem dX8_passes_131 : decode cX8_passes 131 = .ok (.iconst 0, 1) := by decide +kernel
theorem dX8_passes_132 : decode cX8_passes 132 = .ok (.iastore, 1) := by decide +kernel
theorem dX8_passes_133 : decode cX8_passes 133 = .ok (.return_, 1) := by decide +kernel
theorem dX8_passesMany_0 : decode cX8_passesMany 0 = .ok (.iconst 0, 1) := by decide +kernel
theorem dX8_passesMany_1 : decode cX8_passesMany 1 = .ok (.istore_n 3, 1) := by decide +kernel
theorem dX8_passesMany_2 : decode cX8_passesMany 2 = .ok (.iload_n 3, 1) := by decide +kernel
theorem dX8_passesMany_3 : decode cX8_passesMany 3 = .ok (.iload_n 2, 1) := by decide +kernel
theorem dX8_passesMany_4 : decode cX8_passesMany 4 = .ok (.if_icmp .ge 27, 3) := by decide +kernel
theorem dX8_passesMany_7 : decode cX8_passesMany 7 = .ok (.aload_n 0, 1) := by decide +kernel
theorem dX8_passesMany_8 : decode cX8_passesMany 8 = .ok (.iload_n 1, 1) := by decide +kernel
theorem dX8_passesMany_9 : decode cX8_passesMany 9 = .ok (.aload_n 0, 1) := by decide +kernel
theorem dX8_passesMany_10 : decode cX8_passesMany 10 = .ok (.aload_n 0, 1) := by decide +kernel
theorem dX8_passesMany_11 : decode cX8_passesMany 11 = .ok (.getfield 13, 3) := by decide +kernel
theorem dX8_passesMany_14 : decode cX8_passesMany 14 = .ok (.iload_n 1, 1) := by decide +kernel
theorem dX8_passesMany_15 : decode cX8_passesMany 15 = .ok (.bipush 16, 2) := by decide +kernel
theorem dX8_passesMany_17 : decode cX8_passesMany 17 = .ok (.iadd, 1) := by decide +kernel
theorem dX8_passesMany_18 : decode cX8_passesMany 18 = .ok (.iaload, 1) := by decide +kernel
theorem dX8_passesMany_19 : decode cX8_passesMany 19 = .ok (.invokevirtual 145, 3) := by decide +kernel
theorem dX8_passesMany_22 : decode cX8_passesMany 22 = .ok (.invokevirtual 170, 3) := by decide +kernel
theorem dX8_passesMany_25 : decode cX8_passesMany 25 = .ok (.iinc 3 1, 3) := by decide +kernel
theorem dX8_passesMany_28 : decode cX8_passesMany 28 = .ok (.goto (-26), 3) := by decide +kernel
theorem dX8_passesMany_31 : decode cX8_passesMany 31 = .ok (.return_, 1) := by decide +kernel
theorem dX8_minds_0 : decode cX8_minds 0 = .ok (.aload_n 0, 1) := by decide +kernel
theorem dX8_minds_1 : decode cX8_minds 1 = .ok (.getfield 73, 3) := by decide +kernel
theorem dX8_minds_4 : decode cX8_minds 4 = .ok (.bipush 8, 2) := by decide +kernel
theorem dX8_minds_6 : decode cX8_minds 6 = .ok (.if_icmp .ne 49, 3) := by decide +kernel
theorem dX8_minds_9 : decode cX8_minds 9 = .ok (.iconst 0, 1) := by decide +kernel
theorem dX8_minds_10 : decode cX8_minds 10 = .ok (.istore_n 1, 1) := by decide +kernel
theorem dX8_minds_11 : decode cX8_minds 11 = .ok (.iload_n 1, 1) := by decide +kernel
theorem dX8_minds_12 : decode cX8_minds 12 = .ok (.sipush 133, 3) := by decide +kernel
theorem dX8_minds_15 : decode cX8_minds 15 = .ok (.if_icmp .ge 30, 3) := by decide +kernel
theorem dX8_minds_18 : decode cX8_minds 18 = .ok (.aload_n 0, 1) := by decide +kernel
theorem dX8_minds_19 : decode cX8_minds 19 = .ok (.getfield 13, 3) := by decide +kernel
theorem dX8_minds_22 : decode cX8_minds 22 = .ok (.bipush 57, 2) := by decide +kernel
theorem dX8_minds_24 : decode cX8_minds 24 = .ok (.iload_n 1, 1) := by decide +kernel
theorem dX8_minds_25 : decode cX8_minds 25 = .ok (.iadd, 1) := by decide +kernel
theorem dX8_minds_26 : decode cX8_minds 26 = .ok (.aload_n 0, 1) := by decide +kernel
theorem dX8_minds_27 : decode cX8_minds 27 = .ok (.getfield 13, 3) := by decide +kernel
theorem dX8_minds_30 : decode cX8_minds 30 = .ok (.bipush 57, 2) := by decide +kernel
theorem dX8_minds_32 : decode cX8_minds 32 = .ok (.iload_n 1, 1) := by decide +kernel
theorem dX8_minds_33 : decode cX8_minds 33 = .ok (.iadd, 1) := by decide +kernel
theorem dX8_minds_34 : decode cX8_minds 34 = .ok (.bipush 19, 2) := by decide +kernel
theorem dX8_minds_36 : decode cX8_minds 36 = .ok (.iadd, 1) := by decide +kernel
theorem dX8_minds_37 : decode cX8_minds 37 = .ok (.iaload, 1) := by decide +kernel
theorem dX8_minds_38 : decode cX8_minds 38 = .ok (.iastore, 1) := by decide +kernel
theorem dX8_minds_39 : decode cX8_minds 39 = .ok (.iinc 1 1, 3) := by decide +kernel
theorem dX8_minds_42 : decode cX8_minds 42 = .ok (.goto (-31), 3) := by decide +kernel
theorem dX8_minds_45 : decode cX8_minds 45 = .ok (.aload_n 0, 1) := by decide +kernel
theorem dX8_minds_46 : decode cX8_minds 46 = .ok (.dup, 1) := by decide +kernel
theorem dX8_minds_47 : decode cX8_minds 47 = .ok (.getfield 73, 3) := by decide +kernel
theorem dX8_minds_50 : decode cX8_minds 50 = .ok (.iconst 1, 1) := by decide +kernel
theorem dX8_minds_51 : decode cX8_minds 51 = .ok (.isub, 1) := by decide +kernel
theorem dX8_minds_52 : decode cX8_minds 52 = .ok (.putfield 73, 3) := by decide +kernel
theorem dX8_minds_55 : decode cX8_minds 55 = .ok (.aload_n 0, 1) := by decide +kernel
theorem dX8_minds_56 : decode cX8_minds 56 = .ok (.iconst 0, 1) := by decide +kernel
theorem dX8_minds_57 : decode cX8_minds 57 = .ok (.bipush 57, 2) := by decide +kernel
theorem dX8_minds_59 : decode cX8_minds 59 = .ok (.bipush 19, 2) := by decide +kernel
theorem dX8_minds_61 : decode cX8_minds 61 = .ok (.aload_n 0, 1) := by decide +kernel
theorem dX8_minds_62 : decode cX8_minds 62 = .ok (.getfield 73, 3) := by decide +kernel
theorem dX8_minds_65 : decode cX8_minds 65 = .ok (.imul, 1) := by decide +kernel
theorem dX8_minds_66 : decode cX8_minds 66 = .ok (.iadd, 1) := by decide +kernel
theorem dX8_minds_67 : decode cX8_minds 67 = .ok (.invokevirtual 174, 3) := by decide +kernel
theorem dX8_minds_70 : decode cX8_minds 70 = .ok (.aload_n 0, 1) := by decide +kernel
theorem dX8_minds_71 : decode cX8_minds 71 = .ok (.dup, 1) := by decide +kernel
theorem dX8_minds_72 : decode cX8_minds 72 = .ok (.getfield 73, 3) := by decide +kernel
theorem dX8_minds_75 : decode cX8_minds 75 = .ok (.iconst 1, 1) := by decide +kernel
theorem dX8_minds_76 : decode cX8_minds 76 = .ok (.iadd, 1) := by decide +kernel
theorem dX8_minds_77 : decode cX8_minds 77 = .ok (.putfield 73, 3) := by decide +kernel
theorem dX8_minds_80 : decode cX8_minds 80 = .ok (.return_, 1) := by decide +kernel
theorem dX8_pass_0 : decode cX8_pass 0 = .ok (.iload_n 1, 1) := by decide +kernel
theorem dX8_pass_1 : decode cX8_pass 1 = .ok (.i2l, 1) := by decide +kernel
theorem dX8_pass_2 : decode cX8_pass 2 = .ok (.lconst 1, 1) := by decide +kernel
theorem dX8_pass_3 : decode cX8_pass 3 = .ok (.ldc2_w 178, 3) := by decide +kernel
theorem dX8_pass_6 : decode cX8_pass 6 = .ok (.invokestatic 69, 3) := by decide +kernel
theorem dX8_pass_9 : decode cX8_pass 9 = .ok (.ifCond .ne 5, 3) := by decide +kernel
theorem dX8_pass_12 : decode cX8_pass 12 = .ok (.iconst (-1), 1) := by decide +kernel
theorem dX8_pass_13 : decode cX8_pass 13 = .ok (.ireturn, 1) := by decide +kernel
theorem dX8_pass_14 : decode cX8_pass 14 = .ok (.aload_n 0, 1) := by decide +kernel
theorem dX8_pass_15 : decode cX8_pass 15 = .ok (.invokevirtual 180, 3) := by decide +kernel
theorem dX8_pass_18 : decode cX8_pass 18 = .ok (.aload_n 0, 1) := by decide +kernel
theorem dX8_pass_19 : decode cX8_pass 19 = .ok (.iconst 0, 1) := by decide +kernel
theorem dX8_pass_20 : decode cX8_pass 20 = .ok (.iload_n 1, 1) := by decide +kernel
theorem dX8_pass_21 : decode cX8_pass 21 = .ok (.invokevirtual 183, 3) := by decide +kernel
theorem dX8_pass_24 : decode cX8_pass 24 = .ok (.aload_n 0, 1) := by decide +kernel
theorem dX8_pass_25 : decode cX8_pass 25 = .ok (.getfield 13, 3) := by decide +kernel
theorem dX8_pass_28 : decode cX8_pass 28 = .ok (.bipush 16, 2) := by decide +kernel
theorem dX8_pass_30 : decode cX8_pass 30 = .ok (.iaload, 1) := by decide +kernel
theorem dX8_pass_31 : decode cX8_pass 31 = .ok (.ireturn, 1) := by decide +kernel
theorem dX8_walk_0 : decode cX8_walk 0 = .ok (.aload_n 0, 1) := by decide +kernel
theorem dX8_walk_1 : decode cX8_walk 1 = .ok (.iload_n 1, 1) := by decide +kernel
theorem dX8_walk_2 : decode cX8_walk 2 = .ok (.invokevirtual 132, 3) := by decide +kernel
theorem dX8_walk_5 : decode cX8_walk 5 = .ok (.ifCond .eq 11, 3) := by decide +kernel
theorem dX8_walk_8 : decode cX8_walk 8 = .ok (.aload_n 0, 1) := by decide +kernel
theorem dX8_walk_9 : decode cX8_walk 9 = .ok (.iload_n 2, 1) := by decide +kernel
theorem dX8_walk_10 : decode cX8_walk 10 = .ok (.invokevirtual 135, 3) := by decide +kernel
theorem dX8_walk_13 : decode cX8_walk 13 = .ok (.ifCond .ne 5, 3) := by decide +kernel
theorem dX8_walk_16 : decode cX8_walk 16 = .ok (.iconst (-1), 1) := by decide +kernel
theorem dX8_walk_17 : decode cX8_walk 17 = .ok (.ireturn, 1) := by decide +kernel
theorem dX8_walk_18 : decode cX8_walk 18 = .ok (.aload_n 0, 1) := by decide +kernel
theorem dX8_walk_19 : decode cX8_walk 19 = .ok (.invokevirtual 180, 3) := by decide +kernel
theorem dX8_walk_22 : decode cX8_walk 22 = .ok (.aload_n 0, 1) := by decide +kernel
theorem dX8_walk_23 : decode cX8_walk 23 = .ok (.getfield 13, 3) := by decide +kernel
theorem dX8_walk_26 : decode cX8_walk 26 = .ok (.bipush 18, 2) := by decide +kernel
theorem dX8_walk_28 : decode cX8_walk 28 = .ok (.iconst 1, 1) := by decide +kernel
theorem dX8_walk_29 : decode cX8_walk 29 = .ok (.iastore, 1) := by decide +kernel
theorem dX8_walk_30 : decode cX8_walk 30 = .ok (.aload_n 0, 1) := by decide +kernel
theorem dX8_walk_31 : decode cX8_walk 31 = .ok (.aload_n 0, 1) := by decide +kernel
theorem dX8_walk_32 : decode cX8_walk 32 = .ok (.getfield 13, 3) := by decide +kernel
theorem dX8_walk_35 : decode cX8_walk 35 = .ok (.bipush 16, 2) := by decide +kernel
theorem dX8_walk_37 : decode cX8_walk 37 = .ok (.iaload, 1) := by decide +kernel
theorem dX8_walk_38 : decode cX8_walk 38 = .ok (.invokevirtual 145, 3) := by decide +kernel
theorem dX8_walk_41 : decode cX8_walk 41 = .ok (.ifCond .eq 7, 3) := by decide +kernel
theorem dX8_walk_44 : decode cX8_walk 44 = .ok (.iconst 0, 1) := by decide +kernel
theorem dX8_walk_45 : decode cX8_walk 45 = .ok (.goto 10, 3) := by decide +kernel
theorem dX8_walk_48 : decode cX8_walk 48 = .ok (.aload_n 0, 1) := by decide +kernel
theorem dX8_walk_49 : decode cX8_walk 49 = .ok (.iconst 0, 1) := by decide +kernel
theorem dX8_walk_50 : decode cX8_walk 50 = .ok (.iload_n 1, 1) := by decide +kernel
theorem dX8_walk_51 : decode cX8_walk 51 = .ok (.iload_n 2, 1) := by decide +kernel
theorem dX8_walk_52 : decode cX8_walk 52 = .ok (.invokevirtual 162, 3) := by decide +kernel
theorem dX8_walk_55 : decode cX8_walk 55 = .ok (.ireturn, 1) := by decide +kernel
theorem dX8_shut_0 : decode cX8_shut 0 = .ok (.aload_n 0, 1) := by decide +kernel
theorem dX8_shut_1 : decode cX8_shut 1 = .ok (.iload_n 1, 1) := by decide +kernel
theorem dX8_shut_2 : decode cX8_shut 2 = .ok (.invokevirtual 135, 3) := by decide +kernel
theorem dX8_shut_5 : decode cX8_shut 5 = .ok (.ifCond .ne 5, 3) := by decide +kernel
theorem dX8_shut_8 : decode cX8_shut 8 = .ok (.iconst (-1), 1) := by decide +kernel
theorem dX8_shut_9 : decode cX8_shut 9 = .ok (.ireturn, 1) := by decide +kernel
theorem dX8_shut_10 : decode cX8_shut 10 = .ok (.aload_n 0, 1) := by decide +kernel
theorem dX8_shut_11 : decode cX8_shut 11 = .ok (.getfield 13, 3) := by decide +kernel
theorem dX8_shut_14 : decode cX8_shut 14 = .ok (.bipush 17, 2) := by decide +kernel
theorem dX8_shut_16 : decode cX8_shut 16 = .ok (.iaload, 1) := by decide +kernel
theorem dX8_shut_17 : decode cX8_shut 17 = .ok (.iload_n 1, 1) := by decide +kernel
theorem dX8_shut_18 : decode cX8_shut 18 = .ok (.invokestatic 155, 3) := by decide +kernel
theorem dX8_shut_21 : decode cX8_shut 21 = .ok (.iload_n 2, 1) := by decide +kernel
theorem dX8_shut_22 : decode cX8_shut 22 = .ok (.if_icmp .ne 6, 3) := by decide +kernel
theorem dX8_shut_25 : decode cX8_shut 25 = .ok (.bipush (-2), 2) := by decide +kernel
theorem dX8_shut_27 : decode cX8_shut 27 = .ok (.ireturn, 1) := by decide +kernel
theorem dX8_shut_28 : decode cX8_shut 28 = .ok (.aload_n 0, 1) := by decide +kernel
theorem dX8_shut_29 : decode cX8_shut 29 = .ok (.invokevirtual 180, 3) := by decide +kernel
theorem dX8_shut_32 : decode cX8_shut 32 = .ok (.aload_n 0, 1) := by decide +kernel
theorem dX8_shut_33 : decode cX8_shut 33 = .ok (.getfield 13, 3) := by decide +kernel
theorem dX8_shut_36 : decode cX8_shut 36 = .ok (.bipush 17, 2) := by decide +kernel
theorem dX8_shut_38 : decode cX8_shut 38 = .ok (.dup2, 1) := by decide +kernel
theorem dX8_shut_39 : decode cX8_shut 39 = .ok (.iaload, 1) := by decide +kernel
theorem dX8_shut_40 : decode cX8_shut 40 = .ok (.iconst 1, 1) := by decide +kernel
theorem dX8_shut_41 : decode cX8_shut 41 = .ok (.iload_n 1, 1) := by decide +kernel
theorem dX8_shut_42 : decode cX8_shut 42 = .ok (.ishl, 1) := by decide +kernel
theorem dX8_shut_43 : decode cX8_shut 43 = .ok (.ixor, 1) := by decide +kernel
theorem dX8_shut_44 : decode cX8_shut 44 = .ok (.iastore, 1) := by decide +kernel
theorem dX8_shut_45 : decode cX8_shut 45 = .ok (.aload_n 0, 1) := by decide +kernel
theorem dX8_shut_46 : decode cX8_shut 46 = .ok (.getfield 13, 3) := by decide +kernel
theorem dX8_shut_49 : decode cX8_shut 49 = .ok (.bipush 17, 2) := by decide +kernel
theorem dX8_shut_51 : decode cX8_shut 51 = .ok (.iaload, 1) := by decide +kernel
theorem dX8_shut_52 : decode cX8_shut 52 = .ok (.invokestatic 186, 3) := by decide +kernel
theorem dX8_shut_55 : decode cX8_shut 55 = .ok (.ireturn, 1) := by decide +kernel
theorem dX8_undo_0 : decode cX8_undo 0 = .ok (.aload_n 0, 1) := by decide +kernel
theorem dX8_undo_1 : decode cX8_undo 1 = .ok (.getfield 73, 3) := by decide +kernel
theorem dX8_undo_4 : decode cX8_undo 4 = .ok (.ifCond .ne 6, 3) := by decide +kernel
theorem dX8_undo_7 : decode cX8_undo 7 = .ok (.bipush (-2), 2) := by decide +kernel
theorem dX8_undo_9 : decode cX8_undo 9 = .ok (.ireturn, 1) := by decide +kernel
theorem dX8_undo_10 : decode cX8_undo 10 = .ok (.aload_n 0, 1) := by decide +kernel
theorem dX8_undo_11 : decode cX8_undo 11 = .ok (.dup, 1) := by decide +kernel
theorem dX8_undo_12 : decode cX8_undo 12 = .ok (.getfield 73, 3) := by decide +kernel
theorem dX8_undo_15 : decode cX8_undo 15 = .ok (.iconst 1, 1) := by decide +kernel
theorem dX8_undo_16 : decode cX8_undo 16 = .ok (.isub, 1) := by decide +kernel
theorem dX8_undo_17 : decode cX8_undo 17 = .ok (.putfield 73, 3) := by decide +kernel
theorem dX8_undo_20 : decode cX8_undo 20 = .ok (.aload_n 0, 1) := by decide +kernel
theorem dX8_undo_21 : decode cX8_undo 21 = .ok (.bipush 57, 2) := by decide +kernel
theorem dX8_undo_23 : decode cX8_undo 23 = .ok (.bipush 19, 2) := by decide +kernel
theorem dX8_undo_25 : decode cX8_undo 25 = .ok (.aload_n 0, 1) := by decide +kernel
theorem dX8_undo_26 : decode cX8_undo 26 = .ok (.getfield 73, 3) := by decide +kernel
theorem dX8_undo_29 : decode cX8_undo 29 = .ok (.imul, 1) := by decide +kernel
theorem dX8_undo_30 : decode cX8_undo 30 = .ok (.iadd, 1) := by decide +kernel
theorem dX8_undo_31 : decode cX8_undo 31 = .ok (.iconst 0, 1) := by decide +kernel
theorem dX8_undo_32 : decode cX8_undo 32 = .ok (.invokevirtual 174, 3) := by decide +kernel
theorem dX8_undo_35 : decode cX8_undo 35 = .ok (.aload_n 0, 1) := by decide +kernel
theorem dX8_undo_36 : decode cX8_undo 36 = .ok (.getfield 73, 3) := by decide +kernel
theorem dX8_undo_39 : decode cX8_undo 39 = .ok (.ireturn, 1) := by decide +kernel
theorem dX8_lengthOf_0 : decode cX8_lengthOf 0 = .ok (.iconst 0, 1) := by decide +kernel
theorem dX8_lengthOf_1 : decode cX8_lengthOf 1 = .ok (.istore_n 2, 1) := by decide +kernel
theorem dX8_lengthOf_2 : decode cX8_lengthOf 2 = .ok (.iconst 1, 1) := by decide +kernel
theorem dX8_lengthOf_3 : decode cX8_lengthOf 3 = .ok (.istore_n 3, 1) := by decide +kernel
theorem dX8_lengthOf_4 : decode cX8_lengthOf 4 = .ok (.iload_n 3, 1) := by decide +kernel
theorem dX8_lengthOf_5 : decode cX8_lengthOf 5 = .ok (.aload_n 0, 1) := by decide +kernel
theorem dX8_lengthOf_6 : decode cX8_lengthOf 6 = .ok (.getfield 7, 3) := by decide +kernel
theorem dX8_lengthOf_9 : decode cX8_lengthOf 9 = .ok (.iconst 0, 1) := by decide +kernel
theorem dX8_lengthOf_10 : decode cX8_lengthOf 10 = .ok (.iaload, 1) := by decide +kernel
theorem dX8_lengthOf_11 : decode cX8_lengthOf 11 = .ok (.if_icmp .ge 36, 3) := by decide +kernel
theorem dX8_lengthOf_14 : decode cX8_lengthOf 14 = .ok (.iload_n 2, 1) := by decide +kernel
theorem dX8_lengthOf_15 : decode cX8_lengthOf 15 = .ok (.bipush 10, 2) := by decide +kernel
theorem dX8_lengthOf_17 : decode cX8_lengthOf 17 = .ok (.aload_n 0, 1) := by decide +kernel
theorem dX8_lengthOf_18 : decode cX8_lengthOf 18 = .ok (.getfield 13, 3) := by decide +kernel
theorem dX8_lengthOf_21 : decode cX8_lengthOf 21 = .ok (.iload_n 1, 1) := by decide +kernel
theorem dX8_lengthOf_22 : decode cX8_lengthOf 22 = .ok (.iload_n 3, 1) := by decide +kernel
theorem dX8_lengthOf_23 : decode cX8_lengthOf 23 = .ok (.iadd, 1) := by decide +kernel
theorem dX8_lengthOf_24 : decode cX8_lengthOf 24 = .ok (.iaload, 1) := by decide +kernel
theorem dX8_lengthOf_25 : decode cX8_lengthOf 25 = .ok (.aload_n 0, 1) := by decide +kernel
theorem dX8_lengthOf_26 : decode cX8_lengthOf 26 = .ok (.getfield 13, 3) := by decide +kernel
theorem dX8_lengthOf_29 : decode cX8_lengthOf 29 = .ok (.iload_n 1, 1) := by decide +kernel
theorem dX8_lengthOf_30 : decode cX8_lengthOf 30 = .ok (.iload_n 3, 1) := by decide +kernel
theorem dX8_lengthOf_31 : decode cX8_lengthOf 31 = .ok (.iadd, 1) := by decide +kernel
theorem dX8_lengthOf_32 : decode cX8_lengthOf 32 = .ok (.iconst 1, 1) := by decide +kernel
theorem dX8_lengthOf_33 : decode cX8_lengthOf 33 = .ok (.isub, 1) := by decide +kernel
theorem dX8_lengthOf_34 : decode cX8_lengthOf 34 = .ok (.iaload, 1) := by decide +kernel
theorem dX8_lengthOf_35 : decode cX8_lengthOf 35 = .ok (.invokestatic 152, 3) := by decide +kernel
theorem dX8_lengthOf_38 : decode cX8_lengthOf 38 = .ok (.iadd, 1) := by decide +kernel
theorem dX8_lengthOf_39 : decode cX8_lengthOf 39 = .ok (.iadd, 1) := by decide +kernel
theorem dX8_lengthOf_40 : decode cX8_lengthOf 40 = .ok (.istore_n 2, 1) := by decide +kernel
theorem dX8_lengthOf_41 : decode cX8_lengthOf 41 = .ok (.iinc 3 1, 3) := by decide +kernel
theorem dX8_lengthOf_44 : decode cX8_lengthOf 44 = .ok (.goto (-40), 3) := by decide +kernel
theorem dX8_lengthOf_47 : decode cX8_lengthOf 47 = .ok (.iload_n 2, 1) := by decide +kernel
theorem dX8_lengthOf_48 : decode cX8_lengthOf 48 = .ok (.ireturn, 1) := by decide +kernel
theorem dX8_length_0 : decode cX8_length 0 = .ok (.aload_n 0, 1) := by decide +kernel
theorem dX8_length_1 : decode cX8_length 1 = .ok (.iconst 0, 1) := by decide +kernel
theorem dX8_length_2 : decode cX8_length 2 = .ok (.invokevirtual 189, 3) := by decide +kernel
theorem dX8_length_5 : decode cX8_length 5 = .ok (.ireturn, 1) := by decide +kernel
theorem dX8_crooks_0 : decode cX8_crooks 0 = .ok (.iload_n 1, 1) := by decide +kernel
theorem dX8_crooks_1 : decode cX8_crooks 1 = .ok (.i2l, 1) := by decide +kernel
theorem dX8_crooks_2 : decode cX8_crooks 2 = .ok (.lconst 0, 1) := by decide +kernel
theorem dX8_crooks_3 : decode cX8_crooks 3 = .ok (.lconst 1, 1) := by decide +kernel
theorem dX8_crooks_4 : decode cX8_crooks 4 = .ok (.invokestatic 69, 3) := by decide +kernel
theorem dX8_crooks_7 : decode cX8_crooks 7 = .ok (.ifCond .ne 5, 3) := by decide +kernel
theorem dX8_crooks_10 : decode cX8_crooks 10 = .ok (.iconst (-1), 1) := by decide +kernel
theorem dX8_crooks_11 : decode cX8_crooks 11 = .ok (.ireturn, 1) := by decide +kernel
theorem dX8_crooks_12 : decode cX8_crooks 12 = .ok (.iconst 0, 1) := by decide +kernel
theorem dX8_crooks_13 : decode cX8_crooks 13 = .ok (.istore_n 2, 1) := by decide +kernel
theorem dX8_crooks_14 : decode cX8_crooks 14 = .ok (.iconst 0, 1) := by decide +kernel
theorem dX8_crooks_15 : decode cX8_crooks 15 = .ok (.istore_n 3, 1) := by decide +kernel
theorem dX8_crooks_16 : decode cX8_crooks 16 = .ok (.iconst 1, 1) := by decide +kernel
theorem dX8_crooks_17 : decode cX8_crooks 17 = .ok (.istore 4, 2) := by decide +kernel
theorem dX8_crooks_19 : decode cX8_crooks 19 = .ok (.iload 4, 2) := by decide +kernel
theorem dX8_crooks_21 : decode cX8_crooks 21 = .ok (.aload_n 0, 1) := by decide +kernel
theorem dX8_crooks_22 : decode cX8_crooks 22 = .ok (.getfield 7, 3) := by decide +kernel
theorem dX8_crooks_25 : decode cX8_crooks 25 = .ok (.iconst 0, 1) := by decide +kernel
theorem dX8_crooks_26 : decode cX8_crooks 26 = .ok (.iaload, 1) := by decide +kernel
theorem dX8_crooks_27 : decode cX8_crooks 27 = .ok (.if_icmp .ge 174, 3) := by decide +kernel
theorem dX8_crooks_30 : decode cX8_crooks 30 = .ok (.iload_n 3, 1) := by decide +kernel
theorem dX8_crooks_31 : decode cX8_crooks 31 = .ok (.aload_n 0, 1) := by decide +kernel
theorem dX8_crooks_32 : decode cX8_crooks 32 = .ok (.getfield 13, 3) := by decide +kernel
theorem dX8_crooks_35 : decode cX8_crooks 35 = .ok (.iload 4, 2) := by decide +kernel
theorem dX8_crooks_37 : decode cX8_crooks 37 = .ok (.iaload, 1) := by decide +kernel
theorem dX8_crooks_38 : decode cX8_crooks 38 = .ok (.aload_n 0, 1) := by decide +kernel
theorem dX8_crooks_39 : decode cX8_crooks 39 = .ok (.getfield 13, 3) := by decide +kernel
theorem dX8_crooks_42 : decode cX8_crooks 42 = .ok (.iload 4, 2) := by decide +kernel
theorem dX8_crooks_44 : decode cX8_crooks 44 = .ok (.iconst 1, 1) := by decide +kernel
theorem dX8_crooks_45 : decode cX8_crooks 45 = .ok (.isub, 1) := by decide +kernel
theorem dX8_crooks_46 : decode cX8_crooks 46 = .ok (.iaload, 1) := by decide +kernel
theorem dX8_crooks_47 : decode cX8_crooks 47 = .ok (.invokestatic 152, 3) := by decide +kernel
theorem dX8_crooks_50 : decode cX8_crooks 50 = .ok (.iconst 4, 1) := by decide +kernel
theorem dX8_crooks_51 : decode cX8_crooks 51 = .ok (.if_icmp .lt 7, 3) := by decide +kernel
theorem dX8_crooks_54 : decode cX8_crooks 54 = .ok (.iconst 1, 1) := by decide +kernel
theorem dX8_crooks_55 : decode cX8_crooks 55 = .ok (.goto 4, 3) := by decide +kernel
theorem dX8_crooks_58 : decode cX8_crooks 58 = .ok (.iconst 0, 1) := by decide +kernel
theorem dX8_crooks_59 : decode cX8_crooks 59 = .ok (.iadd, 1) := by decide +kernel
theorem dX8_crooks_60 : decode cX8_crooks 60 = .ok (.istore_n 3, 1) := by decide +kernel
theorem dX8_crooks_61 : decode cX8_crooks 61 = .ok (.iload 4, 2) := by decide +kernel
theorem dX8_crooks_63 : decode cX8_crooks 63 = .ok (.aload_n 0, 1) := by decide +kernel
theorem dX8_crooks_64 : decode cX8_crooks 64 = .ok (.getfield 7, 3) := by decide +kernel
theorem dX8_crooks_67 : decode cX8_crooks 67 = .ok (.iconst 0, 1) := by decide +kernel
theorem dX8_crooks_68 : decode cX8_crooks 68 = .ok (.iaload, 1) := by decide +kernel
theorem dX8_crooks_69 : decode cX8_crooks 69 = .ok (.iconst 1, 1) := by decide +kernel
theorem dX8_crooks_70 : decode cX8_crooks 70 = .ok (.isub, 1) := by decide +kernel
theorem dX8_crooks_71 : decode cX8_crooks 71 = .ok (.if_icmp .ge 45, 3) := by decide +kernel
theorem dX8_crooks_74 : decode cX8_crooks 74 = .ok (.aload_n 0, 1) := by decide +kernel
theorem dX8_crooks_75 : decode cX8_crooks 75 = .ok (.getfield 13, 3) := by decide +kernel
theorem dX8_crooks_78 : decode cX8_crooks 78 = .ok (.iload 4, 2) := by decide +kernel
theorem dX8_crooks_80 : decode cX8_crooks 80 = .ok (.iaload, 1) := by decide +kernel
theorem dX8_crooks_81 : decode cX8_crooks 81 = .ok (.aload_n 0, 1) := by decide +kernel
theorem dX8_crooks_82 : decode cX8_crooks 82 = .ok (.getfield 13, 3) := by decide +kernel
theorem dX8_crooks_85 : decode cX8_crooks 85 = .ok (.iload 4, 2) := by decide +kernel
theorem dX8_crooks_87 : decode cX8_crooks 87 = .ok (.iconst 1, 1) := by decide +kernel
theorem dX8_crooks_88 : decode cX8_crooks 88 = .ok (.isub, 1) := by decide +kernel
theorem dX8_crooks_89 : decode cX8_crooks 89 = .ok (.iaload, 1) := by decide +kernel
theorem dX8_crooks_90 : decode cX8_crooks 90 = .ok (.if_icmp .le 26, 3) := by decide +kernel
theorem dX8_crooks_93 : decode cX8_crooks 93 = .ok (.aload_n 0, 1) := by decide +kernel
theorem dX8_crooks_94 : decode cX8_crooks 94 = .ok (.getfield 13, 3) := by decide +kernel
theorem dX8_crooks_97 : decode cX8_crooks 97 = .ok (.iload 4, 2) := by decide +kernel
theorem dX8_crooks_99 : decode cX8_crooks 99 = .ok (.iaload, 1) := by decide +kernel
theorem dX8_crooks_100 : decode cX8_crooks 100 = .ok (.aload_n 0, 1) := by decide +kernel
theorem dX8_crooks_101 : decode cX8_crooks 101 = .ok (.getfield 13, 3) := by decide +kernel
theorem dX8_crooks_104 : decode cX8_crooks 104 = .ok (.iload 4, 2) := by decide +kernel
theorem dX8_crooks_106 : decode cX8_crooks 106 = .ok (.iconst 1, 1) := by decide +kernel
theorem dX8_crooks_107 : decode cX8_crooks 107 = .ok (.iadd, 1) := by decide +kernel
theorem dX8_crooks_108 : decode cX8_crooks 108 = .ok (.iaload, 1) := by decide +kernel
theorem dX8_crooks_109 : decode cX8_crooks 109 = .ok (.if_icmp .le 7, 3) := by decide +kernel
theorem dX8_crooks_112 : decode cX8_crooks 112 = .ok (.iconst 1, 1) := by decide +kernel
theorem dX8_crooks_113 : decode cX8_crooks 113 = .ok (.goto 4, 3) := by decide +kernel
theorem dX8_crooks_116 : decode cX8_crooks 116 = .ok (.iconst 0, 1) := by decide +kernel
theorem dX8_crooks_117 : decode cX8_crooks 117 = .ok (.istore 5, 2) := by decide +kernel
theorem dX8_crooks_119 : decode cX8_crooks 119 = .ok (.iload 4, 2) := by decide +kernel
theorem dX8_crooks_121 : decode cX8_crooks 121 = .ok (.aload_n 0, 1) := by decide +kernel
theorem dX8_crooks_122 : decode cX8_crooks 122 = .ok (.getfield 7, 3) := by decide +kernel
theorem dX8_crooks_125 : decode cX8_crooks 125 = .ok (.iconst 0, 1) := by decide +kernel
theorem dX8_crooks_126 : decode cX8_crooks 126 = .ok (.iaload, 1) := by decide +kernel
theorem dX8_crooks_127 : decode cX8_crooks 127 = .ok (.iconst 1, 1) := by decide +kernel
theorem dX8_crooks_128 : decode cX8_crooks 128 = .ok (.isub, 1) := by decide +kernel
theorem dX8_crooks_129 : decode cX8_crooks 129 = .ok (.if_icmp .ge 45, 3) := by decide +kernel
theorem dX8_crooks_132 : decode cX8_crooks 132 = .ok (.aload_n 0, 1) := by decide +kernel
theorem dX8_crooks_133 : decode cX8_crooks 133 = .ok (.getfield 13, 3) := by decide +kernel
theorem dX8_crooks_136 : decode cX8_crooks 136 = .ok (.iload 4, 2) := by decide +kernel
theorem dX8_crooks_138 : decode cX8_crooks 138 = .ok (.iaload, 1) := by decide +kernel
theorem dX8_crooks_139 : decode cX8_crooks 139 = .ok (.aload_n 0, 1) := by decide +kernel
theorem dX8_crooks_140 : decode cX8_crooks 140 = .ok (.getfield 13, 3) := by decide +kernel
theorem dX8_crooks_143 : decode cX8_crooks 143 = .ok (.iload 4, 2) := by decide +kernel
theorem dX8_crooks_145 : decode cX8_crooks 145 = .ok (.iconst 1, 1) := by decide +kernel
theorem dX8_crooks_146 : decode cX8_crooks 146 = .ok (.isub, 1) := by decide +kernel
theorem dX8_crooks_147 : decode cX8_crooks 147 = .ok (.iaload, 1) := by decide +kernel
theorem dX8_crooks_148 : decode cX8_crooks 148 = .ok (.if_icmp .ge 26, 3) := by decide +kernel
theorem dX8_crooks_151 : decode cX8_crooks 151 = .ok (.aload_n 0, 1) := by decide +kernel
theorem dX8_crooks_152 : decode cX8_crooks 152 = .ok (.getfield 13, 3) := by decide +kernel
theorem dX8_crooks_155 : decode cX8_crooks 155 = .ok (.iload 4, 2) := by decide +kernel
theorem dX8_crooks_157 : decode cX8_crooks 157 = .ok (.iaload, 1) := by decide +kernel
theorem dX8_crooks_158 : decode cX8_crooks 158 = .ok (.aload_n 0, 1) := by decide +kernel
theorem dX8_crooks_159 : decode cX8_crooks 159 = .ok (.getfield 13, 3) := by decide +kernel
theorem dX8_crooks_162 : decode cX8_crooks 162 = .ok (.iload 4, 2) := by decide +kernel
theorem dX8_crooks_164 : decode cX8_crooks 164 = .ok (.iconst 1, 1) := by decide +kernel
theorem dX8_crooks_165 : decode cX8_crooks 165 = .ok (.iadd, 1) := by decide +kernel
theorem dX8_crooks_166 : decode cX8_crooks 166 = .ok (.iaload, 1) := by decide +kernel
theorem dX8_crooks_167 : decode cX8_crooks 167 = .ok (.if_icmp .ge 7, 3) := by decide +kernel
theorem dX8_crooks_170 : decode cX8_crooks 170 = .ok (.iconst 1, 1) := by decide +kernel
theorem dX8_crooks_171 : decode cX8_crooks 171 = .ok (.goto 4, 3) := by decide +kernel
theorem dX8_crooks_174 : decode cX8_crooks 174 = .ok (.iconst 0, 1) := by decide +kernel
theorem dX8_crooks_175 : decode cX8_crooks 175 = .ok (.istore 6, 2) := by decide +kernel
theorem dX8_crooks_177 : decode cX8_crooks 177 = .ok (.iload_n 2, 1) := by decide +kernel
theorem dX8_crooks_178 : decode cX8_crooks 178 = .ok (.iload 5, 2) := by decide +kernel
theorem dX8_crooks_180 : decode cX8_crooks 180 = .ok (.ifCond .ne 8, 3) := by decide +kernel
theorem dX8_crooks_183 : decode cX8_crooks 183 = .ok (.iload 6, 2) := by decide +kernel
theorem dX8_crooks_185 : decode cX8_crooks 185 = .ok (.ifCond .eq 7, 3) := by decide +kernel
theorem dX8_crooks_188 : decode cX8_crooks 188 = .ok (.iconst 1, 1) := by decide +kernel
theorem dX8_crooks_189 : decode cX8_crooks 189 = .ok (.goto 4, 3) := by decide +kernel
theorem dX8_crooks_192 : decode cX8_crooks 192 = .ok (.iconst 0, 1) := by decide +kernel
theorem dX8_crooks_193 : decode cX8_crooks 193 = .ok (.iadd, 1) := by decide +kernel
theorem dX8_crooks_194 : decode cX8_crooks 194 = .ok (.istore_n 2, 1) := by decide +kernel
theorem dX8_crooks_195 : decode cX8_crooks 195 = .ok (.iinc 4 1, 3) := by decide +kernel
theorem dX8_crooks_198 : decode cX8_crooks 198 = .ok (.goto (-179), 3) := by decide +kernel
theorem dX8_crooks_201 : decode cX8_crooks 201 = .ok (.iload_n 1, 1) := by decide +kernel
theorem dX8_crooks_202 : decode cX8_crooks 202 = .ok (.ifCond .ne 7, 3) := by decide +kernel
theorem dX8_crooks_205 : decode cX8_crooks 205 = .ok (.iload_n 2, 1) := by decide +kernel
theorem dX8_crooks_206 : decode cX8_crooks 206 = .ok (.goto 4, 3) := by decide +kernel
theorem dX8_crooks_209 : decode cX8_crooks 209 = .ok (.iload_n 3, 1) := by decide +kernel
theorem dX8_crooks_210 : decode cX8_crooks 210 = .ok (.ireturn, 1) := by decide +kernel
theorem dX8_milestone_0 : decode cX8_milestone 0 = .ok (.iload_n 1, 1) := by decide +kernel
theorem dX8_milestone_1 : decode cX8_milestone 1 = .ok (.i2l, 1) := by decide +kernel
theorem dX8_milestone_2 : decode cX8_milestone 2 = .ok (.lconst 1, 1) := by decide +kernel
theorem dX8_milestone_3 : decode cX8_milestone 3 = .ok (.ldc2_w 192, 3) := by decide +kernel
theorem dX8_milestone_6 : decode cX8_milestone 6 = .ok (.invokestatic 69, 3) := by decide +kernel
theorem dX8_milestone_9 : decode cX8_milestone 9 = .ok (.ifCond .ne 5, 3) := by decide +kernel
theorem dX8_milestone_12 : decode cX8_milestone 12 = .ok (.iconst (-1), 1) := by decide +kernel
theorem dX8_milestone_13 : decode cX8_milestone 13 = .ok (.ireturn, 1) := by decide +kernel
theorem dX8_milestone_14 : decode cX8_milestone 14 = .ok (.iconst 0, 1) := by decide +kernel
theorem dX8_milestone_15 : decode cX8_milestone 15 = .ok (.istore_n 2, 1) := by decide +kernel
theorem dX8_milestone_16 : decode cX8_milestone 16 = .ok (.iconst 0, 1) := by decide +kernel
theorem dX8_milestone_17 : decode cX8_milestone 17 = .ok (.istore_n 3, 1) := by decide +kernel
theorem dX8_milestone_18 : decode cX8_milestone 18 = .ok (.iconst 1, 1) := by decide +kernel
theorem dX8_milestone_19 : decode cX8_milestone 19 = .ok (.istore 4, 2) := by decide +kernel
theorem dX8_milestone_21 : decode cX8_milestone 21 = .ok (.iload 4, 2) := by decide +kernel
theorem dX8_milestone_23 : decode cX8_milestone 23 = .ok (.aload_n 0, 1) := by decide +kernel
theorem dX8_milestone_24 : decode cX8_milestone 24 = .ok (.getfield 7, 3) := by decide +kernel
theorem dX8_milestone_27 : decode cX8_milestone 27 = .ok (.iconst 0, 1) := by decide +kernel
theorem dX8_milestone_28 : decode cX8_milestone 28 = .ok (.iaload, 1) := by decide +kernel
theorem dX8_milestone_29 : decode cX8_milestone 29 = .ok (.if_icmp .ge 49, 3) := by decide +kernel
theorem dX8_milestone_32 : decode cX8_milestone 32 = .ok (.iload_n 2, 1) := by decide +kernel
theorem dX8_milestone_33 : decode cX8_milestone 33 = .ok (.bipush 10, 2) := by decide +kernel
theorem dX8_milestone_35 : decode cX8_milestone 35 = .ok (.aload_n 0, 1) := by decide +kernel
theorem dX8_milestone_36 : decode cX8_milestone 36 = .ok (.getfield 13, 3) := by decide +kernel
theorem dX8_milestone_39 : decode cX8_milestone 39 = .ok (.iload 4, 2) := by decide +kernel
theorem dX8_milestone_41 : decode cX8_milestone 41 = .ok (.iaload, 1) := by decide +kernel
theorem dX8_milestone_42 : decode cX8_milestone 42 = .ok (.aload_n 0, 1) := by decide +kernel
theorem dX8_milestone_43 : decode cX8_milestone 43 = .ok (.getfield 13, 3) := by decide +kernel
theorem dX8_milestone_46 : decode cX8_milestone 46 = .ok (.iload 4, 2) := by decide +kernel
theorem dX8_milestone_48 : decode cX8_milestone 48 = .ok (.iconst 1, 1) := by decide +kernel
theorem dX8_milestone_49 : decode cX8_milestone 49 = .ok (.isub, 1) := by decide +kernel
theorem dX8_milestone_50 : decode cX8_milestone 50 = .ok (.iaload, 1) := by decide +kernel
theorem dX8_milestone_51 : decode cX8_milestone 51 = .ok (.invokestatic 152, 3) := by decide +kernel
theorem dX8_milestone_54 : decode cX8_milestone 54 = .ok (.iadd, 1) := by decide +kernel
theorem dX8_milestone_55 : decode cX8_milestone 55 = .ok (.iadd, 1) := by decide +kernel
theorem dX8_milestone_56 : decode cX8_milestone 56 = .ok (.istore_n 2, 1) := by decide +kernel
theorem dX8_milestone_57 : decode cX8_milestone 57 = .ok (.iload_n 2, 1) := by decide +kernel
theorem dX8_milestone_58 : decode cX8_milestone 58 = .ok (.bipush 20, 2) := by decide +kernel
theorem dX8_milestone_60 : decode cX8_milestone 60 = .ok (.iload_n 1, 1) := by decide +kernel
theorem dX8_milestone_61 : decode cX8_milestone 61 = .ok (.imul, 1) := by decide +kernel
theorem dX8_milestone_62 : decode cX8_milestone 62 = .ok (.if_icmp .gt 8, 3) := by decide +kernel
theorem dX8_milestone_65 : decode cX8_milestone 65 = .ok (.iload 4, 2) := by decide +kernel
theorem dX8_milestone_67 : decode cX8_milestone 67 = .ok (.goto 4, 3) := by decide +kernel
theorem dX8_milestone_70 : decode cX8_milestone 70 = .ok (.iload_n 3, 1) := by decide +kernel
theorem dX8_milestone_71 : decode cX8_milestone 71 = .ok (.istore_n 3, 1) := by decide +kernel
theorem dX8_milestone_72 : decode cX8_milestone 72 = .ok (.iinc 4 1, 3) := by decide +kernel
theorem dX8_milestone_75 : decode cX8_milestone 75 = .ok (.goto (-54), 3) := by decide +kernel
theorem dX8_milestone_78 : decode cX8_milestone 78 = .ok (.iload_n 2, 1) := by decide +kernel
theorem dX8_milestone_79 : decode cX8_milestone 79 = .ok (.bipush 20, 2) := by decide +kernel
theorem dX8_milestone_81 : decode cX8_milestone 81 = .ok (.iload_n 1, 1) := by decide +kernel
theorem dX8_milestone_82 : decode cX8_milestone 82 = .ok (.imul, 1) := by decide +kernel
theorem dX8_milestone_83 : decode cX8_milestone 83 = .ok (.if_icmp .ge 8, 3) := by decide +kernel
theorem dX8_milestone_86 : decode cX8_milestone 86 = .ok (.bipush (-4), 2) := by decide +kernel
theorem dX8_milestone_88 : decode cX8_milestone 88 = .ok (.goto 4, 3) := by decide +kernel
theorem dX8_milestone_91 : decode cX8_milestone 91 = .ok (.iload_n 3, 1) := by decide +kernel
theorem dX8_milestone_92 : decode cX8_milestone 92 = .ok (.ireturn, 1) := by decide +kernel
theorem dX8_behind_0 : decode cX8_behind 0 = .ok (.iload_n 1, 1) := by decide +kernel
theorem dX8_behind_1 : decode cX8_behind 1 = .ok (.i2l, 1) := by decide +kernel
theorem dX8_behind_2 : decode cX8_behind 2 = .ok (.lconst 0, 1) := by decide +kernel
theorem dX8_behind_3 : decode cX8_behind 3 = .ok (.ldc2_w 194, 3) := by decide +kernel
theorem dX8_behind_6 : decode cX8_behind 6 = .ok (.invokestatic 69, 3) := by decide +kernel
theorem dX8_behind_9 : decode cX8_behind 9 = .ok (.ifCond .eq 16, 3) := by decide +kernel
theorem dX8_behind_12 : decode cX8_behind 12 = .ok (.iload_n 2, 1) := by decide +kernel
theorem dX8_behind_13 : decode cX8_behind 13 = .ok (.iconst (-1), 1) := by decide +kernel
theorem dX8_behind_14 : decode cX8_behind 14 = .ok (.if_icmp .eq 13, 3) := by decide +kernel
theorem dX8_behind_17 : decode cX8_behind 17 = .ok (.aload_n 0, 1) := by decide +kernel
theorem dX8_behind_18 : decode cX8_behind 18 = .ok (.iload_n 2, 1) := by decide +kernel
theorem dX8_behind_19 : decode cX8_behind 19 = .ok (.invokevirtual 129, 3) := by decide +kernel
theorem dX8_behind_22 : decode cX8_behind 22 = .ok (.ifCond .ne 5, 3) := by decide +kernel
theorem dX8_behind_25 : decode cX8_behind 25 = .ok (.iconst (-1), 1) := by decide +kernel
theorem dX8_behind_26 : decode cX8_behind 26 = .ok (.ireturn, 1) := by decide +kernel
theorem dX8_behind_27 : decode cX8_behind 27 = .ok (.aload_n 0, 1) := by decide +kernel
theorem dX8_behind_28 : decode cX8_behind 28 = .ok (.iconst 0, 1) := by decide +kernel
theorem dX8_behind_29 : decode cX8_behind 29 = .ok (.sipush 209, 3) := by decide +kernel
theorem dX8_behind_32 : decode cX8_behind 32 = .ok (.invokevirtual 174, 3) := by decide +kernel
theorem dX8_behind_35 : decode cX8_behind 35 = .ok (.aload_n 0, 1) := by decide +kernel
theorem dX8_behind_36 : decode cX8_behind 36 = .ok (.sipush 209, 3) := by decide +kernel
theorem dX8_behind_39 : decode cX8_behind 39 = .ok (.iload_n 1, 1) := by decide +kernel
theorem dX8_behind_40 : decode cX8_behind 40 = .ok (.invokevirtual 183, 3) := by decide +kernel
theorem dX8_behind_43 : decode cX8_behind 43 = .ok (.iload_n 2, 1) := by decide +kernel
theorem dX8_behind_44 : decode cX8_behind 44 = .ok (.iconst (-1), 1) := by decide +kernel
theorem dX8_behind_45 : decode cX8_behind 45 = .ok (.if_icmp .ne 13, 3) := by decide +kernel
theorem dX8_behind_48 : decode cX8_behind 48 = .ok (.aload_n 0, 1) := by decide +kernel
theorem dX8_behind_49 : decode cX8_behind 49 = .ok (.sipush 209, 3) := by decide +kernel
theorem dX8_behind_52 : decode cX8_behind 52 = .ok (.invokevirtual 189, 3) := by decide +kernel
theorem dX8_behind_55 : decode cX8_behind 55 = .ok (.goto 13, 3) := by decide +kernel
theorem dX8_behind_58 : decode cX8_behind 58 = .ok (.aload_n 0, 1) := by decide +kernel
theorem dX8_behind_59 : decode cX8_behind 59 = .ok (.getfield 13, 3) := by decide +kernel
theorem dX8_behind_62 : decode cX8_behind 62 = .ok (.sipush 209, 3) := by decide +kernel
theorem dX8_behind_65 : decode cX8_behind 65 = .ok (.iload_n 2, 1) := by decide +kernel
theorem dX8_behind_66 : decode cX8_behind 66 = .ok (.iadd, 1) := by decide +kernel
theorem dX8_behind_67 : decode cX8_behind 67 = .ok (.iaload, 1) := by decide +kernel
theorem dX8_behind_68 : decode cX8_behind 68 = .ok (.ireturn, 1) := by decide +kernel
theorem dX8_walksMany_0 : decode cX8_walksMany 0 = .ok (.aload_n 0, 1) := by decide +kernel
theorem dX8_walksMany_1 : decode cX8_walksMany 1 = .ok (.getfield 7, 3) := by decide +kernel
theorem dX8_walksMany_4 : decode cX8_walksMany 4 = .ok (.iconst 1, 1) := by decide +kernel
theorem dX8_walksMany_5 : decode cX8_walksMany 5 = .ok (.iaload, 1) := by decide +kernel
theorem dX8_walksMany_6 : decode cX8_walksMany 6 = .ok (.aload_n 0, 1) := by decide +kernel
theorem dX8_walksMany_7 : decode cX8_walksMany 7 = .ok (.getfield 7, 3) := by decide +kernel
theorem dX8_walksMany_10 : decode cX8_walksMany 10 = .ok (.iconst 2, 1) := by decide +kernel
theorem dX8_walksMany_11 : decode cX8_walksMany 11 = .ok (.iaload, 1) := by decide +kernel
theorem dX8_walksMany_12 : decode cX8_walksMany 12 = .ok (.imul, 1) := by decide +kernel
theorem dX8_walksMany_13 : decode cX8_walksMany 13 = .ok (.ireturn, 1) := by decide +kernel
theorem dX8_tries_0 : decode cX8_tries 0 = .ok (.aload_n 0, 1) := by decide +kernel
theorem dX8_tries_1 : decode cX8_tries 1 = .ok (.iload_n 1, 1) := by decide +kernel
theorem dX8_tries_2 : decode cX8_tries 2 = .ok (.iload_n 2, 1) := by decide +kernel
theorem dX8_tries_3 : decode cX8_tries 3 = .ok (.invokevirtual 174, 3) := by decide +kernel
theorem dX8_tries_6 : decode cX8_tries 6 = .ok (.aload_n 0, 1) := by decide +kernel
theorem dX8_tries_7 : decode cX8_tries 7 = .ok (.iload_n 2, 1) := by decide +kernel
theorem dX8_tries_8 : decode cX8_tries 8 = .ok (.iload_n 3, 1) := by decide +kernel
theorem dX8_tries_9 : decode cX8_tries 9 = .ok (.aload_n 0, 1) := by decide +kernel
theorem dX8_tries_10 : decode cX8_tries 10 = .ok (.getfield 7, 3) := by decide +kernel
theorem dX8_tries_13 : decode cX8_tries 13 = .ok (.iconst 2, 1) := by decide +kernel
theorem dX8_tries_14 : decode cX8_tries 14 = .ok (.iaload, 1) := by decide +kernel
theorem dX8_tries_15 : decode cX8_tries 15 = .ok (.idiv, 1) := by decide +kernel
theorem dX8_tries_16 : decode cX8_tries 16 = .ok (.iload_n 3, 1) := by decide +kernel
theorem dX8_tries_17 : decode cX8_tries 17 = .ok (.aload_n 0, 1) := by decide +kernel
theorem dX8_tries_18 : decode cX8_tries 18 = .ok (.getfield 7, 3) := by decide +kernel
theorem dX8_tries_21 : decode cX8_tries 21 = .ok (.iconst 2, 1) := by decide +kernel
theorem dX8_tries_22 : decode cX8_tries 22 = .ok (.iaload, 1) := by decide +kernel
theorem dX8_tries_23 : decode cX8_tries 23 = .ok (.irem, 1) := by decide +kernel
theorem dX8_tries_24 : decode cX8_tries 24 = .ok (.invokevirtual 162, 3) := by decide +kernel
theorem dX8_tries_27 : decode cX8_tries 27 = .ok (.pop, 1) := by decide +kernel
theorem dX8_tries_28 : decode cX8_tries 28 = .ok (.return_, 1) := by decide +kernel
theorem dX8_isSo_0 : decode cX8_isSo 0 = .ok (.iload_n 2, 1) := by decide +kernel
theorem dX8_isSo_1 : decode cX8_isSo 1 = .ok (.ifCond .ge 20, 3) := by decide +kernel
theorem dX8_isSo_4 : decode cX8_isSo 4 = .ok (.aload_n 0, 1) := by decide +kernel
theorem dX8_isSo_5 : decode cX8_isSo 5 = .ok (.iload_n 1, 1) := by decide +kernel
theorem dX8_isSo_6 : decode cX8_isSo 6 = .ok (.invokevirtual 189, 3) := by decide +kernel
theorem dX8_isSo_9 : decode cX8_isSo 9 = .ok (.iload_n 3, 1) := by decide +kernel
theorem dX8_isSo_10 : decode cX8_isSo 10 = .ok (.if_icmp .lt 7, 3) := by decide +kernel
theorem dX8_isSo_13 : decode cX8_isSo 13 = .ok (.iconst 1, 1) := by decide +kernel
theorem dX8_isSo_14 : decode cX8_isSo 14 = .ok (.goto 24, 3) := by decide +kernel
theorem dX8_isSo_17 : decode cX8_isSo 17 = .ok (.iconst 0, 1) := by decide +kernel
theorem dX8_isSo_18 : decode cX8_isSo 18 = .ok (.goto 20, 3) := by decide +kernel
theorem dX8_isSo_21 : decode cX8_isSo 21 = .ok (.aload_n 0, 1) := by decide +kernel
theorem dX8_isSo_22 : decode cX8_isSo 22 = .ok (.getfield 13, 3) := by decide +kernel
theorem dX8_isSo_25 : decode cX8_isSo 25 = .ok (.iload_n 1, 1) := by decide +kernel
theorem dX8_isSo_26 : decode cX8_isSo 26 = .ok (.iload_n 2, 1) := by decide +kernel
theorem dX8_isSo_27 : decode cX8_isSo 27 = .ok (.iadd, 1) := by decide +kernel
theorem dX8_isSo_28 : decode cX8_isSo 28 = .ok (.iaload, 1) := by decide +kernel
theorem dX8_isSo_29 : decode cX8_isSo 29 = .ok (.iload_n 3, 1) := by decide +kernel
theorem dX8_isSo_30 : decode cX8_isSo 30 = .ok (.if_icmp .ne 7, 3) := by decide +kernel
theorem dX8_isSo_33 : decode cX8_isSo 33 = .ok (.iconst 1, 1) := by decide +kernel
theorem dX8_isSo_34 : decode cX8_isSo 34 = .ok (.goto 4, 3) := by decide +kernel
theorem dX8_isSo_37 : decode cX8_isSo 37 = .ok (.iconst 0, 1) := by decide +kernel
theorem dX8_isSo_38 : decode cX8_isSo 38 = .ok (.ireturn, 1) := by decide +kernel
theorem dX8_fewest_0 : decode cX8_fewest 0 = .ok (.aload_n 0, 1) := by decide +kernel
theorem dX8_fewest_1 : decode cX8_fewest 1 = .ok (.iconst 0, 1) := by decide +kernel
theorem dX8_fewest_2 : decode cX8_fewest 2 = .ok (.iload_n 1, 1) := by decide +kernel
theorem dX8_fewest_3 : decode cX8_fewest 3 = .ok (.iload_n 2, 1) := by decide +kernel
theorem dX8_fewest_4 : decode cX8_fewest 4 = .ok (.invokevirtual 196, 3) := by decide +kernel
theorem dX8_fewest_7 : decode cX8_fewest 7 = .ok (.ifCond .eq 5, 3) := by decide +kernel
theorem dX8_fewest_10 : decode cX8_fewest 10 = .ok (.iconst 0, 1) := by decide +kernel
theorem dX8_fewest_11 : decode cX8_fewest 11 = .ok (.ireturn, 1) := by decide +kernel
theorem dX8_fewest_12 : decode cX8_fewest 12 = .ok (.aload_n 0, 1) := by decide +kernel
theorem dX8_fewest_13 : decode cX8_fewest 13 = .ok (.invokevirtual 199, 3) := by decide +kernel
theorem dX8_fewest_16 : decode cX8_fewest 16 = .ok (.istore_n 3, 1) := by decide +kernel
theorem dX8_fewest_17 : decode cX8_fewest 17 = .ok (.iconst 1, 1) := by decide +kernel
theorem dX8_fewest_18 : decode cX8_fewest 18 = .ok (.istore 4, 2) := by decide +kernel
theorem dX8_fewest_20 : decode cX8_fewest 20 = .ok (.iload 4, 2) := by decide +kernel
theorem dX8_fewest_22 : decode cX8_fewest 22 = .ok (.iconst 4, 1) := by decide +kernel
theorem dX8_fewest_23 : decode cX8_fewest 23 = .ok (.if_icmp .ge 234, 3) := by decide +kernel
theorem dX8_fewest_26 : decode cX8_fewest 26 = .ok (.iload 4, 2) := by decide +kernel
theorem dX8_fewest_28 : decode cX8_fewest 28 = .ok (.iconst 1, 1) := by decide +kernel
theorem dX8_fewest_29 : decode cX8_fewest 29 = .ok (.if_icmp .ne 7, 3) := by decide +kernel
theorem dX8_fewest_32 : decode cX8_fewest 32 = .ok (.iload_n 3, 1) := by decide +kernel
theorem dX8_fewest_33 : decode cX8_fewest 33 = .ok (.goto 20, 3) := by decide +kernel
theorem dX8_fewest_36 : decode cX8_fewest 36 = .ok (.iload 4, 2) := by decide +kernel
theorem dX8_fewest_38 : decode cX8_fewest 38 = .ok (.iconst 2, 1) := by decide +kernel
theorem dX8_fewest_39 : decode cX8_fewest 39 = .ok (.if_icmp .ne 9, 3) := by decide +kernel
theorem dX8_fewest_42 : decode cX8_fewest 42 = .ok (.iload_n 3, 1) := by decide +kernel
theorem dX8_fewest_43 : decode cX8_fewest 43 = .ok (.iload_n 3, 1) := by decide +kernel
theorem dX8_fewest_44 : decode cX8_fewest 44 = .ok (.imul, 1) := by decide +kernel
theorem dX8_fewest_45 : decode cX8_fewest 45 = .ok (.goto 8, 3) := by decide +kernel
theorem dX8_fewest_48 : decode cX8_fewest 48 = .ok (.iload_n 3, 1) := by decide +kernel
theorem dX8_fewest_49 : decode cX8_fewest 49 = .ok (.iload_n 3, 1) := by decide +kernel
theorem dX8_fewest_50 : decode cX8_fewest 50 = .ok (.imul, 1) := by decide +kernel
theorem dX8_fewest_51 : decode cX8_fewest 51 = .ok (.iload_n 3, 1) := by decide +kernel
theorem dX8_fewest_52 : decode cX8_fewest 52 = .ok (.imul, 1) := by decide +kernel
theorem dX8_fewest_53 : decode cX8_fewest 53 = .ok (.istore 5, 2) := by decide +kernel
theorem dX8_fewest_55 : decode cX8_fewest 55 = .ok (.iconst (-1), 1) := by decide +kernel
theorem dX8_fewest_56 : decode cX8_fewest 56 = .ok (.istore 6, 2) := by decide +kernel
theorem dX8_fewest_58 : decode cX8_fewest 58 = .ok (.iconst 0, 1) := by decide +kernel
theorem dX8_fewest_59 : decode cX8_fewest 59 = .ok (.istore 7, 2) := by decide +kernel
theorem dX8_fewest_61 : decode cX8_fewest 61 = .ok (.iload 7, 2) := by decide +kernel
theorem dX8_fewest_63 : decode cX8_fewest 63 = .ok (.iload 5, 2) := by decide +kernel
theorem dX8_fewest_65 : decode cX8_fewest 65 = .ok (.if_icmp .ge 186, 3) := by decide +kernel
theorem dX8_fewest_68 : decode cX8_fewest 68 = .ok (.iload 7, 2) := by decide +kernel
theorem dX8_fewest_70 : decode cX8_fewest 70 = .ok (.iload_n 3, 1) := by decide +kernel
theorem dX8_fewest_71 : decode cX8_fewest 71 = .ok (.irem, 1) := by decide +kernel
theorem dX8_fewest_72 : decode cX8_fewest 72 = .ok (.istore 8, 2) := by decide +kernel
theorem dX8_fewest_74 : decode cX8_fewest 74 = .ok (.iload 7, 2) := by decide +kernel
theorem dX8_fewest_76 : decode cX8_fewest 76 = .ok (.iload_n 3, 1) := by decide +kernel
theorem dX8_fewest_77 : decode cX8_fewest 77 = .ok (.idiv, 1) := by decide +kernel
theorem dX8_fewest_78 : decode cX8_fewest 78 = .ok (.iload_n 3, 1) := by decide +kernel
theorem dX8_fewest_79 : decode cX8_fewest 79 = .ok (.irem, 1) := by decide +kernel
theorem dX8_fewest_80 : decode cX8_fewest 80 = .ok (.istore 9, 2) := by decide +kernel
theorem dX8_fewest_82 : decode cX8_fewest 82 = .ok (.iload 4, 2) := by decide +kernel
theorem dX8_fewest_84 : decode cX8_fewest 84 = .ok (.iconst 3, 1) := by decide +kernel
theorem dX8_fewest_85 : decode cX8_fewest 85 = .ok (.if_icmp .ne 12, 3) := by decide +kernel
theorem dX8_fewest_88 : decode cX8_fewest 88 = .ok (.iload 7, 2) := by decide +kernel
theorem dX8_fewest_90 : decode cX8_fewest 90 = .ok (.iload_n 3, 1) := by decide +kernel
theorem dX8_fewest_91 : decode cX8_fewest 91 = .ok (.idiv, 1) := by decide +kernel
theorem dX8_fewest_92 : decode cX8_fewest 92 = .ok (.iload_n 3, 1) := by decide +kernel
theorem dX8_fewest_93 : decode cX8_fewest 93 = .ok (.idiv, 1) := by decide +kernel
theorem dX8_fewest_94 : decode cX8_fewest 94 = .ok (.goto 16, 3) := by decide +kernel
theorem dX8_fewest_97 : decode cX8_fewest 97 = .ok (.iload 4, 2) := by decide +kernel
theorem dX8_fewest_99 : decode cX8_fewest 99 = .ok (.iconst 2, 1) := by decide +kernel
theorem dX8_fewest_100 : decode cX8_fewest 100 = .ok (.if_icmp .ne 8, 3) := by decide +kernel
theorem dX8_fewest_103 : decode cX8_fewest 103 = .ok (.iload 9, 2) := by decide +kernel
theorem dX8_fewest_105 : decode cX8_fewest 105 = .ok (.goto 5, 3) := by decide +kernel
theorem dX8_fewest_108 : decode cX8_fewest 108 = .ok (.iload 8, 2) := by decide +kernel
theorem dX8_fewest_110 : decode cX8_fewest 110 = .ok (.istore 10, 2) := by decide +kernel
theorem dX8_fewest_112 : decode cX8_fewest 112 = .ok (.iload 7, 2) := by decide +kernel
theorem dX8_fewest_114 : decode cX8_fewest 114 = .ok (.iload_n 3, 1) := by decide +kernel
theorem dX8_fewest_115 : decode cX8_fewest 115 = .ok (.idiv, 1) := by decide +kernel
theorem dX8_fewest_116 : decode cX8_fewest 116 = .ok (.istore 11, 2) := by decide +kernel
theorem dX8_fewest_118 : decode cX8_fewest 118 = .ok (.iload 4, 2) := by decide +kernel
theorem dX8_fewest_120 : decode cX8_fewest 120 = .ok (.iconst 1, 1) := by decide +kernel
theorem dX8_fewest_121 : decode cX8_fewest 121 = .ok (.if_icmp .le 52, 3) := by decide +kernel
theorem dX8_fewest_124 : decode cX8_fewest 124 = .ok (.iload 11, 2) := by decide +kernel
theorem dX8_fewest_126 : decode cX8_fewest 126 = .ok (.iload 6, 2) := by decide +kernel
theorem dX8_fewest_128 : decode cX8_fewest 128 = .ok (.if_icmp .eq 45, 3) := by decide +kernel
theorem dX8_fewest_131 : decode cX8_fewest 131 = .ok (.aload_n 0, 1) := by decide +kernel
theorem dX8_fewest_132 : decode cX8_fewest 132 = .ok (.iconst 0, 1) := by decide +kernel
theorem dX8_fewest_133 : decode cX8_fewest 133 = .ok (.sipush 209, 3) := by decide +kernel
theorem dX8_fewest_136 : decode cX8_fewest 136 = .ok (.iload 10, 2) := by decide +kernel
theorem dX8_fewest_138 : decode cX8_fewest 138 = .ok (.invokevirtual 202, 3) := by decide +kernel
theorem dX8_fewest_141 : decode cX8_fewest 141 = .ok (.aload_n 0, 1) := by decide +kernel
theorem dX8_fewest_142 : decode cX8_fewest 142 = .ok (.sipush 209, 3) := by decide +kernel
theorem dX8_fewest_145 : decode cX8_fewest 145 = .ok (.sipush 228, 3) := by decide +kernel
theorem dX8_fewest_148 : decode cX8_fewest 148 = .ok (.invokevirtual 174, 3) := by decide +kernel
theorem dX8_fewest_151 : decode cX8_fewest 151 = .ok (.iload 4, 2) := by decide +kernel
theorem dX8_fewest_153 : decode cX8_fewest 153 = .ok (.iconst 3, 1) := by decide +kernel
theorem dX8_fewest_154 : decode cX8_fewest 154 = .ok (.if_icmp .ne 15, 3) := by decide +kernel
theorem dX8_fewest_157 : decode cX8_fewest 157 = .ok (.aload_n 0, 1) := by decide +kernel
theorem dX8_fewest_158 : decode cX8_fewest 158 = .ok (.sipush 209, 3) := by decide +kernel
theorem dX8_fewest_161 : decode cX8_fewest 161 = .ok (.sipush 228, 3) := by decide +kernel
theorem dX8_fewest_164 : decode cX8_fewest 164 = .ok (.iload 9, 2) := by decide +kernel
theorem dX8_fewest_166 : decode cX8_fewest 166 = .ok (.invokevirtual 202, 3) := by decide +kernel
theorem dX8_fewest_169 : decode cX8_fewest 169 = .ok (.iload 11, 2) := by decide +kernel
theorem dX8_fewest_171 : decode cX8_fewest 171 = .ok (.istore 6, 2) := by decide +kernel
theorem dX8_fewest_173 : decode cX8_fewest 173 = .ok (.aload_n 0, 1) := by decide +kernel
theorem dX8_fewest_174 : decode cX8_fewest 174 = .ok (.iload 4, 2) := by decide +kernel
theorem dX8_fewest_176 : decode cX8_fewest 176 = .ok (.iconst 1, 1) := by decide +kernel
theorem dX8_fewest_177 : decode cX8_fewest 177 = .ok (.if_icmp .ne 7, 3) := by decide +kernel
theorem dX8_fewest_180 : decode cX8_fewest 180 = .ok (.iconst 0, 1) := by decide +kernel
theorem dX8_fewest_181 : decode cX8_fewest 181 = .ok (.goto 6, 3) := by decide +kernel
theorem dX8_fewest_184 : decode cX8_fewest 184 = .ok (.sipush 228, 3) := by decide +kernel
theorem dX8_fewest_187 : decode cX8_fewest 187 = .ok (.sipush 247, 3) := by decide +kernel
theorem dX8_fewest_190 : decode cX8_fewest 190 = .ok (.iload 8, 2) := by decide +kernel
theorem dX8_fewest_192 : decode cX8_fewest 192 = .ok (.invokevirtual 202, 3) := by decide +kernel
theorem dX8_fewest_195 : decode cX8_fewest 195 = .ok (.aload_n 0, 1) := by decide +kernel
theorem dX8_fewest_196 : decode cX8_fewest 196 = .ok (.sipush 247, 3) := by decide +kernel
theorem dX8_fewest_199 : decode cX8_fewest 199 = .ok (.iload_n 1, 1) := by decide +kernel
theorem dX8_fewest_200 : decode cX8_fewest 200 = .ok (.iload_n 2, 1) := by decide +kernel
theorem dX8_fewest_201 : decode cX8_fewest 201 = .ok (.invokevirtual 196, 3) := by decide +kernel
theorem dX8_fewest_204 : decode cX8_fewest 204 = .ok (.ifCond .eq 41, 3) := by decide +kernel
theorem dX8_fewest_207 : decode cX8_fewest 207 = .ok (.aload_n 0, 1) := by decide +kernel
theorem dX8_fewest_208 : decode cX8_fewest 208 = .ok (.getfield 22, 3) := by decide +kernel
theorem dX8_fewest_211 : decode cX8_fewest 211 = .ok (.iconst 0, 1) := by decide +kernel
theorem dX8_fewest_212 : decode cX8_fewest 212 = .ok (.iload 10, 2) := by decide +kernel
theorem dX8_fewest_214 : decode cX8_fewest 214 = .ok (.iastore, 1) := by decide +kernel
theorem dX8_fewest_215 : decode cX8_fewest 215 = .ok (.aload_n 0, 1) := by decide +kernel
theorem dX8_fewest_216 : decode cX8_fewest 216 = .ok (.getfield 22, 3) := by decide +kernel
theorem dX8_fewest_219 : decode cX8_fewest 219 = .ok (.iconst 1, 1) := by decide +kernel
theorem dX8_fewest_220 : decode cX8_fewest 220 = .ok (.iload 4, 2) := by decide +kernel
theorem dX8_fewest_222 : decode cX8_fewest 222 = .ok (.iconst 3, 1) := by decide +kernel
theorem dX8_fewest_223 : decode cX8_fewest 223 = .ok (.if_icmp .ne 8, 3) := by decide +kernel
theorem dX8_fewest_226 : decode cX8_fewest 226 = .ok (.iload 9, 2) := by decide +kernel
theorem dX8_fewest_228 : decode cX8_fewest 228 = .ok (.goto 5, 3) := by decide +kernel
theorem dX8_fewest_231 : decode cX8_fewest 231 = .ok (.iload 8, 2) := by decide +kernel
theorem dX8_fewest_233 : decode cX8_fewest 233 = .ok (.iastore, 1) := by decide +kernel
theorem dX8_fewest_234 : decode cX8_fewest 234 = .ok (.aload_n 0, 1) := by decide +kernel
theorem dX8_fewest_235 : decode cX8_fewest 235 = .ok (.getfield 22, 3) := by decide +kernel
theorem dX8_fewest_238 : decode cX8_fewest 238 = .ok (.iconst 2, 1) := by decide +kernel
theorem dX8_fewest_239 : decode cX8_fewest 239 = .ok (.iload 8, 2) := by decide +kernel
theorem dX8_fewest_241 : decode cX8_fewest 241 = .ok (.iastore, 1) := by decide +kernel
theorem dX8_fewest_242 : decode cX8_fewest 242 = .ok (.iload 4, 2) := by decide +kernel
theorem dX8_fewest_244 : decode cX8_fewest 244 = .ok (.ireturn, 1) := by decide +kernel
theorem dX8_fewest_245 : decode cX8_fewest 245 = .ok (.iinc 7 1, 3) := by decide +kernel
theorem dX8_fewest_248 : decode cX8_fewest 248 = .ok (.goto (-187), 3) := by decide +kernel
theorem dX8_fewest_251 : decode cX8_fewest 251 = .ok (.iinc 4 1, 3) := by decide +kernel
theorem dX8_fewest_254 : decode cX8_fewest 254 = .ok (.goto (-234), 3) := by decide +kernel
theorem dX8_fewest_257 : decode cX8_fewest 257 = .ok (.bipush (-4), 2) := by decide +kernel
theorem dX8_fewest_259 : decode cX8_fewest 259 = .ok (.ireturn, 1) := by decide +kernel
theorem dX8_door_0 : decode cX8_door 0 = .ok (.aload_n 0, 1) := by decide +kernel
theorem dX8_door_1 : decode cX8_door 1 = .ok (.iload_n 1, 1) := by decide +kernel
theorem dX8_door_2 : decode cX8_door 2 = .ok (.invokevirtual 129, 3) := by decide +kernel
theorem dX8_door_5 : decode cX8_door 5 = .ok (.ifCond .eq 22, 3) := by decide +kernel
theorem dX8_door_8 : decode cX8_door 8 = .ok (.iload_n 2, 1) := by decide +kernel
theorem dX8_door_9 : decode cX8_door 9 = .ok (.invokestatic 206, 3) := by decide +kernel
theorem dX8_door_12 : decode cX8_door 12 = .ok (.ifCond .eq 15, 3) := by decide +kernel
theorem dX8_door_15 : decode cX8_door 15 = .ok (.iload_n 3, 1) := by decide +kernel
theorem dX8_door_16 : decode cX8_door 16 = .ok (.i2l, 1) := by decide +kernel
theorem dX8_door_17 : decode cX8_door 17 = .ok (.lconst 0, 1) := by decide +kernel
theorem dX8_door_18 : decode cX8_door 18 = .ok (.ldc2_w 209, 3) := by decide +kernel
theorem dX8_door_21 : decode cX8_door 21 = .ok (.invokestatic 69, 3) := by decide +kernel
theorem dX8_door_24 : decode cX8_door 24 = .ok (.ifCond .ne 5, 3) := by decide +kernel
theorem dX8_door_27 : decode cX8_door 27 = .ok (.iconst (-1), 1) := by decide +kernel
theorem dX8_door_28 : decode cX8_door 28 = .ok (.ireturn, 1) := by decide +kernel
theorem dX8_door_29 : decode cX8_door 29 = .ok (.aload_n 0, 1) := by decide +kernel
theorem dX8_door_30 : decode cX8_door 30 = .ok (.iload_n 1, 1) := by decide +kernel
theorem dX8_door_31 : decode cX8_door 31 = .ok (.iload_n 2, 1) := by decide +kernel
theorem dX8_door_32 : decode cX8_door 32 = .ok (.invokevirtual 211, 3) := by decide +kernel
theorem dX8_door_35 : decode cX8_door 35 = .ok (.istore 4, 2) := by decide +kernel
theorem dX8_door_37 : decode cX8_door 37 = .ok (.iload 4, 2) := by decide +kernel
theorem dX8_door_39 : decode cX8_door 39 = .ok (.bipush (-4), 2) := by decide +kernel
theorem dX8_door_41 : decode cX8_door 41 = .ok (.if_icmp .eq 7, 3) := by decide +kernel
theorem dX8_door_44 : decode cX8_door 44 = .ok (.iload_n 3, 1) := by decide +kernel
theorem dX8_door_45 : decode cX8_door 45 = .ok (.ifCond .ne 6, 3) := by decide +kernel
theorem dX8_door_48 : decode cX8_door 48 = .ok (.iload 4, 2) := by decide +kernel
theorem dX8_door_50 : decode cX8_door 50 = .ok (.ireturn, 1) := by decide +kernel
theorem dX8_door_51 : decode cX8_door 51 = .ok (.iload_n 3, 1) := by decide +kernel
theorem dX8_door_52 : decode cX8_door 52 = .ok (.iload 4, 2) := by decide +kernel
theorem dX8_door_54 : decode cX8_door 54 = .ok (.if_icmp .le 8, 3) := by decide +kernel
theorem dX8_door_57 : decode cX8_door 57 = .ok (.bipush (-4), 2) := by decide +kernel
theorem dX8_door_59 : decode cX8_door 59 = .ok (.goto 37, 3) := by decide +kernel
theorem dX8_door_62 : decode cX8_door 62 = .ok (.bipush 10, 2) := by decide +kernel
theorem dX8_door_64 : decode cX8_door 64 = .ok (.aload_n 0, 1) := by decide +kernel
theorem dX8_door_65 : decode cX8_door 65 = .ok (.getfield 22, 3) := by decide +kernel
theorem dX8_door_68 : decode cX8_door 68 = .ok (.iload_n 3, 1) := by decide +kernel
theorem dX8_door_69 : decode cX8_door 69 = .ok (.iconst 1, 1) := by decide +kernel
theorem dX8_door_70 : decode cX8_door 70 = .ok (.isub, 1) := by decide +kernel
theorem dX8_door_71 : decode cX8_door 71 = .ok (.iaload, 1) := by decide +kernel
theorem dX8_door_72 : decode cX8_door 72 = .ok (.aload_n 0, 1) := by decide +kernel
theorem dX8_door_73 : decode cX8_door 73 = .ok (.getfield 7, 3) := by decide +kernel
theorem dX8_door_76 : decode cX8_door 76 = .ok (.iconst 2, 1) := by decide +kernel
theorem dX8_door_77 : decode cX8_door 77 = .ok (.iaload, 1) := by decide +kernel
theorem dX8_door_78 : decode cX8_door 78 = .ok (.idiv, 1) := by decide +kernel
theorem dX8_door_79 : decode cX8_door 79 = .ok (.imul, 1) := by decide +kernel
theorem dX8_door_80 : decode cX8_door 80 = .ok (.aload_n 0, 1) := by decide +kernel
theorem dX8_door_81 : decode cX8_door 81 = .ok (.getfield 22, 3) := by decide +kernel
theorem dX8_door_84 : decode cX8_door 84 = .ok (.iload_n 3, 1) := by decide +kernel
theorem dX8_door_85 : decode cX8_door 85 = .ok (.iconst 1, 1) := by decide +kernel
theorem dX8_door_86 : decode cX8_door 86 = .ok (.isub, 1) := by decide +kernel
theorem dX8_door_87 : decode cX8_door 87 = .ok (.iaload, 1) := by decide +kernel
theorem dX8_door_88 : decode cX8_door 88 = .ok (.aload_n 0, 1) := by decide +kernel
theorem dX8_door_89 : decode cX8_door 89 = .ok (.getfield 7, 3) := by decide +kernel
theorem dX8_door_92 : decode cX8_door 92 = .ok (.iconst 2, 1) := by decide +kernel
theorem dX8_door_93 : decode cX8_door 93 = .ok (.iaload, 1) := by decide +kernel
theorem dX8_door_94 : decode cX8_door 94 = .ok (.irem, 1) := by decide +kernel
theorem dX8_door_95 : decode cX8_door 95 = .ok (.iadd, 1) := by decide +kernel
theorem dX8_door_96 : decode cX8_door 96 = .ok (.ireturn, 1) := by decide +kernel
theorem dX8_mile_0 : decode cX8_mile 0 = .ok (.iload_n 1, 1) := by decide +kernel
theorem dX8_mile_1 : decode cX8_mile 1 = .ok (.i2l, 1) := by decide +kernel
theorem dX8_mile_2 : decode cX8_mile 2 = .ok (.lconst 0, 1) := by decide +kernel
theorem dX8_mile_3 : decode cX8_mile 3 = .ok (.ldc2_w 214, 3) := by decide +kernel
theorem dX8_mile_6 : decode cX8_mile 6 = .ok (.invokestatic 69, 3) := by decide +kernel
theorem dX8_mile_9 : decode cX8_mile 9 = .ok (.ifCond .eq 12, 3) := by decide +kernel
theorem dX8_mile_12 : decode cX8_mile 12 = .ok (.aload_n 0, 1) := by decide +kernel
theorem dX8_mile_13 : decode cX8_mile 13 = .ok (.iconst (-1), 1) := by decide +kernel
theorem dX8_mile_14 : decode cX8_mile 14 = .ok (.iload_n 1, 1) := by decide +kernel
theorem dX8_mile_15 : decode cX8_mile 15 = .ok (.invokevirtual 211, 3) := by decide +kernel
theorem dX8_mile_18 : decode cX8_mile 18 = .ok (.goto 4, 3) := by decide +kernel
theorem dX8_mile_21 : decode cX8_mile 21 = .ok (.iconst (-1), 1) := by decide +kernel
theorem dX8_mile_22 : decode cX8_mile 22 = .ok (.ireturn, 1) := by decide +kernel
theorem dX8_window_0 : decode cX8_window 0 = .ok (.iload_n 1, 1) := by decide +kernel
theorem dX8_window_1 : decode cX8_window 1 = .ok (.i2l, 1) := by decide +kernel
theorem dX8_window_2 : decode cX8_window 2 = .ok (.lconst 1, 1) := by decide +kernel
theorem dX8_window_3 : decode cX8_window 3 = .ok (.ldc2_w 178, 3) := by decide +kernel
theorem dX8_window_6 : decode cX8_window 6 = .ok (.invokestatic 69, 3) := by decide +kernel
theorem dX8_window_9 : decode cX8_window 9 = .ok (.ifCond .eq 13, 3) := by decide +kernel
theorem dX8_window_12 : decode cX8_window 12 = .ok (.iload_n 2, 1) := by decide +kernel
theorem dX8_window_13 : decode cX8_window 13 = .ok (.i2l, 1) := by decide +kernel
theorem dX8_window_14 : decode cX8_window 14 = .ok (.lconst 0, 1) := by decide +kernel
theorem dX8_window_15 : decode cX8_window 15 = .ok (.lconst 1, 1) := by decide +kernel
theorem dX8_window_16 : decode cX8_window 16 = .ok (.invokestatic 69, 3) := by decide +kernel
theorem dX8_window_19 : decode cX8_window 19 = .ok (.ifCond .ne 5, 3) := by decide +kernel
theorem dX8_window_22 : decode cX8_window 22 = .ok (.iconst (-1), 1) := by decide +kernel
theorem dX8_window_23 : decode cX8_window 23 = .ok (.ireturn, 1) := by decide +kernel
theorem dX8_window_24 : decode cX8_window 24 = .ok (.aload_n 0, 1) := by decide +kernel
theorem dX8_window_25 : decode cX8_window 25 = .ok (.iconst 0, 1) := by decide +kernel
theorem dX8_window_26 : decode cX8_window 26 = .ok (.sipush 209, 3) := by decide +kernel
theorem dX8_window_29 : decode cX8_window 29 = .ok (.invokevirtual 174, 3) := by decide +kernel
theorem dX8_window_32 : decode cX8_window 32 = .ok (.aload_n 0, 1) := by decide +kernel
theorem dX8_window_33 : decode cX8_window 33 = .ok (.sipush 209, 3) := by decide +kernel
theorem dX8_window_36 : decode cX8_window 36 = .ok (.iload_n 1, 1) := by decide +kernel
theorem dX8_window_37 : decode cX8_window 37 = .ok (.invokevirtual 183, 3) := by decide +kernel
theorem dX8_window_40 : decode cX8_window 40 = .ok (.aload_n 0, 1) := by decide +kernel
theorem dX8_window_41 : decode cX8_window 41 = .ok (.sipush 209, 3) := by decide +kernel
theorem dX8_window_44 : decode cX8_window 44 = .ok (.invokevirtual 189, 3) := by decide +kernel
theorem dX8_window_47 : decode cX8_window 47 = .ok (.istore_n 3, 1) := by decide +kernel
theorem dX8_window_48 : decode cX8_window 48 = .ok (.bipush (-4), 2) := by decide +kernel
theorem dX8_window_50 : decode cX8_window 50 = .ok (.istore 4, 2) := by decide +kernel
theorem dX8_window_52 : decode cX8_window 52 = .ok (.iconst 0, 1) := by decide +kernel
theorem dX8_window_53 : decode cX8_window 53 = .ok (.istore 5, 2) := by decide +kernel
theorem dX8_window_55 : decode cX8_window 55 = .ok (.iload 5, 2) := by decide +kernel
theorem dX8_window_57 : decode cX8_window 57 = .ok (.aload_n 0, 1) := by decide +kernel
theorem dX8_window_58 : decode cX8_window 58 = .ok (.getfield 7, 3) := by decide +kernel
theorem dX8_window_61 : decode cX8_window 61 = .ok (.iconst 2, 1) := by decide +kernel
theorem dX8_window_62 : decode cX8_window 62 = .ok (.iaload, 1) := by decide +kernel
theorem dX8_window_63 : decode cX8_window 63 = .ok (.if_icmp .ge 104, 3) := by decide +kernel
theorem dX8_window_66 : decode cX8_window 66 = .ok (.aload_n 0, 1) := by decide +kernel
theorem dX8_window_67 : decode cX8_window 67 = .ok (.iconst 0, 1) := by decide +kernel
theorem dX8_window_68 : decode cX8_window 68 = .ok (.sipush 209, 3) := by decide +kernel
theorem dX8_window_71 : decode cX8_window 71 = .ok (.invokevirtual 174, 3) := by decide +kernel
theorem dX8_window_74 : decode cX8_window 74 = .ok (.aload_n 0, 1) := by decide +kernel
theorem dX8_window_75 : decode cX8_window 75 = .ok (.getfield 13, 3) := by decide +kernel
theorem dX8_window_78 : decode cX8_window 78 = .ok (.sipush 226, 3) := by decide +kernel
theorem dX8_window_81 : decode cX8_window 81 = .ok (.dup2, 1) := by decide +kernel
theorem dX8_window_82 : decode cX8_window 82 = .ok (.iaload, 1) := by decide +kernel
theorem dX8_window_83 : decode cX8_window 83 = .ok (.iconst 1, 1) := by decide +kernel
theorem dX8_window_84 : decode cX8_window 84 = .ok (.iload 5, 2) := by decide +kernel
theorem dX8_window_86 : decode cX8_window 86 = .ok (.ishl, 1) := by decide +kernel
theorem dX8_window_87 : decode cX8_window 87 = .ok (.ior, 1) := by decide +kernel
theorem dX8_window_88 : decode cX8_window 88 = .ok (.iastore, 1) := by decide +kernel
theorem dX8_window_89 : decode cX8_window 89 = .ok (.aload_n 0, 1) := by decide +kernel
theorem dX8_window_90 : decode cX8_window 90 = .ok (.sipush 209, 3) := by decide +kernel
theorem dX8_window_93 : decode cX8_window 93 = .ok (.iload_n 1, 1) := by decide +kernel
theorem dX8_window_94 : decode cX8_window 94 = .ok (.invokevirtual 183, 3) := by decide +kernel
theorem dX8_window_97 : decode cX8_window 97 = .ok (.aload_n 0, 1) := by decide +kernel
theorem dX8_window_98 : decode cX8_window 98 = .ok (.getfield 13, 3) := by decide +kernel
theorem dX8_window_101 : decode cX8_window 101 = .ok (.bipush 17, 2) := by decide +kernel
theorem dX8_window_103 : decode cX8_window 103 = .ok (.iaload, 1) := by decide +kernel
theorem dX8_window_104 : decode cX8_window 104 = .ok (.iload 5, 2) := by decide +kernel
theorem dX8_window_106 : decode cX8_window 106 = .ok (.invokestatic 155, 3) := by decide +kernel
theorem dX8_window_109 : decode cX8_window 109 = .ok (.ifCond .ne 18, 3) := by decide +kernel
theorem dX8_window_112 : decode cX8_window 112 = .ok (.aload_n 0, 1) := by decide +kernel
theorem dX8_window_113 : decode cX8_window 113 = .ok (.sipush 209, 3) := by decide +kernel
theorem dX8_window_116 : decode cX8_window 116 = .ok (.invokevirtual 189, 3) := by decide +kernel
theorem dX8_window_119 : decode cX8_window 119 = .ok (.iload_n 3, 1) := by decide +kernel
theorem dX8_window_120 : decode cX8_window 120 = .ok (.if_icmp .ge 7, 3) := by decide +kernel
theorem dX8_window_123 : decode cX8_window 123 = .ok (.iconst 1, 1) := by decide +kernel
theorem dX8_window_124 : decode cX8_window 124 = .ok (.goto 4, 3) := by decide +kernel
theorem dX8_window_127 : decode cX8_window 127 = .ok (.iconst 0, 1) := by decide +kernel
theorem dX8_window_128 : decode cX8_window 128 = .ok (.istore 6, 2) := by decide +kernel
theorem dX8_window_130 : decode cX8_window 130 = .ok (.iload 6, 2) := by decide +kernel
theorem dX8_window_132 : decode cX8_window 132 = .ok (.ifCond .eq 8, 3) := by decide +kernel
theorem dX8_window_135 : decode cX8_window 135 = .ok (.iload 5, 2) := by decide +kernel
theorem dX8_window_137 : decode cX8_window 137 = .ok (.goto 5, 3) := by decide +kernel
theorem dX8_window_140 : decode cX8_window 140 = .ok (.iload 4, 2) := by decide +kernel
theorem dX8_window_142 : decode cX8_window 142 = .ok (.istore 4, 2) := by decide +kernel
theorem dX8_window_144 : decode cX8_window 144 = .ok (.iload 6, 2) := by decide +kernel
theorem dX8_window_146 : decode cX8_window 146 = .ok (.ifCond .eq 13, 3) := by decide +kernel
theorem dX8_window_149 : decode cX8_window 149 = .ok (.aload_n 0, 1) := by decide +kernel
theorem dX8_window_150 : decode cX8_window 150 = .ok (.sipush 209, 3) := by decide +kernel
theorem dX8_window_153 : decode cX8_window 153 = .ok (.invokevirtual 189, 3) := by decide +kernel
theorem dX8_window_156 : decode cX8_window 156 = .ok (.goto 4, 3) := by decide +kernel
theorem dX8_window_159 : decode cX8_window 159 = .ok (.iload_n 3, 1) := by decide +kernel
theorem dX8_window_160 : decode cX8_window 160 = .ok (.istore_n 3, 1) := by decide +kernel
theorem dX8_window_161 : decode cX8_window 161 = .ok (.iinc 5 1, 3) := by decide +kernel
theorem dX8_window_164 : decode cX8_window 164 = .ok (.goto (-109), 3) := by decide +kernel
theorem dX8_window_167 : decode cX8_window 167 = .ok (.iload 4, 2) := by decide +kernel
theorem dX8_window_169 : decode cX8_window 169 = .ok (.bipush (-4), 2) := by decide +kernel
theorem dX8_window_171 : decode cX8_window 171 = .ok (.if_icmp .eq 7, 3) := by decide +kernel
theorem dX8_window_174 : decode cX8_window 174 = .ok (.iload_n 2, 1) := by decide +kernel
theorem dX8_window_175 : decode cX8_window 175 = .ok (.ifCond .ne 8, 3) := by decide +kernel
theorem dX8_window_178 : decode cX8_window 178 = .ok (.iload 4, 2) := by decide +kernel
theorem dX8_window_180 : decode cX8_window 180 = .ok (.goto 4, 3) := by decide +kernel
theorem dX8_window_183 : decode cX8_window 183 = .ok (.iload_n 3, 1) := by decide +kernel
theorem dX8_window_184 : decode cX8_window 184 = .ok (.ireturn, 1) := by decide +kernel
theorem dX8_bent_0 : decode cX8_bent 0 = .ok (.aload_n 0, 1) := by decide +kernel
theorem dX8_bent_1 : decode cX8_bent 1 = .ok (.iload_n 1, 1) := by decide +kernel
theorem dX8_bent_2 : decode cX8_bent 2 = .ok (.invokevirtual 129, 3) := by decide +kernel
theorem dX8_bent_5 : decode cX8_bent 5 = .ok (.ifCond .eq 10, 3) := by decide +kernel
theorem dX8_bent_8 : decode cX8_bent 8 = .ok (.iload_n 2, 1) := by decide +kernel
theorem dX8_bent_9 : decode cX8_bent 9 = .ok (.invokestatic 206, 3) := by decide +kernel
theorem dX8_bent_12 : decode cX8_bent 12 = .ok (.ifCond .ne 5, 3) := by decide +kernel
theorem dX8_bent_15 : decode cX8_bent 15 = .ok (.iconst (-1), 1) := by decide +kernel
theorem dX8_bent_16 : decode cX8_bent 16 = .ok (.ireturn, 1) := by decide +kernel
theorem dX8_bent_17 : decode cX8_bent 17 = .ok (.aload_n 0, 1) := by decide +kernel
theorem dX8_bent_18 : decode cX8_bent 18 = .ok (.getfield 80, 3) := by decide +kernel
theorem dX8_bent_21 : decode cX8_bent 21 = .ok (.bipush 6, 2) := by decide +kernel
theorem dX8_bent_23 : decode cX8_bent 23 = .ok (.if_icmp .ne 6, 3) := by decide +kernel
theorem dX8_bent_26 : decode cX8_bent 26 = .ok (.bipush (-3), 2) := by decide +kernel
theorem dX8_bent_28 : decode cX8_bent 28 = .ok (.ireturn, 1) := by decide +kernel
theorem dX8_bent_29 : decode cX8_bent 29 = .ok (.aload_n 0, 1) := by decide +kernel
theorem dX8_bent_30 : decode cX8_bent 30 = .ok (.getfield 25, 3) := by decide +kernel
theorem dX8_bent_33 : decode cX8_bent 33 = .ok (.aload_n 0, 1) := by decide +kernel
theorem dX8_bent_34 : decode cX8_bent 34 = .ok (.getfield 80, 3) := by decide +kernel
theorem dX8_bent_37 : decode cX8_bent 37 = .ok (.iload_n 1, 1) := by decide +kernel
theorem dX8_bent_38 : decode cX8_bent 38 = .ok (.iastore, 1) := by decide +kernel
theorem dX8_bent_39 : decode cX8_bent 39 = .ok (.aload_n 0, 1) := by decide +kernel
theorem dX8_bent_40 : decode cX8_bent 40 = .ok (.getfield 28, 3) := by decide +kernel
theorem dX8_bent_43 : decode cX8_bent 43 = .ok (.aload_n 0, 1) := by decide +kernel
theorem dX8_bent_44 : decode cX8_bent 44 = .ok (.getfield 80, 3) := by decide +kernel
theorem dX8_bent_47 : decode cX8_bent 47 = .ok (.iload_n 2, 1) := by decide +kernel
theorem dX8_bent_48 : decode cX8_bent 48 = .ok (.iastore, 1) := by decide +kernel
theorem dX8_bent_49 : decode cX8_bent 49 = .ok (.aload_n 0, 1) := by decide +kernel
theorem dX8_bent_50 : decode cX8_bent 50 = .ok (.dup, 1) := by decide +kernel
theorem dX8_bent_51 : decode cX8_bent 51 = .ok (.getfield 80, 3) := by decide +kernel
theorem dX8_bent_54 : decode cX8_bent 54 = .ok (.iconst 1, 1) := by decide +kernel
theorem dX8_bent_55 : decode cX8_bent 55 = .ok (.iadd, 1) := by decide +kernel
theorem dX8_bent_56 : decode cX8_bent 56 = .ok (.putfield 80, 3) := by decide +kernel
theorem dX8_bent_59 : decode cX8_bent 59 = .ok (.aload_n 0, 1) := by decide +kernel
theorem dX8_bent_60 : decode cX8_bent 60 = .ok (.getfield 80, 3) := by decide +kernel
theorem dX8_bent_63 : decode cX8_bent 63 = .ok (.ireturn, 1) := by decide +kernel
theorem dX8_found_0 : decode cX8_found 0 = .ok (.aload_n 0, 1) := by decide +kernel
theorem dX8_found_1 : decode cX8_found 1 = .ok (.iload_n 1, 1) := by decide +kernel
theorem dX8_found_2 : decode cX8_found 2 = .ok (.invokevirtual 129, 3) := by decide +kernel
theorem dX8_found_5 : decode cX8_found 5 = .ok (.ifCond .eq 22, 3) := by decide +kernel
theorem dX8_found_8 : decode cX8_found 8 = .ok (.iload_n 2, 1) := by decide +kernel
theorem dX8_found_9 : decode cX8_found 9 = .ok (.i2l, 1) := by decide +kernel
theorem dX8_found_10 : decode cX8_found 10 = .ok (.lconst 1, 1) := by decide +kernel
theorem dX8_found_11 : decode cX8_found 11 = .ok (.ldc2_w 216, 3) := by decide +kernel
theorem dX8_found_14 : decode cX8_found 14 = .ok (.invokestatic 69, 3) := by decide +kernel
theorem dX8_found_17 : decode cX8_found 17 = .ok (.ifCond .eq 10, 3) := by decide +kernel
theorem dX8_found_20 : decode cX8_found 20 = .ok (.iload_n 3, 1) := by decide +kernel
theorem dX8_found_21 : decode cX8_found 21 = .ok (.invokestatic 206, 3) := by decide +kernel
theorem dX8_found_24 : decode cX8_found 24 = .ok (.ifCond .ne 5, 3) := by decide +kernel
theorem dX8_found_27 : decode cX8_found 27 = .ok (.iconst (-1), 1) := by decide +kernel
theorem dX8_found_28 : decode cX8_found 28 = .ok (.ireturn, 1) := by decide +kernel
theorem dX8_found_29 : decode cX8_found 29 = .ok (.aload_n 0, 1) := by decide +kernel
theorem dX8_found_30 : decode cX8_found 30 = .ok (.getfield 83, 3) := by decide +kernel
theorem dX8_found_33 : decode cX8_found 33 = .ok (.bipush 6, 2) := by decide +kernel
theorem dX8_found_35 : decode cX8_found 35 = .ok (.if_icmp .ne 6, 3) := by decide +kernel
theorem dX8_found_38 : decode cX8_found 38 = .ok (.bipush (-3), 2) := by decide +kernel
theorem dX8_found_40 : decode cX8_found 40 = .ok (.ireturn, 1) := by decide +kernel
theorem dX8_found_41 : decode cX8_found 41 = .ok (.aload_n 0, 1) := by decide +kernel
theorem dX8_found_42 : decode cX8_found 42 = .ok (.getfield 31, 3) := by decide +kernel
theorem dX8_found_45 : decode cX8_found 45 = .ok (.aload_n 0, 1) := by decide +kernel
theorem dX8_found_46 : decode cX8_found 46 = .ok (.getfield 83, 3) := by decide +kernel
theorem dX8_found_49 : decode cX8_found 49 = .ok (.iload_n 1, 1) := by decide +kernel
theorem dX8_found_50 : decode cX8_found 50 = .ok (.iastore, 1) := by decide +kernel
theorem dX8_found_51 : decode cX8_found 51 = .ok (.aload_n 0, 1) := by decide +kernel
theorem dX8_found_52 : decode cX8_found 52 = .ok (.getfield 34, 3) := by decide +kernel
theorem dX8_found_55 : decode cX8_found 55 = .ok (.aload_n 0, 1) := by decide +kernel
theorem dX8_found_56 : decode cX8_found 56 = .ok (.getfield 83, 3) := by decide +kernel
theorem dX8_found_59 : decode cX8_found 59 = .ok (.iload_n 2, 1) := by decide +kernel
theorem dX8_found_60 : decode cX8_found 60 = .ok (.iastore, 1) := by decide +kernel
theorem dX8_found_61 : decode cX8_found 61 = .ok (.aload_n 0, 1) := by decide +kernel
theorem dX8_found_62 : decode cX8_found 62 = .ok (.getfield 37, 3) := by decide +kernel
theorem dX8_found_65 : decode cX8_found 65 = .ok (.aload_n 0, 1) := by decide +kernel
theorem dX8_found_66 : decode cX8_found 66 = .ok (.getfield 83, 3) := by decide +kernel
theorem dX8_found_69 : decode cX8_found 69 = .ok (.iload_n 3, 1) := by decide +kernel
theorem dX8_found_70 : decode cX8_found 70 = .ok (.iastore, 1) := by decide +kernel
theorem dX8_found_71 : decode cX8_found 71 = .ok (.aload_n 0, 1) := by decide +kernel
theorem dX8_found_72 : decode cX8_found 72 = .ok (.dup, 1) := by decide +kernel
theorem dX8_found_73 : decode cX8_found 73 = .ok (.getfield 83, 3) := by decide +kernel
theorem dX8_found_76 : decode cX8_found 76 = .ok (.iconst 1, 1) := by decide +kernel
theorem dX8_found_77 : decode cX8_found 77 = .ok (.iadd, 1) := by decide +kernel
theorem dX8_found_78 : decode cX8_found 78 = .ok (.putfield 83, 3) := by decide +kernel
theorem dX8_found_81 : decode cX8_found 81 = .ok (.aload_n 0, 1) := by decide +kernel
theorem dX8_found_82 : decode cX8_found 82 = .ok (.getfield 83, 3) := by decide +kernel
theorem dX8_found_85 : decode cX8_found 85 = .ok (.ireturn, 1) := by decide +kernel
theorem dX8_forget_0 : decode cX8_forget 0 = .ok (.aload_n 0, 1) := by decide +kernel
theorem dX8_forget_1 : decode cX8_forget 1 = .ok (.getfield 80, 3) := by decide +kernel
theorem dX8_forget_4 : decode cX8_forget 4 = .ok (.aload_n 0, 1) := by decide +kernel
theorem dX8_forget_5 : decode cX8_forget 5 = .ok (.getfield 83, 3) := by decide +kernel
theorem dX8_forget_8 : decode cX8_forget 8 = .ok (.iadd, 1) := by decide +kernel
theorem dX8_forget_9 : decode cX8_forget 9 = .ok (.istore_n 1, 1) := by decide +kernel
theorem dX8_forget_10 : decode cX8_forget 10 = .ok (.aload_n 0, 1) := by decide +kernel
theorem dX8_forget_11 : decode cX8_forget 11 = .ok (.iconst 0, 1) := by decide +kernel
theorem dX8_forget_12 : decode cX8_forget 12 = .ok (.putfield 80, 3) := by decide +kernel
theorem dX8_forget_15 : decode cX8_forget 15 = .ok (.aload_n 0, 1) := by decide +kernel
theorem dX8_forget_16 : decode cX8_forget 16 = .ok (.iconst 0, 1) := by decide +kernel
theorem dX8_forget_17 : decode cX8_forget 17 = .ok (.putfield 83, 3) := by decide +kernel
theorem dX8_forget_20 : decode cX8_forget 20 = .ok (.iload_n 1, 1) := by decide +kernel
theorem dX8_forget_21 : decode cX8_forget 21 = .ok (.ireturn, 1) := by decide +kernel
theorem dX8_looked_0 : decode cX8_looked 0 = .ok (.iload_n 1, 1) := by decide +kernel
theorem dX8_looked_1 : decode cX8_looked 1 = .ok (.i2l, 1) := by decide +kernel
theorem dX8_looked_2 : decode cX8_looked 2 = .ok (.lconst 0, 1) := by decide +kernel
theorem dX8_looked_3 : decode cX8_looked 3 = .ok (.lconst 1, 1) := by decide +kernel
theorem dX8_looked_4 : decode cX8_looked 4 = .ok (.invokestatic 69, 3) := by decide +kernel
theorem dX8_looked_7 : decode cX8_looked 7 = .ok (.ifCond .ne 5, 3) := by decide +kernel
theorem dX8_looked_10 : decode cX8_looked 10 = .ok (.iconst (-1), 1) := by decide +kernel
theorem dX8_looked_11 : decode cX8_looked 11 = .ok (.ireturn, 1) := by decide +kernel
theorem dX8_looked_12 : decode cX8_looked 12 = .ok (.iconst 0, 1) := by decide +kernel
theorem dX8_looked_13 : decode cX8_looked 13 = .ok (.istore_n 2, 1) := by decide +kernel
theorem dX8_looked_14 : decode cX8_looked 14 = .ok (.bipush (-4), 2) := by decide +kernel
theorem dX8_looked_16 : decode cX8_looked 16 = .ok (.istore_n 3, 1) := by decide +kernel
theorem dX8_looked_17 : decode cX8_looked 17 = .ok (.iconst 0, 1) := by decide +kernel
theorem dX8_looked_18 : decode cX8_looked 18 = .ok (.istore 4, 2) := by decide +kernel
theorem dX8_looked_20 : decode cX8_looked 20 = .ok (.iload 4, 2) := by decide +kernel
theorem dX8_looked_22 : decode cX8_looked 22 = .ok (.aload_n 0, 1) := by decide +kernel
theorem dX8_looked_23 : decode cX8_looked 23 = .ok (.invokevirtual 199, 3) := by decide +kernel
theorem dX8_looked_26 : decode cX8_looked 26 = .ok (.if_icmp .ge 127, 3) := by decide +kernel
theorem dX8_looked_29 : decode cX8_looked 29 = .ok (.aload_n 0, 1) := by decide +kernel
theorem dX8_looked_30 : decode cX8_looked 30 = .ok (.iconst 0, 1) := by decide +kernel
theorem dX8_looked_31 : decode cX8_looked 31 = .ok (.sipush 209, 3) := by decide +kernel
theorem dX8_looked_34 : decode cX8_looked 34 = .ok (.iload 4, 2) := by decide +kernel
theorem dX8_looked_36 : decode cX8_looked 36 = .ok (.invokevirtual 202, 3) := by decide +kernel
theorem dX8_looked_39 : decode cX8_looked 39 = .ok (.iconst 1, 1) := by decide +kernel
theorem dX8_looked_40 : decode cX8_looked 40 = .ok (.istore 5, 2) := by decide +kernel
theorem dX8_looked_42 : decode cX8_looked 42 = .ok (.iconst 0, 1) := by decide +kernel
theorem dX8_looked_43 : decode cX8_looked 43 = .ok (.istore 6, 2) := by decide +kernel
theorem dX8_looked_45 : decode cX8_looked 45 = .ok (.iload 6, 2) := by decide +kernel
theorem dX8_looked_47 : decode cX8_looked 47 = .ok (.aload_n 0, 1) := by decide +kernel
theorem dX8_looked_48 : decode cX8_looked 48 = .ok (.getfield 80, 3) := by decide +kernel
theorem dX8_looked_51 : decode cX8_looked 51 = .ok (.if_icmp .ge 47, 3) := by decide +kernel
theorem dX8_looked_54 : decode cX8_looked 54 = .ok (.iload 5, 2) := by decide +kernel
theorem dX8_looked_56 : decode cX8_looked 56 = .ok (.ifCond .eq 33, 3) := by decide +kernel
theorem dX8_looked_59 : decode cX8_looked 59 = .ok (.aload_n 0, 1) := by decide +kernel
theorem dX8_looked_60 : decode cX8_looked 60 = .ok (.getfield 13, 3) := by decide +kernel
theorem dX8_looked_63 : decode cX8_looked 63 = .ok (.sipush 209, 3) := by decide +kernel
theorem dX8_looked_66 : decode cX8_looked 66 = .ok (.aload_n 0, 1) := by decide +kernel
theorem dX8_looked_67 : decode cX8_looked 67 = .ok (.getfield 25, 3) := by decide +kernel
theorem dX8_looked_70 : decode cX8_looked 70 = .ok (.iload 6, 2) := by decide +kernel
theorem dX8_looked_72 : decode cX8_looked 72 = .ok (.iaload, 1) := by decide +kernel
theorem dX8_looked_73 : decode cX8_looked 73 = .ok (.iadd, 1) := by decide +kernel
theorem dX8_looked_74 : decode cX8_looked 74 = .ok (.iaload, 1) := by decide +kernel
theorem dX8_looked_75 : decode cX8_looked 75 = .ok (.aload_n 0, 1) := by decide +kernel
theorem dX8_looked_76 : decode cX8_looked 76 = .ok (.getfield 28, 3) := by decide +kernel
theorem dX8_looked_79 : decode cX8_looked 79 = .ok (.iload 6, 2) := by decide +kernel
theorem dX8_looked_81 : decode cX8_looked 81 = .ok (.iaload, 1) := by decide +kernel
theorem dX8_looked_82 : decode cX8_looked 82 = .ok (.if_icmp .ne 7, 3) := by decide +kernel
theorem dX8_looked_85 : decode cX8_looked 85 = .ok (.iconst 1, 1) := by decide +kernel
theorem dX8_looked_86 : decode cX8_looked 86 = .ok (.goto 4, 3) := by decide +kernel
theorem dX8_looked_89 : decode cX8_looked 89 = .ok (.iconst 0, 1) := by decide +kernel
theorem dX8_looked_90 : decode cX8_looked 90 = .ok (.istore 5, 2) := by decide +kernel
theorem dX8_looked_92 : decode cX8_looked 92 = .ok (.iinc 6 1, 3) := by decide +kernel
theorem dX8_looked_95 : decode cX8_looked 95 = .ok (.goto (-50), 3) := by decide +kernel
theorem dX8_looked_98 : decode cX8_looked 98 = .ok (.iload 5, 2) := by decide +kernel
theorem dX8_looked_100 : decode cX8_looked 100 = .ok (.ifCond .eq 32, 3) := by decide +kernel
theorem dX8_looked_103 : decode cX8_looked 103 = .ok (.iload_n 2, 1) := by decide +kernel
theorem dX8_looked_104 : decode cX8_looked 104 = .ok (.ifCond .ne 28, 3) := by decide +kernel
theorem dX8_looked_107 : decode cX8_looked 107 = .ok (.bipush 10, 2) := by decide +kernel
theorem dX8_looked_109 : decode cX8_looked 109 = .ok (.iload 4, 2) := by decide +kernel
theorem dX8_looked_111 : decode cX8_looked 111 = .ok (.aload_n 0, 1) := by decide +kernel
theorem dX8_looked_112 : decode cX8_looked 112 = .ok (.getfield 7, 3) := by decide +kernel
theorem dX8_looked_115 : decode cX8_looked 115 = .ok (.iconst 2, 1) := by decide +kernel
theorem dX8_looked_116 : decode cX8_looked 116 = .ok (.iaload, 1) := by decide +kernel
theorem dX8_looked_117 : decode cX8_looked 117 = .ok (.idiv, 1) := by decide +kernel
theorem dX8_looked_118 : decode cX8_looked 118 = .ok (.imul, 1) := by decide +kernel
theorem dX8_looked_119 : decode cX8_looked 119 = .ok (.iload 4, 2) := by decide +kernel
theorem dX8_looked_121 : decode cX8_looked 121 = .ok (.aload_n 0, 1) := by decide +kernel
theorem dX8_looked_122 : decode cX8_looked 122 = .ok (.getfield 7, 3) := by decide +kernel
theorem dX8_looked_125 : decode cX8_looked 125 = .ok (.iconst 2, 1) := by decide +kernel
theorem dX8_looked_126 : decode cX8_looked 126 = .ok (.iaload, 1) := by decide +kernel
theorem dX8_looked_127 : decode cX8_looked 127 = .ok (.irem, 1) := by decide +kernel
theorem dX8_looked_128 : decode cX8_looked 128 = .ok (.iadd, 1) := by decide +kernel
theorem dX8_looked_129 : decode cX8_looked 129 = .ok (.goto 4, 3) := by decide +kernel
theorem dX8_looked_132 : decode cX8_looked 132 = .ok (.iload_n 3, 1) := by decide +kernel
theorem dX8_looked_133 : decode cX8_looked 133 = .ok (.istore_n 3, 1) := by decide +kernel
theorem dX8_looked_134 : decode cX8_looked 134 = .ok (.iload_n 2, 1) := by decide +kernel
theorem dX8_looked_135 : decode cX8_looked 135 = .ok (.iload 5, 2) := by decide +kernel
theorem dX8_looked_137 : decode cX8_looked 137 = .ok (.ifCond .eq 7, 3) := by decide +kernel
theorem dX8_looked_140 : decode cX8_looked 140 = .ok (.iconst 1, 1) := by decide +kernel
theorem dX8_looked_141 : decode cX8_looked 141 = .ok (.goto 4, 3) := by decide +kernel
theorem dX8_looked_144 : decode cX8_looked 144 = .ok (.iconst 0, 1) := by decide +kernel
theorem dX8_looked_145 : decode cX8_looked 145 = .ok (.iadd, 1) := by decide +kernel
theorem dX8_looked_146 : decode cX8_looked 146 = .ok (.istore_n 2, 1) := by decide +kernel
theorem dX8_looked_147 : decode cX8_looked 147 = .ok (.iinc 4 1, 3) := by decide +kernel
theorem dX8_looked_150 : decode cX8_looked 150 = .ok (.goto (-130), 3) := by decide +kernel
theorem dX8_looked_153 : decode cX8_looked 153 = .ok (.iload_n 1, 1) := by decide +kernel
theorem dX8_looked_154 : decode cX8_looked 154 = .ok (.ifCond .ne 7, 3) := by decide +kernel
theorem dX8_looked_157 : decode cX8_looked 157 = .ok (.iload_n 2, 1) := by decide +kernel
theorem dX8_looked_158 : decode cX8_looked 158 = .ok (.goto 4, 3) := by decide +kernel
theorem dX8_looked_161 : decode cX8_looked 161 = .ok (.iload_n 3, 1) := by decide +kernel
theorem dX8_looked_162 : decode cX8_looked 162 = .ok (.ireturn, 1) := by decide +kernel
theorem dX8_fog_0 : decode cX8_fog 0 = .ok (.iconst 0, 1) := by decide +kernel
theorem dX8_fog_1 : decode cX8_fog 1 = .ok (.istore_n 1, 1) := by decide +kernel
theorem dX8_fog_2 : decode cX8_fog 2 = .ok (.iconst 0, 1) := by decide +kernel
theorem dX8_fog_3 : decode cX8_fog 3 = .ok (.istore_n 2, 1) := by decide +kernel
theorem dX8_fog_4 : decode cX8_fog 4 = .ok (.iload_n 2, 1) := by decide +kernel
theorem dX8_fog_5 : decode cX8_fog 5 = .ok (.bipush 10, 2) := by decide +kernel
theorem dX8_fog_7 : decode cX8_fog 7 = .ok (.if_icmp .ge 135, 3) := by decide +kernel
theorem dX8_fog_10 : decode cX8_fog 10 = .ok (.iconst 1, 1) := by decide +kernel
theorem dX8_fog_11 : decode cX8_fog 11 = .ok (.istore_n 3, 1) := by decide +kernel
theorem dX8_fog_12 : decode cX8_fog 12 = .ok (.aload_n 0, 1) := by decide +kernel
theorem dX8_fog_13 : decode cX8_fog 13 = .ok (.iconst 0, 1) := by decide +kernel
theorem dX8_fog_14 : decode cX8_fog 14 = .ok (.sipush 209, 3) := by decide +kernel
theorem dX8_fog_17 : decode cX8_fog 17 = .ok (.invokevirtual 174, 3) := by decide +kernel
theorem dX8_fog_20 : decode cX8_fog 20 = .ok (.iconst 1, 1) := by decide +kernel
theorem dX8_fog_21 : decode cX8_fog 21 = .ok (.istore 4, 2) := by decide +kernel
theorem dX8_fog_23 : decode cX8_fog 23 = .ok (.iload 4, 2) := by decide +kernel
theorem dX8_fog_25 : decode cX8_fog 25 = .ok (.bipush 10, 2) := by decide +kernel
theorem dX8_fog_27 : decode cX8_fog 27 = .ok (.if_icmp .gt 95, 3) := by decide +kernel
theorem dX8_fog_30 : decode cX8_fog 30 = .ok (.aload_n 0, 1) := by decide +kernel
theorem dX8_fog_31 : decode cX8_fog 31 = .ok (.sipush 209, 3) := by decide +kernel
theorem dX8_fog_34 : decode cX8_fog 34 = .ok (.iload 4, 2) := by decide +kernel
theorem dX8_fog_36 : decode cX8_fog 36 = .ok (.iload_n 2, 1) := by decide +kernel
theorem dX8_fog_37 : decode cX8_fog 37 = .ok (.iconst 1, 1) := by decide +kernel
theorem dX8_fog_38 : decode cX8_fog 38 = .ok (.iadd, 1) := by decide +kernel
theorem dX8_fog_39 : decode cX8_fog 39 = .ok (.if_icmp .ne 7, 3) := by decide +kernel
theorem dX8_fog_42 : decode cX8_fog 42 = .ok (.iconst 1, 1) := by decide +kernel
theorem dX8_fog_43 : decode cX8_fog 43 = .ok (.goto 4, 3) := by decide +kernel
theorem dX8_fog_46 : decode cX8_fog 46 = .ok (.iconst 0, 1) := by decide +kernel
theorem dX8_fog_47 : decode cX8_fog 47 = .ok (.invokevirtual 170, 3) := by decide +kernel
theorem dX8_fog_50 : decode cX8_fog 50 = .ok (.iconst 0, 1) := by decide +kernel
theorem dX8_fog_51 : decode cX8_fog 51 = .ok (.istore 5, 2) := by decide +kernel
theorem dX8_fog_53 : decode cX8_fog 53 = .ok (.iload 5, 2) := by decide +kernel
theorem dX8_fog_55 : decode cX8_fog 55 = .ok (.aload_n 0, 1) := by decide +kernel
theorem dX8_fog_56 : decode cX8_fog 56 = .ok (.getfield 83, 3) := by decide +kernel
theorem dX8_fog_59 : decode cX8_fog 59 = .ok (.if_icmp .ge 57, 3) := by decide +kernel
theorem dX8_fog_62 : decode cX8_fog 62 = .ok (.iload_n 3, 1) := by decide +kernel
theorem dX8_fog_63 : decode cX8_fog 63 = .ok (.ifCond .eq 45, 3) := by decide +kernel
theorem dX8_fog_66 : decode cX8_fog 66 = .ok (.aload_n 0, 1) := by decide +kernel
theorem dX8_fog_67 : decode cX8_fog 67 = .ok (.getfield 34, 3) := by decide +kernel
theorem dX8_fog_70 : decode cX8_fog 70 = .ok (.iload 5, 2) := by decide +kernel
theorem dX8_fog_72 : decode cX8_fog 72 = .ok (.iaload, 1) := by decide +kernel
theorem dX8_fog_73 : decode cX8_fog 73 = .ok (.iload 4, 2) := by decide +kernel
theorem dX8_fog_75 : decode cX8_fog 75 = .ok (.if_icmp .ne 29, 3) := by decide +kernel
theorem dX8_fog_78 : decode cX8_fog 78 = .ok (.aload_n 0, 1) := by decide +kernel
theorem dX8_fog_79 : decode cX8_fog 79 = .ok (.getfield 13, 3) := by decide +kernel
theorem dX8_fog_82 : decode cX8_fog 82 = .ok (.sipush 209, 3) := by decide +kernel
theorem dX8_fog_85 : decode cX8_fog 85 = .ok (.aload_n 0, 1) := by decide +kernel
theorem dX8_fog_86 : decode cX8_fog 86 = .ok (.getfield 31, 3) := by decide +kernel
theorem dX8_fog_89 : decode cX8_fog 89 = .ok (.iload 5, 2) := by decide +kernel
theorem dX8_fog_91 : decode cX8_fog 91 = .ok (.iaload, 1) := by decide +kernel
theorem dX8_fog_92 : decode cX8_fog 92 = .ok (.iadd, 1) := by decide +kernel
theorem dX8_fog_93 : decode cX8_fog 93 = .ok (.iaload, 1) := by decide +kernel
theorem dX8_fog_94 : decode cX8_fog 94 = .ok (.aload_n 0, 1) := by decide +kernel
theorem dX8_fog_95 : decode cX8_fog 95 = .ok (.getfield 37, 3) := by decide +kernel
theorem dX8_fog_98 : decode cX8_fog 98 = .ok (.iload 5, 2) := by decide +kernel
theorem dX8_fog_100 : decode cX8_fog 100 = .ok (.iaload, 1) := by decide +kernel
theorem dX8_fog_101 : decode cX8_fog 101 = .ok (.if_icmp .ne 7, 3) := by decide +kernel
theorem dX8_fog_104 : decode cX8_fog 104 = .ok (.iconst 1, 1) := by decide +kernel
theorem dX8_fog_105 : decode cX8_fog 105 = .ok (.goto 4, 3) := by decide +kernel
theorem dX8_fog_108 : decode cX8_fog 108 = .ok (.iconst 0, 1) := by decide +kernel
theorem dX8_fog_109 : decode cX8_fog 109 = .ok (.istore_n 3, 1) := by decide +kernel
theorem dX8_fog_110 : decode cX8_fog 110 = .ok (.iinc 5 1, 3) := by decide +kernel
theorem dX8_fog_113 : decode cX8_fog 113 = .ok (.goto (-60), 3) := by decide +kernel
theorem dX8_fog_116 : decode cX8_fog 116 = .ok (.iinc 4 1, 3) := by decide +kernel
theorem dX8_fog_119 : decode cX8_fog 119 = .ok (.goto (-96), 3) := by decide +kernel
theorem dX8_fog_122 : decode cX8_fog 122 = .ok (.iload_n 1, 1) := by decide +kernel
theorem dX8_fog_123 : decode cX8_fog 123 = .ok (.iload_n 3, 1) := by decide +kernel
theorem dX8_fog_124 : decode cX8_fog 124 = .ok (.ifCond .eq 9, 3) := by decide +kernel
theorem dX8_fog_127 : decode cX8_fog 127 = .ok (.iconst 1, 1) := by decide +kernel
theorem dX8_fog_128 : decode cX8_fog 128 = .ok (.iload_n 2, 1) := by decide +kernel
theorem dX8_fog_129 : decode cX8_fog 129 = .ok (.ishl, 1) := by decide +kernel
theorem dX8_fog_130 : decode cX8_fog 130 = .ok (.goto 4, 3) := by decide +kernel
theorem dX8_fog_133 : decode cX8_fog 133 = .ok (.iconst 0, 1) := by decide +kernel
theorem dX8_fog_134 : decode cX8_fog 134 = .ok (.ior, 1) := by decide +kernel
theorem dX8_fog_135 : decode cX8_fog 135 = .ok (.istore_n 1, 1) := by decide +kernel
theorem dX8_fog_136 : decode cX8_fog 136 = .ok (.iinc 2 1, 3) := by decide +kernel
theorem dX8_fog_139 : decode cX8_fog 139 = .ok (.goto (-135), 3) := by decide +kernel
theorem dX8_fog_142 : decode cX8_fog 142 = .ok (.iload_n 1, 1) := by decide +kernel
theorem dX8_fog_143 : decode cX8_fog 143 = .ok (.ireturn, 1) := by decide +kernel
theorem dX8_parishes_0 : decode cX8_parishes 0 = .ok (.aload_n 0, 1) := by decide +kernel
theorem dX8_parishes_1 : decode cX8_parishes 1 = .ok (.iload_n 1, 1) := by decide +kernel
theorem dX8_parishes_2 : decode cX8_parishes 2 = .ok (.invokevirtual 132, 3) := by decide +kernel
theorem dX8_parishes_5 : decode cX8_parishes 5 = .ok (.ifCond .eq 45, 3) := by decide +kernel
theorem dX8_parishes_8 : decode cX8_parishes 8 = .ok (.aload_n 0, 1) := by decide +kernel
theorem dX8_parishes_9 : decode cX8_parishes 9 = .ok (.iload_n 2, 1) := by decide +kernel
theorem dX8_parishes_10 : decode cX8_parishes 10 = .ok (.invokevirtual 129, 3) := by decide +kernel
theorem dX8_parishes_13 : decode cX8_parishes 13 = .ok (.ifCond .eq 37, 3) := by decide +kernel
theorem dX8_parishes_16 : decode cX8_parishes 16 = .ok (.aload_n 0, 1) := by decide +kernel
theorem dX8_parishes_17 : decode cX8_parishes 17 = .ok (.iload_n 3, 1) := by decide +kernel
theorem dX8_parishes_18 : decode cX8_parishes 18 = .ok (.invokevirtual 132, 3) := by decide +kernel
theorem dX8_parishes_21 : decode cX8_parishes 21 = .ok (.ifCond .eq 29, 3) := by decide +kernel
theorem dX8_parishes_24 : decode cX8_parishes 24 = .ok (.aload_n 0, 1) := by decide +kernel
theorem dX8_parishes_25 : decode cX8_parishes 25 = .ok (.iload 4, 2) := by decide +kernel
theorem dX8_parishes_27 : decode cX8_parishes 27 = .ok (.invokevirtual 129, 3) := by decide +kernel
theorem dX8_parishes_30 : decode cX8_parishes 30 = .ok (.ifCond .eq 20, 3) := by decide +kernel
theorem dX8_parishes_33 : decode cX8_parishes 33 = .ok (.iload_n 2, 1) := by decide +kernel
theorem dX8_parishes_34 : decode cX8_parishes 34 = .ok (.iload 4, 2) := by decide +kernel
theorem dX8_parishes_36 : decode cX8_parishes 36 = .ok (.if_icmp .eq 14, 3) := by decide +kernel
theorem dX8_parishes_39 : decode cX8_parishes 39 = .ok (.iload 5, 2) := by decide +kernel
theorem dX8_parishes_41 : decode cX8_parishes 41 = .ok (.i2l, 1) := by decide +kernel
theorem dX8_parishes_42 : decode cX8_parishes 42 = .ok (.lconst 0, 1) := by decide +kernel
theorem dX8_parishes_43 : decode cX8_parishes 43 = .ok (.lconst 1, 1) := by decide +kernel
theorem dX8_parishes_44 : decode cX8_parishes 44 = .ok (.invokestatic 69, 3) := by decide +kernel
theorem dX8_parishes_47 : decode cX8_parishes 47 = .ok (.ifCond .ne 5, 3) := by decide +kernel
theorem dX8_parishes_50 : decode cX8_parishes 50 = .ok (.iconst (-1), 1) := by decide +kernel
theorem dX8_parishes_51 : decode cX8_parishes 51 = .ok (.ireturn, 1) := by decide +kernel
theorem dX8_parishes_52 : decode cX8_parishes 52 = .ok (.aload_n 0, 1) := by decide +kernel
theorem dX8_parishes_53 : decode cX8_parishes 53 = .ok (.getfield 7, 3) := by decide +kernel
theorem dX8_parishes_56 : decode cX8_parishes 56 = .ok (.iconst 2, 1) := by decide +kernel
theorem dX8_parishes_57 : decode cX8_parishes 57 = .ok (.iaload, 1) := by decide +kernel
theorem dX8_parishes_58 : decode cX8_parishes 58 = .ok (.istore 6, 2) := by decide +kernel
theorem dX8_parishes_60 : decode cX8_parishes 60 = .ok (.iconst 0, 1) := by decide +kernel
theorem dX8_parishes_61 : decode cX8_parishes 61 = .ok (.istore 7, 2) := by decide +kernel
theorem dX8_parishes_63 : decode cX8_parishes 63 = .ok (.iload 7, 2) := by decide +kernel
theorem dX8_parishes_65 : decode cX8_parishes 65 = .ok (.iload 6, 2) := by decide +kernel
theorem dX8_parishes_67 : decode cX8_parishes 67 = .ok (.if_icmp .ge 102, 3) := by decide +kernel
theorem dX8_parishes_70 : decode cX8_parishes 70 = .ok (.iconst 0, 1) := by decide +kernel
theorem dX8_parishes_71 : decode cX8_parishes 71 = .ok (.istore 8, 2) := by decide +kernel
theorem dX8_parishes_73 : decode cX8_parishes 73 = .ok (.iload 8, 2) := by decide +kernel
theorem dX8_parishes_75 : decode cX8_parishes 75 = .ok (.iload 6, 2) := by decide +kernel
theorem dX8_parishes_77 : decode cX8_parishes 77 = .ok (.if_icmp .ge 86, 3) := by decide +kernel
theorem dX8_parishes_80 : decode cX8_parishes 80 = .ok (.aload_n 0, 1) := by decide +kernel
theorem dX8_parishes_81 : decode cX8_parishes 81 = .ok (.iconst 0, 1) := by decide +kernel
theorem dX8_parishes_82 : decode cX8_parishes 82 = .ok (.sipush 209, 3) := by decide +kernel
theorem dX8_parishes_85 : decode cX8_parishes 85 = .ok (.invokevirtual 174, 3) := by decide +kernel
theorem dX8_parishes_88 : decode cX8_parishes 88 = .ok (.aload_n 0, 1) := by decide +kernel
theorem dX8_parishes_89 : decode cX8_parishes 89 = .ok (.sipush 209, 3) := by decide +kernel
theorem dX8_parishes_92 : decode cX8_parishes 92 = .ok (.iload_n 1, 1) := by decide +kernel
theorem dX8_parishes_93 : decode cX8_parishes 93 = .ok (.iload 7, 2) := by decide +kernel
theorem dX8_parishes_95 : decode cX8_parishes 95 = .ok (.invokevirtual 162, 3) := by decide +kernel
theorem dX8_parishes_98 : decode cX8_parishes 98 = .ok (.pop, 1) := by decide +kernel
theorem dX8_parishes_99 : decode cX8_parishes 99 = .ok (.aload_n 0, 1) := by decide +kernel
theorem dX8_parishes_100 : decode cX8_parishes 100 = .ok (.sipush 209, 3) := by decide +kernel
theorem dX8_parishes_103 : decode cX8_parishes 103 = .ok (.iload_n 3, 1) := by decide +kernel
theorem dX8_parishes_104 : decode cX8_parishes 104 = .ok (.iload 8, 2) := by decide +kernel
theorem dX8_parishes_106 : decode cX8_parishes 106 = .ok (.invokevirtual 162, 3) := by decide +kernel
theorem dX8_parishes_109 : decode cX8_parishes 109 = .ok (.pop, 1) := by decide +kernel
theorem dX8_parishes_110 : decode cX8_parishes 110 = .ok (.aload_n 0, 1) := by decide +kernel
theorem dX8_parishes_111 : decode cX8_parishes 111 = .ok (.getfield 40, 3) := by decide +kernel
theorem dX8_parishes_114 : decode cX8_parishes 114 = .ok (.bipush 6, 2) := by decide +kernel
theorem dX8_parishes_116 : decode cX8_parishes 116 = .ok (.iload 7, 2) := by decide +kernel
theorem dX8_parishes_118 : decode cX8_parishes 118 = .ok (.imul, 1) := by decide +kernel
theorem dX8_parishes_119 : decode cX8_parishes 119 = .ok (.iload 8, 2) := by decide +kernel
theorem dX8_parishes_121 : decode cX8_parishes 121 = .ok (.iadd, 1) := by decide +kernel
theorem dX8_parishes_122 : decode cX8_parishes 122 = .ok (.aload_n 0, 1) := by decide +kernel
theorem dX8_parishes_123 : decode cX8_parishes 123 = .ok (.getfield 13, 3) := by decide +kernel
theorem dX8_parishes_126 : decode cX8_parishes 126 = .ok (.sipush 209, 3) := by decide +kernel
theorem dX8_parishes_129 : decode cX8_parishes 129 = .ok (.iload_n 2, 1) := by decide +kernel
theorem dX8_parishes_130 : decode cX8_parishes 130 = .ok (.iadd, 1) := by decide +kernel
theorem dX8_parishes_131 : decode cX8_parishes 131 = .ok (.iaload, 1) := by decide +kernel
theorem dX8_parishes_132 : decode cX8_parishes 132 = .ok (.iastore, 1) := by decide +kernel
theorem dX8_parishes_133 : decode cX8_parishes 133 = .ok (.aload_n 0, 1) := by decide +kernel
theorem dX8_parishes_134 : decode cX8_parishes 134 = .ok (.getfield 43, 3) := by decide +kernel
theorem dX8_parishes_137 : decode cX8_parishes 137 = .ok (.bipush 6, 2) := by decide +kernel
theorem dX8_parishes_139 : decode cX8_parishes 139 = .ok (.iload 7, 2) := by decide +kernel
