theorem dX0_init_0 : decode cX0_init 0 = .ok (.aload_n 0, 1) := by decide +kernel
theorem dX0_init_1 : decode cX0_init 1 = .ok (.invokespecial 3, 3) := by decide +kernel
theorem dX0_init_4 : decode cX0_init 4 = .ok (.aload_n 0, 1) := by decide +kernel
theorem dX0_init_5 : decode cX0_init 5 = .ok (.bipush 6, 2) := by decide +kernel
theorem dX0_init_7 : decode cX0_init 7 = .ok (.newarray .int, 2) := by decide +kernel
theorem dX0_init_9 : decode cX0_init 9 = .ok (.putfield 9, 3) := by decide +kernel
theorem dX0_init_12 : decode cX0_init 12 = .ok (.aload_n 0, 1) := by decide +kernel
theorem dX0_init_13 : decode cX0_init 13 = .ok (.bipush 6, 2) := by decide +kernel
theorem dX0_init_15 : decode cX0_init 15 = .ok (.newarray .int, 2) := by decide +kernel
theorem dX0_init_17 : decode cX0_init 17 = .ok (.putfield 15, 3) := by decide +kernel
theorem dX0_init_20 : decode cX0_init 20 = .ok (.aload_n 0, 1) := by decide +kernel
theorem dX0_init_21 : decode cX0_init 21 = .ok (.bipush 6, 2) := by decide +kernel
theorem dX0_init_23 : decode cX0_init 23 = .ok (.newarray .int, 2) := by decide +kernel
theorem dX0_init_25 : decode cX0_init 25 = .ok (.putfield 18, 3) := by decide +kernel
theorem dX0_init_28 : decode cX0_init 28 = .ok (.return_, 1) := by decide +kernel
theorem dX0_clear_0 : decode cX0_clear 0 = .ok (.aload_n 0, 1) := by decide +kernel
theorem dX0_clear_1 : decode cX0_clear 1 = .ok (.iconst 0, 1) := by decide +kernel
theorem dX0_clear_2 : decode cX0_clear 2 = .ok (.putfield 21, 3) := by decide +kernel
theorem dX0_clear_5 : decode cX0_clear 5 = .ok (.return_, 1) := by decide +kernel
theorem dX0_add_0 : decode cX0_add 0 = .ok (.aload_n 0, 1) := by decide +kernel
theorem dX0_add_1 : decode cX0_add 1 = .ok (.getfield 21, 3) := by decide +kernel
theorem dX0_add_4 : decode cX0_add 4 = .ok (.bipush 6, 2) := by decide +kernel
theorem dX0_add_6 : decode cX0_add 6 = .ok (.if_icmp .lt 5, 3) := by decide +kernel
theorem dX0_add_9 : decode cX0_add 9 = .ok (.iconst 0, 1) := by decide +kernel
theorem dX0_add_10 : decode cX0_add 10 = .ok (.ireturn, 1) := by decide +kernel
theorem dX0_add_11 : decode cX0_add 11 = .ok (.aload_n 0, 1) := by decide +kernel
theorem dX0_add_12 : decode cX0_add 12 = .ok (.getfield 9, 3) := by decide +kernel
theorem dX0_add_15 : decode cX0_add 15 = .ok (.aload_n 0, 1) := by decide +kernel
theorem dX0_add_16 : decode cX0_add 16 = .ok (.getfield 21, 3) := by decide +kernel
theorem dX0_add_19 : decode cX0_add 19 = .ok (.iload_n 1, 1) := by decide +kernel
theorem dX0_add_20 : decode cX0_add 20 = .ok (.iastore, 1) := by decide +kernel
theorem dX0_add_21 : decode cX0_add 21 = .ok (.aload_n 0, 1) := by decide +kernel
theorem dX0_add_22 : decode cX0_add 22 = .ok (.getfield 15, 3) := by decide +kernel
theorem dX0_add_25 : decode cX0_add 25 = .ok (.aload_n 0, 1) := by decide +kernel
theorem dX0_add_26 : decode cX0_add 26 = .ok (.getfield 21, 3) := by decide +kernel
theorem dX0_add_29 : decode cX0_add 29 = .ok (.iload_n 2, 1) := by decide +kernel
theorem dX0_add_30 : decode cX0_add 30 = .ok (.iastore, 1) := by decide +kernel
theorem dX0_add_31 : decode cX0_add 31 = .ok (.aload_n 0, 1) := by decide +kernel
theorem dX0_add_32 : decode cX0_add 32 = .ok (.getfield 18, 3) := by decide +kernel
theorem dX0_add_35 : decode cX0_add 35 = .ok (.aload_n 0, 1) := by decide +kernel
theorem dX0_add_36 : decode cX0_add 36 = .ok (.getfield 21, 3) := by decide +kernel
theorem dX0_add_39 : decode cX0_add 39 = .ok (.iload_n 3, 1) := by decide +kernel
theorem dX0_add_40 : decode cX0_add 40 = .ok (.iastore, 1) := by decide +kernel
theorem dX0_add_41 : decode cX0_add 41 = .ok (.aload_n 0, 1) := by decide +kernel
theorem dX0_add_42 : decode cX0_add 42 = .ok (.dup, 1) := by decide +kernel
theorem dX0_add_43 : decode cX0_add 43 = .ok (.getfield 21, 3) := by decide +kernel
theorem dX0_add_46 : decode cX0_add 46 = .ok (.iconst 1, 1) := by decide +kernel
theorem dX0_add_47 : decode cX0_add 47 = .ok (.iadd, 1) := by decide +kernel
theorem dX0_add_48 : decode cX0_add 48 = .ok (.putfield 21, 3) := by decide +kernel
theorem dX0_add_51 : decode cX0_add 51 = .ok (.iconst 1, 1) := by decide +kernel
theorem dX0_add_52 : decode cX0_add 52 = .ok (.ireturn, 1) := by decide +kernel
theorem dX0_holdOn_0 : decode cX0_holdOn 0 = .ok (.iconst 0, 1) := by decide +kernel
theorem dX0_holdOn_1 : decode cX0_holdOn 1 = .ok (.istore_n 3, 1) := by decide +kernel
theorem dX0_holdOn_2 : decode cX0_holdOn 2 = .ok (.iload_n 3, 1) := by decide +kernel
theorem dX0_holdOn_3 : decode cX0_holdOn 3 = .ok (.aload_n 0, 1) := by decide +kernel
theorem dX0_holdOn_4 : decode cX0_holdOn 4 = .ok (.getfield 21, 3) := by decide +kernel
theorem dX0_holdOn_7 : decode cX0_holdOn 7 = .ok (.if_icmp .ge 41, 3) := by decide +kernel
theorem dX0_holdOn_10 : decode cX0_holdOn 10 = .ok (.aload_n 0, 1) := by decide +kernel
theorem dX0_holdOn_11 : decode cX0_holdOn 11 = .ok (.getfield 15, 3) := by decide +kernel
theorem dX0_holdOn_14 : decode cX0_holdOn 14 = .ok (.iload_n 3, 1) := by decide +kernel
theorem dX0_holdOn_15 : decode cX0_holdOn 15 = .ok (.iaload, 1) := by decide +kernel
theorem dX0_holdOn_16 : decode cX0_holdOn 16 = .ok (.iload_n 2, 1) := by decide +kernel
theorem dX0_holdOn_17 : decode cX0_holdOn 17 = .ok (.if_icmp .ne 25, 3) := by decide +kernel
theorem dX0_holdOn_20 : decode cX0_holdOn 20 = .ok (.aload_n 1, 1) := by decide +kernel
theorem dX0_holdOn_21 : decode cX0_holdOn 21 = .ok (.getfield 25, 3) := by decide +kernel
theorem dX0_holdOn_24 : decode cX0_holdOn 24 = .ok (.aload_n 0, 1) := by decide +kernel
theorem dX0_holdOn_25 : decode cX0_holdOn 25 = .ok (.getfield 9, 3) := by decide +kernel
theorem dX0_holdOn_28 : decode cX0_holdOn 28 = .ok (.iload_n 3, 1) := by decide +kernel
theorem dX0_holdOn_29 : decode cX0_holdOn 29 = .ok (.iaload, 1) := by decide +kernel
theorem dX0_holdOn_30 : decode cX0_holdOn 30 = .ok (.iaload, 1) := by decide +kernel
theorem dX0_holdOn_31 : decode cX0_holdOn 31 = .ok (.aload_n 0, 1) := by decide +kernel
theorem dX0_holdOn_32 : decode cX0_holdOn 32 = .ok (.getfield 18, 3) := by decide +kernel
theorem dX0_holdOn_35 : decode cX0_holdOn 35 = .ok (.iload_n 3, 1) := by decide +kernel
theorem dX0_holdOn_36 : decode cX0_holdOn 36 = .ok (.iaload, 1) := by decide +kernel
theorem dX0_holdOn_37 : decode cX0_holdOn 37 = .ok (.if_icmp .eq 5, 3) := by decide +kernel
theorem dX0_holdOn_40 : decode cX0_holdOn 40 = .ok (.iconst 0, 1) := by decide +kernel
theorem dX0_holdOn_41 : decode cX0_holdOn 41 = .ok (.ireturn, 1) := by decide +kernel
theorem dX0_holdOn_42 : decode cX0_holdOn 42 = .ok (.iinc 3 1, 3) := by decide +kernel
theorem dX0_holdOn_45 : decode cX0_holdOn 45 = .ok (.goto (-43), 3) := by decide +kernel
theorem dX0_holdOn_48 : decode cX0_holdOn 48 = .ok (.iconst 1, 1) := by decide +kernel
theorem dX0_holdOn_49 : decode cX0_holdOn 49 = .ok (.ireturn, 1) := by decide +kernel
theorem dX1_init_0 : decode cX1_init 0 = .ok (.aload_n 0, 1) := by decide +kernel
theorem dX1_init_1 : decode cX1_init 1 = .ok (.invokespecial 3, 3) := by decide +kernel
theorem dX1_init_4 : decode cX1_init 4 = .ok (.aload_n 0, 1) := by decide +kernel
theorem dX1_init_5 : decode cX1_init 5 = .ok (.sipush 200, 3) := by decide +kernel
theorem dX1_init_8 : decode cX1_init 8 = .ok (.newarray .int, 2) := by decide +kernel
theorem dX1_init_10 : decode cX1_init 10 = .ok (.putfield 9, 3) := by decide +kernel
theorem dX1_init_13 : decode cX1_init 13 = .ok (.return_, 1) := by decide +kernel
theorem dX1_add_0 : decode cX1_add 0 = .ok (.aload_n 0, 1) := by decide +kernel
theorem dX1_add_1 : decode cX1_add 1 = .ok (.getfield 15, 3) := by decide +kernel
theorem dX1_add_4 : decode cX1_add 4 = .ok (.sipush 200, 3) := by decide +kernel
theorem dX1_add_7 : decode cX1_add 7 = .ok (.if_icmp .lt 5, 3) := by decide +kernel
theorem dX1_add_10 : decode cX1_add 10 = .ok (.iconst 0, 1) := by decide +kernel
theorem dX1_add_11 : decode cX1_add 11 = .ok (.ireturn, 1) := by decide +kernel
theorem dX1_add_12 : decode cX1_add 12 = .ok (.aload_n 0, 1) := by decide +kernel
theorem dX1_add_13 : decode cX1_add 13 = .ok (.getfield 9, 3) := by decide +kernel
theorem dX1_add_16 : decode cX1_add 16 = .ok (.aload_n 0, 1) := by decide +kernel
theorem dX1_add_17 : decode cX1_add 17 = .ok (.getfield 15, 3) := by decide +kernel
theorem dX1_add_20 : decode cX1_add 20 = .ok (.iload_n 1, 1) := by decide +kernel
theorem dX1_add_21 : decode cX1_add 21 = .ok (.iastore, 1) := by decide +kernel
theorem dX1_add_22 : decode cX1_add 22 = .ok (.aload_n 0, 1) := by decide +kernel
theorem dX1_add_23 : decode cX1_add 23 = .ok (.dup, 1) := by decide +kernel
theorem dX1_add_24 : decode cX1_add 24 = .ok (.getfield 15, 3) := by decide +kernel
theorem dX1_add_27 : decode cX1_add 27 = .ok (.iconst 1, 1) := by decide +kernel
theorem dX1_add_28 : decode cX1_add 28 = .ok (.iadd, 1) := by decide +kernel
theorem dX1_add_29 : decode cX1_add 29 = .ok (.putfield 15, 3) := by decide +kernel
theorem dX1_add_32 : decode cX1_add 32 = .ok (.iconst 1, 1) := by decide +kernel
theorem dX1_add_33 : decode cX1_add 33 = .ok (.ireturn, 1) := by decide +kernel
theorem dX1_clear_0 : decode cX1_clear 0 = .ok (.aload_n 0, 1) := by decide +kernel
theorem dX1_clear_1 : decode cX1_clear 1 = .ok (.iconst 0, 1) := by decide +kernel
theorem dX1_clear_2 : decode cX1_clear 2 = .ok (.putfield 15, 3) := by decide +kernel
theorem dX1_clear_5 : decode cX1_clear 5 = .ok (.return_, 1) := by decide +kernel
theorem dX1_signAt_0 : decode cX1_signAt 0 = .ok (.iload_n 1, 1) := by decide +kernel
theorem dX1_signAt_1 : decode cX1_signAt 1 = .ok (.ifCond .lt 20, 3) := by decide +kernel
theorem dX1_signAt_4 : decode cX1_signAt 4 = .ok (.iload_n 1, 1) := by decide +kernel
theorem dX1_signAt_5 : decode cX1_signAt 5 = .ok (.aload_n 0, 1) := by decide +kernel
theorem dX1_signAt_6 : decode cX1_signAt 6 = .ok (.getfield 15, 3) := by decide +kernel
theorem dX1_signAt_9 : decode cX1_signAt 9 = .ok (.if_icmp .ge 12, 3) := by decide +kernel
theorem dX1_signAt_12 : decode cX1_signAt 12 = .ok (.aload_n 0, 1) := by decide +kernel
theorem dX1_signAt_13 : decode cX1_signAt 13 = .ok (.getfield 9, 3) := by decide +kernel
theorem dX1_signAt_16 : decode cX1_signAt 16 = .ok (.iload_n 1, 1) := by decide +kernel
theorem dX1_signAt_17 : decode cX1_signAt 17 = .ok (.iaload, 1) := by decide +kernel
theorem dX1_signAt_18 : decode cX1_signAt 18 = .ok (.goto 4, 3) := by decide +kernel
theorem dX1_signAt_21 : decode cX1_signAt 21 = .ok (.iconst 0, 1) := by decide +kernel
theorem dX1_signAt_22 : decode cX1_signAt 22 = .ok (.ireturn, 1) := by decide +kernel
theorem dX2_init_0 : decode cX2_init 0 = .ok (.aload_n 0, 1) := by decide +kernel
theorem dX2_init_1 : decode cX2_init 1 = .ok (.invokespecial 3, 3) := by decide +kernel
theorem dX2_init_4 : decode cX2_init 4 = .ok (.aload_n 0, 1) := by decide +kernel
theorem dX2_init_5 : decode cX2_init 5 = .ok (.bipush 16, 2) := by decide +kernel
theorem dX2_init_7 : decode cX2_init 7 = .ok (.newarray .int, 2) := by decide +kernel
theorem dX2_init_9 : decode cX2_init 9 = .ok (.putfield 9, 3) := by decide +kernel
theorem dX2_init_12 : decode cX2_init 12 = .ok (.aload_n 0, 1) := by decide +kernel
theorem dX2_init_13 : decode cX2_init 13 = .ok (.iconst 4, 1) := by decide +kernel
theorem dX2_init_14 : decode cX2_init 14 = .ok (.newarray .int, 2) := by decide +kernel
theorem dX2_init_16 : decode cX2_init 16 = .ok (.putfield 15, 3) := by decide +kernel
theorem dX2_init_19 : decode cX2_init 19 = .ok (.aload_n 0, 1) := by decide +kernel
theorem dX2_init_20 : decode cX2_init 20 = .ok (.iconst 4, 1) := by decide +kernel
theorem dX2_init_21 : decode cX2_init 21 = .ok (.newarray .int, 2) := by decide +kernel
theorem dX2_init_23 : decode cX2_init 23 = .ok (.putfield 18, 3) := by decide +kernel
theorem dX2_init_26 : decode cX2_init 26 = .ok (.aload_n 0, 1) := by decide +kernel
theorem dX2_init_27 : decode cX2_init 27 = .ok (.bipush 6, 2) := by decide +kernel
theorem dX2_init_29 : decode cX2_init 29 = .ok (.newarray .int, 2) := by decide +kernel
theorem dX2_init_31 : decode cX2_init 31 = .ok (.putfield 21, 3) := by decide +kernel
theorem dX2_init_34 : decode cX2_init 34 = .ok (.aload_n 0, 1) := by decide +kernel
theorem dX2_init_35 : decode cX2_init 35 = .ok (.bipush 6, 2) := by decide +kernel
theorem dX2_init_37 : decode cX2_init 37 = .ok (.newarray .int, 2) := by decide +kernel
theorem dX2_init_39 : decode cX2_init 39 = .ok (.putfield 24, 3) := by decide +kernel
theorem dX2_init_42 : decode cX2_init 42 = .ok (.aload_n 0, 1) := by decide +kernel
theorem dX2_init_43 : decode cX2_init 43 = .ok (.bipush 8, 2) := by decide +kernel
theorem dX2_init_45 : decode cX2_init 45 = .ok (.newarray .int, 2) := by decide +kernel
theorem dX2_init_47 : decode cX2_init 47 = .ok (.putfield 27, 3) := by decide +kernel
theorem dX2_init_50 : decode cX2_init 50 = .ok (.aload_n 0, 1) := by decide +kernel
theorem dX2_init_51 : decode cX2_init 51 = .ok (.bipush 8, 2) := by decide +kernel
theorem dX2_init_53 : decode cX2_init 53 = .ok (.newarray .int, 2) := by decide +kernel
theorem dX2_init_55 : decode cX2_init 55 = .ok (.putfield 30, 3) := by decide +kernel
theorem dX2_init_58 : decode cX2_init 58 = .ok (.aload_n 0, 1) := by decide +kernel
theorem dX2_init_59 : decode cX2_init 59 = .ok (.bipush 8, 2) := by decide +kernel
theorem dX2_init_61 : decode cX2_init 61 = .ok (.newarray .int, 2) := by decide +kernel
theorem dX2_init_63 : decode cX2_init 63 = .ok (.putfield 33, 3) := by decide +kernel
theorem dX2_init_66 : decode cX2_init 66 = .ok (.return_, 1) := by decide +kernel
theorem dX2_clear_0 : decode cX2_clear 0 = .ok (.aload_n 0, 1) := by decide +kernel
theorem dX2_clear_1 : decode cX2_clear 1 = .ok (.bipush 9, 2) := by decide +kernel
theorem dX2_clear_3 : decode cX2_clear 3 = .ok (.putfield 36, 3) := by decide +kernel
theorem dX2_clear_6 : decode cX2_clear 6 = .ok (.aload_n 0, 1) := by decide +kernel
theorem dX2_clear_7 : decode cX2_clear 7 = .ok (.iconst 0, 1) := by decide +kernel
theorem dX2_clear_8 : decode cX2_clear 8 = .ok (.putfield 40, 3) := by decide +kernel
theorem dX2_clear_11 : decode cX2_clear 11 = .ok (.aload_n 0, 1) := by decide +kernel
theorem dX2_clear_12 : decode cX2_clear 12 = .ok (.iconst 0, 1) := by decide +kernel
theorem dX2_clear_13 : decode cX2_clear 13 = .ok (.putfield 43, 3) := by decide +kernel
theorem dX2_clear_16 : decode cX2_clear 16 = .ok (.aload_n 0, 1) := by decide +kernel
theorem dX2_clear_17 : decode cX2_clear 17 = .ok (.iconst 0, 1) := by decide +kernel
theorem dX2_clear_18 : decode cX2_clear 18 = .ok (.putfield 46, 3) := by decide +kernel
theorem dX2_clear_21 : decode cX2_clear 21 = .ok (.aload_n 0, 1) := by decide +kernel
theorem dX2_clear_22 : decode cX2_clear 22 = .ok (.iconst 0, 1) := by decide +kernel
theorem dX2_clear_23 : decode cX2_clear 23 = .ok (.putfield 49, 3) := by decide +kernel
theorem dX2_clear_26 : decode cX2_clear 26 = .ok (.aload_n 0, 1) := by decide +kernel
theorem dX2_clear_27 : decode cX2_clear 27 = .ok (.iconst 0, 1) := by decide +kernel
theorem dX2_clear_28 : decode cX2_clear 28 = .ok (.putfield 52, 3) := by decide +kernel
theorem dX2_clear_31 : decode cX2_clear 31 = .ok (.aload_n 0, 1) := by decide +kernel
theorem dX2_clear_32 : decode cX2_clear 32 = .ok (.iconst 0, 1) := by decide +kernel
theorem dX2_clear_33 : decode cX2_clear 33 = .ok (.putfield 55, 3) := by decide +kernel
theorem dX2_clear_36 : decode cX2_clear 36 = .ok (.iconst 0, 1) := by decide +kernel
theorem dX2_clear_37 : decode cX2_clear 37 = .ok (.istore_n 1, 1) := by decide +kernel
theorem dX2_clear_38 : decode cX2_clear 38 = .ok (.iload_n 1, 1) := by decide +kernel
theorem dX2_clear_39 : decode cX2_clear 39 = .ok (.bipush 16, 2) := by decide +kernel
theorem dX2_clear_41 : decode cX2_clear 41 = .ok (.if_icmp .ge 17, 3) := by decide +kernel
theorem dX2_clear_44 : decode cX2_clear 44 = .ok (.aload_n 0, 1) := by decide +kernel
theorem dX2_clear_45 : decode cX2_clear 45 = .ok (.getfield 9, 3) := by decide +kernel
theorem dX2_clear_48 : decode cX2_clear 48 = .ok (.iload_n 1, 1) := by decide +kernel
theorem dX2_clear_49 : decode cX2_clear 49 = .ok (.bipush 30, 2) := by decide +kernel
theorem dX2_clear_51 : decode cX2_clear 51 = .ok (.iastore, 1) := by decide +kernel
theorem dX2_clear_52 : decode cX2_clear 52 = .ok (.iinc 1 1, 3) := by decide +kernel
theorem dX2_clear_55 : decode cX2_clear 55 = .ok (.goto (-17), 3) := by decide +kernel
theorem dX2_clear_58 : decode cX2_clear 58 = .ok (.return_, 1) := by decide +kernel
theorem dX2_takeItem_0 : decode cX2_takeItem 0 = .ok (.iload_n 1, 1) := by decide +kernel
theorem dX2_takeItem_1 : decode cX2_takeItem 1 = .ok (.bipush 110, 2) := by decide +kernel
theorem dX2_takeItem_3 : decode cX2_takeItem 3 = .ok (.if_icmp .ne 9, 3) := by decide +kernel
theorem dX2_takeItem_6 : decode cX2_takeItem 6 = .ok (.aload_n 0, 1) := by decide +kernel
theorem dX2_takeItem_7 : decode cX2_takeItem 7 = .ok (.iload_n 2, 1) := by decide +kernel
theorem dX2_takeItem_8 : decode cX2_takeItem 8 = .ok (.invokevirtual 59, 3) := by decide +kernel
theorem dX2_takeItem_11 : decode cX2_takeItem 11 = .ok (.ireturn, 1) := by decide +kernel
theorem dX2_takeItem_12 : decode cX2_takeItem 12 = .ok (.aload_n 0, 1) := by decide +kernel
theorem dX2_takeItem_13 : decode cX2_takeItem 13 = .ok (.iconst 1, 1) := by decide +kernel
theorem dX2_takeItem_14 : decode cX2_takeItem 14 = .ok (.putfield 55, 3) := by decide +kernel
theorem dX2_takeItem_17 : decode cX2_takeItem 17 = .ok (.iload_n 1, 1) := by decide +kernel
theorem dX2_takeItem_18 : decode cX2_takeItem 18 = .ok (.lookupswitch 87 #[(100, 71), (102, 80), (112, 50), (116, 64), (119, 57)], 50) := by decide +kernel
theorem dX2_takeItem_68 : decode cX2_takeItem 68 = .ok (.aload_n 0, 1) := by decide +kernel
theorem dX2_takeItem_69 : decode cX2_takeItem 69 = .ok (.iload_n 2, 1) := by decide +kernel
theorem dX2_takeItem_70 : decode cX2_takeItem 70 = .ok (.iload_n 3, 1) := by decide +kernel
theorem dX2_takeItem_71 : decode cX2_takeItem 71 = .ok (.invokevirtual 63, 3) := by decide +kernel
theorem dX2_takeItem_74 : decode cX2_takeItem 74 = .ok (.ireturn, 1) := by decide +kernel
theorem dX2_takeItem_75 : decode cX2_takeItem 75 = .ok (.aload_n 0, 1) := by decide +kernel
theorem dX2_takeItem_76 : decode cX2_takeItem 76 = .ok (.iload_n 2, 1) := by decide +kernel
theorem dX2_takeItem_77 : decode cX2_takeItem 77 = .ok (.iload_n 3, 1) := by decide +kernel
theorem dX2_takeItem_78 : decode cX2_takeItem 78 = .ok (.invokevirtual 67, 3) := by decide +kernel
theorem dX2_takeItem_81 : decode cX2_takeItem 81 = .ok (.ireturn, 1) := by decide +kernel
theorem dX2_takeItem_82 : decode cX2_takeItem 82 = .ok (.aload_n 0, 1) := by decide +kernel
theorem dX2_takeItem_83 : decode cX2_takeItem 83 = .ok (.iload_n 2, 1) := by decide +kernel
theorem dX2_takeItem_84 : decode cX2_takeItem 84 = .ok (.iload_n 3, 1) := by decide +kernel
theorem dX2_takeItem_85 : decode cX2_takeItem 85 = .ok (.invokevirtual 70, 3) := by decide +kernel
theorem dX2_takeItem_88 : decode cX2_takeItem 88 = .ok (.ireturn, 1) := by decide +kernel
theorem dX2_takeItem_89 : decode cX2_takeItem 89 = .ok (.aload_n 0, 1) := by decide +kernel
theorem dX2_takeItem_90 : decode cX2_takeItem 90 = .ok (.iload_n 2, 1) := by decide +kernel
theorem dX2_takeItem_91 : decode cX2_takeItem 91 = .ok (.iload_n 3, 1) := by decide +kernel
theorem dX2_takeItem_92 : decode cX2_takeItem 92 = .ok (.iload 4, 2) := by decide +kernel
theorem dX2_takeItem_94 : decode cX2_takeItem 94 = .ok (.invokevirtual 73, 3) := by decide +kernel
theorem dX2_takeItem_97 : decode cX2_takeItem 97 = .ok (.ireturn, 1) := by decide +kernel
theorem dX2_takeItem_98 : decode cX2_takeItem 98 = .ok (.aload_n 0, 1) := by decide +kernel
theorem dX2_takeItem_99 : decode cX2_takeItem 99 = .ok (.iload_n 2, 1) := by decide +kernel
theorem dX2_takeItem_100 : decode cX2_takeItem 100 = .ok (.iload_n 3, 1) := by decide +kernel
theorem dX2_takeItem_101 : decode cX2_takeItem 101 = .ok (.invokevirtual 77, 3) := by decide +kernel
theorem dX2_takeItem_104 : decode cX2_takeItem 104 = .ok (.ireturn, 1) := by decide +kernel
theorem dX2_takeItem_105 : decode cX2_takeItem 105 = .ok (.iconst 0, 1) := by decide +kernel
theorem dX2_takeItem_106 : decode cX2_takeItem 106 = .ok (.ireturn, 1) := by decide +kernel
theorem dX2_takePosts_0 : decode cX2_takePosts 0 = .ok (.aload_n 0, 1) := by decide +kernel
theorem dX2_takePosts_1 : decode cX2_takePosts 1 = .ok (.getfield 55, 3) := by decide +kernel
theorem dX2_takePosts_4 : decode cX2_takePosts 4 = .ok (.ifCond .ne 13, 3) := by decide +kernel
theorem dX2_takePosts_7 : decode cX2_takePosts 7 = .ok (.iload_n 1, 1) := by decide +kernel
theorem dX2_takePosts_8 : decode cX2_takePosts 8 = .ok (.iconst 5, 1) := by decide +kernel
theorem dX2_takePosts_9 : decode cX2_takePosts 9 = .ok (.bipush 16, 2) := by decide +kernel
theorem dX2_takePosts_11 : decode cX2_takePosts 11 = .ok (.invokestatic 80, 3) := by decide +kernel
theorem dX2_takePosts_14 : decode cX2_takePosts 14 = .ok (.ifCond .ne 5, 3) := by decide +kernel
theorem dX2_takePosts_17 : decode cX2_takePosts 17 = .ok (.iconst 0, 1) := by decide +kernel
theorem dX2_takePosts_18 : decode cX2_takePosts 18 = .ok (.ireturn, 1) := by decide +kernel
theorem dX2_takePosts_19 : decode cX2_takePosts 19 = .ok (.aload_n 0, 1) := by decide +kernel
theorem dX2_takePosts_20 : decode cX2_takePosts 20 = .ok (.iload_n 1, 1) := by decide +kernel
theorem dX2_takePosts_21 : decode cX2_takePosts 21 = .ok (.putfield 36, 3) := by decide +kernel
theorem dX2_takePosts_24 : decode cX2_takePosts 24 = .ok (.iconst 1, 1) := by decide +kernel
theorem dX2_takePosts_25 : decode cX2_takePosts 25 = .ok (.ireturn, 1) := by decide +kernel
theorem dX2_takeFirstYard_0 : decode cX2_takeFirstYard 0 = .ok (.iload_n 1, 1) := by decide +kernel
theorem dX2_takeFirstYard_1 : decode cX2_takeFirstYard 1 = .ok (.iconst 1, 1) := by decide +kernel
theorem dX2_takeFirstYard_2 : decode cX2_takeFirstYard 2 = .ok (.aload_n 0, 1) := by decide +kernel
theorem dX2_takeFirstYard_3 : decode cX2_takeFirstYard 3 = .ok (.getfield 36, 3) := by decide +kernel
theorem dX2_takeFirstYard_6 : decode cX2_takeFirstYard 6 = .ok (.iconst 2, 1) := by decide +kernel
theorem dX2_takeFirstYard_7 : decode cX2_takeFirstYard 7 = .ok (.isub, 1) := by decide +kernel
theorem dX2_takeFirstYard_8 : decode cX2_takeFirstYard 8 = .ok (.invokestatic 80, 3) := by decide +kernel
theorem dX2_takeFirstYard_11 : decode cX2_takeFirstYard 11 = .ok (.ifCond .eq 10, 3) := by decide +kernel
theorem dX2_takeFirstYard_14 : decode cX2_takeFirstYard 14 = .ok (.iload_n 2, 1) := by decide +kernel
theorem dX2_takeFirstYard_15 : decode cX2_takeFirstYard 15 = .ok (.invokestatic 83, 3) := by decide +kernel
theorem dX2_takeFirstYard_18 : decode cX2_takeFirstYard 18 = .ok (.ifCond .ne 5, 3) := by decide +kernel
theorem dX2_takeFirstYard_21 : decode cX2_takeFirstYard 21 = .ok (.iconst 0, 1) := by decide +kernel
theorem dX2_takeFirstYard_22 : decode cX2_takeFirstYard 22 = .ok (.ireturn, 1) := by decide +kernel
theorem dX2_takeFirstYard_23 : decode cX2_takeFirstYard 23 = .ok (.aload_n 0, 1) := by decide +kernel
theorem dX2_takeFirstYard_24 : decode cX2_takeFirstYard 24 = .ok (.getfield 9, 3) := by decide +kernel
theorem dX2_takeFirstYard_27 : decode cX2_takeFirstYard 27 = .ok (.iload_n 1, 1) := by decide +kernel
theorem dX2_takeFirstYard_28 : decode cX2_takeFirstYard 28 = .ok (.iload_n 2, 1) := by decide +kernel
theorem dX2_takeFirstYard_29 : decode cX2_takeFirstYard 29 = .ok (.iastore, 1) := by decide +kernel
theorem dX2_takeFirstYard_30 : decode cX2_takeFirstYard 30 = .ok (.iconst 1, 1) := by decide +kernel
theorem dX2_takeFirstYard_31 : decode cX2_takeFirstYard 31 = .ok (.ireturn, 1) := by decide +kernel
theorem dX2_takeWalker_0 : decode cX2_takeWalker 0 = .ok (.aload_n 0, 1) := by decide +kernel
theorem dX2_takeWalker_1 : decode cX2_takeWalker 1 = .ok (.getfield 40, 3) := by decide +kernel
theorem dX2_takeWalker_4 : decode cX2_takeWalker 4 = .ok (.iconst 4, 1) := by decide +kernel
theorem dX2_takeWalker_5 : decode cX2_takeWalker 5 = .ok (.if_icmp .ge 22, 3) := by decide +kernel
theorem dX2_takeWalker_8 : decode cX2_takeWalker 8 = .ok (.iload_n 1, 1) := by decide +kernel
theorem dX2_takeWalker_9 : decode cX2_takeWalker 9 = .ok (.iconst 0, 1) := by decide +kernel
theorem dX2_takeWalker_10 : decode cX2_takeWalker 10 = .ok (.iconst 4, 1) := by decide +kernel
theorem dX2_takeWalker_11 : decode cX2_takeWalker 11 = .ok (.invokestatic 80, 3) := by decide +kernel
theorem dX2_takeWalker_14 : decode cX2_takeWalker 14 = .ok (.ifCond .eq 13, 3) := by decide +kernel
theorem dX2_takeWalker_17 : decode cX2_takeWalker 17 = .ok (.iload_n 2, 1) := by decide +kernel
theorem dX2_takeWalker_18 : decode cX2_takeWalker 18 = .ok (.iconst 0, 1) := by decide +kernel
theorem dX2_takeWalker_19 : decode cX2_takeWalker 19 = .ok (.bipush 9, 2) := by decide +kernel
theorem dX2_takeWalker_21 : decode cX2_takeWalker 21 = .ok (.invokestatic 80, 3) := by decide +kernel
theorem dX2_takeWalker_24 : decode cX2_takeWalker 24 = .ok (.ifCond .ne 5, 3) := by decide +kernel
theorem dX2_takeWalker_27 : decode cX2_takeWalker 27 = .ok (.iconst 0, 1) := by decide +kernel
theorem dX2_takeWalker_28 : decode cX2_takeWalker 28 = .ok (.ireturn, 1) := by decide +kernel
theorem dX2_takeWalker_29 : decode cX2_takeWalker 29 = .ok (.aload_n 0, 1) := by decide +kernel
theorem dX2_takeWalker_30 : decode cX2_takeWalker 30 = .ok (.getfield 15, 3) := by decide +kernel
theorem dX2_takeWalker_33 : decode cX2_takeWalker 33 = .ok (.aload_n 0, 1) := by decide +kernel
theorem dX2_takeWalker_34 : decode cX2_takeWalker 34 = .ok (.getfield 40, 3) := by decide +kernel
theorem dX2_takeWalker_37 : decode cX2_takeWalker 37 = .ok (.iload_n 1, 1) := by decide +kernel
theorem dX2_takeWalker_38 : decode cX2_takeWalker 38 = .ok (.iastore, 1) := by decide +kernel
theorem dX2_takeWalker_39 : decode cX2_takeWalker 39 = .ok (.aload_n 0, 1) := by decide +kernel
theorem dX2_takeWalker_40 : decode cX2_takeWalker 40 = .ok (.getfield 18, 3) := by decide +kernel
theorem dX2_takeWalker_43 : decode cX2_takeWalker 43 = .ok (.aload_n 0, 1) := by decide +kernel
theorem dX2_takeWalker_44 : decode cX2_takeWalker 44 = .ok (.getfield 40, 3) := by decide +kernel
theorem dX2_takeWalker_47 : decode cX2_takeWalker 47 = .ok (.iload_n 2, 1) := by decide +kernel
theorem dX2_takeWalker_48 : decode cX2_takeWalker 48 = .ok (.iastore, 1) := by decide +kernel
theorem dX2_takeWalker_49 : decode cX2_takeWalker 49 = .ok (.aload_n 0, 1) := by decide +kernel
theorem dX2_takeWalker_50 : decode cX2_takeWalker 50 = .ok (.dup, 1) := by decide +kernel
theorem dX2_takeWalker_51 : decode cX2_takeWalker 51 = .ok (.getfield 40, 3) := by decide +kernel
theorem dX2_takeWalker_54 : decode cX2_takeWalker 54 = .ok (.iconst 1, 1) := by decide +kernel
theorem dX2_takeWalker_55 : decode cX2_takeWalker 55 = .ok (.iadd, 1) := by decide +kernel
theorem dX2_takeWalker_56 : decode cX2_takeWalker 56 = .ok (.putfield 40, 3) := by decide +kernel
theorem dX2_takeWalker_59 : decode cX2_takeWalker 59 = .ok (.iconst 1, 1) := by decide +kernel
theorem dX2_takeWalker_60 : decode cX2_takeWalker 60 = .ok (.ireturn, 1) := by decide +kernel
theorem dX2_takeThing_0 : decode cX2_takeThing 0 = .ok (.aload_n 0, 1) := by decide +kernel
theorem dX2_takeThing_1 : decode cX2_takeThing 1 = .ok (.getfield 43, 3) := by decide +kernel
theorem dX2_takeThing_4 : decode cX2_takeThing 4 = .ok (.bipush 6, 2) := by decide +kernel
theorem dX2_takeThing_6 : decode cX2_takeThing 6 = .ok (.if_icmp .ge 24, 3) := by decide +kernel
theorem dX2_takeThing_9 : decode cX2_takeThing 9 = .ok (.iload_n 1, 1) := by decide +kernel
theorem dX2_takeThing_10 : decode cX2_takeThing 10 = .ok (.iconst 0, 1) := by decide +kernel
theorem dX2_takeThing_11 : decode cX2_takeThing 11 = .ok (.aload_n 0, 1) := by decide +kernel
theorem dX2_takeThing_12 : decode cX2_takeThing 12 = .ok (.getfield 36, 3) := by decide +kernel
theorem dX2_takeThing_15 : decode cX2_takeThing 15 = .ok (.iconst 1, 1) := by decide +kernel
theorem dX2_takeThing_16 : decode cX2_takeThing 16 = .ok (.isub, 1) := by decide +kernel
theorem dX2_takeThing_17 : decode cX2_takeThing 17 = .ok (.invokestatic 80, 3) := by decide +kernel
theorem dX2_takeThing_20 : decode cX2_takeThing 20 = .ok (.ifCond .eq 10, 3) := by decide +kernel
theorem dX2_takeThing_23 : decode cX2_takeThing 23 = .ok (.iload_n 2, 1) := by decide +kernel
theorem dX2_takeThing_24 : decode cX2_takeThing 24 = .ok (.invokestatic 83, 3) := by decide +kernel
theorem dX2_takeThing_27 : decode cX2_takeThing 27 = .ok (.ifCond .ne 5, 3) := by decide +kernel
theorem dX2_takeThing_30 : decode cX2_takeThing 30 = .ok (.iconst 0, 1) := by decide +kernel
theorem dX2_takeThing_31 : decode cX2_takeThing 31 = .ok (.ireturn, 1) := by decide +kernel
theorem dX2_takeThing_32 : decode cX2_takeThing 32 = .ok (.aload_n 0, 1) := by decide +kernel
theorem dX2_takeThing_33 : decode cX2_takeThing 33 = .ok (.getfield 21, 3) := by decide +kernel
theorem dX2_takeThing_36 : decode cX2_takeThing 36 = .ok (.aload_n 0, 1) := by decide +kernel
theorem dX2_takeThing_37 : decode cX2_takeThing 37 = .ok (.getfield 43, 3) := by decide +kernel
theorem dX2_takeThing_40 : decode cX2_takeThing 40 = .ok (.iload_n 1, 1) := by decide +kernel
theorem dX2_takeThing_41 : decode cX2_takeThing 41 = .ok (.iastore, 1) := by decide +kernel
theorem dX2_takeThing_42 : decode cX2_takeThing 42 = .ok (.aload_n 0, 1) := by decide +kernel
theorem dX2_takeThing_43 : decode cX2_takeThing 43 = .ok (.getfield 24, 3) := by decide +kernel
theorem dX2_takeThing_46 : decode cX2_takeThing 46 = .ok (.aload_n 0, 1) := by decide +kernel
theorem dX2_takeThing_47 : decode cX2_takeThing 47 = .ok (.getfield 43, 3) := by decide +kernel
theorem dX2_takeThing_50 : decode cX2_takeThing 50 = .ok (.iload_n 2, 1) := by decide +kernel
theorem dX2_takeThing_51 : decode cX2_takeThing 51 = .ok (.iastore, 1) := by decide +kernel
theorem dX2_takeThing_52 : decode cX2_takeThing 52 = .ok (.aload_n 0, 1) := by decide +kernel
theorem dX2_takeThing_53 : decode cX2_takeThing 53 = .ok (.dup, 1) := by decide +kernel
theorem dX2_takeThing_54 : decode cX2_takeThing 54 = .ok (.getfield 43, 3) := by decide +kernel
theorem dX2_takeThing_57 : decode cX2_takeThing 57 = .ok (.iconst 1, 1) := by decide +kernel
theorem dX2_takeThing_58 : decode cX2_takeThing 58 = .ok (.iadd, 1) := by decide +kernel
theorem dX2_takeThing_59 : decode cX2_takeThing 59 = .ok (.putfield 43, 3) := by decide +kernel
theorem dX2_takeThing_62 : decode cX2_takeThing 62 = .ok (.iconst 1, 1) := by decide +kernel
theorem dX2_takeThing_63 : decode cX2_takeThing 63 = .ok (.ireturn, 1) := by decide +kernel
theorem dX2_takeTold_0 : decode cX2_takeTold 0 = .ok (.aload_n 0, 1) := by decide +kernel
theorem dX2_takeTold_1 : decode cX2_takeTold 1 = .ok (.getfield 46, 3) := by decide +kernel
theorem dX2_takeTold_4 : decode cX2_takeTold 4 = .ok (.bipush 8, 2) := by decide +kernel
theorem dX2_takeTold_6 : decode cX2_takeTold 6 = .ok (.if_icmp .ge 41, 3) := by decide +kernel
theorem dX2_takeTold_9 : decode cX2_takeTold 9 = .ok (.iload_n 1, 1) := by decide +kernel
theorem dX2_takeTold_10 : decode cX2_takeTold 10 = .ok (.iconst 0, 1) := by decide +kernel
theorem dX2_takeTold_11 : decode cX2_takeTold 11 = .ok (.bipush 9, 2) := by decide +kernel
theorem dX2_takeTold_13 : decode cX2_takeTold 13 = .ok (.invokestatic 80, 3) := by decide +kernel
theorem dX2_takeTold_16 : decode cX2_takeTold 16 = .ok (.ifCond .eq 31, 3) := by decide +kernel
theorem dX2_takeTold_19 : decode cX2_takeTold 19 = .ok (.iload_n 2, 1) := by decide +kernel
theorem dX2_takeTold_20 : decode cX2_takeTold 20 = .ok (.iconst 0, 1) := by decide +kernel
theorem dX2_takeTold_21 : decode cX2_takeTold 21 = .ok (.aload_n 0, 1) := by decide +kernel
theorem dX2_takeTold_22 : decode cX2_takeTold 22 = .ok (.getfield 40, 3) := by decide +kernel
theorem dX2_takeTold_25 : decode cX2_takeTold 25 = .ok (.iconst 1, 1) := by decide +kernel
theorem dX2_takeTold_26 : decode cX2_takeTold 26 = .ok (.isub, 1) := by decide +kernel
theorem dX2_takeTold_27 : decode cX2_takeTold 27 = .ok (.invokestatic 80, 3) := by decide +kernel
theorem dX2_takeTold_30 : decode cX2_takeTold 30 = .ok (.ifCond .eq 17, 3) := by decide +kernel
theorem dX2_takeTold_33 : decode cX2_takeTold 33 = .ok (.iload_n 3, 1) := by decide +kernel
theorem dX2_takeTold_34 : decode cX2_takeTold 34 = .ok (.iconst 0, 1) := by decide +kernel
theorem dX2_takeTold_35 : decode cX2_takeTold 35 = .ok (.aload_n 0, 1) := by decide +kernel
theorem dX2_takeTold_36 : decode cX2_takeTold 36 = .ok (.getfield 43, 3) := by decide +kernel
theorem dX2_takeTold_39 : decode cX2_takeTold 39 = .ok (.iconst 1, 1) := by decide +kernel
theorem dX2_takeTold_40 : decode cX2_takeTold 40 = .ok (.isub, 1) := by decide +kernel
theorem dX2_takeTold_41 : decode cX2_takeTold 41 = .ok (.invokestatic 80, 3) := by decide +kernel
theorem dX2_takeTold_44 : decode cX2_takeTold 44 = .ok (.ifCond .ne 5, 3) := by decide +kernel
theorem dX2_takeTold_47 : decode cX2_takeTold 47 = .ok (.iconst 0, 1) := by decide +kernel
theorem dX2_takeTold_48 : decode cX2_takeTold 48 = .ok (.ireturn, 1) := by decide +kernel
theorem dX2_takeTold_49 : decode cX2_takeTold 49 = .ok (.aload_n 0, 1) := by decide +kernel
theorem dX2_takeTold_50 : decode cX2_takeTold 50 = .ok (.getfield 27, 3) := by decide +kernel
theorem dX2_takeTold_53 : decode cX2_takeTold 53 = .ok (.aload_n 0, 1) := by decide +kernel
theorem dX2_takeTold_54 : decode cX2_takeTold 54 = .ok (.getfield 46, 3) := by decide +kernel
theorem dX2_takeTold_57 : decode cX2_takeTold 57 = .ok (.iload_n 1, 1) := by decide +kernel
theorem dX2_takeTold_58 : decode cX2_takeTold 58 = .ok (.iastore, 1) := by decide +kernel
theorem dX2_takeTold_59 : decode cX2_takeTold 59 = .ok (.aload_n 0, 1) := by decide +kernel
theorem dX2_takeTold_60 : decode cX2_takeTold 60 = .ok (.getfield 30, 3) := by decide +kernel
theorem dX2_takeTold_63 : decode cX2_takeTold 63 = .ok (.aload_n 0, 1) := by decide +kernel
theorem dX2_takeTold_64 : decode cX2_takeTold 64 = .ok (.getfield 46, 3) := by decide +kernel
theorem dX2_takeTold_67 : decode cX2_takeTold 67 = .ok (.iload_n 2, 1) := by decide +kernel
theorem dX2_takeTold_68 : decode cX2_takeTold 68 = .ok (.iastore, 1) := by decide +kernel
theorem dX2_takeTold_69 : decode cX2_takeTold 69 = .ok (.aload_n 0, 1) := by decide +kernel
theorem dX2_takeTold_70 : decode cX2_takeTold 70 = .ok (.getfield 33, 3) := by decide +kernel
theorem dX2_takeTold_73 : decode cX2_takeTold 73 = .ok (.aload_n 0, 1) := by decide +kernel
theorem dX2_takeTold_74 : decode cX2_takeTold 74 = .ok (.getfield 46, 3) := by decide +kernel
theorem dX2_takeTold_77 : decode cX2_takeTold 77 = .ok (.iload_n 3, 1) := by decide +kernel
theorem dX2_takeTold_78 : decode cX2_takeTold 78 = .ok (.iastore, 1) := by decide +kernel
theorem dX2_takeTold_79 : decode cX2_takeTold 79 = .ok (.aload_n 0, 1) := by decide +kernel
theorem dX2_takeTold_80 : decode cX2_takeTold 80 = .ok (.dup, 1) := by decide +kernel
theorem dX2_takeTold_81 : decode cX2_takeTold 81 = .ok (.getfield 46, 3) := by decide +kernel
theorem dX2_takeTold_84 : decode cX2_takeTold 84 = .ok (.iconst 1, 1) := by decide +kernel
theorem dX2_takeTold_85 : decode cX2_takeTold 85 = .ok (.iadd, 1) := by decide +kernel
theorem dX2_takeTold_86 : decode cX2_takeTold 86 = .ok (.putfield 46, 3) := by decide +kernel
theorem dX2_takeTold_89 : decode cX2_takeTold 89 = .ok (.iconst 1, 1) := by decide +kernel
theorem dX2_takeTold_90 : decode cX2_takeTold 90 = .ok (.ireturn, 1) := by decide +kernel
theorem dX2_takeFog_0 : decode cX2_takeFog 0 = .ok (.aload_n 0, 1) := by decide +kernel
theorem dX2_takeFog_1 : decode cX2_takeFog 1 = .ok (.getfield 49, 3) := by decide +kernel
theorem dX2_takeFog_4 : decode cX2_takeFog 4 = .ok (.iconst 2, 1) := by decide +kernel
theorem dX2_takeFog_5 : decode cX2_takeFog 5 = .ok (.if_icmp .ge 23, 3) := by decide +kernel
theorem dX2_takeFog_8 : decode cX2_takeFog 8 = .ok (.iload_n 1, 1) := by decide +kernel
theorem dX2_takeFog_9 : decode cX2_takeFog 9 = .ok (.iconst 0, 1) := by decide +kernel
theorem dX2_takeFog_10 : decode cX2_takeFog 10 = .ok (.bipush 9, 2) := by decide +kernel
theorem dX2_takeFog_12 : decode cX2_takeFog 12 = .ok (.invokestatic 80, 3) := by decide +kernel
theorem dX2_takeFog_15 : decode cX2_takeFog 15 = .ok (.ifCond .eq 13, 3) := by decide +kernel
theorem dX2_takeFog_18 : decode cX2_takeFog 18 = .ok (.iload_n 2, 1) := by decide +kernel
theorem dX2_takeFog_19 : decode cX2_takeFog 19 = .ok (.iload_n 1, 1) := by decide +kernel
theorem dX2_takeFog_20 : decode cX2_takeFog 20 = .ok (.bipush 9, 2) := by decide +kernel
theorem dX2_takeFog_22 : decode cX2_takeFog 22 = .ok (.invokestatic 80, 3) := by decide +kernel
theorem dX2_takeFog_25 : decode cX2_takeFog 25 = .ok (.ifCond .ne 5, 3) := by decide +kernel
theorem dX2_takeFog_28 : decode cX2_takeFog 28 = .ok (.iconst 0, 1) := by decide +kernel
theorem dX2_takeFog_29 : decode cX2_takeFog 29 = .ok (.ireturn, 1) := by decide +kernel
theorem dX2_takeFog_30 : decode cX2_takeFog 30 = .ok (.aload_n 0, 1) := by decide +kernel
theorem dX2_takeFog_31 : decode cX2_takeFog 31 = .ok (.dup, 1) := by decide +kernel
theorem dX2_takeFog_32 : decode cX2_takeFog 32 = .ok (.getfield 49, 3) := by decide +kernel
theorem dX2_takeFog_35 : decode cX2_takeFog 35 = .ok (.iconst 1, 1) := by decide +kernel
theorem dX2_takeFog_36 : decode cX2_takeFog 36 = .ok (.iadd, 1) := by decide +kernel
theorem dX2_takeFog_37 : decode cX2_takeFog 37 = .ok (.putfield 49, 3) := by decide +kernel
theorem dX2_takeFog_40 : decode cX2_takeFog 40 = .ok (.iload_n 1, 1) := by decide +kernel
theorem dX2_takeFog_41 : decode cX2_takeFog 41 = .ok (.istore_n 3, 1) := by decide +kernel
theorem dX2_takeFog_42 : decode cX2_takeFog 42 = .ok (.iload_n 3, 1) := by decide +kernel
theorem dX2_takeFog_43 : decode cX2_takeFog 43 = .ok (.iload_n 2, 1) := by decide +kernel
theorem dX2_takeFog_44 : decode cX2_takeFog 44 = .ok (.if_icmp .gt 21, 3) := by decide +kernel
theorem dX2_takeFog_47 : decode cX2_takeFog 47 = .ok (.aload_n 0, 1) := by decide +kernel
theorem dX2_takeFog_48 : decode cX2_takeFog 48 = .ok (.dup, 1) := by decide +kernel
theorem dX2_takeFog_49 : decode cX2_takeFog 49 = .ok (.getfield 52, 3) := by decide +kernel
theorem dX2_takeFog_52 : decode cX2_takeFog 52 = .ok (.iconst 1, 1) := by decide +kernel
theorem dX2_takeFog_53 : decode cX2_takeFog 53 = .ok (.iload_n 3, 1) := by decide +kernel
theorem dX2_takeFog_54 : decode cX2_takeFog 54 = .ok (.ishl, 1) := by decide +kernel
theorem dX2_takeFog_55 : decode cX2_takeFog 55 = .ok (.ior, 1) := by decide +kernel
theorem dX2_takeFog_56 : decode cX2_takeFog 56 = .ok (.putfield 52, 3) := by decide +kernel
theorem dX2_takeFog_59 : decode cX2_takeFog 59 = .ok (.iinc 3 1, 3) := by decide +kernel
theorem dX2_takeFog_62 : decode cX2_takeFog 62 = .ok (.goto (-20), 3) := by decide +kernel
theorem dX2_takeFog_65 : decode cX2_takeFog 65 = .ok (.iconst 1, 1) := by decide +kernel
theorem dX2_takeFog_66 : decode cX2_takeFog 66 = .ok (.ireturn, 1) := by decide +kernel
theorem dX2_walksOn_0 : decode cX2_walksOn 0 = .ok (.iconst 0, 1) := by decide +kernel
theorem dX2_walksOn_1 : decode cX2_walksOn 1 = .ok (.istore_n 2, 1) := by decide +kernel
theorem dX2_walksOn_2 : decode cX2_walksOn 2 = .ok (.iconst 0, 1) := by decide +kernel
theorem dX2_walksOn_3 : decode cX2_walksOn 3 = .ok (.istore_n 3, 1) := by decide +kernel
theorem dX2_walksOn_4 : decode cX2_walksOn 4 = .ok (.iload_n 3, 1) := by decide +kernel
theorem dX2_walksOn_5 : decode cX2_walksOn 5 = .ok (.aload_n 0, 1) := by decide +kernel
theorem dX2_walksOn_6 : decode cX2_walksOn 6 = .ok (.getfield 46, 3) := by decide +kernel
theorem dX2_walksOn_9 : decode cX2_walksOn 9 = .ok (.if_icmp .ge 25, 3) := by decide +kernel
theorem dX2_walksOn_12 : decode cX2_walksOn 12 = .ok (.aload_n 0, 1) := by decide +kernel
theorem dX2_walksOn_13 : decode cX2_walksOn 13 = .ok (.getfield 27, 3) := by decide +kernel
theorem dX2_walksOn_16 : decode cX2_walksOn 16 = .ok (.iload_n 3, 1) := by decide +kernel
theorem dX2_walksOn_17 : decode cX2_walksOn 17 = .ok (.iaload, 1) := by decide +kernel
theorem dX2_walksOn_18 : decode cX2_walksOn 18 = .ok (.iload_n 1, 1) := by decide +kernel
theorem dX2_walksOn_19 : decode cX2_walksOn 19 = .ok (.bipush 10, 2) := by decide +kernel
theorem dX2_walksOn_21 : decode cX2_walksOn 21 = .ok (.irem, 1) := by decide +kernel
theorem dX2_walksOn_22 : decode cX2_walksOn 22 = .ok (.if_icmp .ne 6, 3) := by decide +kernel
theorem dX2_walksOn_25 : decode cX2_walksOn 25 = .ok (.iinc 2 1, 3) := by decide +kernel
theorem dX2_walksOn_28 : decode cX2_walksOn 28 = .ok (.iinc 3 1, 3) := by decide +kernel
theorem dX2_walksOn_31 : decode cX2_walksOn 31 = .ok (.goto (-27), 3) := by decide +kernel
theorem dX2_walksOn_34 : decode cX2_walksOn 34 = .ok (.iload_n 2, 1) := by decide +kernel
theorem dX2_walksOn_35 : decode cX2_walksOn 35 = .ok (.ireturn, 1) := by decide +kernel
theorem dX2_isFoggy_0 : decode cX2_isFoggy 0 = .ok (.aload_n 0, 1) := by decide +kernel
theorem dX2_isFoggy_1 : decode cX2_isFoggy 1 = .ok (.getfield 52, 3) := by decide +kernel
theorem dX2_isFoggy_4 : decode cX2_isFoggy 4 = .ok (.iload_n 1, 1) := by decide +kernel
theorem dX2_isFoggy_5 : decode cX2_isFoggy 5 = .ok (.bipush 10, 2) := by decide +kernel
theorem dX2_isFoggy_7 : decode cX2_isFoggy 7 = .ok (.irem, 1) := by decide +kernel
theorem dX2_isFoggy_8 : decode cX2_isFoggy 8 = .ok (.ishr, 1) := by decide +kernel
theorem dX2_isFoggy_9 : decode cX2_isFoggy 9 = .ok (.iconst 1, 1) := by decide +kernel
theorem dX2_isFoggy_10 : decode cX2_isFoggy 10 = .ok (.iand, 1) := by decide +kernel
theorem dX2_isFoggy_11 : decode cX2_isFoggy 11 = .ok (.iconst 1, 1) := by decide +kernel
theorem dX2_isFoggy_12 : decode cX2_isFoggy 12 = .ok (.if_icmp .ne 7, 3) := by decide +kernel
theorem dX2_isFoggy_15 : decode cX2_isFoggy 15 = .ok (.iconst 1, 1) := by decide +kernel
theorem dX2_isFoggy_16 : decode cX2_isFoggy 16 = .ok (.goto 4, 3) := by decide +kernel
theorem dX2_isFoggy_19 : decode cX2_isFoggy 19 = .ok (.iconst 0, 1) := by decide +kernel
theorem dX2_isFoggy_20 : decode cX2_isFoggy 20 = .ok (.ireturn, 1) := by decide +kernel
theorem dX3_init_0 : decode cX3_init 0 = .ok (.aload_n 0, 1) := by decide +kernel
theorem dX3_init_1 : decode cX3_init 1 = .ok (.invokespecial 3, 3) := by decide +kernel
theorem dX3_init_4 : decode cX3_init 4 = .ok (.aload_n 0, 1) := by decide +kernel
theorem dX3_init_5 : decode cX3_init 5 = .ok (.iconst 3, 1) := by decide +kernel
theorem dX3_init_6 : decode cX3_init 6 = .ok (.newarray .int, 2) := by decide +kernel
theorem dX3_init_8 : decode cX3_init 8 = .ok (.putfield 11, 3) := by decide +kernel
theorem dX3_init_11 : decode cX3_init 11 = .ok (.aload_n 0, 1) := by decide +kernel
theorem dX3_init_12 : decode cX3_init 12 = .ok (.aload_n 1, 1) := by decide +kernel
theorem dX3_init_13 : decode cX3_init 13 = .ok (.putfield 15, 3) := by decide +kernel
theorem dX3_init_16 : decode cX3_init 16 = .ok (.return_, 1) := by decide +kernel
theorem dX3_readInto_0 : decode cX3_readInto 0 = .ok (.aload_n 1, 1) := by decide +kernel
theorem dX3_readInto_1 : decode cX3_readInto 1 = .ok (.invokevirtual 19, 3) := by decide +kernel
theorem dX3_readInto_4 : decode cX3_readInto 4 = .ok (.iconst 0, 1) := by decide +kernel
theorem dX3_readInto_5 : decode cX3_readInto 5 = .ok (.istore_n 2, 1) := by decide +kernel
theorem dX3_readInto_6 : decode cX3_readInto 6 = .ok (.iconst 0, 1) := by decide +kernel
theorem dX3_readInto_7 : decode cX3_readInto 7 = .ok (.istore_n 3, 1) := by decide +kernel
theorem dX3_readInto_8 : decode cX3_readInto 8 = .ok (.iload_n 3, 1) := by decide +kernel
theorem dX3_readInto_9 : decode cX3_readInto 9 = .ok (.sipush 200, 3) := by decide +kernel
theorem dX3_readInto_12 : decode cX3_readInto 12 = .ok (.if_icmp .ge 82, 3) := by decide +kernel
theorem dX3_readInto_15 : decode cX3_readInto 15 = .ok (.iload_n 2, 1) := by decide +kernel
theorem dX3_readInto_16 : decode cX3_readInto 16 = .ok (.aload_n 0, 1) := by decide +kernel
theorem dX3_readInto_17 : decode cX3_readInto 17 = .ok (.getfield 15, 3) := by decide +kernel
theorem dX3_readInto_20 : decode cX3_readInto 20 = .ok (.getfield 24, 3) := by decide +kernel
theorem dX3_readInto_23 : decode cX3_readInto 23 = .ok (.if_icmp .ge 71, 3) := by decide +kernel
theorem dX3_readInto_26 : decode cX3_readInto 26 = .ok (.aload_n 0, 1) := by decide +kernel
theorem dX3_readInto_27 : decode cX3_readInto 27 = .ok (.getfield 15, 3) := by decide +kernel
theorem dX3_readInto_30 : decode cX3_readInto 30 = .ok (.iload_n 2, 1) := by decide +kernel
theorem dX3_readInto_31 : decode cX3_readInto 31 = .ok (.invokevirtual 30, 3) := by decide +kernel
theorem dX3_readInto_34 : decode cX3_readInto 34 = .ok (.istore 4, 2) := by decide +kernel
theorem dX3_readInto_36 : decode cX3_readInto 36 = .ok (.aload_n 0, 1) := by decide +kernel
theorem dX3_readInto_37 : decode cX3_readInto 37 = .ok (.iload_n 2, 1) := by decide +kernel
theorem dX3_readInto_38 : decode cX3_readInto 38 = .ok (.iconst 1, 1) := by decide +kernel
theorem dX3_readInto_39 : decode cX3_readInto 39 = .ok (.iadd, 1) := by decide +kernel
theorem dX3_readInto_40 : decode cX3_readInto 40 = .ok (.iload 4, 2) := by decide +kernel
theorem dX3_readInto_42 : decode cX3_readInto 42 = .ok (.invokestatic 34, 3) := by decide +kernel
theorem dX3_readInto_45 : decode cX3_readInto 45 = .ok (.invokevirtual 37, 3) := by decide +kernel
theorem dX3_readInto_48 : decode cX3_readInto 48 = .ok (.istore 5, 2) := by decide +kernel
theorem dX3_readInto_50 : decode cX3_readInto 50 = .ok (.iload 5, 2) := by decide +kernel
theorem dX3_readInto_52 : decode cX3_readInto 52 = .ok (.iconst (-1), 1) := by decide +kernel
theorem dX3_readInto_53 : decode cX3_readInto 53 = .ok (.if_icmp .eq 30, 3) := by decide +kernel
theorem dX3_readInto_56 : decode cX3_readInto 56 = .ok (.aload_n 1, 1) := by decide +kernel
theorem dX3_readInto_57 : decode cX3_readInto 57 = .ok (.iload 4, 2) := by decide +kernel
theorem dX3_readInto_59 : decode cX3_readInto 59 = .ok (.aload_n 0, 1) := by decide +kernel
theorem dX3_readInto_60 : decode cX3_readInto 60 = .ok (.getfield 11, 3) := by decide +kernel
theorem dX3_readInto_63 : decode cX3_readInto 63 = .ok (.iconst 0, 1) := by decide +kernel
theorem dX3_readInto_64 : decode cX3_readInto 64 = .ok (.iaload, 1) := by decide +kernel
theorem dX3_readInto_65 : decode cX3_readInto 65 = .ok (.aload_n 0, 1) := by decide +kernel
theorem dX3_readInto_66 : decode cX3_readInto 66 = .ok (.getfield 11, 3) := by decide +kernel
theorem dX3_readInto_69 : decode cX3_readInto 69 = .ok (.iconst 1, 1) := by decide +kernel
theorem dX3_readInto_70 : decode cX3_readInto 70 = .ok (.iaload, 1) := by decide +kernel
theorem dX3_readInto_71 : decode cX3_readInto 71 = .ok (.aload_n 0, 1) := by decide +kernel
theorem dX3_readInto_72 : decode cX3_readInto 72 = .ok (.getfield 11, 3) := by decide +kernel
theorem dX3_readInto_75 : decode cX3_readInto 75 = .ok (.iconst 2, 1) := by decide +kernel
theorem dX3_readInto_76 : decode cX3_readInto 76 = .ok (.iaload, 1) := by decide +kernel
theorem dX3_readInto_77 : decode cX3_readInto 77 = .ok (.invokevirtual 41, 3) := by decide +kernel
theorem dX3_readInto_80 : decode cX3_readInto 80 = .ok (.ifCond .ne 5, 3) := by decide +kernel
theorem dX3_readInto_83 : decode cX3_readInto 83 = .ok (.iload_n 2, 1) := by decide +kernel
theorem dX3_readInto_84 : decode cX3_readInto 84 = .ok (.ireturn, 1) := by decide +kernel
theorem dX3_readInto_85 : decode cX3_readInto 85 = .ok (.iload 5, 2) := by decide +kernel
theorem dX3_readInto_87 : decode cX3_readInto 87 = .ok (.istore_n 2, 1) := by decide +kernel
theorem dX3_readInto_88 : decode cX3_readInto 88 = .ok (.iinc 3 1, 3) := by decide +kernel
theorem dX3_readInto_91 : decode cX3_readInto 91 = .ok (.goto (-83), 3) := by decide +kernel
theorem dX3_readInto_94 : decode cX3_readInto 94 = .ok (.bipush (-4), 2) := by decide +kernel
theorem dX3_readInto_96 : decode cX3_readInto 96 = .ok (.ireturn, 1) := by decide +kernel
theorem dX3_numbersBehind_0 : decode cX3_numbersBehind 0 = .ok (.iload_n 0, 1) := by decide +kernel
theorem dX3_numbersBehind_1 : decode cX3_numbersBehind 1 = .ok (.tableswitch 101 100 119 #[99, 101, 97, 101, 101, 101, 101, 101, 101, 101, 95, 101, 97, 101, 101, 101, 97, 101, 101, 97], 95) := by decide +kernel
theorem dX3_numbersBehind_96 : decode cX3_numbersBehind 96 = .ok (.iconst 1, 1) := by decide +kernel
theorem dX3_numbersBehind_97 : decode cX3_numbersBehind 97 = .ok (.ireturn, 1) := by decide +kernel
theorem dX3_numbersBehind_98 : decode cX3_numbersBehind 98 = .ok (.iconst 2, 1) := by decide +kernel
theorem dX3_numbersBehind_99 : decode cX3_numbersBehind 99 = .ok (.ireturn, 1) := by decide +kernel
theorem dX3_numbersBehind_100 : decode cX3_numbersBehind 100 = .ok (.iconst 3, 1) := by decide +kernel
theorem dX3_numbersBehind_101 : decode cX3_numbersBehind 101 = .ok (.ireturn, 1) := by decide +kernel
theorem dX3_numbersBehind_102 : decode cX3_numbersBehind 102 = .ok (.iconst 0, 1) := by decide +kernel
theorem dX3_numbersBehind_103 : decode cX3_numbersBehind 103 = .ok (.ireturn, 1) := by decide +kernel
theorem dX3_readNumbers_0 : decode cX3_readNumbers 0 = .ok (.iload_n 2, 1) := by decide +kernel
theorem dX3_readNumbers_1 : decode cX3_readNumbers 1 = .ok (.iconst 1, 1) := by decide +kernel
theorem dX3_readNumbers_2 : decode cX3_readNumbers 2 = .ok (.if_icmp .lt 8, 3) := by decide +kernel
theorem dX3_readNumbers_5 : decode cX3_readNumbers 5 = .ok (.iload_n 2, 1) := by decide +kernel
theorem dX3_readNumbers_6 : decode cX3_readNumbers 6 = .ok (.iconst 3, 1) := by decide +kernel
theorem dX3_readNumbers_7 : decode cX3_readNumbers 7 = .ok (.if_icmp .le 5, 3) := by decide +kernel
theorem dX3_readNumbers_10 : decode cX3_readNumbers 10 = .ok (.iconst (-1), 1) := by decide +kernel
theorem dX3_readNumbers_11 : decode cX3_readNumbers 11 = .ok (.ireturn, 1) := by decide +kernel
theorem dX3_readNumbers_12 : decode cX3_readNumbers 12 = .ok (.iload_n 1, 1) := by decide +kernel
theorem dX3_readNumbers_13 : decode cX3_readNumbers 13 = .ok (.istore_n 3, 1) := by decide +kernel
theorem dX3_readNumbers_14 : decode cX3_readNumbers 14 = .ok (.iconst 0, 1) := by decide +kernel
theorem dX3_readNumbers_15 : decode cX3_readNumbers 15 = .ok (.istore 4, 2) := by decide +kernel
theorem dX3_readNumbers_17 : decode cX3_readNumbers 17 = .ok (.iload 4, 2) := by decide +kernel
theorem dX3_readNumbers_19 : decode cX3_readNumbers 19 = .ok (.iload_n 2, 1) := by decide +kernel
theorem dX3_readNumbers_20 : decode cX3_readNumbers 20 = .ok (.if_icmp .ge 93, 3) := by decide +kernel
theorem dX3_readNumbers_23 : decode cX3_readNumbers 23 = .ok (.aload_n 0, 1) := by decide +kernel
theorem dX3_readNumbers_24 : decode cX3_readNumbers 24 = .ok (.iload_n 3, 1) := by decide +kernel
theorem dX3_readNumbers_25 : decode cX3_readNumbers 25 = .ok (.invokevirtual 45, 3) := by decide +kernel
theorem dX3_readNumbers_28 : decode cX3_readNumbers 28 = .ok (.ifCond .ne 5, 3) := by decide +kernel
theorem dX3_readNumbers_31 : decode cX3_readNumbers 31 = .ok (.iconst (-1), 1) := by decide +kernel
theorem dX3_readNumbers_32 : decode cX3_readNumbers 32 = .ok (.ireturn, 1) := by decide +kernel
theorem dX3_readNumbers_33 : decode cX3_readNumbers 33 = .ok (.aload_n 0, 1) := by decide +kernel
theorem dX3_readNumbers_34 : decode cX3_readNumbers 34 = .ok (.iload_n 3, 1) := by decide +kernel
theorem dX3_readNumbers_35 : decode cX3_readNumbers 35 = .ok (.invokevirtual 49, 3) := by decide +kernel
theorem dX3_readNumbers_38 : decode cX3_readNumbers 38 = .ok (.istore 5, 2) := by decide +kernel
theorem dX3_readNumbers_40 : decode cX3_readNumbers 40 = .ok (.iinc 3 1, 3) := by decide +kernel
theorem dX3_readNumbers_43 : decode cX3_readNumbers 43 = .ok (.aload_n 0, 1) := by decide +kernel
theorem dX3_readNumbers_44 : decode cX3_readNumbers 44 = .ok (.iload_n 3, 1) := by decide +kernel
theorem dX3_readNumbers_45 : decode cX3_readNumbers 45 = .ok (.invokevirtual 45, 3) := by decide +kernel
theorem dX3_readNumbers_48 : decode cX3_readNumbers 48 = .ok (.ifCond .eq 19, 3) := by decide +kernel
theorem dX3_readNumbers_51 : decode cX3_readNumbers 51 = .ok (.bipush 10, 2) := by decide +kernel
theorem dX3_readNumbers_53 : decode cX3_readNumbers 53 = .ok (.iload 5, 2) := by decide +kernel
theorem dX3_readNumbers_55 : decode cX3_readNumbers 55 = .ok (.imul, 1) := by decide +kernel
theorem dX3_readNumbers_56 : decode cX3_readNumbers 56 = .ok (.aload_n 0, 1) := by decide +kernel
theorem dX3_readNumbers_57 : decode cX3_readNumbers 57 = .ok (.iload_n 3, 1) := by decide +kernel
theorem dX3_readNumbers_58 : decode cX3_readNumbers 58 = .ok (.invokevirtual 49, 3) := by decide +kernel
theorem dX3_readNumbers_61 : decode cX3_readNumbers 61 = .ok (.iadd, 1) := by decide +kernel
theorem dX3_readNumbers_62 : decode cX3_readNumbers 62 = .ok (.istore 5, 2) := by decide +kernel
theorem dX3_readNumbers_64 : decode cX3_readNumbers 64 = .ok (.iinc 3 1, 3) := by decide +kernel
theorem dX3_readNumbers_67 : decode cX3_readNumbers 67 = .ok (.aload_n 0, 1) := by decide +kernel
theorem dX3_readNumbers_68 : decode cX3_readNumbers 68 = .ok (.getfield 11, 3) := by decide +kernel
theorem dX3_readNumbers_71 : decode cX3_readNumbers 71 = .ok (.iload 4, 2) := by decide +kernel
theorem dX3_readNumbers_73 : decode cX3_readNumbers 73 = .ok (.iload 5, 2) := by decide +kernel
theorem dX3_readNumbers_75 : decode cX3_readNumbers 75 = .ok (.iastore, 1) := by decide +kernel
theorem dX3_readNumbers_76 : decode cX3_readNumbers 76 = .ok (.aload_n 0, 1) := by decide +kernel
theorem dX3_readNumbers_77 : decode cX3_readNumbers 77 = .ok (.getfield 15, 3) := by decide +kernel
theorem dX3_readNumbers_80 : decode cX3_readNumbers 80 = .ok (.iload_n 3, 1) := by decide +kernel
theorem dX3_readNumbers_81 : decode cX3_readNumbers 81 = .ok (.invokevirtual 30, 3) := by decide +kernel
theorem dX3_readNumbers_84 : decode cX3_readNumbers 84 = .ok (.iload 4, 2) := by decide +kernel
theorem dX3_readNumbers_86 : decode cX3_readNumbers 86 = .ok (.iload_n 2, 1) := by decide +kernel
theorem dX3_readNumbers_87 : decode cX3_readNumbers 87 = .ok (.iconst 1, 1) := by decide +kernel
theorem dX3_readNumbers_88 : decode cX3_readNumbers 88 = .ok (.isub, 1) := by decide +kernel
theorem dX3_readNumbers_89 : decode cX3_readNumbers 89 = .ok (.if_icmp .ne 8, 3) := by decide +kernel
theorem dX3_readNumbers_92 : decode cX3_readNumbers 92 = .ok (.bipush 59, 2) := by decide +kernel
theorem dX3_readNumbers_94 : decode cX3_readNumbers 94 = .ok (.goto 5, 3) := by decide +kernel
theorem dX3_readNumbers_97 : decode cX3_readNumbers 97 = .ok (.bipush 44, 2) := by decide +kernel
theorem dX3_readNumbers_99 : decode cX3_readNumbers 99 = .ok (.if_icmp .eq 5, 3) := by decide +kernel
theorem dX3_readNumbers_102 : decode cX3_readNumbers 102 = .ok (.iconst (-1), 1) := by decide +kernel
theorem dX3_readNumbers_103 : decode cX3_readNumbers 103 = .ok (.ireturn, 1) := by decide +kernel
theorem dX3_readNumbers_104 : decode cX3_readNumbers 104 = .ok (.iinc 3 1, 3) := by decide +kernel
theorem dX3_readNumbers_107 : decode cX3_readNumbers 107 = .ok (.iinc 4 1, 3) := by decide +kernel
theorem dX3_readNumbers_110 : decode cX3_readNumbers 110 = .ok (.goto (-93), 3) := by decide +kernel
theorem dX3_readNumbers_113 : decode cX3_readNumbers 113 = .ok (.iload_n 3, 1) := by decide +kernel
theorem dX3_readNumbers_114 : decode cX3_readNumbers 114 = .ok (.ireturn, 1) := by decide +kernel
theorem dX3_isFigure_0 : decode cX3_isFigure 0 = .ok (.aload_n 0, 1) := by decide +kernel
theorem dX3_isFigure_1 : decode cX3_isFigure 1 = .ok (.getfield 15, 3) := by decide +kernel
theorem dX3_isFigure_4 : decode cX3_isFigure 4 = .ok (.iload_n 1, 1) := by decide +kernel
theorem dX3_isFigure_5 : decode cX3_isFigure 5 = .ok (.invokevirtual 30, 3) := by decide +kernel
theorem dX3_isFigure_8 : decode cX3_isFigure 8 = .ok (.bipush 48, 2) := by decide +kernel
theorem dX3_isFigure_10 : decode cX3_isFigure 10 = .ok (.bipush 57, 2) := by decide +kernel
theorem dX3_isFigure_12 : decode cX3_isFigure 12 = .ok (.invokestatic 52, 3) := by decide +kernel
theorem dX3_isFigure_15 : decode cX3_isFigure 15 = .ok (.ireturn, 1) := by decide +kernel
theorem dX3_figureAt_0 : decode cX3_figureAt 0 = .ok (.aload_n 0, 1) := by decide +kernel
theorem dX3_figureAt_1 : decode cX3_figureAt 1 = .ok (.getfield 15, 3) := by decide +kernel
theorem dX3_figureAt_4 : decode cX3_figureAt 4 = .ok (.iload_n 1, 1) := by decide +kernel
theorem dX3_figureAt_5 : decode cX3_figureAt 5 = .ok (.invokevirtual 30, 3) := by decide +kernel
theorem dX3_figureAt_8 : decode cX3_figureAt 8 = .ok (.bipush 48, 2) := by decide +kernel
theorem dX3_figureAt_10 : decode cX3_figureAt 10 = .ok (.isub, 1) := by decide +kernel
theorem dX3_figureAt_11 : decode cX3_figureAt 11 = .ok (.ireturn, 1) := by decide +kernel
theorem dX4_init_0 : decode cX4_init 0 = .ok (.aload_n 0, 1) := by decide +kernel
theorem dX4_init_1 : decode cX4_init 1 = .ok (.invokespecial 3, 3) := by decide +kernel
theorem dX4_init_4 : decode cX4_init 4 = .ok (.aload_n 0, 1) := by decide +kernel
theorem dX4_init_5 : decode cX4_init 5 = .ok (.bipush 16, 2) := by decide +kernel
theorem dX4_init_7 : decode cX4_init 7 = .ok (.newarray .int, 2) := by decide +kernel
theorem dX4_init_9 : decode cX4_init 9 = .ok (.putfield 9, 3) := by decide +kernel
theorem dX4_init_12 : decode cX4_init 12 = .ok (.return_, 1) := by decide +kernel
theorem dX4_startOn_0 : decode cX4_startOn 0 = .ok (.aload_n 0, 1) := by decide +kernel
theorem dX4_startOn_1 : decode cX4_startOn 1 = .ok (.aload_n 1, 1) := by decide +kernel
theorem dX4_startOn_2 : decode cX4_startOn 2 = .ok (.getfield 15, 3) := by decide +kernel
theorem dX4_startOn_5 : decode cX4_startOn 5 = .ok (.putfield 21, 3) := by decide +kernel
theorem dX4_startOn_8 : decode cX4_startOn 8 = .ok (.aload_n 1, 1) := by decide +kernel
theorem dX4_startOn_9 : decode cX4_startOn 9 = .ok (.getfield 22, 3) := by decide +kernel
theorem dX4_startOn_12 : decode cX4_startOn 12 = .ok (.iconst 0, 1) := by decide +kernel
theorem dX4_startOn_13 : decode cX4_startOn 13 = .ok (.aload_n 0, 1) := by decide +kernel
theorem dX4_startOn_14 : decode cX4_startOn 14 = .ok (.getfield 9, 3) := by decide +kernel
theorem dX4_startOn_17 : decode cX4_startOn 17 = .ok (.iconst 0, 1) := by decide +kernel
theorem dX4_startOn_18 : decode cX4_startOn 18 = .ok (.bipush 16, 2) := by decide +kernel
theorem dX4_startOn_20 : decode cX4_startOn 20 = .ok (.invokestatic 25, 3) := by decide +kernel
theorem dX4_startOn_23 : decode cX4_startOn 23 = .ok (.aload_n 0, 1) := by decide +kernel
theorem dX4_startOn_24 : decode cX4_startOn 24 = .ok (.iconst 0, 1) := by decide +kernel
theorem dX4_startOn_25 : decode cX4_startOn 25 = .ok (.putfield 31, 3) := by decide +kernel
theorem dX4_startOn_28 : decode cX4_startOn 28 = .ok (.aload_n 0, 1) := by decide +kernel
theorem dX4_startOn_29 : decode cX4_startOn 29 = .ok (.iconst 0, 1) := by decide +kernel
theorem dX4_startOn_30 : decode cX4_startOn 30 = .ok (.putfield 34, 3) := by decide +kernel
theorem dX4_startOn_33 : decode cX4_startOn 33 = .ok (.aload_n 0, 1) := by decide +kernel
theorem dX4_startOn_34 : decode cX4_startOn 34 = .ok (.iconst 0, 1) := by decide +kernel
theorem dX4_startOn_35 : decode cX4_startOn 35 = .ok (.putfield 37, 3) := by decide +kernel
theorem dX4_startOn_38 : decode cX4_startOn 38 = .ok (.return_, 1) := by decide +kernel
theorem dX4_copyFrom_0 : decode cX4_copyFrom 0 = .ok (.aload_n 0, 1) := by decide +kernel
theorem dX4_copyFrom_1 : decode cX4_copyFrom 1 = .ok (.aload_n 1, 1) := by decide +kernel
theorem dX4_copyFrom_2 : decode cX4_copyFrom 2 = .ok (.getfield 21, 3) := by decide +kernel
theorem dX4_copyFrom_5 : decode cX4_copyFrom 5 = .ok (.putfield 21, 3) := by decide +kernel
theorem dX4_copyFrom_8 : decode cX4_copyFrom 8 = .ok (.aload_n 1, 1) := by decide +kernel
theorem dX4_copyFrom_9 : decode cX4_copyFrom 9 = .ok (.getfield 9, 3) := by decide +kernel
theorem dX4_copyFrom_12 : decode cX4_copyFrom 12 = .ok (.iconst 0, 1) := by decide +kernel
theorem dX4_copyFrom_13 : decode cX4_copyFrom 13 = .ok (.aload_n 0, 1) := by decide +kernel
theorem dX4_copyFrom_14 : decode cX4_copyFrom 14 = .ok (.getfield 9, 3) := by decide +kernel
theorem dX4_copyFrom_17 : decode cX4_copyFrom 17 = .ok (.iconst 0, 1) := by decide +kernel
theorem dX4_copyFrom_18 : decode cX4_copyFrom 18 = .ok (.bipush 16, 2) := by decide +kernel
theorem dX4_copyFrom_20 : decode cX4_copyFrom 20 = .ok (.invokestatic 25, 3) := by decide +kernel
theorem dX4_copyFrom_23 : decode cX4_copyFrom 23 = .ok (.aload_n 0, 1) := by decide +kernel
theorem dX4_copyFrom_24 : decode cX4_copyFrom 24 = .ok (.aload_n 1, 1) := by decide +kernel
theorem dX4_copyFrom_25 : decode cX4_copyFrom 25 = .ok (.getfield 31, 3) := by decide +kernel
theorem dX4_copyFrom_28 : decode cX4_copyFrom 28 = .ok (.putfield 31, 3) := by decide +kernel
theorem dX4_copyFrom_31 : decode cX4_copyFrom 31 = .ok (.aload_n 0, 1) := by decide +kernel
theorem dX4_copyFrom_32 : decode cX4_copyFrom 32 = .ok (.aload_n 1, 1) := by decide +kernel
theorem dX4_copyFrom_33 : decode cX4_copyFrom 33 = .ok (.getfield 34, 3) := by decide +kernel
theorem dX4_copyFrom_36 : decode cX4_copyFrom 36 = .ok (.putfield 34, 3) := by decide +kernel
theorem dX4_copyFrom_39 : decode cX4_copyFrom 39 = .ok (.aload_n 0, 1) := by decide +kernel
theorem dX4_copyFrom_40 : decode cX4_copyFrom 40 = .ok (.aload_n 1, 1) := by decide +kernel
theorem dX4_copyFrom_41 : decode cX4_copyFrom 41 = .ok (.getfield 37, 3) := by decide +kernel
theorem dX4_copyFrom_44 : decode cX4_copyFrom 44 = .ok (.putfield 37, 3) := by decide +kernel
theorem dX4_copyFrom_47 : decode cX4_copyFrom 47 = .ok (.return_, 1) := by decide +kernel
theorem dX4_isShut_0 : decode cX4_isShut 0 = .ok (.aload_n 0, 1) := by decide +kernel
theorem dX4_isShut_1 : decode cX4_isShut 1 = .ok (.getfield 34, 3) := by decide +kernel
theorem dX4_isShut_4 : decode cX4_isShut 4 = .ok (.iload_n 1, 1) := by decide +kernel
theorem dX4_isShut_5 : decode cX4_isShut 5 = .ok (.ishr, 1) := by decide +kernel
theorem dX4_isShut_6 : decode cX4_isShut 6 = .ok (.iconst 1, 1) := by decide +kernel
theorem dX4_isShut_7 : decode cX4_isShut 7 = .ok (.iand, 1) := by decide +kernel
theorem dX4_isShut_8 : decode cX4_isShut 8 = .ok (.iconst 1, 1) := by decide +kernel
theorem dX4_isShut_9 : decode cX4_isShut 9 = .ok (.if_icmp .ne 7, 3) := by decide +kernel
theorem dX4_isShut_12 : decode cX4_isShut 12 = .ok (.iconst 1, 1) := by decide +kernel
theorem dX4_isShut_13 : decode cX4_isShut 13 = .ok (.goto 4, 3) := by decide +kernel
theorem dX4_isShut_16 : decode cX4_isShut 16 = .ok (.iconst 0, 1) := by decide +kernel
theorem dX4_isShut_17 : decode cX4_isShut 17 = .ok (.ireturn, 1) := by decide +kernel
theorem dX4_turnWindow_0 : decode cX4_turnWindow 0 = .ok (.aload_n 0, 1) := by decide +kernel
theorem dX4_turnWindow_1 : decode cX4_turnWindow 1 = .ok (.dup, 1) := by decide +kernel
theorem dX4_turnWindow_2 : decode cX4_turnWindow 2 = .ok (.getfield 34, 3) := by decide +kernel
theorem dX4_turnWindow_5 : decode cX4_turnWindow 5 = .ok (.iconst 1, 1) := by decide +kernel
theorem dX4_turnWindow_6 : decode cX4_turnWindow 6 = .ok (.iload_n 1, 1) := by decide +kernel
theorem dX4_turnWindow_7 : decode cX4_turnWindow 7 = .ok (.ishl, 1) := by decide +kernel
theorem dX4_turnWindow_8 : decode cX4_turnWindow 8 = .ok (.ixor, 1) := by decide +kernel
theorem dX4_turnWindow_9 : decode cX4_turnWindow 9 = .ok (.putfield 34, 3) := by decide +kernel
theorem dX4_turnWindow_12 : decode cX4_turnWindow 12 = .ok (.return_, 1) := by decide +kernel
theorem dX4_shutWindows_0 : decode cX4_shutWindows 0 = .ok (.aload_n 0, 1) := by decide +kernel
theorem dX4_shutWindows_1 : decode cX4_shutWindows 1 = .ok (.getfield 34, 3) := by decide +kernel
theorem dX4_shutWindows_4 : decode cX4_shutWindows 4 = .ok (.invokestatic 41, 3) := by decide +kernel
theorem dX4_shutWindows_7 : decode cX4_shutWindows 7 = .ok (.ireturn, 1) := by decide +kernel
theorem dX4_goDays_0 : decode cX4_goDays 0 = .ok (.iconst 0, 1) := by decide +kernel
theorem dX4_goDays_1 : decode cX4_goDays 1 = .ok (.istore_n 3, 1) := by decide +kernel
theorem dX4_goDays_2 : decode cX4_goDays 2 = .ok (.iload_n 3, 1) := by decide +kernel
theorem dX4_goDays_3 : decode cX4_goDays 3 = .ok (.iload_n 2, 1) := by decide +kernel
theorem dX4_goDays_4 : decode cX4_goDays 4 = .ok (.if_icmp .ge 22, 3) := by decide +kernel
theorem dX4_goDays_7 : decode cX4_goDays 7 = .ok (.aload_n 0, 1) := by decide +kernel
theorem dX4_goDays_8 : decode cX4_goDays 8 = .ok (.aload_n 1, 1) := by decide +kernel
theorem dX4_goDays_9 : decode cX4_goDays 9 = .ok (.aload_n 1, 1) := by decide +kernel
theorem dX4_goDays_10 : decode cX4_goDays 10 = .ok (.aload_n 0, 1) := by decide +kernel
theorem dX4_goDays_11 : decode cX4_goDays 11 = .ok (.getfield 31, 3) := by decide +kernel
theorem dX4_goDays_14 : decode cX4_goDays 14 = .ok (.invokevirtual 47, 3) := by decide +kernel
theorem dX4_goDays_17 : decode cX4_goDays 17 = .ok (.invokevirtual 51, 3) := by decide +kernel
theorem dX4_goDays_20 : decode cX4_goDays 20 = .ok (.iinc 3 1, 3) := by decide +kernel
theorem dX4_goDays_23 : decode cX4_goDays 23 = .ok (.goto (-21), 3) := by decide +kernel
theorem dX4_goDays_26 : decode cX4_goDays 26 = .ok (.return_, 1) := by decide +kernel
theorem dX4_goDay_0 : decode cX4_goDay 0 = .ok (.iconst 0, 1) := by decide +kernel
theorem dX4_goDay_1 : decode cX4_goDay 1 = .ok (.istore_n 3, 1) := by decide +kernel
theorem dX4_goDay_2 : decode cX4_goDay 2 = .ok (.iload_n 3, 1) := by decide +kernel
theorem dX4_goDay_3 : decode cX4_goDay 3 = .ok (.aload_n 1, 1) := by decide +kernel
theorem dX4_goDay_4 : decode cX4_goDay 4 = .ok (.getfield 55, 3) := by decide +kernel
theorem dX4_goDay_7 : decode cX4_goDay 7 = .ok (.if_icmp .ge 52, 3) := by decide +kernel
theorem dX4_goDay_10 : decode cX4_goDay 10 = .ok (.aload_n 1, 1) := by decide +kernel
theorem dX4_goDay_11 : decode cX4_goDay 11 = .ok (.getfield 58, 3) := by decide +kernel
theorem dX4_goDay_14 : decode cX4_goDay 14 = .ok (.iload_n 3, 1) := by decide +kernel
theorem dX4_goDay_15 : decode cX4_goDay 15 = .ok (.iaload, 1) := by decide +kernel
theorem dX4_goDay_16 : decode cX4_goDay 16 = .ok (.aload_n 0, 1) := by decide +kernel
theorem dX4_goDay_17 : decode cX4_goDay 17 = .ok (.getfield 31, 3) := by decide +kernel
theorem dX4_goDay_20 : decode cX4_goDay 20 = .ok (.bipush 10, 2) := by decide +kernel
theorem dX4_goDay_22 : decode cX4_goDay 22 = .ok (.irem, 1) := by decide +kernel
theorem dX4_goDay_23 : decode cX4_goDay 23 = .ok (.if_icmp .ne 30, 3) := by decide +kernel
theorem dX4_goDay_26 : decode cX4_goDay 26 = .ok (.aload_n 0, 1) := by decide +kernel
theorem dX4_goDay_27 : decode cX4_goDay 27 = .ok (.iconst 1, 1) := by decide +kernel
theorem dX4_goDay_28 : decode cX4_goDay 28 = .ok (.putfield 37, 3) := by decide +kernel
theorem dX4_goDay_31 : decode cX4_goDay 31 = .ok (.iload_n 2, 1) := by decide +kernel
theorem dX4_goDay_32 : decode cX4_goDay 32 = .ok (.ifCond .ne 21, 3) := by decide +kernel
theorem dX4_goDay_35 : decode cX4_goDay 35 = .ok (.aload_n 0, 1) := by decide +kernel
theorem dX4_goDay_36 : decode cX4_goDay 36 = .ok (.aload_n 1, 1) := by decide +kernel
theorem dX4_goDay_37 : decode cX4_goDay 37 = .ok (.aload_n 1, 1) := by decide +kernel
theorem dX4_goDay_38 : decode cX4_goDay 38 = .ok (.getfield 61, 3) := by decide +kernel
theorem dX4_goDay_41 : decode cX4_goDay 41 = .ok (.iload_n 3, 1) := by decide +kernel
theorem dX4_goDay_42 : decode cX4_goDay 42 = .ok (.iaload, 1) := by decide +kernel
theorem dX4_goDay_43 : decode cX4_goDay 43 = .ok (.aload_n 1, 1) := by decide +kernel
theorem dX4_goDay_44 : decode cX4_goDay 44 = .ok (.getfield 64, 3) := by decide +kernel
theorem dX4_goDay_47 : decode cX4_goDay 47 = .ok (.iload_n 3, 1) := by decide +kernel
theorem dX4_goDay_48 : decode cX4_goDay 48 = .ok (.iaload, 1) := by decide +kernel
theorem dX4_goDay_49 : decode cX4_goDay 49 = .ok (.invokevirtual 67, 3) := by decide +kernel
theorem dX4_goDay_52 : decode cX4_goDay 52 = .ok (.pop, 1) := by decide +kernel
theorem dX4_goDay_53 : decode cX4_goDay 53 = .ok (.iinc 3 1, 3) := by decide +kernel
theorem dX4_goDay_56 : decode cX4_goDay 56 = .ok (.goto (-54), 3) := by decide +kernel
theorem dX4_goDay_59 : decode cX4_goDay 59 = .ok (.aload_n 0, 1) := by decide +kernel
theorem dX4_goDay_60 : decode cX4_goDay 60 = .ok (.invokevirtual 71, 3) := by decide +kernel
theorem dX4_goDay_63 : decode cX4_goDay 63 = .ok (.pop, 1) := by decide +kernel
theorem dX4_goDay_64 : decode cX4_goDay 64 = .ok (.return_, 1) := by decide +kernel
theorem dX4_goNight_0 : decode cX4_goNight 0 = .ok (.aload_n 0, 1) := by decide +kernel
theorem dX4_goNight_1 : decode cX4_goNight 1 = .ok (.getfield 37, 3) := by decide +kernel
theorem dX4_goNight_4 : decode cX4_goNight 4 = .ok (.ifCond .ne 7, 3) := by decide +kernel
theorem dX4_goNight_7 : decode cX4_goNight 7 = .ok (.iconst 1, 1) := by decide +kernel
theorem dX4_goNight_8 : decode cX4_goNight 8 = .ok (.goto 4, 3) := by decide +kernel
theorem dX4_goNight_11 : decode cX4_goNight 11 = .ok (.iconst 0, 1) := by decide +kernel
theorem dX4_goNight_12 : decode cX4_goNight 12 = .ok (.istore_n 1, 1) := by decide +kernel
theorem dX4_goNight_13 : decode cX4_goNight 13 = .ok (.iload_n 1, 1) := by decide +kernel
theorem dX4_goNight_14 : decode cX4_goNight 14 = .ok (.ifCond .eq 39, 3) := by decide +kernel
theorem dX4_goNight_17 : decode cX4_goNight 17 = .ok (.iconst 1, 1) := by decide +kernel
theorem dX4_goNight_18 : decode cX4_goNight 18 = .ok (.istore_n 2, 1) := by decide +kernel
theorem dX4_goNight_19 : decode cX4_goNight 19 = .ok (.iload_n 2, 1) := by decide +kernel
theorem dX4_goNight_20 : decode cX4_goNight 20 = .ok (.aload_n 0, 1) := by decide +kernel
theorem dX4_goNight_21 : decode cX4_goNight 21 = .ok (.getfield 21, 3) := by decide +kernel
theorem dX4_goNight_24 : decode cX4_goNight 24 = .ok (.iconst 1, 1) := by decide +kernel
theorem dX4_goNight_25 : decode cX4_goNight 25 = .ok (.isub, 1) := by decide +kernel
theorem dX4_goNight_26 : decode cX4_goNight 26 = .ok (.if_icmp .ge 27, 3) := by decide +kernel
theorem dX4_goNight_29 : decode cX4_goNight 29 = .ok (.aload_n 0, 1) := by decide +kernel
theorem dX4_goNight_30 : decode cX4_goNight 30 = .ok (.getfield 9, 3) := by decide +kernel
theorem dX4_goNight_33 : decode cX4_goNight 33 = .ok (.iload_n 2, 1) := by decide +kernel
theorem dX4_goNight_34 : decode cX4_goNight 34 = .ok (.aload_n 0, 1) := by decide +kernel
theorem dX4_goNight_35 : decode cX4_goNight 35 = .ok (.getfield 9, 3) := by decide +kernel
theorem dX4_goNight_38 : decode cX4_goNight 38 = .ok (.iload_n 2, 1) := by decide +kernel
theorem dX4_goNight_39 : decode cX4_goNight 39 = .ok (.iaload, 1) := by decide +kernel
theorem dX4_goNight_40 : decode cX4_goNight 40 = .ok (.bipush 30, 2) := by decide +kernel
theorem dX4_goNight_42 : decode cX4_goNight 42 = .ok (.iconst 1, 1) := by decide +kernel
theorem dX4_goNight_43 : decode cX4_goNight 43 = .ok (.invokestatic 75, 3) := by decide +kernel
theorem dX4_goNight_46 : decode cX4_goNight 46 = .ok (.iastore, 1) := by decide +kernel
theorem dX4_goNight_47 : decode cX4_goNight 47 = .ok (.iinc 2 1, 3) := by decide +kernel
theorem dX4_goNight_50 : decode cX4_goNight 50 = .ok (.goto (-31), 3) := by decide +kernel
theorem dX4_goNight_53 : decode cX4_goNight 53 = .ok (.aload_n 0, 1) := by decide +kernel
theorem dX4_goNight_54 : decode cX4_goNight 54 = .ok (.dup, 1) := by decide +kernel
theorem dX4_goNight_55 : decode cX4_goNight 55 = .ok (.getfield 31, 3) := by decide +kernel
theorem dX4_goNight_58 : decode cX4_goNight 58 = .ok (.iconst 1, 1) := by decide +kernel
theorem dX4_goNight_59 : decode cX4_goNight 59 = .ok (.iadd, 1) := by decide +kernel
theorem dX4_goNight_60 : decode cX4_goNight 60 = .ok (.putfield 31, 3) := by decide +kernel
theorem dX4_goNight_63 : decode cX4_goNight 63 = .ok (.aload_n 0, 1) := by decide +kernel
theorem dX4_goNight_64 : decode cX4_goNight 64 = .ok (.iconst 0, 1) := by decide +kernel
theorem dX4_goNight_65 : decode cX4_goNight 65 = .ok (.putfield 37, 3) := by decide +kernel
theorem dX4_goNight_68 : decode cX4_goNight 68 = .ok (.iload_n 1, 1) := by decide +kernel
theorem dX4_goNight_69 : decode cX4_goNight 69 = .ok (.ireturn, 1) := by decide +kernel
theorem dX4_takeWalk_0 : decode cX4_takeWalk 0 = .ok (.aload_n 0, 1) := by decide +kernel
theorem dX4_takeWalk_1 : decode cX4_takeWalk 1 = .ok (.iconst 1, 1) := by decide +kernel
theorem dX4_takeWalk_2 : decode cX4_takeWalk 2 = .ok (.putfield 37, 3) := by decide +kernel
theorem dX4_takeWalk_5 : decode cX4_takeWalk 5 = .ok (.iload 4, 2) := by decide +kernel
theorem dX4_takeWalk_7 : decode cX4_takeWalk 7 = .ok (.ifCond .eq 7, 3) := by decide +kernel
theorem dX4_takeWalk_10 : decode cX4_takeWalk 10 = .ok (.iconst 0, 1) := by decide +kernel
theorem dX4_takeWalk_11 : decode cX4_takeWalk 11 = .ok (.goto 10, 3) := by decide +kernel
theorem dX4_takeWalk_14 : decode cX4_takeWalk 14 = .ok (.aload_n 0, 1) := by decide +kernel
theorem dX4_takeWalk_15 : decode cX4_takeWalk 15 = .ok (.aload_n 1, 1) := by decide +kernel
theorem dX4_takeWalk_16 : decode cX4_takeWalk 16 = .ok (.iload_n 2, 1) := by decide +kernel
theorem dX4_takeWalk_17 : decode cX4_takeWalk 17 = .ok (.iload_n 3, 1) := by decide +kernel
theorem dX4_takeWalk_18 : decode cX4_takeWalk 18 = .ok (.invokevirtual 67, 3) := by decide +kernel
theorem dX4_takeWalk_21 : decode cX4_takeWalk 21 = .ok (.ireturn, 1) := by decide +kernel
theorem dX4_bendBy_0 : decode cX4_bendBy 0 = .ok (.aload_n 0, 1) := by decide +kernel
theorem dX4_bendBy_1 : decode cX4_bendBy 1 = .ok (.iload_n 3, 1) := by decide +kernel
theorem dX4_bendBy_2 : decode cX4_bendBy 2 = .ok (.invokevirtual 79, 3) := by decide +kernel
theorem dX4_bendBy_5 : decode cX4_bendBy 5 = .ok (.ifCond .eq 5, 3) := by decide +kernel
theorem dX4_bendBy_8 : decode cX4_bendBy 8 = .ok (.iconst 0, 1) := by decide +kernel
theorem dX4_bendBy_9 : decode cX4_bendBy 9 = .ok (.ireturn, 1) := by decide +kernel
theorem dX4_bendBy_10 : decode cX4_bendBy 10 = .ok (.aload_n 1, 1) := by decide +kernel
theorem dX4_bendBy_11 : decode cX4_bendBy 11 = .ok (.getfield 82, 3) := by decide +kernel
theorem dX4_bendBy_14 : decode cX4_bendBy 14 = .ok (.iload_n 2, 1) := by decide +kernel
theorem dX4_bendBy_15 : decode cX4_bendBy 15 = .ok (.iaload, 1) := by decide +kernel
theorem dX4_bendBy_16 : decode cX4_bendBy 16 = .ok (.istore 4, 2) := by decide +kernel
theorem dX4_bendBy_18 : decode cX4_bendBy 18 = .ok (.iload 4, 2) := by decide +kernel
theorem dX4_bendBy_20 : decode cX4_bendBy 20 = .ok (.iconst 1, 1) := by decide +kernel
theorem dX4_bendBy_21 : decode cX4_bendBy 21 = .ok (.if_icmp .ne 7, 3) := by decide +kernel
theorem dX4_bendBy_24 : decode cX4_bendBy 24 = .ok (.iconst 0, 1) := by decide +kernel
theorem dX4_bendBy_25 : decode cX4_bendBy 25 = .ok (.goto 9, 3) := by decide +kernel
theorem dX4_bendBy_28 : decode cX4_bendBy 28 = .ok (.aload_n 1, 1) := by decide +kernel
theorem dX4_bendBy_29 : decode cX4_bendBy 29 = .ok (.getfield 85, 3) := by decide +kernel
theorem dX4_bendBy_32 : decode cX4_bendBy 32 = .ok (.iload_n 2, 1) := by decide +kernel
theorem dX4_bendBy_33 : decode cX4_bendBy 33 = .ok (.iaload, 1) := by decide +kernel
theorem dX4_bendBy_34 : decode cX4_bendBy 34 = .ok (.istore 5, 2) := by decide +kernel
theorem dX4_bendBy_36 : decode cX4_bendBy 36 = .ok (.iconst 1, 1) := by decide +kernel
theorem dX4_bendBy_37 : decode cX4_bendBy 37 = .ok (.aload_n 1, 1) := by decide +kernel
theorem dX4_bendBy_38 : decode cX4_bendBy 38 = .ok (.getfield 88, 3) := by decide +kernel
theorem dX4_bendBy_41 : decode cX4_bendBy 41 = .ok (.iload_n 3, 1) := by decide +kernel
theorem dX4_bendBy_42 : decode cX4_bendBy 42 = .ok (.iaload, 1) := by decide +kernel
theorem dX4_bendBy_43 : decode cX4_bendBy 43 = .ok (.iload 5, 2) := by decide +kernel
theorem dX4_bendBy_45 : decode cX4_bendBy 45 = .ok (.isub, 1) := by decide +kernel
theorem dX4_bendBy_46 : decode cX4_bendBy 46 = .ok (.invokestatic 91, 3) := by decide +kernel
theorem dX4_bendBy_49 : decode cX4_bendBy 49 = .ok (.istore 6, 2) := by decide +kernel
theorem dX4_bendBy_51 : decode cX4_bendBy 51 = .ok (.aload_n 0, 1) := by decide +kernel
theorem dX4_bendBy_52 : decode cX4_bendBy 52 = .ok (.getfield 21, 3) := by decide +kernel
theorem dX4_bendBy_55 : decode cX4_bendBy 55 = .ok (.iconst 2, 1) := by decide +kernel
theorem dX4_bendBy_56 : decode cX4_bendBy 56 = .ok (.isub, 1) := by decide +kernel
theorem dX4_bendBy_57 : decode cX4_bendBy 57 = .ok (.aload_n 1, 1) := by decide +kernel
theorem dX4_bendBy_58 : decode cX4_bendBy 58 = .ok (.getfield 88, 3) := by decide +kernel
theorem dX4_bendBy_61 : decode cX4_bendBy 61 = .ok (.iload_n 3, 1) := by decide +kernel
theorem dX4_bendBy_62 : decode cX4_bendBy 62 = .ok (.iaload, 1) := by decide +kernel
theorem dX4_bendBy_63 : decode cX4_bendBy 63 = .ok (.iload 5, 2) := by decide +kernel
theorem dX4_bendBy_65 : decode cX4_bendBy 65 = .ok (.iadd, 1) := by decide +kernel
theorem dX4_bendBy_66 : decode cX4_bendBy 66 = .ok (.invokestatic 97, 3) := by decide +kernel
theorem dX4_bendBy_69 : decode cX4_bendBy 69 = .ok (.istore 7, 2) := by decide +kernel
theorem dX4_bendBy_71 : decode cX4_bendBy 71 = .ok (.iconst 0, 1) := by decide +kernel
theorem dX4_bendBy_72 : decode cX4_bendBy 72 = .ok (.istore 8, 2) := by decide +kernel
theorem dX4_bendBy_74 : decode cX4_bendBy 74 = .ok (.iload 6, 2) := by decide +kernel
theorem dX4_bendBy_76 : decode cX4_bendBy 76 = .ok (.istore 9, 2) := by decide +kernel
theorem dX4_bendBy_78 : decode cX4_bendBy 78 = .ok (.iload 9, 2) := by decide +kernel
theorem dX4_bendBy_80 : decode cX4_bendBy 80 = .ok (.iload 7, 2) := by decide +kernel
theorem dX4_bendBy_82 : decode cX4_bendBy 82 = .ok (.if_icmp .gt 52, 3) := by decide +kernel
theorem dX4_bendBy_85 : decode cX4_bendBy 85 = .ok (.aload_n 0, 1) := by decide +kernel
theorem dX4_bendBy_86 : decode cX4_bendBy 86 = .ok (.iload 9, 2) := by decide +kernel
theorem dX4_bendBy_88 : decode cX4_bendBy 88 = .ok (.iload 4, 2) := by decide +kernel
theorem dX4_bendBy_90 : decode cX4_bendBy 90 = .ok (.aload_n 1, 1) := by decide +kernel
theorem dX4_bendBy_91 : decode cX4_bendBy 91 = .ok (.getfield 100, 3) := by decide +kernel
theorem dX4_bendBy_94 : decode cX4_bendBy 94 = .ok (.iload_n 3, 1) := by decide +kernel
theorem dX4_bendBy_95 : decode cX4_bendBy 95 = .ok (.iaload, 1) := by decide +kernel
theorem dX4_bendBy_96 : decode cX4_bendBy 96 = .ok (.invokevirtual 103, 3) := by decide +kernel
theorem dX4_bendBy_99 : decode cX4_bendBy 99 = .ok (.istore 10, 2) := by decide +kernel
theorem dX4_bendBy_101 : decode cX4_bendBy 101 = .ok (.iload 8, 2) := by decide +kernel
theorem dX4_bendBy_103 : decode cX4_bendBy 103 = .ok (.iload 10, 2) := by decide +kernel
theorem dX4_bendBy_105 : decode cX4_bendBy 105 = .ok (.aload_n 0, 1) := by decide +kernel
theorem dX4_bendBy_106 : decode cX4_bendBy 106 = .ok (.getfield 9, 3) := by decide +kernel
theorem dX4_bendBy_109 : decode cX4_bendBy 109 = .ok (.iload 9, 2) := by decide +kernel
theorem dX4_bendBy_111 : decode cX4_bendBy 111 = .ok (.iaload, 1) := by decide +kernel
theorem dX4_bendBy_112 : decode cX4_bendBy 112 = .ok (.isub, 1) := by decide +kernel
theorem dX4_bendBy_113 : decode cX4_bendBy 113 = .ok (.invokestatic 106, 3) := by decide +kernel
theorem dX4_bendBy_116 : decode cX4_bendBy 116 = .ok (.iadd, 1) := by decide +kernel
theorem dX4_bendBy_117 : decode cX4_bendBy 117 = .ok (.istore 8, 2) := by decide +kernel
theorem dX4_bendBy_119 : decode cX4_bendBy 119 = .ok (.aload_n 0, 1) := by decide +kernel
theorem dX4_bendBy_120 : decode cX4_bendBy 120 = .ok (.getfield 9, 3) := by decide +kernel
theorem dX4_bendBy_123 : decode cX4_bendBy 123 = .ok (.iload 9, 2) := by decide +kernel
theorem dX4_bendBy_125 : decode cX4_bendBy 125 = .ok (.iload 10, 2) := by decide +kernel
theorem dX4_bendBy_127 : decode cX4_bendBy 127 = .ok (.iastore, 1) := by decide +kernel
theorem dX4_bendBy_128 : decode cX4_bendBy 128 = .ok (.iinc 9 1, 3) := by decide +kernel
theorem dX4_bendBy_131 : decode cX4_bendBy 131 = .ok (.goto (-53), 3) := by decide +kernel
theorem dX4_bendBy_134 : decode cX4_bendBy 134 = .ok (.iload 8, 2) := by decide +kernel
theorem dX4_bendBy_136 : decode cX4_bendBy 136 = .ok (.ireturn, 1) := by decide +kernel
theorem dX4_bentYard_0 : decode cX4_bentYard 0 = .ok (.aload_n 0, 1) := by decide +kernel
theorem dX4_bentYard_1 : decode cX4_bentYard 1 = .ok (.getfield 9, 3) := by decide +kernel
theorem dX4_bentYard_4 : decode cX4_bentYard 4 = .ok (.iload_n 1, 1) := by decide +kernel
theorem dX4_bentYard_5 : decode cX4_bentYard 5 = .ok (.iaload, 1) := by decide +kernel
theorem dX4_bentYard_6 : decode cX4_bentYard 6 = .ok (.istore 4, 2) := by decide +kernel
theorem dX4_bentYard_8 : decode cX4_bentYard 8 = .ok (.iload_n 2, 1) := by decide +kernel
theorem dX4_bentYard_9 : decode cX4_bentYard 9 = .ok (.tableswitch 76 2 4 #[27, 51, 60], 27) := by decide +kernel
theorem dX4_bentYard_36 : decode cX4_bentYard 36 = .ok (.iload_n 1, 1) := by decide +kernel
theorem dX4_bentYard_37 : decode cX4_bentYard 37 = .ok (.iconst 2, 1) := by decide +kernel
theorem dX4_bentYard_38 : decode cX4_bentYard 38 = .ok (.irem, 1) := by decide +kernel
theorem dX4_bentYard_39 : decode cX4_bentYard 39 = .ok (.iconst 1, 1) := by decide +kernel
theorem dX4_bentYard_40 : decode cX4_bentYard 40 = .ok (.if_icmp .ne 13, 3) := by decide +kernel
theorem dX4_bentYard_43 : decode cX4_bentYard 43 = .ok (.iload 4, 2) := by decide +kernel
theorem dX4_bentYard_45 : decode cX4_bentYard 45 = .ok (.iload_n 3, 1) := by decide +kernel
theorem dX4_bentYard_46 : decode cX4_bentYard 46 = .ok (.iconst 1, 1) := by decide +kernel
theorem dX4_bentYard_47 : decode cX4_bentYard 47 = .ok (.invokestatic 75, 3) := by decide +kernel
theorem dX4_bentYard_50 : decode cX4_bentYard 50 = .ok (.goto 9, 3) := by decide +kernel
theorem dX4_bentYard_53 : decode cX4_bentYard 53 = .ok (.iload 4, 2) := by decide +kernel
theorem dX4_bentYard_55 : decode cX4_bentYard 55 = .ok (.iload_n 3, 1) := by decide +kernel
theorem dX4_bentYard_56 : decode cX4_bentYard 56 = .ok (.invokestatic 109, 3) := by decide +kernel
theorem dX4_bentYard_59 : decode cX4_bentYard 59 = .ok (.ireturn, 1) := by decide +kernel
theorem dX4_bentYard_60 : decode cX4_bentYard 60 = .ok (.iload 4, 2) := by decide +kernel
theorem dX4_bentYard_62 : decode cX4_bentYard 62 = .ok (.bipush 30, 2) := by decide +kernel
theorem dX4_bentYard_64 : decode cX4_bentYard 64 = .ok (.iconst 1, 1) := by decide +kernel
theorem dX4_bentYard_65 : decode cX4_bentYard 65 = .ok (.invokestatic 75, 3) := by decide +kernel
theorem dX4_bentYard_68 : decode cX4_bentYard 68 = .ok (.ireturn, 1) := by decide +kernel
theorem dX4_bentYard_69 : decode cX4_bentYard 69 = .ok (.iload 4, 2) := by decide +kernel
theorem dX4_bentYard_71 : decode cX4_bentYard 71 = .ok (.iload_n 3, 1) := by decide +kernel
theorem dX4_bentYard_72 : decode cX4_bentYard 72 = .ok (.iconst 3, 1) := by decide +kernel
theorem dX4_bentYard_73 : decode cX4_bentYard 73 = .ok (.aload_n 0, 1) := by decide +kernel
theorem dX4_bentYard_74 : decode cX4_bentYard 74 = .ok (.iload_n 1, 1) := by decide +kernel
theorem dX4_bentYard_75 : decode cX4_bentYard 75 = .ok (.invokevirtual 112, 3) := by decide +kernel
theorem dX4_bentYard_78 : decode cX4_bentYard 78 = .ok (.invokestatic 97, 3) := by decide +kernel
theorem dX4_bentYard_81 : decode cX4_bentYard 81 = .ok (.invokestatic 75, 3) := by decide +kernel
theorem dX4_bentYard_84 : decode cX4_bentYard 84 = .ok (.ireturn, 1) := by decide +kernel
theorem dX4_bentYard_85 : decode cX4_bentYard 85 = .ok (.iload 4, 2) := by decide +kernel
theorem dX4_bentYard_87 : decode cX4_bentYard 87 = .ok (.iload_n 3, 1) := by decide +kernel
theorem dX4_bentYard_88 : decode cX4_bentYard 88 = .ok (.iconst 1, 1) := by decide +kernel
theorem dX4_bentYard_89 : decode cX4_bentYard 89 = .ok (.invokestatic 75, 3) := by decide +kernel
theorem dX4_bentYard_92 : decode cX4_bentYard 92 = .ok (.ireturn, 1) := by decide +kernel
theorem dX4_toward_0 : decode cX4_toward 0 = .ok (.iload_n 0, 1) := by decide +kernel
theorem dX4_toward_1 : decode cX4_toward 1 = .ok (.iload_n 1, 1) := by decide +kernel
theorem dX4_toward_2 : decode cX4_toward 2 = .ok (.if_icmp .ge 18, 3) := by decide +kernel
theorem dX4_toward_5 : decode cX4_toward 5 = .ok (.iload_n 0, 1) := by decide +kernel
theorem dX4_toward_6 : decode cX4_toward 6 = .ok (.iload_n 2, 1) := by decide +kernel
theorem dX4_toward_7 : decode cX4_toward 7 = .ok (.iadd, 1) := by decide +kernel
theorem dX4_toward_8 : decode cX4_toward 8 = .ok (.iload_n 1, 1) := by decide +kernel
theorem dX4_toward_9 : decode cX4_toward 9 = .ok (.if_icmp .ge 9, 3) := by decide +kernel
theorem dX4_toward_12 : decode cX4_toward 12 = .ok (.iload_n 0, 1) := by decide +kernel
theorem dX4_toward_13 : decode cX4_toward 13 = .ok (.iload_n 2, 1) := by decide +kernel
theorem dX4_toward_14 : decode cX4_toward 14 = .ok (.iadd, 1) := by decide +kernel
theorem dX4_toward_15 : decode cX4_toward 15 = .ok (.goto 4, 3) := by decide +kernel
theorem dX4_toward_18 : decode cX4_toward 18 = .ok (.iload_n 1, 1) := by decide +kernel
theorem dX4_toward_19 : decode cX4_toward 19 = .ok (.ireturn, 1) := by decide +kernel
theorem dX4_toward_20 : decode cX4_toward 20 = .ok (.iload_n 0, 1) := by decide +kernel
theorem dX4_toward_21 : decode cX4_toward 21 = .ok (.iload_n 2, 1) := by decide +kernel
theorem dX4_toward_22 : decode cX4_toward 22 = .ok (.isub, 1) := by decide +kernel
theorem dX4_toward_23 : decode cX4_toward 23 = .ok (.iload_n 1, 1) := by decide +kernel
theorem dX4_toward_24 : decode cX4_toward 24 = .ok (.if_icmp .le 9, 3) := by decide +kernel
theorem dX4_toward_27 : decode cX4_toward 27 = .ok (.iload_n 0, 1) := by decide +kernel
theorem dX4_toward_28 : decode cX4_toward 28 = .ok (.iload_n 2, 1) := by decide +kernel
theorem dX4_toward_29 : decode cX4_toward 29 = .ok (.isub, 1) := by decide +kernel
theorem dX4_toward_30 : decode cX4_toward 30 = .ok (.goto 4, 3) := by decide +kernel
theorem dX4_toward_33 : decode cX4_toward 33 = .ok (.iload_n 1, 1) := by decide +kernel
theorem dX4_toward_34 : decode cX4_toward 34 = .ok (.ireturn, 1) := by decide +kernel
theorem dX4_awayFrom_0 : decode cX4_awayFrom 0 = .ok (.iload_n 0, 1) := by decide +kernel
theorem dX4_awayFrom_1 : decode cX4_awayFrom 1 = .ok (.iload_n 1, 1) := by decide +kernel
theorem dX4_awayFrom_2 : decode cX4_awayFrom 2 = .ok (.if_icmp .ge 15, 3) := by decide +kernel
theorem dX4_awayFrom_5 : decode cX4_awayFrom 5 = .ok (.iload_n 0, 1) := by decide +kernel
theorem dX4_awayFrom_6 : decode cX4_awayFrom 6 = .ok (.ifCond .le 9, 3) := by decide +kernel
theorem dX4_awayFrom_9 : decode cX4_awayFrom 9 = .ok (.iload_n 0, 1) := by decide +kernel
theorem dX4_awayFrom_10 : decode cX4_awayFrom 10 = .ok (.iconst 1, 1) := by decide +kernel
theorem dX4_awayFrom_11 : decode cX4_awayFrom 11 = .ok (.isub, 1) := by decide +kernel
theorem dX4_awayFrom_12 : decode cX4_awayFrom 12 = .ok (.goto 4, 3) := by decide +kernel
theorem dX4_awayFrom_15 : decode cX4_awayFrom 15 = .ok (.iconst 0, 1) := by decide +kernel
theorem dX4_awayFrom_16 : decode cX4_awayFrom 16 = .ok (.ireturn, 1) := by decide +kernel
theorem dX4_awayFrom_17 : decode cX4_awayFrom 17 = .ok (.iload_n 0, 1) := by decide +kernel
theorem dX4_awayFrom_18 : decode cX4_awayFrom 18 = .ok (.bipush 60, 2) := by decide +kernel
theorem dX4_awayFrom_20 : decode cX4_awayFrom 20 = .ok (.if_icmp .ge 9, 3) := by decide +kernel
theorem dX4_awayFrom_23 : decode cX4_awayFrom 23 = .ok (.iload_n 0, 1) := by decide +kernel
theorem dX4_awayFrom_24 : decode cX4_awayFrom 24 = .ok (.iconst 1, 1) := by decide +kernel
theorem dX4_awayFrom_25 : decode cX4_awayFrom 25 = .ok (.iadd, 1) := by decide +kernel
theorem dX4_awayFrom_26 : decode cX4_awayFrom 26 = .ok (.goto 5, 3) := by decide +kernel
theorem dX4_awayFrom_29 : decode cX4_awayFrom 29 = .ok (.bipush 60, 2) := by decide +kernel
theorem dX4_awayFrom_31 : decode cX4_awayFrom 31 = .ok (.ireturn, 1) := by decide +kernel
theorem dX4_gapBefore_0 : decode cX4_gapBefore 0 = .ok (.aload_n 0, 1) := by decide +kernel
theorem dX4_gapBefore_1 : decode cX4_gapBefore 1 = .ok (.getfield 9, 3) := by decide +kernel
theorem dX4_gapBefore_4 : decode cX4_gapBefore 4 = .ok (.iload_n 1, 1) := by decide +kernel
theorem dX4_gapBefore_5 : decode cX4_gapBefore 5 = .ok (.iaload, 1) := by decide +kernel
theorem dX4_gapBefore_6 : decode cX4_gapBefore 6 = .ok (.aload_n 0, 1) := by decide +kernel
theorem dX4_gapBefore_7 : decode cX4_gapBefore 7 = .ok (.getfield 9, 3) := by decide +kernel
theorem dX4_gapBefore_10 : decode cX4_gapBefore 10 = .ok (.iload_n 1, 1) := by decide +kernel
theorem dX4_gapBefore_11 : decode cX4_gapBefore 11 = .ok (.iconst 1, 1) := by decide +kernel
theorem dX4_gapBefore_12 : decode cX4_gapBefore 12 = .ok (.isub, 1) := by decide +kernel
theorem dX4_gapBefore_13 : decode cX4_gapBefore 13 = .ok (.iaload, 1) := by decide +kernel
theorem dX4_gapBefore_14 : decode cX4_gapBefore 14 = .ok (.isub, 1) := by decide +kernel
theorem dX4_gapBefore_15 : decode cX4_gapBefore 15 = .ok (.istore_n 2, 1) := by decide +kernel
theorem dX4_gapBefore_16 : decode cX4_gapBefore 16 = .ok (.iload_n 2, 1) := by decide +kernel
theorem dX4_gapBefore_17 : decode cX4_gapBefore 17 = .ok (.ifCond .ge 8, 3) := by decide +kernel
theorem dX4_gapBefore_20 : decode cX4_gapBefore 20 = .ok (.iload_n 2, 1) := by decide +kernel
theorem dX4_gapBefore_21 : decode cX4_gapBefore 21 = .ok (.ineg, 1) := by decide +kernel
theorem dX4_gapBefore_22 : decode cX4_gapBefore 22 = .ok (.goto 4, 3) := by decide +kernel
theorem dX4_gapBefore_25 : decode cX4_gapBefore 25 = .ok (.iload_n 2, 1) := by decide +kernel
theorem dX4_gapBefore_26 : decode cX4_gapBefore 26 = .ok (.ireturn, 1) := by decide +kernel
theorem dX4_reckonLong_0 : decode cX4_reckonLong 0 = .ok (.iconst 0, 1) := by decide +kernel
theorem dX4_reckonLong_1 : decode cX4_reckonLong 1 = .ok (.istore_n 1, 1) := by decide +kernel
theorem dX4_reckonLong_2 : decode cX4_reckonLong 2 = .ok (.iconst 1, 1) := by decide +kernel
theorem dX4_reckonLong_3 : decode cX4_reckonLong 3 = .ok (.istore_n 2, 1) := by decide +kernel
theorem dX4_reckonLong_4 : decode cX4_reckonLong 4 = .ok (.iload_n 2, 1) := by decide +kernel
theorem dX4_reckonLong_5 : decode cX4_reckonLong 5 = .ok (.aload_n 0, 1) := by decide +kernel
theorem dX4_reckonLong_6 : decode cX4_reckonLong 6 = .ok (.getfield 21, 3) := by decide +kernel
theorem dX4_reckonLong_9 : decode cX4_reckonLong 9 = .ok (.if_icmp .ge 20, 3) := by decide +kernel
theorem dX4_reckonLong_12 : decode cX4_reckonLong 12 = .ok (.iload_n 1, 1) := by decide +kernel
theorem dX4_reckonLong_13 : decode cX4_reckonLong 13 = .ok (.bipush 10, 2) := by decide +kernel
theorem dX4_reckonLong_15 : decode cX4_reckonLong 15 = .ok (.aload_n 0, 1) := by decide +kernel
theorem dX4_reckonLong_16 : decode cX4_reckonLong 16 = .ok (.iload_n 2, 1) := by decide +kernel
theorem dX4_reckonLong_17 : decode cX4_reckonLong 17 = .ok (.invokevirtual 112, 3) := by decide +kernel
theorem dX4_reckonLong_20 : decode cX4_reckonLong 20 = .ok (.iadd, 1) := by decide +kernel
theorem dX4_reckonLong_21 : decode cX4_reckonLong 21 = .ok (.iadd, 1) := by decide +kernel
theorem dX4_reckonLong_22 : decode cX4_reckonLong 22 = .ok (.istore_n 1, 1) := by decide +kernel
theorem dX4_reckonLong_23 : decode cX4_reckonLong 23 = .ok (.iinc 2 1, 3) := by decide +kernel
theorem dX4_reckonLong_26 : decode cX4_reckonLong 26 = .ok (.goto (-22), 3) := by decide +kernel
theorem dX4_reckonLong_29 : decode cX4_reckonLong 29 = .ok (.iload_n 1, 1) := by decide +kernel
theorem dX4_reckonLong_30 : decode cX4_reckonLong 30 = .ok (.ireturn, 1) := by decide +kernel
theorem dX4_reckonCrooks_0 : decode cX4_reckonCrooks 0 = .ok (.iconst 0, 1) := by decide +kernel
theorem dX4_reckonCrooks_1 : decode cX4_reckonCrooks 1 = .ok (.istore_n 1, 1) := by decide +kernel
theorem dX4_reckonCrooks_2 : decode cX4_reckonCrooks 2 = .ok (.iconst 1, 1) := by decide +kernel
theorem dX4_reckonCrooks_3 : decode cX4_reckonCrooks 3 = .ok (.istore_n 2, 1) := by decide +kernel
theorem dX4_reckonCrooks_4 : decode cX4_reckonCrooks 4 = .ok (.iload_n 2, 1) := by decide +kernel
theorem dX4_reckonCrooks_5 : decode cX4_reckonCrooks 5 = .ok (.aload_n 0, 1) := by decide +kernel
theorem dX4_reckonCrooks_6 : decode cX4_reckonCrooks 6 = .ok (.getfield 21, 3) := by decide +kernel
theorem dX4_reckonCrooks_9 : decode cX4_reckonCrooks 9 = .ok (.iconst 1, 1) := by decide +kernel
theorem dX4_reckonCrooks_10 : decode cX4_reckonCrooks 10 = .ok (.isub, 1) := by decide +kernel
theorem dX4_reckonCrooks_11 : decode cX4_reckonCrooks 11 = .ok (.if_icmp .ge 59, 3) := by decide +kernel
theorem dX4_reckonCrooks_14 : decode cX4_reckonCrooks 14 = .ok (.aload_n 0, 1) := by decide +kernel
theorem dX4_reckonCrooks_15 : decode cX4_reckonCrooks 15 = .ok (.getfield 9, 3) := by decide +kernel
theorem dX4_reckonCrooks_18 : decode cX4_reckonCrooks 18 = .ok (.iload_n 2, 1) := by decide +kernel
theorem dX4_reckonCrooks_19 : decode cX4_reckonCrooks 19 = .ok (.iaload, 1) := by decide +kernel
theorem dX4_reckonCrooks_20 : decode cX4_reckonCrooks 20 = .ok (.aload_n 0, 1) := by decide +kernel
theorem dX4_reckonCrooks_21 : decode cX4_reckonCrooks 21 = .ok (.getfield 9, 3) := by decide +kernel
theorem dX4_reckonCrooks_24 : decode cX4_reckonCrooks 24 = .ok (.iload_n 2, 1) := by decide +kernel
theorem dX4_reckonCrooks_25 : decode cX4_reckonCrooks 25 = .ok (.iconst 1, 1) := by decide +kernel
theorem dX4_reckonCrooks_26 : decode cX4_reckonCrooks 26 = .ok (.isub, 1) := by decide +kernel
theorem dX4_reckonCrooks_27 : decode cX4_reckonCrooks 27 = .ok (.iaload, 1) := by decide +kernel
theorem dX4_reckonCrooks_28 : decode cX4_reckonCrooks 28 = .ok (.invokestatic 115, 3) := by decide +kernel
theorem dX4_reckonCrooks_31 : decode cX4_reckonCrooks 31 = .ok (.istore_n 3, 1) := by decide +kernel
theorem dX4_reckonCrooks_32 : decode cX4_reckonCrooks 32 = .ok (.aload_n 0, 1) := by decide +kernel
theorem dX4_reckonCrooks_33 : decode cX4_reckonCrooks 33 = .ok (.getfield 9, 3) := by decide +kernel
theorem dX4_reckonCrooks_36 : decode cX4_reckonCrooks 36 = .ok (.iload_n 2, 1) := by decide +kernel
theorem dX4_reckonCrooks_37 : decode cX4_reckonCrooks 37 = .ok (.iaload, 1) := by decide +kernel
theorem dX4_reckonCrooks_38 : decode cX4_reckonCrooks 38 = .ok (.aload_n 0, 1) := by decide +kernel
theorem dX4_reckonCrooks_39 : decode cX4_reckonCrooks 39 = .ok (.getfield 9, 3) := by decide +kernel
theorem dX4_reckonCrooks_42 : decode cX4_reckonCrooks 42 = .ok (.iload_n 2, 1) := by decide +kernel
theorem dX4_reckonCrooks_43 : decode cX4_reckonCrooks 43 = .ok (.iconst 1, 1) := by decide +kernel
theorem dX4_reckonCrooks_44 : decode cX4_reckonCrooks 44 = .ok (.iadd, 1) := by decide +kernel
theorem dX4_reckonCrooks_45 : decode cX4_reckonCrooks 45 = .ok (.iaload, 1) := by decide +kernel
theorem dX4_reckonCrooks_46 : decode cX4_reckonCrooks 46 = .ok (.invokestatic 115, 3) := by decide +kernel
theorem dX4_reckonCrooks_49 : decode cX4_reckonCrooks 49 = .ok (.istore 4, 2) := by decide +kernel
theorem dX4_reckonCrooks_51 : decode cX4_reckonCrooks 51 = .ok (.iload_n 3, 1) := by decide +kernel
theorem dX4_reckonCrooks_52 : decode cX4_reckonCrooks 52 = .ok (.ifCond .eq 12, 3) := by decide +kernel
theorem dX4_reckonCrooks_55 : decode cX4_reckonCrooks 55 = .ok (.iload_n 3, 1) := by decide +kernel
theorem dX4_reckonCrooks_56 : decode cX4_reckonCrooks 56 = .ok (.iload 4, 2) := by decide +kernel
theorem dX4_reckonCrooks_58 : decode cX4_reckonCrooks 58 = .ok (.if_icmp .ne 6, 3) := by decide +kernel
theorem dX4_reckonCrooks_61 : decode cX4_reckonCrooks 61 = .ok (.iinc 1 1, 3) := by decide +kernel
theorem dX4_reckonCrooks_64 : decode cX4_reckonCrooks 64 = .ok (.iinc 2 1, 3) := by decide +kernel
theorem dX4_reckonCrooks_67 : decode cX4_reckonCrooks 67 = .ok (.goto (-63), 3) := by decide +kernel
theorem dX4_reckonCrooks_70 : decode cX4_reckonCrooks 70 = .ok (.iload_n 1, 1) := by decide +kernel
theorem dX4_reckonCrooks_71 : decode cX4_reckonCrooks 71 = .ok (.ireturn, 1) := by decide +kernel
theorem dX4_reckonKnots_0 : decode cX4_reckonKnots 0 = .ok (.iconst 0, 1) := by decide +kernel
theorem dX4_reckonKnots_1 : decode cX4_reckonKnots 1 = .ok (.istore_n 1, 1) := by decide +kernel
theorem dX4_reckonKnots_2 : decode cX4_reckonKnots 2 = .ok (.iconst 1, 1) := by decide +kernel
theorem dX4_reckonKnots_3 : decode cX4_reckonKnots 3 = .ok (.istore_n 2, 1) := by decide +kernel
theorem dX4_reckonKnots_4 : decode cX4_reckonKnots 4 = .ok (.iload_n 2, 1) := by decide +kernel
theorem dX4_reckonKnots_5 : decode cX4_reckonKnots 5 = .ok (.aload_n 0, 1) := by decide +kernel
theorem dX4_reckonKnots_6 : decode cX4_reckonKnots 6 = .ok (.getfield 21, 3) := by decide +kernel
theorem dX4_reckonKnots_9 : decode cX4_reckonKnots 9 = .ok (.if_icmp .ge 21, 3) := by decide +kernel
theorem dX4_reckonKnots_12 : decode cX4_reckonKnots 12 = .ok (.aload_n 0, 1) := by decide +kernel
theorem dX4_reckonKnots_13 : decode cX4_reckonKnots 13 = .ok (.iload_n 2, 1) := by decide +kernel
theorem dX4_reckonKnots_14 : decode cX4_reckonKnots 14 = .ok (.invokevirtual 112, 3) := by decide +kernel
theorem dX4_reckonKnots_17 : decode cX4_reckonKnots 17 = .ok (.iconst 4, 1) := by decide +kernel
theorem dX4_reckonKnots_18 : decode cX4_reckonKnots 18 = .ok (.if_icmp .lt 6, 3) := by decide +kernel
theorem dX4_reckonKnots_21 : decode cX4_reckonKnots 21 = .ok (.iinc 1 1, 3) := by decide +kernel
theorem dX4_reckonKnots_24 : decode cX4_reckonKnots 24 = .ok (.iinc 2 1, 3) := by decide +kernel
theorem dX4_reckonKnots_27 : decode cX4_reckonKnots 27 = .ok (.goto (-23), 3) := by decide +kernel
theorem dX4_reckonKnots_30 : decode cX4_reckonKnots 30 = .ok (.iload_n 1, 1) := by decide +kernel
theorem dX4_reckonKnots_31 : decode cX4_reckonKnots 31 = .ok (.ireturn, 1) := by decide +kernel
theorem dX4_postAhead_0 : decode cX4_postAhead 0 = .ok (.iconst 0, 1) := by decide +kernel
theorem dX4_postAhead_1 : decode cX4_postAhead 1 = .ok (.istore_n 2, 1) := by decide +kernel
theorem dX4_postAhead_2 : decode cX4_postAhead 2 = .ok (.iconst 0, 1) := by decide +kernel
theorem dX4_postAhead_3 : decode cX4_postAhead 3 = .ok (.istore_n 3, 1) := by decide +kernel
theorem dX4_postAhead_4 : decode cX4_postAhead 4 = .ok (.iconst 1, 1) := by decide +kernel
theorem dX4_postAhead_5 : decode cX4_postAhead 5 = .ok (.istore 4, 2) := by decide +kernel
theorem dX4_postAhead_7 : decode cX4_postAhead 7 = .ok (.iload 4, 2) := by decide +kernel
theorem dX4_postAhead_9 : decode cX4_postAhead 9 = .ok (.aload_n 0, 1) := by decide +kernel
theorem dX4_postAhead_10 : decode cX4_postAhead 10 = .ok (.getfield 21, 3) := by decide +kernel
theorem dX4_postAhead_13 : decode cX4_postAhead 13 = .ok (.if_icmp .ge 29, 3) := by decide +kernel
theorem dX4_postAhead_16 : decode cX4_postAhead 16 = .ok (.iload_n 2, 1) := by decide +kernel
theorem dX4_postAhead_17 : decode cX4_postAhead 17 = .ok (.bipush 10, 2) := by decide +kernel
theorem dX4_postAhead_19 : decode cX4_postAhead 19 = .ok (.aload_n 0, 1) := by decide +kernel
theorem dX4_postAhead_20 : decode cX4_postAhead 20 = .ok (.iload 4, 2) := by decide +kernel
theorem dX4_postAhead_22 : decode cX4_postAhead 22 = .ok (.invokevirtual 112, 3) := by decide +kernel
theorem dX4_postAhead_25 : decode cX4_postAhead 25 = .ok (.iadd, 1) := by decide +kernel
theorem dX4_postAhead_26 : decode cX4_postAhead 26 = .ok (.iadd, 1) := by decide +kernel
theorem dX4_postAhead_27 : decode cX4_postAhead 27 = .ok (.istore_n 2, 1) := by decide +kernel
theorem dX4_postAhead_28 : decode cX4_postAhead 28 = .ok (.iload_n 2, 1) := by decide +kernel
theorem dX4_postAhead_29 : decode cX4_postAhead 29 = .ok (.iload_n 1, 1) := by decide +kernel
theorem dX4_postAhead_30 : decode cX4_postAhead 30 = .ok (.if_icmp .gt 6, 3) := by decide +kernel
theorem dX4_postAhead_33 : decode cX4_postAhead 33 = .ok (.iload 4, 2) := by decide +kernel
theorem dX4_postAhead_35 : decode cX4_postAhead 35 = .ok (.istore_n 3, 1) := by decide +kernel
theorem dX4_postAhead_36 : decode cX4_postAhead 36 = .ok (.iinc 4 1, 3) := by decide +kernel
theorem dX4_postAhead_39 : decode cX4_postAhead 39 = .ok (.goto (-32), 3) := by decide +kernel
theorem dX4_postAhead_42 : decode cX4_postAhead 42 = .ok (.iload_n 2, 1) := by decide +kernel
theorem dX4_postAhead_43 : decode cX4_postAhead 43 = .ok (.iload_n 1, 1) := by decide +kernel
theorem dX4_postAhead_44 : decode cX4_postAhead 44 = .ok (.if_icmp .ge 8, 3) := by decide +kernel
theorem dX4_postAhead_47 : decode cX4_postAhead 47 = .ok (.bipush (-4), 2) := by decide +kernel
theorem dX4_postAhead_49 : decode cX4_postAhead 49 = .ok (.goto 4, 3) := by decide +kernel
theorem dX4_postAhead_52 : decode cX4_postAhead 52 = .ok (.iload_n 3, 1) := by decide +kernel
theorem dX4_postAhead_53 : decode cX4_postAhead 53 = .ok (.ireturn, 1) := by decide +kernel
theorem dX5_init_0 : decode cX5_init 0 = .ok (.aload_n 0, 1) := by decide +kernel
theorem dX5_init_1 : decode cX5_init 1 = .ok (.invokespecial 3, 3) := by decide +kernel
theorem dX5_init_4 : decode cX5_init 4 = .ok (.aload_n 0, 1) := by decide +kernel
theorem dX5_init_5 : decode cX5_init 5 = .ok (.iconst 4, 1) := by decide +kernel
theorem dX5_init_6 : decode cX5_init 6 = .ok (.anewarray 9, 3) := by decide +kernel
theorem dX5_init_9 : decode cX5_init 9 = .ok (.putfield 11, 3) := by decide +kernel
theorem dX5_init_12 : decode cX5_init 12 = .ok (.aload_n 0, 1) := by decide +kernel
theorem dX5_init_13 : decode cX5_init 13 = .ok (.iconst 3, 1) := by decide +kernel
theorem dX5_init_14 : decode cX5_init 14 = .ok (.newarray .int, 2) := by decide +kernel
theorem dX5_init_16 : decode cX5_init 16 = .ok (.putfield 17, 3) := by decide +kernel
theorem dX5_init_19 : decode cX5_init 19 = .ok (.iconst 0, 1) := by decide +kernel
theorem dX5_init_20 : decode cX5_init 20 = .ok (.istore_n 1, 1) := by decide +kernel
theorem dX5_init_21 : decode cX5_init 21 = .ok (.iload_n 1, 1) := by decide +kernel
theorem dX5_init_22 : decode cX5_init 22 = .ok (.aload_n 0, 1) := by decide +kernel
theorem dX5_init_23 : decode cX5_init 23 = .ok (.getfield 11, 3) := by decide +kernel
theorem dX5_init_26 : decode cX5_init 26 = .ok (.arraylength, 1) := by decide +kernel
theorem dX5_init_27 : decode cX5_init 27 = .ok (.if_icmp .ge 22, 3) := by decide +kernel
theorem dX5_init_30 : decode cX5_init 30 = .ok (.aload_n 0, 1) := by decide +kernel
theorem dX5_init_31 : decode cX5_init 31 = .ok (.getfield 11, 3) := by decide +kernel
theorem dX5_init_34 : decode cX5_init 34 = .ok (.iload_n 1, 1) := by decide +kernel
theorem dX5_init_35 : decode cX5_init 35 = .ok (.new 9, 3) := by decide +kernel
theorem dX5_init_38 : decode cX5_init 38 = .ok (.dup, 1) := by decide +kernel
theorem dX5_init_39 : decode cX5_init 39 = .ok (.invokespecial 21, 3) := by decide +kernel
theorem dX5_init_42 : decode cX5_init 42 = .ok (.aastore, 1) := by decide +kernel
theorem dX5_init_43 : decode cX5_init 43 = .ok (.iinc 1 1, 3) := by decide +kernel
theorem dX5_init_46 : decode cX5_init 46 = .ok (.goto (-25), 3) := by decide +kernel
theorem dX5_init_49 : decode cX5_init 49 = .ok (.return_, 1) := by decide +kernel
theorem dX5_fewestWalks_0 : decode cX5_fewestWalks 0 = .ok (.aload_n 0, 1) := by decide +kernel
theorem dX5_fewestWalks_1 : decode cX5_fewestWalks 1 = .ok (.iload_n 3, 1) := by decide +kernel
theorem dX5_fewestWalks_2 : decode cX5_fewestWalks 2 = .ok (.putfield 22, 3) := by decide +kernel
theorem dX5_fewestWalks_5 : decode cX5_fewestWalks 5 = .ok (.aload_n 0, 1) := by decide +kernel
theorem dX5_fewestWalks_6 : decode cX5_fewestWalks 6 = .ok (.iload 4, 2) := by decide +kernel
theorem dX5_fewestWalks_8 : decode cX5_fewestWalks 8 = .ok (.putfield 26, 3) := by decide +kernel
theorem dX5_fewestWalks_11 : decode cX5_fewestWalks 11 = .ok (.aload_n 0, 1) := by decide +kernel
theorem dX5_fewestWalks_12 : decode cX5_fewestWalks 12 = .ok (.getfield 11, 3) := by decide +kernel
theorem dX5_fewestWalks_15 : decode cX5_fewestWalks 15 = .ok (.iconst 0, 1) := by decide +kernel
theorem dX5_fewestWalks_16 : decode cX5_fewestWalks 16 = .ok (.aaload, 1) := by decide +kernel
theorem dX5_fewestWalks_17 : decode cX5_fewestWalks 17 = .ok (.aload_n 2, 1) := by decide +kernel
theorem dX5_fewestWalks_18 : decode cX5_fewestWalks 18 = .ok (.invokevirtual 29, 3) := by decide +kernel
theorem dX5_fewestWalks_21 : decode cX5_fewestWalks 21 = .ok (.iconst 0, 1) := by decide +kernel
theorem dX5_fewestWalks_22 : decode cX5_fewestWalks 22 = .ok (.istore 5, 2) := by decide +kernel
theorem dX5_fewestWalks_24 : decode cX5_fewestWalks 24 = .ok (.iload 5, 2) := by decide +kernel
theorem dX5_fewestWalks_26 : decode cX5_fewestWalks 26 = .ok (.iconst 3, 1) := by decide +kernel
theorem dX5_fewestWalks_27 : decode cX5_fewestWalks 27 = .ok (.if_icmp .gt 23, 3) := by decide +kernel
theorem dX5_fewestWalks_30 : decode cX5_fewestWalks 30 = .ok (.aload_n 0, 1) := by decide +kernel
theorem dX5_fewestWalks_31 : decode cX5_fewestWalks 31 = .ok (.aload_n 1, 1) := by decide +kernel
theorem dX5_fewestWalks_32 : decode cX5_fewestWalks 32 = .ok (.iconst 0, 1) := by decide +kernel
theorem dX5_fewestWalks_33 : decode cX5_fewestWalks 33 = .ok (.iload 5, 2) := by decide +kernel
theorem dX5_fewestWalks_35 : decode cX5_fewestWalks 35 = .ok (.invokestatic 33, 3) := by decide +kernel
theorem dX5_fewestWalks_38 : decode cX5_fewestWalks 38 = .ok (.ifCond .eq 6, 3) := by decide +kernel
theorem dX5_fewestWalks_41 : decode cX5_fewestWalks 41 = .ok (.iload 5, 2) := by decide +kernel
theorem dX5_fewestWalks_43 : decode cX5_fewestWalks 43 = .ok (.ireturn, 1) := by decide +kernel
theorem dX5_fewestWalks_44 : decode cX5_fewestWalks 44 = .ok (.iinc 5 1, 3) := by decide +kernel
theorem dX5_fewestWalks_47 : decode cX5_fewestWalks 47 = .ok (.goto (-23), 3) := by decide +kernel
theorem dX5_fewestWalks_50 : decode cX5_fewestWalks 50 = .ok (.bipush (-4), 2) := by decide +kernel
theorem dX5_fewestWalks_52 : decode cX5_fewestWalks 52 = .ok (.ireturn, 1) := by decide +kernel
theorem dX5_isReached_0 : decode cX5_isReached 0 = .ok (.iload_n 2, 1) := by decide +kernel
theorem dX5_isReached_1 : decode cX5_isReached 1 = .ok (.iload_n 3, 1) := by decide +kernel
theorem dX5_isReached_2 : decode cX5_isReached 2 = .ok (.if_icmp .ge 8, 3) := by decide +kernel
theorem dX5_isReached_5 : decode cX5_isReached 5 = .ok (.iload_n 2, 1) := by decide +kernel
theorem dX5_isReached_6 : decode cX5_isReached 6 = .ok (.iconst 3, 1) := by decide +kernel
theorem dX5_isReached_7 : decode cX5_isReached 7 = .ok (.if_icmp .lt 14, 3) := by decide +kernel
theorem dX5_isReached_10 : decode cX5_isReached 10 = .ok (.aload_n 0, 1) := by decide +kernel
theorem dX5_isReached_11 : decode cX5_isReached 11 = .ok (.aload_n 0, 1) := by decide +kernel
theorem dX5_isReached_12 : decode cX5_isReached 12 = .ok (.getfield 11, 3) := by decide +kernel
theorem dX5_isReached_15 : decode cX5_isReached 15 = .ok (.iload_n 2, 1) := by decide +kernel
theorem dX5_isReached_16 : decode cX5_isReached 16 = .ok (.aaload, 1) := by decide +kernel
theorem dX5_isReached_17 : decode cX5_isReached 17 = .ok (.invokevirtual 37, 3) := by decide +kernel
theorem dX5_isReached_20 : decode cX5_isReached 20 = .ok (.ireturn, 1) := by decide +kernel
theorem dX5_isReached_21 : decode cX5_isReached 21 = .ok (.aload_n 0, 1) := by decide +kernel
theorem dX5_isReached_22 : decode cX5_isReached 22 = .ok (.aload_n 0, 1) := by decide +kernel
theorem dX5_isReached_23 : decode cX5_isReached 23 = .ok (.getfield 11, 3) := by decide +kernel
theorem dX5_isReached_26 : decode cX5_isReached 26 = .ok (.iload_n 2, 1) := by decide +kernel
theorem dX5_isReached_27 : decode cX5_isReached 27 = .ok (.aaload, 1) := by decide +kernel
theorem dX5_isReached_28 : decode cX5_isReached 28 = .ok (.iload_n 3, 1) := by decide +kernel
theorem dX5_isReached_29 : decode cX5_isReached 29 = .ok (.iload_n 2, 1) := by decide +kernel
theorem dX5_isReached_30 : decode cX5_isReached 30 = .ok (.isub, 1) := by decide +kernel
theorem dX5_isReached_31 : decode cX5_isReached 31 = .ok (.invokevirtual 41, 3) := by decide +kernel
theorem dX5_isReached_34 : decode cX5_isReached 34 = .ok (.ifCond .eq 5, 3) := by decide +kernel
theorem dX5_isReached_37 : decode cX5_isReached 37 = .ok (.iconst 0, 1) := by decide +kernel
theorem dX5_isReached_38 : decode cX5_isReached 38 = .ok (.ireturn, 1) := by decide +kernel
theorem dX5_isReached_39 : decode cX5_isReached 39 = .ok (.aload_n 0, 1) := by decide +kernel
theorem dX5_isReached_40 : decode cX5_isReached 40 = .ok (.getfield 11, 3) := by decide +kernel
theorem dX5_isReached_43 : decode cX5_isReached 43 = .ok (.iload_n 2, 1) := by decide +kernel
theorem dX5_isReached_44 : decode cX5_isReached 44 = .ok (.iconst 1, 1) := by decide +kernel
theorem dX5_isReached_45 : decode cX5_isReached 45 = .ok (.iadd, 1) := by decide +kernel
theorem dX5_isReached_46 : decode cX5_isReached 46 = .ok (.aaload, 1) := by decide +kernel
theorem dX5_isReached_47 : decode cX5_isReached 47 = .ok (.astore 4, 2) := by decide +kernel
theorem dX5_isReached_49 : decode cX5_isReached 49 = .ok (.iconst 0, 1) := by decide +kernel
theorem dX5_isReached_50 : decode cX5_isReached 50 = .ok (.istore 5, 2) := by decide +kernel
theorem dX5_isReached_52 : decode cX5_isReached 52 = .ok (.iload 5, 2) := by decide +kernel
theorem dX5_isReached_54 : decode cX5_isReached 54 = .ok (.aload_n 1, 1) := by decide +kernel
theorem dX5_isReached_55 : decode cX5_isReached 55 = .ok (.getfield 45, 3) := by decide +kernel
theorem dX5_isReached_58 : decode cX5_isReached 58 = .ok (.if_icmp .ge 79, 3) := by decide +kernel
theorem dX5_isReached_61 : decode cX5_isReached 61 = .ok (.iconst 0, 1) := by decide +kernel
theorem dX5_isReached_62 : decode cX5_isReached 62 = .ok (.istore 6, 2) := by decide +kernel
theorem dX5_isReached_64 : decode cX5_isReached 64 = .ok (.iload 6, 2) := by decide +kernel
theorem dX5_isReached_66 : decode cX5_isReached 66 = .ok (.aload_n 1, 1) := by decide +kernel
theorem dX5_isReached_67 : decode cX5_isReached 67 = .ok (.getfield 50, 3) := by decide +kernel
theorem dX5_isReached_70 : decode cX5_isReached 70 = .ok (.if_icmp .ge 61, 3) := by decide +kernel
theorem dX5_isReached_73 : decode cX5_isReached 73 = .ok (.aload 4, 2) := by decide +kernel
theorem dX5_isReached_75 : decode cX5_isReached 75 = .ok (.aload_n 0, 1) := by decide +kernel
theorem dX5_isReached_76 : decode cX5_isReached 76 = .ok (.getfield 11, 3) := by decide +kernel
theorem dX5_isReached_79 : decode cX5_isReached 79 = .ok (.iload_n 2, 1) := by decide +kernel
theorem dX5_isReached_80 : decode cX5_isReached 80 = .ok (.aaload, 1) := by decide +kernel
theorem dX5_isReached_81 : decode cX5_isReached 81 = .ok (.invokevirtual 29, 3) := by decide +kernel
theorem dX5_isReached_84 : decode cX5_isReached 84 = .ok (.aload 4, 2) := by decide +kernel
theorem dX5_isReached_86 : decode cX5_isReached 86 = .ok (.aload_n 1, 1) := by decide +kernel
theorem dX5_isReached_87 : decode cX5_isReached 87 = .ok (.iload 5, 2) := by decide +kernel
theorem dX5_isReached_89 : decode cX5_isReached 89 = .ok (.iload 6, 2) := by decide +kernel
theorem dX5_isReached_91 : decode cX5_isReached 91 = .ok (.invokevirtual 53, 3) := by decide +kernel
theorem dX5_isReached_94 : decode cX5_isReached 94 = .ok (.ifCond .le 31, 3) := by decide +kernel
theorem dX5_isReached_97 : decode cX5_isReached 97 = .ok (.aload_n 0, 1) := by decide +kernel
theorem dX5_isReached_98 : decode cX5_isReached 98 = .ok (.aload_n 1, 1) := by decide +kernel
theorem dX5_isReached_99 : decode cX5_isReached 99 = .ok (.iload_n 2, 1) := by decide +kernel
theorem dX5_isReached_100 : decode cX5_isReached 100 = .ok (.iconst 1, 1) := by decide +kernel
theorem dX5_isReached_101 : decode cX5_isReached 101 = .ok (.iadd, 1) := by decide +kernel
theorem dX5_isReached_102 : decode cX5_isReached 102 = .ok (.iload_n 3, 1) := by decide +kernel
theorem dX5_isReached_103 : decode cX5_isReached 103 = .ok (.invokestatic 33, 3) := by decide +kernel
theorem dX5_isReached_106 : decode cX5_isReached 106 = .ok (.ifCond .eq 19, 3) := by decide +kernel
theorem dX5_isReached_109 : decode cX5_isReached 109 = .ok (.aload_n 0, 1) := by decide +kernel
theorem dX5_isReached_110 : decode cX5_isReached 110 = .ok (.getfield 17, 3) := by decide +kernel
theorem dX5_isReached_113 : decode cX5_isReached 113 = .ok (.iload_n 2, 1) := by decide +kernel
theorem dX5_isReached_114 : decode cX5_isReached 114 = .ok (.bipush 10, 2) := by decide +kernel
theorem dX5_isReached_116 : decode cX5_isReached 116 = .ok (.iload 5, 2) := by decide +kernel
theorem dX5_isReached_118 : decode cX5_isReached 118 = .ok (.imul, 1) := by decide +kernel
theorem dX5_isReached_119 : decode cX5_isReached 119 = .ok (.iload 6, 2) := by decide +kernel
theorem dX5_isReached_121 : decode cX5_isReached 121 = .ok (.iadd, 1) := by decide +kernel
theorem dX5_isReached_122 : decode cX5_isReached 122 = .ok (.iastore, 1) := by decide +kernel
theorem dX5_isReached_123 : decode cX5_isReached 123 = .ok (.iconst 1, 1) := by decide +kernel
theorem dX5_isReached_124 : decode cX5_isReached 124 = .ok (.ireturn, 1) := by decide +kernel
theorem dX5_isReached_125 : decode cX5_isReached 125 = .ok (.iinc 6 1, 3) := by decide +kernel
theorem dX5_isReached_128 : decode cX5_isReached 128 = .ok (.goto (-64), 3) := by decide +kernel
theorem dX5_isReached_131 : decode cX5_isReached 131 = .ok (.iinc 5 1, 3) := by decide +kernel
theorem dX5_isReached_134 : decode cX5_isReached 134 = .ok (.goto (-82), 3) := by decide +kernel
theorem dX5_isReached_137 : decode cX5_isReached 137 = .ok (.iconst 0, 1) := by decide +kernel
theorem dX5_isReached_138 : decode cX5_isReached 138 = .ok (.ireturn, 1) := by decide +kernel
theorem dX5_isMet_0 : decode cX5_isMet 0 = .ok (.aload_n 0, 1) := by decide +kernel
theorem dX5_isMet_1 : decode cX5_isMet 1 = .ok (.getfield 22, 3) := by decide +kernel
theorem dX5_isMet_4 : decode cX5_isMet 4 = .ok (.iconst (-1), 1) := by decide +kernel
theorem dX5_isMet_5 : decode cX5_isMet 5 = .ok (.if_icmp .ne 22, 3) := by decide +kernel
theorem dX5_isMet_8 : decode cX5_isMet 8 = .ok (.aload_n 1, 1) := by decide +kernel
theorem dX5_isMet_9 : decode cX5_isMet 9 = .ok (.invokevirtual 57, 3) := by decide +kernel
theorem dX5_isMet_12 : decode cX5_isMet 12 = .ok (.aload_n 0, 1) := by decide +kernel
theorem dX5_isMet_13 : decode cX5_isMet 13 = .ok (.getfield 26, 3) := by decide +kernel
theorem dX5_isMet_16 : decode cX5_isMet 16 = .ok (.if_icmp .lt 7, 3) := by decide +kernel
theorem dX5_isMet_19 : decode cX5_isMet 19 = .ok (.iconst 1, 1) := by decide +kernel
theorem dX5_isMet_20 : decode cX5_isMet 20 = .ok (.goto 28, 3) := by decide +kernel
theorem dX5_isMet_23 : decode cX5_isMet 23 = .ok (.iconst 0, 1) := by decide +kernel
theorem dX5_isMet_24 : decode cX5_isMet 24 = .ok (.goto 24, 3) := by decide +kernel
theorem dX5_isMet_27 : decode cX5_isMet 27 = .ok (.aload_n 1, 1) := by decide +kernel
theorem dX5_isMet_28 : decode cX5_isMet 28 = .ok (.getfield 61, 3) := by decide +kernel
theorem dX5_isMet_31 : decode cX5_isMet 31 = .ok (.aload_n 0, 1) := by decide +kernel
theorem dX5_isMet_32 : decode cX5_isMet 32 = .ok (.getfield 22, 3) := by decide +kernel
theorem dX5_isMet_35 : decode cX5_isMet 35 = .ok (.iaload, 1) := by decide +kernel
theorem dX5_isMet_36 : decode cX5_isMet 36 = .ok (.aload_n 0, 1) := by decide +kernel
theorem dX5_isMet_37 : decode cX5_isMet 37 = .ok (.getfield 26, 3) := by decide +kernel
theorem dX5_isMet_40 : decode cX5_isMet 40 = .ok (.if_icmp .ne 7, 3) := by decide +kernel
theorem dX5_isMet_43 : decode cX5_isMet 43 = .ok (.iconst 1, 1) := by decide +kernel
theorem dX5_isMet_44 : decode cX5_isMet 44 = .ok (.goto 4, 3) := by decide +kernel
theorem dX5_isMet_47 : decode cX5_isMet 47 = .ok (.iconst 0, 1) := by decide +kernel
theorem dX5_isMet_48 : decode cX5_isMet 48 = .ok (.ireturn, 1) := by decide +kernel
theorem dX5_isTooFar_0 : decode cX5_isTooFar 0 = .ok (.iconst 3, 1) := by decide +kernel
theorem dX5_isTooFar_1 : decode cX5_isTooFar 1 = .ok (.iload_n 2, 1) := by decide +kernel
theorem dX5_isTooFar_2 : decode cX5_isTooFar 2 = .ok (.imul, 1) := by decide +kernel
theorem dX5_isTooFar_3 : decode cX5_isTooFar 3 = .ok (.istore_n 3, 1) := by decide +kernel
theorem dX5_isTooFar_4 : decode cX5_isTooFar 4 = .ok (.aload_n 0, 1) := by decide +kernel
theorem dX5_isTooFar_5 : decode cX5_isTooFar 5 = .ok (.getfield 22, 3) := by decide +kernel
theorem dX5_isTooFar_8 : decode cX5_isTooFar 8 = .ok (.iconst (-1), 1) := by decide +kernel
theorem dX5_isTooFar_9 : decode cX5_isTooFar 9 = .ok (.if_icmp .ne 31, 3) := by decide +kernel
theorem dX5_isTooFar_12 : decode cX5_isTooFar 12 = .ok (.aload_n 1, 1) := by decide +kernel
theorem dX5_isTooFar_13 : decode cX5_isTooFar 13 = .ok (.invokevirtual 57, 3) := by decide +kernel
theorem dX5_isTooFar_16 : decode cX5_isTooFar 16 = .ok (.iconst 2, 1) := by decide +kernel
theorem dX5_isTooFar_17 : decode cX5_isTooFar 17 = .ok (.iload_n 3, 1) := by decide +kernel
theorem dX5_isTooFar_18 : decode cX5_isTooFar 18 = .ok (.imul, 1) := by decide +kernel
theorem dX5_isTooFar_19 : decode cX5_isTooFar 19 = .ok (.aload_n 1, 1) := by decide +kernel
theorem dX5_isTooFar_20 : decode cX5_isTooFar 20 = .ok (.getfield 64, 3) := by decide +kernel
theorem dX5_isTooFar_23 : decode cX5_isTooFar 23 = .ok (.iconst 2, 1) := by decide +kernel
theorem dX5_isTooFar_24 : decode cX5_isTooFar 24 = .ok (.isub, 1) := by decide +kernel
theorem dX5_isTooFar_25 : decode cX5_isTooFar 25 = .ok (.imul, 1) := by decide +kernel
theorem dX5_isTooFar_26 : decode cX5_isTooFar 26 = .ok (.iadd, 1) := by decide +kernel
theorem dX5_isTooFar_27 : decode cX5_isTooFar 27 = .ok (.aload_n 0, 1) := by decide +kernel
theorem dX5_isTooFar_28 : decode cX5_isTooFar 28 = .ok (.getfield 26, 3) := by decide +kernel
theorem dX5_isTooFar_31 : decode cX5_isTooFar 31 = .ok (.if_icmp .ge 7, 3) := by decide +kernel
theorem dX5_isTooFar_34 : decode cX5_isTooFar 34 = .ok (.iconst 1, 1) := by decide +kernel
theorem dX5_isTooFar_35 : decode cX5_isTooFar 35 = .ok (.goto 4, 3) := by decide +kernel
theorem dX5_isTooFar_38 : decode cX5_isTooFar 38 = .ok (.iconst 0, 1) := by decide +kernel
theorem dX5_isTooFar_39 : decode cX5_isTooFar 39 = .ok (.ireturn, 1) := by decide +kernel
theorem dX5_isTooFar_40 : decode cX5_isTooFar 40 = .ok (.aload_n 1, 1) := by decide +kernel
theorem dX5_isTooFar_41 : decode cX5_isTooFar 41 = .ok (.getfield 61, 3) := by decide +kernel
theorem dX5_isTooFar_44 : decode cX5_isTooFar 44 = .ok (.aload_n 0, 1) := by decide +kernel
theorem dX5_isTooFar_45 : decode cX5_isTooFar 45 = .ok (.getfield 22, 3) := by decide +kernel
theorem dX5_isTooFar_48 : decode cX5_isTooFar 48 = .ok (.iaload, 1) := by decide +kernel
theorem dX5_isTooFar_49 : decode cX5_isTooFar 49 = .ok (.aload_n 0, 1) := by decide +kernel
theorem dX5_isTooFar_50 : decode cX5_isTooFar 50 = .ok (.getfield 26, 3) := by decide +kernel
theorem dX5_isTooFar_53 : decode cX5_isTooFar 53 = .ok (.isub, 1) := by decide +kernel
theorem dX5_isTooFar_54 : decode cX5_isTooFar 54 = .ok (.invokestatic 67, 3) := by decide +kernel
theorem dX5_isTooFar_57 : decode cX5_isTooFar 57 = .ok (.iload_n 3, 1) := by decide +kernel
theorem dX5_isTooFar_58 : decode cX5_isTooFar 58 = .ok (.if_icmp .le 7, 3) := by decide +kernel
theorem dX5_isTooFar_61 : decode cX5_isTooFar 61 = .ok (.iconst 1, 1) := by decide +kernel
theorem dX5_isTooFar_62 : decode cX5_isTooFar 62 = .ok (.goto 4, 3) := by decide +kernel
theorem dX5_isTooFar_65 : decode cX5_isTooFar 65 = .ok (.iconst 0, 1) := by decide +kernel
theorem dX5_isTooFar_66 : decode cX5_isTooFar 66 = .ok (.ireturn, 1) := by decide +kernel
theorem dX6_init_0 : decode cX6_init 0 = .ok (.aload_n 0, 1) := by decide +kernel
theorem dX6_init_1 : decode cX6_init 1 = .ok (.invokespecial 1, 3) := by decide +kernel
theorem dX6_init_4 : decode cX6_init 4 = .ok (.aload_n 0, 1) := by decide +kernel
theorem dX6_init_5 : decode cX6_init 5 = .ok (.iconst 1, 1) := by decide +kernel
theorem dX6_init_6 : decode cX6_init 6 = .ok (.iload_n 1, 1) := by decide +kernel
theorem dX6_init_7 : decode cX6_init 7 = .ok (.invokestatic 7, 3) := by decide +kernel
theorem dX6_init_10 : decode cX6_init 10 = .ok (.anewarray 13, 3) := by decide +kernel
theorem dX6_init_13 : decode cX6_init 13 = .ok (.putfield 15, 3) := by decide +kernel
theorem dX6_init_16 : decode cX6_init 16 = .ok (.iconst 0, 1) := by decide +kernel
theorem dX6_init_17 : decode cX6_init 17 = .ok (.istore_n 2, 1) := by decide +kernel
theorem dX6_init_18 : decode cX6_init 18 = .ok (.iload_n 2, 1) := by decide +kernel
theorem dX6_init_19 : decode cX6_init 19 = .ok (.aload_n 0, 1) := by decide +kernel
theorem dX6_init_20 : decode cX6_init 20 = .ok (.getfield 15, 3) := by decide +kernel
theorem dX6_init_23 : decode cX6_init 23 = .ok (.arraylength, 1) := by decide +kernel
theorem dX6_init_24 : decode cX6_init 24 = .ok (.if_icmp .ge 22, 3) := by decide +kernel
theorem dX6_init_27 : decode cX6_init 27 = .ok (.aload_n 0, 1) := by decide +kernel
theorem dX6_init_28 : decode cX6_init 28 = .ok (.getfield 15, 3) := by decide +kernel
theorem dX6_init_31 : decode cX6_init 31 = .ok (.iload_n 2, 1) := by decide +kernel
theorem dX6_init_32 : decode cX6_init 32 = .ok (.new 13, 3) := by decide +kernel
theorem dX6_init_35 : decode cX6_init 35 = .ok (.dup, 1) := by decide +kernel
theorem dX6_init_36 : decode cX6_init 36 = .ok (.invokespecial 21, 3) := by decide +kernel
theorem dX6_init_39 : decode cX6_init 39 = .ok (.aastore, 1) := by decide +kernel
theorem dX6_init_40 : decode cX6_init 40 = .ok (.iinc 2 1, 3) := by decide +kernel
theorem dX6_init_43 : decode cX6_init 43 = .ok (.goto (-25), 3) := by decide +kernel
theorem dX6_init_46 : decode cX6_init 46 = .ok (.return_, 1) := by decide +kernel
theorem dX6_clear_0 : decode cX6_clear 0 = .ok (.aload_n 0, 1) := by decide +kernel
theorem dX6_clear_1 : decode cX6_clear 1 = .ok (.iconst 0, 1) := by decide +kernel
theorem dX6_clear_2 : decode cX6_clear 2 = .ok (.putfield 22, 3) := by decide +kernel
theorem dX6_clear_5 : decode cX6_clear 5 = .ok (.return_, 1) := by decide +kernel
theorem dX6_put_0 : decode cX6_put 0 = .ok (.aload_n 0, 1) := by decide +kernel
theorem dX6_put_1 : decode cX6_put 1 = .ok (.getfield 22, 3) := by decide +kernel
theorem dX6_put_4 : decode cX6_put 4 = .ok (.aload_n 0, 1) := by decide +kernel
theorem dX6_put_5 : decode cX6_put 5 = .ok (.getfield 15, 3) := by decide +kernel
theorem dX6_put_8 : decode cX6_put 8 = .ok (.arraylength, 1) := by decide +kernel
theorem dX6_put_9 : decode cX6_put 9 = .ok (.if_icmp .lt 5, 3) := by decide +kernel
theorem dX6_put_12 : decode cX6_put 12 = .ok (.iconst 0, 1) := by decide +kernel
theorem dX6_put_13 : decode cX6_put 13 = .ok (.ireturn, 1) := by decide +kernel
theorem dX6_put_14 : decode cX6_put 14 = .ok (.aload_n 0, 1) := by decide +kernel
theorem dX6_put_15 : decode cX6_put 15 = .ok (.getfield 15, 3) := by decide +kernel
theorem dX6_put_18 : decode cX6_put 18 = .ok (.aload_n 0, 1) := by decide +kernel
theorem dX6_put_19 : decode cX6_put 19 = .ok (.getfield 22, 3) := by decide +kernel
theorem dX6_put_22 : decode cX6_put 22 = .ok (.aaload, 1) := by decide +kernel
theorem dX6_put_23 : decode cX6_put 23 = .ok (.aload_n 1, 1) := by decide +kernel
theorem dX6_put_24 : decode cX6_put 24 = .ok (.invokevirtual 26, 3) := by decide +kernel
theorem dX6_put_27 : decode cX6_put 27 = .ok (.aload_n 0, 1) := by decide +kernel
theorem dX6_put_28 : decode cX6_put 28 = .ok (.dup, 1) := by decide +kernel
theorem dX6_put_29 : decode cX6_put 29 = .ok (.getfield 22, 3) := by decide +kernel
theorem dX6_put_32 : decode cX6_put 32 = .ok (.iconst 1, 1) := by decide +kernel
theorem dX6_put_33 : decode cX6_put 33 = .ok (.iadd, 1) := by decide +kernel
theorem dX6_put_34 : decode cX6_put 34 = .ok (.putfield 22, 3) := by decide +kernel
theorem dX6_put_37 : decode cX6_put 37 = .ok (.iconst 1, 1) := by decide +kernel
theorem dX6_put_38 : decode cX6_put 38 = .ok (.ireturn, 1) := by decide +kernel
theorem dX6_putOverOldest_0 : decode cX6_putOverOldest 0 = .ok (.aload_n 0, 1) := by decide +kernel
theorem dX6_putOverOldest_1 : decode cX6_putOverOldest 1 = .ok (.getfield 22, 3) := by decide +kernel
theorem dX6_putOverOldest_4 : decode cX6_putOverOldest 4 = .ok (.aload_n 0, 1) := by decide +kernel
theorem dX6_putOverOldest_5 : decode cX6_putOverOldest 5 = .ok (.getfield 15, 3) := by decide +kernel
theorem dX6_putOverOldest_8 : decode cX6_putOverOldest 8 = .ok (.arraylength, 1) := by decide +kernel
theorem dX6_putOverOldest_9 : decode cX6_putOverOldest 9 = .ok (.if_icmp .lt 65, 3) := by decide +kernel
theorem dX6_putOverOldest_12 : decode cX6_putOverOldest 12 = .ok (.aload_n 0, 1) := by decide +kernel
theorem dX6_putOverOldest_13 : decode cX6_putOverOldest 13 = .ok (.getfield 15, 3) := by decide +kernel
theorem dX6_putOverOldest_16 : decode cX6_putOverOldest 16 = .ok (.iconst 0, 1) := by decide +kernel
theorem dX6_putOverOldest_17 : decode cX6_putOverOldest 17 = .ok (.aaload, 1) := by decide +kernel
theorem dX6_putOverOldest_18 : decode cX6_putOverOldest 18 = .ok (.astore_n 2, 1) := by decide +kernel
theorem dX6_putOverOldest_19 : decode cX6_putOverOldest 19 = .ok (.iconst 1, 1) := by decide +kernel
theorem dX6_putOverOldest_20 : decode cX6_putOverOldest 20 = .ok (.istore_n 3, 1) := by decide +kernel
theorem dX6_putOverOldest_21 : decode cX6_putOverOldest 21 = .ok (.iload_n 3, 1) := by decide +kernel
theorem dX6_putOverOldest_22 : decode cX6_putOverOldest 22 = .ok (.aload_n 0, 1) := by decide +kernel
theorem dX6_putOverOldest_23 : decode cX6_putOverOldest 23 = .ok (.getfield 15, 3) := by decide +kernel
theorem dX6_putOverOldest_26 : decode cX6_putOverOldest 26 = .ok (.arraylength, 1) := by decide +kernel
theorem dX6_putOverOldest_27 : decode cX6_putOverOldest 27 = .ok (.if_icmp .ge 23, 3) := by decide +kernel
theorem dX6_putOverOldest_30 : decode cX6_putOverOldest 30 = .ok (.aload_n 0, 1) := by decide +kernel
theorem dX6_putOverOldest_31 : decode cX6_putOverOldest 31 = .ok (.getfield 15, 3) := by decide +kernel
theorem dX6_putOverOldest_34 : decode cX6_putOverOldest 34 = .ok (.iload_n 3, 1) := by decide +kernel
theorem dX6_putOverOldest_35 : decode cX6_putOverOldest 35 = .ok (.iconst 1, 1) := by decide +kernel
theorem dX6_putOverOldest_36 : decode cX6_putOverOldest 36 = .ok (.isub, 1) := by decide +kernel
theorem dX6_putOverOldest_37 : decode cX6_putOverOldest 37 = .ok (.aload_n 0, 1) := by decide +kernel
theorem dX6_putOverOldest_38 : decode cX6_putOverOldest 38 = .ok (.getfield 15, 3) := by decide +kernel
theorem dX6_putOverOldest_41 : decode cX6_putOverOldest 41 = .ok (.iload_n 3, 1) := by decide +kernel
theorem dX6_putOverOldest_42 : decode cX6_putOverOldest 42 = .ok (.aaload, 1) := by decide +kernel
theorem dX6_putOverOldest_43 : decode cX6_putOverOldest 43 = .ok (.aastore, 1) := by decide +kernel
theorem dX6_putOverOldest_44 : decode cX6_putOverOldest 44 = .ok (.iinc 3 1, 3) := by decide +kernel
theorem dX6_putOverOldest_47 : decode cX6_putOverOldest 47 = .ok (.goto (-26), 3) := by decide +kernel
theorem dX6_putOverOldest_50 : decode cX6_putOverOldest 50 = .ok (.aload_n 0, 1) := by decide +kernel
theorem dX6_putOverOldest_51 : decode cX6_putOverOldest 51 = .ok (.getfield 15, 3) := by decide +kernel
theorem dX6_putOverOldest_54 : decode cX6_putOverOldest 54 = .ok (.aload_n 0, 1) := by decide +kernel
theorem dX6_putOverOldest_55 : decode cX6_putOverOldest 55 = .ok (.getfield 15, 3) := by decide +kernel
theorem dX6_putOverOldest_58 : decode cX6_putOverOldest 58 = .ok (.arraylength, 1) := by decide +kernel
theorem dX6_putOverOldest_59 : decode cX6_putOverOldest 59 = .ok (.iconst 1, 1) := by decide +kernel
theorem dX6_putOverOldest_60 : decode cX6_putOverOldest 60 = .ok (.isub, 1) := by decide +kernel
theorem dX6_putOverOldest_61 : decode cX6_putOverOldest 61 = .ok (.aload_n 2, 1) := by decide +kernel
theorem dX6_putOverOldest_62 : decode cX6_putOverOldest 62 = .ok (.aastore, 1) := by decide +kernel
theorem dX6_putOverOldest_63 : decode cX6_putOverOldest 63 = .ok (.aload_n 0, 1) := by decide +kernel
theorem dX6_putOverOldest_64 : decode cX6_putOverOldest 64 = .ok (.aload_n 0, 1) := by decide +kernel
theorem dX6_putOverOldest_65 : decode cX6_putOverOldest 65 = .ok (.getfield 15, 3) := by decide +kernel
theorem dX6_putOverOldest_68 : decode cX6_putOverOldest 68 = .ok (.arraylength, 1) := by decide +kernel
theorem dX6_putOverOldest_69 : decode cX6_putOverOldest 69 = .ok (.iconst 1, 1) := by decide +kernel
theorem dX6_putOverOldest_70 : decode cX6_putOverOldest 70 = .ok (.isub, 1) := by decide +kernel
theorem dX6_putOverOldest_71 : decode cX6_putOverOldest 71 = .ok (.putfield 22, 3) := by decide +kernel
theorem dX6_putOverOldest_74 : decode cX6_putOverOldest 74 = .ok (.aload_n 0, 1) := by decide +kernel
theorem dX6_putOverOldest_75 : decode cX6_putOverOldest 75 = .ok (.aload_n 1, 1) := by decide +kernel
theorem dX6_putOverOldest_76 : decode cX6_putOverOldest 76 = .ok (.invokevirtual 30, 3) := by decide +kernel
theorem dX6_putOverOldest_79 : decode cX6_putOverOldest 79 = .ok (.pop, 1) := by decide +kernel
theorem dX6_putOverOldest_80 : decode cX6_putOverOldest 80 = .ok (.return_, 1) := by decide +kernel
theorem dX6_takeInto_0 : decode cX6_takeInto 0 = .ok (.aload_n 0, 1) := by decide +kernel
theorem dX6_takeInto_1 : decode cX6_takeInto 1 = .ok (.getfield 22, 3) := by decide +kernel
theorem dX6_takeInto_4 : decode cX6_takeInto 4 = .ok (.iconst 1, 1) := by decide +kernel
theorem dX6_takeInto_5 : decode cX6_takeInto 5 = .ok (.if_icmp .ge 5, 3) := by decide +kernel
theorem dX6_takeInto_8 : decode cX6_takeInto 8 = .ok (.iconst 0, 1) := by decide +kernel
theorem dX6_takeInto_9 : decode cX6_takeInto 9 = .ok (.ireturn, 1) := by decide +kernel
theorem dX6_takeInto_10 : decode cX6_takeInto 10 = .ok (.aload_n 0, 1) := by decide +kernel
theorem dX6_takeInto_11 : decode cX6_takeInto 11 = .ok (.dup, 1) := by decide +kernel
theorem dX6_takeInto_12 : decode cX6_takeInto 12 = .ok (.getfield 22, 3) := by decide +kernel
theorem dX6_takeInto_15 : decode cX6_takeInto 15 = .ok (.iconst 1, 1) := by decide +kernel
theorem dX6_takeInto_16 : decode cX6_takeInto 16 = .ok (.isub, 1) := by decide +kernel
theorem dX6_takeInto_17 : decode cX6_takeInto 17 = .ok (.putfield 22, 3) := by decide +kernel
theorem dX6_takeInto_20 : decode cX6_takeInto 20 = .ok (.aload_n 1, 1) := by decide +kernel
theorem dX6_takeInto_21 : decode cX6_takeInto 21 = .ok (.aload_n 0, 1) := by decide +kernel
theorem dX6_takeInto_22 : decode cX6_takeInto 22 = .ok (.getfield 15, 3) := by decide +kernel
theorem dX6_takeInto_25 : decode cX6_takeInto 25 = .ok (.aload_n 0, 1) := by decide +kernel
theorem dX6_takeInto_26 : decode cX6_takeInto 26 = .ok (.getfield 22, 3) := by decide +kernel
theorem dX6_takeInto_29 : decode cX6_takeInto 29 = .ok (.aaload, 1) := by decide +kernel
theorem dX6_takeInto_30 : decode cX6_takeInto 30 = .ok (.invokevirtual 26, 3) := by decide +kernel
theorem dX6_takeInto_33 : decode cX6_takeInto 33 = .ok (.iconst 1, 1) := by decide +kernel
theorem dX6_takeInto_34 : decode cX6_takeInto 34 = .ok (.ireturn, 1) := by decide +kernel
theorem dX7_init_0 : decode cX7_init 0 = .ok (.aload_n 0, 1) := by decide +kernel
theorem dX7_init_1 : decode cX7_init 1 = .ok (.invokespecial 1, 3) := by decide +kernel
theorem dX7_init_4 : decode cX7_init 4 = .ok (.aload_n 0, 1) := by decide +kernel
theorem dX7_init_5 : decode cX7_init 5 = .ok (.new 7, 3) := by decide +kernel
theorem dX7_init_8 : decode cX7_init 8 = .ok (.dup, 1) := by decide +kernel
theorem dX7_init_9 : decode cX7_init 9 = .ok (.invokespecial 9, 3) := by decide +kernel
theorem dX7_init_12 : decode cX7_init 12 = .ok (.putfield 10, 3) := by decide +kernel
theorem dX7_init_15 : decode cX7_init 15 = .ok (.aload_n 0, 1) := by decide +kernel
theorem dX7_init_16 : decode cX7_init 16 = .ok (.new 16, 3) := by decide +kernel
theorem dX7_init_19 : decode cX7_init 19 = .ok (.dup, 1) := by decide +kernel
theorem dX7_init_20 : decode cX7_init 20 = .ok (.aload_n 0, 1) := by decide +kernel
theorem dX7_init_21 : decode cX7_init 21 = .ok (.getfield 10, 3) := by decide +kernel
theorem dX7_init_24 : decode cX7_init 24 = .ok (.invokespecial 18, 3) := by decide +kernel
theorem dX7_init_27 : decode cX7_init 27 = .ok (.putfield 21, 3) := by decide +kernel
theorem dX7_init_30 : decode cX7_init 30 = .ok (.aload_n 0, 1) := by decide +kernel
theorem dX7_init_31 : decode cX7_init 31 = .ok (.new 25, 3) := by decide +kernel
theorem dX7_init_34 : decode cX7_init 34 = .ok (.dup, 1) := by decide +kernel
theorem dX7_init_35 : decode cX7_init 35 = .ok (.invokespecial 27, 3) := by decide +kernel
theorem dX7_init_38 : decode cX7_init 38 = .ok (.putfield 28, 3) := by decide +kernel
theorem dX7_init_41 : decode cX7_init 41 = .ok (.aload_n 0, 1) := by decide +kernel
theorem dX7_init_42 : decode cX7_init 42 = .ok (.new 25, 3) := by decide +kernel
theorem dX7_init_45 : decode cX7_init 45 = .ok (.dup, 1) := by decide +kernel
theorem dX7_init_46 : decode cX7_init 46 = .ok (.invokespecial 27, 3) := by decide +kernel
theorem dX7_init_49 : decode cX7_init 49 = .ok (.putfield 32, 3) := by decide +kernel
theorem dX7_init_52 : decode cX7_init 52 = .ok (.aload_n 0, 1) := by decide +kernel
theorem dX7_init_53 : decode cX7_init 53 = .ok (.new 35, 3) := by decide +kernel
theorem dX7_init_56 : decode cX7_init 56 = .ok (.dup, 1) := by decide +kernel
theorem dX7_init_57 : decode cX7_init 57 = .ok (.invokespecial 37, 3) := by decide +kernel
theorem dX7_init_60 : decode cX7_init 60 = .ok (.putfield 38, 3) := by decide +kernel
theorem dX7_init_63 : decode cX7_init 63 = .ok (.aload_n 0, 1) := by decide +kernel
theorem dX7_init_64 : decode cX7_init 64 = .ok (.new 35, 3) := by decide +kernel
theorem dX7_init_67 : decode cX7_init 67 = .ok (.dup, 1) := by decide +kernel
theorem dX7_init_68 : decode cX7_init 68 = .ok (.invokespecial 37, 3) := by decide +kernel
theorem dX7_init_71 : decode cX7_init 71 = .ok (.putfield 42, 3) := by decide +kernel
theorem dX7_init_74 : decode cX7_init 74 = .ok (.aload_n 0, 1) := by decide +kernel
theorem dX7_init_75 : decode cX7_init 75 = .ok (.new 45, 3) := by decide +kernel
theorem dX7_init_78 : decode cX7_init 78 = .ok (.dup, 1) := by decide +kernel
theorem dX7_init_79 : decode cX7_init 79 = .ok (.bipush 8, 2) := by decide +kernel
theorem dX7_init_81 : decode cX7_init 81 = .ok (.invokespecial 47, 3) := by decide +kernel
theorem dX7_init_84 : decode cX7_init 84 = .ok (.putfield 50, 3) := by decide +kernel
theorem dX7_init_87 : decode cX7_init 87 = .ok (.aload_n 0, 1) := by decide +kernel
theorem dX7_init_88 : decode cX7_init 88 = .ok (.new 45, 3) := by decide +kernel
theorem dX7_init_91 : decode cX7_init 91 = .ok (.dup, 1) := by decide +kernel
theorem dX7_init_92 : decode cX7_init 92 = .ok (.iconst 2, 1) := by decide +kernel
theorem dX7_init_93 : decode cX7_init 93 = .ok (.invokespecial 47, 3) := by decide +kernel
theorem dX7_init_96 : decode cX7_init 96 = .ok (.putfield 54, 3) := by decide +kernel
theorem dX7_init_99 : decode cX7_init 99 = .ok (.aload_n 0, 1) := by decide +kernel
theorem dX7_init_100 : decode cX7_init 100 = .ok (.new 57, 3) := by decide +kernel
theorem dX7_init_103 : decode cX7_init 103 = .ok (.dup, 1) := by decide +kernel
theorem dX7_init_104 : decode cX7_init 104 = .ok (.invokespecial 59, 3) := by decide +kernel
theorem dX7_init_107 : decode cX7_init 107 = .ok (.putfield 60, 3) := by decide +kernel
theorem dX7_init_110 : decode cX7_init 110 = .ok (.aload_n 0, 1) := by decide +kernel
theorem dX7_init_111 : decode cX7_init 111 = .ok (.new 57, 3) := by decide +kernel
theorem dX7_init_114 : decode cX7_init 114 = .ok (.dup, 1) := by decide +kernel
theorem dX7_init_115 : decode cX7_init 115 = .ok (.invokespecial 59, 3) := by decide +kernel
theorem dX7_init_118 : decode cX7_init 118 = .ok (.putfield 64, 3) := by decide +kernel
theorem dX7_init_121 : decode cX7_init 121 = .ok (.aload_n 0, 1) := by decide +kernel
theorem dX7_init_122 : decode cX7_init 122 = .ok (.new 67, 3) := by decide +kernel
theorem dX7_init_125 : decode cX7_init 125 = .ok (.dup, 1) := by decide +kernel
theorem dX7_init_126 : decode cX7_init 126 = .ok (.invokespecial 69, 3) := by decide +kernel
theorem dX7_init_129 : decode cX7_init 129 = .ok (.putfield 70, 3) := by decide +kernel
theorem dX7_init_132 : decode cX7_init 132 = .ok (.aload_n 0, 1) := by decide +kernel
theorem dX7_init_133 : decode cX7_init 133 = .ok (.bipush 36, 2) := by decide +kernel
theorem dX7_init_135 : decode cX7_init 135 = .ok (.newarray .int, 2) := by decide +kernel
theorem dX7_init_137 : decode cX7_init 137 = .ok (.putfield 74, 3) := by decide +kernel
theorem dX7_init_140 : decode cX7_init 140 = .ok (.aload_n 0, 1) := by decide +kernel
theorem dX7_init_141 : decode cX7_init 141 = .ok (.bipush 36, 2) := by decide +kernel
theorem dX7_init_143 : decode cX7_init 143 = .ok (.newarray .int, 2) := by decide +kernel
theorem dX7_init_145 : decode cX7_init 145 = .ok (.putfield 78, 3) := by decide +kernel
theorem dX7_init_148 : decode cX7_init 148 = .ok (.iconst 0, 1) := by decide +kernel
theorem dX7_init_149 : decode cX7_init 149 = .ok (.istore_n 1, 1) := by decide +kernel
theorem dX7_init_150 : decode cX7_init 150 = .ok (.iload_n 1, 1) := by decide +kernel
theorem dX7_init_151 : decode cX7_init 151 = .ok (.ldc 81, 2) := by decide +kernel
theorem dX7_init_153 : decode cX7_init 153 = .ok (.invokevirtual 83, 3) := by decide +kernel
theorem dX7_init_156 : decode cX7_init 156 = .ok (.if_icmp .ge 23, 3) := by decide +kernel
theorem dX7_init_159 : decode cX7_init 159 = .ok (.aload_n 0, 1) := by decide +kernel
theorem dX7_init_160 : decode cX7_init 160 = .ok (.getfield 10, 3) := by decide +kernel
theorem dX7_init_163 : decode cX7_init 163 = .ok (.ldc 81, 2) := by decide +kernel
theorem dX7_init_165 : decode cX7_init 165 = .ok (.iload_n 1, 1) := by decide +kernel
theorem dX7_init_166 : decode cX7_init 166 = .ok (.invokevirtual 89, 3) := by decide +kernel
theorem dX7_init_169 : decode cX7_init 169 = .ok (.invokevirtual 93, 3) := by decide +kernel
theorem dX7_init_172 : decode cX7_init 172 = .ok (.pop, 1) := by decide +kernel
theorem dX7_init_173 : decode cX7_init 173 = .ok (.iinc 1 1, 3) := by decide +kernel
theorem dX7_init_176 : decode cX7_init 176 = .ok (.goto (-26), 3) := by decide +kernel
theorem dX7_init_179 : decode cX7_init 179 = .ok (.aload_n 0, 1) := by decide +kernel
theorem dX7_init_180 : decode cX7_init 180 = .ok (.getfield 21, 3) := by decide +kernel
theorem dX7_init_183 : decode cX7_init 183 = .ok (.aload_n 0, 1) := by decide +kernel
theorem dX7_init_184 : decode cX7_init 184 = .ok (.getfield 28, 3) := by decide +kernel
theorem dX7_init_187 : decode cX7_init 187 = .ok (.invokevirtual 97, 3) := by decide +kernel
theorem dX7_init_190 : decode cX7_init 190 = .ok (.pop, 1) := by decide +kernel
theorem dX7_init_191 : decode cX7_init 191 = .ok (.aload_n 0, 1) := by decide +kernel
theorem dX7_init_192 : decode cX7_init 192 = .ok (.getfield 10, 3) := by decide +kernel
theorem dX7_init_195 : decode cX7_init 195 = .ok (.invokevirtual 101, 3) := by decide +kernel
theorem dX7_init_198 : decode cX7_init 198 = .ok (.aload_n 0, 1) := by decide +kernel
theorem dX7_init_199 : decode cX7_init 199 = .ok (.getfield 38, 3) := by decide +kernel
theorem dX7_init_202 : decode cX7_init 202 = .ok (.aload_n 0, 1) := by decide +kernel
theorem dX7_init_203 : decode cX7_init 203 = .ok (.getfield 28, 3) := by decide +kernel
theorem dX7_init_206 : decode cX7_init 206 = .ok (.invokevirtual 104, 3) := by decide +kernel
theorem dX7_init_209 : decode cX7_init 209 = .ok (.return_, 1) := by decide +kernel
theorem dX7_write_0 : decode cX7_write 0 = .ok (.iload_n 1, 1) := by decide +kernel
theorem dX7_write_1 : decode cX7_write 1 = .ok (.bipush 32, 2) := by decide +kernel
theorem dX7_write_3 : decode cX7_write 3 = .ok (.bipush 126, 2) := by decide +kernel
theorem dX7_write_5 : decode cX7_write 5 = .ok (.invokestatic 108, 3) := by decide +kernel
theorem dX7_write_8 : decode cX7_write 8 = .ok (.ifCond .ne 5, 3) := by decide +kernel
theorem dX7_write_11 : decode cX7_write 11 = .ok (.iconst (-1), 1) := by decide +kernel
theorem dX7_write_12 : decode cX7_write 12 = .ok (.ireturn, 1) := by decide +kernel
theorem dX7_write_13 : decode cX7_write 13 = .ok (.aload_n 0, 1) := by decide +kernel
theorem dX7_write_14 : decode cX7_write 14 = .ok (.getfield 10, 3) := by decide +kernel
theorem dX7_write_17 : decode cX7_write 17 = .ok (.iload_n 1, 1) := by decide +kernel
theorem dX7_write_18 : decode cX7_write 18 = .ok (.invokevirtual 93, 3) := by decide +kernel
theorem dX7_write_21 : decode cX7_write 21 = .ok (.ifCond .eq 13, 3) := by decide +kernel
theorem dX7_write_24 : decode cX7_write 24 = .ok (.aload_n 0, 1) := by decide +kernel
theorem dX7_write_25 : decode cX7_write 25 = .ok (.getfield 10, 3) := by decide +kernel
theorem dX7_write_28 : decode cX7_write 28 = .ok (.getfield 112, 3) := by decide +kernel
theorem dX7_write_31 : decode cX7_write 31 = .ok (.goto 5, 3) := by decide +kernel
theorem dX7_write_34 : decode cX7_write 34 = .ok (.bipush (-3), 2) := by decide +kernel
theorem dX7_write_36 : decode cX7_write 36 = .ok (.ireturn, 1) := by decide +kernel
theorem dX7_wipe_0 : decode cX7_wipe 0 = .ok (.aload_n 0, 1) := by decide +kernel
theorem dX7_wipe_1 : decode cX7_wipe 1 = .ok (.getfield 10, 3) := by decide +kernel
theorem dX7_wipe_4 : decode cX7_wipe 4 = .ok (.getfield 112, 3) := by decide +kernel
theorem dX7_wipe_7 : decode cX7_wipe 7 = .ok (.istore_n 1, 1) := by decide +kernel
theorem dX7_wipe_8 : decode cX7_wipe 8 = .ok (.aload_n 0, 1) := by decide +kernel
theorem dX7_wipe_9 : decode cX7_wipe 9 = .ok (.getfield 10, 3) := by decide +kernel
theorem dX7_wipe_12 : decode cX7_wipe 12 = .ok (.invokevirtual 101, 3) := by decide +kernel
theorem dX7_wipe_15 : decode cX7_wipe 15 = .ok (.iload_n 1, 1) := by decide +kernel
theorem dX7_wipe_16 : decode cX7_wipe 16 = .ok (.ireturn, 1) := by decide +kernel
theorem dX7_fault_0 : decode cX7_fault 0 = .ok (.aload_n 0, 1) := by decide +kernel
theorem dX7_fault_1 : decode cX7_fault 1 = .ok (.getfield 21, 3) := by decide +kernel
theorem dX7_fault_4 : decode cX7_fault 4 = .ok (.aload_n 0, 1) := by decide +kernel
theorem dX7_fault_5 : decode cX7_fault 5 = .ok (.getfield 32, 3) := by decide +kernel
theorem dX7_fault_8 : decode cX7_fault 8 = .ok (.invokevirtual 97, 3) := by decide +kernel
theorem dX7_fault_11 : decode cX7_fault 11 = .ok (.ireturn, 1) := by decide +kernel
theorem dX7_lay_0 : decode cX7_lay 0 = .ok (.aload_n 0, 1) := by decide +kernel
theorem dX7_lay_1 : decode cX7_lay 1 = .ok (.getfield 10, 3) := by decide +kernel
theorem dX7_lay_4 : decode cX7_lay 4 = .ok (.getfield 112, 3) := by decide +kernel
theorem dX7_lay_7 : decode cX7_lay 7 = .ok (.ifCond .eq 19, 3) := by decide +kernel
theorem dX7_lay_10 : decode cX7_lay 10 = .ok (.aload_n 0, 1) := by decide +kernel
theorem dX7_lay_11 : decode cX7_lay 11 = .ok (.getfield 21, 3) := by decide +kernel
theorem dX7_lay_14 : decode cX7_lay 14 = .ok (.aload_n 0, 1) := by decide +kernel
theorem dX7_lay_15 : decode cX7_lay 15 = .ok (.getfield 32, 3) := by decide +kernel
theorem dX7_lay_18 : decode cX7_lay 18 = .ok (.invokevirtual 97, 3) := by decide +kernel
theorem dX7_lay_21 : decode cX7_lay 21 = .ok (.bipush (-4), 2) := by decide +kernel
theorem dX7_lay_23 : decode cX7_lay 23 = .ok (.if_icmp .eq 6, 3) := by decide +kernel
theorem dX7_lay_26 : decode cX7_lay 26 = .ok (.bipush (-2), 2) := by decide +kernel
theorem dX7_lay_28 : decode cX7_lay 28 = .ok (.ireturn, 1) := by decide +kernel
theorem dX7_lay_29 : decode cX7_lay 29 = .ok (.aload_n 0, 1) := by decide +kernel
theorem dX7_lay_30 : decode cX7_lay 30 = .ok (.getfield 21, 3) := by decide +kernel
theorem dX7_lay_33 : decode cX7_lay 33 = .ok (.aload_n 0, 1) := by decide +kernel
theorem dX7_lay_34 : decode cX7_lay 34 = .ok (.getfield 28, 3) := by decide +kernel
theorem dX7_lay_37 : decode cX7_lay 37 = .ok (.invokevirtual 97, 3) := by decide +kernel
theorem dX7_lay_40 : decode cX7_lay 40 = .ok (.pop, 1) := by decide +kernel
theorem dX7_lay_41 : decode cX7_lay 41 = .ok (.aload_n 0, 1) := by decide +kernel
theorem dX7_lay_42 : decode cX7_lay 42 = .ok (.getfield 38, 3) := by decide +kernel
theorem dX7_lay_45 : decode cX7_lay 45 = .ok (.aload_n 0, 1) := by decide +kernel
theorem dX7_lay_46 : decode cX7_lay 46 = .ok (.getfield 28, 3) := by decide +kernel
theorem dX7_lay_49 : decode cX7_lay 49 = .ok (.invokevirtual 104, 3) := by decide +kernel
theorem dX7_lay_52 : decode cX7_lay 52 = .ok (.aload_n 0, 1) := by decide +kernel
theorem dX7_lay_53 : decode cX7_lay 53 = .ok (.getfield 50, 3) := by decide +kernel
theorem dX7_lay_56 : decode cX7_lay 56 = .ok (.invokevirtual 116, 3) := by decide +kernel
theorem dX7_lay_59 : decode cX7_lay 59 = .ok (.aload_n 0, 1) := by decide +kernel
theorem dX7_lay_60 : decode cX7_lay 60 = .ok (.getfield 54, 3) := by decide +kernel
theorem dX7_lay_63 : decode cX7_lay 63 = .ok (.invokevirtual 116, 3) := by decide +kernel
theorem dX7_lay_66 : decode cX7_lay 66 = .ok (.aload_n 0, 1) := by decide +kernel
theorem dX7_lay_67 : decode cX7_lay 67 = .ok (.getfield 60, 3) := by decide +kernel
theorem dX7_lay_70 : decode cX7_lay 70 = .ok (.invokevirtual 117, 3) := by decide +kernel
theorem dX7_lay_73 : decode cX7_lay 73 = .ok (.aload_n 0, 1) := by decide +kernel
theorem dX7_lay_74 : decode cX7_lay 74 = .ok (.getfield 64, 3) := by decide +kernel
theorem dX7_lay_77 : decode cX7_lay 77 = .ok (.invokevirtual 117, 3) := by decide +kernel
theorem dX7_lay_80 : decode cX7_lay 80 = .ok (.aload_n 0, 1) := by decide +kernel
theorem dX7_lay_81 : decode cX7_lay 81 = .ok (.getfield 28, 3) := by decide +kernel
theorem dX7_lay_84 : decode cX7_lay 84 = .ok (.getfield 118, 3) := by decide +kernel
theorem dX7_lay_87 : decode cX7_lay 87 = .ok (.ireturn, 1) := by decide +kernel
theorem dX7_post_0 : decode cX7_post 0 = .ok (.aload_n 0, 1) := by decide +kernel
theorem dX7_post_1 : decode cX7_post 1 = .ok (.iload_n 1, 1) := by decide +kernel
theorem dX7_post_2 : decode cX7_post 2 = .ok (.invokevirtual 121, 3) := by decide +kernel
theorem dX7_post_5 : decode cX7_post 5 = .ok (.ifCond .eq 15, 3) := by decide +kernel
theorem dX7_post_8 : decode cX7_post 8 = .ok (.aload_n 0, 1) := by decide +kernel
theorem dX7_post_9 : decode cX7_post 9 = .ok (.getfield 38, 3) := by decide +kernel
theorem dX7_post_12 : decode cX7_post 12 = .ok (.getfield 124, 3) := by decide +kernel
theorem dX7_post_15 : decode cX7_post 15 = .ok (.iload_n 1, 1) := by decide +kernel
theorem dX7_post_16 : decode cX7_post 16 = .ok (.iaload, 1) := by decide +kernel
theorem dX7_post_17 : decode cX7_post 17 = .ok (.goto 4, 3) := by decide +kernel
theorem dX7_post_20 : decode cX7_post 20 = .ok (.iconst (-1), 1) := by decide +kernel
theorem dX7_post_21 : decode cX7_post 21 = .ok (.ireturn, 1) := by decide +kernel
theorem dX7_walker_0 : decode cX7_walker 0 = .ok (.aload_n 0, 1) := by decide +kernel
theorem dX7_walker_1 : decode cX7_walker 1 = .ok (.iload_n 1, 1) := by decide +kernel
theorem dX7_walker_2 : decode cX7_walker 2 = .ok (.invokevirtual 127, 3) := by decide +kernel
theorem dX7_walker_5 : decode cX7_walker 5 = .ok (.ifCond .eq 12, 3) := by decide +kernel
theorem dX7_walker_8 : decode cX7_walker 8 = .ok (.iload_n 2, 1) := by decide +kernel
theorem dX7_walker_9 : decode cX7_walker 9 = .ok (.iconst 0, 1) := by decide +kernel
theorem dX7_walker_10 : decode cX7_walker 10 = .ok (.iconst 1, 1) := by decide +kernel
theorem dX7_walker_11 : decode cX7_walker 11 = .ok (.invokestatic 108, 3) := by decide +kernel
theorem dX7_walker_14 : decode cX7_walker 14 = .ok (.ifCond .ne 5, 3) := by decide +kernel
theorem dX7_walker_17 : decode cX7_walker 17 = .ok (.iconst (-1), 1) := by decide +kernel
theorem dX7_walker_18 : decode cX7_walker 18 = .ok (.ireturn, 1) := by decide +kernel
theorem dX7_walker_19 : decode cX7_walker 19 = .ok (.iload_n 2, 1) := by decide +kernel
theorem dX7_walker_20 : decode cX7_walker 20 = .ok (.ifCond .ne 15, 3) := by decide +kernel
theorem dX7_walker_23 : decode cX7_walker 23 = .ok (.aload_n 0, 1) := by decide +kernel
theorem dX7_walker_24 : decode cX7_walker 24 = .ok (.getfield 28, 3) := by decide +kernel
theorem dX7_walker_27 : decode cX7_walker 27 = .ok (.getfield 130, 3) := by decide +kernel
theorem dX7_walker_30 : decode cX7_walker 30 = .ok (.iload_n 1, 1) := by decide +kernel
theorem dX7_walker_31 : decode cX7_walker 31 = .ok (.iaload, 1) := by decide +kernel
theorem dX7_walker_32 : decode cX7_walker 32 = .ok (.goto 12, 3) := by decide +kernel
theorem dX7_walker_35 : decode cX7_walker 35 = .ok (.aload_n 0, 1) := by decide +kernel
theorem dX7_walker_36 : decode cX7_walker 36 = .ok (.getfield 28, 3) := by decide +kernel
theorem dX7_walker_39 : decode cX7_walker 39 = .ok (.getfield 133, 3) := by decide +kernel
theorem dX7_walker_42 : decode cX7_walker 42 = .ok (.iload_n 1, 1) := by decide +kernel
theorem dX7_walker_43 : decode cX7_walker 43 = .ok (.iaload, 1) := by decide +kernel
theorem dX7_walker_44 : decode cX7_walker 44 = .ok (.ireturn, 1) := by decide +kernel
theorem dX7_thing_0 : decode cX7_thing 0 = .ok (.aload_n 0, 1) := by decide +kernel
theorem dX7_thing_1 : decode cX7_thing 1 = .ok (.iload_n 1, 1) := by decide +kernel
theorem dX7_thing_2 : decode cX7_thing 2 = .ok (.invokevirtual 136, 3) := by decide +kernel
theorem dX7_thing_5 : decode cX7_thing 5 = .ok (.ifCond .eq 12, 3) := by decide +kernel
theorem dX7_thing_8 : decode cX7_thing 8 = .ok (.iload_n 2, 1) := by decide +kernel
theorem dX7_thing_9 : decode cX7_thing 9 = .ok (.iconst 0, 1) := by decide +kernel
theorem dX7_thing_10 : decode cX7_thing 10 = .ok (.iconst 2, 1) := by decide +kernel
theorem dX7_thing_11 : decode cX7_thing 11 = .ok (.invokestatic 108, 3) := by decide +kernel
theorem dX7_thing_14 : decode cX7_thing 14 = .ok (.ifCond .ne 5, 3) := by decide +kernel
theorem dX7_thing_17 : decode cX7_thing 17 = .ok (.iconst (-1), 1) := by decide +kernel
theorem dX7_thing_18 : decode cX7_thing 18 = .ok (.ireturn, 1) := by decide +kernel
theorem dX7_thing_19 : decode cX7_thing 19 = .ok (.iload_n 2, 1) := by decide +kernel
theorem dX7_thing_20 : decode cX7_thing 20 = .ok (.iconst 2, 1) := by decide +kernel
theorem dX7_thing_21 : decode cX7_thing 21 = .ok (.if_icmp .ne 20, 3) := by decide +kernel
theorem dX7_thing_24 : decode cX7_thing 24 = .ok (.aload_n 0, 1) := by decide +kernel
theorem dX7_thing_25 : decode cX7_thing 25 = .ok (.getfield 38, 3) := by decide +kernel
theorem dX7_thing_28 : decode cX7_thing 28 = .ok (.iload_n 1, 1) := by decide +kernel
theorem dX7_thing_29 : decode cX7_thing 29 = .ok (.invokevirtual 139, 3) := by decide +kernel
theorem dX7_thing_32 : decode cX7_thing 32 = .ok (.ifCond .eq 7, 3) := by decide +kernel
theorem dX7_thing_35 : decode cX7_thing 35 = .ok (.iconst 1, 1) := by decide +kernel
theorem dX7_thing_36 : decode cX7_thing 36 = .ok (.goto 4, 3) := by decide +kernel
theorem dX7_thing_39 : decode cX7_thing 39 = .ok (.iconst 0, 1) := by decide +kernel
theorem dX7_thing_40 : decode cX7_thing 40 = .ok (.ireturn, 1) := by decide +kernel
theorem dX7_thing_41 : decode cX7_thing 41 = .ok (.iload_n 2, 1) := by decide +kernel
theorem dX7_thing_42 : decode cX7_thing 42 = .ok (.ifCond .ne 15, 3) := by decide +kernel
theorem dX7_thing_45 : decode cX7_thing 45 = .ok (.aload_n 0, 1) := by decide +kernel
theorem dX7_thing_46 : decode cX7_thing 46 = .ok (.getfield 28, 3) := by decide +kernel
theorem dX7_thing_49 : decode cX7_thing 49 = .ok (.getfield 142, 3) := by decide +kernel
theorem dX7_thing_52 : decode cX7_thing 52 = .ok (.iload_n 1, 1) := by decide +kernel
theorem dX7_thing_53 : decode cX7_thing 53 = .ok (.iaload, 1) := by decide +kernel
theorem dX7_thing_54 : decode cX7_thing 54 = .ok (.goto 12, 3) := by decide +kernel
theorem dX7_thing_57 : decode cX7_thing 57 = .ok (.aload_n 0, 1) := by decide +kernel
theorem dX7_thing_58 : decode cX7_thing 58 = .ok (.getfield 28, 3) := by decide +kernel
theorem dX7_thing_61 : decode cX7_thing 61 = .ok (.getfield 145, 3) := by decide +kernel
theorem dX7_thing_64 : decode cX7_thing 64 = .ok (.iload_n 1, 1) := by decide +kernel
theorem dX7_thing_65 : decode cX7_thing 65 = .ok (.iaload, 1) := by decide +kernel
theorem dX7_thing_66 : decode cX7_thing 66 = .ok (.ireturn, 1) := by decide +kernel
theorem dX7_day_0 : decode cX7_day 0 = .ok (.iload_n 1, 1) := by decide +kernel
theorem dX7_day_1 : decode cX7_day 1 = .ok (.iconst 0, 1) := by decide +kernel
theorem dX7_day_2 : decode cX7_day 2 = .ok (.sipush 199, 3) := by decide +kernel
theorem dX7_day_5 : decode cX7_day 5 = .ok (.invokestatic 108, 3) := by decide +kernel
theorem dX7_day_8 : decode cX7_day 8 = .ok (.ifCond .eq 12, 3) := by decide +kernel
theorem dX7_day_11 : decode cX7_day 11 = .ok (.iload_n 2, 1) := by decide +kernel
theorem dX7_day_12 : decode cX7_day 12 = .ok (.iconst 0, 1) := by decide +kernel
theorem dX7_day_13 : decode cX7_day 13 = .ok (.iconst 1, 1) := by decide +kernel
theorem dX7_day_14 : decode cX7_day 14 = .ok (.invokestatic 108, 3) := by decide +kernel
theorem dX7_day_17 : decode cX7_day 17 = .ok (.ifCond .ne 5, 3) := by decide +kernel
theorem dX7_day_20 : decode cX7_day 20 = .ok (.iconst (-1), 1) := by decide +kernel
theorem dX7_day_21 : decode cX7_day 21 = .ok (.ireturn, 1) := by decide +kernel
theorem dX7_day_22 : decode cX7_day 22 = .ok (.iload_n 2, 1) := by decide +kernel
theorem dX7_day_23 : decode cX7_day 23 = .ok (.ifCond .ne 12, 3) := by decide +kernel
theorem dX7_day_26 : decode cX7_day 26 = .ok (.aload_n 0, 1) := by decide +kernel
theorem dX7_day_27 : decode cX7_day 27 = .ok (.getfield 28, 3) := by decide +kernel
theorem dX7_day_30 : decode cX7_day 30 = .ok (.iload_n 1, 1) := by decide +kernel
theorem dX7_day_31 : decode cX7_day 31 = .ok (.invokevirtual 148, 3) := by decide +kernel
theorem dX7_day_34 : decode cX7_day 34 = .ok (.ireturn, 1) := by decide +kernel
theorem dX7_day_35 : decode cX7_day 35 = .ok (.aload_n 0, 1) := by decide +kernel
theorem dX7_day_36 : decode cX7_day 36 = .ok (.getfield 28, 3) := by decide +kernel
theorem dX7_day_39 : decode cX7_day 39 = .ok (.iload_n 1, 1) := by decide +kernel
theorem dX7_day_40 : decode cX7_day 40 = .ok (.invokevirtual 152, 3) := by decide +kernel
theorem dX7_day_43 : decode cX7_day 43 = .ok (.ifCond .eq 7, 3) := by decide +kernel
