theorem dX7_day_46 : decode cX7_day 46 = .ok (.iconst 1, 1) := by decide +kernel
theorem dX7_day_47 : decode cX7_day 47 = .ok (.goto 4, 3) := by decide +kernel
theorem dX7_day_50 : decode cX7_day 50 = .ok (.iconst 0, 1) := by decide +kernel
theorem dX7_day_51 : decode cX7_day 51 = .ok (.ireturn, 1) := by decide +kernel
theorem dX7_pass_0 : decode cX7_pass 0 = .ok (.iload_n 1, 1) := by decide +kernel
theorem dX7_pass_1 : decode cX7_pass 1 = .ok (.iconst 1, 1) := by decide +kernel
theorem dX7_pass_2 : decode cX7_pass 2 = .ok (.bipush 20, 2) := by decide +kernel
theorem dX7_pass_4 : decode cX7_pass 4 = .ok (.invokestatic 108, 3) := by decide +kernel
theorem dX7_pass_7 : decode cX7_pass 7 = .ok (.ifCond .ne 5, 3) := by decide +kernel
theorem dX7_pass_10 : decode cX7_pass 10 = .ok (.iconst (-1), 1) := by decide +kernel
theorem dX7_pass_11 : decode cX7_pass 11 = .ok (.ireturn, 1) := by decide +kernel
theorem dX7_pass_12 : decode cX7_pass 12 = .ok (.aload_n 0, 1) := by decide +kernel
theorem dX7_pass_13 : decode cX7_pass 13 = .ok (.getfield 50, 3) := by decide +kernel
theorem dX7_pass_16 : decode cX7_pass 16 = .ok (.aload_n 0, 1) := by decide +kernel
theorem dX7_pass_17 : decode cX7_pass 17 = .ok (.getfield 38, 3) := by decide +kernel
theorem dX7_pass_20 : decode cX7_pass 20 = .ok (.invokevirtual 155, 3) := by decide +kernel
theorem dX7_pass_23 : decode cX7_pass 23 = .ok (.aload_n 0, 1) := by decide +kernel
theorem dX7_pass_24 : decode cX7_pass 24 = .ok (.getfield 38, 3) := by decide +kernel
theorem dX7_pass_27 : decode cX7_pass 27 = .ok (.aload_n 0, 1) := by decide +kernel
theorem dX7_pass_28 : decode cX7_pass 28 = .ok (.getfield 28, 3) := by decide +kernel
theorem dX7_pass_31 : decode cX7_pass 31 = .ok (.iload_n 1, 1) := by decide +kernel
theorem dX7_pass_32 : decode cX7_pass 32 = .ok (.invokevirtual 159, 3) := by decide +kernel
theorem dX7_pass_35 : decode cX7_pass 35 = .ok (.aload_n 0, 1) := by decide +kernel
theorem dX7_pass_36 : decode cX7_pass 36 = .ok (.getfield 38, 3) := by decide +kernel
theorem dX7_pass_39 : decode cX7_pass 39 = .ok (.getfield 163, 3) := by decide +kernel
theorem dX7_pass_42 : decode cX7_pass 42 = .ok (.ireturn, 1) := by decide +kernel
theorem dX7_walk_0 : decode cX7_walk 0 = .ok (.aload_n 0, 1) := by decide +kernel
theorem dX7_walk_1 : decode cX7_walk 1 = .ok (.iload_n 1, 1) := by decide +kernel
theorem dX7_walk_2 : decode cX7_walk 2 = .ok (.invokevirtual 127, 3) := by decide +kernel
theorem dX7_walk_5 : decode cX7_walk 5 = .ok (.ifCond .eq 11, 3) := by decide +kernel
theorem dX7_walk_8 : decode cX7_walk 8 = .ok (.aload_n 0, 1) := by decide +kernel
theorem dX7_walk_9 : decode cX7_walk 9 = .ok (.iload_n 2, 1) := by decide +kernel
theorem dX7_walk_10 : decode cX7_walk 10 = .ok (.invokevirtual 136, 3) := by decide +kernel
theorem dX7_walk_13 : decode cX7_walk 13 = .ok (.ifCond .ne 5, 3) := by decide +kernel
theorem dX7_walk_16 : decode cX7_walk 16 = .ok (.iconst (-1), 1) := by decide +kernel
theorem dX7_walk_17 : decode cX7_walk 17 = .ok (.ireturn, 1) := by decide +kernel
theorem dX7_walk_18 : decode cX7_walk 18 = .ok (.aload_n 0, 1) := by decide +kernel
theorem dX7_walk_19 : decode cX7_walk 19 = .ok (.getfield 50, 3) := by decide +kernel
theorem dX7_walk_22 : decode cX7_walk 22 = .ok (.aload_n 0, 1) := by decide +kernel
theorem dX7_walk_23 : decode cX7_walk 23 = .ok (.getfield 38, 3) := by decide +kernel
theorem dX7_walk_26 : decode cX7_walk 26 = .ok (.invokevirtual 155, 3) := by decide +kernel
theorem dX7_walk_29 : decode cX7_walk 29 = .ok (.aload_n 0, 1) := by decide +kernel
theorem dX7_walk_30 : decode cX7_walk 30 = .ok (.getfield 38, 3) := by decide +kernel
theorem dX7_walk_33 : decode cX7_walk 33 = .ok (.aload_n 0, 1) := by decide +kernel
theorem dX7_walk_34 : decode cX7_walk 34 = .ok (.getfield 28, 3) := by decide +kernel
theorem dX7_walk_37 : decode cX7_walk 37 = .ok (.iload_n 1, 1) := by decide +kernel
theorem dX7_walk_38 : decode cX7_walk 38 = .ok (.iload_n 2, 1) := by decide +kernel
theorem dX7_walk_39 : decode cX7_walk 39 = .ok (.aload_n 0, 1) := by decide +kernel
theorem dX7_walk_40 : decode cX7_walk 40 = .ok (.getfield 28, 3) := by decide +kernel
theorem dX7_walk_43 : decode cX7_walk 43 = .ok (.aload_n 0, 1) := by decide +kernel
theorem dX7_walk_44 : decode cX7_walk 44 = .ok (.getfield 38, 3) := by decide +kernel
theorem dX7_walk_47 : decode cX7_walk 47 = .ok (.getfield 163, 3) := by decide +kernel
theorem dX7_walk_50 : decode cX7_walk 50 = .ok (.invokevirtual 152, 3) := by decide +kernel
theorem dX7_walk_53 : decode cX7_walk 53 = .ok (.invokevirtual 166, 3) := by decide +kernel
theorem dX7_walk_56 : decode cX7_walk 56 = .ok (.ireturn, 1) := by decide +kernel
theorem dX7_shut_0 : decode cX7_shut 0 = .ok (.aload_n 0, 1) := by decide +kernel
theorem dX7_shut_1 : decode cX7_shut 1 = .ok (.iload_n 1, 1) := by decide +kernel
theorem dX7_shut_2 : decode cX7_shut 2 = .ok (.invokevirtual 136, 3) := by decide +kernel
theorem dX7_shut_5 : decode cX7_shut 5 = .ok (.ifCond .ne 5, 3) := by decide +kernel
theorem dX7_shut_8 : decode cX7_shut 8 = .ok (.iconst (-1), 1) := by decide +kernel
theorem dX7_shut_9 : decode cX7_shut 9 = .ok (.ireturn, 1) := by decide +kernel
theorem dX7_shut_10 : decode cX7_shut 10 = .ok (.aload_n 0, 1) := by decide +kernel
theorem dX7_shut_11 : decode cX7_shut 11 = .ok (.getfield 38, 3) := by decide +kernel
theorem dX7_shut_14 : decode cX7_shut 14 = .ok (.iload_n 1, 1) := by decide +kernel
theorem dX7_shut_15 : decode cX7_shut 15 = .ok (.invokevirtual 139, 3) := by decide +kernel
theorem dX7_shut_18 : decode cX7_shut 18 = .ok (.iload_n 2, 1) := by decide +kernel
theorem dX7_shut_19 : decode cX7_shut 19 = .ok (.if_icmp .ne 6, 3) := by decide +kernel
theorem dX7_shut_22 : decode cX7_shut 22 = .ok (.bipush (-2), 2) := by decide +kernel
theorem dX7_shut_24 : decode cX7_shut 24 = .ok (.ireturn, 1) := by decide +kernel
theorem dX7_shut_25 : decode cX7_shut 25 = .ok (.aload_n 0, 1) := by decide +kernel
theorem dX7_shut_26 : decode cX7_shut 26 = .ok (.getfield 50, 3) := by decide +kernel
theorem dX7_shut_29 : decode cX7_shut 29 = .ok (.aload_n 0, 1) := by decide +kernel
theorem dX7_shut_30 : decode cX7_shut 30 = .ok (.getfield 38, 3) := by decide +kernel
theorem dX7_shut_33 : decode cX7_shut 33 = .ok (.invokevirtual 155, 3) := by decide +kernel
theorem dX7_shut_36 : decode cX7_shut 36 = .ok (.aload_n 0, 1) := by decide +kernel
theorem dX7_shut_37 : decode cX7_shut 37 = .ok (.getfield 38, 3) := by decide +kernel
theorem dX7_shut_40 : decode cX7_shut 40 = .ok (.iload_n 1, 1) := by decide +kernel
theorem dX7_shut_41 : decode cX7_shut 41 = .ok (.invokevirtual 170, 3) := by decide +kernel
theorem dX7_shut_44 : decode cX7_shut 44 = .ok (.aload_n 0, 1) := by decide +kernel
theorem dX7_shut_45 : decode cX7_shut 45 = .ok (.getfield 38, 3) := by decide +kernel
theorem dX7_shut_48 : decode cX7_shut 48 = .ok (.invokevirtual 173, 3) := by decide +kernel
theorem dX7_shut_51 : decode cX7_shut 51 = .ok (.ireturn, 1) := by decide +kernel
theorem dX7_undo_0 : decode cX7_undo 0 = .ok (.aload_n 0, 1) := by decide +kernel
theorem dX7_undo_1 : decode cX7_undo 1 = .ok (.getfield 50, 3) := by decide +kernel
theorem dX7_undo_4 : decode cX7_undo 4 = .ok (.aload_n 0, 1) := by decide +kernel
theorem dX7_undo_5 : decode cX7_undo 5 = .ok (.getfield 38, 3) := by decide +kernel
theorem dX7_undo_8 : decode cX7_undo 8 = .ok (.invokevirtual 176, 3) := by decide +kernel
theorem dX7_undo_11 : decode cX7_undo 11 = .ok (.ifCond .eq 13, 3) := by decide +kernel
theorem dX7_undo_14 : decode cX7_undo 14 = .ok (.aload_n 0, 1) := by decide +kernel
theorem dX7_undo_15 : decode cX7_undo 15 = .ok (.getfield 50, 3) := by decide +kernel
theorem dX7_undo_18 : decode cX7_undo 18 = .ok (.getfield 180, 3) := by decide +kernel
theorem dX7_undo_21 : decode cX7_undo 21 = .ok (.goto 5, 3) := by decide +kernel
theorem dX7_undo_24 : decode cX7_undo 24 = .ok (.bipush (-2), 2) := by decide +kernel
theorem dX7_undo_26 : decode cX7_undo 26 = .ok (.ireturn, 1) := by decide +kernel
theorem dX7_length_0 : decode cX7_length 0 = .ok (.aload_n 0, 1) := by decide +kernel
theorem dX7_length_1 : decode cX7_length 1 = .ok (.getfield 38, 3) := by decide +kernel
theorem dX7_length_4 : decode cX7_length 4 = .ok (.invokevirtual 181, 3) := by decide +kernel
theorem dX7_length_7 : decode cX7_length 7 = .ok (.ireturn, 1) := by decide +kernel
theorem dX7_crooks_0 : decode cX7_crooks 0 = .ok (.iload_n 1, 1) := by decide +kernel
theorem dX7_crooks_1 : decode cX7_crooks 1 = .ok (.iconst 0, 1) := by decide +kernel
theorem dX7_crooks_2 : decode cX7_crooks 2 = .ok (.iconst 1, 1) := by decide +kernel
theorem dX7_crooks_3 : decode cX7_crooks 3 = .ok (.invokestatic 108, 3) := by decide +kernel
theorem dX7_crooks_6 : decode cX7_crooks 6 = .ok (.ifCond .ne 5, 3) := by decide +kernel
theorem dX7_crooks_9 : decode cX7_crooks 9 = .ok (.iconst (-1), 1) := by decide +kernel
theorem dX7_crooks_10 : decode cX7_crooks 10 = .ok (.ireturn, 1) := by decide +kernel
theorem dX7_crooks_11 : decode cX7_crooks 11 = .ok (.iload_n 1, 1) := by decide +kernel
theorem dX7_crooks_12 : decode cX7_crooks 12 = .ok (.ifCond .ne 13, 3) := by decide +kernel
theorem dX7_crooks_15 : decode cX7_crooks 15 = .ok (.aload_n 0, 1) := by decide +kernel
theorem dX7_crooks_16 : decode cX7_crooks 16 = .ok (.getfield 38, 3) := by decide +kernel
theorem dX7_crooks_19 : decode cX7_crooks 19 = .ok (.invokevirtual 184, 3) := by decide +kernel
theorem dX7_crooks_22 : decode cX7_crooks 22 = .ok (.goto 10, 3) := by decide +kernel
theorem dX7_crooks_25 : decode cX7_crooks 25 = .ok (.aload_n 0, 1) := by decide +kernel
theorem dX7_crooks_26 : decode cX7_crooks 26 = .ok (.getfield 38, 3) := by decide +kernel
theorem dX7_crooks_29 : decode cX7_crooks 29 = .ok (.invokevirtual 187, 3) := by decide +kernel
theorem dX7_crooks_32 : decode cX7_crooks 32 = .ok (.ireturn, 1) := by decide +kernel
theorem dX7_milestone_0 : decode cX7_milestone 0 = .ok (.iload_n 1, 1) := by decide +kernel
theorem dX7_milestone_1 : decode cX7_milestone 1 = .ok (.iconst 1, 1) := by decide +kernel
theorem dX7_milestone_2 : decode cX7_milestone 2 = .ok (.bipush 99, 2) := by decide +kernel
theorem dX7_milestone_4 : decode cX7_milestone 4 = .ok (.invokestatic 108, 3) := by decide +kernel
theorem dX7_milestone_7 : decode cX7_milestone 7 = .ok (.ifCond .ne 5, 3) := by decide +kernel
theorem dX7_milestone_10 : decode cX7_milestone 10 = .ok (.iconst (-1), 1) := by decide +kernel
theorem dX7_milestone_11 : decode cX7_milestone 11 = .ok (.ireturn, 1) := by decide +kernel
theorem dX7_milestone_12 : decode cX7_milestone 12 = .ok (.aload_n 0, 1) := by decide +kernel
theorem dX7_milestone_13 : decode cX7_milestone 13 = .ok (.getfield 38, 3) := by decide +kernel
theorem dX7_milestone_16 : decode cX7_milestone 16 = .ok (.bipush 20, 2) := by decide +kernel
theorem dX7_milestone_18 : decode cX7_milestone 18 = .ok (.iload_n 1, 1) := by decide +kernel
theorem dX7_milestone_19 : decode cX7_milestone 19 = .ok (.imul, 1) := by decide +kernel
theorem dX7_milestone_20 : decode cX7_milestone 20 = .ok (.invokevirtual 190, 3) := by decide +kernel
theorem dX7_milestone_23 : decode cX7_milestone 23 = .ok (.ireturn, 1) := by decide +kernel
theorem dX7_behind_0 : decode cX7_behind 0 = .ok (.iload_n 1, 1) := by decide +kernel
theorem dX7_behind_1 : decode cX7_behind 1 = .ok (.iconst 0, 1) := by decide +kernel
theorem dX7_behind_2 : decode cX7_behind 2 = .ok (.bipush 40, 2) := by decide +kernel
theorem dX7_behind_4 : decode cX7_behind 4 = .ok (.invokestatic 108, 3) := by decide +kernel
theorem dX7_behind_7 : decode cX7_behind 7 = .ok (.ifCond .eq 16, 3) := by decide +kernel
theorem dX7_behind_10 : decode cX7_behind 10 = .ok (.iload_n 2, 1) := by decide +kernel
theorem dX7_behind_11 : decode cX7_behind 11 = .ok (.iconst (-1), 1) := by decide +kernel
theorem dX7_behind_12 : decode cX7_behind 12 = .ok (.if_icmp .eq 13, 3) := by decide +kernel
theorem dX7_behind_15 : decode cX7_behind 15 = .ok (.aload_n 0, 1) := by decide +kernel
theorem dX7_behind_16 : decode cX7_behind 16 = .ok (.iload_n 2, 1) := by decide +kernel
theorem dX7_behind_17 : decode cX7_behind 17 = .ok (.invokevirtual 121, 3) := by decide +kernel
theorem dX7_behind_20 : decode cX7_behind 20 = .ok (.ifCond .ne 5, 3) := by decide +kernel
theorem dX7_behind_23 : decode cX7_behind 23 = .ok (.iconst (-1), 1) := by decide +kernel
theorem dX7_behind_24 : decode cX7_behind 24 = .ok (.ireturn, 1) := by decide +kernel
theorem dX7_behind_25 : decode cX7_behind 25 = .ok (.aload_n 0, 1) := by decide +kernel
theorem dX7_behind_26 : decode cX7_behind 26 = .ok (.getfield 42, 3) := by decide +kernel
theorem dX7_behind_29 : decode cX7_behind 29 = .ok (.aload_n 0, 1) := by decide +kernel
theorem dX7_behind_30 : decode cX7_behind 30 = .ok (.getfield 38, 3) := by decide +kernel
theorem dX7_behind_33 : decode cX7_behind 33 = .ok (.invokevirtual 193, 3) := by decide +kernel
theorem dX7_behind_36 : decode cX7_behind 36 = .ok (.aload_n 0, 1) := by decide +kernel
theorem dX7_behind_37 : decode cX7_behind 37 = .ok (.getfield 42, 3) := by decide +kernel
theorem dX7_behind_40 : decode cX7_behind 40 = .ok (.aload_n 0, 1) := by decide +kernel
theorem dX7_behind_41 : decode cX7_behind 41 = .ok (.getfield 28, 3) := by decide +kernel
theorem dX7_behind_44 : decode cX7_behind 44 = .ok (.iload_n 1, 1) := by decide +kernel
theorem dX7_behind_45 : decode cX7_behind 45 = .ok (.invokevirtual 159, 3) := by decide +kernel
theorem dX7_behind_48 : decode cX7_behind 48 = .ok (.iload_n 2, 1) := by decide +kernel
theorem dX7_behind_49 : decode cX7_behind 49 = .ok (.iconst (-1), 1) := by decide +kernel
theorem dX7_behind_50 : decode cX7_behind 50 = .ok (.if_icmp .ne 13, 3) := by decide +kernel
theorem dX7_behind_53 : decode cX7_behind 53 = .ok (.aload_n 0, 1) := by decide +kernel
theorem dX7_behind_54 : decode cX7_behind 54 = .ok (.getfield 42, 3) := by decide +kernel
theorem dX7_behind_57 : decode cX7_behind 57 = .ok (.invokevirtual 181, 3) := by decide +kernel
theorem dX7_behind_60 : decode cX7_behind 60 = .ok (.goto 12, 3) := by decide +kernel
theorem dX7_behind_63 : decode cX7_behind 63 = .ok (.aload_n 0, 1) := by decide +kernel
theorem dX7_behind_64 : decode cX7_behind 64 = .ok (.getfield 42, 3) := by decide +kernel
theorem dX7_behind_67 : decode cX7_behind 67 = .ok (.getfield 124, 3) := by decide +kernel
theorem dX7_behind_70 : decode cX7_behind 70 = .ok (.iload_n 2, 1) := by decide +kernel
theorem dX7_behind_71 : decode cX7_behind 71 = .ok (.iaload, 1) := by decide +kernel
theorem dX7_behind_72 : decode cX7_behind 72 = .ok (.ireturn, 1) := by decide +kernel
theorem dX7_door_0 : decode cX7_door 0 = .ok (.aload_n 0, 1) := by decide +kernel
theorem dX7_door_1 : decode cX7_door 1 = .ok (.iload_n 1, 1) := by decide +kernel
theorem dX7_door_2 : decode cX7_door 2 = .ok (.invokevirtual 121, 3) := by decide +kernel
theorem dX7_door_5 : decode cX7_door 5 = .ok (.ifCond .eq 19, 3) := by decide +kernel
theorem dX7_door_8 : decode cX7_door 8 = .ok (.iload_n 2, 1) := by decide +kernel
theorem dX7_door_9 : decode cX7_door 9 = .ok (.invokestatic 196, 3) := by decide +kernel
theorem dX7_door_12 : decode cX7_door 12 = .ok (.ifCond .eq 12, 3) := by decide +kernel
theorem dX7_door_15 : decode cX7_door 15 = .ok (.iload_n 3, 1) := by decide +kernel
theorem dX7_door_16 : decode cX7_door 16 = .ok (.iconst 0, 1) := by decide +kernel
theorem dX7_door_17 : decode cX7_door 17 = .ok (.iconst 3, 1) := by decide +kernel
theorem dX7_door_18 : decode cX7_door 18 = .ok (.invokestatic 108, 3) := by decide +kernel
theorem dX7_door_21 : decode cX7_door 21 = .ok (.ifCond .ne 5, 3) := by decide +kernel
theorem dX7_door_24 : decode cX7_door 24 = .ok (.iconst (-1), 1) := by decide +kernel
theorem dX7_door_25 : decode cX7_door 25 = .ok (.ireturn, 1) := by decide +kernel
theorem dX7_door_26 : decode cX7_door 26 = .ok (.aload_n 0, 1) := by decide +kernel
theorem dX7_door_27 : decode cX7_door 27 = .ok (.getfield 70, 3) := by decide +kernel
theorem dX7_door_30 : decode cX7_door 30 = .ok (.aload_n 0, 1) := by decide +kernel
theorem dX7_door_31 : decode cX7_door 31 = .ok (.getfield 28, 3) := by decide +kernel
theorem dX7_door_34 : decode cX7_door 34 = .ok (.aload_n 0, 1) := by decide +kernel
theorem dX7_door_35 : decode cX7_door 35 = .ok (.getfield 38, 3) := by decide +kernel
theorem dX7_door_38 : decode cX7_door 38 = .ok (.iload_n 1, 1) := by decide +kernel
theorem dX7_door_39 : decode cX7_door 39 = .ok (.iload_n 2, 1) := by decide +kernel
theorem dX7_door_40 : decode cX7_door 40 = .ok (.invokevirtual 199, 3) := by decide +kernel
theorem dX7_door_43 : decode cX7_door 43 = .ok (.istore 4, 2) := by decide +kernel
theorem dX7_door_45 : decode cX7_door 45 = .ok (.iload_n 3, 1) := by decide +kernel
theorem dX7_door_46 : decode cX7_door 46 = .ok (.ifCond .ne 6, 3) := by decide +kernel
theorem dX7_door_49 : decode cX7_door 49 = .ok (.iload 4, 2) := by decide +kernel
theorem dX7_door_51 : decode cX7_door 51 = .ok (.ireturn, 1) := by decide +kernel
theorem dX7_door_52 : decode cX7_door 52 = .ok (.iload_n 3, 1) := by decide +kernel
theorem dX7_door_53 : decode cX7_door 53 = .ok (.iload 4, 2) := by decide +kernel
theorem dX7_door_55 : decode cX7_door 55 = .ok (.if_icmp .gt 17, 3) := by decide +kernel
theorem dX7_door_58 : decode cX7_door 58 = .ok (.aload_n 0, 1) := by decide +kernel
theorem dX7_door_59 : decode cX7_door 59 = .ok (.getfield 70, 3) := by decide +kernel
theorem dX7_door_62 : decode cX7_door 62 = .ok (.getfield 203, 3) := by decide +kernel
theorem dX7_door_65 : decode cX7_door 65 = .ok (.iload_n 3, 1) := by decide +kernel
theorem dX7_door_66 : decode cX7_door 66 = .ok (.iconst 1, 1) := by decide +kernel
theorem dX7_door_67 : decode cX7_door 67 = .ok (.isub, 1) := by decide +kernel
theorem dX7_door_68 : decode cX7_door 68 = .ok (.iaload, 1) := by decide +kernel
theorem dX7_door_69 : decode cX7_door 69 = .ok (.goto 5, 3) := by decide +kernel
theorem dX7_door_72 : decode cX7_door 72 = .ok (.bipush (-4), 2) := by decide +kernel
theorem dX7_door_74 : decode cX7_door 74 = .ok (.ireturn, 1) := by decide +kernel
theorem dX7_mile_0 : decode cX7_mile 0 = .ok (.iload_n 1, 1) := by decide +kernel
theorem dX7_mile_1 : decode cX7_mile 1 = .ok (.iconst 0, 1) := by decide +kernel
theorem dX7_mile_2 : decode cX7_mile 2 = .ok (.sipush 999, 3) := by decide +kernel
theorem dX7_mile_5 : decode cX7_mile 5 = .ok (.invokestatic 108, 3) := by decide +kernel
theorem dX7_mile_8 : decode cX7_mile 8 = .ok (.ifCond .ne 5, 3) := by decide +kernel
theorem dX7_mile_11 : decode cX7_mile 11 = .ok (.iconst (-1), 1) := by decide +kernel
theorem dX7_mile_12 : decode cX7_mile 12 = .ok (.ireturn, 1) := by decide +kernel
theorem dX7_mile_13 : decode cX7_mile 13 = .ok (.aload_n 0, 1) := by decide +kernel
theorem dX7_mile_14 : decode cX7_mile 14 = .ok (.getfield 70, 3) := by decide +kernel
theorem dX7_mile_17 : decode cX7_mile 17 = .ok (.aload_n 0, 1) := by decide +kernel
theorem dX7_mile_18 : decode cX7_mile 18 = .ok (.getfield 28, 3) := by decide +kernel
theorem dX7_mile_21 : decode cX7_mile 21 = .ok (.aload_n 0, 1) := by decide +kernel
theorem dX7_mile_22 : decode cX7_mile 22 = .ok (.getfield 38, 3) := by decide +kernel
theorem dX7_mile_25 : decode cX7_mile 25 = .ok (.iconst (-1), 1) := by decide +kernel
theorem dX7_mile_26 : decode cX7_mile 26 = .ok (.iload_n 1, 1) := by decide +kernel
theorem dX7_mile_27 : decode cX7_mile 27 = .ok (.invokevirtual 199, 3) := by decide +kernel
theorem dX7_mile_30 : decode cX7_mile 30 = .ok (.ireturn, 1) := by decide +kernel
theorem dX7_window_0 : decode cX7_window 0 = .ok (.iload_n 1, 1) := by decide +kernel
theorem dX7_window_1 : decode cX7_window 1 = .ok (.iconst 1, 1) := by decide +kernel
theorem dX7_window_2 : decode cX7_window 2 = .ok (.bipush 20, 2) := by decide +kernel
theorem dX7_window_4 : decode cX7_window 4 = .ok (.invokestatic 108, 3) := by decide +kernel
theorem dX7_window_7 : decode cX7_window 7 = .ok (.ifCond .eq 12, 3) := by decide +kernel
theorem dX7_window_10 : decode cX7_window 10 = .ok (.iload_n 2, 1) := by decide +kernel
theorem dX7_window_11 : decode cX7_window 11 = .ok (.iconst 0, 1) := by decide +kernel
theorem dX7_window_12 : decode cX7_window 12 = .ok (.iconst 1, 1) := by decide +kernel
theorem dX7_window_13 : decode cX7_window 13 = .ok (.invokestatic 108, 3) := by decide +kernel
theorem dX7_window_16 : decode cX7_window 16 = .ok (.ifCond .ne 5, 3) := by decide +kernel
theorem dX7_window_19 : decode cX7_window 19 = .ok (.iconst (-1), 1) := by decide +kernel
theorem dX7_window_20 : decode cX7_window 20 = .ok (.ireturn, 1) := by decide +kernel
theorem dX7_window_21 : decode cX7_window 21 = .ok (.aload_n 0, 1) := by decide +kernel
theorem dX7_window_22 : decode cX7_window 22 = .ok (.getfield 42, 3) := by decide +kernel
theorem dX7_window_25 : decode cX7_window 25 = .ok (.aload_n 0, 1) := by decide +kernel
theorem dX7_window_26 : decode cX7_window 26 = .ok (.getfield 38, 3) := by decide +kernel
theorem dX7_window_29 : decode cX7_window 29 = .ok (.invokevirtual 193, 3) := by decide +kernel
theorem dX7_window_32 : decode cX7_window 32 = .ok (.aload_n 0, 1) := by decide +kernel
theorem dX7_window_33 : decode cX7_window 33 = .ok (.getfield 42, 3) := by decide +kernel
theorem dX7_window_36 : decode cX7_window 36 = .ok (.aload_n 0, 1) := by decide +kernel
theorem dX7_window_37 : decode cX7_window 37 = .ok (.getfield 28, 3) := by decide +kernel
theorem dX7_window_40 : decode cX7_window 40 = .ok (.iload_n 1, 1) := by decide +kernel
theorem dX7_window_41 : decode cX7_window 41 = .ok (.invokevirtual 159, 3) := by decide +kernel
theorem dX7_window_44 : decode cX7_window 44 = .ok (.aload_n 0, 1) := by decide +kernel
theorem dX7_window_45 : decode cX7_window 45 = .ok (.getfield 42, 3) := by decide +kernel
theorem dX7_window_48 : decode cX7_window 48 = .ok (.invokevirtual 181, 3) := by decide +kernel
theorem dX7_window_51 : decode cX7_window 51 = .ok (.istore_n 3, 1) := by decide +kernel
theorem dX7_window_52 : decode cX7_window 52 = .ok (.bipush (-4), 2) := by decide +kernel
theorem dX7_window_54 : decode cX7_window 54 = .ok (.istore 4, 2) := by decide +kernel
theorem dX7_window_56 : decode cX7_window 56 = .ok (.iconst 0, 1) := by decide +kernel
theorem dX7_window_57 : decode cX7_window 57 = .ok (.istore 5, 2) := by decide +kernel
theorem dX7_window_59 : decode cX7_window 59 = .ok (.iload 5, 2) := by decide +kernel
theorem dX7_window_61 : decode cX7_window 61 = .ok (.aload_n 0, 1) := by decide +kernel
theorem dX7_window_62 : decode cX7_window 62 = .ok (.getfield 28, 3) := by decide +kernel
theorem dX7_window_65 : decode cX7_window 65 = .ok (.getfield 206, 3) := by decide +kernel
theorem dX7_window_68 : decode cX7_window 68 = .ok (.if_icmp .ge 43, 3) := by decide +kernel
theorem dX7_window_71 : decode cX7_window 71 = .ok (.aload_n 0, 1) := by decide +kernel
theorem dX7_window_72 : decode cX7_window 72 = .ok (.getfield 38, 3) := by decide +kernel
theorem dX7_window_75 : decode cX7_window 75 = .ok (.iload 5, 2) := by decide +kernel
theorem dX7_window_77 : decode cX7_window 77 = .ok (.invokevirtual 139, 3) := by decide +kernel
theorem dX7_window_80 : decode cX7_window 80 = .ok (.ifCond .ne 25, 3) := by decide +kernel
theorem dX7_window_83 : decode cX7_window 83 = .ok (.aload_n 0, 1) := by decide +kernel
theorem dX7_window_84 : decode cX7_window 84 = .ok (.iload 5, 2) := by decide +kernel
theorem dX7_window_86 : decode cX7_window 86 = .ok (.iload_n 1, 1) := by decide +kernel
theorem dX7_window_87 : decode cX7_window 87 = .ok (.invokevirtual 209, 3) := by decide +kernel
theorem dX7_window_90 : decode cX7_window 90 = .ok (.istore 6, 2) := by decide +kernel
theorem dX7_window_92 : decode cX7_window 92 = .ok (.iload 6, 2) := by decide +kernel
theorem dX7_window_94 : decode cX7_window 94 = .ok (.iload_n 3, 1) := by decide +kernel
theorem dX7_window_95 : decode cX7_window 95 = .ok (.if_icmp .ge 10, 3) := by decide +kernel
theorem dX7_window_98 : decode cX7_window 98 = .ok (.iload 6, 2) := by decide +kernel
theorem dX7_window_100 : decode cX7_window 100 = .ok (.istore_n 3, 1) := by decide +kernel
theorem dX7_window_101 : decode cX7_window 101 = .ok (.iload 5, 2) := by decide +kernel
theorem dX7_window_103 : decode cX7_window 103 = .ok (.istore 4, 2) := by decide +kernel
theorem dX7_window_105 : decode cX7_window 105 = .ok (.iinc 5 1, 3) := by decide +kernel
theorem dX7_window_108 : decode cX7_window 108 = .ok (.goto (-49), 3) := by decide +kernel
theorem dX7_window_111 : decode cX7_window 111 = .ok (.iload_n 2, 1) := by decide +kernel
theorem dX7_window_112 : decode cX7_window 112 = .ok (.ifCond .eq 10, 3) := by decide +kernel
theorem dX7_window_115 : decode cX7_window 115 = .ok (.iload 4, 2) := by decide +kernel
theorem dX7_window_117 : decode cX7_window 117 = .ok (.bipush (-4), 2) := by decide +kernel
theorem dX7_window_119 : decode cX7_window 119 = .ok (.if_icmp .ne 8, 3) := by decide +kernel
theorem dX7_window_122 : decode cX7_window 122 = .ok (.iload 4, 2) := by decide +kernel
theorem dX7_window_124 : decode cX7_window 124 = .ok (.goto 4, 3) := by decide +kernel
theorem dX7_window_127 : decode cX7_window 127 = .ok (.iload_n 3, 1) := by decide +kernel
theorem dX7_window_128 : decode cX7_window 128 = .ok (.ireturn, 1) := by decide +kernel
theorem dX7_bent_0 : decode cX7_bent 0 = .ok (.aload_n 0, 1) := by decide +kernel
theorem dX7_bent_1 : decode cX7_bent 1 = .ok (.iload_n 1, 1) := by decide +kernel
theorem dX7_bent_2 : decode cX7_bent 2 = .ok (.invokevirtual 121, 3) := by decide +kernel
theorem dX7_bent_5 : decode cX7_bent 5 = .ok (.ifCond .eq 10, 3) := by decide +kernel
theorem dX7_bent_8 : decode cX7_bent 8 = .ok (.iload_n 2, 1) := by decide +kernel
theorem dX7_bent_9 : decode cX7_bent 9 = .ok (.invokestatic 196, 3) := by decide +kernel
theorem dX7_bent_12 : decode cX7_bent 12 = .ok (.ifCond .ne 5, 3) := by decide +kernel
theorem dX7_bent_15 : decode cX7_bent 15 = .ok (.iconst (-1), 1) := by decide +kernel
theorem dX7_bent_16 : decode cX7_bent 16 = .ok (.ireturn, 1) := by decide +kernel
theorem dX7_bent_17 : decode cX7_bent 17 = .ok (.aload_n 0, 1) := by decide +kernel
theorem dX7_bent_18 : decode cX7_bent 18 = .ok (.getfield 60, 3) := by decide +kernel
theorem dX7_bent_21 : decode cX7_bent 21 = .ok (.iload_n 1, 1) := by decide +kernel
theorem dX7_bent_22 : decode cX7_bent 22 = .ok (.iconst 1, 1) := by decide +kernel
theorem dX7_bent_23 : decode cX7_bent 23 = .ok (.iload_n 2, 1) := by decide +kernel
theorem dX7_bent_24 : decode cX7_bent 24 = .ok (.invokevirtual 213, 3) := by decide +kernel
theorem dX7_bent_27 : decode cX7_bent 27 = .ok (.ifCond .eq 13, 3) := by decide +kernel
theorem dX7_bent_30 : decode cX7_bent 30 = .ok (.aload_n 0, 1) := by decide +kernel
theorem dX7_bent_31 : decode cX7_bent 31 = .ok (.getfield 60, 3) := by decide +kernel
theorem dX7_bent_34 : decode cX7_bent 34 = .ok (.getfield 215, 3) := by decide +kernel
theorem dX7_bent_37 : decode cX7_bent 37 = .ok (.goto 5, 3) := by decide +kernel
theorem dX7_bent_40 : decode cX7_bent 40 = .ok (.bipush (-3), 2) := by decide +kernel
theorem dX7_bent_42 : decode cX7_bent 42 = .ok (.ireturn, 1) := by decide +kernel
theorem dX7_found_0 : decode cX7_found 0 = .ok (.aload_n 0, 1) := by decide +kernel
theorem dX7_found_1 : decode cX7_found 1 = .ok (.iload_n 1, 1) := by decide +kernel
theorem dX7_found_2 : decode cX7_found 2 = .ok (.invokevirtual 121, 3) := by decide +kernel
theorem dX7_found_5 : decode cX7_found 5 = .ok (.ifCond .eq 20, 3) := by decide +kernel
theorem dX7_found_8 : decode cX7_found 8 = .ok (.iload_n 2, 1) := by decide +kernel
theorem dX7_found_9 : decode cX7_found 9 = .ok (.iconst 1, 1) := by decide +kernel
theorem dX7_found_10 : decode cX7_found 10 = .ok (.bipush 10, 2) := by decide +kernel
theorem dX7_found_12 : decode cX7_found 12 = .ok (.invokestatic 108, 3) := by decide +kernel
theorem dX7_found_15 : decode cX7_found 15 = .ok (.ifCond .eq 10, 3) := by decide +kernel
theorem dX7_found_18 : decode cX7_found 18 = .ok (.iload_n 3, 1) := by decide +kernel
theorem dX7_found_19 : decode cX7_found 19 = .ok (.invokestatic 196, 3) := by decide +kernel
theorem dX7_found_22 : decode cX7_found 22 = .ok (.ifCond .ne 5, 3) := by decide +kernel
theorem dX7_found_25 : decode cX7_found 25 = .ok (.iconst (-1), 1) := by decide +kernel
theorem dX7_found_26 : decode cX7_found 26 = .ok (.ireturn, 1) := by decide +kernel
theorem dX7_found_27 : decode cX7_found 27 = .ok (.aload_n 0, 1) := by decide +kernel
theorem dX7_found_28 : decode cX7_found 28 = .ok (.getfield 64, 3) := by decide +kernel
theorem dX7_found_31 : decode cX7_found 31 = .ok (.iload_n 1, 1) := by decide +kernel
theorem dX7_found_32 : decode cX7_found 32 = .ok (.iload_n 2, 1) := by decide +kernel
theorem dX7_found_33 : decode cX7_found 33 = .ok (.iload_n 3, 1) := by decide +kernel
theorem dX7_found_34 : decode cX7_found 34 = .ok (.invokevirtual 213, 3) := by decide +kernel
theorem dX7_found_37 : decode cX7_found 37 = .ok (.ifCond .eq 13, 3) := by decide +kernel
theorem dX7_found_40 : decode cX7_found 40 = .ok (.aload_n 0, 1) := by decide +kernel
theorem dX7_found_41 : decode cX7_found 41 = .ok (.getfield 64, 3) := by decide +kernel
theorem dX7_found_44 : decode cX7_found 44 = .ok (.getfield 215, 3) := by decide +kernel
theorem dX7_found_47 : decode cX7_found 47 = .ok (.goto 5, 3) := by decide +kernel
theorem dX7_found_50 : decode cX7_found 50 = .ok (.bipush (-3), 2) := by decide +kernel
theorem dX7_found_52 : decode cX7_found 52 = .ok (.ireturn, 1) := by decide +kernel
theorem dX7_forget_0 : decode cX7_forget 0 = .ok (.aload_n 0, 1) := by decide +kernel
theorem dX7_forget_1 : decode cX7_forget 1 = .ok (.getfield 60, 3) := by decide +kernel
theorem dX7_forget_4 : decode cX7_forget 4 = .ok (.getfield 215, 3) := by decide +kernel
theorem dX7_forget_7 : decode cX7_forget 7 = .ok (.aload_n 0, 1) := by decide +kernel
theorem dX7_forget_8 : decode cX7_forget 8 = .ok (.getfield 64, 3) := by decide +kernel
theorem dX7_forget_11 : decode cX7_forget 11 = .ok (.getfield 215, 3) := by decide +kernel
theorem dX7_forget_14 : decode cX7_forget 14 = .ok (.iadd, 1) := by decide +kernel
theorem dX7_forget_15 : decode cX7_forget 15 = .ok (.istore_n 1, 1) := by decide +kernel
theorem dX7_forget_16 : decode cX7_forget 16 = .ok (.aload_n 0, 1) := by decide +kernel
theorem dX7_forget_17 : decode cX7_forget 17 = .ok (.getfield 60, 3) := by decide +kernel
theorem dX7_forget_20 : decode cX7_forget 20 = .ok (.invokevirtual 117, 3) := by decide +kernel
theorem dX7_forget_23 : decode cX7_forget 23 = .ok (.aload_n 0, 1) := by decide +kernel
theorem dX7_forget_24 : decode cX7_forget 24 = .ok (.getfield 64, 3) := by decide +kernel
theorem dX7_forget_27 : decode cX7_forget 27 = .ok (.invokevirtual 117, 3) := by decide +kernel
theorem dX7_forget_30 : decode cX7_forget 30 = .ok (.iload_n 1, 1) := by decide +kernel
theorem dX7_forget_31 : decode cX7_forget 31 = .ok (.ireturn, 1) := by decide +kernel
theorem dX7_looked_0 : decode cX7_looked 0 = .ok (.iload_n 1, 1) := by decide +kernel
theorem dX7_looked_1 : decode cX7_looked 1 = .ok (.iconst 0, 1) := by decide +kernel
theorem dX7_looked_2 : decode cX7_looked 2 = .ok (.iconst 1, 1) := by decide +kernel
theorem dX7_looked_3 : decode cX7_looked 3 = .ok (.invokestatic 108, 3) := by decide +kernel
theorem dX7_looked_6 : decode cX7_looked 6 = .ok (.ifCond .ne 5, 3) := by decide +kernel
theorem dX7_looked_9 : decode cX7_looked 9 = .ok (.iconst (-1), 1) := by decide +kernel
theorem dX7_looked_10 : decode cX7_looked 10 = .ok (.ireturn, 1) := by decide +kernel
theorem dX7_looked_11 : decode cX7_looked 11 = .ok (.iconst 0, 1) := by decide +kernel
theorem dX7_looked_12 : decode cX7_looked 12 = .ok (.istore_n 2, 1) := by decide +kernel
theorem dX7_looked_13 : decode cX7_looked 13 = .ok (.bipush (-4), 2) := by decide +kernel
theorem dX7_looked_15 : decode cX7_looked 15 = .ok (.istore_n 3, 1) := by decide +kernel
theorem dX7_looked_16 : decode cX7_looked 16 = .ok (.iconst 0, 1) := by decide +kernel
theorem dX7_looked_17 : decode cX7_looked 17 = .ok (.istore 4, 2) := by decide +kernel
theorem dX7_looked_19 : decode cX7_looked 19 = .ok (.iload 4, 2) := by decide +kernel
theorem dX7_looked_21 : decode cX7_looked 21 = .ok (.aload_n 0, 1) := by decide +kernel
theorem dX7_looked_22 : decode cX7_looked 22 = .ok (.getfield 28, 3) := by decide +kernel
theorem dX7_looked_25 : decode cX7_looked 25 = .ok (.getfield 216, 3) := by decide +kernel
theorem dX7_looked_28 : decode cX7_looked 28 = .ok (.if_icmp .ge 61, 3) := by decide +kernel
theorem dX7_looked_31 : decode cX7_looked 31 = .ok (.iconst 0, 1) := by decide +kernel
theorem dX7_looked_32 : decode cX7_looked 32 = .ok (.istore 5, 2) := by decide +kernel
theorem dX7_looked_34 : decode cX7_looked 34 = .ok (.iload 5, 2) := by decide +kernel
theorem dX7_looked_36 : decode cX7_looked 36 = .ok (.aload_n 0, 1) := by decide +kernel
theorem dX7_looked_37 : decode cX7_looked 37 = .ok (.getfield 28, 3) := by decide +kernel
theorem dX7_looked_40 : decode cX7_looked 40 = .ok (.getfield 206, 3) := by decide +kernel
theorem dX7_looked_43 : decode cX7_looked 43 = .ok (.if_icmp .ge 40, 3) := by decide +kernel
theorem dX7_looked_46 : decode cX7_looked 46 = .ok (.aload_n 0, 1) := by decide +kernel
theorem dX7_looked_47 : decode cX7_looked 47 = .ok (.iload 4, 2) := by decide +kernel
theorem dX7_looked_49 : decode cX7_looked 49 = .ok (.iload 5, 2) := by decide +kernel
theorem dX7_looked_51 : decode cX7_looked 51 = .ok (.invokevirtual 219, 3) := by decide +kernel
theorem dX7_looked_54 : decode cX7_looked 54 = .ok (.ifCond .eq 23, 3) := by decide +kernel
theorem dX7_looked_57 : decode cX7_looked 57 = .ok (.iload_n 2, 1) := by decide +kernel
theorem dX7_looked_58 : decode cX7_looked 58 = .ok (.ifCond .ne 14, 3) := by decide +kernel
theorem dX7_looked_61 : decode cX7_looked 61 = .ok (.bipush 10, 2) := by decide +kernel
theorem dX7_looked_63 : decode cX7_looked 63 = .ok (.iload 4, 2) := by decide +kernel
theorem dX7_looked_65 : decode cX7_looked 65 = .ok (.imul, 1) := by decide +kernel
theorem dX7_looked_66 : decode cX7_looked 66 = .ok (.iload 5, 2) := by decide +kernel
theorem dX7_looked_68 : decode cX7_looked 68 = .ok (.iadd, 1) := by decide +kernel
theorem dX7_looked_69 : decode cX7_looked 69 = .ok (.goto 4, 3) := by decide +kernel
theorem dX7_looked_72 : decode cX7_looked 72 = .ok (.iload_n 3, 1) := by decide +kernel
theorem dX7_looked_73 : decode cX7_looked 73 = .ok (.istore_n 3, 1) := by decide +kernel
theorem dX7_looked_74 : decode cX7_looked 74 = .ok (.iinc 2 1, 3) := by decide +kernel
theorem dX7_looked_77 : decode cX7_looked 77 = .ok (.iinc 5 1, 3) := by decide +kernel
theorem dX7_looked_80 : decode cX7_looked 80 = .ok (.goto (-46), 3) := by decide +kernel
theorem dX7_looked_83 : decode cX7_looked 83 = .ok (.iinc 4 1, 3) := by decide +kernel
theorem dX7_looked_86 : decode cX7_looked 86 = .ok (.goto (-67), 3) := by decide +kernel
theorem dX7_looked_89 : decode cX7_looked 89 = .ok (.iload_n 1, 1) := by decide +kernel
theorem dX7_looked_90 : decode cX7_looked 90 = .ok (.ifCond .ne 7, 3) := by decide +kernel
theorem dX7_looked_93 : decode cX7_looked 93 = .ok (.iload_n 2, 1) := by decide +kernel
theorem dX7_looked_94 : decode cX7_looked 94 = .ok (.goto 4, 3) := by decide +kernel
theorem dX7_looked_97 : decode cX7_looked 97 = .ok (.iload_n 3, 1) := by decide +kernel
theorem dX7_looked_98 : decode cX7_looked 98 = .ok (.ireturn, 1) := by decide +kernel
theorem dX7_fog_0 : decode cX7_fog 0 = .ok (.iconst 0, 1) := by decide +kernel
theorem dX7_fog_1 : decode cX7_fog 1 = .ok (.istore_n 1, 1) := by decide +kernel
theorem dX7_fog_2 : decode cX7_fog 2 = .ok (.iconst 0, 1) := by decide +kernel
theorem dX7_fog_3 : decode cX7_fog 3 = .ok (.istore_n 2, 1) := by decide +kernel
theorem dX7_fog_4 : decode cX7_fog 4 = .ok (.iload_n 2, 1) := by decide +kernel
theorem dX7_fog_5 : decode cX7_fog 5 = .ok (.bipush 10, 2) := by decide +kernel
theorem dX7_fog_7 : decode cX7_fog 7 = .ok (.if_icmp .ge 23, 3) := by decide +kernel
theorem dX7_fog_10 : decode cX7_fog 10 = .ok (.aload_n 0, 1) := by decide +kernel
theorem dX7_fog_11 : decode cX7_fog 11 = .ok (.iload_n 2, 1) := by decide +kernel
theorem dX7_fog_12 : decode cX7_fog 12 = .ok (.invokevirtual 223, 3) := by decide +kernel
theorem dX7_fog_15 : decode cX7_fog 15 = .ok (.ifCond .eq 9, 3) := by decide +kernel
theorem dX7_fog_18 : decode cX7_fog 18 = .ok (.iload_n 1, 1) := by decide +kernel
theorem dX7_fog_19 : decode cX7_fog 19 = .ok (.iconst 1, 1) := by decide +kernel
theorem dX7_fog_20 : decode cX7_fog 20 = .ok (.iload_n 2, 1) := by decide +kernel
theorem dX7_fog_21 : decode cX7_fog 21 = .ok (.ishl, 1) := by decide +kernel
theorem dX7_fog_22 : decode cX7_fog 22 = .ok (.ior, 1) := by decide +kernel
theorem dX7_fog_23 : decode cX7_fog 23 = .ok (.istore_n 1, 1) := by decide +kernel
theorem dX7_fog_24 : decode cX7_fog 24 = .ok (.iinc 2 1, 3) := by decide +kernel
theorem dX7_fog_27 : decode cX7_fog 27 = .ok (.goto (-23), 3) := by decide +kernel
theorem dX7_fog_30 : decode cX7_fog 30 = .ok (.iload_n 1, 1) := by decide +kernel
theorem dX7_fog_31 : decode cX7_fog 31 = .ok (.ireturn, 1) := by decide +kernel
theorem dX7_parishes_0 : decode cX7_parishes 0 = .ok (.aload_n 0, 1) := by decide +kernel
theorem dX7_parishes_1 : decode cX7_parishes 1 = .ok (.iload_n 1, 1) := by decide +kernel
theorem dX7_parishes_2 : decode cX7_parishes 2 = .ok (.invokevirtual 127, 3) := by decide +kernel
theorem dX7_parishes_5 : decode cX7_parishes 5 = .ok (.ifCond .eq 44, 3) := by decide +kernel
theorem dX7_parishes_8 : decode cX7_parishes 8 = .ok (.aload_n 0, 1) := by decide +kernel
theorem dX7_parishes_9 : decode cX7_parishes 9 = .ok (.iload_n 2, 1) := by decide +kernel
theorem dX7_parishes_10 : decode cX7_parishes 10 = .ok (.invokevirtual 121, 3) := by decide +kernel
theorem dX7_parishes_13 : decode cX7_parishes 13 = .ok (.ifCond .eq 36, 3) := by decide +kernel
theorem dX7_parishes_16 : decode cX7_parishes 16 = .ok (.aload_n 0, 1) := by decide +kernel
theorem dX7_parishes_17 : decode cX7_parishes 17 = .ok (.iload_n 3, 1) := by decide +kernel
theorem dX7_parishes_18 : decode cX7_parishes 18 = .ok (.invokevirtual 127, 3) := by decide +kernel
theorem dX7_parishes_21 : decode cX7_parishes 21 = .ok (.ifCond .eq 28, 3) := by decide +kernel
theorem dX7_parishes_24 : decode cX7_parishes 24 = .ok (.aload_n 0, 1) := by decide +kernel
theorem dX7_parishes_25 : decode cX7_parishes 25 = .ok (.iload 4, 2) := by decide +kernel
theorem dX7_parishes_27 : decode cX7_parishes 27 = .ok (.invokevirtual 121, 3) := by decide +kernel
theorem dX7_parishes_30 : decode cX7_parishes 30 = .ok (.ifCond .eq 19, 3) := by decide +kernel
theorem dX7_parishes_33 : decode cX7_parishes 33 = .ok (.iload_n 2, 1) := by decide +kernel
theorem dX7_parishes_34 : decode cX7_parishes 34 = .ok (.iload 4, 2) := by decide +kernel
theorem dX7_parishes_36 : decode cX7_parishes 36 = .ok (.if_icmp .eq 13, 3) := by decide +kernel
theorem dX7_parishes_39 : decode cX7_parishes 39 = .ok (.iload 5, 2) := by decide +kernel
theorem dX7_parishes_41 : decode cX7_parishes 41 = .ok (.iconst 0, 1) := by decide +kernel
theorem dX7_parishes_42 : decode cX7_parishes 42 = .ok (.iconst 1, 1) := by decide +kernel
theorem dX7_parishes_43 : decode cX7_parishes 43 = .ok (.invokestatic 108, 3) := by decide +kernel
theorem dX7_parishes_46 : decode cX7_parishes 46 = .ok (.ifCond .ne 5, 3) := by decide +kernel
theorem dX7_parishes_49 : decode cX7_parishes 49 = .ok (.iconst (-1), 1) := by decide +kernel
theorem dX7_parishes_50 : decode cX7_parishes 50 = .ok (.ireturn, 1) := by decide +kernel
theorem dX7_parishes_51 : decode cX7_parishes 51 = .ok (.aload_n 0, 1) := by decide +kernel
theorem dX7_parishes_52 : decode cX7_parishes 52 = .ok (.iload_n 1, 1) := by decide +kernel
theorem dX7_parishes_53 : decode cX7_parishes 53 = .ok (.iload_n 2, 1) := by decide +kernel
theorem dX7_parishes_54 : decode cX7_parishes 54 = .ok (.iload_n 3, 1) := by decide +kernel
theorem dX7_parishes_55 : decode cX7_parishes 55 = .ok (.iload 4, 2) := by decide +kernel
theorem dX7_parishes_57 : decode cX7_parishes 57 = .ok (.invokevirtual 226, 3) := by decide +kernel
theorem dX7_parishes_60 : decode cX7_parishes 60 = .ok (.iconst 0, 1) := by decide +kernel
theorem dX7_parishes_61 : decode cX7_parishes 61 = .ok (.istore 6, 2) := by decide +kernel
theorem dX7_parishes_63 : decode cX7_parishes 63 = .ok (.bipush (-4), 2) := by decide +kernel
theorem dX7_parishes_65 : decode cX7_parishes 65 = .ok (.istore 7, 2) := by decide +kernel
theorem dX7_parishes_67 : decode cX7_parishes 67 = .ok (.iconst 0, 1) := by decide +kernel
theorem dX7_parishes_68 : decode cX7_parishes 68 = .ok (.istore 8, 2) := by decide +kernel
theorem dX7_parishes_70 : decode cX7_parishes 70 = .ok (.iload 8, 2) := by decide +kernel
theorem dX7_parishes_72 : decode cX7_parishes 72 = .ok (.aload_n 0, 1) := by decide +kernel
theorem dX7_parishes_73 : decode cX7_parishes 73 = .ok (.getfield 28, 3) := by decide +kernel
theorem dX7_parishes_76 : decode cX7_parishes 76 = .ok (.getfield 206, 3) := by decide +kernel
theorem dX7_parishes_79 : decode cX7_parishes 79 = .ok (.if_icmp .ge 64, 3) := by decide +kernel
theorem dX7_parishes_82 : decode cX7_parishes 82 = .ok (.iconst 0, 1) := by decide +kernel
theorem dX7_parishes_83 : decode cX7_parishes 83 = .ok (.istore 9, 2) := by decide +kernel
theorem dX7_parishes_85 : decode cX7_parishes 85 = .ok (.iload 9, 2) := by decide +kernel
theorem dX7_parishes_87 : decode cX7_parishes 87 = .ok (.aload_n 0, 1) := by decide +kernel
theorem dX7_parishes_88 : decode cX7_parishes 88 = .ok (.getfield 28, 3) := by decide +kernel
theorem dX7_parishes_91 : decode cX7_parishes 91 = .ok (.getfield 206, 3) := by decide +kernel
theorem dX7_parishes_94 : decode cX7_parishes 94 = .ok (.if_icmp .ge 43, 3) := by decide +kernel
theorem dX7_parishes_97 : decode cX7_parishes 97 = .ok (.aload_n 0, 1) := by decide +kernel
theorem dX7_parishes_98 : decode cX7_parishes 98 = .ok (.iload 8, 2) := by decide +kernel
theorem dX7_parishes_100 : decode cX7_parishes 100 = .ok (.iload 9, 2) := by decide +kernel
theorem dX7_parishes_102 : decode cX7_parishes 102 = .ok (.invokevirtual 230, 3) := by decide +kernel
theorem dX7_parishes_105 : decode cX7_parishes 105 = .ok (.ifCond .eq 26, 3) := by decide +kernel
theorem dX7_parishes_108 : decode cX7_parishes 108 = .ok (.iload 6, 2) := by decide +kernel
theorem dX7_parishes_110 : decode cX7_parishes 110 = .ok (.ifCond .ne 14, 3) := by decide +kernel
theorem dX7_parishes_113 : decode cX7_parishes 113 = .ok (.bipush 10, 2) := by decide +kernel
theorem dX7_parishes_115 : decode cX7_parishes 115 = .ok (.iload 8, 2) := by decide +kernel
theorem dX7_parishes_117 : decode cX7_parishes 117 = .ok (.imul, 1) := by decide +kernel
theorem dX7_parishes_118 : decode cX7_parishes 118 = .ok (.iload 9, 2) := by decide +kernel
theorem dX7_parishes_120 : decode cX7_parishes 120 = .ok (.iadd, 1) := by decide +kernel
theorem dX7_parishes_121 : decode cX7_parishes 121 = .ok (.goto 5, 3) := by decide +kernel
theorem dX7_parishes_124 : decode cX7_parishes 124 = .ok (.iload 7, 2) := by decide +kernel
theorem dX7_parishes_126 : decode cX7_parishes 126 = .ok (.istore 7, 2) := by decide +kernel
theorem dX7_parishes_128 : decode cX7_parishes 128 = .ok (.iinc 6 1, 3) := by decide +kernel
theorem dX7_parishes_131 : decode cX7_parishes 131 = .ok (.iinc 9 1, 3) := by decide +kernel
theorem dX7_parishes_134 : decode cX7_parishes 134 = .ok (.goto (-49), 3) := by decide +kernel
theorem dX7_parishes_137 : decode cX7_parishes 137 = .ok (.iinc 8 1, 3) := by decide +kernel
theorem dX7_parishes_140 : decode cX7_parishes 140 = .ok (.goto (-70), 3) := by decide +kernel
theorem dX7_parishes_143 : decode cX7_parishes 143 = .ok (.iload 5, 2) := by decide +kernel
theorem dX7_parishes_145 : decode cX7_parishes 145 = .ok (.ifCond .ne 8, 3) := by decide +kernel
theorem dX7_parishes_148 : decode cX7_parishes 148 = .ok (.iload 6, 2) := by decide +kernel
theorem dX7_parishes_150 : decode cX7_parishes 150 = .ok (.goto 5, 3) := by decide +kernel
theorem dX7_parishes_153 : decode cX7_parishes 153 = .ok (.iload 7, 2) := by decide +kernel
theorem dX7_parishes_155 : decode cX7_parishes 155 = .ok (.ireturn, 1) := by decide +kernel
theorem dX7_year_0 : decode cX7_year 0 = .ok (.iload_n 1, 1) := by decide +kernel
theorem dX7_year_1 : decode cX7_year 1 = .ok (.iconst 0, 1) := by decide +kernel
theorem dX7_year_2 : decode cX7_year 2 = .ok (.sipush 9999, 3) := by decide +kernel
theorem dX7_year_5 : decode cX7_year 5 = .ok (.invokestatic 108, 3) := by decide +kernel
theorem dX7_year_8 : decode cX7_year 8 = .ok (.ifCond .eq 22, 3) := by decide +kernel
theorem dX7_year_11 : decode cX7_year 11 = .ok (.iload_n 2, 1) := by decide +kernel
theorem dX7_year_12 : decode cX7_year 12 = .ok (.iconst 1, 1) := by decide +kernel
theorem dX7_year_13 : decode cX7_year 13 = .ok (.bipush 60, 2) := by decide +kernel
theorem dX7_year_15 : decode cX7_year 15 = .ok (.invokestatic 108, 3) := by decide +kernel
theorem dX7_year_18 : decode cX7_year 18 = .ok (.ifCond .eq 12, 3) := by decide +kernel
theorem dX7_year_21 : decode cX7_year 21 = .ok (.iload_n 3, 1) := by decide +kernel
theorem dX7_year_22 : decode cX7_year 22 = .ok (.iconst 0, 1) := by decide +kernel
theorem dX7_year_23 : decode cX7_year 23 = .ok (.iconst 1, 1) := by decide +kernel
theorem dX7_year_24 : decode cX7_year 24 = .ok (.invokestatic 108, 3) := by decide +kernel
theorem dX7_year_27 : decode cX7_year 27 = .ok (.ifCond .ne 5, 3) := by decide +kernel
theorem dX7_year_30 : decode cX7_year 30 = .ok (.iconst (-1), 1) := by decide +kernel
theorem dX7_year_31 : decode cX7_year 31 = .ok (.ireturn, 1) := by decide +kernel
theorem dX7_year_32 : decode cX7_year 32 = .ok (.aload_n 0, 1) := by decide +kernel
theorem dX7_year_33 : decode cX7_year 33 = .ok (.getfield 42, 3) := by decide +kernel
theorem dX7_year_36 : decode cX7_year 36 = .ok (.aload_n 0, 1) := by decide +kernel
theorem dX7_year_37 : decode cX7_year 37 = .ok (.getfield 38, 3) := by decide +kernel
theorem dX7_year_40 : decode cX7_year 40 = .ok (.invokevirtual 193, 3) := by decide +kernel
theorem dX7_year_43 : decode cX7_year 43 = .ok (.iconst 0, 1) := by decide +kernel
theorem dX7_year_44 : decode cX7_year 44 = .ok (.istore 4, 2) := by decide +kernel
theorem dX7_year_46 : decode cX7_year 46 = .ok (.iconst 0, 1) := by decide +kernel
theorem dX7_year_47 : decode cX7_year 47 = .ok (.istore 5, 2) := by decide +kernel
theorem dX7_year_49 : decode cX7_year 49 = .ok (.iload 5, 2) := by decide +kernel
theorem dX7_year_51 : decode cX7_year 51 = .ok (.iload_n 2, 1) := by decide +kernel
theorem dX7_year_52 : decode cX7_year 52 = .ok (.if_icmp .ge 32, 3) := by decide +kernel
theorem dX7_year_55 : decode cX7_year 55 = .ok (.aload_n 0, 1) := by decide +kernel
theorem dX7_year_56 : decode cX7_year 56 = .ok (.iload_n 1, 1) := by decide +kernel
theorem dX7_year_57 : decode cX7_year 57 = .ok (.iload 5, 2) := by decide +kernel
theorem dX7_year_59 : decode cX7_year 59 = .ok (.invokestatic 233, 3) := by decide +kernel
theorem dX7_year_62 : decode cX7_year 62 = .ok (.invokevirtual 236, 3) := by decide +kernel
theorem dX7_year_65 : decode cX7_year 65 = .ok (.aload_n 0, 1) := by decide +kernel
theorem dX7_year_66 : decode cX7_year 66 = .ok (.getfield 42, 3) := by decide +kernel
theorem dX7_year_69 : decode cX7_year 69 = .ok (.invokevirtual 239, 3) := by decide +kernel
theorem dX7_year_72 : decode cX7_year 72 = .ok (.ifCond .eq 6, 3) := by decide +kernel
theorem dX7_year_75 : decode cX7_year 75 = .ok (.iinc 4 1, 3) := by decide +kernel
theorem dX7_year_78 : decode cX7_year 78 = .ok (.iinc 5 1, 3) := by decide +kernel
theorem dX7_year_81 : decode cX7_year 81 = .ok (.goto (-32), 3) := by decide +kernel
theorem dX7_year_84 : decode cX7_year 84 = .ok (.iload_n 3, 1) := by decide +kernel
theorem dX7_year_85 : decode cX7_year 85 = .ok (.ifCond .ne 13, 3) := by decide +kernel
theorem dX7_year_88 : decode cX7_year 88 = .ok (.aload_n 0, 1) := by decide +kernel
theorem dX7_year_89 : decode cX7_year 89 = .ok (.getfield 42, 3) := by decide +kernel
theorem dX7_year_92 : decode cX7_year 92 = .ok (.invokevirtual 181, 3) := by decide +kernel
theorem dX7_year_95 : decode cX7_year 95 = .ok (.goto 5, 3) := by decide +kernel
theorem dX7_year_98 : decode cX7_year 98 = .ok (.iload 4, 2) := by decide +kernel
theorem dX7_year_100 : decode cX7_year 100 = .ok (.ireturn, 1) := by decide +kernel
theorem dX7_keep_0 : decode cX7_keep 0 = .ok (.aload_n 0, 1) := by decide +kernel
theorem dX7_keep_1 : decode cX7_keep 1 = .ok (.getfield 54, 3) := by decide +kernel
theorem dX7_keep_4 : decode cX7_keep 4 = .ok (.aload_n 0, 1) := by decide +kernel
theorem dX7_keep_5 : decode cX7_keep 5 = .ok (.getfield 38, 3) := by decide +kernel
theorem dX7_keep_8 : decode cX7_keep 8 = .ok (.invokevirtual 243, 3) := by decide +kernel
theorem dX7_keep_11 : decode cX7_keep 11 = .ok (.ifCond .eq 13, 3) := by decide +kernel
theorem dX7_keep_14 : decode cX7_keep 14 = .ok (.aload_n 0, 1) := by decide +kernel
theorem dX7_keep_15 : decode cX7_keep 15 = .ok (.getfield 54, 3) := by decide +kernel
theorem dX7_keep_18 : decode cX7_keep 18 = .ok (.getfield 180, 3) := by decide +kernel
theorem dX7_keep_21 : decode cX7_keep 21 = .ok (.goto 5, 3) := by decide +kernel
theorem dX7_keep_24 : decode cX7_keep 24 = .ok (.bipush (-3), 2) := by decide +kernel
theorem dX7_keep_26 : decode cX7_keep 26 = .ok (.ireturn, 1) := by decide +kernel
theorem dX7_back_0 : decode cX7_back 0 = .ok (.aload_n 0, 1) := by decide +kernel
theorem dX7_back_1 : decode cX7_back 1 = .ok (.getfield 54, 3) := by decide +kernel
theorem dX7_back_4 : decode cX7_back 4 = .ok (.aload_n 0, 1) := by decide +kernel
theorem dX7_back_5 : decode cX7_back 5 = .ok (.getfield 38, 3) := by decide +kernel
theorem dX7_back_8 : decode cX7_back 8 = .ok (.invokevirtual 176, 3) := by decide +kernel
theorem dX7_back_11 : decode cX7_back 11 = .ok (.ifCond .ne 6, 3) := by decide +kernel
theorem dX7_back_14 : decode cX7_back 14 = .ok (.bipush (-2), 2) := by decide +kernel
theorem dX7_back_16 : decode cX7_back 16 = .ok (.ireturn, 1) := by decide +kernel
theorem dX7_back_17 : decode cX7_back 17 = .ok (.aload_n 0, 1) := by decide +kernel
theorem dX7_back_18 : decode cX7_back 18 = .ok (.getfield 50, 3) := by decide +kernel
theorem dX7_back_21 : decode cX7_back 21 = .ok (.invokevirtual 116, 3) := by decide +kernel
theorem dX7_back_24 : decode cX7_back 24 = .ok (.aload_n 0, 1) := by decide +kernel
theorem dX7_back_25 : decode cX7_back 25 = .ok (.getfield 54, 3) := by decide +kernel
theorem dX7_back_28 : decode cX7_back 28 = .ok (.getfield 180, 3) := by decide +kernel
theorem dX7_back_31 : decode cX7_back 31 = .ok (.ireturn, 1) := by decide +kernel
theorem dX7_count_0 : decode cX7_count 0 = .ok (.iload_n 1, 1) := by decide +kernel
theorem dX7_count_1 : decode cX7_count 1 = .ok (.tableswitch 155 0 10 #[59, 67, 75, 83, 91, 99, 107, 115, 123, 131, 139], 59) := by decide +kernel
theorem dX7_count_60 : decode cX7_count 60 = .ok (.aload_n 0, 1) := by decide +kernel
theorem dX7_count_61 : decode cX7_count 61 = .ok (.getfield 28, 3) := by decide +kernel
theorem dX7_count_64 : decode cX7_count 64 = .ok (.getfield 118, 3) := by decide +kernel
theorem dX7_count_67 : decode cX7_count 67 = .ok (.ireturn, 1) := by decide +kernel
theorem dX7_count_68 : decode cX7_count 68 = .ok (.aload_n 0, 1) := by decide +kernel
theorem dX7_count_69 : decode cX7_count 69 = .ok (.getfield 28, 3) := by decide +kernel
theorem dX7_count_72 : decode cX7_count 72 = .ok (.getfield 216, 3) := by decide +kernel
theorem dX7_count_75 : decode cX7_count 75 = .ok (.ireturn, 1) := by decide +kernel
theorem dX7_count_76 : decode cX7_count 76 = .ok (.aload_n 0, 1) := by decide +kernel
theorem dX7_count_77 : decode cX7_count 77 = .ok (.getfield 28, 3) := by decide +kernel
theorem dX7_count_80 : decode cX7_count 80 = .ok (.getfield 206, 3) := by decide +kernel
theorem dX7_count_83 : decode cX7_count 83 = .ok (.ireturn, 1) := by decide +kernel
theorem dX7_count_84 : decode cX7_count 84 = .ok (.aload_n 0, 1) := by decide +kernel
theorem dX7_count_85 : decode cX7_count 85 = .ok (.getfield 38, 3) := by decide +kernel
theorem dX7_count_88 : decode cX7_count 88 = .ok (.getfield 163, 3) := by decide +kernel
theorem dX7_count_91 : decode cX7_count 91 = .ok (.ireturn, 1) := by decide +kernel
theorem dX7_count_92 : decode cX7_count 92 = .ok (.aload_n 0, 1) := by decide +kernel
theorem dX7_count_93 : decode cX7_count 93 = .ok (.getfield 38, 3) := by decide +kernel
theorem dX7_count_96 : decode cX7_count 96 = .ok (.invokevirtual 173, 3) := by decide +kernel
theorem dX7_count_99 : decode cX7_count 99 = .ok (.ireturn, 1) := by decide +kernel
theorem dX7_count_100 : decode cX7_count 100 = .ok (.aload_n 0, 1) := by decide +kernel
theorem dX7_count_101 : decode cX7_count 101 = .ok (.getfield 60, 3) := by decide +kernel
theorem dX7_count_104 : decode cX7_count 104 = .ok (.getfield 215, 3) := by decide +kernel
theorem dX7_count_107 : decode cX7_count 107 = .ok (.ireturn, 1) := by decide +kernel
theorem dX7_count_108 : decode cX7_count 108 = .ok (.aload_n 0, 1) := by decide +kernel
theorem dX7_count_109 : decode cX7_count 109 = .ok (.getfield 64, 3) := by decide +kernel
theorem dX7_count_112 : decode cX7_count 112 = .ok (.getfield 215, 3) := by decide +kernel
theorem dX7_count_115 : decode cX7_count 115 = .ok (.ireturn, 1) := by decide +kernel
theorem dX7_count_116 : decode cX7_count 116 = .ok (.aload_n 0, 1) := by decide +kernel
theorem dX7_count_117 : decode cX7_count 117 = .ok (.getfield 50, 3) := by decide +kernel
theorem dX7_count_120 : decode cX7_count 120 = .ok (.getfield 180, 3) := by decide +kernel
theorem dX7_count_123 : decode cX7_count 123 = .ok (.ireturn, 1) := by decide +kernel
theorem dX7_count_124 : decode cX7_count 124 = .ok (.aload_n 0, 1) := by decide +kernel
theorem dX7_count_125 : decode cX7_count 125 = .ok (.getfield 54, 3) := by decide +kernel
theorem dX7_count_128 : decode cX7_count 128 = .ok (.getfield 180, 3) := by decide +kernel
theorem dX7_count_131 : decode cX7_count 131 = .ok (.ireturn, 1) := by decide +kernel
theorem dX7_count_132 : decode cX7_count 132 = .ok (.aload_n 0, 1) := by decide +kernel
theorem dX7_count_133 : decode cX7_count 133 = .ok (.getfield 10, 3) := by decide +kernel
theorem dX7_count_136 : decode cX7_count 136 = .ok (.getfield 112, 3) := by decide +kernel
theorem dX7_count_139 : decode cX7_count 139 = .ok (.ireturn, 1) := by decide +kernel
theorem dX7_count_140 : decode cX7_count 140 = .ok (.aload_n 0, 1) := by decide +kernel
theorem dX7_count_141 : decode cX7_count 141 = .ok (.getfield 38, 3) := by decide +kernel
theorem dX7_count_144 : decode cX7_count 144 = .ok (.getfield 246, 3) := by decide +kernel
theorem dX7_count_147 : decode cX7_count 147 = .ok (.ifCond .eq 7, 3) := by decide +kernel
theorem dX7_count_150 : decode cX7_count 150 = .ok (.iconst 1, 1) := by decide +kernel
theorem dX7_count_151 : decode cX7_count 151 = .ok (.goto 4, 3) := by decide +kernel
theorem dX7_count_154 : decode cX7_count 154 = .ok (.iconst 0, 1) := by decide +kernel
theorem dX7_count_155 : decode cX7_count 155 = .ok (.ireturn, 1) := by decide +kernel
theorem dX7_count_156 : decode cX7_count 156 = .ok (.iconst (-1), 1) := by decide +kernel
theorem dX7_count_157 : decode cX7_count 157 = .ok (.ireturn, 1) := by decide +kernel
theorem dX7_within_0 : decode cX7_within 0 = .ok (.iload_n 0, 1) := by decide +kernel
theorem dX7_within_1 : decode cX7_within 1 = .ok (.iload_n 1, 1) := by decide +kernel
theorem dX7_within_2 : decode cX7_within 2 = .ok (.if_icmp .lt 12, 3) := by decide +kernel
theorem dX7_within_5 : decode cX7_within 5 = .ok (.iload_n 0, 1) := by decide +kernel
theorem dX7_within_6 : decode cX7_within 6 = .ok (.iload_n 2, 1) := by decide +kernel
theorem dX7_within_7 : decode cX7_within 7 = .ok (.if_icmp .gt 7, 3) := by decide +kernel
theorem dX7_within_10 : decode cX7_within 10 = .ok (.iconst 1, 1) := by decide +kernel
theorem dX7_within_11 : decode cX7_within 11 = .ok (.goto 4, 3) := by decide +kernel
theorem dX7_within_14 : decode cX7_within 14 = .ok (.iconst 0, 1) := by decide +kernel
theorem dX7_within_15 : decode cX7_within 15 = .ok (.ireturn, 1) := by decide +kernel
theorem dX7_isYard_0 : decode cX7_isYard 0 = .ok (.iload_n 0, 1) := by decide +kernel
theorem dX7_isYard_1 : decode cX7_isYard 1 = .ok (.iconst 0, 1) := by decide +kernel
theorem dX7_isYard_2 : decode cX7_isYard 2 = .ok (.bipush 60, 2) := by decide +kernel
theorem dX7_isYard_4 : decode cX7_isYard 4 = .ok (.invokestatic 108, 3) := by decide +kernel
theorem dX7_isYard_7 : decode cX7_isYard 7 = .ok (.ireturn, 1) := by decide +kernel
theorem dX7_isPost_0 : decode cX7_isPost 0 = .ok (.iload_n 1, 1) := by decide +kernel
theorem dX7_isPost_1 : decode cX7_isPost 1 = .ok (.iconst 0, 1) := by decide +kernel
theorem dX7_isPost_2 : decode cX7_isPost 2 = .ok (.aload_n 0, 1) := by decide +kernel
theorem dX7_isPost_3 : decode cX7_isPost 3 = .ok (.getfield 28, 3) := by decide +kernel
theorem dX7_isPost_6 : decode cX7_isPost 6 = .ok (.getfield 118, 3) := by decide +kernel
theorem dX7_isPost_9 : decode cX7_isPost 9 = .ok (.iconst 1, 1) := by decide +kernel
theorem dX7_isPost_10 : decode cX7_isPost 10 = .ok (.isub, 1) := by decide +kernel
theorem dX7_isPost_11 : decode cX7_isPost 11 = .ok (.invokestatic 108, 3) := by decide +kernel
theorem dX7_isPost_14 : decode cX7_isPost 14 = .ok (.ireturn, 1) := by decide +kernel
theorem dX7_isWalker_0 : decode cX7_isWalker 0 = .ok (.iload_n 1, 1) := by decide +kernel
theorem dX7_isWalker_1 : decode cX7_isWalker 1 = .ok (.iconst 0, 1) := by decide +kernel
theorem dX7_isWalker_2 : decode cX7_isWalker 2 = .ok (.aload_n 0, 1) := by decide +kernel
theorem dX7_isWalker_3 : decode cX7_isWalker 3 = .ok (.getfield 28, 3) := by decide +kernel
theorem dX7_isWalker_6 : decode cX7_isWalker 6 = .ok (.getfield 216, 3) := by decide +kernel
theorem dX7_isWalker_9 : decode cX7_isWalker 9 = .ok (.iconst 1, 1) := by decide +kernel
theorem dX7_isWalker_10 : decode cX7_isWalker 10 = .ok (.isub, 1) := by decide +kernel
theorem dX7_isWalker_11 : decode cX7_isWalker 11 = .ok (.invokestatic 108, 3) := by decide +kernel
theorem dX7_isWalker_14 : decode cX7_isWalker 14 = .ok (.ireturn, 1) := by decide +kernel
theorem dX7_isThing_0 : decode cX7_isThing 0 = .ok (.iload_n 1, 1) := by decide +kernel
theorem dX7_isThing_1 : decode cX7_isThing 1 = .ok (.iconst 0, 1) := by decide +kernel
theorem dX7_isThing_2 : decode cX7_isThing 2 = .ok (.aload_n 0, 1) := by decide +kernel
theorem dX7_isThing_3 : decode cX7_isThing 3 = .ok (.getfield 28, 3) := by decide +kernel
theorem dX7_isThing_6 : decode cX7_isThing 6 = .ok (.getfield 206, 3) := by decide +kernel
theorem dX7_isThing_9 : decode cX7_isThing 9 = .ok (.iconst 1, 1) := by decide +kernel
theorem dX7_isThing_10 : decode cX7_isThing 10 = .ok (.isub, 1) := by decide +kernel
theorem dX7_isThing_11 : decode cX7_isThing 11 = .ok (.invokestatic 108, 3) := by decide +kernel
theorem dX7_isThing_14 : decode cX7_isThing 14 = .ok (.ireturn, 1) := by decide +kernel
theorem dX7_longIfShut_0 : decode cX7_longIfShut 0 = .ok (.aload_n 0, 1) := by decide +kernel
theorem dX7_longIfShut_1 : decode cX7_longIfShut 1 = .ok (.getfield 42, 3) := by decide +kernel
theorem dX7_longIfShut_4 : decode cX7_longIfShut 4 = .ok (.aload_n 0, 1) := by decide +kernel
theorem dX7_longIfShut_5 : decode cX7_longIfShut 5 = .ok (.getfield 38, 3) := by decide +kernel
theorem dX7_longIfShut_8 : decode cX7_longIfShut 8 = .ok (.invokevirtual 193, 3) := by decide +kernel
theorem dX7_longIfShut_11 : decode cX7_longIfShut 11 = .ok (.aload_n 0, 1) := by decide +kernel
theorem dX7_longIfShut_12 : decode cX7_longIfShut 12 = .ok (.getfield 42, 3) := by decide +kernel
theorem dX7_longIfShut_15 : decode cX7_longIfShut 15 = .ok (.iload_n 1, 1) := by decide +kernel
theorem dX7_longIfShut_16 : decode cX7_longIfShut 16 = .ok (.invokevirtual 170, 3) := by decide +kernel
theorem dX7_longIfShut_19 : decode cX7_longIfShut 19 = .ok (.aload_n 0, 1) := by decide +kernel
theorem dX7_longIfShut_20 : decode cX7_longIfShut 20 = .ok (.getfield 42, 3) := by decide +kernel
theorem dX7_longIfShut_23 : decode cX7_longIfShut 23 = .ok (.aload_n 0, 1) := by decide +kernel
theorem dX7_longIfShut_24 : decode cX7_longIfShut 24 = .ok (.getfield 28, 3) := by decide +kernel
theorem dX7_longIfShut_27 : decode cX7_longIfShut 27 = .ok (.iload_n 2, 1) := by decide +kernel
theorem dX7_longIfShut_28 : decode cX7_longIfShut 28 = .ok (.invokevirtual 159, 3) := by decide +kernel
theorem dX7_longIfShut_31 : decode cX7_longIfShut 31 = .ok (.aload_n 0, 1) := by decide +kernel
theorem dX7_longIfShut_32 : decode cX7_longIfShut 32 = .ok (.getfield 42, 3) := by decide +kernel
theorem dX7_longIfShut_35 : decode cX7_longIfShut 35 = .ok (.invokevirtual 181, 3) := by decide +kernel
theorem dX7_longIfShut_38 : decode cX7_longIfShut 38 = .ok (.ireturn, 1) := by decide +kernel
theorem dX7_fitsBent_0 : decode cX7_fitsBent 0 = .ok (.aload_n 0, 1) := by decide +kernel
theorem dX7_fitsBent_1 : decode cX7_fitsBent 1 = .ok (.getfield 42, 3) := by decide +kernel
theorem dX7_fitsBent_4 : decode cX7_fitsBent 4 = .ok (.aload_n 0, 1) := by decide +kernel
theorem dX7_fitsBent_5 : decode cX7_fitsBent 5 = .ok (.getfield 38, 3) := by decide +kernel
theorem dX7_fitsBent_8 : decode cX7_fitsBent 8 = .ok (.invokevirtual 193, 3) := by decide +kernel
theorem dX7_fitsBent_11 : decode cX7_fitsBent 11 = .ok (.aload_n 0, 1) := by decide +kernel
theorem dX7_fitsBent_12 : decode cX7_fitsBent 12 = .ok (.getfield 42, 3) := by decide +kernel
theorem dX7_fitsBent_15 : decode cX7_fitsBent 15 = .ok (.aload_n 0, 1) := by decide +kernel
theorem dX7_fitsBent_16 : decode cX7_fitsBent 16 = .ok (.getfield 28, 3) := by decide +kernel
theorem dX7_fitsBent_19 : decode cX7_fitsBent 19 = .ok (.iload_n 1, 1) := by decide +kernel
theorem dX7_fitsBent_20 : decode cX7_fitsBent 20 = .ok (.iload_n 2, 1) := by decide +kernel
theorem dX7_fitsBent_21 : decode cX7_fitsBent 21 = .ok (.invokevirtual 250, 3) := by decide +kernel
theorem dX7_fitsBent_24 : decode cX7_fitsBent 24 = .ok (.pop, 1) := by decide +kernel
theorem dX7_fitsBent_25 : decode cX7_fitsBent 25 = .ok (.aload_n 0, 1) := by decide +kernel
theorem dX7_fitsBent_26 : decode cX7_fitsBent 26 = .ok (.getfield 60, 3) := by decide +kernel
theorem dX7_fitsBent_29 : decode cX7_fitsBent 29 = .ok (.aload_n 0, 1) := by decide +kernel
theorem dX7_fitsBent_30 : decode cX7_fitsBent 30 = .ok (.getfield 42, 3) := by decide +kernel
theorem dX7_fitsBent_33 : decode cX7_fitsBent 33 = .ok (.iconst 1, 1) := by decide +kernel
theorem dX7_fitsBent_34 : decode cX7_fitsBent 34 = .ok (.invokevirtual 254, 3) := by decide +kernel
theorem dX7_fitsBent_37 : decode cX7_fitsBent 37 = .ok (.ireturn, 1) := by decide +kernel
theorem dX7_fitsFound_0 : decode cX7_fitsFound 0 = .ok (.aload_n 0, 1) := by decide +kernel
theorem dX7_fitsFound_1 : decode cX7_fitsFound 1 = .ok (.getfield 42, 3) := by decide +kernel
theorem dX7_fitsFound_4 : decode cX7_fitsFound 4 = .ok (.aload_n 0, 1) := by decide +kernel
theorem dX7_fitsFound_5 : decode cX7_fitsFound 5 = .ok (.getfield 38, 3) := by decide +kernel
theorem dX7_fitsFound_8 : decode cX7_fitsFound 8 = .ok (.invokevirtual 193, 3) := by decide +kernel
theorem dX7_fitsFound_11 : decode cX7_fitsFound 11 = .ok (.iconst 1, 1) := by decide +kernel
theorem dX7_fitsFound_12 : decode cX7_fitsFound 12 = .ok (.istore_n 2, 1) := by decide +kernel
theorem dX7_fitsFound_13 : decode cX7_fitsFound 13 = .ok (.iload_n 2, 1) := by decide +kernel
theorem dX7_fitsFound_14 : decode cX7_fitsFound 14 = .ok (.bipush 10, 2) := by decide +kernel
theorem dX7_fitsFound_16 : decode cX7_fitsFound 16 = .ok (.if_icmp .gt 49, 3) := by decide +kernel
theorem dX7_fitsFound_19 : decode cX7_fitsFound 19 = .ok (.aload_n 0, 1) := by decide +kernel
theorem dX7_fitsFound_20 : decode cX7_fitsFound 20 = .ok (.getfield 42, 3) := by decide +kernel
theorem dX7_fitsFound_23 : decode cX7_fitsFound 23 = .ok (.aload_n 0, 1) := by decide +kernel
theorem dX7_fitsFound_24 : decode cX7_fitsFound 24 = .ok (.getfield 28, 3) := by decide +kernel
theorem dX7_fitsFound_27 : decode cX7_fitsFound 27 = .ok (.iload_n 2, 1) := by decide +kernel
theorem dX7_fitsFound_28 : decode cX7_fitsFound 28 = .ok (.iconst 1, 1) := by decide +kernel
theorem dX7_fitsFound_29 : decode cX7_fitsFound 29 = .ok (.isub, 1) := by decide +kernel
theorem dX7_fitsFound_30 : decode cX7_fitsFound 30 = .ok (.iload_n 1, 1) := by decide +kernel
theorem dX7_fitsFound_31 : decode cX7_fitsFound 31 = .ok (.if_icmp .ne 7, 3) := by decide +kernel
theorem dX7_fitsFound_34 : decode cX7_fitsFound 34 = .ok (.iconst 1, 1) := by decide +kernel
theorem dX7_fitsFound_35 : decode cX7_fitsFound 35 = .ok (.goto 4, 3) := by decide +kernel
theorem dX7_fitsFound_38 : decode cX7_fitsFound 38 = .ok (.iconst 0, 1) := by decide +kernel
theorem dX7_fitsFound_39 : decode cX7_fitsFound 39 = .ok (.invokevirtual 258, 3) := by decide +kernel
theorem dX7_fitsFound_42 : decode cX7_fitsFound 42 = .ok (.aload_n 0, 1) := by decide +kernel
theorem dX7_fitsFound_43 : decode cX7_fitsFound 43 = .ok (.getfield 64, 3) := by decide +kernel
theorem dX7_fitsFound_46 : decode cX7_fitsFound 46 = .ok (.aload_n 0, 1) := by decide +kernel
theorem dX7_fitsFound_47 : decode cX7_fitsFound 47 = .ok (.getfield 42, 3) := by decide +kernel
theorem dX7_fitsFound_50 : decode cX7_fitsFound 50 = .ok (.iload_n 2, 1) := by decide +kernel
theorem dX7_fitsFound_51 : decode cX7_fitsFound 51 = .ok (.invokevirtual 254, 3) := by decide +kernel
theorem dX7_fitsFound_54 : decode cX7_fitsFound 54 = .ok (.ifCond .ne 5, 3) := by decide +kernel
theorem dX7_fitsFound_57 : decode cX7_fitsFound 57 = .ok (.iconst 0, 1) := by decide +kernel
theorem dX7_fitsFound_58 : decode cX7_fitsFound 58 = .ok (.ireturn, 1) := by decide +kernel
theorem dX7_fitsFound_59 : decode cX7_fitsFound 59 = .ok (.iinc 2 1, 3) := by decide +kernel
theorem dX7_fitsFound_62 : decode cX7_fitsFound 62 = .ok (.goto (-49), 3) := by decide +kernel
theorem dX7_fitsFound_65 : decode cX7_fitsFound 65 = .ok (.iconst 1, 1) := by decide +kernel
theorem dX7_fitsFound_66 : decode cX7_fitsFound 66 = .ok (.ireturn, 1) := by decide +kernel
theorem dX7_reckonHeights_0 : decode cX7_reckonHeights 0 = .ok (.iconst 0, 1) := by decide +kernel
theorem dX7_reckonHeights_1 : decode cX7_reckonHeights 1 = .ok (.istore 5, 2) := by decide +kernel
theorem dX7_reckonHeights_3 : decode cX7_reckonHeights 3 = .ok (.iload 5, 2) := by decide +kernel
theorem dX7_reckonHeights_5 : decode cX7_reckonHeights 5 = .ok (.aload_n 0, 1) := by decide +kernel
theorem dX7_reckonHeights_6 : decode cX7_reckonHeights 6 = .ok (.getfield 28, 3) := by decide +kernel
theorem dX7_reckonHeights_9 : decode cX7_reckonHeights 9 = .ok (.getfield 206, 3) := by decide +kernel
theorem dX7_reckonHeights_12 : decode cX7_reckonHeights 12 = .ok (.if_icmp .ge 116, 3) := by decide +kernel
theorem dX7_reckonHeights_15 : decode cX7_reckonHeights 15 = .ok (.iconst 0, 1) := by decide +kernel
theorem dX7_reckonHeights_16 : decode cX7_reckonHeights 16 = .ok (.istore 6, 2) := by decide +kernel
theorem dX7_reckonHeights_18 : decode cX7_reckonHeights 18 = .ok (.iload 6, 2) := by decide +kernel
theorem dX7_reckonHeights_20 : decode cX7_reckonHeights 20 = .ok (.aload_n 0, 1) := by decide +kernel
theorem dX7_reckonHeights_21 : decode cX7_reckonHeights 21 = .ok (.getfield 28, 3) := by decide +kernel
theorem dX7_reckonHeights_24 : decode cX7_reckonHeights 24 = .ok (.getfield 206, 3) := by decide +kernel
theorem dX7_reckonHeights_27 : decode cX7_reckonHeights 27 = .ok (.if_icmp .ge 95, 3) := by decide +kernel
theorem dX7_reckonHeights_30 : decode cX7_reckonHeights 30 = .ok (.aload_n 0, 1) := by decide +kernel
theorem dX7_reckonHeights_31 : decode cX7_reckonHeights 31 = .ok (.getfield 42, 3) := by decide +kernel
theorem dX7_reckonHeights_34 : decode cX7_reckonHeights 34 = .ok (.aload_n 0, 1) := by decide +kernel
theorem dX7_reckonHeights_35 : decode cX7_reckonHeights 35 = .ok (.getfield 38, 3) := by decide +kernel
theorem dX7_reckonHeights_38 : decode cX7_reckonHeights 38 = .ok (.invokevirtual 193, 3) := by decide +kernel
theorem dX7_reckonHeights_41 : decode cX7_reckonHeights 41 = .ok (.aload_n 0, 1) := by decide +kernel
theorem dX7_reckonHeights_42 : decode cX7_reckonHeights 42 = .ok (.getfield 42, 3) := by decide +kernel
theorem dX7_reckonHeights_45 : decode cX7_reckonHeights 45 = .ok (.aload_n 0, 1) := by decide +kernel
theorem dX7_reckonHeights_46 : decode cX7_reckonHeights 46 = .ok (.getfield 28, 3) := by decide +kernel
theorem dX7_reckonHeights_49 : decode cX7_reckonHeights 49 = .ok (.iload_n 1, 1) := by decide +kernel
theorem dX7_reckonHeights_50 : decode cX7_reckonHeights 50 = .ok (.iload 5, 2) := by decide +kernel
theorem dX7_reckonHeights_52 : decode cX7_reckonHeights 52 = .ok (.invokevirtual 250, 3) := by decide +kernel
theorem dX7_reckonHeights_55 : decode cX7_reckonHeights 55 = .ok (.pop, 1) := by decide +kernel
theorem dX7_reckonHeights_56 : decode cX7_reckonHeights 56 = .ok (.aload_n 0, 1) := by decide +kernel
theorem dX7_reckonHeights_57 : decode cX7_reckonHeights 57 = .ok (.getfield 42, 3) := by decide +kernel
theorem dX7_reckonHeights_60 : decode cX7_reckonHeights 60 = .ok (.aload_n 0, 1) := by decide +kernel
theorem dX7_reckonHeights_61 : decode cX7_reckonHeights 61 = .ok (.getfield 28, 3) := by decide +kernel
theorem dX7_reckonHeights_64 : decode cX7_reckonHeights 64 = .ok (.iload_n 3, 1) := by decide +kernel
theorem dX7_reckonHeights_65 : decode cX7_reckonHeights 65 = .ok (.iload 6, 2) := by decide +kernel
theorem dX7_reckonHeights_67 : decode cX7_reckonHeights 67 = .ok (.invokevirtual 250, 3) := by decide +kernel
theorem dX7_reckonHeights_70 : decode cX7_reckonHeights 70 = .ok (.pop, 1) := by decide +kernel
theorem dX7_reckonHeights_71 : decode cX7_reckonHeights 71 = .ok (.aload_n 0, 1) := by decide +kernel
theorem dX7_reckonHeights_72 : decode cX7_reckonHeights 72 = .ok (.getfield 74, 3) := by decide +kernel
theorem dX7_reckonHeights_75 : decode cX7_reckonHeights 75 = .ok (.iload 5, 2) := by decide +kernel
theorem dX7_reckonHeights_77 : decode cX7_reckonHeights 77 = .ok (.bipush 6, 2) := by decide +kernel
theorem dX7_reckonHeights_79 : decode cX7_reckonHeights 79 = .ok (.imul, 1) := by decide +kernel
theorem dX7_reckonHeights_80 : decode cX7_reckonHeights 80 = .ok (.iload 6, 2) := by decide +kernel
theorem dX7_reckonHeights_82 : decode cX7_reckonHeights 82 = .ok (.iadd, 1) := by decide +kernel
theorem dX7_reckonHeights_83 : decode cX7_reckonHeights 83 = .ok (.aload_n 0, 1) := by decide +kernel
theorem dX7_reckonHeights_84 : decode cX7_reckonHeights 84 = .ok (.getfield 42, 3) := by decide +kernel
theorem dX7_reckonHeights_87 : decode cX7_reckonHeights 87 = .ok (.getfield 124, 3) := by decide +kernel
theorem dX7_reckonHeights_90 : decode cX7_reckonHeights 90 = .ok (.iload_n 2, 1) := by decide +kernel
theorem dX7_reckonHeights_91 : decode cX7_reckonHeights 91 = .ok (.iaload, 1) := by decide +kernel
theorem dX7_reckonHeights_92 : decode cX7_reckonHeights 92 = .ok (.iastore, 1) := by decide +kernel
theorem dX7_reckonHeights_93 : decode cX7_reckonHeights 93 = .ok (.aload_n 0, 1) := by decide +kernel
theorem dX7_reckonHeights_94 : decode cX7_reckonHeights 94 = .ok (.getfield 78, 3) := by decide +kernel
theorem dX7_reckonHeights_97 : decode cX7_reckonHeights 97 = .ok (.iload 5, 2) := by decide +kernel
theorem dX7_reckonHeights_99 : decode cX7_reckonHeights 99 = .ok (.bipush 6, 2) := by decide +kernel
theorem dX7_reckonHeights_101 : decode cX7_reckonHeights 101 = .ok (.imul, 1) := by decide +kernel
theorem dX7_reckonHeights_102 : decode cX7_reckonHeights 102 = .ok (.iload 6, 2) := by decide +kernel
theorem dX7_reckonHeights_104 : decode cX7_reckonHeights 104 = .ok (.iadd, 1) := by decide +kernel
theorem dX7_reckonHeights_105 : decode cX7_reckonHeights 105 = .ok (.aload_n 0, 1) := by decide +kernel
theorem dX7_reckonHeights_106 : decode cX7_reckonHeights 106 = .ok (.getfield 42, 3) := by decide +kernel
theorem dX7_reckonHeights_109 : decode cX7_reckonHeights 109 = .ok (.getfield 124, 3) := by decide +kernel
theorem dX7_reckonHeights_112 : decode cX7_reckonHeights 112 = .ok (.iload 4, 2) := by decide +kernel
theorem dX7_reckonHeights_114 : decode cX7_reckonHeights 114 = .ok (.iaload, 1) := by decide +kernel
theorem dX7_reckonHeights_115 : decode cX7_reckonHeights 115 = .ok (.iastore, 1) := by decide +kernel
theorem dX7_reckonHeights_116 : decode cX7_reckonHeights 116 = .ok (.iinc 6 1, 3) := by decide +kernel
theorem dX7_reckonHeights_119 : decode cX7_reckonHeights 119 = .ok (.goto (-101), 3) := by decide +kernel
theorem dX7_reckonHeights_122 : decode cX7_reckonHeights 122 = .ok (.iinc 5 1, 3) := by decide +kernel
theorem dX7_reckonHeights_125 : decode cX7_reckonHeights 125 = .ok (.goto (-122), 3) := by decide +kernel
theorem dX7_reckonHeights_128 : decode cX7_reckonHeights 128 = .ok (.return_, 1) := by decide +kernel
theorem dX7_contentsBoth_0 : decode cX7_contentsBoth 0 = .ok (.aload_n 0, 1) := by decide +kernel
theorem dX7_contentsBoth_1 : decode cX7_contentsBoth 1 = .ok (.getfield 74, 3) := by decide +kernel
theorem dX7_contentsBoth_4 : decode cX7_contentsBoth 4 = .ok (.iload_n 1, 1) := by decide +kernel
theorem dX7_contentsBoth_5 : decode cX7_contentsBoth 5 = .ok (.bipush 6, 2) := by decide +kernel
theorem dX7_contentsBoth_7 : decode cX7_contentsBoth 7 = .ok (.imul, 1) := by decide +kernel
theorem dX7_contentsBoth_8 : decode cX7_contentsBoth 8 = .ok (.iload_n 2, 1) := by decide +kernel
theorem dX7_contentsBoth_9 : decode cX7_contentsBoth 9 = .ok (.iadd, 1) := by decide +kernel
theorem dX7_contentsBoth_10 : decode cX7_contentsBoth 10 = .ok (.iaload, 1) := by decide +kernel
theorem dX7_contentsBoth_11 : decode cX7_contentsBoth 11 = .ok (.istore_n 3, 1) := by decide +kernel
theorem dX7_contentsBoth_12 : decode cX7_contentsBoth 12 = .ok (.aload_n 0, 1) := by decide +kernel
theorem dX7_contentsBoth_13 : decode cX7_contentsBoth 13 = .ok (.getfield 78, 3) := by decide +kernel
theorem dX7_contentsBoth_16 : decode cX7_contentsBoth 16 = .ok (.iload_n 1, 1) := by decide +kernel
theorem dX7_contentsBoth_17 : decode cX7_contentsBoth 17 = .ok (.bipush 6, 2) := by decide +kernel
theorem dX7_contentsBoth_19 : decode cX7_contentsBoth 19 = .ok (.imul, 1) := by decide +kernel
theorem dX7_contentsBoth_20 : decode cX7_contentsBoth 20 = .ok (.iload_n 2, 1) := by decide +kernel
theorem dX7_contentsBoth_21 : decode cX7_contentsBoth 21 = .ok (.iadd, 1) := by decide +kernel
theorem dX7_contentsBoth_22 : decode cX7_contentsBoth 22 = .ok (.iaload, 1) := by decide +kernel
theorem dX7_contentsBoth_23 : decode cX7_contentsBoth 23 = .ok (.istore 4, 2) := by decide +kernel
theorem dX7_contentsBoth_25 : decode cX7_contentsBoth 25 = .ok (.iconst 0, 1) := by decide +kernel
theorem dX7_contentsBoth_26 : decode cX7_contentsBoth 26 = .ok (.istore 5, 2) := by decide +kernel
theorem dX7_contentsBoth_28 : decode cX7_contentsBoth 28 = .ok (.iload 5, 2) := by decide +kernel
theorem dX7_contentsBoth_30 : decode cX7_contentsBoth 30 = .ok (.aload_n 0, 1) := by decide +kernel
theorem dX7_contentsBoth_31 : decode cX7_contentsBoth 31 = .ok (.getfield 28, 3) := by decide +kernel
theorem dX7_contentsBoth_34 : decode cX7_contentsBoth 34 = .ok (.getfield 206, 3) := by decide +kernel
theorem dX7_contentsBoth_37 : decode cX7_contentsBoth 37 = .ok (.if_icmp .ge 44, 3) := by decide +kernel
theorem dX7_contentsBoth_40 : decode cX7_contentsBoth 40 = .ok (.aload_n 0, 1) := by decide +kernel
theorem dX7_contentsBoth_41 : decode cX7_contentsBoth 41 = .ok (.getfield 74, 3) := by decide +kernel
theorem dX7_contentsBoth_44 : decode cX7_contentsBoth 44 = .ok (.iload 5, 2) := by decide +kernel
theorem dX7_contentsBoth_46 : decode cX7_contentsBoth 46 = .ok (.bipush 6, 2) := by decide +kernel
theorem dX7_contentsBoth_48 : decode cX7_contentsBoth 48 = .ok (.imul, 1) := by decide +kernel
theorem dX7_contentsBoth_49 : decode cX7_contentsBoth 49 = .ok (.iload_n 2, 1) := by decide +kernel
theorem dX7_contentsBoth_50 : decode cX7_contentsBoth 50 = .ok (.iadd, 1) := by decide +kernel
theorem dX7_contentsBoth_51 : decode cX7_contentsBoth 51 = .ok (.iaload, 1) := by decide +kernel
theorem dX7_contentsBoth_52 : decode cX7_contentsBoth 52 = .ok (.iload_n 3, 1) := by decide +kernel
theorem dX7_contentsBoth_53 : decode cX7_contentsBoth 53 = .ok (.if_icmp .gt 20, 3) := by decide +kernel
theorem dX7_contentsBoth_56 : decode cX7_contentsBoth 56 = .ok (.aload_n 0, 1) := by decide +kernel
theorem dX7_contentsBoth_57 : decode cX7_contentsBoth 57 = .ok (.getfield 78, 3) := by decide +kernel
theorem dX7_contentsBoth_60 : decode cX7_contentsBoth 60 = .ok (.iload_n 1, 1) := by decide +kernel
theorem dX7_contentsBoth_61 : decode cX7_contentsBoth 61 = .ok (.bipush 6, 2) := by decide +kernel
theorem dX7_contentsBoth_63 : decode cX7_contentsBoth 63 = .ok (.imul, 1) := by decide +kernel
theorem dX7_contentsBoth_64 : decode cX7_contentsBoth 64 = .ok (.iload 5, 2) := by decide +kernel
theorem dX7_contentsBoth_66 : decode cX7_contentsBoth 66 = .ok (.iadd, 1) := by decide +kernel
theorem dX7_contentsBoth_67 : decode cX7_contentsBoth 67 = .ok (.iaload, 1) := by decide +kernel
theorem dX7_contentsBoth_68 : decode cX7_contentsBoth 68 = .ok (.iload 4, 2) := by decide +kernel
theorem dX7_contentsBoth_70 : decode cX7_contentsBoth 70 = .ok (.if_icmp .le 5, 3) := by decide +kernel
theorem dX7_contentsBoth_73 : decode cX7_contentsBoth 73 = .ok (.iconst 0, 1) := by decide +kernel
theorem dX7_contentsBoth_74 : decode cX7_contentsBoth 74 = .ok (.ireturn, 1) := by decide +kernel
theorem dX7_contentsBoth_75 : decode cX7_contentsBoth 75 = .ok (.iinc 5 1, 3) := by decide +kernel
theorem dX7_contentsBoth_78 : decode cX7_contentsBoth 78 = .ok (.goto (-50), 3) := by decide +kernel
theorem dX7_contentsBoth_81 : decode cX7_contentsBoth 81 = .ok (.iconst 1, 1) := by decide +kernel
theorem dX7_contentsBoth_82 : decode cX7_contentsBoth 82 = .ok (.ireturn, 1) := by decide +kernel
theorem dX7_drawOf_0 : decode cX7_drawOf 0 = .ok (.ldc2_w 262, 3) := by decide +kernel
theorem dX7_drawOf_3 : decode cX7_drawOf 3 = .ok (.iload_n 0, 1) := by decide +kernel
theorem dX7_drawOf_4 : decode cX7_drawOf 4 = .ok (.i2l, 1) := by decide +kernel
theorem dX7_drawOf_5 : decode cX7_drawOf 5 = .ok (.lmul, 1) := by decide +kernel
theorem dX7_drawOf_6 : decode cX7_drawOf 6 = .ok (.ldc2_w 264, 3) := by decide +kernel
theorem dX7_drawOf_9 : decode cX7_drawOf 9 = .ok (.iload_n 1, 1) := by decide +kernel
theorem dX7_drawOf_10 : decode cX7_drawOf 10 = .ok (.i2l, 1) := by decide +kernel
theorem dX7_drawOf_11 : decode cX7_drawOf 11 = .ok (.lmul, 1) := by decide +kernel
theorem dX7_drawOf_12 : decode cX7_drawOf 12 = .ok (.ladd, 1) := by decide +kernel
theorem dX7_drawOf_13 : decode cX7_drawOf 13 = .ok (.lconst 1, 1) := by decide +kernel
theorem dX7_drawOf_14 : decode cX7_drawOf 14 = .ok (.ladd, 1) := by decide +kernel
theorem dX7_drawOf_15 : decode cX7_drawOf 15 = .ok (.lstore_n 2, 1) := by decide +kernel
theorem dX7_drawOf_16 : decode cX7_drawOf 16 = .ok (.lload_n 2, 1) := by decide +kernel
theorem dX7_drawOf_17 : decode cX7_drawOf 17 = .ok (.lload_n 2, 1) := by decide +kernel
theorem dX7_drawOf_18 : decode cX7_drawOf 18 = .ok (.lmul, 1) := by decide +kernel
theorem dX7_drawOf_19 : decode cX7_drawOf 19 = .ok (.ldc2_w 266, 3) := by decide +kernel
theorem dX7_drawOf_22 : decode cX7_drawOf 22 = .ok (.lrem, 1) := by decide +kernel
theorem dX7_drawOf_23 : decode cX7_drawOf 23 = .ok (.ldc2_w 268, 3) := by decide +kernel
theorem dX7_drawOf_26 : decode cX7_drawOf 26 = .ok (.ldiv, 1) := by decide +kernel
theorem dX7_drawOf_27 : decode cX7_drawOf 27 = .ok (.l2i, 1) := by decide +kernel
theorem dX7_drawOf_28 : decode cX7_drawOf 28 = .ok (.ireturn, 1) := by decide +kernel
theorem dX7_walkByDraw_0 : decode cX7_walkByDraw 0 = .ok (.iload_n 1, 1) := by decide +kernel
theorem dX7_walkByDraw_1 : decode cX7_walkByDraw 1 = .ok (.aload_n 0, 1) := by decide +kernel
theorem dX7_walkByDraw_2 : decode cX7_walkByDraw 2 = .ok (.getfield 28, 3) := by decide +kernel
theorem dX7_walkByDraw_5 : decode cX7_walkByDraw 5 = .ok (.getfield 216, 3) := by decide +kernel
theorem dX7_walkByDraw_8 : decode cX7_walkByDraw 8 = .ok (.iconst 1, 1) := by decide +kernel
theorem dX7_walkByDraw_9 : decode cX7_walkByDraw 9 = .ok (.iadd, 1) := by decide +kernel
theorem dX7_walkByDraw_10 : decode cX7_walkByDraw 10 = .ok (.irem, 1) := by decide +kernel
theorem dX7_walkByDraw_11 : decode cX7_walkByDraw 11 = .ok (.istore_n 2, 1) := by decide +kernel
theorem dX7_walkByDraw_12 : decode cX7_walkByDraw 12 = .ok (.iload_n 2, 1) := by decide +kernel
theorem dX7_walkByDraw_13 : decode cX7_walkByDraw 13 = .ok (.aload_n 0, 1) := by decide +kernel
theorem dX7_walkByDraw_14 : decode cX7_walkByDraw 14 = .ok (.getfield 28, 3) := by decide +kernel
theorem dX7_walkByDraw_17 : decode cX7_walkByDraw 17 = .ok (.getfield 216, 3) := by decide +kernel
theorem dX7_walkByDraw_20 : decode cX7_walkByDraw 20 = .ok (.if_icmp .ge 54, 3) := by decide +kernel
theorem dX7_walkByDraw_23 : decode cX7_walkByDraw 23 = .ok (.aload_n 0, 1) := by decide +kernel
theorem dX7_walkByDraw_24 : decode cX7_walkByDraw 24 = .ok (.getfield 28, 3) := by decide +kernel
theorem dX7_walkByDraw_27 : decode cX7_walkByDraw 27 = .ok (.getfield 206, 3) := by decide +kernel
theorem dX7_walkByDraw_30 : decode cX7_walkByDraw 30 = .ok (.ifCond .le 44, 3) := by decide +kernel
theorem dX7_walkByDraw_33 : decode cX7_walkByDraw 33 = .ok (.iload_n 1, 1) := by decide +kernel
theorem dX7_walkByDraw_34 : decode cX7_walkByDraw 34 = .ok (.bipush 8, 2) := by decide +kernel
theorem dX7_walkByDraw_36 : decode cX7_walkByDraw 36 = .ok (.idiv, 1) := by decide +kernel
theorem dX7_walkByDraw_37 : decode cX7_walkByDraw 37 = .ok (.aload_n 0, 1) := by decide +kernel
theorem dX7_walkByDraw_38 : decode cX7_walkByDraw 38 = .ok (.getfield 28, 3) := by decide +kernel
theorem dX7_walkByDraw_41 : decode cX7_walkByDraw 41 = .ok (.getfield 206, 3) := by decide +kernel
theorem dX7_walkByDraw_44 : decode cX7_walkByDraw 44 = .ok (.irem, 1) := by decide +kernel
theorem dX7_walkByDraw_45 : decode cX7_walkByDraw 45 = .ok (.istore_n 3, 1) := by decide +kernel
theorem dX7_walkByDraw_46 : decode cX7_walkByDraw 46 = .ok (.aload_n 0, 1) := by decide +kernel
theorem dX7_walkByDraw_47 : decode cX7_walkByDraw 47 = .ok (.getfield 42, 3) := by decide +kernel
theorem dX7_walkByDraw_50 : decode cX7_walkByDraw 50 = .ok (.aload_n 0, 1) := by decide +kernel
theorem dX7_walkByDraw_51 : decode cX7_walkByDraw 51 = .ok (.getfield 28, 3) := by decide +kernel
theorem dX7_walkByDraw_54 : decode cX7_walkByDraw 54 = .ok (.iload_n 2, 1) := by decide +kernel
theorem dX7_walkByDraw_55 : decode cX7_walkByDraw 55 = .ok (.iload_n 3, 1) := by decide +kernel
theorem dX7_walkByDraw_56 : decode cX7_walkByDraw 56 = .ok (.iload_n 1, 1) := by decide +kernel
theorem dX7_walkByDraw_57 : decode cX7_walkByDraw 57 = .ok (.bipush 64, 2) := by decide +kernel
theorem dX7_walkByDraw_59 : decode cX7_walkByDraw 59 = .ok (.idiv, 1) := by decide +kernel
theorem dX7_walkByDraw_60 : decode cX7_walkByDraw 60 = .ok (.iconst 4, 1) := by decide +kernel
theorem dX7_walkByDraw_61 : decode cX7_walkByDraw 61 = .ok (.irem, 1) := by decide +kernel
theorem dX7_walkByDraw_62 : decode cX7_walkByDraw 62 = .ok (.ifCond .ne 7, 3) := by decide +kernel
theorem dX7_walkByDraw_65 : decode cX7_walkByDraw 65 = .ok (.iconst 1, 1) := by decide +kernel
theorem dX7_walkByDraw_66 : decode cX7_walkByDraw 66 = .ok (.goto 4, 3) := by decide +kernel
theorem dX7_walkByDraw_69 : decode cX7_walkByDraw 69 = .ok (.iconst 0, 1) := by decide +kernel
theorem dX7_walkByDraw_70 : decode cX7_walkByDraw 70 = .ok (.invokevirtual 166, 3) := by decide +kernel
theorem dX7_walkByDraw_73 : decode cX7_walkByDraw 73 = .ok (.pop, 1) := by decide +kernel
theorem dX7_walkByDraw_74 : decode cX7_walkByDraw 74 = .ok (.return_, 1) := by decide +kernel
theorem dX8_init_0 : decode cX8_init 0 = .ok (.aload_n 0, 1) := by decide +kernel
theorem dX8_init_1 : decode cX8_init 1 = .ok (.invokespecial 1, 3) := by decide +kernel
theorem dX8_init_4 : decode cX8_init 4 = .ok (.aload_n 0, 1) := by decide +kernel
theorem dX8_init_5 : decode cX8_init 5 = .ok (.sipush 138, 3) := by decide +kernel
theorem dX8_init_8 : decode cX8_init 8 = .ok (.newarray .int, 2) := by decide +kernel
theorem dX8_init_10 : decode cX8_init 10 = .ok (.putfield 7, 3) := by decide +kernel
theorem dX8_init_13 : decode cX8_init 13 = .ok (.aload_n 0, 1) := by decide +kernel
theorem dX8_init_14 : decode cX8_init 14 = .ok (.sipush 304, 3) := by decide +kernel
theorem dX8_init_17 : decode cX8_init 17 = .ok (.newarray .int, 2) := by decide +kernel
theorem dX8_init_19 : decode cX8_init 19 = .ok (.putfield 13, 3) := by decide +kernel
theorem dX8_init_22 : decode cX8_init 22 = .ok (.aload_n 0, 1) := by decide +kernel
theorem dX8_init_23 : decode cX8_init 23 = .ok (.sipush 200, 3) := by decide +kernel
theorem dX8_init_26 : decode cX8_init 26 = .ok (.newarray .int, 2) := by decide +kernel
theorem dX8_init_28 : decode cX8_init 28 = .ok (.putfield 16, 3) := by decide +kernel
theorem dX8_init_31 : decode cX8_init 31 = .ok (.aload_n 0, 1) := by decide +kernel
theorem dX8_init_32 : decode cX8_init 32 = .ok (.iconst 3, 1) := by decide +kernel
theorem dX8_init_33 : decode cX8_init 33 = .ok (.newarray .int, 2) := by decide +kernel
theorem dX8_init_35 : decode cX8_init 35 = .ok (.putfield 19, 3) := by decide +kernel
theorem dX8_init_38 : decode cX8_init 38 = .ok (.aload_n 0, 1) := by decide +kernel
theorem dX8_init_39 : decode cX8_init 39 = .ok (.iconst 3, 1) := by decide +kernel
theorem dX8_init_40 : decode cX8_init 40 = .ok (.newarray .int, 2) := by decide +kernel
theorem dX8_init_42 : decode cX8_init 42 = .ok (.putfield 22, 3) := by decide +kernel
theorem dX8_init_45 : decode cX8_init 45 = .ok (.aload_n 0, 1) := by decide +kernel
theorem dX8_init_46 : decode cX8_init 46 = .ok (.bipush 6, 2) := by decide +kernel
theorem dX8_init_48 : decode cX8_init 48 = .ok (.newarray .int, 2) := by decide +kernel
theorem dX8_init_50 : decode cX8_init 50 = .ok (.putfield 25, 3) := by decide +kernel
theorem dX8_init_53 : decode cX8_init 53 = .ok (.aload_n 0, 1) := by decide +kernel
theorem dX8_init_54 : decode cX8_init 54 = .ok (.bipush 6, 2) := by decide +kernel
theorem dX8_init_56 : decode cX8_init 56 = .ok (.newarray .int, 2) := by decide +kernel
theorem dX8_init_58 : decode cX8_init 58 = .ok (.putfield 28, 3) := by decide +kernel
theorem dX8_init_61 : decode cX8_init 61 = .ok (.aload_n 0, 1) := by decide +kernel
theorem dX8_init_62 : decode cX8_init 62 = .ok (.bipush 6, 2) := by decide +kernel
theorem dX8_init_64 : decode cX8_init 64 = .ok (.newarray .int, 2) := by decide +kernel
theorem dX8_init_66 : decode cX8_init 66 = .ok (.putfield 31, 3) := by decide +kernel
theorem dX8_init_69 : decode cX8_init 69 = .ok (.aload_n 0, 1) := by decide +kernel
theorem dX8_init_70 : decode cX8_init 70 = .ok (.bipush 6, 2) := by decide +kernel
theorem dX8_init_72 : decode cX8_init 72 = .ok (.newarray .int, 2) := by decide +kernel
theorem dX8_init_74 : decode cX8_init 74 = .ok (.putfield 34, 3) := by decide +kernel
theorem dX8_init_77 : decode cX8_init 77 = .ok (.aload_n 0, 1) := by decide +kernel
theorem dX8_init_78 : decode cX8_init 78 = .ok (.bipush 6, 2) := by decide +kernel
theorem dX8_init_80 : decode cX8_init 80 = .ok (.newarray .int, 2) := by decide +kernel
theorem dX8_init_82 : decode cX8_init 82 = .ok (.putfield 37, 3) := by decide +kernel
theorem dX8_init_85 : decode cX8_init 85 = .ok (.aload_n 0, 1) := by decide +kernel
theorem dX8_init_86 : decode cX8_init 86 = .ok (.bipush 36, 2) := by decide +kernel
theorem dX8_init_88 : decode cX8_init 88 = .ok (.newarray .int, 2) := by decide +kernel
theorem dX8_init_90 : decode cX8_init 90 = .ok (.putfield 40, 3) := by decide +kernel
theorem dX8_init_93 : decode cX8_init 93 = .ok (.aload_n 0, 1) := by decide +kernel
theorem dX8_init_94 : decode cX8_init 94 = .ok (.bipush 36, 2) := by decide +kernel
theorem dX8_init_96 : decode cX8_init 96 = .ok (.newarray .int, 2) := by decide +kernel
theorem dX8_init_98 : decode cX8_init 98 = .ok (.putfield 43, 3) := by decide +kernel
theorem dX8_init_101 : decode cX8_init 101 = .ok (.aload_n 0, 1) := by decide +kernel
theorem dX8_init_102 : decode cX8_init 102 = .ok (.invokevirtual 46, 3) := by decide +kernel
theorem dX8_init_105 : decode cX8_init 105 = .ok (.aload_n 0, 1) := by decide +kernel
theorem dX8_init_106 : decode cX8_init 106 = .ok (.iconst 3, 1) := by decide +kernel
theorem dX8_init_107 : decode cX8_init 107 = .ok (.bipush 34, 2) := by decide +kernel
theorem dX8_init_109 : decode cX8_init 109 = .ok (.invokevirtual 49, 3) := by decide +kernel
theorem dX8_init_112 : decode cX8_init 112 = .ok (.pop, 1) := by decide +kernel
theorem dX8_init_113 : decode cX8_init 113 = .ok (.aload_n 0, 1) := by decide +kernel
theorem dX8_init_114 : decode cX8_init 114 = .ok (.iconst 4, 1) := by decide +kernel
theorem dX8_init_115 : decode cX8_init 115 = .ok (.bipush 36, 2) := by decide +kernel
theorem dX8_init_117 : decode cX8_init 117 = .ok (.invokevirtual 49, 3) := by decide +kernel
theorem dX8_init_120 : decode cX8_init 120 = .ok (.pop, 1) := by decide +kernel
theorem dX8_init_121 : decode cX8_init 121 = .ok (.aload_n 0, 1) := by decide +kernel
theorem dX8_init_122 : decode cX8_init 122 = .ok (.iconst 5, 1) := by decide +kernel
theorem dX8_init_123 : decode cX8_init 123 = .ok (.bipush 33, 2) := by decide +kernel
theorem dX8_init_125 : decode cX8_init 125 = .ok (.invokevirtual 49, 3) := by decide +kernel
theorem dX8_init_128 : decode cX8_init 128 = .ok (.pop, 1) := by decide +kernel
theorem dX8_init_129 : decode cX8_init 129 = .ok (.aload_n 0, 1) := by decide +kernel
theorem dX8_init_130 : decode cX8_init 130 = .ok (.iconst 0, 1) := by decide +kernel
theorem dX8_init_131 : decode cX8_init 131 = .ok (.iconst 2, 1) := by decide +kernel
theorem dX8_init_132 : decode cX8_init 132 = .ok (.invokevirtual 53, 3) := by decide +kernel
theorem dX8_init_135 : decode cX8_init 135 = .ok (.pop, 1) := by decide +kernel
theorem dX8_init_136 : decode cX8_init 136 = .ok (.aload_n 0, 1) := by decide +kernel
theorem dX8_init_137 : decode cX8_init 137 = .ok (.iconst 2, 1) := by decide +kernel
theorem dX8_init_138 : decode cX8_init 138 = .ok (.iconst 3, 1) := by decide +kernel
theorem dX8_init_139 : decode cX8_init 139 = .ok (.invokevirtual 53, 3) := by decide +kernel
theorem dX8_init_142 : decode cX8_init 142 = .ok (.pop, 1) := by decide +kernel
theorem dX8_init_143 : decode cX8_init 143 = .ok (.aload_n 0, 1) := by decide +kernel
theorem dX8_init_144 : decode cX8_init 144 = .ok (.iconst 3, 1) := by decide +kernel
theorem dX8_init_145 : decode cX8_init 145 = .ok (.bipush 9, 2) := by decide +kernel
theorem dX8_init_147 : decode cX8_init 147 = .ok (.invokevirtual 53, 3) := by decide +kernel
theorem dX8_init_150 : decode cX8_init 150 = .ok (.pop, 1) := by decide +kernel
theorem dX8_init_151 : decode cX8_init 151 = .ok (.aload_n 0, 1) := by decide +kernel
theorem dX8_init_152 : decode cX8_init 152 = .ok (.iconst 3, 1) := by decide +kernel
theorem dX8_init_153 : decode cX8_init 153 = .ok (.bipush 50, 2) := by decide +kernel
theorem dX8_init_155 : decode cX8_init 155 = .ok (.invokevirtual 56, 3) := by decide +kernel
theorem dX8_init_158 : decode cX8_init 158 = .ok (.pop, 1) := by decide +kernel
theorem dX8_init_159 : decode cX8_init 159 = .ok (.aload_n 0, 1) := by decide +kernel
theorem dX8_init_160 : decode cX8_init 160 = .ok (.bipush 6, 2) := by decide +kernel
theorem dX8_init_162 : decode cX8_init 162 = .ok (.bipush 10, 2) := by decide +kernel
theorem dX8_init_164 : decode cX8_init 164 = .ok (.invokevirtual 56, 3) := by decide +kernel
theorem dX8_init_167 : decode cX8_init 167 = .ok (.pop, 1) := by decide +kernel
theorem dX8_init_168 : decode cX8_init 168 = .ok (.aload_n 0, 1) := by decide +kernel
theorem dX8_init_169 : decode cX8_init 169 = .ok (.iconst 1, 1) := by decide +kernel
theorem dX8_init_170 : decode cX8_init 170 = .ok (.bipush 30, 2) := by decide +kernel
theorem dX8_init_172 : decode cX8_init 172 = .ok (.invokevirtual 56, 3) := by decide +kernel
theorem dX8_init_175 : decode cX8_init 175 = .ok (.pop, 1) := by decide +kernel
theorem dX8_init_176 : decode cX8_init 176 = .ok (.aload_n 0, 1) := by decide +kernel
theorem dX8_init_177 : decode cX8_init 177 = .ok (.iconst 0, 1) := by decide +kernel
theorem dX8_init_178 : decode cX8_init 178 = .ok (.iconst 0, 1) := by decide +kernel
theorem dX8_init_179 : decode cX8_init 179 = .ok (.iconst 0, 1) := by decide +kernel
theorem dX8_init_180 : decode cX8_init 180 = .ok (.invokevirtual 59, 3) := by decide +kernel
theorem dX8_init_183 : decode cX8_init 183 = .ok (.pop, 1) := by decide +kernel
theorem dX8_init_184 : decode cX8_init 184 = .ok (.aload_n 0, 1) := by decide +kernel
theorem dX8_init_185 : decode cX8_init 185 = .ok (.iconst 2, 1) := by decide +kernel
theorem dX8_init_186 : decode cX8_init 186 = .ok (.iconst 1, 1) := by decide +kernel
theorem dX8_init_187 : decode cX8_init 187 = .ok (.iconst 1, 1) := by decide +kernel
theorem dX8_init_188 : decode cX8_init 188 = .ok (.invokevirtual 59, 3) := by decide +kernel
theorem dX8_init_191 : decode cX8_init 191 = .ok (.pop, 1) := by decide +kernel
theorem dX8_init_192 : decode cX8_init 192 = .ok (.aload_n 0, 1) := by decide +kernel
theorem dX8_init_193 : decode cX8_init 193 = .ok (.iconst 3, 1) := by decide +kernel
theorem dX8_init_194 : decode cX8_init 194 = .ok (.iconst 0, 1) := by decide +kernel
theorem dX8_init_195 : decode cX8_init 195 = .ok (.iconst 1, 1) := by decide +kernel
theorem dX8_init_196 : decode cX8_init 196 = .ok (.invokevirtual 59, 3) := by decide +kernel
theorem dX8_init_199 : decode cX8_init 199 = .ok (.pop, 1) := by decide +kernel
theorem dX8_init_200 : decode cX8_init 200 = .ok (.aload_n 0, 1) := by decide +kernel
theorem dX8_init_201 : decode cX8_init 201 = .ok (.iconst 3, 1) := by decide +kernel
theorem dX8_init_202 : decode cX8_init 202 = .ok (.iconst 2, 1) := by decide +kernel
theorem dX8_init_203 : decode cX8_init 203 = .ok (.iconst 2, 1) := by decide +kernel
theorem dX8_init_204 : decode cX8_init 204 = .ok (.invokevirtual 59, 3) := by decide +kernel
theorem dX8_init_207 : decode cX8_init 207 = .ok (.pop, 1) := by decide +kernel
theorem dX8_init_208 : decode cX8_init 208 = .ok (.aload_n 0, 1) := by decide +kernel
theorem dX8_init_209 : decode cX8_init 209 = .ok (.bipush 6, 2) := by decide +kernel
theorem dX8_init_211 : decode cX8_init 211 = .ok (.iconst 0, 1) := by decide +kernel
theorem dX8_init_212 : decode cX8_init 212 = .ok (.iconst 0, 1) := by decide +kernel
theorem dX8_init_213 : decode cX8_init 213 = .ok (.invokevirtual 59, 3) := by decide +kernel
theorem dX8_init_216 : decode cX8_init 216 = .ok (.pop, 1) := by decide +kernel
theorem dX8_init_217 : decode cX8_init 217 = .ok (.aload_n 0, 1) := by decide +kernel
theorem dX8_init_218 : decode cX8_init 218 = .ok (.iconst 4, 1) := by decide +kernel
theorem dX8_init_219 : decode cX8_init 219 = .ok (.bipush 6, 2) := by decide +kernel
theorem dX8_init_221 : decode cX8_init 221 = .ok (.invokevirtual 63, 3) := by decide +kernel
theorem dX8_init_224 : decode cX8_init 224 = .ok (.pop, 1) := by decide +kernel
theorem dX8_init_225 : decode cX8_init 225 = .ok (.aload_n 0, 1) := by decide +kernel
theorem dX8_init_226 : decode cX8_init 226 = .ok (.invokevirtual 66, 3) := by decide +kernel
theorem dX8_init_229 : decode cX8_init 229 = .ok (.return_, 1) := by decide +kernel
theorem dX8_in_0 : decode cX8_in 0 = .ok (.lload_n 0, 1) := by decide +kernel
theorem dX8_in_1 : decode cX8_in 1 = .ok (.lload_n 2, 1) := by decide +kernel
theorem dX8_in_2 : decode cX8_in 2 = .ok (.lcmp, 1) := by decide +kernel
theorem dX8_in_3 : decode cX8_in 3 = .ok (.ifCond .lt 14, 3) := by decide +kernel
theorem dX8_in_6 : decode cX8_in 6 = .ok (.lload_n 0, 1) := by decide +kernel
theorem dX8_in_7 : decode cX8_in 7 = .ok (.lload 4, 2) := by decide +kernel
theorem dX8_in_9 : decode cX8_in 9 = .ok (.lcmp, 1) := by decide +kernel
theorem dX8_in_10 : decode cX8_in 10 = .ok (.ifCond .gt 7, 3) := by decide +kernel
theorem dX8_in_13 : decode cX8_in 13 = .ok (.iconst 1, 1) := by decide +kernel
theorem dX8_in_14 : decode cX8_in 14 = .ok (.goto 4, 3) := by decide +kernel
theorem dX8_in_17 : decode cX8_in 17 = .ok (.iconst 0, 1) := by decide +kernel
theorem dX8_in_18 : decode cX8_in 18 = .ok (.ireturn, 1) := by decide +kernel
theorem dX8_has_0 : decode cX8_has 0 = .ok (.iload_n 0, 1) := by decide +kernel
theorem dX8_has_1 : decode cX8_has 1 = .ok (.iload_n 1, 1) := by decide +kernel
theorem dX8_has_2 : decode cX8_has 2 = .ok (.ishr, 1) := by decide +kernel
theorem dX8_has_3 : decode cX8_has 3 = .ok (.iconst 1, 1) := by decide +kernel
theorem dX8_has_4 : decode cX8_has 4 = .ok (.iand, 1) := by decide +kernel
theorem dX8_has_5 : decode cX8_has 5 = .ok (.iconst 1, 1) := by decide +kernel
theorem dX8_has_6 : decode cX8_has 6 = .ok (.if_icmp .ne 7, 3) := by decide +kernel
theorem dX8_has_9 : decode cX8_has 9 = .ok (.iconst 1, 1) := by decide +kernel
theorem dX8_has_10 : decode cX8_has 10 = .ok (.goto 4, 3) := by decide +kernel
theorem dX8_has_13 : decode cX8_has 13 = .ok (.iconst 0, 1) := by decide +kernel
theorem dX8_has_14 : decode cX8_has 14 = .ok (.ireturn, 1) := by decide +kernel
theorem dX8_ones_0 : decode cX8_ones 0 = .ok (.iconst 0, 1) := by decide +kernel
theorem dX8_ones_1 : decode cX8_ones 1 = .ok (.istore_n 1, 1) := by decide +kernel
theorem dX8_ones_2 : decode cX8_ones 2 = .ok (.iconst 0, 1) := by decide +kernel
theorem dX8_ones_3 : decode cX8_ones 3 = .ok (.istore_n 2, 1) := by decide +kernel
theorem dX8_ones_4 : decode cX8_ones 4 = .ok (.iload_n 2, 1) := by decide +kernel
theorem dX8_ones_5 : decode cX8_ones 5 = .ok (.bipush 6, 2) := by decide +kernel
theorem dX8_ones_7 : decode cX8_ones 7 = .ok (.if_icmp .ge 17, 3) := by decide +kernel
theorem dX8_ones_10 : decode cX8_ones 10 = .ok (.iload_n 1, 1) := by decide +kernel
theorem dX8_ones_11 : decode cX8_ones 11 = .ok (.iload_n 0, 1) := by decide +kernel
theorem dX8_ones_12 : decode cX8_ones 12 = .ok (.iload_n 2, 1) := by decide +kernel
theorem dX8_ones_13 : decode cX8_ones 13 = .ok (.ishr, 1) := by decide +kernel
theorem dX8_ones_14 : decode cX8_ones 14 = .ok (.iconst 1, 1) := by decide +kernel
theorem dX8_ones_15 : decode cX8_ones 15 = .ok (.iand, 1) := by decide +kernel
theorem dX8_ones_16 : decode cX8_ones 16 = .ok (.iadd, 1) := by decide +kernel
theorem dX8_ones_17 : decode cX8_ones 17 = .ok (.istore_n 1, 1) := by decide +kernel
theorem dX8_ones_18 : decode cX8_ones 18 = .ok (.iinc 2 1, 3) := by decide +kernel
theorem dX8_ones_21 : decode cX8_ones 21 = .ok (.goto (-17), 3) := by decide +kernel
theorem dX8_ones_24 : decode cX8_ones 24 = .ok (.iload_n 1, 1) := by decide +kernel
theorem dX8_ones_25 : decode cX8_ones 25 = .ok (.ireturn, 1) := by decide +kernel
theorem dX8_apart_0 : decode cX8_apart 0 = .ok (.iload_n 0, 1) := by decide +kernel
theorem dX8_apart_1 : decode cX8_apart 1 = .ok (.iload_n 1, 1) := by decide +kernel
theorem dX8_apart_2 : decode cX8_apart 2 = .ok (.if_icmp .ge 9, 3) := by decide +kernel
theorem dX8_apart_5 : decode cX8_apart 5 = .ok (.iload_n 1, 1) := by decide +kernel
theorem dX8_apart_6 : decode cX8_apart 6 = .ok (.iload_n 0, 1) := by decide +kernel
theorem dX8_apart_7 : decode cX8_apart 7 = .ok (.isub, 1) := by decide +kernel
theorem dX8_apart_8 : decode cX8_apart 8 = .ok (.goto 6, 3) := by decide +kernel
theorem dX8_apart_11 : decode cX8_apart 11 = .ok (.iload_n 0, 1) := by decide +kernel
theorem dX8_apart_12 : decode cX8_apart 12 = .ok (.iload_n 1, 1) := by decide +kernel
theorem dX8_apart_13 : decode cX8_apart 13 = .ok (.isub, 1) := by decide +kernel
theorem dX8_apart_14 : decode cX8_apart 14 = .ok (.ireturn, 1) := by decide +kernel
theorem dX8_begins_0 : decode cX8_begins 0 = .ok (.iconst 0, 1) := by decide +kernel
theorem dX8_begins_1 : decode cX8_begins 1 = .ok (.istore_n 1, 1) := by decide +kernel
theorem dX8_begins_2 : decode cX8_begins 2 = .ok (.iload_n 1, 1) := by decide +kernel
theorem dX8_begins_3 : decode cX8_begins 3 = .ok (.bipush 69, 2) := by decide +kernel
theorem dX8_begins_5 : decode cX8_begins 5 = .ok (.if_icmp .ge 19, 3) := by decide +kernel
theorem dX8_begins_8 : decode cX8_begins 8 = .ok (.aload_n 0, 1) := by decide +kernel
theorem dX8_begins_9 : decode cX8_begins 9 = .ok (.getfield 7, 3) := by decide +kernel
theorem dX8_begins_12 : decode cX8_begins 12 = .ok (.bipush 69, 2) := by decide +kernel
theorem dX8_begins_14 : decode cX8_begins 14 = .ok (.iload_n 1, 1) := by decide +kernel
theorem dX8_begins_15 : decode cX8_begins 15 = .ok (.iadd, 1) := by decide +kernel
theorem dX8_begins_16 : decode cX8_begins 16 = .ok (.iconst 0, 1) := by decide +kernel
theorem dX8_begins_17 : decode cX8_begins 17 = .ok (.iastore, 1) := by decide +kernel
theorem dX8_begins_18 : decode cX8_begins 18 = .ok (.iinc 1 1, 3) := by decide +kernel
theorem dX8_begins_21 : decode cX8_begins 21 = .ok (.goto (-19), 3) := by decide +kernel
theorem dX8_begins_24 : decode cX8_begins 24 = .ok (.aload_n 0, 1) := by decide +kernel
theorem dX8_begins_25 : decode cX8_begins 25 = .ok (.getfield 7, 3) := by decide +kernel
theorem dX8_begins_28 : decode cX8_begins 28 = .ok (.bipush 69, 2) := by decide +kernel
theorem dX8_begins_30 : decode cX8_begins 30 = .ok (.bipush 9, 2) := by decide +kernel
theorem dX8_begins_32 : decode cX8_begins 32 = .ok (.iastore, 1) := by decide +kernel
theorem dX8_begins_33 : decode cX8_begins 33 = .ok (.iconst 0, 1) := by decide +kernel
theorem dX8_begins_34 : decode cX8_begins 34 = .ok (.istore_n 1, 1) := by decide +kernel
theorem dX8_begins_35 : decode cX8_begins 35 = .ok (.iload_n 1, 1) := by decide +kernel
theorem dX8_begins_36 : decode cX8_begins 36 = .ok (.bipush 16, 2) := by decide +kernel
theorem dX8_begins_38 : decode cX8_begins 38 = .ok (.if_icmp .ge 20, 3) := by decide +kernel
theorem dX8_begins_41 : decode cX8_begins 41 = .ok (.aload_n 0, 1) := by decide +kernel
theorem dX8_begins_42 : decode cX8_begins 42 = .ok (.getfield 7, 3) := by decide +kernel
theorem dX8_begins_45 : decode cX8_begins 45 = .ok (.bipush 74, 2) := by decide +kernel
theorem dX8_begins_47 : decode cX8_begins 47 = .ok (.iload_n 1, 1) := by decide +kernel
theorem dX8_begins_48 : decode cX8_begins 48 = .ok (.iadd, 1) := by decide +kernel
theorem dX8_begins_49 : decode cX8_begins 49 = .ok (.bipush 30, 2) := by decide +kernel
theorem dX8_begins_51 : decode cX8_begins 51 = .ok (.iastore, 1) := by decide +kernel
theorem dX8_begins_52 : decode cX8_begins 52 = .ok (.iinc 1 1, 3) := by decide +kernel
theorem dX8_begins_55 : decode cX8_begins 55 = .ok (.goto (-20), 3) := by decide +kernel
theorem dX8_begins_58 : decode cX8_begins 58 = .ok (.return_, 1) := by decide +kernel
theorem dX8_posts_0 : decode cX8_posts 0 = .ok (.iload_n 1, 1) := by decide +kernel
theorem dX8_posts_1 : decode cX8_posts 1 = .ok (.i2l, 1) := by decide +kernel
theorem dX8_posts_2 : decode cX8_posts 2 = .ok (.lconst 1, 1) := by decide +kernel
theorem dX8_posts_3 : decode cX8_posts 3 = .ok (.aload_n 0, 1) := by decide +kernel
theorem dX8_posts_4 : decode cX8_posts 4 = .ok (.getfield 7, 3) := by decide +kernel
theorem dX8_posts_7 : decode cX8_posts 7 = .ok (.bipush 69, 2) := by decide +kernel
theorem dX8_posts_9 : decode cX8_posts 9 = .ok (.iaload, 1) := by decide +kernel
theorem dX8_posts_10 : decode cX8_posts 10 = .ok (.iconst 2, 1) := by decide +kernel
theorem dX8_posts_11 : decode cX8_posts 11 = .ok (.isub, 1) := by decide +kernel
theorem dX8_posts_12 : decode cX8_posts 12 = .ok (.i2l, 1) := by decide +kernel
theorem dX8_posts_13 : decode cX8_posts 13 = .ok (.invokestatic 69, 3) := by decide +kernel
theorem dX8_posts_16 : decode cX8_posts 16 = .ok (.ifCond .eq 13, 3) := by decide +kernel
theorem dX8_posts_19 : decode cX8_posts 19 = .ok (.iload_n 2, 1) := by decide +kernel
theorem dX8_posts_20 : decode cX8_posts 20 = .ok (.bipush 60, 2) := by decide +kernel
theorem dX8_posts_22 : decode cX8_posts 22 = .ok (.if_icmp .gt 7, 3) := by decide +kernel
theorem dX8_posts_25 : decode cX8_posts 25 = .ok (.iconst 1, 1) := by decide +kernel
theorem dX8_posts_26 : decode cX8_posts 26 = .ok (.goto 4, 3) := by decide +kernel
theorem dX8_posts_29 : decode cX8_posts 29 = .ok (.iconst 0, 1) := by decide +kernel
theorem dX8_posts_30 : decode cX8_posts 30 = .ok (.istore_n 3, 1) := by decide +kernel
theorem dX8_posts_31 : decode cX8_posts 31 = .ok (.aload_n 0, 1) := by decide +kernel
theorem dX8_posts_32 : decode cX8_posts 32 = .ok (.getfield 7, 3) := by decide +kernel
theorem dX8_posts_35 : decode cX8_posts 35 = .ok (.bipush 74, 2) := by decide +kernel
theorem dX8_posts_37 : decode cX8_posts 37 = .ok (.iload_n 3, 1) := by decide +kernel
theorem dX8_posts_38 : decode cX8_posts 38 = .ok (.ifCond .eq 7, 3) := by decide +kernel
theorem dX8_posts_41 : decode cX8_posts 41 = .ok (.iload_n 1, 1) := by decide +kernel
theorem dX8_posts_42 : decode cX8_posts 42 = .ok (.goto 4, 3) := by decide +kernel
theorem dX8_posts_45 : decode cX8_posts 45 = .ok (.iconst 0, 1) := by decide +kernel
theorem dX8_posts_46 : decode cX8_posts 46 = .ok (.iadd, 1) := by decide +kernel
theorem dX8_posts_47 : decode cX8_posts 47 = .ok (.iload_n 3, 1) := by decide +kernel
theorem dX8_posts_48 : decode cX8_posts 48 = .ok (.ifCond .eq 7, 3) := by decide +kernel
theorem dX8_posts_51 : decode cX8_posts 51 = .ok (.iload_n 2, 1) := by decide +kernel
theorem dX8_posts_52 : decode cX8_posts 52 = .ok (.goto 5, 3) := by decide +kernel
theorem dX8_posts_55 : decode cX8_posts 55 = .ok (.bipush 30, 2) := by decide +kernel
theorem dX8_posts_57 : decode cX8_posts 57 = .ok (.iastore, 1) := by decide +kernel
theorem dX8_posts_58 : decode cX8_posts 58 = .ok (.iload_n 3, 1) := by decide +kernel
theorem dX8_posts_59 : decode cX8_posts 59 = .ok (.ireturn, 1) := by decide +kernel
theorem dX8_walkers_0 : decode cX8_walkers 0 = .ok (.aload_n 0, 1) := by decide +kernel
theorem dX8_walkers_1 : decode cX8_walkers 1 = .ok (.getfield 7, 3) := by decide +kernel
theorem dX8_walkers_4 : decode cX8_walkers 4 = .ok (.bipush 70, 2) := by decide +kernel
theorem dX8_walkers_6 : decode cX8_walkers 6 = .ok (.iaload, 1) := by decide +kernel
theorem dX8_walkers_7 : decode cX8_walkers 7 = .ok (.istore_n 3, 1) := by decide +kernel
theorem dX8_walkers_8 : decode cX8_walkers 8 = .ok (.iload_n 3, 1) := by decide +kernel
theorem dX8_walkers_9 : decode cX8_walkers 9 = .ok (.iconst 4, 1) := by decide +kernel
theorem dX8_walkers_10 : decode cX8_walkers 10 = .ok (.if_icmp .eq 14, 3) := by decide +kernel
theorem dX8_walkers_13 : decode cX8_walkers 13 = .ok (.iload_n 1, 1) := by decide +kernel
theorem dX8_walkers_14 : decode cX8_walkers 14 = .ok (.iconst 4, 1) := by decide +kernel
theorem dX8_walkers_15 : decode cX8_walkers 15 = .ok (.if_icmp .gt 9, 3) := by decide +kernel
theorem dX8_walkers_18 : decode cX8_walkers 18 = .ok (.iload_n 2, 1) := by decide +kernel
theorem dX8_walkers_19 : decode cX8_walkers 19 = .ok (.bipush 9, 2) := by decide +kernel
theorem dX8_walkers_21 : decode cX8_walkers 21 = .ok (.if_icmp .le 5, 3) := by decide +kernel
theorem dX8_walkers_24 : decode cX8_walkers 24 = .ok (.iconst 0, 1) := by decide +kernel
theorem dX8_walkers_25 : decode cX8_walkers 25 = .ok (.ireturn, 1) := by decide +kernel
theorem dX8_walkers_26 : decode cX8_walkers 26 = .ok (.aload_n 0, 1) := by decide +kernel
theorem dX8_walkers_27 : decode cX8_walkers 27 = .ok (.getfield 7, 3) := by decide +kernel
theorem dX8_walkers_30 : decode cX8_walkers 30 = .ok (.bipush 90, 2) := by decide +kernel
theorem dX8_walkers_32 : decode cX8_walkers 32 = .ok (.iload_n 3, 1) := by decide +kernel
theorem dX8_walkers_33 : decode cX8_walkers 33 = .ok (.iadd, 1) := by decide +kernel
theorem dX8_walkers_34 : decode cX8_walkers 34 = .ok (.iload_n 1, 1) := by decide +kernel
theorem dX8_walkers_35 : decode cX8_walkers 35 = .ok (.iastore, 1) := by decide +kernel
theorem dX8_walkers_36 : decode cX8_walkers 36 = .ok (.aload_n 0, 1) := by decide +kernel
theorem dX8_walkers_37 : decode cX8_walkers 37 = .ok (.getfield 7, 3) := by decide +kernel
theorem dX8_walkers_40 : decode cX8_walkers 40 = .ok (.bipush 94, 2) := by decide +kernel
theorem dX8_walkers_42 : decode cX8_walkers 42 = .ok (.iload_n 3, 1) := by decide +kernel
theorem dX8_walkers_43 : decode cX8_walkers 43 = .ok (.iadd, 1) := by decide +kernel
theorem dX8_walkers_44 : decode cX8_walkers 44 = .ok (.iload_n 2, 1) := by decide +kernel
theorem dX8_walkers_45 : decode cX8_walkers 45 = .ok (.iastore, 1) := by decide +kernel
theorem dX8_walkers_46 : decode cX8_walkers 46 = .ok (.aload_n 0, 1) := by decide +kernel
theorem dX8_walkers_47 : decode cX8_walkers 47 = .ok (.getfield 7, 3) := by decide +kernel
theorem dX8_walkers_50 : decode cX8_walkers 50 = .ok (.bipush 70, 2) := by decide +kernel
theorem dX8_walkers_52 : decode cX8_walkers 52 = .ok (.dup2, 1) := by decide +kernel
theorem dX8_walkers_53 : decode cX8_walkers 53 = .ok (.iaload, 1) := by decide +kernel
theorem dX8_walkers_54 : decode cX8_walkers 54 = .ok (.iconst 1, 1) := by decide +kernel
theorem dX8_walkers_55 : decode cX8_walkers 55 = .ok (.iadd, 1) := by decide +kernel
theorem dX8_walkers_56 : decode cX8_walkers 56 = .ok (.iastore, 1) := by decide +kernel
theorem dX8_walkers_57 : decode cX8_walkers 57 = .ok (.iconst 1, 1) := by decide +kernel
theorem dX8_walkers_58 : decode cX8_walkers 58 = .ok (.ireturn, 1) := by decide +kernel
theorem dX8_things_0 : decode cX8_things 0 = .ok (.aload_n 0, 1) := by decide +kernel
theorem dX8_things_1 : decode cX8_things 1 = .ok (.getfield 7, 3) := by decide +kernel
theorem dX8_things_4 : decode cX8_things 4 = .ok (.bipush 71, 2) := by decide +kernel
theorem dX8_things_6 : decode cX8_things 6 = .ok (.iaload, 1) := by decide +kernel
theorem dX8_things_7 : decode cX8_things 7 = .ok (.istore_n 3, 1) := by decide +kernel
theorem dX8_things_8 : decode cX8_things 8 = .ok (.iload_n 3, 1) := by decide +kernel
theorem dX8_things_9 : decode cX8_things 9 = .ok (.bipush 6, 2) := by decide +kernel
theorem dX8_things_11 : decode cX8_things 11 = .ok (.if_icmp .eq 20, 3) := by decide +kernel
theorem dX8_things_14 : decode cX8_things 14 = .ok (.iload_n 1, 1) := by decide +kernel
theorem dX8_things_15 : decode cX8_things 15 = .ok (.aload_n 0, 1) := by decide +kernel
theorem dX8_things_16 : decode cX8_things 16 = .ok (.getfield 7, 3) := by decide +kernel
theorem dX8_things_19 : decode cX8_things 19 = .ok (.bipush 69, 2) := by decide +kernel
theorem dX8_things_21 : decode cX8_things 21 = .ok (.iaload, 1) := by decide +kernel
theorem dX8_things_22 : decode cX8_things 22 = .ok (.if_icmp .ge 9, 3) := by decide +kernel
theorem dX8_things_25 : decode cX8_things 25 = .ok (.iload_n 2, 1) := by decide +kernel
theorem dX8_things_26 : decode cX8_things 26 = .ok (.bipush 60, 2) := by decide +kernel
theorem dX8_things_28 : decode cX8_things 28 = .ok (.if_icmp .le 5, 3) := by decide +kernel
theorem dX8_things_31 : decode cX8_things 31 = .ok (.iconst 0, 1) := by decide +kernel
theorem dX8_things_32 : decode cX8_things 32 = .ok (.ireturn, 1) := by decide +kernel
theorem dX8_things_33 : decode cX8_things 33 = .ok (.aload_n 0, 1) := by decide +kernel
theorem dX8_things_34 : decode cX8_things 34 = .ok (.getfield 7, 3) := by decide +kernel
theorem dX8_things_37 : decode cX8_things 37 = .ok (.bipush 98, 2) := by decide +kernel
theorem dX8_things_39 : decode cX8_things 39 = .ok (.iload_n 3, 1) := by decide +kernel
theorem dX8_things_40 : decode cX8_things 40 = .ok (.iadd, 1) := by decide +kernel
theorem dX8_things_41 : decode cX8_things 41 = .ok (.iload_n 1, 1) := by decide +kernel
theorem dX8_things_42 : decode cX8_things 42 = .ok (.iastore, 1) := by decide +kernel
theorem dX8_things_43 : decode cX8_things 43 = .ok (.aload_n 0, 1) := by decide +kernel
theorem dX8_things_44 : decode cX8_things 44 = .ok (.getfield 7, 3) := by decide +kernel
theorem dX8_things_47 : decode cX8_things 47 = .ok (.bipush 104, 2) := by decide +kernel
theorem dX8_things_49 : decode cX8_things 49 = .ok (.iload_n 3, 1) := by decide +kernel
theorem dX8_things_50 : decode cX8_things 50 = .ok (.iadd, 1) := by decide +kernel
theorem dX8_things_51 : decode cX8_things 51 = .ok (.iload_n 2, 1) := by decide +kernel
theorem dX8_things_52 : decode cX8_things 52 = .ok (.iastore, 1) := by decide +kernel
theorem dX8_things_53 : decode cX8_things 53 = .ok (.aload_n 0, 1) := by decide +kernel
theorem dX8_things_54 : decode cX8_things 54 = .ok (.getfield 7, 3) := by decide +kernel
theorem dX8_things_57 : decode cX8_things 57 = .ok (.bipush 71, 2) := by decide +kernel
theorem dX8_things_59 : decode cX8_things 59 = .ok (.dup2, 1) := by decide +kernel
theorem dX8_things_60 : decode cX8_things 60 = .ok (.iaload, 1) := by decide +kernel
theorem dX8_things_61 : decode cX8_things 61 = .ok (.iconst 1, 1) := by decide +kernel
theorem dX8_things_62 : decode cX8_things 62 = .ok (.iadd, 1) := by decide +kernel
theorem dX8_things_63 : decode cX8_things 63 = .ok (.iastore, 1) := by decide +kernel
theorem dX8_things_64 : decode cX8_things 64 = .ok (.iconst 1, 1) := by decide +kernel
theorem dX8_things_65 : decode cX8_things 65 = .ok (.ireturn, 1) := by decide +kernel
theorem dX8_walks_0 : decode cX8_walks 0 = .ok (.aload_n 0, 1) := by decide +kernel
theorem dX8_walks_1 : decode cX8_walks 1 = .ok (.getfield 7, 3) := by decide +kernel
theorem dX8_walks_4 : decode cX8_walks 4 = .ok (.bipush 72, 2) := by decide +kernel
theorem dX8_walks_6 : decode cX8_walks 6 = .ok (.iaload, 1) := by decide +kernel
theorem dX8_walks_7 : decode cX8_walks 7 = .ok (.istore 4, 2) := by decide +kernel
theorem dX8_walks_9 : decode cX8_walks 9 = .ok (.iload 4, 2) := by decide +kernel
theorem dX8_walks_11 : decode cX8_walks 11 = .ok (.bipush 8, 2) := by decide +kernel
theorem dX8_walks_13 : decode cX8_walks 13 = .ok (.if_icmp .eq 31, 3) := by decide +kernel
theorem dX8_walks_16 : decode cX8_walks 16 = .ok (.iload_n 1, 1) := by decide +kernel
theorem dX8_walks_17 : decode cX8_walks 17 = .ok (.bipush 9, 2) := by decide +kernel
theorem dX8_walks_19 : decode cX8_walks 19 = .ok (.if_icmp .gt 25, 3) := by decide +kernel
theorem dX8_walks_22 : decode cX8_walks 22 = .ok (.iload_n 2, 1) := by decide +kernel
theorem dX8_walks_23 : decode cX8_walks 23 = .ok (.aload_n 0, 1) := by decide +kernel
theorem dX8_walks_24 : decode cX8_walks 24 = .ok (.getfield 7, 3) := by decide +kernel
theorem dX8_walks_27 : decode cX8_walks 27 = .ok (.bipush 70, 2) := by decide +kernel
theorem dX8_walks_29 : decode cX8_walks 29 = .ok (.iaload, 1) := by decide +kernel
theorem dX8_walks_30 : decode cX8_walks 30 = .ok (.if_icmp .ge 14, 3) := by decide +kernel
theorem dX8_walks_33 : decode cX8_walks 33 = .ok (.iload_n 3, 1) := by decide +kernel
theorem dX8_walks_34 : decode cX8_walks 34 = .ok (.aload_n 0, 1) := by decide +kernel
theorem dX8_walks_35 : decode cX8_walks 35 = .ok (.getfield 7, 3) := by decide +kernel
theorem dX8_walks_38 : decode cX8_walks 38 = .ok (.bipush 71, 2) := by decide +kernel
theorem dX8_walks_40 : decode cX8_walks 40 = .ok (.iaload, 1) := by decide +kernel
theorem dX8_walks_41 : decode cX8_walks 41 = .ok (.if_icmp .lt 5, 3) := by decide +kernel
theorem dX8_walks_44 : decode cX8_walks 44 = .ok (.iconst 0, 1) := by decide +kernel
theorem dX8_walks_45 : decode cX8_walks 45 = .ok (.ireturn, 1) := by decide +kernel
theorem dX8_walks_46 : decode cX8_walks 46 = .ok (.aload_n 0, 1) := by decide +kernel
theorem dX8_walks_47 : decode cX8_walks 47 = .ok (.getfield 7, 3) := by decide +kernel
theorem dX8_walks_50 : decode cX8_walks 50 = .ok (.bipush 110, 2) := by decide +kernel
theorem dX8_walks_52 : decode cX8_walks 52 = .ok (.iload 4, 2) := by decide +kernel
theorem dX8_walks_54 : decode cX8_walks 54 = .ok (.iadd, 1) := by decide +kernel
theorem dX8_walks_55 : decode cX8_walks 55 = .ok (.iload_n 1, 1) := by decide +kernel
theorem dX8_walks_56 : decode cX8_walks 56 = .ok (.iastore, 1) := by decide +kernel
theorem dX8_walks_57 : decode cX8_walks 57 = .ok (.aload_n 0, 1) := by decide +kernel
theorem dX8_walks_58 : decode cX8_walks 58 = .ok (.getfield 7, 3) := by decide +kernel
theorem dX8_walks_61 : decode cX8_walks 61 = .ok (.bipush 118, 2) := by decide +kernel
theorem dX8_walks_63 : decode cX8_walks 63 = .ok (.iload 4, 2) := by decide +kernel
theorem dX8_walks_65 : decode cX8_walks 65 = .ok (.iadd, 1) := by decide +kernel
theorem dX8_walks_66 : decode cX8_walks 66 = .ok (.iload_n 2, 1) := by decide +kernel
theorem dX8_walks_67 : decode cX8_walks 67 = .ok (.iastore, 1) := by decide +kernel
theorem dX8_walks_68 : decode cX8_walks 68 = .ok (.aload_n 0, 1) := by decide +kernel
theorem dX8_walks_69 : decode cX8_walks 69 = .ok (.getfield 7, 3) := by decide +kernel
theorem dX8_walks_72 : decode cX8_walks 72 = .ok (.bipush 126, 2) := by decide +kernel
theorem dX8_walks_74 : decode cX8_walks 74 = .ok (.iload 4, 2) := by decide +kernel
theorem dX8_walks_76 : decode cX8_walks 76 = .ok (.iadd, 1) := by decide +kernel
theorem dX8_walks_77 : decode cX8_walks 77 = .ok (.iload_n 3, 1) := by decide +kernel
theorem dX8_walks_78 : decode cX8_walks 78 = .ok (.iastore, 1) := by decide +kernel
theorem dX8_walks_79 : decode cX8_walks 79 = .ok (.aload_n 0, 1) := by decide +kernel
theorem dX8_walks_80 : decode cX8_walks 80 = .ok (.getfield 7, 3) := by decide +kernel
theorem dX8_walks_83 : decode cX8_walks 83 = .ok (.bipush 72, 2) := by decide +kernel
theorem dX8_walks_85 : decode cX8_walks 85 = .ok (.dup2, 1) := by decide +kernel
theorem dX8_walks_86 : decode cX8_walks 86 = .ok (.iaload, 1) := by decide +kernel
theorem dX8_walks_87 : decode cX8_walks 87 = .ok (.iconst 1, 1) := by decide +kernel
theorem dX8_walks_88 : decode cX8_walks 88 = .ok (.iadd, 1) := by decide +kernel
theorem dX8_walks_89 : decode cX8_walks 89 = .ok (.iastore, 1) := by decide +kernel
theorem dX8_walks_90 : decode cX8_walks 90 = .ok (.iconst 1, 1) := by decide +kernel
theorem dX8_walks_91 : decode cX8_walks 91 = .ok (.ireturn, 1) := by decide +kernel
theorem dX8_fogs_0 : decode cX8_fogs 0 = .ok (.aload_n 0, 1) := by decide +kernel
theorem dX8_fogs_1 : decode cX8_fogs 1 = .ok (.getfield 7, 3) := by decide +kernel
theorem dX8_fogs_4 : decode cX8_fogs 4 = .ok (.bipush 73, 2) := by decide +kernel
theorem dX8_fogs_6 : decode cX8_fogs 6 = .ok (.iaload, 1) := by decide +kernel
theorem dX8_fogs_7 : decode cX8_fogs 7 = .ok (.istore_n 3, 1) := by decide +kernel
theorem dX8_fogs_8 : decode cX8_fogs 8 = .ok (.iload_n 3, 1) := by decide +kernel
theorem dX8_fogs_9 : decode cX8_fogs 9 = .ok (.iconst 2, 1) := by decide +kernel
theorem dX8_fogs_10 : decode cX8_fogs 10 = .ok (.if_icmp .eq 14, 3) := by decide +kernel
theorem dX8_fogs_13 : decode cX8_fogs 13 = .ok (.iload_n 2, 1) := by decide +kernel
theorem dX8_fogs_14 : decode cX8_fogs 14 = .ok (.bipush 9, 2) := by decide +kernel
theorem dX8_fogs_16 : decode cX8_fogs 16 = .ok (.if_icmp .gt 8, 3) := by decide +kernel
theorem dX8_fogs_19 : decode cX8_fogs 19 = .ok (.iload_n 1, 1) := by decide +kernel
theorem dX8_fogs_20 : decode cX8_fogs 20 = .ok (.iload_n 2, 1) := by decide +kernel
theorem dX8_fogs_21 : decode cX8_fogs 21 = .ok (.if_icmp .le 5, 3) := by decide +kernel
theorem dX8_fogs_24 : decode cX8_fogs 24 = .ok (.iconst 0, 1) := by decide +kernel
theorem dX8_fogs_25 : decode cX8_fogs 25 = .ok (.ireturn, 1) := by decide +kernel
theorem dX8_fogs_26 : decode cX8_fogs 26 = .ok (.aload_n 0, 1) := by decide +kernel
theorem dX8_fogs_27 : decode cX8_fogs 27 = .ok (.getfield 7, 3) := by decide +kernel
theorem dX8_fogs_30 : decode cX8_fogs 30 = .ok (.sipush 134, 3) := by decide +kernel
theorem dX8_fogs_33 : decode cX8_fogs 33 = .ok (.iload_n 3, 1) := by decide +kernel
theorem dX8_fogs_34 : decode cX8_fogs 34 = .ok (.iadd, 1) := by decide +kernel
theorem dX8_fogs_35 : decode cX8_fogs 35 = .ok (.iload_n 1, 1) := by decide +kernel
theorem dX8_fogs_36 : decode cX8_fogs 36 = .ok (.iastore, 1) := by decide +kernel
theorem dX8_fogs_37 : decode cX8_fogs 37 = .ok (.aload_n 0, 1) := by decide +kernel
theorem dX8_fogs_38 : decode cX8_fogs 38 = .ok (.getfield 7, 3) := by decide +kernel
theorem dX8_fogs_41 : decode cX8_fogs 41 = .ok (.sipush 136, 3) := by decide +kernel
theorem dX8_fogs_44 : decode cX8_fogs 44 = .ok (.iload_n 3, 1) := by decide +kernel
theorem dX8_fogs_45 : decode cX8_fogs 45 = .ok (.iadd, 1) := by decide +kernel
theorem dX8_fogs_46 : decode cX8_fogs 46 = .ok (.iload_n 2, 1) := by decide +kernel
theorem dX8_fogs_47 : decode cX8_fogs 47 = .ok (.iastore, 1) := by decide +kernel
theorem dX8_fogs_48 : decode cX8_fogs 48 = .ok (.aload_n 0, 1) := by decide +kernel
theorem dX8_fogs_49 : decode cX8_fogs 49 = .ok (.getfield 7, 3) := by decide +kernel
theorem dX8_fogs_52 : decode cX8_fogs 52 = .ok (.bipush 73, 2) := by decide +kernel
theorem dX8_fogs_54 : decode cX8_fogs 54 = .ok (.dup2, 1) := by decide +kernel
theorem dX8_fogs_55 : decode cX8_fogs 55 = .ok (.iaload, 1) := by decide +kernel
theorem dX8_fogs_56 : decode cX8_fogs 56 = .ok (.iconst 1, 1) := by decide +kernel
theorem dX8_fogs_57 : decode cX8_fogs 57 = .ok (.iadd, 1) := by decide +kernel
theorem dX8_fogs_58 : decode cX8_fogs 58 = .ok (.iastore, 1) := by decide +kernel
theorem dX8_fogs_59 : decode cX8_fogs 59 = .ok (.iconst 1, 1) := by decide +kernel
theorem dX8_fogs_60 : decode cX8_fogs 60 = .ok (.ireturn, 1) := by decide +kernel
theorem dX8_copy_0 : decode cX8_copy 0 = .ok (.iconst 0, 1) := by decide +kernel
theorem dX8_copy_1 : decode cX8_copy 1 = .ok (.istore_n 3, 1) := by decide +kernel
theorem dX8_copy_2 : decode cX8_copy 2 = .ok (.iload_n 3, 1) := by decide +kernel
theorem dX8_copy_3 : decode cX8_copy 3 = .ok (.bipush 19, 2) := by decide +kernel
theorem dX8_copy_5 : decode cX8_copy 5 = .ok (.if_icmp .ge 25, 3) := by decide +kernel
theorem dX8_copy_8 : decode cX8_copy 8 = .ok (.aload_n 0, 1) := by decide +kernel
theorem dX8_copy_9 : decode cX8_copy 9 = .ok (.getfield 13, 3) := by decide +kernel
theorem dX8_copy_12 : decode cX8_copy 12 = .ok (.iload_n 2, 1) := by decide +kernel
theorem dX8_copy_13 : decode cX8_copy 13 = .ok (.iload_n 3, 1) := by decide +kernel
theorem dX8_copy_14 : decode cX8_copy 14 = .ok (.iadd, 1) := by decide +kernel
theorem dX8_copy_15 : decode cX8_copy 15 = .ok (.aload_n 0, 1) := by decide +kernel
theorem dX8_copy_16 : decode cX8_copy 16 = .ok (.getfield 13, 3) := by decide +kernel
theorem dX8_copy_19 : decode cX8_copy 19 = .ok (.iload_n 1, 1) := by decide +kernel
theorem dX8_copy_20 : decode cX8_copy 20 = .ok (.iload_n 3, 1) := by decide +kernel
theorem dX8_copy_21 : decode cX8_copy 21 = .ok (.iadd, 1) := by decide +kernel
theorem dX8_copy_22 : decode cX8_copy 22 = .ok (.iaload, 1) := by decide +kernel
theorem dX8_copy_23 : decode cX8_copy 23 = .ok (.iastore, 1) := by decide +kernel
theorem dX8_copy_24 : decode cX8_copy 24 = .ok (.iinc 3 1, 3) := by decide +kernel
theorem dX8_copy_27 : decode cX8_copy 27 = .ok (.goto (-25), 3) := by decide +kernel
theorem dX8_copy_30 : decode cX8_copy 30 = .ok (.return_, 1) := by decide +kernel
theorem dX8_comes_0 : decode cX8_comes 0 = .ok (.iconst 0, 1) := by decide +kernel
theorem dX8_comes_1 : decode cX8_comes 1 = .ok (.istore_n 1, 1) := by decide +kernel
theorem dX8_comes_2 : decode cX8_comes 2 = .ok (.iload_n 1, 1) := by decide +kernel
theorem dX8_comes_3 : decode cX8_comes 3 = .ok (.bipush 69, 2) := by decide +kernel
theorem dX8_comes_5 : decode cX8_comes 5 = .ok (.if_icmp .ge 24, 3) := by decide +kernel
theorem dX8_comes_8 : decode cX8_comes 8 = .ok (.aload_n 0, 1) := by decide +kernel
theorem dX8_comes_9 : decode cX8_comes 9 = .ok (.getfield 7, 3) := by decide +kernel
theorem dX8_comes_12 : decode cX8_comes 12 = .ok (.iload_n 1, 1) := by decide +kernel
theorem dX8_comes_13 : decode cX8_comes 13 = .ok (.aload_n 0, 1) := by decide +kernel
theorem dX8_comes_14 : decode cX8_comes 14 = .ok (.getfield 7, 3) := by decide +kernel
theorem dX8_comes_17 : decode cX8_comes 17 = .ok (.bipush 69, 2) := by decide +kernel
theorem dX8_comes_19 : decode cX8_comes 19 = .ok (.iload_n 1, 1) := by decide +kernel
theorem dX8_comes_20 : decode cX8_comes 20 = .ok (.iadd, 1) := by decide +kernel
theorem dX8_comes_21 : decode cX8_comes 21 = .ok (.iaload, 1) := by decide +kernel
theorem dX8_comes_22 : decode cX8_comes 22 = .ok (.iastore, 1) := by decide +kernel
theorem dX8_comes_23 : decode cX8_comes 23 = .ok (.iinc 1 1, 3) := by decide +kernel
theorem dX8_comes_26 : decode cX8_comes 26 = .ok (.goto (-24), 3) := by decide +kernel
theorem dX8_comes_29 : decode cX8_comes 29 = .ok (.iconst 0, 1) := by decide +kernel
theorem dX8_comes_30 : decode cX8_comes 30 = .ok (.istore_n 1, 1) := by decide +kernel
theorem dX8_comes_31 : decode cX8_comes 31 = .ok (.iload_n 1, 1) := by decide +kernel
theorem dX8_comes_32 : decode cX8_comes 32 = .ok (.bipush 19, 2) := by decide +kernel
theorem dX8_comes_34 : decode cX8_comes 34 = .ok (.if_icmp .ge 33, 3) := by decide +kernel
theorem dX8_comes_37 : decode cX8_comes 37 = .ok (.aload_n 0, 1) := by decide +kernel
theorem dX8_comes_38 : decode cX8_comes 38 = .ok (.getfield 13, 3) := by decide +kernel
theorem dX8_comes_41 : decode cX8_comes 41 = .ok (.iload_n 1, 1) := by decide +kernel
theorem dX8_comes_42 : decode cX8_comes 42 = .ok (.iload_n 1, 1) := by decide +kernel
theorem dX8_comes_43 : decode cX8_comes 43 = .ok (.bipush 16, 2) := by decide +kernel
theorem dX8_comes_45 : decode cX8_comes 45 = .ok (.if_icmp .ge 14, 3) := by decide +kernel
theorem dX8_comes_48 : decode cX8_comes 48 = .ok (.aload_n 0, 1) := by decide +kernel
theorem dX8_comes_49 : decode cX8_comes 49 = .ok (.getfield 7, 3) := by decide +kernel
theorem dX8_comes_52 : decode cX8_comes 52 = .ok (.iconst 5, 1) := by decide +kernel
theorem dX8_comes_53 : decode cX8_comes 53 = .ok (.iload_n 1, 1) := by decide +kernel
theorem dX8_comes_54 : decode cX8_comes 54 = .ok (.iadd, 1) := by decide +kernel
theorem dX8_comes_55 : decode cX8_comes 55 = .ok (.iaload, 1) := by decide +kernel
theorem dX8_comes_56 : decode cX8_comes 56 = .ok (.goto 4, 3) := by decide +kernel
theorem dX8_comes_59 : decode cX8_comes 59 = .ok (.iconst 0, 1) := by decide +kernel
theorem dX8_comes_60 : decode cX8_comes 60 = .ok (.iastore, 1) := by decide +kernel
theorem dX8_comes_61 : decode cX8_comes 61 = .ok (.iinc 1 1, 3) := by decide +kernel
theorem dX8_comes_64 : decode cX8_comes 64 = .ok (.goto (-33), 3) := by decide +kernel
theorem dX8_comes_67 : decode cX8_comes 67 = .ok (.aload_n 0, 1) := by decide +kernel
theorem dX8_comes_68 : decode cX8_comes 68 = .ok (.iconst 0, 1) := by decide +kernel
theorem dX8_comes_69 : decode cX8_comes 69 = .ok (.putfield 73, 3) := by decide +kernel
theorem dX8_comes_72 : decode cX8_comes 72 = .ok (.aload_n 0, 1) := by decide +kernel
theorem dX8_comes_73 : decode cX8_comes 73 = .ok (.iconst 0, 1) := by decide +kernel
theorem dX8_comes_74 : decode cX8_comes 74 = .ok (.putfield 77, 3) := by decide +kernel
theorem dX8_comes_77 : decode cX8_comes 77 = .ok (.aload_n 0, 1) := by decide +kernel
theorem dX8_comes_78 : decode cX8_comes 78 = .ok (.iconst 0, 1) := by decide +kernel
theorem dX8_comes_79 : decode cX8_comes 79 = .ok (.putfield 80, 3) := by decide +kernel
theorem dX8_comes_82 : decode cX8_comes 82 = .ok (.aload_n 0, 1) := by decide +kernel
theorem dX8_comes_83 : decode cX8_comes 83 = .ok (.iconst 0, 1) := by decide +kernel
theorem dX8_comes_84 : decode cX8_comes 84 = .ok (.putfield 83, 3) := by decide +kernel
theorem dX8_comes_87 : decode cX8_comes 87 = .ok (.return_, 1) := by decide +kernel
theorem dX8_write_0 : decode cX8_write 0 = .ok (.iload_n 1, 1) := by decide +kernel
theorem dX8_write_1 : decode cX8_write 1 = .ok (.i2l, 1) := by decide +kernel
theorem dX8_write_2 : decode cX8_write 2 = .ok (.ldc2_w 86, 3) := by decide +kernel
theorem dX8_write_5 : decode cX8_write 5 = .ok (.ldc2_w 88, 3) := by decide +kernel
theorem dX8_write_8 : decode cX8_write 8 = .ok (.invokestatic 69, 3) := by decide +kernel
theorem dX8_write_11 : decode cX8_write 11 = .ok (.ifCond .ne 5, 3) := by decide +kernel
theorem dX8_write_14 : decode cX8_write 14 = .ok (.iconst (-1), 1) := by decide +kernel
theorem dX8_write_15 : decode cX8_write 15 = .ok (.ireturn, 1) := by decide +kernel
theorem dX8_write_16 : decode cX8_write 16 = .ok (.aload_n 0, 1) := by decide +kernel
theorem dX8_write_17 : decode cX8_write 17 = .ok (.getfield 90, 3) := by decide +kernel
theorem dX8_write_20 : decode cX8_write 20 = .ok (.sipush 200, 3) := by decide +kernel
theorem dX8_write_23 : decode cX8_write 23 = .ok (.if_icmp .ne 6, 3) := by decide +kernel
theorem dX8_write_26 : decode cX8_write 26 = .ok (.bipush (-3), 2) := by decide +kernel
theorem dX8_write_28 : decode cX8_write 28 = .ok (.ireturn, 1) := by decide +kernel
theorem dX8_write_29 : decode cX8_write 29 = .ok (.aload_n 0, 1) := by decide +kernel
theorem dX8_write_30 : decode cX8_write 30 = .ok (.getfield 16, 3) := by decide +kernel
theorem dX8_write_33 : decode cX8_write 33 = .ok (.aload_n 0, 1) := by decide +kernel
theorem dX8_write_34 : decode cX8_write 34 = .ok (.getfield 90, 3) := by decide +kernel
theorem dX8_write_37 : decode cX8_write 37 = .ok (.iload_n 1, 1) := by decide +kernel
theorem dX8_write_38 : decode cX8_write 38 = .ok (.iastore, 1) := by decide +kernel
theorem dX8_write_39 : decode cX8_write 39 = .ok (.aload_n 0, 1) := by decide +kernel
theorem dX8_write_40 : decode cX8_write 40 = .ok (.dup, 1) := by decide +kernel
theorem dX8_write_41 : decode cX8_write 41 = .ok (.getfield 90, 3) := by decide +kernel
theorem dX8_write_44 : decode cX8_write 44 = .ok (.iconst 1, 1) := by decide +kernel
theorem dX8_write_45 : decode cX8_write 45 = .ok (.iadd, 1) := by decide +kernel
theorem dX8_write_46 : decode cX8_write 46 = .ok (.putfield 90, 3) := by decide +kernel
theorem dX8_write_49 : decode cX8_write 49 = .ok (.aload_n 0, 1) := by decide +kernel
theorem dX8_write_50 : decode cX8_write 50 = .ok (.getfield 90, 3) := by decide +kernel
theorem dX8_write_53 : decode cX8_write 53 = .ok (.ireturn, 1) := by decide +kernel
theorem dX8_wipe_0 : decode cX8_wipe 0 = .ok (.aload_n 0, 1) := by decide +kernel
theorem dX8_wipe_1 : decode cX8_wipe 1 = .ok (.getfield 90, 3) := by decide +kernel
theorem dX8_wipe_4 : decode cX8_wipe 4 = .ok (.istore_n 1, 1) := by decide +kernel
theorem dX8_wipe_5 : decode cX8_wipe 5 = .ok (.aload_n 0, 1) := by decide +kernel
theorem dX8_wipe_6 : decode cX8_wipe 6 = .ok (.iconst 0, 1) := by decide +kernel
theorem dX8_wipe_7 : decode cX8_wipe 7 = .ok (.putfield 90, 3) := by decide +kernel
theorem dX8_wipe_10 : decode cX8_wipe 10 = .ok (.iload_n 1, 1) := by decide +kernel
theorem dX8_wipe_11 : decode cX8_wipe 11 = .ok (.ireturn, 1) := by decide +kernel
theorem dX8_letterAt_0 : decode cX8_letterAt 0 = .ok (.iload_n 1, 1) := by decide +kernel
theorem dX8_letterAt_1 : decode cX8_letterAt 1 = .ok (.aload_n 0, 1) := by decide +kernel
theorem dX8_letterAt_2 : decode cX8_letterAt 2 = .ok (.getfield 90, 3) := by decide +kernel
theorem dX8_letterAt_5 : decode cX8_letterAt 5 = .ok (.if_icmp .ge 12, 3) := by decide +kernel
theorem dX8_letterAt_8 : decode cX8_letterAt 8 = .ok (.aload_n 0, 1) := by decide +kernel
theorem dX8_letterAt_9 : decode cX8_letterAt 9 = .ok (.getfield 16, 3) := by decide +kernel
theorem dX8_letterAt_12 : decode cX8_letterAt 12 = .ok (.iload_n 1, 1) := by decide +kernel
theorem dX8_letterAt_13 : decode cX8_letterAt 13 = .ok (.iaload, 1) := by decide +kernel
theorem dX8_letterAt_14 : decode cX8_letterAt 14 = .ok (.goto 4, 3) := by decide +kernel
theorem dX8_letterAt_17 : decode cX8_letterAt 17 = .ok (.iconst (-1), 1) := by decide +kernel
theorem dX8_letterAt_18 : decode cX8_letterAt 18 = .ok (.ireturn, 1) := by decide +kernel
theorem dX8_takesNumbers_0 : decode cX8_takesNumbers 0 = .ok (.iconst 0, 1) := by decide +kernel
theorem dX8_takesNumbers_1 : decode cX8_takesNumbers 1 = .ok (.istore_n 2, 1) := by decide +kernel
theorem dX8_takesNumbers_2 : decode cX8_takesNumbers 2 = .ok (.iload_n 2, 1) := by decide +kernel
theorem dX8_takesNumbers_3 : decode cX8_takesNumbers 3 = .ok (.iload_n 1, 1) := by decide +kernel
theorem dX8_takesNumbers_4 : decode cX8_takesNumbers 4 = .ok (.if_icmp .ge 123, 3) := by decide +kernel
theorem dX8_takesNumbers_7 : decode cX8_takesNumbers 7 = .ok (.iconst 0, 1) := by decide +kernel
theorem dX8_takesNumbers_8 : decode cX8_takesNumbers 8 = .ok (.istore_n 3, 1) := by decide +kernel
theorem dX8_takesNumbers_9 : decode cX8_takesNumbers 9 = .ok (.iconst 0, 1) := by decide +kernel
theorem dX8_takesNumbers_10 : decode cX8_takesNumbers 10 = .ok (.istore 4, 2) := by decide +kernel
theorem dX8_takesNumbers_12 : decode cX8_takesNumbers 12 = .ok (.aload_n 0, 1) := by decide +kernel
theorem dX8_takesNumbers_13 : decode cX8_takesNumbers 13 = .ok (.aload_n 0, 1) := by decide +kernel
theorem dX8_takesNumbers_14 : decode cX8_takesNumbers 14 = .ok (.getfield 93, 3) := by decide +kernel
theorem dX8_takesNumbers_17 : decode cX8_takesNumbers 17 = .ok (.invokevirtual 96, 3) := by decide +kernel
theorem dX8_takesNumbers_20 : decode cX8_takesNumbers 20 = .ok (.i2l, 1) := by decide +kernel
theorem dX8_takesNumbers_21 : decode cX8_takesNumbers 21 = .ok (.ldc2_w 100, 3) := by decide +kernel
theorem dX8_takesNumbers_24 : decode cX8_takesNumbers 24 = .ok (.ldc2_w 102, 3) := by decide +kernel
theorem dX8_takesNumbers_27 : decode cX8_takesNumbers 27 = .ok (.invokestatic 69, 3) := by decide +kernel
theorem dX8_takesNumbers_30 : decode cX8_takesNumbers 30 = .ok (.ifCond .eq 42, 3) := by decide +kernel
theorem dX8_takesNumbers_33 : decode cX8_takesNumbers 33 = .ok (.iload 4, 2) := by decide +kernel
theorem dX8_takesNumbers_35 : decode cX8_takesNumbers 35 = .ok (.iconst 2, 1) := by decide +kernel
theorem dX8_takesNumbers_36 : decode cX8_takesNumbers 36 = .ok (.if_icmp .ge 36, 3) := by decide +kernel
theorem dX8_takesNumbers_39 : decode cX8_takesNumbers 39 = .ok (.bipush 10, 2) := by decide +kernel
theorem dX8_takesNumbers_41 : decode cX8_takesNumbers 41 = .ok (.iload_n 3, 1) := by decide +kernel
theorem dX8_takesNumbers_42 : decode cX8_takesNumbers 42 = .ok (.imul, 1) := by decide +kernel
theorem dX8_takesNumbers_43 : decode cX8_takesNumbers 43 = .ok (.aload_n 0, 1) := by decide +kernel
theorem dX8_takesNumbers_44 : decode cX8_takesNumbers 44 = .ok (.aload_n 0, 1) := by decide +kernel
theorem dX8_takesNumbers_45 : decode cX8_takesNumbers 45 = .ok (.getfield 93, 3) := by decide +kernel
theorem dX8_takesNumbers_48 : decode cX8_takesNumbers 48 = .ok (.invokevirtual 96, 3) := by decide +kernel
theorem dX8_takesNumbers_51 : decode cX8_takesNumbers 51 = .ok (.iadd, 1) := by decide +kernel
theorem dX8_takesNumbers_52 : decode cX8_takesNumbers 52 = .ok (.bipush 48, 2) := by decide +kernel
theorem dX8_takesNumbers_54 : decode cX8_takesNumbers 54 = .ok (.isub, 1) := by decide +kernel
theorem dX8_takesNumbers_55 : decode cX8_takesNumbers 55 = .ok (.istore_n 3, 1) := by decide +kernel
theorem dX8_takesNumbers_56 : decode cX8_takesNumbers 56 = .ok (.aload_n 0, 1) := by decide +kernel
theorem dX8_takesNumbers_57 : decode cX8_takesNumbers 57 = .ok (.dup, 1) := by decide +kernel
theorem dX8_takesNumbers_58 : decode cX8_takesNumbers 58 = .ok (.getfield 93, 3) := by decide +kernel
theorem dX8_takesNumbers_61 : decode cX8_takesNumbers 61 = .ok (.iconst 1, 1) := by decide +kernel
theorem dX8_takesNumbers_62 : decode cX8_takesNumbers 62 = .ok (.iadd, 1) := by decide +kernel
theorem dX8_takesNumbers_63 : decode cX8_takesNumbers 63 = .ok (.putfield 93, 3) := by decide +kernel
theorem dX8_takesNumbers_66 : decode cX8_takesNumbers 66 = .ok (.iinc 4 1, 3) := by decide +kernel
theorem dX8_takesNumbers_69 : decode cX8_takesNumbers 69 = .ok (.goto (-57), 3) := by decide +kernel
theorem dX8_takesNumbers_72 : decode cX8_takesNumbers 72 = .ok (.iload 4, 2) := by decide +kernel
theorem dX8_takesNumbers_74 : decode cX8_takesNumbers 74 = .ok (.ifCond .eq 28, 3) := by decide +kernel
theorem dX8_takesNumbers_77 : decode cX8_takesNumbers 77 = .ok (.aload_n 0, 1) := by decide +kernel
theorem dX8_takesNumbers_78 : decode cX8_takesNumbers 78 = .ok (.aload_n 0, 1) := by decide +kernel
theorem dX8_takesNumbers_79 : decode cX8_takesNumbers 79 = .ok (.getfield 93, 3) := by decide +kernel
theorem dX8_takesNumbers_82 : decode cX8_takesNumbers 82 = .ok (.invokevirtual 96, 3) := by decide +kernel
theorem dX8_takesNumbers_85 : decode cX8_takesNumbers 85 = .ok (.iload_n 2, 1) := by decide +kernel
theorem dX8_takesNumbers_86 : decode cX8_takesNumbers 86 = .ok (.iload_n 1, 1) := by decide +kernel
theorem dX8_takesNumbers_87 : decode cX8_takesNumbers 87 = .ok (.iconst 1, 1) := by decide +kernel
theorem dX8_takesNumbers_88 : decode cX8_takesNumbers 88 = .ok (.isub, 1) := by decide +kernel
theorem dX8_takesNumbers_89 : decode cX8_takesNumbers 89 = .ok (.if_icmp .ge 8, 3) := by decide +kernel
theorem dX8_takesNumbers_92 : decode cX8_takesNumbers 92 = .ok (.bipush 44, 2) := by decide +kernel
theorem dX8_takesNumbers_94 : decode cX8_takesNumbers 94 = .ok (.goto 5, 3) := by decide +kernel
theorem dX8_takesNumbers_97 : decode cX8_takesNumbers 97 = .ok (.bipush 59, 2) := by decide +kernel
theorem dX8_takesNumbers_99 : decode cX8_takesNumbers 99 = .ok (.if_icmp .eq 5, 3) := by decide +kernel
theorem dX8_takesNumbers_102 : decode cX8_takesNumbers 102 = .ok (.iconst 0, 1) := by decide +kernel
theorem dX8_takesNumbers_103 : decode cX8_takesNumbers 103 = .ok (.ireturn, 1) := by decide +kernel
theorem dX8_takesNumbers_104 : decode cX8_takesNumbers 104 = .ok (.aload_n 0, 1) := by decide +kernel
theorem dX8_takesNumbers_105 : decode cX8_takesNumbers 105 = .ok (.dup, 1) := by decide +kernel
theorem dX8_takesNumbers_106 : decode cX8_takesNumbers 106 = .ok (.getfield 93, 3) := by decide +kernel
theorem dX8_takesNumbers_109 : decode cX8_takesNumbers 109 = .ok (.iconst 1, 1) := by decide +kernel
theorem dX8_takesNumbers_110 : decode cX8_takesNumbers 110 = .ok (.iadd, 1) := by decide +kernel
theorem dX8_takesNumbers_111 : decode cX8_takesNumbers 111 = .ok (.putfield 93, 3) := by decide +kernel
theorem dX8_takesNumbers_114 : decode cX8_takesNumbers 114 = .ok (.aload_n 0, 1) := by decide +kernel
theorem dX8_takesNumbers_115 : decode cX8_takesNumbers 115 = .ok (.getfield 19, 3) := by decide +kernel
theorem dX8_takesNumbers_118 : decode cX8_takesNumbers 118 = .ok (.iload_n 2, 1) := by decide +kernel
theorem dX8_takesNumbers_119 : decode cX8_takesNumbers 119 = .ok (.iload_n 3, 1) := by decide +kernel
theorem dX8_takesNumbers_120 : decode cX8_takesNumbers 120 = .ok (.iastore, 1) := by decide +kernel
theorem dX8_takesNumbers_121 : decode cX8_takesNumbers 121 = .ok (.iinc 2 1, 3) := by decide +kernel
theorem dX8_takesNumbers_124 : decode cX8_takesNumbers 124 = .ok (.goto (-122), 3) := by decide +kernel
theorem dX8_takesNumbers_127 : decode cX8_takesNumbers 127 = .ok (.iconst 1, 1) := by decide +kernel
theorem dX8_takesNumbers_128 : decode cX8_takesNumbers 128 = .ok (.ireturn, 1) := by decide +kernel
theorem dX8_takesMany_0 : decode cX8_takesMany 0 = .ok (.aload_n 0, 1) := by decide +kernel
theorem dX8_takesMany_1 : decode cX8_takesMany 1 = .ok (.getfield 104, 3) := by decide +kernel
theorem dX8_takesMany_4 : decode cX8_takesMany 4 = .ok (.ifCond .eq 30, 3) := by decide +kernel
theorem dX8_takesMany_7 : decode cX8_takesMany 7 = .ok (.aload_n 0, 1) := by decide +kernel
theorem dX8_takesMany_8 : decode cX8_takesMany 8 = .ok (.iconst 1, 1) := by decide +kernel
theorem dX8_takesMany_9 : decode cX8_takesMany 9 = .ok (.invokevirtual 108, 3) := by decide +kernel
theorem dX8_takesMany_12 : decode cX8_takesMany 12 = .ok (.ifCond .eq 22, 3) := by decide +kernel
theorem dX8_takesMany_15 : decode cX8_takesMany 15 = .ok (.aload_n 0, 1) := by decide +kernel
theorem dX8_takesMany_16 : decode cX8_takesMany 16 = .ok (.getfield 19, 3) := by decide +kernel
theorem dX8_takesMany_19 : decode cX8_takesMany 19 = .ok (.iconst 0, 1) := by decide +kernel
theorem dX8_takesMany_20 : decode cX8_takesMany 20 = .ok (.iaload, 1) := by decide +kernel
theorem dX8_takesMany_21 : decode cX8_takesMany 21 = .ok (.i2l, 1) := by decide +kernel
theorem dX8_takesMany_22 : decode cX8_takesMany 22 = .ok (.ldc2_w 112, 3) := by decide +kernel
theorem dX8_takesMany_25 : decode cX8_takesMany 25 = .ok (.ldc2_w 114, 3) := by decide +kernel
theorem dX8_takesMany_28 : decode cX8_takesMany 28 = .ok (.invokestatic 69, 3) := by decide +kernel
theorem dX8_takesMany_31 : decode cX8_takesMany 31 = .ok (.ifCond .ne 5, 3) := by decide +kernel
theorem dX8_takesMany_34 : decode cX8_takesMany 34 = .ok (.iconst 0, 1) := by decide +kernel
theorem dX8_takesMany_35 : decode cX8_takesMany 35 = .ok (.ireturn, 1) := by decide +kernel
theorem dX8_takesMany_36 : decode cX8_takesMany 36 = .ok (.aload_n 0, 1) := by decide +kernel
theorem dX8_takesMany_37 : decode cX8_takesMany 37 = .ok (.getfield 7, 3) := by decide +kernel
theorem dX8_takesMany_40 : decode cX8_takesMany 40 = .ok (.bipush 69, 2) := by decide +kernel
theorem dX8_takesMany_42 : decode cX8_takesMany 42 = .ok (.aload_n 0, 1) := by decide +kernel
theorem dX8_takesMany_43 : decode cX8_takesMany 43 = .ok (.getfield 19, 3) := by decide +kernel
theorem dX8_takesMany_46 : decode cX8_takesMany 46 = .ok (.iconst 0, 1) := by decide +kernel
theorem dX8_takesMany_47 : decode cX8_takesMany 47 = .ok (.iaload, 1) := by decide +kernel
theorem dX8_takesMany_48 : decode cX8_takesMany 48 = .ok (.iastore, 1) := by decide +kernel
theorem dX8_takesMany_49 : decode cX8_takesMany 49 = .ok (.iconst 1, 1) := by decide +kernel
theorem dX8_takesMany_50 : decode cX8_takesMany 50 = .ok (.ireturn, 1) := by decide +kernel
theorem dX8_takesItem_0 : decode cX8_takesItem 0 = .ok (.aload_n 0, 1) := by decide +kernel
theorem dX8_takesItem_1 : decode cX8_takesItem 1 = .ok (.aload_n 0, 1) := by decide +kernel
theorem dX8_takesItem_2 : decode cX8_takesItem 2 = .ok (.getfield 93, 3) := by decide +kernel
theorem dX8_takesItem_5 : decode cX8_takesItem 5 = .ok (.invokevirtual 96, 3) := by decide +kernel
theorem dX8_takesItem_8 : decode cX8_takesItem 8 = .ok (.istore_n 1, 1) := by decide +kernel
theorem dX8_takesItem_9 : decode cX8_takesItem 9 = .ok (.aload_n 0, 1) := by decide +kernel
theorem dX8_takesItem_10 : decode cX8_takesItem 10 = .ok (.dup, 1) := by decide +kernel
theorem dX8_takesItem_11 : decode cX8_takesItem 11 = .ok (.getfield 93, 3) := by decide +kernel
theorem dX8_takesItem_14 : decode cX8_takesItem 14 = .ok (.iconst 1, 1) := by decide +kernel
theorem dX8_takesItem_15 : decode cX8_takesItem 15 = .ok (.iadd, 1) := by decide +kernel
theorem dX8_takesItem_16 : decode cX8_takesItem 16 = .ok (.putfield 93, 3) := by decide +kernel
theorem dX8_takesItem_19 : decode cX8_takesItem 19 = .ok (.iload_n 1, 1) := by decide +kernel
theorem dX8_takesItem_20 : decode cX8_takesItem 20 = .ok (.bipush 110, 2) := by decide +kernel
theorem dX8_takesItem_22 : decode cX8_takesItem 22 = .ok (.if_icmp .ne 8, 3) := by decide +kernel
theorem dX8_takesItem_25 : decode cX8_takesItem 25 = .ok (.aload_n 0, 1) := by decide +kernel
theorem dX8_takesItem_26 : decode cX8_takesItem 26 = .ok (.invokevirtual 116, 3) := by decide +kernel
theorem dX8_takesItem_29 : decode cX8_takesItem 29 = .ok (.ireturn, 1) := by decide +kernel
theorem dX8_takesItem_30 : decode cX8_takesItem 30 = .ok (.aload_n 0, 1) := by decide +kernel
theorem dX8_takesItem_31 : decode cX8_takesItem 31 = .ok (.iconst 0, 1) := by decide +kernel
theorem dX8_takesItem_32 : decode cX8_takesItem 32 = .ok (.putfield 104, 3) := by decide +kernel
theorem dX8_takesItem_35 : decode cX8_takesItem 35 = .ok (.iload_n 1, 1) := by decide +kernel
theorem dX8_takesItem_36 : decode cX8_takesItem 36 = .ok (.lookupswitch 223 #[(100, 151), (102, 190), (112, 52), (116, 118), (119, 85)], 52) := by decide +kernel
theorem dX8_takesItem_88 : decode cX8_takesItem 88 = .ok (.aload_n 0, 1) := by decide +kernel
theorem dX8_takesItem_89 : decode cX8_takesItem 89 = .ok (.iconst 2, 1) := by decide +kernel
theorem dX8_takesItem_90 : decode cX8_takesItem 90 = .ok (.invokevirtual 108, 3) := by decide +kernel
theorem dX8_takesItem_93 : decode cX8_takesItem 93 = .ok (.ifCond .eq 26, 3) := by decide +kernel
theorem dX8_takesItem_96 : decode cX8_takesItem 96 = .ok (.aload_n 0, 1) := by decide +kernel
theorem dX8_takesItem_97 : decode cX8_takesItem 97 = .ok (.aload_n 0, 1) := by decide +kernel
theorem dX8_takesItem_98 : decode cX8_takesItem 98 = .ok (.getfield 19, 3) := by decide +kernel
theorem dX8_takesItem_101 : decode cX8_takesItem 101 = .ok (.iconst 0, 1) := by decide +kernel
theorem dX8_takesItem_102 : decode cX8_takesItem 102 = .ok (.iaload, 1) := by decide +kernel
theorem dX8_takesItem_103 : decode cX8_takesItem 103 = .ok (.aload_n 0, 1) := by decide +kernel
theorem dX8_takesItem_104 : decode cX8_takesItem 104 = .ok (.getfield 19, 3) := by decide +kernel
theorem dX8_takesItem_107 : decode cX8_takesItem 107 = .ok (.iconst 1, 1) := by decide +kernel
theorem dX8_takesItem_108 : decode cX8_takesItem 108 = .ok (.iaload, 1) := by decide +kernel
theorem dX8_takesItem_109 : decode cX8_takesItem 109 = .ok (.invokevirtual 49, 3) := by decide +kernel
theorem dX8_takesItem_112 : decode cX8_takesItem 112 = .ok (.ifCond .eq 7, 3) := by decide +kernel
theorem dX8_takesItem_115 : decode cX8_takesItem 115 = .ok (.iconst 1, 1) := by decide +kernel
theorem dX8_takesItem_116 : decode cX8_takesItem 116 = .ok (.goto 4, 3) := by decide +kernel
theorem dX8_takesItem_119 : decode cX8_takesItem 119 = .ok (.iconst 0, 1) := by decide +kernel
theorem dX8_takesItem_120 : decode cX8_takesItem 120 = .ok (.ireturn, 1) := by decide +kernel
theorem dX8_takesItem_121 : decode cX8_takesItem 121 = .ok (.aload_n 0, 1) := by decide +kernel
theorem dX8_takesItem_122 : decode cX8_takesItem 122 = .ok (.iconst 2, 1) := by decide +kernel
theorem dX8_takesItem_123 : decode cX8_takesItem 123 = .ok (.invokevirtual 108, 3) := by decide +kernel
theorem dX8_takesItem_126 : decode cX8_takesItem 126 = .ok (.ifCond .eq 26, 3) := by decide +kernel
theorem dX8_takesItem_129 : decode cX8_takesItem 129 = .ok (.aload_n 0, 1) := by decide +kernel
theorem dX8_takesItem_130 : decode cX8_takesItem 130 = .ok (.aload_n 0, 1) := by decide +kernel
theorem dX8_takesItem_131 : decode cX8_takesItem 131 = .ok (.getfield 19, 3) := by decide +kernel
theorem dX8_takesItem_134 : decode cX8_takesItem 134 = .ok (.iconst 0, 1) := by decide +kernel
theorem dX8_takesItem_135 : decode cX8_takesItem 135 = .ok (.iaload, 1) := by decide +kernel
theorem dX8_takesItem_136 : decode cX8_takesItem 136 = .ok (.aload_n 0, 1) := by decide +kernel
theorem dX8_takesItem_137 : decode cX8_takesItem 137 = .ok (.getfield 19, 3) := by decide +kernel
theorem dX8_takesItem_140 : decode cX8_takesItem 140 = .ok (.iconst 1, 1) := by decide +kernel
theorem dX8_takesItem_141 : decode cX8_takesItem 141 = .ok (.iaload, 1) := by decide +kernel
theorem dX8_takesItem_142 : decode cX8_takesItem 142 = .ok (.invokevirtual 53, 3) := by decide +kernel
theorem dX8_takesItem_145 : decode cX8_takesItem 145 = .ok (.ifCond .eq 7, 3) := by decide +kernel
theorem dX8_takesItem_148 : decode cX8_takesItem 148 = .ok (.iconst 1, 1) := by decide +kernel
theorem dX8_takesItem_149 : decode cX8_takesItem 149 = .ok (.goto 4, 3) := by decide +kernel
theorem dX8_takesItem_152 : decode cX8_takesItem 152 = .ok (.iconst 0, 1) := by decide +kernel
theorem dX8_takesItem_153 : decode cX8_takesItem 153 = .ok (.ireturn, 1) := by decide +kernel
theorem dX8_takesItem_154 : decode cX8_takesItem 154 = .ok (.aload_n 0, 1) := by decide +kernel
theorem dX8_takesItem_155 : decode cX8_takesItem 155 = .ok (.iconst 2, 1) := by decide +kernel
theorem dX8_takesItem_156 : decode cX8_takesItem 156 = .ok (.invokevirtual 108, 3) := by decide +kernel
theorem dX8_takesItem_159 : decode cX8_takesItem 159 = .ok (.ifCond .eq 26, 3) := by decide +kernel
theorem dX8_takesItem_162 : decode cX8_takesItem 162 = .ok (.aload_n 0, 1) := by decide +kernel
theorem dX8_takesItem_163 : decode cX8_takesItem 163 = .ok (.aload_n 0, 1) := by decide +kernel
theorem dX8_takesItem_164 : decode cX8_takesItem 164 = .ok (.getfield 19, 3) := by decide +kernel
theorem dX8_takesItem_167 : decode cX8_takesItem 167 = .ok (.iconst 0, 1) := by decide +kernel
theorem dX8_takesItem_168 : decode cX8_takesItem 168 = .ok (.iaload, 1) := by decide +kernel
theorem dX8_takesItem_169 : decode cX8_takesItem 169 = .ok (.aload_n 0, 1) := by decide +kernel
theorem dX8_takesItem_170 : decode cX8_takesItem 170 = .ok (.getfield 19, 3) := by decide +kernel
theorem dX8_takesItem_173 : decode cX8_takesItem 173 = .ok (.iconst 1, 1) := by decide +kernel
theorem dX8_takesItem_174 : decode cX8_takesItem 174 = .ok (.iaload, 1) := by decide +kernel
theorem dX8_takesItem_175 : decode cX8_takesItem 175 = .ok (.invokevirtual 56, 3) := by decide +kernel
theorem dX8_takesItem_178 : decode cX8_takesItem 178 = .ok (.ifCond .eq 7, 3) := by decide +kernel
theorem dX8_takesItem_181 : decode cX8_takesItem 181 = .ok (.iconst 1, 1) := by decide +kernel
theorem dX8_takesItem_182 : decode cX8_takesItem 182 = .ok (.goto 4, 3) := by decide +kernel
theorem dX8_takesItem_185 : decode cX8_takesItem 185 = .ok (.iconst 0, 1) := by decide +kernel
theorem dX8_takesItem_186 : decode cX8_takesItem 186 = .ok (.ireturn, 1) := by decide +kernel
theorem dX8_takesItem_187 : decode cX8_takesItem 187 = .ok (.aload_n 0, 1) := by decide +kernel
theorem dX8_takesItem_188 : decode cX8_takesItem 188 = .ok (.iconst 3, 1) := by decide +kernel
theorem dX8_takesItem_189 : decode cX8_takesItem 189 = .ok (.invokevirtual 108, 3) := by decide +kernel
theorem dX8_takesItem_192 : decode cX8_takesItem 192 = .ok (.ifCond .eq 32, 3) := by decide +kernel
theorem dX8_takesItem_195 : decode cX8_takesItem 195 = .ok (.aload_n 0, 1) := by decide +kernel
theorem dX8_takesItem_196 : decode cX8_takesItem 196 = .ok (.aload_n 0, 1) := by decide +kernel
theorem dX8_takesItem_197 : decode cX8_takesItem 197 = .ok (.getfield 19, 3) := by decide +kernel
theorem dX8_takesItem_200 : decode cX8_takesItem 200 = .ok (.iconst 0, 1) := by decide +kernel
theorem dX8_takesItem_201 : decode cX8_takesItem 201 = .ok (.iaload, 1) := by decide +kernel
theorem dX8_takesItem_202 : decode cX8_takesItem 202 = .ok (.aload_n 0, 1) := by decide +kernel
theorem dX8_takesItem_203 : decode cX8_takesItem 203 = .ok (.getfield 19, 3) := by decide +kernel
theorem dX8_takesItem_206 : decode cX8_takesItem 206 = .ok (.iconst 1, 1) := by decide +kernel
theorem dX8_takesItem_207 : decode cX8_takesItem 207 = .ok (.iaload, 1) := by decide +kernel
theorem dX8_takesItem_208 : decode cX8_takesItem 208 = .ok (.aload_n 0, 1) := by decide +kernel
theorem dX8_takesItem_209 : decode cX8_takesItem 209 = .ok (.getfield 19, 3) := by decide +kernel
theorem dX8_takesItem_212 : decode cX8_takesItem 212 = .ok (.iconst 2, 1) := by decide +kernel
theorem dX8_takesItem_213 : decode cX8_takesItem 213 = .ok (.iaload, 1) := by decide +kernel
theorem dX8_takesItem_214 : decode cX8_takesItem 214 = .ok (.invokevirtual 59, 3) := by decide +kernel
theorem dX8_takesItem_217 : decode cX8_takesItem 217 = .ok (.ifCond .eq 7, 3) := by decide +kernel
theorem dX8_takesItem_220 : decode cX8_takesItem 220 = .ok (.iconst 1, 1) := by decide +kernel
theorem dX8_takesItem_221 : decode cX8_takesItem 221 = .ok (.goto 4, 3) := by decide +kernel
theorem dX8_takesItem_224 : decode cX8_takesItem 224 = .ok (.iconst 0, 1) := by decide +kernel
theorem dX8_takesItem_225 : decode cX8_takesItem 225 = .ok (.ireturn, 1) := by decide +kernel
theorem dX8_takesItem_226 : decode cX8_takesItem 226 = .ok (.aload_n 0, 1) := by decide +kernel
theorem dX8_takesItem_227 : decode cX8_takesItem 227 = .ok (.iconst 2, 1) := by decide +kernel
theorem dX8_takesItem_228 : decode cX8_takesItem 228 = .ok (.invokevirtual 108, 3) := by decide +kernel
theorem dX8_takesItem_231 : decode cX8_takesItem 231 = .ok (.ifCond .eq 26, 3) := by decide +kernel
theorem dX8_takesItem_234 : decode cX8_takesItem 234 = .ok (.aload_n 0, 1) := by decide +kernel
theorem dX8_takesItem_235 : decode cX8_takesItem 235 = .ok (.aload_n 0, 1) := by decide +kernel
theorem dX8_takesItem_236 : decode cX8_takesItem 236 = .ok (.getfield 19, 3) := by decide +kernel
theorem dX8_takesItem_239 : decode cX8_takesItem 239 = .ok (.iconst 0, 1) := by decide +kernel
theorem dX8_takesItem_240 : decode cX8_takesItem 240 = .ok (.iaload, 1) := by decide +kernel
theorem dX8_takesItem_241 : decode cX8_takesItem 241 = .ok (.aload_n 0, 1) := by decide +kernel
theorem dX8_takesItem_242 : decode cX8_takesItem 242 = .ok (.getfield 19, 3) := by decide +kernel
theorem dX8_takesItem_245 : decode cX8_takesItem 245 = .ok (.iconst 1, 1) := by decide +kernel
theorem dX8_takesItem_246 : decode cX8_takesItem 246 = .ok (.iaload, 1) := by decide +kernel
