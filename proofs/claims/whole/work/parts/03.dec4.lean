theorem dX9_cut_13 : decode cX9_cut 13 = .ok (.getfield 7, 3) := by decide +kernel
theorem dX9_cut_16 : decode cX9_cut 16 = .ok (.iconst 3, 1) := by decide +kernel
theorem dX9_cut_17 : decode cX9_cut 17 = .ok (.dup2, 1) := by decide +kernel
theorem dX9_cut_18 : decode cX9_cut 18 = .ok (.iaload, 1) := by decide +kernel
theorem dX9_cut_19 : decode cX9_cut 19 = .ok (.iconst 1, 1) := by decide +kernel
theorem dX9_cut_20 : decode cX9_cut 20 = .ok (.isub, 1) := by decide +kernel
theorem dX9_cut_21 : decode cX9_cut 21 = .ok (.iastore, 1) := by decide +kernel
theorem dX9_cut_22 : decode cX9_cut 22 = .ok (.aload_n 0, 1) := by decide +kernel
theorem dX9_cut_23 : decode cX9_cut 23 = .ok (.getfield 7, 3) := by decide +kernel
theorem dX9_cut_26 : decode cX9_cut 26 = .ok (.iconst 3, 1) := by decide +kernel
theorem dX9_cut_27 : decode cX9_cut 27 = .ok (.iaload, 1) := by decide +kernel
theorem dX9_cut_28 : decode cX9_cut 28 = .ok (.ireturn, 1) := by decide +kernel
theorem dX9_pastOf_0 : decode cX9_pastOf 0 = .ok (.aload_n 0, 1) := by decide +kernel
theorem dX9_pastOf_1 : decode cX9_pastOf 1 = .ok (.iconst 1, 1) := by decide +kernel
theorem dX9_pastOf_2 : decode cX9_pastOf 2 = .ok (.iload_n 1, 1) := by decide +kernel
theorem dX9_pastOf_3 : decode cX9_pastOf 3 = .ok (.invokevirtual 55, 3) := by decide +kernel
theorem dX9_pastOf_6 : decode cX9_pastOf 6 = .ok (.ifCond .ne 5, 3) := by decide +kernel
theorem dX9_pastOf_9 : decode cX9_pastOf 9 = .ok (.iconst (-1), 1) := by decide +kernel
theorem dX9_pastOf_10 : decode cX9_pastOf 10 = .ok (.ireturn, 1) := by decide +kernel
theorem dX9_pastOf_11 : decode cX9_pastOf 11 = .ok (.aload_n 0, 1) := by decide +kernel
theorem dX9_pastOf_12 : decode cX9_pastOf 12 = .ok (.iload_n 1, 1) := by decide +kernel
theorem dX9_pastOf_13 : decode cX9_pastOf 13 = .ok (.invokevirtual 91, 3) := by decide +kernel
theorem dX9_pastOf_16 : decode cX9_pastOf 16 = .ok (.iload_n 2, 1) := by decide +kernel
theorem dX9_pastOf_17 : decode cX9_pastOf 17 = .ok (.ifCond .eq 10, 3) := by decide +kernel
theorem dX9_pastOf_20 : decode cX9_pastOf 20 = .ok (.aload_n 0, 1) := by decide +kernel
theorem dX9_pastOf_21 : decode cX9_pastOf 21 = .ok (.getfield 81, 3) := by decide +kernel
theorem dX9_pastOf_24 : decode cX9_pastOf 24 = .ok (.goto 7, 3) := by decide +kernel
theorem dX9_pastOf_27 : decode cX9_pastOf 27 = .ok (.aload_n 0, 1) := by decide +kernel
theorem dX9_pastOf_28 : decode cX9_pastOf 28 = .ok (.getfield 77, 3) := by decide +kernel
theorem dX9_pastOf_31 : decode cX9_pastOf 31 = .ok (.ireturn, 1) := by decide +kernel
theorem dX9_spent_0 : decode cX9_spent 0 = .ok (.aload_n 0, 1) := by decide +kernel
theorem dX9_spent_1 : decode cX9_spent 1 = .ok (.iconst 1, 1) := by decide +kernel
theorem dX9_spent_2 : decode cX9_spent 2 = .ok (.iload_n 1, 1) := by decide +kernel
theorem dX9_spent_3 : decode cX9_spent 3 = .ok (.invokevirtual 55, 3) := by decide +kernel
theorem dX9_spent_6 : decode cX9_spent 6 = .ok (.ifCond .eq 20, 3) := by decide +kernel
theorem dX9_spent_9 : decode cX9_spent 9 = .ok (.iload_n 2, 1) := by decide +kernel
theorem dX9_spent_10 : decode cX9_spent 10 = .ok (.invokestatic 59, 3) := by decide +kernel
theorem dX9_spent_13 : decode cX9_spent 13 = .ok (.ifCond .eq 13, 3) := by decide +kernel
theorem dX9_spent_16 : decode cX9_spent 16 = .ok (.aload_n 0, 1) := by decide +kernel
theorem dX9_spent_17 : decode cX9_spent 17 = .ok (.iload_n 1, 1) := by decide +kernel
theorem dX9_spent_18 : decode cX9_spent 18 = .ok (.iload_n 2, 1) := by decide +kernel
theorem dX9_spent_19 : decode cX9_spent 19 = .ok (.iload_n 3, 1) := by decide +kernel
theorem dX9_spent_20 : decode cX9_spent 20 = .ok (.invokevirtual 95, 3) := by decide +kernel
theorem dX9_spent_23 : decode cX9_spent 23 = .ok (.goto 4, 3) := by decide +kernel
theorem dX9_spent_26 : decode cX9_spent 26 = .ok (.iconst (-1), 1) := by decide +kernel
theorem dX9_spent_27 : decode cX9_spent 27 = .ok (.ireturn, 1) := by decide +kernel
theorem dX9_left_0 : decode cX9_left 0 = .ok (.aload_n 0, 1) := by decide +kernel
theorem dX9_left_1 : decode cX9_left 1 = .ok (.iconst 1, 1) := by decide +kernel
theorem dX9_left_2 : decode cX9_left 2 = .ok (.iload_n 1, 1) := by decide +kernel
theorem dX9_left_3 : decode cX9_left 3 = .ok (.invokevirtual 55, 3) := by decide +kernel
theorem dX9_left_6 : decode cX9_left 6 = .ok (.ifCond .ne 6, 3) := by decide +kernel
theorem dX9_left_9 : decode cX9_left 9 = .ok (.ldc 114, 2) := by decide +kernel
theorem dX9_left_11 : decode cX9_left 11 = .ok (.ireturn, 1) := by decide +kernel
theorem dX9_left_12 : decode cX9_left 12 = .ok (.iload_n 2, 1) := by decide +kernel
theorem dX9_left_13 : decode cX9_left 13 = .ok (.ifCond .eq 24, 3) := by decide +kernel
theorem dX9_left_16 : decode cX9_left 16 = .ok (.aload_n 0, 1) := by decide +kernel
theorem dX9_left_17 : decode cX9_left 17 = .ok (.getfield 19, 3) := by decide +kernel
theorem dX9_left_20 : decode cX9_left 20 = .ok (.bipush 7, 2) := by decide +kernel
theorem dX9_left_22 : decode cX9_left 22 = .ok (.iload_n 1, 1) := by decide +kernel
theorem dX9_left_23 : decode cX9_left 23 = .ok (.imul, 1) := by decide +kernel
theorem dX9_left_24 : decode cX9_left 24 = .ok (.iaload, 1) := by decide +kernel
theorem dX9_left_25 : decode cX9_left 25 = .ok (.aload_n 0, 1) := by decide +kernel
theorem dX9_left_26 : decode cX9_left 26 = .ok (.iload_n 1, 1) := by decide +kernel
theorem dX9_left_27 : decode cX9_left 27 = .ok (.bipush 9, 2) := by decide +kernel
theorem dX9_left_29 : decode cX9_left 29 = .ok (.iconst 0, 1) := by decide +kernel
theorem dX9_left_30 : decode cX9_left 30 = .ok (.invokevirtual 95, 3) := by decide +kernel
theorem dX9_left_33 : decode cX9_left 33 = .ok (.isub, 1) := by decide +kernel
theorem dX9_left_34 : decode cX9_left 34 = .ok (.goto 8, 3) := by decide +kernel
theorem dX9_left_37 : decode cX9_left 37 = .ok (.aload_n 0, 1) := by decide +kernel
theorem dX9_left_38 : decode cX9_left 38 = .ok (.iload_n 1, 1) := by decide +kernel
theorem dX9_left_39 : decode cX9_left 39 = .ok (.invokevirtual 111, 3) := by decide +kernel
theorem dX9_left_42 : decode cX9_left 42 = .ok (.ireturn, 1) := by decide +kernel
theorem dX9_step_0 : decode cX9_step 0 = .ok (.aload_n 0, 1) := by decide +kernel
theorem dX9_step_1 : decode cX9_step 1 = .ok (.iconst 1, 1) := by decide +kernel
theorem dX9_step_2 : decode cX9_step 2 = .ok (.iload_n 1, 1) := by decide +kernel
theorem dX9_step_3 : decode cX9_step 3 = .ok (.invokevirtual 55, 3) := by decide +kernel
theorem dX9_step_6 : decode cX9_step 6 = .ok (.ifCond .eq 10, 3) := by decide +kernel
theorem dX9_step_9 : decode cX9_step 9 = .ok (.iload_n 2, 1) := by decide +kernel
theorem dX9_step_10 : decode cX9_step 10 = .ok (.invokestatic 59, 3) := by decide +kernel
theorem dX9_step_13 : decode cX9_step 13 = .ok (.ifCond .ne 5, 3) := by decide +kernel
theorem dX9_step_16 : decode cX9_step 16 = .ok (.iconst (-1), 1) := by decide +kernel
theorem dX9_step_17 : decode cX9_step 17 = .ok (.ireturn, 1) := by decide +kernel
theorem dX9_step_18 : decode cX9_step 18 = .ok (.aload_n 0, 1) := by decide +kernel
theorem dX9_step_19 : decode cX9_step 19 = .ok (.iload_n 1, 1) := by decide +kernel
theorem dX9_step_20 : decode cX9_step 20 = .ok (.iload_n 2, 1) := by decide +kernel
theorem dX9_step_21 : decode cX9_step 21 = .ok (.iload_n 3, 1) := by decide +kernel
theorem dX9_step_22 : decode cX9_step 22 = .ok (.invokevirtual 95, 3) := by decide +kernel
theorem dX9_step_25 : decode cX9_step 25 = .ok (.istore 4, 2) := by decide +kernel
theorem dX9_step_27 : decode cX9_step 27 = .ok (.iconst 0, 1) := by decide +kernel
theorem dX9_step_28 : decode cX9_step 28 = .ok (.istore 5, 2) := by decide +kernel
theorem dX9_step_30 : decode cX9_step 30 = .ok (.iload 4, 2) := by decide +kernel
theorem dX9_step_32 : decode cX9_step 32 = .ok (.aload_n 0, 1) := by decide +kernel
theorem dX9_step_33 : decode cX9_step 33 = .ok (.getfield 32, 3) := by decide +kernel
theorem dX9_step_36 : decode cX9_step 36 = .ok (.iload 5, 2) := by decide +kernel
theorem dX9_step_38 : decode cX9_step 38 = .ok (.iconst 1, 1) := by decide +kernel
theorem dX9_step_39 : decode cX9_step 39 = .ok (.iadd, 1) := by decide +kernel
theorem dX9_step_40 : decode cX9_step 40 = .ok (.iaload, 1) := by decide +kernel
theorem dX9_step_41 : decode cX9_step 41 = .ok (.if_icmp .lt 9, 3) := by decide +kernel
theorem dX9_step_44 : decode cX9_step 44 = .ok (.iinc 5 1, 3) := by decide +kernel
theorem dX9_step_47 : decode cX9_step 47 = .ok (.goto (-17), 3) := by decide +kernel
theorem dX9_step_50 : decode cX9_step 50 = .ok (.iload 5, 2) := by decide +kernel
theorem dX9_step_52 : decode cX9_step 52 = .ok (.ireturn, 1) := by decide +kernel
theorem dX9_wall_0 : decode cX9_wall 0 = .ok (.aload_n 0, 1) := by decide +kernel
theorem dX9_wall_1 : decode cX9_wall 1 = .ok (.iconst 0, 1) := by decide +kernel
theorem dX9_wall_2 : decode cX9_wall 2 = .ok (.iload_n 1, 1) := by decide +kernel
theorem dX9_wall_3 : decode cX9_wall 3 = .ok (.invokevirtual 55, 3) := by decide +kernel
theorem dX9_wall_6 : decode cX9_wall 6 = .ok (.ifCond .eq 19, 3) := by decide +kernel
theorem dX9_wall_9 : decode cX9_wall 9 = .ok (.iload_n 2, 1) := by decide +kernel
theorem dX9_wall_10 : decode cX9_wall 10 = .ok (.invokestatic 59, 3) := by decide +kernel
theorem dX9_wall_13 : decode cX9_wall 13 = .ok (.ifCond .eq 12, 3) := by decide +kernel
theorem dX9_wall_16 : decode cX9_wall 16 = .ok (.iload_n 3, 1) := by decide +kernel
theorem dX9_wall_17 : decode cX9_wall 17 = .ok (.iconst 0, 1) := by decide +kernel
theorem dX9_wall_18 : decode cX9_wall 18 = .ok (.iconst 3, 1) := by decide +kernel
theorem dX9_wall_19 : decode cX9_wall 19 = .ok (.invokestatic 47, 3) := by decide +kernel
theorem dX9_wall_22 : decode cX9_wall 22 = .ok (.ifCond .ne 5, 3) := by decide +kernel
theorem dX9_wall_25 : decode cX9_wall 25 = .ok (.iconst (-1), 1) := by decide +kernel
theorem dX9_wall_26 : decode cX9_wall 26 = .ok (.ireturn, 1) := by decide +kernel
theorem dX9_wall_27 : decode cX9_wall 27 = .ok (.aload_n 0, 1) := by decide +kernel
theorem dX9_wall_28 : decode cX9_wall 28 = .ok (.getfield 7, 3) := by decide +kernel
theorem dX9_wall_31 : decode cX9_wall 31 = .ok (.iconst 4, 1) := by decide +kernel
theorem dX9_wall_32 : decode cX9_wall 32 = .ok (.iaload, 1) := by decide +kernel
theorem dX9_wall_33 : decode cX9_wall 33 = .ok (.iconst 5, 1) := by decide +kernel
theorem dX9_wall_34 : decode cX9_wall 34 = .ok (.if_icmp .ne 6, 3) := by decide +kernel
theorem dX9_wall_37 : decode cX9_wall 37 = .ok (.bipush (-2), 2) := by decide +kernel
theorem dX9_wall_39 : decode cX9_wall 39 = .ok (.ireturn, 1) := by decide +kernel
theorem dX9_wall_40 : decode cX9_wall 40 = .ok (.iconst 3, 1) := by decide +kernel
theorem dX9_wall_41 : decode cX9_wall 41 = .ok (.aload_n 0, 1) := by decide +kernel
theorem dX9_wall_42 : decode cX9_wall 42 = .ok (.getfield 7, 3) := by decide +kernel
theorem dX9_wall_45 : decode cX9_wall 45 = .ok (.iconst 4, 1) := by decide +kernel
theorem dX9_wall_46 : decode cX9_wall 46 = .ok (.iaload, 1) := by decide +kernel
theorem dX9_wall_47 : decode cX9_wall 47 = .ok (.imul, 1) := by decide +kernel
theorem dX9_wall_48 : decode cX9_wall 48 = .ok (.istore 4, 2) := by decide +kernel
theorem dX9_wall_50 : decode cX9_wall 50 = .ok (.aload_n 0, 1) := by decide +kernel
theorem dX9_wall_51 : decode cX9_wall 51 = .ok (.getfield 28, 3) := by decide +kernel
theorem dX9_wall_54 : decode cX9_wall 54 = .ok (.iload 4, 2) := by decide +kernel
theorem dX9_wall_56 : decode cX9_wall 56 = .ok (.iload_n 1, 1) := by decide +kernel
theorem dX9_wall_57 : decode cX9_wall 57 = .ok (.iastore, 1) := by decide +kernel
theorem dX9_wall_58 : decode cX9_wall 58 = .ok (.aload_n 0, 1) := by decide +kernel
theorem dX9_wall_59 : decode cX9_wall 59 = .ok (.getfield 28, 3) := by decide +kernel
theorem dX9_wall_62 : decode cX9_wall 62 = .ok (.iload 4, 2) := by decide +kernel
theorem dX9_wall_64 : decode cX9_wall 64 = .ok (.iconst 1, 1) := by decide +kernel
theorem dX9_wall_65 : decode cX9_wall 65 = .ok (.iadd, 1) := by decide +kernel
theorem dX9_wall_66 : decode cX9_wall 66 = .ok (.iload_n 2, 1) := by decide +kernel
theorem dX9_wall_67 : decode cX9_wall 67 = .ok (.iastore, 1) := by decide +kernel
theorem dX9_wall_68 : decode cX9_wall 68 = .ok (.aload_n 0, 1) := by decide +kernel
theorem dX9_wall_69 : decode cX9_wall 69 = .ok (.getfield 28, 3) := by decide +kernel
theorem dX9_wall_72 : decode cX9_wall 72 = .ok (.iload 4, 2) := by decide +kernel
theorem dX9_wall_74 : decode cX9_wall 74 = .ok (.iconst 2, 1) := by decide +kernel
theorem dX9_wall_75 : decode cX9_wall 75 = .ok (.iadd, 1) := by decide +kernel
theorem dX9_wall_76 : decode cX9_wall 76 = .ok (.iload_n 3, 1) := by decide +kernel
theorem dX9_wall_77 : decode cX9_wall 77 = .ok (.iastore, 1) := by decide +kernel
theorem dX9_wall_78 : decode cX9_wall 78 = .ok (.aload_n 0, 1) := by decide +kernel
theorem dX9_wall_79 : decode cX9_wall 79 = .ok (.iconst 4, 1) := by decide +kernel
theorem dX9_wall_80 : decode cX9_wall 80 = .ok (.invokevirtual 51, 3) := by decide +kernel
theorem dX9_wall_83 : decode cX9_wall 83 = .ok (.ireturn, 1) := by decide +kernel
theorem dX9_strip_0 : decode cX9_strip 0 = .ok (.aload_n 0, 1) := by decide +kernel
theorem dX9_strip_1 : decode cX9_strip 1 = .ok (.getfield 7, 3) := by decide +kernel
theorem dX9_strip_4 : decode cX9_strip 4 = .ok (.iconst 4, 1) := by decide +kernel
theorem dX9_strip_5 : decode cX9_strip 5 = .ok (.iaload, 1) := by decide +kernel
theorem dX9_strip_6 : decode cX9_strip 6 = .ok (.ifCond .ne 6, 3) := by decide +kernel
theorem dX9_strip_9 : decode cX9_strip 9 = .ok (.bipush (-4), 2) := by decide +kernel
theorem dX9_strip_11 : decode cX9_strip 11 = .ok (.ireturn, 1) := by decide +kernel
theorem dX9_strip_12 : decode cX9_strip 12 = .ok (.aload_n 0, 1) := by decide +kernel
theorem dX9_strip_13 : decode cX9_strip 13 = .ok (.getfield 7, 3) := by decide +kernel
theorem dX9_strip_16 : decode cX9_strip 16 = .ok (.iconst 4, 1) := by decide +kernel
theorem dX9_strip_17 : decode cX9_strip 17 = .ok (.dup2, 1) := by decide +kernel
theorem dX9_strip_18 : decode cX9_strip 18 = .ok (.iaload, 1) := by decide +kernel
theorem dX9_strip_19 : decode cX9_strip 19 = .ok (.iconst 1, 1) := by decide +kernel
theorem dX9_strip_20 : decode cX9_strip 20 = .ok (.isub, 1) := by decide +kernel
theorem dX9_strip_21 : decode cX9_strip 21 = .ok (.iastore, 1) := by decide +kernel
theorem dX9_strip_22 : decode cX9_strip 22 = .ok (.aload_n 0, 1) := by decide +kernel
theorem dX9_strip_23 : decode cX9_strip 23 = .ok (.getfield 7, 3) := by decide +kernel
theorem dX9_strip_26 : decode cX9_strip 26 = .ok (.iconst 4, 1) := by decide +kernel
theorem dX9_strip_27 : decode cX9_strip 27 = .ok (.iaload, 1) := by decide +kernel
theorem dX9_strip_28 : decode cX9_strip 28 = .ok (.ireturn, 1) := by decide +kernel
theorem dX9_away_0 : decode cX9_away 0 = .ok (.iload_n 0, 1) := by decide +kernel
theorem dX9_away_1 : decode cX9_away 1 = .ok (.iload_n 1, 1) := by decide +kernel
theorem dX9_away_2 : decode cX9_away 2 = .ok (.if_icmp .ge 9, 3) := by decide +kernel
theorem dX9_away_5 : decode cX9_away 5 = .ok (.iload_n 1, 1) := by decide +kernel
theorem dX9_away_6 : decode cX9_away 6 = .ok (.iload_n 0, 1) := by decide +kernel
theorem dX9_away_7 : decode cX9_away 7 = .ok (.isub, 1) := by decide +kernel
theorem dX9_away_8 : decode cX9_away 8 = .ok (.goto 6, 3) := by decide +kernel
theorem dX9_away_11 : decode cX9_away 11 = .ok (.iload_n 0, 1) := by decide +kernel
theorem dX9_away_12 : decode cX9_away 12 = .ok (.iload_n 1, 1) := by decide +kernel
theorem dX9_away_13 : decode cX9_away 13 = .ok (.isub, 1) := by decide +kernel
theorem dX9_away_14 : decode cX9_away 14 = .ok (.ireturn, 1) := by decide +kernel
theorem dX9_rests_0 : decode cX9_rests 0 = .ok (.iconst 1, 1) := by decide +kernel
theorem dX9_rests_1 : decode cX9_rests 1 = .ok (.istore_n 3, 1) := by decide +kernel
theorem dX9_rests_2 : decode cX9_rests 2 = .ok (.iconst 0, 1) := by decide +kernel
theorem dX9_rests_3 : decode cX9_rests 3 = .ok (.istore 4, 2) := by decide +kernel
theorem dX9_rests_5 : decode cX9_rests 5 = .ok (.iload 4, 2) := by decide +kernel
theorem dX9_rests_7 : decode cX9_rests 7 = .ok (.aload_n 0, 1) := by decide +kernel
theorem dX9_rests_8 : decode cX9_rests 8 = .ok (.getfield 7, 3) := by decide +kernel
theorem dX9_rests_11 : decode cX9_rests 11 = .ok (.iconst 2, 1) := by decide +kernel
theorem dX9_rests_12 : decode cX9_rests 12 = .ok (.iaload, 1) := by decide +kernel
theorem dX9_rests_13 : decode cX9_rests 13 = .ok (.if_icmp .ge 88, 3) := by decide +kernel
theorem dX9_rests_16 : decode cX9_rests 16 = .ok (.aload_n 0, 1) := by decide +kernel
theorem dX9_rests_17 : decode cX9_rests 17 = .ok (.iload 4, 2) := by decide +kernel
theorem dX9_rests_19 : decode cX9_rests 19 = .ok (.iload_n 1, 1) := by decide +kernel
theorem dX9_rests_20 : decode cX9_rests 20 = .ok (.invokevirtual 70, 3) := by decide +kernel
theorem dX9_rests_23 : decode cX9_rests 23 = .ok (.ifCond .eq 21, 3) := by decide +kernel
theorem dX9_rests_26 : decode cX9_rests 26 = .ok (.aload_n 0, 1) := by decide +kernel
theorem dX9_rests_27 : decode cX9_rests 27 = .ok (.getfield 22, 3) := by decide +kernel
theorem dX9_rests_30 : decode cX9_rests 30 = .ok (.iconst 5, 1) := by decide +kernel
theorem dX9_rests_31 : decode cX9_rests 31 = .ok (.iload 4, 2) := by decide +kernel
theorem dX9_rests_33 : decode cX9_rests 33 = .ok (.imul, 1) := by decide +kernel
theorem dX9_rests_34 : decode cX9_rests 34 = .ok (.iconst 1, 1) := by decide +kernel
theorem dX9_rests_35 : decode cX9_rests 35 = .ok (.iadd, 1) := by decide +kernel
theorem dX9_rests_36 : decode cX9_rests 36 = .ok (.iaload, 1) := by decide +kernel
theorem dX9_rests_37 : decode cX9_rests 37 = .ok (.ifCond .lt 7, 3) := by decide +kernel
theorem dX9_rests_40 : decode cX9_rests 40 = .ok (.iconst 1, 1) := by decide +kernel
theorem dX9_rests_41 : decode cX9_rests 41 = .ok (.goto 4, 3) := by decide +kernel
theorem dX9_rests_44 : decode cX9_rests 44 = .ok (.iconst 0, 1) := by decide +kernel
theorem dX9_rests_45 : decode cX9_rests 45 = .ok (.istore 5, 2) := by decide +kernel
theorem dX9_rests_47 : decode cX9_rests 47 = .ok (.aload_n 0, 1) := by decide +kernel
theorem dX9_rests_48 : decode cX9_rests 48 = .ok (.getfield 22, 3) := by decide +kernel
theorem dX9_rests_51 : decode cX9_rests 51 = .ok (.iconst 5, 1) := by decide +kernel
theorem dX9_rests_52 : decode cX9_rests 52 = .ok (.iload 4, 2) := by decide +kernel
theorem dX9_rests_54 : decode cX9_rests 54 = .ok (.imul, 1) := by decide +kernel
theorem dX9_rests_55 : decode cX9_rests 55 = .ok (.iconst 2, 1) := by decide +kernel
theorem dX9_rests_56 : decode cX9_rests 56 = .ok (.iadd, 1) := by decide +kernel
theorem dX9_rests_57 : decode cX9_rests 57 = .ok (.iaload, 1) := by decide +kernel
theorem dX9_rests_58 : decode cX9_rests 58 = .ok (.iload_n 2, 1) := by decide +kernel
theorem dX9_rests_59 : decode cX9_rests 59 = .ok (.invokestatic 115, 3) := by decide +kernel
theorem dX9_rests_62 : decode cX9_rests 62 = .ok (.istore 6, 2) := by decide +kernel
theorem dX9_rests_64 : decode cX9_rests 64 = .ok (.iload_n 3, 1) := by decide +kernel
theorem dX9_rests_65 : decode cX9_rests 65 = .ok (.ifCond .eq 28, 3) := by decide +kernel
theorem dX9_rests_68 : decode cX9_rests 68 = .ok (.iload 5, 2) := by decide +kernel
theorem dX9_rests_70 : decode cX9_rests 70 = .ok (.ifCond .eq 19, 3) := by decide +kernel
theorem dX9_rests_73 : decode cX9_rests 73 = .ok (.iload 6, 2) := by decide +kernel
theorem dX9_rests_75 : decode cX9_rests 75 = .ok (.aload_n 0, 1) := by decide +kernel
theorem dX9_rests_76 : decode cX9_rests 76 = .ok (.getfield 19, 3) := by decide +kernel
theorem dX9_rests_79 : decode cX9_rests 79 = .ok (.bipush 7, 2) := by decide +kernel
theorem dX9_rests_81 : decode cX9_rests 81 = .ok (.iload_n 1, 1) := by decide +kernel
theorem dX9_rests_82 : decode cX9_rests 82 = .ok (.imul, 1) := by decide +kernel
theorem dX9_rests_83 : decode cX9_rests 83 = .ok (.iconst 3, 1) := by decide +kernel
theorem dX9_rests_84 : decode cX9_rests 84 = .ok (.iadd, 1) := by decide +kernel
theorem dX9_rests_85 : decode cX9_rests 85 = .ok (.iaload, 1) := by decide +kernel
theorem dX9_rests_86 : decode cX9_rests 86 = .ok (.if_icmp .le 7, 3) := by decide +kernel
theorem dX9_rests_89 : decode cX9_rests 89 = .ok (.iconst 1, 1) := by decide +kernel
theorem dX9_rests_90 : decode cX9_rests 90 = .ok (.goto 4, 3) := by decide +kernel
theorem dX9_rests_93 : decode cX9_rests 93 = .ok (.iconst 0, 1) := by decide +kernel
theorem dX9_rests_94 : decode cX9_rests 94 = .ok (.istore_n 3, 1) := by decide +kernel
theorem dX9_rests_95 : decode cX9_rests 95 = .ok (.iinc 4 1, 3) := by decide +kernel
theorem dX9_rests_98 : decode cX9_rests 98 = .ok (.goto (-93), 3) := by decide +kernel
theorem dX9_rests_101 : decode cX9_rests 101 = .ok (.iload_n 3, 1) := by decide +kernel
theorem dX9_rests_102 : decode cX9_rests 102 = .ok (.ireturn, 1) := by decide +kernel
theorem dX9_fits_0 : decode cX9_fits 0 = .ok (.aload_n 0, 1) := by decide +kernel
theorem dX9_fits_1 : decode cX9_fits 1 = .ok (.getfield 38, 3) := by decide +kernel
theorem dX9_fits_4 : decode cX9_fits 4 = .ok (.iload_n 1, 1) := by decide +kernel
theorem dX9_fits_5 : decode cX9_fits 5 = .ok (.iaload, 1) := by decide +kernel
theorem dX9_fits_6 : decode cX9_fits 6 = .ok (.istore_n 2, 1) := by decide +kernel
theorem dX9_fits_7 : decode cX9_fits 7 = .ok (.iload_n 2, 1) := by decide +kernel
theorem dX9_fits_8 : decode cX9_fits 8 = .ok (.aload_n 0, 1) := by decide +kernel
theorem dX9_fits_9 : decode cX9_fits 9 = .ok (.getfield 7, 3) := by decide +kernel
theorem dX9_fits_12 : decode cX9_fits 12 = .ok (.iconst 1, 1) := by decide +kernel
theorem dX9_fits_13 : decode cX9_fits 13 = .ok (.iaload, 1) := by decide +kernel
theorem dX9_fits_14 : decode cX9_fits 14 = .ok (.if_icmp .ne 5, 3) := by decide +kernel
theorem dX9_fits_17 : decode cX9_fits 17 = .ok (.iconst 1, 1) := by decide +kernel
theorem dX9_fits_18 : decode cX9_fits 18 = .ok (.ireturn, 1) := by decide +kernel
theorem dX9_fits_19 : decode cX9_fits 19 = .ok (.aload_n 0, 1) := by decide +kernel
theorem dX9_fits_20 : decode cX9_fits 20 = .ok (.getfield 28, 3) := by decide +kernel
theorem dX9_fits_23 : decode cX9_fits 23 = .ok (.iconst 3, 1) := by decide +kernel
theorem dX9_fits_24 : decode cX9_fits 24 = .ok (.iload_n 1, 1) := by decide +kernel
theorem dX9_fits_25 : decode cX9_fits 25 = .ok (.imul, 1) := by decide +kernel
theorem dX9_fits_26 : decode cX9_fits 26 = .ok (.iconst 1, 1) := by decide +kernel
theorem dX9_fits_27 : decode cX9_fits 27 = .ok (.iadd, 1) := by decide +kernel
theorem dX9_fits_28 : decode cX9_fits 28 = .ok (.iaload, 1) := by decide +kernel
theorem dX9_fits_29 : decode cX9_fits 29 = .ok (.istore_n 3, 1) := by decide +kernel
theorem dX9_fits_30 : decode cX9_fits 30 = .ok (.aload_n 0, 1) := by decide +kernel
theorem dX9_fits_31 : decode cX9_fits 31 = .ok (.getfield 19, 3) := by decide +kernel
theorem dX9_fits_34 : decode cX9_fits 34 = .ok (.bipush 7, 2) := by decide +kernel
theorem dX9_fits_36 : decode cX9_fits 36 = .ok (.iload_n 2, 1) := by decide +kernel
theorem dX9_fits_37 : decode cX9_fits 37 = .ok (.imul, 1) := by decide +kernel
theorem dX9_fits_38 : decode cX9_fits 38 = .ok (.iconst 1, 1) := by decide +kernel
theorem dX9_fits_39 : decode cX9_fits 39 = .ok (.iadd, 1) := by decide +kernel
theorem dX9_fits_40 : decode cX9_fits 40 = .ok (.iaload, 1) := by decide +kernel
theorem dX9_fits_41 : decode cX9_fits 41 = .ok (.aload_n 0, 1) := by decide +kernel
theorem dX9_fits_42 : decode cX9_fits 42 = .ok (.getfield 28, 3) := by decide +kernel
theorem dX9_fits_45 : decode cX9_fits 45 = .ok (.iconst 3, 1) := by decide +kernel
theorem dX9_fits_46 : decode cX9_fits 46 = .ok (.iload_n 1, 1) := by decide +kernel
theorem dX9_fits_47 : decode cX9_fits 47 = .ok (.imul, 1) := by decide +kernel
theorem dX9_fits_48 : decode cX9_fits 48 = .ok (.iconst 2, 1) := by decide +kernel
theorem dX9_fits_49 : decode cX9_fits 49 = .ok (.iadd, 1) := by decide +kernel
theorem dX9_fits_50 : decode cX9_fits 50 = .ok (.iaload, 1) := by decide +kernel
theorem dX9_fits_51 : decode cX9_fits 51 = .ok (.ishr, 1) := by decide +kernel
theorem dX9_fits_52 : decode cX9_fits 52 = .ok (.iconst 1, 1) := by decide +kernel
theorem dX9_fits_53 : decode cX9_fits 53 = .ok (.iand, 1) := by decide +kernel
theorem dX9_fits_54 : decode cX9_fits 54 = .ok (.iconst 1, 1) := by decide +kernel
theorem dX9_fits_55 : decode cX9_fits 55 = .ok (.if_icmp .ne 16, 3) := by decide +kernel
theorem dX9_fits_58 : decode cX9_fits 58 = .ok (.aload_n 0, 1) := by decide +kernel
theorem dX9_fits_59 : decode cX9_fits 59 = .ok (.iload_n 2, 1) := by decide +kernel
theorem dX9_fits_60 : decode cX9_fits 60 = .ok (.iload_n 3, 1) := by decide +kernel
theorem dX9_fits_61 : decode cX9_fits 61 = .ok (.invokevirtual 119, 3) := by decide +kernel
theorem dX9_fits_64 : decode cX9_fits 64 = .ok (.ifCond .eq 7, 3) := by decide +kernel
theorem dX9_fits_67 : decode cX9_fits 67 = .ok (.iconst 1, 1) := by decide +kernel
theorem dX9_fits_68 : decode cX9_fits 68 = .ok (.goto 4, 3) := by decide +kernel
theorem dX9_fits_71 : decode cX9_fits 71 = .ok (.iconst 0, 1) := by decide +kernel
theorem dX9_fits_72 : decode cX9_fits 72 = .ok (.istore 4, 2) := by decide +kernel
theorem dX9_fits_74 : decode cX9_fits 74 = .ok (.aload_n 0, 1) := by decide +kernel
theorem dX9_fits_75 : decode cX9_fits 75 = .ok (.iload_n 2, 1) := by decide +kernel
theorem dX9_fits_76 : decode cX9_fits 76 = .ok (.invokevirtual 67, 3) := by decide +kernel
theorem dX9_fits_79 : decode cX9_fits 79 = .ok (.istore 5, 2) := by decide +kernel
theorem dX9_fits_81 : decode cX9_fits 81 = .ok (.iload 4, 2) := by decide +kernel
theorem dX9_fits_83 : decode cX9_fits 83 = .ok (.ifCond .eq 22, 3) := by decide +kernel
theorem dX9_fits_86 : decode cX9_fits 86 = .ok (.iload 5, 2) := by decide +kernel
theorem dX9_fits_88 : decode cX9_fits 88 = .ok (.ifCond .lt 13, 3) := by decide +kernel
theorem dX9_fits_91 : decode cX9_fits 91 = .ok (.aload_n 0, 1) := by decide +kernel
theorem dX9_fits_92 : decode cX9_fits 92 = .ok (.iload 5, 2) := by decide +kernel
theorem dX9_fits_94 : decode cX9_fits 94 = .ok (.iload_n 3, 1) := by decide +kernel
theorem dX9_fits_95 : decode cX9_fits 95 = .ok (.invokevirtual 104, 3) := by decide +kernel
theorem dX9_fits_98 : decode cX9_fits 98 = .ok (.ifCond .ne 7, 3) := by decide +kernel
theorem dX9_fits_101 : decode cX9_fits 101 = .ok (.iconst 1, 1) := by decide +kernel
theorem dX9_fits_102 : decode cX9_fits 102 = .ok (.goto 4, 3) := by decide +kernel
theorem dX9_fits_105 : decode cX9_fits 105 = .ok (.iconst 0, 1) := by decide +kernel
theorem dX9_fits_106 : decode cX9_fits 106 = .ok (.istore 4, 2) := by decide +kernel
theorem dX9_fits_108 : decode cX9_fits 108 = .ok (.aload_n 0, 1) := by decide +kernel
theorem dX9_fits_109 : decode cX9_fits 109 = .ok (.aload_n 0, 1) := by decide +kernel
theorem dX9_fits_110 : decode cX9_fits 110 = .ok (.getfield 28, 3) := by decide +kernel
theorem dX9_fits_113 : decode cX9_fits 113 = .ok (.iconst 3, 1) := by decide +kernel
theorem dX9_fits_114 : decode cX9_fits 114 = .ok (.iload_n 1, 1) := by decide +kernel
theorem dX9_fits_115 : decode cX9_fits 115 = .ok (.imul, 1) := by decide +kernel
theorem dX9_fits_116 : decode cX9_fits 116 = .ok (.iaload, 1) := by decide +kernel
theorem dX9_fits_117 : decode cX9_fits 117 = .ok (.iload_n 3, 1) := by decide +kernel
theorem dX9_fits_118 : decode cX9_fits 118 = .ok (.iconst 1, 1) := by decide +kernel
theorem dX9_fits_119 : decode cX9_fits 119 = .ok (.invokevirtual 63, 3) := by decide +kernel
theorem dX9_fits_122 : decode cX9_fits 122 = .ok (.istore 6, 2) := by decide +kernel
theorem dX9_fits_124 : decode cX9_fits 124 = .ok (.iconst 0, 1) := by decide +kernel
theorem dX9_fits_125 : decode cX9_fits 125 = .ok (.istore 7, 2) := by decide +kernel
theorem dX9_fits_127 : decode cX9_fits 127 = .ok (.iload 7, 2) := by decide +kernel
theorem dX9_fits_129 : decode cX9_fits 129 = .ok (.iload_n 1, 1) := by decide +kernel
theorem dX9_fits_130 : decode cX9_fits 130 = .ok (.if_icmp .ge 116, 3) := by decide +kernel
theorem dX9_fits_133 : decode cX9_fits 133 = .ok (.iload 4, 2) := by decide +kernel
theorem dX9_fits_135 : decode cX9_fits 135 = .ok (.ifCond .eq 111, 3) := by decide +kernel
theorem dX9_fits_138 : decode cX9_fits 138 = .ok (.aload_n 0, 1) := by decide +kernel
theorem dX9_fits_139 : decode cX9_fits 139 = .ok (.getfield 28, 3) := by decide +kernel
theorem dX9_fits_142 : decode cX9_fits 142 = .ok (.iconst 3, 1) := by decide +kernel
theorem dX9_fits_143 : decode cX9_fits 143 = .ok (.iload 7, 2) := by decide +kernel
theorem dX9_fits_145 : decode cX9_fits 145 = .ok (.imul, 1) := by decide +kernel
theorem dX9_fits_146 : decode cX9_fits 146 = .ok (.iconst 1, 1) := by decide +kernel
theorem dX9_fits_147 : decode cX9_fits 147 = .ok (.iadd, 1) := by decide +kernel
theorem dX9_fits_148 : decode cX9_fits 148 = .ok (.iaload, 1) := by decide +kernel
theorem dX9_fits_149 : decode cX9_fits 149 = .ok (.istore 8, 2) := by decide +kernel
theorem dX9_fits_151 : decode cX9_fits 151 = .ok (.aload_n 0, 1) := by decide +kernel
theorem dX9_fits_152 : decode cX9_fits 152 = .ok (.getfield 38, 3) := by decide +kernel
theorem dX9_fits_155 : decode cX9_fits 155 = .ok (.iload 7, 2) := by decide +kernel
theorem dX9_fits_157 : decode cX9_fits 157 = .ok (.iaload, 1) := by decide +kernel
theorem dX9_fits_158 : decode cX9_fits 158 = .ok (.iload_n 2, 1) := by decide +kernel
theorem dX9_fits_159 : decode cX9_fits 159 = .ok (.if_icmp .ne 51, 3) := by decide +kernel
theorem dX9_fits_162 : decode cX9_fits 162 = .ok (.iload 8, 2) := by decide +kernel
theorem dX9_fits_164 : decode cX9_fits 164 = .ok (.iload_n 3, 1) := by decide +kernel
theorem dX9_fits_165 : decode cX9_fits 165 = .ok (.invokestatic 115, 3) := by decide +kernel
theorem dX9_fits_168 : decode cX9_fits 168 = .ok (.aload_n 0, 1) := by decide +kernel
theorem dX9_fits_169 : decode cX9_fits 169 = .ok (.getfield 19, 3) := by decide +kernel
theorem dX9_fits_172 : decode cX9_fits 172 = .ok (.bipush 7, 2) := by decide +kernel
theorem dX9_fits_174 : decode cX9_fits 174 = .ok (.iload_n 2, 1) := by decide +kernel
theorem dX9_fits_175 : decode cX9_fits 175 = .ok (.imul, 1) := by decide +kernel
theorem dX9_fits_176 : decode cX9_fits 176 = .ok (.iconst 3, 1) := by decide +kernel
theorem dX9_fits_177 : decode cX9_fits 177 = .ok (.iadd, 1) := by decide +kernel
theorem dX9_fits_178 : decode cX9_fits 178 = .ok (.iaload, 1) := by decide +kernel
theorem dX9_fits_179 : decode cX9_fits 179 = .ok (.if_icmp .le 7, 3) := by decide +kernel
theorem dX9_fits_182 : decode cX9_fits 182 = .ok (.iconst 1, 1) := by decide +kernel
theorem dX9_fits_183 : decode cX9_fits 183 = .ok (.goto 4, 3) := by decide +kernel
theorem dX9_fits_186 : decode cX9_fits 186 = .ok (.iconst 0, 1) := by decide +kernel
theorem dX9_fits_187 : decode cX9_fits 187 = .ok (.istore 4, 2) := by decide +kernel
theorem dX9_fits_189 : decode cX9_fits 189 = .ok (.iload 6, 2) := by decide +kernel
theorem dX9_fits_191 : decode cX9_fits 191 = .ok (.aload_n 0, 1) := by decide +kernel
theorem dX9_fits_192 : decode cX9_fits 192 = .ok (.aload_n 0, 1) := by decide +kernel
theorem dX9_fits_193 : decode cX9_fits 193 = .ok (.getfield 28, 3) := by decide +kernel
theorem dX9_fits_196 : decode cX9_fits 196 = .ok (.iconst 3, 1) := by decide +kernel
theorem dX9_fits_197 : decode cX9_fits 197 = .ok (.iload 7, 2) := by decide +kernel
theorem dX9_fits_199 : decode cX9_fits 199 = .ok (.imul, 1) := by decide +kernel
theorem dX9_fits_200 : decode cX9_fits 200 = .ok (.iaload, 1) := by decide +kernel
theorem dX9_fits_201 : decode cX9_fits 201 = .ok (.iload 8, 2) := by decide +kernel
theorem dX9_fits_203 : decode cX9_fits 203 = .ok (.iconst 1, 1) := by decide +kernel
theorem dX9_fits_204 : decode cX9_fits 204 = .ok (.invokevirtual 63, 3) := by decide +kernel
theorem dX9_fits_207 : decode cX9_fits 207 = .ok (.iadd, 1) := by decide +kernel
theorem dX9_fits_208 : decode cX9_fits 208 = .ok (.istore 6, 2) := by decide +kernel
theorem dX9_fits_210 : decode cX9_fits 210 = .ok (.iload 4, 2) := by decide +kernel
theorem dX9_fits_212 : decode cX9_fits 212 = .ok (.ifCond .eq 25, 3) := by decide +kernel
theorem dX9_fits_215 : decode cX9_fits 215 = .ok (.aload_n 0, 1) := by decide +kernel
theorem dX9_fits_216 : decode cX9_fits 216 = .ok (.getfield 38, 3) := by decide +kernel
theorem dX9_fits_219 : decode cX9_fits 219 = .ok (.iload 7, 2) := by decide +kernel
theorem dX9_fits_221 : decode cX9_fits 221 = .ok (.iaload, 1) := by decide +kernel
theorem dX9_fits_222 : decode cX9_fits 222 = .ok (.iload 5, 2) := by decide +kernel
theorem dX9_fits_224 : decode cX9_fits 224 = .ok (.if_icmp .ne 9, 3) := by decide +kernel
theorem dX9_fits_227 : decode cX9_fits 227 = .ok (.iload 8, 2) := by decide +kernel
theorem dX9_fits_229 : decode cX9_fits 229 = .ok (.iload_n 3, 1) := by decide +kernel
theorem dX9_fits_230 : decode cX9_fits 230 = .ok (.if_icmp .eq 7, 3) := by decide +kernel
theorem dX9_fits_233 : decode cX9_fits 233 = .ok (.iconst 1, 1) := by decide +kernel
theorem dX9_fits_234 : decode cX9_fits 234 = .ok (.goto 4, 3) := by decide +kernel
theorem dX9_fits_237 : decode cX9_fits 237 = .ok (.iconst 0, 1) := by decide +kernel
theorem dX9_fits_238 : decode cX9_fits 238 = .ok (.istore 4, 2) := by decide +kernel
theorem dX9_fits_240 : decode cX9_fits 240 = .ok (.iinc 7 1, 3) := by decide +kernel
theorem dX9_fits_243 : decode cX9_fits 243 = .ok (.goto (-116), 3) := by decide +kernel
theorem dX9_fits_246 : decode cX9_fits 246 = .ok (.iload 4, 2) := by decide +kernel
theorem dX9_fits_248 : decode cX9_fits 248 = .ok (.ifCond .eq 18, 3) := by decide +kernel
theorem dX9_fits_251 : decode cX9_fits 251 = .ok (.iload 6, 2) := by decide +kernel
theorem dX9_fits_253 : decode cX9_fits 253 = .ok (.aload_n 0, 1) := by decide +kernel
theorem dX9_fits_254 : decode cX9_fits 254 = .ok (.getfield 44, 3) := by decide +kernel
theorem dX9_fits_257 : decode cX9_fits 257 = .ok (.iload_n 2, 1) := by decide +kernel
theorem dX9_fits_258 : decode cX9_fits 258 = .ok (.iaload, 1) := by decide +kernel
theorem dX9_fits_259 : decode cX9_fits 259 = .ok (.if_icmp .gt 7, 3) := by decide +kernel
theorem dX9_fits_262 : decode cX9_fits 262 = .ok (.iconst 1, 1) := by decide +kernel
theorem dX9_fits_263 : decode cX9_fits 263 = .ok (.goto 4, 3) := by decide +kernel
theorem dX9_fits_266 : decode cX9_fits 266 = .ok (.iconst 0, 1) := by decide +kernel
theorem dX9_fits_267 : decode cX9_fits 267 = .ok (.ireturn, 1) := by decide +kernel
theorem dX9_valueOf_0 : decode cX9_valueOf 0 = .ok (.aload_n 0, 1) := by decide +kernel
theorem dX9_valueOf_1 : decode cX9_valueOf 1 = .ok (.getfield 38, 3) := by decide +kernel
theorem dX9_valueOf_4 : decode cX9_valueOf 4 = .ok (.iload_n 1, 1) := by decide +kernel
theorem dX9_valueOf_5 : decode cX9_valueOf 5 = .ok (.iaload, 1) := by decide +kernel
theorem dX9_valueOf_6 : decode cX9_valueOf 6 = .ok (.aload_n 0, 1) := by decide +kernel
theorem dX9_valueOf_7 : decode cX9_valueOf 7 = .ok (.getfield 7, 3) := by decide +kernel
theorem dX9_valueOf_10 : decode cX9_valueOf 10 = .ok (.iconst 1, 1) := by decide +kernel
theorem dX9_valueOf_11 : decode cX9_valueOf 11 = .ok (.iaload, 1) := by decide +kernel
theorem dX9_valueOf_12 : decode cX9_valueOf 12 = .ok (.if_icmp .ne 7, 3) := by decide +kernel
theorem dX9_valueOf_15 : decode cX9_valueOf 15 = .ok (.iconst 0, 1) := by decide +kernel
theorem dX9_valueOf_16 : decode cX9_valueOf 16 = .ok (.goto 19, 3) := by decide +kernel
theorem dX9_valueOf_19 : decode cX9_valueOf 19 = .ok (.aload_n 0, 1) := by decide +kernel
theorem dX9_valueOf_20 : decode cX9_valueOf 20 = .ok (.getfield 19, 3) := by decide +kernel
theorem dX9_valueOf_23 : decode cX9_valueOf 23 = .ok (.bipush 7, 2) := by decide +kernel
theorem dX9_valueOf_25 : decode cX9_valueOf 25 = .ok (.aload_n 0, 1) := by decide +kernel
theorem dX9_valueOf_26 : decode cX9_valueOf 26 = .ok (.getfield 38, 3) := by decide +kernel
theorem dX9_valueOf_29 : decode cX9_valueOf 29 = .ok (.iload_n 1, 1) := by decide +kernel
theorem dX9_valueOf_30 : decode cX9_valueOf 30 = .ok (.iaload, 1) := by decide +kernel
theorem dX9_valueOf_31 : decode cX9_valueOf 31 = .ok (.imul, 1) := by decide +kernel
theorem dX9_valueOf_32 : decode cX9_valueOf 32 = .ok (.iconst 2, 1) := by decide +kernel
theorem dX9_valueOf_33 : decode cX9_valueOf 33 = .ok (.iadd, 1) := by decide +kernel
theorem dX9_valueOf_34 : decode cX9_valueOf 34 = .ok (.iaload, 1) := by decide +kernel
theorem dX9_valueOf_35 : decode cX9_valueOf 35 = .ok (.ireturn, 1) := by decide +kernel
theorem dX9_findHang_0 : decode cX9_findHang 0 = .ok (.iconst 0, 1) := by decide +kernel
theorem dX9_findHang_1 : decode cX9_findHang 1 = .ok (.istore_n 1, 1) := by decide +kernel
theorem dX9_findHang_2 : decode cX9_findHang 2 = .ok (.iload_n 1, 1) := by decide +kernel
theorem dX9_findHang_3 : decode cX9_findHang 3 = .ok (.aload_n 0, 1) := by decide +kernel
theorem dX9_findHang_4 : decode cX9_findHang 4 = .ok (.getfield 7, 3) := by decide +kernel
theorem dX9_findHang_7 : decode cX9_findHang 7 = .ok (.iconst 1, 1) := by decide +kernel
theorem dX9_findHang_8 : decode cX9_findHang 8 = .ok (.iaload, 1) := by decide +kernel
theorem dX9_findHang_9 : decode cX9_findHang 9 = .ok (.if_icmp .ge 20, 3) := by decide +kernel
theorem dX9_findHang_12 : decode cX9_findHang 12 = .ok (.aload_n 0, 1) := by decide +kernel
theorem dX9_findHang_13 : decode cX9_findHang 13 = .ok (.getfield 44, 3) := by decide +kernel
theorem dX9_findHang_16 : decode cX9_findHang 16 = .ok (.iload_n 1, 1) := by decide +kernel
theorem dX9_findHang_17 : decode cX9_findHang 17 = .ok (.aload_n 0, 1) := by decide +kernel
theorem dX9_findHang_18 : decode cX9_findHang 18 = .ok (.iload_n 1, 1) := by decide +kernel
theorem dX9_findHang_19 : decode cX9_findHang 19 = .ok (.invokevirtual 111, 3) := by decide +kernel
theorem dX9_findHang_22 : decode cX9_findHang 22 = .ok (.iastore, 1) := by decide +kernel
theorem dX9_findHang_23 : decode cX9_findHang 23 = .ok (.iinc 1 1, 3) := by decide +kernel
theorem dX9_findHang_26 : decode cX9_findHang 26 = .ok (.goto (-24), 3) := by decide +kernel
theorem dX9_findHang_29 : decode cX9_findHang 29 = .ok (.aload_n 0, 1) := by decide +kernel
theorem dX9_findHang_30 : decode cX9_findHang 30 = .ok (.iconst (-1), 1) := by decide +kernel
theorem dX9_findHang_31 : decode cX9_findHang 31 = .ok (.putfield 122, 3) := by decide +kernel
theorem dX9_findHang_34 : decode cX9_findHang 34 = .ok (.iconst 0, 1) := by decide +kernel
theorem dX9_findHang_35 : decode cX9_findHang 35 = .ok (.istore_n 1, 1) := by decide +kernel
theorem dX9_findHang_36 : decode cX9_findHang 36 = .ok (.aload_n 0, 1) := by decide +kernel
theorem dX9_findHang_37 : decode cX9_findHang 37 = .ok (.getfield 38, 3) := by decide +kernel
theorem dX9_findHang_40 : decode cX9_findHang 40 = .ok (.iconst 0, 1) := by decide +kernel
theorem dX9_findHang_41 : decode cX9_findHang 41 = .ok (.iconst (-1), 1) := by decide +kernel
theorem dX9_findHang_42 : decode cX9_findHang 42 = .ok (.iastore, 1) := by decide +kernel
theorem dX9_findHang_43 : decode cX9_findHang 43 = .ok (.iconst 1, 1) := by decide +kernel
theorem dX9_findHang_44 : decode cX9_findHang 44 = .ok (.istore_n 2, 1) := by decide +kernel
theorem dX9_findHang_45 : decode cX9_findHang 45 = .ok (.iload_n 2, 1) := by decide +kernel
theorem dX9_findHang_46 : decode cX9_findHang 46 = .ok (.ifCond .eq 85, 3) := by decide +kernel
theorem dX9_findHang_49 : decode cX9_findHang 49 = .ok (.iload_n 1, 1) := by decide +kernel
theorem dX9_findHang_50 : decode cX9_findHang 50 = .ok (.aload_n 0, 1) := by decide +kernel
theorem dX9_findHang_51 : decode cX9_findHang 51 = .ok (.getfield 7, 3) := by decide +kernel
theorem dX9_findHang_54 : decode cX9_findHang 54 = .ok (.iconst 4, 1) := by decide +kernel
theorem dX9_findHang_55 : decode cX9_findHang 55 = .ok (.iaload, 1) := by decide +kernel
theorem dX9_findHang_56 : decode cX9_findHang 56 = .ok (.if_icmp .ne 13, 3) := by decide +kernel
theorem dX9_findHang_59 : decode cX9_findHang 59 = .ok (.aload_n 0, 1) := by decide +kernel
theorem dX9_findHang_60 : decode cX9_findHang 60 = .ok (.invokevirtual 125, 3) := by decide +kernel
theorem dX9_findHang_63 : decode cX9_findHang 63 = .ok (.iinc 1 (-1), 3) := by decide +kernel
theorem dX9_findHang_66 : decode cX9_findHang 66 = .ok (.goto 52, 3) := by decide +kernel
theorem dX9_findHang_69 : decode cX9_findHang 69 = .ok (.aload_n 0, 1) := by decide +kernel
theorem dX9_findHang_70 : decode cX9_findHang 70 = .ok (.getfield 38, 3) := by decide +kernel
theorem dX9_findHang_73 : decode cX9_findHang 73 = .ok (.iload_n 1, 1) := by decide +kernel
theorem dX9_findHang_74 : decode cX9_findHang 74 = .ok (.dup2, 1) := by decide +kernel
theorem dX9_findHang_75 : decode cX9_findHang 75 = .ok (.iaload, 1) := by decide +kernel
theorem dX9_findHang_76 : decode cX9_findHang 76 = .ok (.iconst 1, 1) := by decide +kernel
theorem dX9_findHang_77 : decode cX9_findHang 77 = .ok (.iadd, 1) := by decide +kernel
theorem dX9_findHang_78 : decode cX9_findHang 78 = .ok (.iastore, 1) := by decide +kernel
theorem dX9_findHang_79 : decode cX9_findHang 79 = .ok (.aload_n 0, 1) := by decide +kernel
theorem dX9_findHang_80 : decode cX9_findHang 80 = .ok (.getfield 38, 3) := by decide +kernel
theorem dX9_findHang_83 : decode cX9_findHang 83 = .ok (.iload_n 1, 1) := by decide +kernel
theorem dX9_findHang_84 : decode cX9_findHang 84 = .ok (.iaload, 1) := by decide +kernel
theorem dX9_findHang_85 : decode cX9_findHang 85 = .ok (.aload_n 0, 1) := by decide +kernel
theorem dX9_findHang_86 : decode cX9_findHang 86 = .ok (.getfield 7, 3) := by decide +kernel
theorem dX9_findHang_89 : decode cX9_findHang 89 = .ok (.iconst 1, 1) := by decide +kernel
theorem dX9_findHang_90 : decode cX9_findHang 90 = .ok (.iaload, 1) := by decide +kernel
theorem dX9_findHang_91 : decode cX9_findHang 91 = .ok (.if_icmp .le 9, 3) := by decide +kernel
theorem dX9_findHang_94 : decode cX9_findHang 94 = .ok (.iinc 1 (-1), 3) := by decide +kernel
theorem dX9_findHang_97 : decode cX9_findHang 97 = .ok (.goto 21, 3) := by decide +kernel
theorem dX9_findHang_100 : decode cX9_findHang 100 = .ok (.aload_n 0, 1) := by decide +kernel
theorem dX9_findHang_101 : decode cX9_findHang 101 = .ok (.iload_n 1, 1) := by decide +kernel
theorem dX9_findHang_102 : decode cX9_findHang 102 = .ok (.invokevirtual 128, 3) := by decide +kernel
theorem dX9_findHang_105 : decode cX9_findHang 105 = .ok (.ifCond .eq 13, 3) := by decide +kernel
theorem dX9_findHang_108 : decode cX9_findHang 108 = .ok (.iinc 1 1, 3) := by decide +kernel
theorem dX9_findHang_111 : decode cX9_findHang 111 = .ok (.aload_n 0, 1) := by decide +kernel
theorem dX9_findHang_112 : decode cX9_findHang 112 = .ok (.getfield 38, 3) := by decide +kernel
theorem dX9_findHang_115 : decode cX9_findHang 115 = .ok (.iload_n 1, 1) := by decide +kernel
theorem dX9_findHang_116 : decode cX9_findHang 116 = .ok (.iconst (-1), 1) := by decide +kernel
theorem dX9_findHang_117 : decode cX9_findHang 117 = .ok (.iastore, 1) := by decide +kernel
theorem dX9_findHang_118 : decode cX9_findHang 118 = .ok (.iload_n 1, 1) := by decide +kernel
theorem dX9_findHang_119 : decode cX9_findHang 119 = .ok (.ifCond .lt 7, 3) := by decide +kernel
theorem dX9_findHang_122 : decode cX9_findHang 122 = .ok (.iconst 1, 1) := by decide +kernel
theorem dX9_findHang_123 : decode cX9_findHang 123 = .ok (.goto 4, 3) := by decide +kernel
theorem dX9_findHang_126 : decode cX9_findHang 126 = .ok (.iconst 0, 1) := by decide +kernel
theorem dX9_findHang_127 : decode cX9_findHang 127 = .ok (.istore_n 2, 1) := by decide +kernel
theorem dX9_findHang_128 : decode cX9_findHang 128 = .ok (.goto (-83), 3) := by decide +kernel
theorem dX9_findHang_131 : decode cX9_findHang 131 = .ok (.return_, 1) := by decide +kernel
theorem dX9_takes_0 : decode cX9_takes 0 = .ok (.iconst 0, 1) := by decide +kernel
theorem dX9_takes_1 : decode cX9_takes 1 = .ok (.istore_n 1, 1) := by decide +kernel
theorem dX9_takes_2 : decode cX9_takes 2 = .ok (.iconst 0, 1) := by decide +kernel
theorem dX9_takes_3 : decode cX9_takes 3 = .ok (.istore_n 2, 1) := by decide +kernel
theorem dX9_takes_4 : decode cX9_takes 4 = .ok (.iload_n 2, 1) := by decide +kernel
theorem dX9_takes_5 : decode cX9_takes 5 = .ok (.aload_n 0, 1) := by decide +kernel
theorem dX9_takes_6 : decode cX9_takes 6 = .ok (.getfield 7, 3) := by decide +kernel
theorem dX9_takes_9 : decode cX9_takes 9 = .ok (.iconst 4, 1) := by decide +kernel
theorem dX9_takes_10 : decode cX9_takes 10 = .ok (.iaload, 1) := by decide +kernel
theorem dX9_takes_11 : decode cX9_takes 11 = .ok (.if_icmp .ge 17, 3) := by decide +kernel
theorem dX9_takes_14 : decode cX9_takes 14 = .ok (.iload_n 1, 1) := by decide +kernel
theorem dX9_takes_15 : decode cX9_takes 15 = .ok (.aload_n 0, 1) := by decide +kernel
theorem dX9_takes_16 : decode cX9_takes 16 = .ok (.iload_n 2, 1) := by decide +kernel
theorem dX9_takes_17 : decode cX9_takes 17 = .ok (.invokevirtual 131, 3) := by decide +kernel
theorem dX9_takes_20 : decode cX9_takes 20 = .ok (.iadd, 1) := by decide +kernel
theorem dX9_takes_21 : decode cX9_takes 21 = .ok (.istore_n 1, 1) := by decide +kernel
theorem dX9_takes_22 : decode cX9_takes 22 = .ok (.iinc 2 1, 3) := by decide +kernel
theorem dX9_takes_25 : decode cX9_takes 25 = .ok (.goto (-21), 3) := by decide +kernel
theorem dX9_takes_28 : decode cX9_takes 28 = .ok (.iload_n 1, 1) := by decide +kernel
theorem dX9_takes_29 : decode cX9_takes 29 = .ok (.aload_n 0, 1) := by decide +kernel
theorem dX9_takes_30 : decode cX9_takes 30 = .ok (.getfield 122, 3) := by decide +kernel
theorem dX9_takes_33 : decode cX9_takes 33 = .ok (.if_icmp .le 33, 3) := by decide +kernel
theorem dX9_takes_36 : decode cX9_takes 36 = .ok (.aload_n 0, 1) := by decide +kernel
theorem dX9_takes_37 : decode cX9_takes 37 = .ok (.iload_n 1, 1) := by decide +kernel
theorem dX9_takes_38 : decode cX9_takes 38 = .ok (.putfield 122, 3) := by decide +kernel
theorem dX9_takes_41 : decode cX9_takes 41 = .ok (.iconst 0, 1) := by decide +kernel
theorem dX9_takes_42 : decode cX9_takes 42 = .ok (.istore_n 2, 1) := by decide +kernel
theorem dX9_takes_43 : decode cX9_takes 43 = .ok (.iload_n 2, 1) := by decide +kernel
theorem dX9_takes_44 : decode cX9_takes 44 = .ok (.iconst 5, 1) := by decide +kernel
theorem dX9_takes_45 : decode cX9_takes 45 = .ok (.if_icmp .ge 21, 3) := by decide +kernel
theorem dX9_takes_48 : decode cX9_takes 48 = .ok (.aload_n 0, 1) := by decide +kernel
theorem dX9_takes_49 : decode cX9_takes 49 = .ok (.getfield 41, 3) := by decide +kernel
theorem dX9_takes_52 : decode cX9_takes 52 = .ok (.iload_n 2, 1) := by decide +kernel
theorem dX9_takes_53 : decode cX9_takes 53 = .ok (.aload_n 0, 1) := by decide +kernel
theorem dX9_takes_54 : decode cX9_takes 54 = .ok (.getfield 38, 3) := by decide +kernel
theorem dX9_takes_57 : decode cX9_takes 57 = .ok (.iload_n 2, 1) := by decide +kernel
theorem dX9_takes_58 : decode cX9_takes 58 = .ok (.iaload, 1) := by decide +kernel
theorem dX9_takes_59 : decode cX9_takes 59 = .ok (.iastore, 1) := by decide +kernel
theorem dX9_takes_60 : decode cX9_takes 60 = .ok (.iinc 2 1, 3) := by decide +kernel
theorem dX9_takes_63 : decode cX9_takes 63 = .ok (.goto (-20), 3) := by decide +kernel
theorem dX9_takes_66 : decode cX9_takes 66 = .ok (.return_, 1) := by decide +kernel
theorem dX9_hung_0 : decode cX9_hung 0 = .ok (.aload_n 0, 1) := by decide +kernel
theorem dX9_hung_1 : decode cX9_hung 1 = .ok (.iconst 4, 1) := by decide +kernel
theorem dX9_hung_2 : decode cX9_hung 2 = .ok (.iload_n 1, 1) := by decide +kernel
theorem dX9_hung_3 : decode cX9_hung 3 = .ok (.invokevirtual 55, 3) := by decide +kernel
theorem dX9_hung_6 : decode cX9_hung 6 = .ok (.ifCond .ne 5, 3) := by decide +kernel
theorem dX9_hung_9 : decode cX9_hung 9 = .ok (.iconst (-1), 1) := by decide +kernel
theorem dX9_hung_10 : decode cX9_hung 10 = .ok (.ireturn, 1) := by decide +kernel
theorem dX9_hung_11 : decode cX9_hung 11 = .ok (.aload_n 0, 1) := by decide +kernel
theorem dX9_hung_12 : decode cX9_hung 12 = .ok (.invokevirtual 134, 3) := by decide +kernel
theorem dX9_hung_15 : decode cX9_hung 15 = .ok (.aload_n 0, 1) := by decide +kernel
theorem dX9_hung_16 : decode cX9_hung 16 = .ok (.getfield 41, 3) := by decide +kernel
theorem dX9_hung_19 : decode cX9_hung 19 = .ok (.iload_n 1, 1) := by decide +kernel
theorem dX9_hung_20 : decode cX9_hung 20 = .ok (.iaload, 1) := by decide +kernel
theorem dX9_hung_21 : decode cX9_hung 21 = .ok (.aload_n 0, 1) := by decide +kernel
theorem dX9_hung_22 : decode cX9_hung 22 = .ok (.getfield 7, 3) := by decide +kernel
theorem dX9_hung_25 : decode cX9_hung 25 = .ok (.iconst 1, 1) := by decide +kernel
theorem dX9_hung_26 : decode cX9_hung 26 = .ok (.iaload, 1) := by decide +kernel
theorem dX9_hung_27 : decode cX9_hung 27 = .ok (.if_icmp .ne 8, 3) := by decide +kernel
theorem dX9_hung_30 : decode cX9_hung 30 = .ok (.bipush (-4), 2) := by decide +kernel
theorem dX9_hung_32 : decode cX9_hung 32 = .ok (.goto 9, 3) := by decide +kernel
theorem dX9_hung_35 : decode cX9_hung 35 = .ok (.aload_n 0, 1) := by decide +kernel
theorem dX9_hung_36 : decode cX9_hung 36 = .ok (.getfield 41, 3) := by decide +kernel
theorem dX9_hung_39 : decode cX9_hung 39 = .ok (.iload_n 1, 1) := by decide +kernel
theorem dX9_hung_40 : decode cX9_hung 40 = .ok (.iaload, 1) := by decide +kernel
theorem dX9_hung_41 : decode cX9_hung 41 = .ok (.ireturn, 1) := by decide +kernel
theorem dX9_worth_0 : decode cX9_worth 0 = .ok (.aload_n 0, 1) := by decide +kernel
theorem dX9_worth_1 : decode cX9_worth 1 = .ok (.invokevirtual 134, 3) := by decide +kernel
theorem dX9_worth_4 : decode cX9_worth 4 = .ok (.aload_n 0, 1) := by decide +kernel
theorem dX9_worth_5 : decode cX9_worth 5 = .ok (.getfield 122, 3) := by decide +kernel
theorem dX9_worth_8 : decode cX9_worth 8 = .ok (.ireturn, 1) := by decide +kernel
theorem dX9_spares_0 : decode cX9_spares 0 = .ok (.aload_n 0, 1) := by decide +kernel
theorem dX9_spares_1 : decode cX9_spares 1 = .ok (.iconst 1, 1) := by decide +kernel
theorem dX9_spares_2 : decode cX9_spares 2 = .ok (.iload_n 1, 1) := by decide +kernel
theorem dX9_spares_3 : decode cX9_spares 3 = .ok (.invokevirtual 55, 3) := by decide +kernel
theorem dX9_spares_6 : decode cX9_spares 6 = .ok (.ifCond .ne 6, 3) := by decide +kernel
theorem dX9_spares_9 : decode cX9_spares 9 = .ok (.ldc 114, 2) := by decide +kernel
theorem dX9_spares_11 : decode cX9_spares 11 = .ok (.ireturn, 1) := by decide +kernel
theorem dX9_spares_12 : decode cX9_spares 12 = .ok (.aload_n 0, 1) := by decide +kernel
theorem dX9_spares_13 : decode cX9_spares 13 = .ok (.invokevirtual 134, 3) := by decide +kernel
theorem dX9_spares_16 : decode cX9_spares 16 = .ok (.aload_n 0, 1) := by decide +kernel
theorem dX9_spares_17 : decode cX9_spares 17 = .ok (.iload_n 1, 1) := by decide +kernel
theorem dX9_spares_18 : decode cX9_spares 18 = .ok (.invokevirtual 111, 3) := by decide +kernel
theorem dX9_spares_21 : decode cX9_spares 21 = .ok (.istore_n 2, 1) := by decide +kernel
theorem dX9_spares_22 : decode cX9_spares 22 = .ok (.iconst 0, 1) := by decide +kernel
theorem dX9_spares_23 : decode cX9_spares 23 = .ok (.istore_n 3, 1) := by decide +kernel
theorem dX9_spares_24 : decode cX9_spares 24 = .ok (.iload_n 3, 1) := by decide +kernel
theorem dX9_spares_25 : decode cX9_spares 25 = .ok (.aload_n 0, 1) := by decide +kernel
theorem dX9_spares_26 : decode cX9_spares 26 = .ok (.getfield 7, 3) := by decide +kernel
theorem dX9_spares_29 : decode cX9_spares 29 = .ok (.iconst 4, 1) := by decide +kernel
theorem dX9_spares_30 : decode cX9_spares 30 = .ok (.iaload, 1) := by decide +kernel
theorem dX9_spares_31 : decode cX9_spares 31 = .ok (.if_icmp .ge 49, 3) := by decide +kernel
theorem dX9_spares_34 : decode cX9_spares 34 = .ok (.iload_n 2, 1) := by decide +kernel
theorem dX9_spares_35 : decode cX9_spares 35 = .ok (.aload_n 0, 1) := by decide +kernel
theorem dX9_spares_36 : decode cX9_spares 36 = .ok (.getfield 41, 3) := by decide +kernel
theorem dX9_spares_39 : decode cX9_spares 39 = .ok (.iload_n 3, 1) := by decide +kernel
theorem dX9_spares_40 : decode cX9_spares 40 = .ok (.iaload, 1) := by decide +kernel
theorem dX9_spares_41 : decode cX9_spares 41 = .ok (.iload_n 1, 1) := by decide +kernel
theorem dX9_spares_42 : decode cX9_spares 42 = .ok (.if_icmp .ne 29, 3) := by decide +kernel
theorem dX9_spares_45 : decode cX9_spares 45 = .ok (.aload_n 0, 1) := by decide +kernel
theorem dX9_spares_46 : decode cX9_spares 46 = .ok (.aload_n 0, 1) := by decide +kernel
theorem dX9_spares_47 : decode cX9_spares 47 = .ok (.getfield 28, 3) := by decide +kernel
theorem dX9_spares_50 : decode cX9_spares 50 = .ok (.iconst 3, 1) := by decide +kernel
theorem dX9_spares_51 : decode cX9_spares 51 = .ok (.iload_n 3, 1) := by decide +kernel
theorem dX9_spares_52 : decode cX9_spares 52 = .ok (.imul, 1) := by decide +kernel
theorem dX9_spares_53 : decode cX9_spares 53 = .ok (.iaload, 1) := by decide +kernel
theorem dX9_spares_54 : decode cX9_spares 54 = .ok (.aload_n 0, 1) := by decide +kernel
theorem dX9_spares_55 : decode cX9_spares 55 = .ok (.getfield 28, 3) := by decide +kernel
theorem dX9_spares_58 : decode cX9_spares 58 = .ok (.iconst 3, 1) := by decide +kernel
theorem dX9_spares_59 : decode cX9_spares 59 = .ok (.iload_n 3, 1) := by decide +kernel
theorem dX9_spares_60 : decode cX9_spares 60 = .ok (.imul, 1) := by decide +kernel
theorem dX9_spares_61 : decode cX9_spares 61 = .ok (.iconst 1, 1) := by decide +kernel
theorem dX9_spares_62 : decode cX9_spares 62 = .ok (.iadd, 1) := by decide +kernel
theorem dX9_spares_63 : decode cX9_spares 63 = .ok (.iaload, 1) := by decide +kernel
theorem dX9_spares_64 : decode cX9_spares 64 = .ok (.iconst 1, 1) := by decide +kernel
theorem dX9_spares_65 : decode cX9_spares 65 = .ok (.invokevirtual 63, 3) := by decide +kernel
theorem dX9_spares_68 : decode cX9_spares 68 = .ok (.goto 4, 3) := by decide +kernel
theorem dX9_spares_71 : decode cX9_spares 71 = .ok (.iconst 0, 1) := by decide +kernel
theorem dX9_spares_72 : decode cX9_spares 72 = .ok (.isub, 1) := by decide +kernel
theorem dX9_spares_73 : decode cX9_spares 73 = .ok (.istore_n 2, 1) := by decide +kernel
theorem dX9_spares_74 : decode cX9_spares 74 = .ok (.iinc 3 1, 3) := by decide +kernel
theorem dX9_spares_77 : decode cX9_spares 77 = .ok (.goto (-53), 3) := by decide +kernel
theorem dX9_spares_80 : decode cX9_spares 80 = .ok (.iload_n 2, 1) := by decide +kernel
theorem dX9_spares_81 : decode cX9_spares 81 = .ok (.ireturn, 1) := by decide +kernel
theorem dX9_hang_0 : decode cX9_hang 0 = .ok (.aload_n 0, 1) := by decide +kernel
theorem dX9_hang_1 : decode cX9_hang 1 = .ok (.invokevirtual 134, 3) := by decide +kernel
theorem dX9_hang_4 : decode cX9_hang 4 = .ok (.iconst 0, 1) := by decide +kernel
theorem dX9_hang_5 : decode cX9_hang 5 = .ok (.istore_n 1, 1) := by decide +kernel
theorem dX9_hang_6 : decode cX9_hang 6 = .ok (.iconst 0, 1) := by decide +kernel
theorem dX9_hang_7 : decode cX9_hang 7 = .ok (.istore_n 2, 1) := by decide +kernel
theorem dX9_hang_8 : decode cX9_hang 8 = .ok (.iload_n 2, 1) := by decide +kernel
theorem dX9_hang_9 : decode cX9_hang 9 = .ok (.aload_n 0, 1) := by decide +kernel
theorem dX9_hang_10 : decode cX9_hang 10 = .ok (.getfield 7, 3) := by decide +kernel
theorem dX9_hang_13 : decode cX9_hang 13 = .ok (.iconst 4, 1) := by decide +kernel
theorem dX9_hang_14 : decode cX9_hang 14 = .ok (.iaload, 1) := by decide +kernel
theorem dX9_hang_15 : decode cX9_hang 15 = .ok (.if_icmp .ge 32, 3) := by decide +kernel
theorem dX9_hang_18 : decode cX9_hang 18 = .ok (.iload_n 1, 1) := by decide +kernel
theorem dX9_hang_19 : decode cX9_hang 19 = .ok (.aload_n 0, 1) := by decide +kernel
theorem dX9_hang_20 : decode cX9_hang 20 = .ok (.getfield 41, 3) := by decide +kernel
theorem dX9_hang_23 : decode cX9_hang 23 = .ok (.iload_n 2, 1) := by decide +kernel
theorem dX9_hang_24 : decode cX9_hang 24 = .ok (.iaload, 1) := by decide +kernel
theorem dX9_hang_25 : decode cX9_hang 25 = .ok (.aload_n 0, 1) := by decide +kernel
theorem dX9_hang_26 : decode cX9_hang 26 = .ok (.getfield 7, 3) := by decide +kernel
theorem dX9_hang_29 : decode cX9_hang 29 = .ok (.iconst 1, 1) := by decide +kernel
theorem dX9_hang_30 : decode cX9_hang 30 = .ok (.iaload, 1) := by decide +kernel
theorem dX9_hang_31 : decode cX9_hang 31 = .ok (.if_icmp .ne 7, 3) := by decide +kernel
theorem dX9_hang_34 : decode cX9_hang 34 = .ok (.iconst 0, 1) := by decide +kernel
theorem dX9_hang_35 : decode cX9_hang 35 = .ok (.goto 4, 3) := by decide +kernel
theorem dX9_hang_38 : decode cX9_hang 38 = .ok (.iconst 1, 1) := by decide +kernel
theorem dX9_hang_39 : decode cX9_hang 39 = .ok (.iadd, 1) := by decide +kernel
theorem dX9_hang_40 : decode cX9_hang 40 = .ok (.istore_n 1, 1) := by decide +kernel
theorem dX9_hang_41 : decode cX9_hang 41 = .ok (.iinc 2 1, 3) := by decide +kernel
theorem dX9_hang_44 : decode cX9_hang 44 = .ok (.goto (-36), 3) := by decide +kernel
theorem dX9_hang_47 : decode cX9_hang 47 = .ok (.aload_n 0, 1) := by decide +kernel
theorem dX9_hang_48 : decode cX9_hang 48 = .ok (.getfield 7, 3) := by decide +kernel
theorem dX9_hang_51 : decode cX9_hang 51 = .ok (.iconst 2, 1) := by decide +kernel
theorem dX9_hang_52 : decode cX9_hang 52 = .ok (.iaload, 1) := by decide +kernel
theorem dX9_hang_53 : decode cX9_hang 53 = .ok (.iload_n 1, 1) := by decide +kernel
theorem dX9_hang_54 : decode cX9_hang 54 = .ok (.iadd, 1) := by decide +kernel
theorem dX9_hang_55 : decode cX9_hang 55 = .ok (.bipush 30, 2) := by decide +kernel
theorem dX9_hang_57 : decode cX9_hang 57 = .ok (.if_icmp .le 6, 3) := by decide +kernel
theorem dX9_hang_60 : decode cX9_hang 60 = .ok (.bipush (-2), 2) := by decide +kernel
theorem dX9_hang_62 : decode cX9_hang 62 = .ok (.ireturn, 1) := by decide +kernel
theorem dX9_hang_63 : decode cX9_hang 63 = .ok (.iconst 0, 1) := by decide +kernel
theorem dX9_hang_64 : decode cX9_hang 64 = .ok (.istore_n 2, 1) := by decide +kernel
theorem dX9_hang_65 : decode cX9_hang 65 = .ok (.iload_n 2, 1) := by decide +kernel
theorem dX9_hang_66 : decode cX9_hang 66 = .ok (.aload_n 0, 1) := by decide +kernel
theorem dX9_hang_67 : decode cX9_hang 67 = .ok (.getfield 7, 3) := by decide +kernel
theorem dX9_hang_70 : decode cX9_hang 70 = .ok (.iconst 4, 1) := by decide +kernel
theorem dX9_hang_71 : decode cX9_hang 71 = .ok (.iaload, 1) := by decide +kernel
theorem dX9_hang_72 : decode cX9_hang 72 = .ok (.if_icmp .ge 54, 3) := by decide +kernel
theorem dX9_hang_75 : decode cX9_hang 75 = .ok (.aload_n 0, 1) := by decide +kernel
theorem dX9_hang_76 : decode cX9_hang 76 = .ok (.getfield 41, 3) := by decide +kernel
theorem dX9_hang_79 : decode cX9_hang 79 = .ok (.iload_n 2, 1) := by decide +kernel
theorem dX9_hang_80 : decode cX9_hang 80 = .ok (.iaload, 1) := by decide +kernel
theorem dX9_hang_81 : decode cX9_hang 81 = .ok (.aload_n 0, 1) := by decide +kernel
theorem dX9_hang_82 : decode cX9_hang 82 = .ok (.getfield 7, 3) := by decide +kernel
theorem dX9_hang_85 : decode cX9_hang 85 = .ok (.iconst 1, 1) := by decide +kernel
theorem dX9_hang_86 : decode cX9_hang 86 = .ok (.iaload, 1) := by decide +kernel
theorem dX9_hang_87 : decode cX9_hang 87 = .ok (.if_icmp .ge 33, 3) := by decide +kernel
theorem dX9_hang_90 : decode cX9_hang 90 = .ok (.aload_n 0, 1) := by decide +kernel
theorem dX9_hang_91 : decode cX9_hang 91 = .ok (.aload_n 0, 1) := by decide +kernel
theorem dX9_hang_92 : decode cX9_hang 92 = .ok (.getfield 41, 3) := by decide +kernel
theorem dX9_hang_95 : decode cX9_hang 95 = .ok (.iload_n 2, 1) := by decide +kernel
theorem dX9_hang_96 : decode cX9_hang 96 = .ok (.iaload, 1) := by decide +kernel
theorem dX9_hang_97 : decode cX9_hang 97 = .ok (.aload_n 0, 1) := by decide +kernel
theorem dX9_hang_98 : decode cX9_hang 98 = .ok (.getfield 28, 3) := by decide +kernel
theorem dX9_hang_101 : decode cX9_hang 101 = .ok (.iconst 3, 1) := by decide +kernel
theorem dX9_hang_102 : decode cX9_hang 102 = .ok (.iload_n 2, 1) := by decide +kernel
theorem dX9_hang_103 : decode cX9_hang 103 = .ok (.imul, 1) := by decide +kernel
theorem dX9_hang_104 : decode cX9_hang 104 = .ok (.iaload, 1) := by decide +kernel
theorem dX9_hang_105 : decode cX9_hang 105 = .ok (.aload_n 0, 1) := by decide +kernel
theorem dX9_hang_106 : decode cX9_hang 106 = .ok (.getfield 28, 3) := by decide +kernel
theorem dX9_hang_109 : decode cX9_hang 109 = .ok (.iconst 3, 1) := by decide +kernel
theorem dX9_hang_110 : decode cX9_hang 110 = .ok (.iload_n 2, 1) := by decide +kernel
theorem dX9_hang_111 : decode cX9_hang 111 = .ok (.imul, 1) := by decide +kernel
theorem dX9_hang_112 : decode cX9_hang 112 = .ok (.iconst 1, 1) := by decide +kernel
theorem dX9_hang_113 : decode cX9_hang 113 = .ok (.iadd, 1) := by decide +kernel
theorem dX9_hang_114 : decode cX9_hang 114 = .ok (.iaload, 1) := by decide +kernel
theorem dX9_hang_115 : decode cX9_hang 115 = .ok (.iconst 0, 1) := by decide +kernel
theorem dX9_hang_116 : decode cX9_hang 116 = .ok (.invokevirtual 107, 3) := by decide +kernel
theorem dX9_hang_119 : decode cX9_hang 119 = .ok (.istore_n 3, 1) := by decide +kernel
theorem dX9_hang_120 : decode cX9_hang 120 = .ok (.iinc 2 1, 3) := by decide +kernel
theorem dX9_hang_123 : decode cX9_hang 123 = .ok (.goto (-58), 3) := by decide +kernel
theorem dX9_hang_126 : decode cX9_hang 126 = .ok (.aload_n 0, 1) := by decide +kernel
theorem dX9_hang_127 : decode cX9_hang 127 = .ok (.getfield 7, 3) := by decide +kernel
theorem dX9_hang_130 : decode cX9_hang 130 = .ok (.iconst 4, 1) := by decide +kernel
theorem dX9_hang_131 : decode cX9_hang 131 = .ok (.iconst 0, 1) := by decide +kernel
theorem dX9_hang_132 : decode cX9_hang 132 = .ok (.iastore, 1) := by decide +kernel
theorem dX9_hang_133 : decode cX9_hang 133 = .ok (.iload_n 1, 1) := by decide +kernel
theorem dX9_hang_134 : decode cX9_hang 134 = .ok (.ireturn, 1) := by decide +kernel
theorem dX9_cancelled_0 : decode cX9_cancelled 0 = .ok (.iconst 0, 1) := by decide +kernel
theorem dX9_cancelled_1 : decode cX9_cancelled 1 = .ok (.istore_n 1, 1) := by decide +kernel
theorem dX9_cancelled_2 : decode cX9_cancelled 2 = .ok (.iconst 0, 1) := by decide +kernel
theorem dX9_cancelled_3 : decode cX9_cancelled 3 = .ok (.istore_n 2, 1) := by decide +kernel
theorem dX9_cancelled_4 : decode cX9_cancelled 4 = .ok (.iload_n 2, 1) := by decide +kernel
theorem dX9_cancelled_5 : decode cX9_cancelled 5 = .ok (.aload_n 0, 1) := by decide +kernel
theorem dX9_cancelled_6 : decode cX9_cancelled 6 = .ok (.getfield 7, 3) := by decide +kernel
theorem dX9_cancelled_9 : decode cX9_cancelled 9 = .ok (.iconst 2, 1) := by decide +kernel
theorem dX9_cancelled_10 : decode cX9_cancelled 10 = .ok (.iaload, 1) := by decide +kernel
theorem dX9_cancelled_11 : decode cX9_cancelled 11 = .ok (.if_icmp .ge 22, 3) := by decide +kernel
theorem dX9_cancelled_14 : decode cX9_cancelled 14 = .ok (.iload_n 1, 1) := by decide +kernel
theorem dX9_cancelled_15 : decode cX9_cancelled 15 = .ok (.aload_n 0, 1) := by decide +kernel
theorem dX9_cancelled_16 : decode cX9_cancelled 16 = .ok (.getfield 22, 3) := by decide +kernel
theorem dX9_cancelled_19 : decode cX9_cancelled 19 = .ok (.iconst 5, 1) := by decide +kernel
theorem dX9_cancelled_20 : decode cX9_cancelled 20 = .ok (.iload_n 2, 1) := by decide +kernel
theorem dX9_cancelled_21 : decode cX9_cancelled 21 = .ok (.imul, 1) := by decide +kernel
theorem dX9_cancelled_22 : decode cX9_cancelled 22 = .ok (.iconst 4, 1) := by decide +kernel
theorem dX9_cancelled_23 : decode cX9_cancelled 23 = .ok (.iadd, 1) := by decide +kernel
theorem dX9_cancelled_24 : decode cX9_cancelled 24 = .ok (.iaload, 1) := by decide +kernel
theorem dX9_cancelled_25 : decode cX9_cancelled 25 = .ok (.iadd, 1) := by decide +kernel
theorem dX9_cancelled_26 : decode cX9_cancelled 26 = .ok (.istore_n 1, 1) := by decide +kernel
theorem dX9_cancelled_27 : decode cX9_cancelled 27 = .ok (.iinc 2 1, 3) := by decide +kernel
theorem dX9_cancelled_30 : decode cX9_cancelled 30 = .ok (.goto (-26), 3) := by decide +kernel
theorem dX9_cancelled_33 : decode cX9_cancelled 33 = .ok (.iload_n 1, 1) := by decide +kernel
theorem dX9_cancelled_34 : decode cX9_cancelled 34 = .ok (.ireturn, 1) := by decide +kernel
theorem dX9_quarrels_0 : decode cX9_quarrels 0 = .ok (.iconst 0, 1) := by decide +kernel
theorem dX9_quarrels_1 : decode cX9_quarrels 1 = .ok (.istore_n 1, 1) := by decide +kernel
theorem dX9_quarrels_2 : decode cX9_quarrels 2 = .ok (.iconst 0, 1) := by decide +kernel
theorem dX9_quarrels_3 : decode cX9_quarrels 3 = .ok (.istore_n 2, 1) := by decide +kernel
theorem dX9_quarrels_4 : decode cX9_quarrels 4 = .ok (.iload_n 2, 1) := by decide +kernel
theorem dX9_quarrels_5 : decode cX9_quarrels 5 = .ok (.aload_n 0, 1) := by decide +kernel
theorem dX9_quarrels_6 : decode cX9_quarrels 6 = .ok (.getfield 7, 3) := by decide +kernel
theorem dX9_quarrels_9 : decode cX9_quarrels 9 = .ok (.iconst 1, 1) := by decide +kernel
theorem dX9_quarrels_10 : decode cX9_quarrels 10 = .ok (.iaload, 1) := by decide +kernel
theorem dX9_quarrels_11 : decode cX9_quarrels 11 = .ok (.if_icmp .ge 18, 3) := by decide +kernel
theorem dX9_quarrels_14 : decode cX9_quarrels 14 = .ok (.iload_n 1, 1) := by decide +kernel
theorem dX9_quarrels_15 : decode cX9_quarrels 15 = .ok (.aload_n 0, 1) := by decide +kernel
theorem dX9_quarrels_16 : decode cX9_quarrels 16 = .ok (.iload_n 2, 1) := by decide +kernel
theorem dX9_quarrels_17 : decode cX9_quarrels 17 = .ok (.iconst 5, 1) := by decide +kernel
theorem dX9_quarrels_18 : decode cX9_quarrels 18 = .ok (.invokevirtual 137, 3) := by decide +kernel
theorem dX9_quarrels_21 : decode cX9_quarrels 21 = .ok (.iadd, 1) := by decide +kernel
theorem dX9_quarrels_22 : decode cX9_quarrels 22 = .ok (.istore_n 1, 1) := by decide +kernel
theorem dX9_quarrels_23 : decode cX9_quarrels 23 = .ok (.iinc 2 1, 3) := by decide +kernel
theorem dX9_quarrels_26 : decode cX9_quarrels 26 = .ok (.goto (-22), 3) := by decide +kernel
theorem dX9_quarrels_29 : decode cX9_quarrels 29 = .ok (.iload_n 1, 1) := by decide +kernel
theorem dX9_quarrels_30 : decode cX9_quarrels 30 = .ok (.ireturn, 1) := by decide +kernel
theorem dX9_overspent_0 : decode cX9_overspent 0 = .ok (.iconst 0, 1) := by decide +kernel
theorem dX9_overspent_1 : decode cX9_overspent 1 = .ok (.istore_n 1, 1) := by decide +kernel
theorem dX9_overspent_2 : decode cX9_overspent 2 = .ok (.iconst 0, 1) := by decide +kernel
theorem dX9_overspent_3 : decode cX9_overspent 3 = .ok (.istore_n 2, 1) := by decide +kernel
theorem dX9_overspent_4 : decode cX9_overspent 4 = .ok (.iload_n 2, 1) := by decide +kernel
theorem dX9_overspent_5 : decode cX9_overspent 5 = .ok (.aload_n 0, 1) := by decide +kernel
theorem dX9_overspent_6 : decode cX9_overspent 6 = .ok (.getfield 7, 3) := by decide +kernel
theorem dX9_overspent_9 : decode cX9_overspent 9 = .ok (.iconst 1, 1) := by decide +kernel
theorem dX9_overspent_10 : decode cX9_overspent 10 = .ok (.iaload, 1) := by decide +kernel
theorem dX9_overspent_11 : decode cX9_overspent 11 = .ok (.if_icmp .ge 25, 3) := by decide +kernel
theorem dX9_overspent_14 : decode cX9_overspent 14 = .ok (.iload_n 1, 1) := by decide +kernel
theorem dX9_overspent_15 : decode cX9_overspent 15 = .ok (.aload_n 0, 1) := by decide +kernel
theorem dX9_overspent_16 : decode cX9_overspent 16 = .ok (.iload_n 2, 1) := by decide +kernel
theorem dX9_overspent_17 : decode cX9_overspent 17 = .ok (.invokevirtual 111, 3) := by decide +kernel
theorem dX9_overspent_20 : decode cX9_overspent 20 = .ok (.ifCond .ge 7, 3) := by decide +kernel
theorem dX9_overspent_23 : decode cX9_overspent 23 = .ok (.iconst 1, 1) := by decide +kernel
theorem dX9_overspent_24 : decode cX9_overspent 24 = .ok (.goto 4, 3) := by decide +kernel
theorem dX9_overspent_27 : decode cX9_overspent 27 = .ok (.iconst 0, 1) := by decide +kernel
theorem dX9_overspent_28 : decode cX9_overspent 28 = .ok (.iadd, 1) := by decide +kernel
theorem dX9_overspent_29 : decode cX9_overspent 29 = .ok (.istore_n 1, 1) := by decide +kernel
theorem dX9_overspent_30 : decode cX9_overspent 30 = .ok (.iinc 2 1, 3) := by decide +kernel
theorem dX9_overspent_33 : decode cX9_overspent 33 = .ok (.goto (-29), 3) := by decide +kernel
theorem dX9_overspent_36 : decode cX9_overspent 36 = .ok (.iload_n 1, 1) := by decide +kernel
theorem dX9_overspent_37 : decode cX9_overspent 37 = .ok (.ireturn, 1) := by decide +kernel
theorem dX9_readMany_0 : decode cX9_readMany 0 = .ok (.iconst 0, 1) := by decide +kernel
theorem dX9_readMany_1 : decode cX9_readMany 1 = .ok (.istore_n 1, 1) := by decide +kernel
theorem dX9_readMany_2 : decode cX9_readMany 2 = .ok (.iconst 0, 1) := by decide +kernel
theorem dX9_readMany_3 : decode cX9_readMany 3 = .ok (.istore_n 2, 1) := by decide +kernel
theorem dX9_readMany_4 : decode cX9_readMany 4 = .ok (.iload_n 2, 1) := by decide +kernel
theorem dX9_readMany_5 : decode cX9_readMany 5 = .ok (.bipush 10, 2) := by decide +kernel
theorem dX9_readMany_7 : decode cX9_readMany 7 = .ok (.aload_n 0, 1) := by decide +kernel
theorem dX9_readMany_8 : decode cX9_readMany 8 = .ok (.getfield 7, 3) := by decide +kernel
theorem dX9_readMany_11 : decode cX9_readMany 11 = .ok (.iconst 0, 1) := by decide +kernel
theorem dX9_readMany_12 : decode cX9_readMany 12 = .ok (.iaload, 1) := by decide +kernel
theorem dX9_readMany_13 : decode cX9_readMany 13 = .ok (.imul, 1) := by decide +kernel
theorem dX9_readMany_14 : decode cX9_readMany 14 = .ok (.if_icmp .ge 26, 3) := by decide +kernel
theorem dX9_readMany_17 : decode cX9_readMany 17 = .ok (.iload_n 1, 1) := by decide +kernel
theorem dX9_readMany_18 : decode cX9_readMany 18 = .ok (.aload_n 0, 1) := by decide +kernel
theorem dX9_readMany_19 : decode cX9_readMany 19 = .ok (.getfield 16, 3) := by decide +kernel
theorem dX9_readMany_22 : decode cX9_readMany 22 = .ok (.iload_n 2, 1) := by decide +kernel
theorem dX9_readMany_23 : decode cX9_readMany 23 = .ok (.iaload, 1) := by decide +kernel
theorem dX9_readMany_24 : decode cX9_readMany 24 = .ok (.ifCond .lt 7, 3) := by decide +kernel
theorem dX9_readMany_27 : decode cX9_readMany 27 = .ok (.iconst 1, 1) := by decide +kernel
theorem dX9_readMany_28 : decode cX9_readMany 28 = .ok (.goto 4, 3) := by decide +kernel
theorem dX9_readMany_31 : decode cX9_readMany 31 = .ok (.iconst 0, 1) := by decide +kernel
theorem dX9_readMany_32 : decode cX9_readMany 32 = .ok (.iadd, 1) := by decide +kernel
theorem dX9_readMany_33 : decode cX9_readMany 33 = .ok (.istore_n 1, 1) := by decide +kernel
theorem dX9_readMany_34 : decode cX9_readMany 34 = .ok (.iinc 2 1, 3) := by decide +kernel
theorem dX9_readMany_37 : decode cX9_readMany 37 = .ok (.goto (-33), 3) := by decide +kernel
theorem dX9_readMany_40 : decode cX9_readMany 40 = .ok (.iload_n 1, 1) := by decide +kernel
theorem dX9_readMany_41 : decode cX9_readMany 41 = .ok (.ireturn, 1) := by decide +kernel
theorem dX9_many_0 : decode cX9_many 0 = .ok (.iload_n 1, 1) := by decide +kernel
theorem dX9_many_1 : decode cX9_many 1 = .ok (.tableswitch 106 0 8 #[51, 58, 65, 72, 77, 84, 91, 96, 101], 51) := by decide +kernel
theorem dX9_many_52 : decode cX9_many 52 = .ok (.aload_n 0, 1) := by decide +kernel
theorem dX9_many_53 : decode cX9_many 53 = .ok (.getfield 7, 3) := by decide +kernel
theorem dX9_many_56 : decode cX9_many 56 = .ok (.iconst 0, 1) := by decide +kernel
theorem dX9_many_57 : decode cX9_many 57 = .ok (.iaload, 1) := by decide +kernel
theorem dX9_many_58 : decode cX9_many 58 = .ok (.ireturn, 1) := by decide +kernel
theorem dX9_many_59 : decode cX9_many 59 = .ok (.aload_n 0, 1) := by decide +kernel
theorem dX9_many_60 : decode cX9_many 60 = .ok (.getfield 7, 3) := by decide +kernel
theorem dX9_many_63 : decode cX9_many 63 = .ok (.iconst 1, 1) := by decide +kernel
theorem dX9_many_64 : decode cX9_many 64 = .ok (.iaload, 1) := by decide +kernel
theorem dX9_many_65 : decode cX9_many 65 = .ok (.ireturn, 1) := by decide +kernel
theorem dX9_many_66 : decode cX9_many 66 = .ok (.aload_n 0, 1) := by decide +kernel
theorem dX9_many_67 : decode cX9_many 67 = .ok (.getfield 7, 3) := by decide +kernel
theorem dX9_many_70 : decode cX9_many 70 = .ok (.iconst 2, 1) := by decide +kernel
theorem dX9_many_71 : decode cX9_many 71 = .ok (.iaload, 1) := by decide +kernel
theorem dX9_many_72 : decode cX9_many 72 = .ok (.ireturn, 1) := by decide +kernel
theorem dX9_many_73 : decode cX9_many 73 = .ok (.aload_n 0, 1) := by decide +kernel
theorem dX9_many_74 : decode cX9_many 74 = .ok (.invokevirtual 140, 3) := by decide +kernel
theorem dX9_many_77 : decode cX9_many 77 = .ok (.ireturn, 1) := by decide +kernel
theorem dX9_many_78 : decode cX9_many 78 = .ok (.aload_n 0, 1) := by decide +kernel
theorem dX9_many_79 : decode cX9_many 79 = .ok (.getfield 7, 3) := by decide +kernel
theorem dX9_many_82 : decode cX9_many 82 = .ok (.iconst 3, 1) := by decide +kernel
theorem dX9_many_83 : decode cX9_many 83 = .ok (.iaload, 1) := by decide +kernel
theorem dX9_many_84 : decode cX9_many 84 = .ok (.ireturn, 1) := by decide +kernel
theorem dX9_many_85 : decode cX9_many 85 = .ok (.aload_n 0, 1) := by decide +kernel
theorem dX9_many_86 : decode cX9_many 86 = .ok (.getfield 7, 3) := by decide +kernel
theorem dX9_many_89 : decode cX9_many 89 = .ok (.iconst 4, 1) := by decide +kernel
theorem dX9_many_90 : decode cX9_many 90 = .ok (.iaload, 1) := by decide +kernel
theorem dX9_many_91 : decode cX9_many 91 = .ok (.ireturn, 1) := by decide +kernel
theorem dX9_many_92 : decode cX9_many 92 = .ok (.aload_n 0, 1) := by decide +kernel
theorem dX9_many_93 : decode cX9_many 93 = .ok (.invokevirtual 144, 3) := by decide +kernel
theorem dX9_many_96 : decode cX9_many 96 = .ok (.ireturn, 1) := by decide +kernel
theorem dX9_many_97 : decode cX9_many 97 = .ok (.aload_n 0, 1) := by decide +kernel
theorem dX9_many_98 : decode cX9_many 98 = .ok (.invokevirtual 147, 3) := by decide +kernel
theorem dX9_many_101 : decode cX9_many 101 = .ok (.ireturn, 1) := by decide +kernel
theorem dX9_many_102 : decode cX9_many 102 = .ok (.aload_n 0, 1) := by decide +kernel
theorem dX9_many_103 : decode cX9_many 103 = .ok (.invokevirtual 150, 3) := by decide +kernel
theorem dX9_many_106 : decode cX9_many 106 = .ok (.ireturn, 1) := by decide +kernel
theorem dX9_many_107 : decode cX9_many 107 = .ok (.iconst (-1), 1) := by decide +kernel
theorem dX9_many_108 : decode cX9_many 108 = .ok (.ireturn, 1) := by decide +kernel
theorem dX9_move_0 : decode cX9_move 0 = .ok (.iconst 0, 1) := by decide +kernel
theorem dX9_move_1 : decode cX9_move 1 = .ok (.istore 4, 2) := by decide +kernel
theorem dX9_move_3 : decode cX9_move 3 = .ok (.iload 4, 2) := by decide +kernel
theorem dX9_move_5 : decode cX9_move 5 = .ok (.iload_n 2, 1) := by decide +kernel
theorem dX9_move_6 : decode cX9_move 6 = .ok (.if_icmp .ge 52, 3) := by decide +kernel
theorem dX9_move_9 : decode cX9_move 9 = .ok (.iload_n 3, 1) := by decide +kernel
theorem dX9_move_10 : decode cX9_move 10 = .ok (.ifCond .eq 19, 3) := by decide +kernel
theorem dX9_move_13 : decode cX9_move 13 = .ok (.aload_n 0, 1) := by decide +kernel
theorem dX9_move_14 : decode cX9_move 14 = .ok (.getfield 35, 3) := by decide +kernel
theorem dX9_move_17 : decode cX9_move 17 = .ok (.aload_n 0, 1) := by decide +kernel
theorem dX9_move_18 : decode cX9_move 18 = .ok (.getfield 153, 3) := by decide +kernel
theorem dX9_move_21 : decode cX9_move 21 = .ok (.aload_n 1, 1) := by decide +kernel
theorem dX9_move_22 : decode cX9_move 22 = .ok (.iload 4, 2) := by decide +kernel
theorem dX9_move_24 : decode cX9_move 24 = .ok (.iaload, 1) := by decide +kernel
theorem dX9_move_25 : decode cX9_move 25 = .ok (.iastore, 1) := by decide +kernel
theorem dX9_move_26 : decode cX9_move 26 = .ok (.goto 16, 3) := by decide +kernel
theorem dX9_move_29 : decode cX9_move 29 = .ok (.aload_n 1, 1) := by decide +kernel
theorem dX9_move_30 : decode cX9_move 30 = .ok (.iload 4, 2) := by decide +kernel
theorem dX9_move_32 : decode cX9_move 32 = .ok (.aload_n 0, 1) := by decide +kernel
theorem dX9_move_33 : decode cX9_move 33 = .ok (.getfield 35, 3) := by decide +kernel
theorem dX9_move_36 : decode cX9_move 36 = .ok (.aload_n 0, 1) := by decide +kernel
theorem dX9_move_37 : decode cX9_move 37 = .ok (.getfield 153, 3) := by decide +kernel
theorem dX9_move_40 : decode cX9_move 40 = .ok (.iaload, 1) := by decide +kernel
theorem dX9_move_41 : decode cX9_move 41 = .ok (.iastore, 1) := by decide +kernel
theorem dX9_move_42 : decode cX9_move 42 = .ok (.aload_n 0, 1) := by decide +kernel
theorem dX9_move_43 : decode cX9_move 43 = .ok (.dup, 1) := by decide +kernel
theorem dX9_move_44 : decode cX9_move 44 = .ok (.getfield 153, 3) := by decide +kernel
theorem dX9_move_47 : decode cX9_move 47 = .ok (.iconst 1, 1) := by decide +kernel
theorem dX9_move_48 : decode cX9_move 48 = .ok (.iadd, 1) := by decide +kernel
theorem dX9_move_49 : decode cX9_move 49 = .ok (.putfield 153, 3) := by decide +kernel
theorem dX9_move_52 : decode cX9_move 52 = .ok (.iinc 4 1, 3) := by decide +kernel
theorem dX9_move_55 : decode cX9_move 55 = .ok (.goto (-52), 3) := by decide +kernel
theorem dX9_move_58 : decode cX9_move 58 = .ok (.return_, 1) := by decide +kernel
theorem dX9_moveAll_0 : decode cX9_moveAll 0 = .ok (.aload_n 0, 1) := by decide +kernel
theorem dX9_moveAll_1 : decode cX9_moveAll 1 = .ok (.iconst 0, 1) := by decide +kernel
theorem dX9_moveAll_2 : decode cX9_moveAll 2 = .ok (.putfield 153, 3) := by decide +kernel
theorem dX9_moveAll_5 : decode cX9_moveAll 5 = .ok (.aload_n 0, 1) := by decide +kernel
theorem dX9_moveAll_6 : decode cX9_moveAll 6 = .ok (.aload_n 0, 1) := by decide +kernel
theorem dX9_moveAll_7 : decode cX9_moveAll 7 = .ok (.getfield 7, 3) := by decide +kernel
theorem dX9_moveAll_10 : decode cX9_moveAll 10 = .ok (.iconst 5, 1) := by decide +kernel
theorem dX9_moveAll_11 : decode cX9_moveAll 11 = .ok (.iload_n 1, 1) := by decide +kernel
theorem dX9_moveAll_12 : decode cX9_moveAll 12 = .ok (.invokevirtual 156, 3) := by decide +kernel
theorem dX9_moveAll_15 : decode cX9_moveAll 15 = .ok (.aload_n 0, 1) := by decide +kernel
