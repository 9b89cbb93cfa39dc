theorem dX0_init_0 : decode cX0_init 0 = .ok (.aload_n 0, 1) := by decide +kernel
theorem dX0_init_1 : decode cX0_init 1 = .ok (.invokespecial 3, 3) := by decide +kernel
theorem dX0_init_4 : decode cX0_init 4 = .ok (.aload_n 0, 1) := by decide +kernel
theorem dX0_init_5 : decode cX0_init 5 = .ok (.iconst 0, 1) := by decide +kernel
theorem dX0_init_6 : decode cX0_init 6 = .ok (.putfield 9, 3) := by decide +kernel
theorem dX0_init_9 : decode cX0_init 9 = .ok (.aload_n 0, 1) := by decide +kernel
theorem dX0_init_10 : decode cX0_init 10 = .ok (.bipush 30, 2) := by decide +kernel
theorem dX0_init_12 : decode cX0_init 12 = .ok (.newarray .int, 2) := by decide +kernel
theorem dX0_init_14 : decode cX0_init 14 = .ok (.putfield 15, 3) := by decide +kernel
theorem dX0_init_17 : decode cX0_init 17 = .ok (.aload_n 0, 1) := by decide +kernel
theorem dX0_init_18 : decode cX0_init 18 = .ok (.bipush 30, 2) := by decide +kernel
theorem dX0_init_20 : decode cX0_init 20 = .ok (.newarray .int, 2) := by decide +kernel
theorem dX0_init_22 : decode cX0_init 22 = .ok (.putfield 19, 3) := by decide +kernel
theorem dX0_init_25 : decode cX0_init 25 = .ok (.aload_n 0, 1) := by decide +kernel
theorem dX0_init_26 : decode cX0_init 26 = .ok (.bipush 30, 2) := by decide +kernel
theorem dX0_init_28 : decode cX0_init 28 = .ok (.newarray .int, 2) := by decide +kernel
theorem dX0_init_30 : decode cX0_init 30 = .ok (.putfield 22, 3) := by decide +kernel
theorem dX0_init_33 : decode cX0_init 33 = .ok (.aload_n 0, 1) := by decide +kernel
theorem dX0_init_34 : decode cX0_init 34 = .ok (.bipush 30, 2) := by decide +kernel
theorem dX0_init_36 : decode cX0_init 36 = .ok (.newarray .int, 2) := by decide +kernel
theorem dX0_init_38 : decode cX0_init 38 = .ok (.putfield 25, 3) := by decide +kernel
theorem dX0_init_41 : decode cX0_init 41 = .ok (.aload_n 0, 1) := by decide +kernel
theorem dX0_init_42 : decode cX0_init 42 = .ok (.bipush 30, 2) := by decide +kernel
theorem dX0_init_44 : decode cX0_init 44 = .ok (.newarray .boolean, 2) := by decide +kernel
theorem dX0_init_46 : decode cX0_init 46 = .ok (.putfield 28, 3) := by decide +kernel
theorem dX0_init_49 : decode cX0_init 49 = .ok (.return_, 1) := by decide +kernel
theorem dX0_has_0 : decode cX0_has 0 = .ok (.iload_n 1, 1) := by decide +kernel
theorem dX0_has_1 : decode cX0_has 1 = .ok (.ifCond .lt 15, 3) := by decide +kernel
theorem dX0_has_4 : decode cX0_has 4 = .ok (.iload_n 1, 1) := by decide +kernel
theorem dX0_has_5 : decode cX0_has 5 = .ok (.aload_n 0, 1) := by decide +kernel
theorem dX0_has_6 : decode cX0_has 6 = .ok (.getfield 9, 3) := by decide +kernel
theorem dX0_has_9 : decode cX0_has 9 = .ok (.if_icmp .ge 7, 3) := by decide +kernel
theorem dX0_has_12 : decode cX0_has 12 = .ok (.iconst 1, 1) := by decide +kernel
theorem dX0_has_13 : decode cX0_has 13 = .ok (.goto 4, 3) := by decide +kernel
theorem dX0_has_16 : decode cX0_has 16 = .ok (.iconst 0, 1) := by decide +kernel
theorem dX0_has_17 : decode cX0_has 17 = .ok (.ireturn, 1) := by decide +kernel
theorem dX0_addShow_0 : decode cX0_addShow 0 = .ok (.aload_n 0, 1) := by decide +kernel
theorem dX0_addShow_1 : decode cX0_addShow 1 = .ok (.iload_n 1, 1) := by decide +kernel
theorem dX0_addShow_2 : decode cX0_addShow 2 = .ok (.iload_n 2, 1) := by decide +kernel
theorem dX0_addShow_3 : decode cX0_addShow 3 = .ok (.iload_n 3, 1) := by decide +kernel
theorem dX0_addShow_4 : decode cX0_addShow 4 = .ok (.iconst 0, 1) := by decide +kernel
theorem dX0_addShow_5 : decode cX0_addShow 5 = .ok (.invokevirtual 32, 3) := by decide +kernel
theorem dX0_addShow_8 : decode cX0_addShow 8 = .ok (.ireturn, 1) := by decide +kernel
theorem dX0_addLoan_0 : decode cX0_addLoan 0 = .ok (.aload_n 0, 1) := by decide +kernel
theorem dX0_addLoan_1 : decode cX0_addLoan 1 = .ok (.iload_n 1, 1) := by decide +kernel
theorem dX0_addLoan_2 : decode cX0_addLoan 2 = .ok (.bipush (-4), 2) := by decide +kernel
theorem dX0_addLoan_4 : decode cX0_addLoan 4 = .ok (.iload_n 2, 1) := by decide +kernel
theorem dX0_addLoan_5 : decode cX0_addLoan 5 = .ok (.iload_n 3, 1) := by decide +kernel
theorem dX0_addLoan_6 : decode cX0_addLoan 6 = .ok (.invokevirtual 32, 3) := by decide +kernel
theorem dX0_addLoan_9 : decode cX0_addLoan 9 = .ok (.ireturn, 1) := by decide +kernel
theorem dX0_add_0 : decode cX0_add 0 = .ok (.aload_n 0, 1) := by decide +kernel
theorem dX0_add_1 : decode cX0_add 1 = .ok (.getfield 9, 3) := by decide +kernel
theorem dX0_add_4 : decode cX0_add 4 = .ok (.bipush 30, 2) := by decide +kernel
theorem dX0_add_6 : decode cX0_add 6 = .ok (.if_icmp .lt 6, 3) := by decide +kernel
theorem dX0_add_9 : decode cX0_add 9 = .ok (.bipush (-2), 2) := by decide +kernel
theorem dX0_add_11 : decode cX0_add 11 = .ok (.ireturn, 1) := by decide +kernel
theorem dX0_add_12 : decode cX0_add 12 = .ok (.aload_n 0, 1) := by decide +kernel
theorem dX0_add_13 : decode cX0_add 13 = .ok (.getfield 15, 3) := by decide +kernel
theorem dX0_add_16 : decode cX0_add 16 = .ok (.aload_n 0, 1) := by decide +kernel
theorem dX0_add_17 : decode cX0_add 17 = .ok (.getfield 9, 3) := by decide +kernel
theorem dX0_add_20 : decode cX0_add 20 = .ok (.iload_n 1, 1) := by decide +kernel
theorem dX0_add_21 : decode cX0_add 21 = .ok (.iastore, 1) := by decide +kernel
theorem dX0_add_22 : decode cX0_add 22 = .ok (.aload_n 0, 1) := by decide +kernel
theorem dX0_add_23 : decode cX0_add 23 = .ok (.getfield 19, 3) := by decide +kernel
theorem dX0_add_26 : decode cX0_add 26 = .ok (.aload_n 0, 1) := by decide +kernel
theorem dX0_add_27 : decode cX0_add 27 = .ok (.getfield 9, 3) := by decide +kernel
theorem dX0_add_30 : decode cX0_add 30 = .ok (.iload_n 2, 1) := by decide +kernel
theorem dX0_add_31 : decode cX0_add 31 = .ok (.iastore, 1) := by decide +kernel
theorem dX0_add_32 : decode cX0_add 32 = .ok (.aload_n 0, 1) := by decide +kernel
theorem dX0_add_33 : decode cX0_add 33 = .ok (.getfield 22, 3) := by decide +kernel
theorem dX0_add_36 : decode cX0_add 36 = .ok (.aload_n 0, 1) := by decide +kernel
theorem dX0_add_37 : decode cX0_add 37 = .ok (.getfield 9, 3) := by decide +kernel
theorem dX0_add_40 : decode cX0_add 40 = .ok (.iload_n 3, 1) := by decide +kernel
theorem dX0_add_41 : decode cX0_add 41 = .ok (.iastore, 1) := by decide +kernel
theorem dX0_add_42 : decode cX0_add 42 = .ok (.aload_n 0, 1) := by decide +kernel
theorem dX0_add_43 : decode cX0_add 43 = .ok (.getfield 25, 3) := by decide +kernel
theorem dX0_add_46 : decode cX0_add 46 = .ok (.aload_n 0, 1) := by decide +kernel
theorem dX0_add_47 : decode cX0_add 47 = .ok (.getfield 9, 3) := by decide +kernel
theorem dX0_add_50 : decode cX0_add 50 = .ok (.iload 4, 2) := by decide +kernel
theorem dX0_add_52 : decode cX0_add 52 = .ok (.iastore, 1) := by decide +kernel
theorem dX0_add_53 : decode cX0_add 53 = .ok (.aload_n 0, 1) := by decide +kernel
theorem dX0_add_54 : decode cX0_add 54 = .ok (.getfield 28, 3) := by decide +kernel
theorem dX0_add_57 : decode cX0_add 57 = .ok (.aload_n 0, 1) := by decide +kernel
theorem dX0_add_58 : decode cX0_add 58 = .ok (.getfield 9, 3) := by decide +kernel
theorem dX0_add_61 : decode cX0_add 61 = .ok (.iconst 0, 1) := by decide +kernel
theorem dX0_add_62 : decode cX0_add 62 = .ok (.bastore, 1) := by decide +kernel
theorem dX0_add_63 : decode cX0_add 63 = .ok (.aload_n 0, 1) := by decide +kernel
theorem dX0_add_64 : decode cX0_add 64 = .ok (.dup, 1) := by decide +kernel
theorem dX0_add_65 : decode cX0_add 65 = .ok (.getfield 9, 3) := by decide +kernel
theorem dX0_add_68 : decode cX0_add 68 = .ok (.iconst 1, 1) := by decide +kernel
theorem dX0_add_69 : decode cX0_add 69 = .ok (.iadd, 1) := by decide +kernel
theorem dX0_add_70 : decode cX0_add 70 = .ok (.putfield 9, 3) := by decide +kernel
theorem dX0_add_73 : decode cX0_add 73 = .ok (.aload_n 0, 1) := by decide +kernel
theorem dX0_add_74 : decode cX0_add 74 = .ok (.getfield 9, 3) := by decide +kernel
theorem dX0_add_77 : decode cX0_add 77 = .ok (.iconst 1, 1) := by decide +kernel
theorem dX0_add_78 : decode cX0_add 78 = .ok (.isub, 1) := by decide +kernel
theorem dX0_add_79 : decode cX0_add 79 = .ok (.ireturn, 1) := by decide +kernel
theorem dX0_isLoan_0 : decode cX0_isLoan 0 = .ok (.aload_n 0, 1) := by decide +kernel
theorem dX0_isLoan_1 : decode cX0_isLoan 1 = .ok (.getfield 19, 3) := by decide +kernel
theorem dX0_isLoan_4 : decode cX0_isLoan 4 = .ok (.iload_n 1, 1) := by decide +kernel
theorem dX0_isLoan_5 : decode cX0_isLoan 5 = .ok (.iaload, 1) := by decide +kernel
theorem dX0_isLoan_6 : decode cX0_isLoan 6 = .ok (.bipush (-4), 2) := by decide +kernel
theorem dX0_isLoan_8 : decode cX0_isLoan 8 = .ok (.if_icmp .ne 7, 3) := by decide +kernel
theorem dX0_isLoan_11 : decode cX0_isLoan 11 = .ok (.iconst 1, 1) := by decide +kernel
theorem dX0_isLoan_12 : decode cX0_isLoan 12 = .ok (.goto 4, 3) := by decide +kernel
theorem dX0_isLoan_15 : decode cX0_isLoan 15 = .ok (.iconst 0, 1) := by decide +kernel
theorem dX0_isLoan_16 : decode cX0_isLoan 16 = .ok (.ireturn, 1) := by decide +kernel
theorem dX0_standsFor_0 : decode cX0_standsFor 0 = .ok (.aload_n 0, 1) := by decide +kernel
theorem dX0_standsFor_1 : decode cX0_standsFor 1 = .ok (.getfield 15, 3) := by decide +kernel
theorem dX0_standsFor_4 : decode cX0_standsFor 4 = .ok (.iload_n 1, 1) := by decide +kernel
theorem dX0_standsFor_5 : decode cX0_standsFor 5 = .ok (.iaload, 1) := by decide +kernel
theorem dX0_standsFor_6 : decode cX0_standsFor 6 = .ok (.iload_n 2, 1) := by decide +kernel
theorem dX0_standsFor_7 : decode cX0_standsFor 7 = .ok (.if_icmp .ne 16, 3) := by decide +kernel
theorem dX0_standsFor_10 : decode cX0_standsFor 10 = .ok (.aload_n 0, 1) := by decide +kernel
theorem dX0_standsFor_11 : decode cX0_standsFor 11 = .ok (.getfield 28, 3) := by decide +kernel
theorem dX0_standsFor_14 : decode cX0_standsFor 14 = .ok (.iload_n 1, 1) := by decide +kernel
theorem dX0_standsFor_15 : decode cX0_standsFor 15 = .ok (.baload, 1) := by decide +kernel
theorem dX0_standsFor_16 : decode cX0_standsFor 16 = .ok (.ifCond .ne 7, 3) := by decide +kernel
theorem dX0_standsFor_19 : decode cX0_standsFor 19 = .ok (.iconst 1, 1) := by decide +kernel
theorem dX0_standsFor_20 : decode cX0_standsFor 20 = .ok (.goto 4, 3) := by decide +kernel
theorem dX0_standsFor_23 : decode cX0_standsFor 23 = .ok (.iconst 0, 1) := by decide +kernel
theorem dX0_standsFor_24 : decode cX0_standsFor 24 = .ok (.ireturn, 1) := by decide +kernel
theorem dX0_shownWithin_0 : decode cX0_shownWithin 0 = .ok (.iconst 0, 1) := by decide +kernel
theorem dX0_shownWithin_1 : decode cX0_shownWithin 1 = .ok (.istore 4, 2) := by decide +kernel
theorem dX0_shownWithin_3 : decode cX0_shownWithin 3 = .ok (.iload 4, 2) := by decide +kernel
theorem dX0_shownWithin_5 : decode cX0_shownWithin 5 = .ok (.aload_n 0, 1) := by decide +kernel
theorem dX0_shownWithin_6 : decode cX0_shownWithin 6 = .ok (.getfield 9, 3) := by decide +kernel
theorem dX0_shownWithin_9 : decode cX0_shownWithin 9 = .ok (.if_icmp .ge 46, 3) := by decide +kernel
theorem dX0_shownWithin_12 : decode cX0_shownWithin 12 = .ok (.aload_n 0, 1) := by decide +kernel
theorem dX0_shownWithin_13 : decode cX0_shownWithin 13 = .ok (.iload 4, 2) := by decide +kernel
theorem dX0_shownWithin_15 : decode cX0_shownWithin 15 = .ok (.iload_n 1, 1) := by decide +kernel
theorem dX0_shownWithin_16 : decode cX0_shownWithin 16 = .ok (.invokevirtual 36, 3) := by decide +kernel
theorem dX0_shownWithin_19 : decode cX0_shownWithin 19 = .ok (.ifCond .eq 30, 3) := by decide +kernel
theorem dX0_shownWithin_22 : decode cX0_shownWithin 22 = .ok (.aload_n 0, 1) := by decide +kernel
theorem dX0_shownWithin_23 : decode cX0_shownWithin 23 = .ok (.iload 4, 2) := by decide +kernel
theorem dX0_shownWithin_25 : decode cX0_shownWithin 25 = .ok (.invokevirtual 40, 3) := by decide +kernel
theorem dX0_shownWithin_28 : decode cX0_shownWithin 28 = .ok (.ifCond .ne 21, 3) := by decide +kernel
theorem dX0_shownWithin_31 : decode cX0_shownWithin 31 = .ok (.aload_n 0, 1) := by decide +kernel
theorem dX0_shownWithin_32 : decode cX0_shownWithin 32 = .ok (.getfield 22, 3) := by decide +kernel
theorem dX0_shownWithin_35 : decode cX0_shownWithin 35 = .ok (.iload 4, 2) := by decide +kernel
theorem dX0_shownWithin_37 : decode cX0_shownWithin 37 = .ok (.iaload, 1) := by decide +kernel
theorem dX0_shownWithin_38 : decode cX0_shownWithin 38 = .ok (.iload_n 2, 1) := by decide +kernel
theorem dX0_shownWithin_39 : decode cX0_shownWithin 39 = .ok (.isub, 1) := by decide +kernel
theorem dX0_shownWithin_40 : decode cX0_shownWithin 40 = .ok (.invokestatic 44, 3) := by decide +kernel
theorem dX0_shownWithin_43 : decode cX0_shownWithin 43 = .ok (.iload_n 3, 1) := by decide +kernel
theorem dX0_shownWithin_44 : decode cX0_shownWithin 44 = .ok (.if_icmp .gt 5, 3) := by decide +kernel
theorem dX0_shownWithin_47 : decode cX0_shownWithin 47 = .ok (.iconst 1, 1) := by decide +kernel
theorem dX0_shownWithin_48 : decode cX0_shownWithin 48 = .ok (.ireturn, 1) := by decide +kernel
theorem dX0_shownWithin_49 : decode cX0_shownWithin 49 = .ok (.iinc 4 1, 3) := by decide +kernel
theorem dX0_shownWithin_52 : decode cX0_shownWithin 52 = .ok (.goto (-49), 3) := by decide +kernel
theorem dX0_shownWithin_55 : decode cX0_shownWithin 55 = .ok (.iconst 0, 1) := by decide +kernel
theorem dX0_shownWithin_56 : decode cX0_shownWithin 56 = .ok (.ireturn, 1) := by decide +kernel
theorem dX0_countOf_0 : decode cX0_countOf 0 = .ok (.iconst 0, 1) := by decide +kernel
theorem dX0_countOf_1 : decode cX0_countOf 1 = .ok (.istore_n 2, 1) := by decide +kernel
theorem dX0_countOf_2 : decode cX0_countOf 2 = .ok (.iconst 0, 1) := by decide +kernel
theorem dX0_countOf_3 : decode cX0_countOf 3 = .ok (.istore_n 3, 1) := by decide +kernel
theorem dX0_countOf_4 : decode cX0_countOf 4 = .ok (.iload_n 3, 1) := by decide +kernel
theorem dX0_countOf_5 : decode cX0_countOf 5 = .ok (.aload_n 0, 1) := by decide +kernel
theorem dX0_countOf_6 : decode cX0_countOf 6 = .ok (.getfield 9, 3) := by decide +kernel
theorem dX0_countOf_9 : decode cX0_countOf 9 = .ok (.if_icmp .ge 21, 3) := by decide +kernel
theorem dX0_countOf_12 : decode cX0_countOf 12 = .ok (.aload_n 0, 1) := by decide +kernel
theorem dX0_countOf_13 : decode cX0_countOf 13 = .ok (.iload_n 3, 1) := by decide +kernel
theorem dX0_countOf_14 : decode cX0_countOf 14 = .ok (.iload_n 1, 1) := by decide +kernel
theorem dX0_countOf_15 : decode cX0_countOf 15 = .ok (.invokevirtual 36, 3) := by decide +kernel
theorem dX0_countOf_18 : decode cX0_countOf 18 = .ok (.ifCond .eq 6, 3) := by decide +kernel
theorem dX0_countOf_21 : decode cX0_countOf 21 = .ok (.iinc 2 1, 3) := by decide +kernel
theorem dX0_countOf_24 : decode cX0_countOf 24 = .ok (.iinc 3 1, 3) := by decide +kernel
theorem dX0_countOf_27 : decode cX0_countOf 27 = .ok (.goto (-23), 3) := by decide +kernel
theorem dX0_countOf_30 : decode cX0_countOf 30 = .ok (.iload_n 2, 1) := by decide +kernel
theorem dX0_countOf_31 : decode cX0_countOf 31 = .ok (.ireturn, 1) := by decide +kernel
theorem dX0_countCancelled_0 : decode cX0_countCancelled 0 = .ok (.iconst 0, 1) := by decide +kernel
theorem dX0_countCancelled_1 : decode cX0_countCancelled 1 = .ok (.istore_n 1, 1) := by decide +kernel
theorem dX0_countCancelled_2 : decode cX0_countCancelled 2 = .ok (.iconst 0, 1) := by decide +kernel
theorem dX0_countCancelled_3 : decode cX0_countCancelled 3 = .ok (.istore_n 2, 1) := by decide +kernel
theorem dX0_countCancelled_4 : decode cX0_countCancelled 4 = .ok (.iload_n 2, 1) := by decide +kernel
theorem dX0_countCancelled_5 : decode cX0_countCancelled 5 = .ok (.aload_n 0, 1) := by decide +kernel
theorem dX0_countCancelled_6 : decode cX0_countCancelled 6 = .ok (.getfield 9, 3) := by decide +kernel
theorem dX0_countCancelled_9 : decode cX0_countCancelled 9 = .ok (.if_icmp .ge 21, 3) := by decide +kernel
theorem dX0_countCancelled_12 : decode cX0_countCancelled 12 = .ok (.aload_n 0, 1) := by decide +kernel
theorem dX0_countCancelled_13 : decode cX0_countCancelled 13 = .ok (.getfield 28, 3) := by decide +kernel
theorem dX0_countCancelled_16 : decode cX0_countCancelled 16 = .ok (.iload_n 2, 1) := by decide +kernel
theorem dX0_countCancelled_17 : decode cX0_countCancelled 17 = .ok (.baload, 1) := by decide +kernel
theorem dX0_countCancelled_18 : decode cX0_countCancelled 18 = .ok (.ifCond .eq 6, 3) := by decide +kernel
theorem dX0_countCancelled_21 : decode cX0_countCancelled 21 = .ok (.iinc 1 1, 3) := by decide +kernel
theorem dX0_countCancelled_24 : decode cX0_countCancelled 24 = .ok (.iinc 2 1, 3) := by decide +kernel
theorem dX0_countCancelled_27 : decode cX0_countCancelled 27 = .ok (.goto (-23), 3) := by decide +kernel
theorem dX0_countCancelled_30 : decode cX0_countCancelled 30 = .ok (.iload_n 1, 1) := by decide +kernel
theorem dX0_countCancelled_31 : decode cX0_countCancelled 31 = .ok (.ireturn, 1) := by decide +kernel
theorem dX0_copyFrom_0 : decode cX0_copyFrom 0 = .ok (.aload_n 0, 1) := by decide +kernel
theorem dX0_copyFrom_1 : decode cX0_copyFrom 1 = .ok (.aload_n 1, 1) := by decide +kernel
theorem dX0_copyFrom_2 : decode cX0_copyFrom 2 = .ok (.getfield 9, 3) := by decide +kernel
theorem dX0_copyFrom_5 : decode cX0_copyFrom 5 = .ok (.putfield 9, 3) := by decide +kernel
theorem dX0_copyFrom_8 : decode cX0_copyFrom 8 = .ok (.aload_n 1, 1) := by decide +kernel
theorem dX0_copyFrom_9 : decode cX0_copyFrom 9 = .ok (.getfield 15, 3) := by decide +kernel
theorem dX0_copyFrom_12 : decode cX0_copyFrom 12 = .ok (.aload_n 0, 1) := by decide +kernel
theorem dX0_copyFrom_13 : decode cX0_copyFrom 13 = .ok (.getfield 15, 3) := by decide +kernel
theorem dX0_copyFrom_16 : decode cX0_copyFrom 16 = .ok (.invokestatic 50, 3) := by decide +kernel
theorem dX0_copyFrom_19 : decode cX0_copyFrom 19 = .ok (.aload_n 1, 1) := by decide +kernel
theorem dX0_copyFrom_20 : decode cX0_copyFrom 20 = .ok (.getfield 19, 3) := by decide +kernel
theorem dX0_copyFrom_23 : decode cX0_copyFrom 23 = .ok (.aload_n 0, 1) := by decide +kernel
theorem dX0_copyFrom_24 : decode cX0_copyFrom 24 = .ok (.getfield 19, 3) := by decide +kernel
theorem dX0_copyFrom_27 : decode cX0_copyFrom 27 = .ok (.invokestatic 50, 3) := by decide +kernel
theorem dX0_copyFrom_30 : decode cX0_copyFrom 30 = .ok (.aload_n 1, 1) := by decide +kernel
theorem dX0_copyFrom_31 : decode cX0_copyFrom 31 = .ok (.getfield 22, 3) := by decide +kernel
theorem dX0_copyFrom_34 : decode cX0_copyFrom 34 = .ok (.aload_n 0, 1) := by decide +kernel
theorem dX0_copyFrom_35 : decode cX0_copyFrom 35 = .ok (.getfield 22, 3) := by decide +kernel
theorem dX0_copyFrom_38 : decode cX0_copyFrom 38 = .ok (.invokestatic 50, 3) := by decide +kernel
theorem dX0_copyFrom_41 : decode cX0_copyFrom 41 = .ok (.aload_n 1, 1) := by decide +kernel
theorem dX0_copyFrom_42 : decode cX0_copyFrom 42 = .ok (.getfield 25, 3) := by decide +kernel
theorem dX0_copyFrom_45 : decode cX0_copyFrom 45 = .ok (.aload_n 0, 1) := by decide +kernel
theorem dX0_copyFrom_46 : decode cX0_copyFrom 46 = .ok (.getfield 25, 3) := by decide +kernel
theorem dX0_copyFrom_49 : decode cX0_copyFrom 49 = .ok (.invokestatic 50, 3) := by decide +kernel
theorem dX0_copyFrom_52 : decode cX0_copyFrom 52 = .ok (.iconst 0, 1) := by decide +kernel
theorem dX0_copyFrom_53 : decode cX0_copyFrom 53 = .ok (.istore_n 2, 1) := by decide +kernel
theorem dX0_copyFrom_54 : decode cX0_copyFrom 54 = .ok (.iload_n 2, 1) := by decide +kernel
theorem dX0_copyFrom_55 : decode cX0_copyFrom 55 = .ok (.bipush 30, 2) := by decide +kernel
theorem dX0_copyFrom_57 : decode cX0_copyFrom 57 = .ok (.if_icmp .ge 21, 3) := by decide +kernel
theorem dX0_copyFrom_60 : decode cX0_copyFrom 60 = .ok (.aload_n 0, 1) := by decide +kernel
theorem dX0_copyFrom_61 : decode cX0_copyFrom 61 = .ok (.getfield 28, 3) := by decide +kernel
theorem dX0_copyFrom_64 : decode cX0_copyFrom 64 = .ok (.iload_n 2, 1) := by decide +kernel
theorem dX0_copyFrom_65 : decode cX0_copyFrom 65 = .ok (.aload_n 1, 1) := by decide +kernel
theorem dX0_copyFrom_66 : decode cX0_copyFrom 66 = .ok (.getfield 28, 3) := by decide +kernel
theorem dX0_copyFrom_69 : decode cX0_copyFrom 69 = .ok (.iload_n 2, 1) := by decide +kernel
theorem dX0_copyFrom_70 : decode cX0_copyFrom 70 = .ok (.baload, 1) := by decide +kernel
theorem dX0_copyFrom_71 : decode cX0_copyFrom 71 = .ok (.bastore, 1) := by decide +kernel
theorem dX0_copyFrom_72 : decode cX0_copyFrom 72 = .ok (.iinc 2 1, 3) := by decide +kernel
theorem dX0_copyFrom_75 : decode cX0_copyFrom 75 = .ok (.goto (-21), 3) := by decide +kernel
theorem dX0_copyFrom_78 : decode cX0_copyFrom 78 = .ok (.return_, 1) := by decide +kernel
theorem dX1_init_0 : decode cX1_init 0 = .ok (.aload_n 0, 1) := by decide +kernel
theorem dX1_init_1 : decode cX1_init 1 = .ok (.invokespecial 3, 3) := by decide +kernel
theorem dX1_init_4 : decode cX1_init 4 = .ok (.aload_n 0, 1) := by decide +kernel
theorem dX1_init_5 : decode cX1_init 5 = .ok (.iconst 0, 1) := by decide +kernel
theorem dX1_init_6 : decode cX1_init 6 = .ok (.putfield 9, 3) := by decide +kernel
theorem dX1_init_9 : decode cX1_init 9 = .ok (.aload_n 0, 1) := by decide +kernel
theorem dX1_init_10 : decode cX1_init 10 = .ok (.iconst 5, 1) := by decide +kernel
theorem dX1_init_11 : decode cX1_init 11 = .ok (.newarray .int, 2) := by decide +kernel
theorem dX1_init_13 : decode cX1_init 13 = .ok (.putfield 15, 3) := by decide +kernel
theorem dX1_init_16 : decode cX1_init 16 = .ok (.aload_n 0, 1) := by decide +kernel
theorem dX1_init_17 : decode cX1_init 17 = .ok (.iconst 0, 1) := by decide +kernel
theorem dX1_init_18 : decode cX1_init 18 = .ok (.putfield 19, 3) := by decide +kernel
theorem dX1_init_21 : decode cX1_init 21 = .ok (.aload_n 0, 1) := by decide +kernel
theorem dX1_init_22 : decode cX1_init 22 = .ok (.iconst 5, 1) := by decide +kernel
theorem dX1_init_23 : decode cX1_init 23 = .ok (.newarray .int, 2) := by decide +kernel
theorem dX1_init_25 : decode cX1_init 25 = .ok (.putfield 23, 3) := by decide +kernel
theorem dX1_init_28 : decode cX1_init 28 = .ok (.aload_n 0, 1) := by decide +kernel
theorem dX1_init_29 : decode cX1_init 29 = .ok (.iconst 5, 1) := by decide +kernel
theorem dX1_init_30 : decode cX1_init 30 = .ok (.newarray .int, 2) := by decide +kernel
theorem dX1_init_32 : decode cX1_init 32 = .ok (.putfield 26, 3) := by decide +kernel
theorem dX1_init_35 : decode cX1_init 35 = .ok (.aload_n 0, 1) := by decide +kernel
theorem dX1_init_36 : decode cX1_init 36 = .ok (.iconst 5, 1) := by decide +kernel
theorem dX1_init_37 : decode cX1_init 37 = .ok (.newarray .int, 2) := by decide +kernel
theorem dX1_init_39 : decode cX1_init 39 = .ok (.putfield 29, 3) := by decide +kernel
theorem dX1_init_42 : decode cX1_init 42 = .ok (.aload_n 0, 1) := by decide +kernel
theorem dX1_init_43 : decode cX1_init 43 = .ok (.bipush 6, 2) := by decide +kernel
theorem dX1_init_45 : decode cX1_init 45 = .ok (.newarray .int, 2) := by decide +kernel
theorem dX1_init_47 : decode cX1_init 47 = .ok (.putfield 32, 3) := by decide +kernel
theorem dX1_init_50 : decode cX1_init 50 = .ok (.aload_n 0, 1) := by decide +kernel
theorem dX1_init_51 : decode cX1_init 51 = .ok (.bipush 8, 2) := by decide +kernel
theorem dX1_init_53 : decode cX1_init 53 = .ok (.newarray .int, 2) := by decide +kernel
theorem dX1_init_55 : decode cX1_init 55 = .ok (.putfield 35, 3) := by decide +kernel
theorem dX1_init_58 : decode cX1_init 58 = .ok (.aload_n 0, 1) := by decide +kernel
theorem dX1_init_59 : decode cX1_init 59 = .ok (.aload_n 1, 1) := by decide +kernel
theorem dX1_init_60 : decode cX1_init 60 = .ok (.putfield 38, 3) := by decide +kernel
theorem dX1_init_63 : decode cX1_init 63 = .ok (.aload_n 0, 1) := by decide +kernel
theorem dX1_init_64 : decode cX1_init 64 = .ok (.aload_n 2, 1) := by decide +kernel
theorem dX1_init_65 : decode cX1_init 65 = .ok (.putfield 42, 3) := by decide +kernel
theorem dX1_init_68 : decode cX1_init 68 = .ok (.return_, 1) := by decide +kernel
theorem dX1_forget_0 : decode cX1_forget 0 = .ok (.aload_n 0, 1) := by decide +kernel
theorem dX1_forget_1 : decode cX1_forget 1 = .ok (.iconst 0, 1) := by decide +kernel
theorem dX1_forget_2 : decode cX1_forget 2 = .ok (.putfield 9, 3) := by decide +kernel
theorem dX1_forget_5 : decode cX1_forget 5 = .ok (.return_, 1) := by decide +kernel
theorem dX1_find_0 : decode cX1_find 0 = .ok (.aload_n 0, 1) := by decide +kernel
theorem dX1_find_1 : decode cX1_find 1 = .ok (.getfield 9, 3) := by decide +kernel
theorem dX1_find_4 : decode cX1_find 4 = .ok (.ifCond .eq 4, 3) := by decide +kernel
theorem dX1_find_7 : decode cX1_find 7 = .ok (.return_, 1) := by decide +kernel
theorem dX1_find_8 : decode cX1_find 8 = .ok (.aload_n 0, 1) := by decide +kernel
theorem dX1_find_9 : decode cX1_find 9 = .ok (.invokevirtual 46, 3) := by decide +kernel
theorem dX1_find_12 : decode cX1_find 12 = .ok (.aload_n 0, 1) := by decide +kernel
theorem dX1_find_13 : decode cX1_find 13 = .ok (.getfield 38, 3) := by decide +kernel
theorem dX1_find_16 : decode cX1_find 16 = .ok (.getfield 49, 3) := by decide +kernel
theorem dX1_find_19 : decode cX1_find 19 = .ok (.getfield 55, 3) := by decide +kernel
theorem dX1_find_22 : decode cX1_find 22 = .ok (.istore_n 1, 1) := by decide +kernel
theorem dX1_find_23 : decode cX1_find 23 = .ok (.aload_n 0, 1) := by decide +kernel
theorem dX1_find_24 : decode cX1_find 24 = .ok (.iconst 0, 1) := by decide +kernel
theorem dX1_find_25 : decode cX1_find 25 = .ok (.putfield 19, 3) := by decide +kernel
theorem dX1_find_28 : decode cX1_find 28 = .ok (.aload_n 0, 1) := by decide +kernel
theorem dX1_find_29 : decode cX1_find 29 = .ok (.getfield 32, 3) := by decide +kernel
theorem dX1_find_32 : decode cX1_find 32 = .ok (.iload_n 1, 1) := by decide +kernel
theorem dX1_find_33 : decode cX1_find 33 = .ok (.iconst 0, 1) := by decide +kernel
theorem dX1_find_34 : decode cX1_find 34 = .ok (.iastore, 1) := by decide +kernel
theorem dX1_find_35 : decode cX1_find 35 = .ok (.iload_n 1, 1) := by decide +kernel
theorem dX1_find_36 : decode cX1_find 36 = .ok (.iconst 1, 1) := by decide +kernel
theorem dX1_find_37 : decode cX1_find 37 = .ok (.isub, 1) := by decide +kernel
theorem dX1_find_38 : decode cX1_find 38 = .ok (.istore_n 2, 1) := by decide +kernel
theorem dX1_find_39 : decode cX1_find 39 = .ok (.iload_n 2, 1) := by decide +kernel
theorem dX1_find_40 : decode cX1_find 40 = .ok (.ifCond .lt 47, 3) := by decide +kernel
theorem dX1_find_43 : decode cX1_find 43 = .ok (.aload_n 0, 1) := by decide +kernel
theorem dX1_find_44 : decode cX1_find 44 = .ok (.iconst (-1), 1) := by decide +kernel
theorem dX1_find_45 : decode cX1_find 45 = .ok (.putfield 19, 3) := by decide +kernel
theorem dX1_find_48 : decode cX1_find 48 = .ok (.aload_n 0, 1) := by decide +kernel
theorem dX1_find_49 : decode cX1_find 49 = .ok (.getfield 32, 3) := by decide +kernel
theorem dX1_find_52 : decode cX1_find 52 = .ok (.iload_n 2, 1) := by decide +kernel
theorem dX1_find_53 : decode cX1_find 53 = .ok (.aload_n 0, 1) := by decide +kernel
theorem dX1_find_54 : decode cX1_find 54 = .ok (.getfield 32, 3) := by decide +kernel
theorem dX1_find_57 : decode cX1_find 57 = .ok (.iload_n 2, 1) := by decide +kernel
theorem dX1_find_58 : decode cX1_find 58 = .ok (.iconst 1, 1) := by decide +kernel
theorem dX1_find_59 : decode cX1_find 59 = .ok (.iadd, 1) := by decide +kernel
theorem dX1_find_60 : decode cX1_find 60 = .ok (.iaload, 1) := by decide +kernel
theorem dX1_find_61 : decode cX1_find 61 = .ok (.bipush 9, 2) := by decide +kernel
theorem dX1_find_63 : decode cX1_find 63 = .ok (.iadd, 1) := by decide +kernel
theorem dX1_find_64 : decode cX1_find 64 = .ok (.iastore, 1) := by decide +kernel
theorem dX1_find_65 : decode cX1_find 65 = .ok (.aload_n 0, 1) := by decide +kernel
theorem dX1_find_66 : decode cX1_find 66 = .ok (.iload_n 2, 1) := by decide +kernel
theorem dX1_find_67 : decode cX1_find 67 = .ok (.iconst 0, 1) := by decide +kernel
theorem dX1_find_68 : decode cX1_find 68 = .ok (.invokestatic 60, 3) := by decide +kernel
theorem dX1_find_71 : decode cX1_find 71 = .ok (.aload_n 0, 1) := by decide +kernel
theorem dX1_find_72 : decode cX1_find 72 = .ok (.getfield 32, 3) := by decide +kernel
theorem dX1_find_75 : decode cX1_find 75 = .ok (.iload_n 2, 1) := by decide +kernel
theorem dX1_find_76 : decode cX1_find 76 = .ok (.aload_n 0, 1) := by decide +kernel
theorem dX1_find_77 : decode cX1_find 77 = .ok (.getfield 19, 3) := by decide +kernel
theorem dX1_find_80 : decode cX1_find 80 = .ok (.iastore, 1) := by decide +kernel
theorem dX1_find_81 : decode cX1_find 81 = .ok (.iinc 2 (-1), 3) := by decide +kernel
theorem dX1_find_84 : decode cX1_find 84 = .ok (.goto (-45), 3) := by decide +kernel
theorem dX1_find_87 : decode cX1_find 87 = .ok (.aload_n 0, 1) := by decide +kernel
theorem dX1_find_88 : decode cX1_find 88 = .ok (.iconst 1, 1) := by decide +kernel
theorem dX1_find_89 : decode cX1_find 89 = .ok (.putfield 9, 3) := by decide +kernel
theorem dX1_find_92 : decode cX1_find 92 = .ok (.return_, 1) := by decide +kernel
theorem dX1_prepare_0 : decode cX1_prepare 0 = .ok (.iconst 0, 1) := by decide +kernel
theorem dX1_prepare_1 : decode cX1_prepare 1 = .ok (.istore_n 1, 1) := by decide +kernel
theorem dX1_prepare_2 : decode cX1_prepare 2 = .ok (.iload_n 1, 1) := by decide +kernel
theorem dX1_prepare_3 : decode cX1_prepare 3 = .ok (.aload_n 0, 1) := by decide +kernel
theorem dX1_prepare_4 : decode cX1_prepare 4 = .ok (.getfield 38, 3) := by decide +kernel
theorem dX1_prepare_7 : decode cX1_prepare 7 = .ok (.getfield 64, 3) := by decide +kernel
theorem dX1_prepare_10 : decode cX1_prepare 10 = .ok (.getfield 68, 3) := by decide +kernel
theorem dX1_prepare_13 : decode cX1_prepare 13 = .ok (.if_icmp .ge 27, 3) := by decide +kernel
theorem dX1_prepare_16 : decode cX1_prepare 16 = .ok (.aload_n 0, 1) := by decide +kernel
theorem dX1_prepare_17 : decode cX1_prepare 17 = .ok (.getfield 35, 3) := by decide +kernel
theorem dX1_prepare_20 : decode cX1_prepare 20 = .ok (.iload_n 1, 1) := by decide +kernel
theorem dX1_prepare_21 : decode cX1_prepare 21 = .ok (.aload_n 0, 1) := by decide +kernel
theorem dX1_prepare_22 : decode cX1_prepare 22 = .ok (.getfield 42, 3) := by decide +kernel
theorem dX1_prepare_25 : decode cX1_prepare 25 = .ok (.iload_n 1, 1) := by decide +kernel
theorem dX1_prepare_26 : decode cX1_prepare 26 = .ok (.invokevirtual 71, 3) := by decide +kernel
theorem dX1_prepare_29 : decode cX1_prepare 29 = .ok (.iconst 0, 1) := by decide +kernel
theorem dX1_prepare_30 : decode cX1_prepare 30 = .ok (.invokevirtual 77, 3) := by decide +kernel
theorem dX1_prepare_33 : decode cX1_prepare 33 = .ok (.iastore, 1) := by decide +kernel
theorem dX1_prepare_34 : decode cX1_prepare 34 = .ok (.iinc 1 1, 3) := by decide +kernel
theorem dX1_prepare_37 : decode cX1_prepare 37 = .ok (.goto (-35), 3) := by decide +kernel
theorem dX1_prepare_40 : decode cX1_prepare 40 = .ok (.iconst 0, 1) := by decide +kernel
theorem dX1_prepare_41 : decode cX1_prepare 41 = .ok (.istore_n 1, 1) := by decide +kernel
theorem dX1_prepare_42 : decode cX1_prepare 42 = .ok (.iload_n 1, 1) := by decide +kernel
theorem dX1_prepare_43 : decode cX1_prepare 43 = .ok (.aload_n 0, 1) := by decide +kernel
theorem dX1_prepare_44 : decode cX1_prepare 44 = .ok (.getfield 38, 3) := by decide +kernel
theorem dX1_prepare_47 : decode cX1_prepare 47 = .ok (.getfield 49, 3) := by decide +kernel
theorem dX1_prepare_50 : decode cX1_prepare 50 = .ok (.getfield 55, 3) := by decide +kernel
theorem dX1_prepare_53 : decode cX1_prepare 53 = .ok (.if_icmp .ge 69, 3) := by decide +kernel
theorem dX1_prepare_56 : decode cX1_prepare 56 = .ok (.aload_n 0, 1) := by decide +kernel
theorem dX1_prepare_57 : decode cX1_prepare 57 = .ok (.getfield 23, 3) := by decide +kernel
theorem dX1_prepare_60 : decode cX1_prepare 60 = .ok (.iload_n 1, 1) := by decide +kernel
theorem dX1_prepare_61 : decode cX1_prepare 61 = .ok (.bipush (-4), 2) := by decide +kernel
theorem dX1_prepare_63 : decode cX1_prepare 63 = .ok (.iastore, 1) := by decide +kernel
theorem dX1_prepare_64 : decode cX1_prepare 64 = .ok (.aload_n 0, 1) := by decide +kernel
theorem dX1_prepare_65 : decode cX1_prepare 65 = .ok (.getfield 29, 3) := by decide +kernel
theorem dX1_prepare_68 : decode cX1_prepare 68 = .ok (.iload_n 1, 1) := by decide +kernel
theorem dX1_prepare_69 : decode cX1_prepare 69 = .ok (.aload_n 0, 1) := by decide +kernel
theorem dX1_prepare_70 : decode cX1_prepare 70 = .ok (.getfield 38, 3) := by decide +kernel
theorem dX1_prepare_73 : decode cX1_prepare 73 = .ok (.getfield 81, 3) := by decide +kernel
theorem dX1_prepare_76 : decode cX1_prepare 76 = .ok (.aload_n 0, 1) := by decide +kernel
theorem dX1_prepare_77 : decode cX1_prepare 77 = .ok (.getfield 38, 3) := by decide +kernel
theorem dX1_prepare_80 : decode cX1_prepare 80 = .ok (.getfield 49, 3) := by decide +kernel
theorem dX1_prepare_83 : decode cX1_prepare 83 = .ok (.getfield 85, 3) := by decide +kernel
theorem dX1_prepare_86 : decode cX1_prepare 86 = .ok (.iload_n 1, 1) := by decide +kernel
theorem dX1_prepare_87 : decode cX1_prepare 87 = .ok (.iaload, 1) := by decide +kernel
theorem dX1_prepare_88 : decode cX1_prepare 88 = .ok (.aload_n 0, 1) := by decide +kernel
theorem dX1_prepare_89 : decode cX1_prepare 89 = .ok (.getfield 38, 3) := by decide +kernel
theorem dX1_prepare_92 : decode cX1_prepare 92 = .ok (.getfield 49, 3) := by decide +kernel
theorem dX1_prepare_95 : decode cX1_prepare 95 = .ok (.getfield 88, 3) := by decide +kernel
theorem dX1_prepare_98 : decode cX1_prepare 98 = .ok (.iload_n 1, 1) := by decide +kernel
theorem dX1_prepare_99 : decode cX1_prepare 99 = .ok (.iaload, 1) := by decide +kernel
theorem dX1_prepare_100 : decode cX1_prepare 100 = .ok (.iconst 1, 1) := by decide +kernel
theorem dX1_prepare_101 : decode cX1_prepare 101 = .ok (.invokevirtual 91, 3) := by decide +kernel
theorem dX1_prepare_104 : decode cX1_prepare 104 = .ok (.iastore, 1) := by decide +kernel
theorem dX1_prepare_105 : decode cX1_prepare 105 = .ok (.aload_n 0, 1) := by decide +kernel
theorem dX1_prepare_106 : decode cX1_prepare 106 = .ok (.getfield 26, 3) := by decide +kernel
theorem dX1_prepare_109 : decode cX1_prepare 109 = .ok (.iload_n 1, 1) := by decide +kernel
theorem dX1_prepare_110 : decode cX1_prepare 110 = .ok (.aload_n 0, 1) := by decide +kernel
theorem dX1_prepare_111 : decode cX1_prepare 111 = .ok (.iload_n 1, 1) := by decide +kernel
theorem dX1_prepare_112 : decode cX1_prepare 112 = .ok (.invokevirtual 97, 3) := by decide +kernel
theorem dX1_prepare_115 : decode cX1_prepare 115 = .ok (.iastore, 1) := by decide +kernel
theorem dX1_prepare_116 : decode cX1_prepare 116 = .ok (.iinc 1 1, 3) := by decide +kernel
theorem dX1_prepare_119 : decode cX1_prepare 119 = .ok (.goto (-77), 3) := by decide +kernel
theorem dX1_prepare_122 : decode cX1_prepare 122 = .ok (.return_, 1) := by decide +kernel
theorem dX1_sheetsFor_0 : decode cX1_sheetsFor 0 = .ok (.iconst 0, 1) := by decide +kernel
theorem dX1_sheetsFor_1 : decode cX1_sheetsFor 1 = .ok (.istore_n 2, 1) := by decide +kernel
theorem dX1_sheetsFor_2 : decode cX1_sheetsFor 2 = .ok (.iconst 0, 1) := by decide +kernel
theorem dX1_sheetsFor_3 : decode cX1_sheetsFor 3 = .ok (.istore_n 3, 1) := by decide +kernel
theorem dX1_sheetsFor_4 : decode cX1_sheetsFor 4 = .ok (.iload_n 3, 1) := by decide +kernel
theorem dX1_sheetsFor_5 : decode cX1_sheetsFor 5 = .ok (.aload_n 0, 1) := by decide +kernel
theorem dX1_sheetsFor_6 : decode cX1_sheetsFor 6 = .ok (.getfield 38, 3) := by decide +kernel
theorem dX1_sheetsFor_9 : decode cX1_sheetsFor 9 = .ok (.getfield 64, 3) := by decide +kernel
theorem dX1_sheetsFor_12 : decode cX1_sheetsFor 12 = .ok (.getfield 68, 3) := by decide +kernel
theorem dX1_sheetsFor_15 : decode cX1_sheetsFor 15 = .ok (.if_icmp .ge 65, 3) := by decide +kernel
theorem dX1_sheetsFor_18 : decode cX1_sheetsFor 18 = .ok (.aload_n 0, 1) := by decide +kernel
theorem dX1_sheetsFor_19 : decode cX1_sheetsFor 19 = .ok (.getfield 38, 3) := by decide +kernel
theorem dX1_sheetsFor_22 : decode cX1_sheetsFor 22 = .ok (.getfield 64, 3) := by decide +kernel
theorem dX1_sheetsFor_25 : decode cX1_sheetsFor 25 = .ok (.iload_n 3, 1) := by decide +kernel
theorem dX1_sheetsFor_26 : decode cX1_sheetsFor 26 = .ok (.aload_n 0, 1) := by decide +kernel
theorem dX1_sheetsFor_27 : decode cX1_sheetsFor 27 = .ok (.getfield 38, 3) := by decide +kernel
theorem dX1_sheetsFor_30 : decode cX1_sheetsFor 30 = .ok (.getfield 49, 3) := by decide +kernel
theorem dX1_sheetsFor_33 : decode cX1_sheetsFor 33 = .ok (.getfield 101, 3) := by decide +kernel
theorem dX1_sheetsFor_36 : decode cX1_sheetsFor 36 = .ok (.iload_n 1, 1) := by decide +kernel
theorem dX1_sheetsFor_37 : decode cX1_sheetsFor 37 = .ok (.iaload, 1) := by decide +kernel
theorem dX1_sheetsFor_38 : decode cX1_sheetsFor 38 = .ok (.invokevirtual 104, 3) := by decide +kernel
theorem dX1_sheetsFor_41 : decode cX1_sheetsFor 41 = .ok (.istore 4, 2) := by decide +kernel
theorem dX1_sheetsFor_43 : decode cX1_sheetsFor 43 = .ok (.iload 4, 2) := by decide +kernel
theorem dX1_sheetsFor_45 : decode cX1_sheetsFor 45 = .ok (.ifCond .eq 29, 3) := by decide +kernel
theorem dX1_sheetsFor_48 : decode cX1_sheetsFor 48 = .ok (.aload_n 0, 1) := by decide +kernel
theorem dX1_sheetsFor_49 : decode cX1_sheetsFor 49 = .ok (.iload_n 3, 1) := by decide +kernel
theorem dX1_sheetsFor_50 : decode cX1_sheetsFor 50 = .ok (.aload_n 0, 1) := by decide +kernel
theorem dX1_sheetsFor_51 : decode cX1_sheetsFor 51 = .ok (.getfield 38, 3) := by decide +kernel
theorem dX1_sheetsFor_54 : decode cX1_sheetsFor 54 = .ok (.getfield 49, 3) := by decide +kernel
theorem dX1_sheetsFor_57 : decode cX1_sheetsFor 57 = .ok (.getfield 88, 3) := by decide +kernel
theorem dX1_sheetsFor_60 : decode cX1_sheetsFor 60 = .ok (.iload_n 1, 1) := by decide +kernel
theorem dX1_sheetsFor_61 : decode cX1_sheetsFor 61 = .ok (.iaload, 1) := by decide +kernel
theorem dX1_sheetsFor_62 : decode cX1_sheetsFor 62 = .ok (.invokevirtual 108, 3) := by decide +kernel
theorem dX1_sheetsFor_65 : decode cX1_sheetsFor 65 = .ok (.ifCond .ne 9, 3) := by decide +kernel
theorem dX1_sheetsFor_68 : decode cX1_sheetsFor 68 = .ok (.iload_n 2, 1) := by decide +kernel
theorem dX1_sheetsFor_69 : decode cX1_sheetsFor 69 = .ok (.iconst 1, 1) := by decide +kernel
theorem dX1_sheetsFor_70 : decode cX1_sheetsFor 70 = .ok (.iload_n 3, 1) := by decide +kernel
theorem dX1_sheetsFor_71 : decode cX1_sheetsFor 71 = .ok (.ishl, 1) := by decide +kernel
theorem dX1_sheetsFor_72 : decode cX1_sheetsFor 72 = .ok (.ior, 1) := by decide +kernel
theorem dX1_sheetsFor_73 : decode cX1_sheetsFor 73 = .ok (.istore_n 2, 1) := by decide +kernel
theorem dX1_sheetsFor_74 : decode cX1_sheetsFor 74 = .ok (.iinc 3 1, 3) := by decide +kernel
theorem dX1_sheetsFor_77 : decode cX1_sheetsFor 77 = .ok (.goto (-73), 3) := by decide +kernel
theorem dX1_sheetsFor_80 : decode cX1_sheetsFor 80 = .ok (.iload_n 2, 1) := by decide +kernel
theorem dX1_sheetsFor_81 : decode cX1_sheetsFor 81 = .ok (.ireturn, 1) := by decide +kernel
theorem dX1_shownTooNear_0 : decode cX1_shownTooNear 0 = .ok (.aload_n 0, 1) := by decide +kernel
theorem dX1_shownTooNear_1 : decode cX1_shownTooNear 1 = .ok (.getfield 38, 3) := by decide +kernel
theorem dX1_shownTooNear_4 : decode cX1_shownTooNear 4 = .ok (.getfield 111, 3) := by decide +kernel
theorem dX1_shownTooNear_7 : decode cX1_shownTooNear 7 = .ok (.iload_n 1, 1) := by decide +kernel
theorem dX1_shownTooNear_8 : decode cX1_shownTooNear 8 = .ok (.iload_n 2, 1) := by decide +kernel
theorem dX1_shownTooNear_9 : decode cX1_shownTooNear 9 = .ok (.aload_n 0, 1) := by decide +kernel
theorem dX1_shownTooNear_10 : decode cX1_shownTooNear 10 = .ok (.getfield 38, 3) := by decide +kernel
theorem dX1_shownTooNear_13 : decode cX1_shownTooNear 13 = .ok (.getfield 64, 3) := by decide +kernel
theorem dX1_shownTooNear_16 : decode cX1_shownTooNear 16 = .ok (.getfield 115, 3) := by decide +kernel
theorem dX1_shownTooNear_19 : decode cX1_shownTooNear 19 = .ok (.iload_n 1, 1) := by decide +kernel
theorem dX1_shownTooNear_20 : decode cX1_shownTooNear 20 = .ok (.iaload, 1) := by decide +kernel
theorem dX1_shownTooNear_21 : decode cX1_shownTooNear 21 = .ok (.invokevirtual 118, 3) := by decide +kernel
theorem dX1_shownTooNear_24 : decode cX1_shownTooNear 24 = .ok (.ifCond .eq 5, 3) := by decide +kernel
theorem dX1_shownTooNear_27 : decode cX1_shownTooNear 27 = .ok (.iconst 1, 1) := by decide +kernel
theorem dX1_shownTooNear_28 : decode cX1_shownTooNear 28 = .ok (.ireturn, 1) := by decide +kernel
theorem dX1_shownTooNear_29 : decode cX1_shownTooNear 29 = .ok (.aload_n 0, 1) := by decide +kernel
theorem dX1_shownTooNear_30 : decode cX1_shownTooNear 30 = .ok (.getfield 38, 3) := by decide +kernel
theorem dX1_shownTooNear_33 : decode cX1_shownTooNear 33 = .ok (.getfield 64, 3) := by decide +kernel
theorem dX1_shownTooNear_36 : decode cX1_shownTooNear 36 = .ok (.getfield 124, 3) := by decide +kernel
theorem dX1_shownTooNear_39 : decode cX1_shownTooNear 39 = .ok (.iload_n 1, 1) := by decide +kernel
theorem dX1_shownTooNear_40 : decode cX1_shownTooNear 40 = .ok (.iaload, 1) := by decide +kernel
theorem dX1_shownTooNear_41 : decode cX1_shownTooNear 41 = .ok (.istore_n 3, 1) := by decide +kernel
theorem dX1_shownTooNear_42 : decode cX1_shownTooNear 42 = .ok (.iload_n 3, 1) := by decide +kernel
theorem dX1_shownTooNear_43 : decode cX1_shownTooNear 43 = .ok (.bipush (-4), 2) := by decide +kernel
theorem dX1_shownTooNear_45 : decode cX1_shownTooNear 45 = .ok (.if_icmp .eq 23, 3) := by decide +kernel
theorem dX1_shownTooNear_48 : decode cX1_shownTooNear 48 = .ok (.aload_n 0, 1) := by decide +kernel
theorem dX1_shownTooNear_49 : decode cX1_shownTooNear 49 = .ok (.getfield 38, 3) := by decide +kernel
theorem dX1_shownTooNear_52 : decode cX1_shownTooNear 52 = .ok (.getfield 111, 3) := by decide +kernel
theorem dX1_shownTooNear_55 : decode cX1_shownTooNear 55 = .ok (.iload_n 3, 1) := by decide +kernel
theorem dX1_shownTooNear_56 : decode cX1_shownTooNear 56 = .ok (.iload_n 2, 1) := by decide +kernel
theorem dX1_shownTooNear_57 : decode cX1_shownTooNear 57 = .ok (.iconst 0, 1) := by decide +kernel
theorem dX1_shownTooNear_58 : decode cX1_shownTooNear 58 = .ok (.invokevirtual 118, 3) := by decide +kernel
theorem dX1_shownTooNear_61 : decode cX1_shownTooNear 61 = .ok (.ifCond .eq 7, 3) := by decide +kernel
theorem dX1_shownTooNear_64 : decode cX1_shownTooNear 64 = .ok (.iconst 1, 1) := by decide +kernel
theorem dX1_shownTooNear_65 : decode cX1_shownTooNear 65 = .ok (.goto 4, 3) := by decide +kernel
theorem dX1_shownTooNear_68 : decode cX1_shownTooNear 68 = .ok (.iconst 0, 1) := by decide +kernel
theorem dX1_shownTooNear_69 : decode cX1_shownTooNear 69 = .ok (.ireturn, 1) := by decide +kernel
theorem dX1_place_0 : decode cX1_place 0 = .ok (.iload_n 1, 1) := by decide +kernel
theorem dX1_place_1 : decode cX1_place 1 = .ok (.aload_n 0, 1) := by decide +kernel
theorem dX1_place_2 : decode cX1_place 2 = .ok (.getfield 38, 3) := by decide +kernel
theorem dX1_place_5 : decode cX1_place 5 = .ok (.getfield 49, 3) := by decide +kernel
theorem dX1_place_8 : decode cX1_place 8 = .ok (.getfield 55, 3) := by decide +kernel
theorem dX1_place_11 : decode cX1_place 11 = .ok (.if_icmp .ge 8, 3) := by decide +kernel
theorem dX1_place_14 : decode cX1_place 14 = .ok (.iload_n 1, 1) := by decide +kernel
theorem dX1_place_15 : decode cX1_place 15 = .ok (.iconst 5, 1) := by decide +kernel
theorem dX1_place_16 : decode cX1_place 16 = .ok (.if_icmp .lt 9, 3) := by decide +kernel
theorem dX1_place_19 : decode cX1_place 19 = .ok (.aload_n 0, 1) := by decide +kernel
theorem dX1_place_20 : decode cX1_place 20 = .ok (.iload_n 2, 1) := by decide +kernel
theorem dX1_place_21 : decode cX1_place 21 = .ok (.invokevirtual 127, 3) := by decide +kernel
theorem dX1_place_24 : decode cX1_place 24 = .ok (.return_, 1) := by decide +kernel
theorem dX1_place_25 : decode cX1_place 25 = .ok (.iload_n 2, 1) := by decide +kernel
theorem dX1_place_26 : decode cX1_place 26 = .ok (.aload_n 0, 1) := by decide +kernel
theorem dX1_place_27 : decode cX1_place 27 = .ok (.getfield 32, 3) := by decide +kernel
theorem dX1_place_30 : decode cX1_place 30 = .ok (.iload_n 1, 1) := by decide +kernel
theorem dX1_place_31 : decode cX1_place 31 = .ok (.iaload, 1) := by decide +kernel
theorem dX1_place_32 : decode cX1_place 32 = .ok (.iadd, 1) := by decide +kernel
theorem dX1_place_33 : decode cX1_place 33 = .ok (.aload_n 0, 1) := by decide +kernel
theorem dX1_place_34 : decode cX1_place 34 = .ok (.getfield 19, 3) := by decide +kernel
theorem dX1_place_37 : decode cX1_place 37 = .ok (.if_icmp .gt 4, 3) := by decide +kernel
theorem dX1_place_40 : decode cX1_place 40 = .ok (.return_, 1) := by decide +kernel
theorem dX1_place_41 : decode cX1_place 41 = .ok (.iconst 0, 1) := by decide +kernel
theorem dX1_place_42 : decode cX1_place 42 = .ok (.istore_n 3, 1) := by decide +kernel
theorem dX1_place_43 : decode cX1_place 43 = .ok (.iload_n 3, 1) := by decide +kernel
theorem dX1_place_44 : decode cX1_place 44 = .ok (.aload_n 0, 1) := by decide +kernel
theorem dX1_place_45 : decode cX1_place 45 = .ok (.getfield 38, 3) := by decide +kernel
theorem dX1_place_48 : decode cX1_place 48 = .ok (.getfield 64, 3) := by decide +kernel
theorem dX1_place_51 : decode cX1_place 51 = .ok (.getfield 68, 3) := by decide +kernel
theorem dX1_place_54 : decode cX1_place 54 = .ok (.if_icmp .ge 84, 3) := by decide +kernel
theorem dX1_place_57 : decode cX1_place 57 = .ok (.aload_n 0, 1) := by decide +kernel
theorem dX1_place_58 : decode cX1_place 58 = .ok (.iload_n 1, 1) := by decide +kernel
theorem dX1_place_59 : decode cX1_place 59 = .ok (.iload_n 3, 1) := by decide +kernel
theorem dX1_place_60 : decode cX1_place 60 = .ok (.invokevirtual 131, 3) := by decide +kernel
theorem dX1_place_63 : decode cX1_place 63 = .ok (.ifCond .eq 69, 3) := by decide +kernel
theorem dX1_place_66 : decode cX1_place 66 = .ok (.aload_n 0, 1) := by decide +kernel
theorem dX1_place_67 : decode cX1_place 67 = .ok (.getfield 23, 3) := by decide +kernel
theorem dX1_place_70 : decode cX1_place 70 = .ok (.iload_n 1, 1) := by decide +kernel
theorem dX1_place_71 : decode cX1_place 71 = .ok (.iload_n 3, 1) := by decide +kernel
theorem dX1_place_72 : decode cX1_place 72 = .ok (.iastore, 1) := by decide +kernel
theorem dX1_place_73 : decode cX1_place 73 = .ok (.aload_n 0, 1) := by decide +kernel
theorem dX1_place_74 : decode cX1_place 74 = .ok (.getfield 35, 3) := by decide +kernel
theorem dX1_place_77 : decode cX1_place 77 = .ok (.iload_n 3, 1) := by decide +kernel
theorem dX1_place_78 : decode cX1_place 78 = .ok (.dup2, 1) := by decide +kernel
theorem dX1_place_79 : decode cX1_place 79 = .ok (.iaload, 1) := by decide +kernel
theorem dX1_place_80 : decode cX1_place 80 = .ok (.aload_n 0, 1) := by decide +kernel
theorem dX1_place_81 : decode cX1_place 81 = .ok (.getfield 29, 3) := by decide +kernel
theorem dX1_place_84 : decode cX1_place 84 = .ok (.iload_n 1, 1) := by decide +kernel
theorem dX1_place_85 : decode cX1_place 85 = .ok (.iaload, 1) := by decide +kernel
theorem dX1_place_86 : decode cX1_place 86 = .ok (.isub, 1) := by decide +kernel
theorem dX1_place_87 : decode cX1_place 87 = .ok (.iastore, 1) := by decide +kernel
theorem dX1_place_88 : decode cX1_place 88 = .ok (.aload_n 0, 1) := by decide +kernel
theorem dX1_place_89 : decode cX1_place 89 = .ok (.iload_n 1, 1) := by decide +kernel
theorem dX1_place_90 : decode cX1_place 90 = .ok (.iconst 1, 1) := by decide +kernel
theorem dX1_place_91 : decode cX1_place 91 = .ok (.iadd, 1) := by decide +kernel
theorem dX1_place_92 : decode cX1_place 92 = .ok (.iload_n 2, 1) := by decide +kernel
theorem dX1_place_93 : decode cX1_place 93 = .ok (.aload_n 0, 1) := by decide +kernel
theorem dX1_place_94 : decode cX1_place 94 = .ok (.getfield 38, 3) := by decide +kernel
theorem dX1_place_97 : decode cX1_place 97 = .ok (.getfield 64, 3) := by decide +kernel
theorem dX1_place_100 : decode cX1_place 100 = .ok (.getfield 134, 3) := by decide +kernel
theorem dX1_place_103 : decode cX1_place 103 = .ok (.iload_n 3, 1) := by decide +kernel
theorem dX1_place_104 : decode cX1_place 104 = .ok (.iaload, 1) := by decide +kernel
theorem dX1_place_105 : decode cX1_place 105 = .ok (.iadd, 1) := by decide +kernel
theorem dX1_place_106 : decode cX1_place 106 = .ok (.invokestatic 60, 3) := by decide +kernel
theorem dX1_place_109 : decode cX1_place 109 = .ok (.aload_n 0, 1) := by decide +kernel
theorem dX1_place_110 : decode cX1_place 110 = .ok (.getfield 35, 3) := by decide +kernel
theorem dX1_place_113 : decode cX1_place 113 = .ok (.iload_n 3, 1) := by decide +kernel
theorem dX1_place_114 : decode cX1_place 114 = .ok (.dup2, 1) := by decide +kernel
theorem dX1_place_115 : decode cX1_place 115 = .ok (.iaload, 1) := by decide +kernel
theorem dX1_place_116 : decode cX1_place 116 = .ok (.aload_n 0, 1) := by decide +kernel
theorem dX1_place_117 : decode cX1_place 117 = .ok (.getfield 29, 3) := by decide +kernel
theorem dX1_place_120 : decode cX1_place 120 = .ok (.iload_n 1, 1) := by decide +kernel
theorem dX1_place_121 : decode cX1_place 121 = .ok (.iaload, 1) := by decide +kernel
theorem dX1_place_122 : decode cX1_place 122 = .ok (.iadd, 1) := by decide +kernel
theorem dX1_place_123 : decode cX1_place 123 = .ok (.iastore, 1) := by decide +kernel
theorem dX1_place_124 : decode cX1_place 124 = .ok (.aload_n 0, 1) := by decide +kernel
theorem dX1_place_125 : decode cX1_place 125 = .ok (.getfield 23, 3) := by decide +kernel
theorem dX1_place_128 : decode cX1_place 128 = .ok (.iload_n 1, 1) := by decide +kernel
theorem dX1_place_129 : decode cX1_place 129 = .ok (.bipush (-4), 2) := by decide +kernel
theorem dX1_place_131 : decode cX1_place 131 = .ok (.iastore, 1) := by decide +kernel
theorem dX1_place_132 : decode cX1_place 132 = .ok (.iinc 3 1, 3) := by decide +kernel
theorem dX1_place_135 : decode cX1_place 135 = .ok (.goto (-92), 3) := by decide +kernel
theorem dX1_place_138 : decode cX1_place 138 = .ok (.aload_n 0, 1) := by decide +kernel
theorem dX1_place_139 : decode cX1_place 139 = .ok (.iload_n 1, 1) := by decide +kernel
theorem dX1_place_140 : decode cX1_place 140 = .ok (.iconst 1, 1) := by decide +kernel
theorem dX1_place_141 : decode cX1_place 141 = .ok (.iadd, 1) := by decide +kernel
theorem dX1_place_142 : decode cX1_place 142 = .ok (.iload_n 2, 1) := by decide +kernel
theorem dX1_place_143 : decode cX1_place 143 = .ok (.invokestatic 60, 3) := by decide +kernel
theorem dX1_place_146 : decode cX1_place 146 = .ok (.return_, 1) := by decide +kernel
theorem dX1_takeIfBetter_0 : decode cX1_takeIfBetter 0 = .ok (.iload_n 1, 1) := by decide +kernel
theorem dX1_takeIfBetter_1 : decode cX1_takeIfBetter 1 = .ok (.aload_n 0, 1) := by decide +kernel
theorem dX1_takeIfBetter_2 : decode cX1_takeIfBetter 2 = .ok (.getfield 19, 3) := by decide +kernel
theorem dX1_takeIfBetter_5 : decode cX1_takeIfBetter 5 = .ok (.if_icmp .le 19, 3) := by decide +kernel
theorem dX1_takeIfBetter_8 : decode cX1_takeIfBetter 8 = .ok (.aload_n 0, 1) := by decide +kernel
theorem dX1_takeIfBetter_9 : decode cX1_takeIfBetter 9 = .ok (.iload_n 1, 1) := by decide +kernel
theorem dX1_takeIfBetter_10 : decode cX1_takeIfBetter 10 = .ok (.putfield 19, 3) := by decide +kernel
theorem dX1_takeIfBetter_13 : decode cX1_takeIfBetter 13 = .ok (.aload_n 0, 1) := by decide +kernel
theorem dX1_takeIfBetter_14 : decode cX1_takeIfBetter 14 = .ok (.getfield 23, 3) := by decide +kernel
theorem dX1_takeIfBetter_17 : decode cX1_takeIfBetter 17 = .ok (.aload_n 0, 1) := by decide +kernel
theorem dX1_takeIfBetter_18 : decode cX1_takeIfBetter 18 = .ok (.getfield 15, 3) := by decide +kernel
theorem dX1_takeIfBetter_21 : decode cX1_takeIfBetter 21 = .ok (.invokestatic 137, 3) := by decide +kernel
theorem dX1_takeIfBetter_24 : decode cX1_takeIfBetter 24 = .ok (.return_, 1) := by decide +kernel
theorem dX1_fits_0 : decode cX1_fits 0 = .ok (.aload_n 0, 1) := by decide +kernel
theorem dX1_fits_1 : decode cX1_fits 1 = .ok (.getfield 26, 3) := by decide +kernel
theorem dX1_fits_4 : decode cX1_fits 4 = .ok (.iload_n 1, 1) := by decide +kernel
theorem dX1_fits_5 : decode cX1_fits 5 = .ok (.iaload, 1) := by decide +kernel
theorem dX1_fits_6 : decode cX1_fits 6 = .ok (.iload_n 2, 1) := by decide +kernel
theorem dX1_fits_7 : decode cX1_fits 7 = .ok (.ishr, 1) := by decide +kernel
theorem dX1_fits_8 : decode cX1_fits 8 = .ok (.iconst 1, 1) := by decide +kernel
theorem dX1_fits_9 : decode cX1_fits 9 = .ok (.iand, 1) := by decide +kernel
theorem dX1_fits_10 : decode cX1_fits 10 = .ok (.ifCond .eq 18, 3) := by decide +kernel
theorem dX1_fits_13 : decode cX1_fits 13 = .ok (.aload_n 0, 1) := by decide +kernel
theorem dX1_fits_14 : decode cX1_fits 14 = .ok (.getfield 29, 3) := by decide +kernel
theorem dX1_fits_17 : decode cX1_fits 17 = .ok (.iload_n 1, 1) := by decide +kernel
theorem dX1_fits_18 : decode cX1_fits 18 = .ok (.iaload, 1) := by decide +kernel
theorem dX1_fits_19 : decode cX1_fits 19 = .ok (.aload_n 0, 1) := by decide +kernel
theorem dX1_fits_20 : decode cX1_fits 20 = .ok (.getfield 35, 3) := by decide +kernel
theorem dX1_fits_23 : decode cX1_fits 23 = .ok (.iload_n 2, 1) := by decide +kernel
theorem dX1_fits_24 : decode cX1_fits 24 = .ok (.iaload, 1) := by decide +kernel
theorem dX1_fits_25 : decode cX1_fits 25 = .ok (.if_icmp .le 5, 3) := by decide +kernel
theorem dX1_fits_28 : decode cX1_fits 28 = .ok (.iconst 0, 1) := by decide +kernel
theorem dX1_fits_29 : decode cX1_fits 29 = .ok (.ireturn, 1) := by decide +kernel
theorem dX1_fits_30 : decode cX1_fits 30 = .ok (.aload_n 0, 1) := by decide +kernel
theorem dX1_fits_31 : decode cX1_fits 31 = .ok (.getfield 38, 3) := by decide +kernel
theorem dX1_fits_34 : decode cX1_fits 34 = .ok (.getfield 49, 3) := by decide +kernel
theorem dX1_fits_37 : decode cX1_fits 37 = .ok (.getfield 88, 3) := by decide +kernel
theorem dX1_fits_40 : decode cX1_fits 40 = .ok (.iload_n 1, 1) := by decide +kernel
theorem dX1_fits_41 : decode cX1_fits 41 = .ok (.iaload, 1) := by decide +kernel
theorem dX1_fits_42 : decode cX1_fits 42 = .ok (.istore_n 3, 1) := by decide +kernel
theorem dX1_fits_43 : decode cX1_fits 43 = .ok (.iconst 0, 1) := by decide +kernel
theorem dX1_fits_44 : decode cX1_fits 44 = .ok (.istore 4, 2) := by decide +kernel
theorem dX1_fits_46 : decode cX1_fits 46 = .ok (.iload 4, 2) := by decide +kernel
theorem dX1_fits_48 : decode cX1_fits 48 = .ok (.iload_n 1, 1) := by decide +kernel
theorem dX1_fits_49 : decode cX1_fits 49 = .ok (.if_icmp .ge 100, 3) := by decide +kernel
theorem dX1_fits_52 : decode cX1_fits 52 = .ok (.aload_n 0, 1) := by decide +kernel
theorem dX1_fits_53 : decode cX1_fits 53 = .ok (.getfield 38, 3) := by decide +kernel
theorem dX1_fits_56 : decode cX1_fits 56 = .ok (.getfield 49, 3) := by decide +kernel
theorem dX1_fits_59 : decode cX1_fits 59 = .ok (.getfield 88, 3) := by decide +kernel
theorem dX1_fits_62 : decode cX1_fits 62 = .ok (.iload 4, 2) := by decide +kernel
theorem dX1_fits_64 : decode cX1_fits 64 = .ok (.iaload, 1) := by decide +kernel
theorem dX1_fits_65 : decode cX1_fits 65 = .ok (.iload_n 3, 1) := by decide +kernel
theorem dX1_fits_66 : decode cX1_fits 66 = .ok (.isub, 1) := by decide +kernel
theorem dX1_fits_67 : decode cX1_fits 67 = .ok (.invokestatic 141, 3) := by decide +kernel
theorem dX1_fits_70 : decode cX1_fits 70 = .ok (.istore 5, 2) := by decide +kernel
theorem dX1_fits_72 : decode cX1_fits 72 = .ok (.aload_n 0, 1) := by decide +kernel
theorem dX1_fits_73 : decode cX1_fits 73 = .ok (.getfield 23, 3) := by decide +kernel
theorem dX1_fits_76 : decode cX1_fits 76 = .ok (.iload 4, 2) := by decide +kernel
theorem dX1_fits_78 : decode cX1_fits 78 = .ok (.iaload, 1) := by decide +kernel
theorem dX1_fits_79 : decode cX1_fits 79 = .ok (.iload_n 2, 1) := by decide +kernel
theorem dX1_fits_80 : decode cX1_fits 80 = .ok (.if_icmp .ne 22, 3) := by decide +kernel
theorem dX1_fits_83 : decode cX1_fits 83 = .ok (.iload 5, 2) := by decide +kernel
theorem dX1_fits_85 : decode cX1_fits 85 = .ok (.aload_n 0, 1) := by decide +kernel
theorem dX1_fits_86 : decode cX1_fits 86 = .ok (.getfield 38, 3) := by decide +kernel
theorem dX1_fits_89 : decode cX1_fits 89 = .ok (.getfield 64, 3) := by decide +kernel
theorem dX1_fits_92 : decode cX1_fits 92 = .ok (.getfield 115, 3) := by decide +kernel
theorem dX1_fits_95 : decode cX1_fits 95 = .ok (.iload_n 2, 1) := by decide +kernel
theorem dX1_fits_96 : decode cX1_fits 96 = .ok (.iaload, 1) := by decide +kernel
theorem dX1_fits_97 : decode cX1_fits 97 = .ok (.if_icmp .gt 5, 3) := by decide +kernel
theorem dX1_fits_100 : decode cX1_fits 100 = .ok (.iconst 0, 1) := by decide +kernel
theorem dX1_fits_101 : decode cX1_fits 101 = .ok (.ireturn, 1) := by decide +kernel
theorem dX1_fits_102 : decode cX1_fits 102 = .ok (.aload_n 0, 1) := by decide +kernel
theorem dX1_fits_103 : decode cX1_fits 103 = .ok (.getfield 23, 3) := by decide +kernel
theorem dX1_fits_106 : decode cX1_fits 106 = .ok (.iload 4, 2) := by decide +kernel
theorem dX1_fits_108 : decode cX1_fits 108 = .ok (.iaload, 1) := by decide +kernel
theorem dX1_fits_109 : decode cX1_fits 109 = .ok (.bipush (-4), 2) := by decide +kernel
theorem dX1_fits_111 : decode cX1_fits 111 = .ok (.if_icmp .eq 32, 3) := by decide +kernel
theorem dX1_fits_114 : decode cX1_fits 114 = .ok (.aload_n 0, 1) := by decide +kernel
theorem dX1_fits_115 : decode cX1_fits 115 = .ok (.getfield 23, 3) := by decide +kernel
theorem dX1_fits_118 : decode cX1_fits 118 = .ok (.iload 4, 2) := by decide +kernel
theorem dX1_fits_120 : decode cX1_fits 120 = .ok (.iaload, 1) := by decide +kernel
theorem dX1_fits_121 : decode cX1_fits 121 = .ok (.aload_n 0, 1) := by decide +kernel
theorem dX1_fits_122 : decode cX1_fits 122 = .ok (.getfield 38, 3) := by decide +kernel
theorem dX1_fits_125 : decode cX1_fits 125 = .ok (.getfield 64, 3) := by decide +kernel
theorem dX1_fits_128 : decode cX1_fits 128 = .ok (.getfield 124, 3) := by decide +kernel
theorem dX1_fits_131 : decode cX1_fits 131 = .ok (.iload_n 2, 1) := by decide +kernel
theorem dX1_fits_132 : decode cX1_fits 132 = .ok (.iaload, 1) := by decide +kernel
theorem dX1_fits_133 : decode cX1_fits 133 = .ok (.if_icmp .ne 10, 3) := by decide +kernel
theorem dX1_fits_136 : decode cX1_fits 136 = .ok (.iload 5, 2) := by decide +kernel
theorem dX1_fits_138 : decode cX1_fits 138 = .ok (.ifCond .ne 5, 3) := by decide +kernel
theorem dX1_fits_141 : decode cX1_fits 141 = .ok (.iconst 0, 1) := by decide +kernel
theorem dX1_fits_142 : decode cX1_fits 142 = .ok (.ireturn, 1) := by decide +kernel
theorem dX1_fits_143 : decode cX1_fits 143 = .ok (.iinc 4 1, 3) := by decide +kernel
theorem dX1_fits_146 : decode cX1_fits 146 = .ok (.goto (-100), 3) := by decide +kernel
theorem dX1_fits_149 : decode cX1_fits 149 = .ok (.iconst 1, 1) := by decide +kernel
theorem dX1_fits_150 : decode cX1_fits 150 = .ok (.ireturn, 1) := by decide +kernel
theorem dX1_countHung_0 : decode cX1_countHung 0 = .ok (.iconst 0, 1) := by decide +kernel
theorem dX1_countHung_1 : decode cX1_countHung 1 = .ok (.istore_n 1, 1) := by decide +kernel
theorem dX1_countHung_2 : decode cX1_countHung 2 = .ok (.iconst 0, 1) := by decide +kernel
theorem dX1_countHung_3 : decode cX1_countHung 3 = .ok (.istore_n 2, 1) := by decide +kernel
theorem dX1_countHung_4 : decode cX1_countHung 4 = .ok (.iload_n 2, 1) := by decide +kernel
theorem dX1_countHung_5 : decode cX1_countHung 5 = .ok (.aload_n 0, 1) := by decide +kernel
theorem dX1_countHung_6 : decode cX1_countHung 6 = .ok (.getfield 38, 3) := by decide +kernel
theorem dX1_countHung_9 : decode cX1_countHung 9 = .ok (.getfield 49, 3) := by decide +kernel
theorem dX1_countHung_12 : decode cX1_countHung 12 = .ok (.getfield 55, 3) := by decide +kernel
theorem dX1_countHung_15 : decode cX1_countHung 15 = .ok (.if_icmp .ge 23, 3) := by decide +kernel
theorem dX1_countHung_18 : decode cX1_countHung 18 = .ok (.aload_n 0, 1) := by decide +kernel
theorem dX1_countHung_19 : decode cX1_countHung 19 = .ok (.getfield 15, 3) := by decide +kernel
theorem dX1_countHung_22 : decode cX1_countHung 22 = .ok (.iload_n 2, 1) := by decide +kernel
theorem dX1_countHung_23 : decode cX1_countHung 23 = .ok (.iaload, 1) := by decide +kernel
theorem dX1_countHung_24 : decode cX1_countHung 24 = .ok (.bipush (-4), 2) := by decide +kernel
theorem dX1_countHung_26 : decode cX1_countHung 26 = .ok (.if_icmp .eq 6, 3) := by decide +kernel
theorem dX1_countHung_29 : decode cX1_countHung 29 = .ok (.iinc 1 1, 3) := by decide +kernel
theorem dX1_countHung_32 : decode cX1_countHung 32 = .ok (.iinc 2 1, 3) := by decide +kernel
theorem dX1_countHung_35 : decode cX1_countHung 35 = .ok (.goto (-31), 3) := by decide +kernel
theorem dX1_countHung_38 : decode cX1_countHung 38 = .ok (.iload_n 1, 1) := by decide +kernel
theorem dX1_countHung_39 : decode cX1_countHung 39 = .ok (.ireturn, 1) := by decide +kernel
theorem dX1_lightOn_0 : decode cX1_lightOn 0 = .ok (.iconst 0, 1) := by decide +kernel
theorem dX1_lightOn_1 : decode cX1_lightOn 1 = .ok (.istore_n 2, 1) := by decide +kernel
theorem dX1_lightOn_2 : decode cX1_lightOn 2 = .ok (.iconst 0, 1) := by decide +kernel
theorem dX1_lightOn_3 : decode cX1_lightOn 3 = .ok (.istore_n 3, 1) := by decide +kernel
theorem dX1_lightOn_4 : decode cX1_lightOn 4 = .ok (.iload_n 3, 1) := by decide +kernel
theorem dX1_lightOn_5 : decode cX1_lightOn 5 = .ok (.aload_n 0, 1) := by decide +kernel
theorem dX1_lightOn_6 : decode cX1_lightOn 6 = .ok (.getfield 38, 3) := by decide +kernel
theorem dX1_lightOn_9 : decode cX1_lightOn 9 = .ok (.getfield 49, 3) := by decide +kernel
theorem dX1_lightOn_12 : decode cX1_lightOn 12 = .ok (.getfield 55, 3) := by decide +kernel
theorem dX1_lightOn_15 : decode cX1_lightOn 15 = .ok (.if_icmp .ge 28, 3) := by decide +kernel
theorem dX1_lightOn_18 : decode cX1_lightOn 18 = .ok (.aload_n 0, 1) := by decide +kernel
theorem dX1_lightOn_19 : decode cX1_lightOn 19 = .ok (.getfield 15, 3) := by decide +kernel
theorem dX1_lightOn_22 : decode cX1_lightOn 22 = .ok (.iload_n 3, 1) := by decide +kernel
theorem dX1_lightOn_23 : decode cX1_lightOn 23 = .ok (.iaload, 1) := by decide +kernel
theorem dX1_lightOn_24 : decode cX1_lightOn 24 = .ok (.iload_n 1, 1) := by decide +kernel
theorem dX1_lightOn_25 : decode cX1_lightOn 25 = .ok (.if_icmp .ne 12, 3) := by decide +kernel
theorem dX1_lightOn_28 : decode cX1_lightOn 28 = .ok (.iload_n 2, 1) := by decide +kernel
theorem dX1_lightOn_29 : decode cX1_lightOn 29 = .ok (.aload_n 0, 1) := by decide +kernel
theorem dX1_lightOn_30 : decode cX1_lightOn 30 = .ok (.getfield 29, 3) := by decide +kernel
theorem dX1_lightOn_33 : decode cX1_lightOn 33 = .ok (.iload_n 3, 1) := by decide +kernel
theorem dX1_lightOn_34 : decode cX1_lightOn 34 = .ok (.iaload, 1) := by decide +kernel
theorem dX1_lightOn_35 : decode cX1_lightOn 35 = .ok (.iadd, 1) := by decide +kernel
theorem dX1_lightOn_36 : decode cX1_lightOn 36 = .ok (.istore_n 2, 1) := by decide +kernel
theorem dX1_lightOn_37 : decode cX1_lightOn 37 = .ok (.iinc 3 1, 3) := by decide +kernel
theorem dX1_lightOn_40 : decode cX1_lightOn 40 = .ok (.goto (-36), 3) := by decide +kernel
theorem dX1_lightOn_43 : decode cX1_lightOn 43 = .ok (.iload_n 2, 1) := by decide +kernel
theorem dX1_lightOn_44 : decode cX1_lightOn 44 = .ok (.ireturn, 1) := by decide +kernel
theorem dX2_init_0 : decode cX2_init 0 = .ok (.aload_n 0, 1) := by decide +kernel
theorem dX2_init_1 : decode cX2_init 1 = .ok (.invokespecial 1, 3) := by decide +kernel
theorem dX2_init_4 : decode cX2_init 4 = .ok (.aload_n 0, 1) := by decide +kernel
theorem dX2_init_5 : decode cX2_init 5 = .ok (.new 7, 3) := by decide +kernel
theorem dX2_init_8 : decode cX2_init 8 = .ok (.dup, 1) := by decide +kernel
theorem dX2_init_9 : decode cX2_init 9 = .ok (.invokespecial 9, 3) := by decide +kernel
theorem dX2_init_12 : decode cX2_init 12 = .ok (.putfield 10, 3) := by decide +kernel
theorem dX2_init_15 : decode cX2_init 15 = .ok (.aload_n 0, 1) := by decide +kernel
theorem dX2_init_16 : decode cX2_init 16 = .ok (.new 16, 3) := by decide +kernel
theorem dX2_init_19 : decode cX2_init 19 = .ok (.dup, 1) := by decide +kernel
theorem dX2_init_20 : decode cX2_init 20 = .ok (.invokespecial 18, 3) := by decide +kernel
theorem dX2_init_23 : decode cX2_init 23 = .ok (.putfield 19, 3) := by decide +kernel
theorem dX2_init_26 : decode cX2_init 26 = .ok (.aload_n 0, 1) := by decide +kernel
theorem dX2_init_27 : decode cX2_init 27 = .ok (.new 23, 3) := by decide +kernel
theorem dX2_init_30 : decode cX2_init 30 = .ok (.dup, 1) := by decide +kernel
theorem dX2_init_31 : decode cX2_init 31 = .ok (.invokespecial 25, 3) := by decide +kernel
theorem dX2_init_34 : decode cX2_init 34 = .ok (.putfield 26, 3) := by decide +kernel
theorem dX2_init_37 : decode cX2_init 37 = .ok (.aload_n 0, 1) := by decide +kernel
theorem dX2_init_38 : decode cX2_init 38 = .ok (.new 30, 3) := by decide +kernel
theorem dX2_init_41 : decode cX2_init 41 = .ok (.dup, 1) := by decide +kernel
theorem dX2_init_42 : decode cX2_init 42 = .ok (.invokespecial 32, 3) := by decide +kernel
theorem dX2_init_45 : decode cX2_init 45 = .ok (.putfield 33, 3) := by decide +kernel
theorem dX2_init_48 : decode cX2_init 48 = .ok (.aload_n 0, 1) := by decide +kernel
theorem dX2_init_49 : decode cX2_init 49 = .ok (.new 37, 3) := by decide +kernel
theorem dX2_init_52 : decode cX2_init 52 = .ok (.dup, 1) := by decide +kernel
theorem dX2_init_53 : decode cX2_init 53 = .ok (.invokespecial 39, 3) := by decide +kernel
theorem dX2_init_56 : decode cX2_init 56 = .ok (.putfield 40, 3) := by decide +kernel
theorem dX2_init_59 : decode cX2_init 59 = .ok (.return_, 1) := by decide +kernel
theorem dX2_spendEnd_0 : decode cX2_spendEnd 0 = .ok (.aload_n 0, 1) := by decide +kernel
theorem dX2_spendEnd_1 : decode cX2_spendEnd 1 = .ok (.getfield 26, 3) := by decide +kernel
theorem dX2_spendEnd_4 : decode cX2_spendEnd 4 = .ok (.iload_n 1, 1) := by decide +kernel
theorem dX2_spendEnd_5 : decode cX2_spendEnd 5 = .ok (.invokevirtual 44, 3) := by decide +kernel
theorem dX2_spendEnd_8 : decode cX2_spendEnd 8 = .ok (.ifCond .eq 13, 3) := by decide +kernel
theorem dX2_spendEnd_11 : decode cX2_spendEnd 11 = .ok (.aload_n 0, 1) := by decide +kernel
theorem dX2_spendEnd_12 : decode cX2_spendEnd 12 = .ok (.getfield 26, 3) := by decide +kernel
theorem dX2_spendEnd_15 : decode cX2_spendEnd 15 = .ok (.getfield 48, 3) := by decide +kernel
theorem dX2_spendEnd_18 : decode cX2_spendEnd 18 = .ok (.iload_n 1, 1) := by decide +kernel
theorem dX2_spendEnd_19 : decode cX2_spendEnd 19 = .ok (.iaload, 1) := by decide +kernel
theorem dX2_spendEnd_20 : decode cX2_spendEnd 20 = .ok (.ireturn, 1) := by decide +kernel
theorem dX2_spendEnd_21 : decode cX2_spendEnd 21 = .ok (.aload_n 0, 1) := by decide +kernel
theorem dX2_spendEnd_22 : decode cX2_spendEnd 22 = .ok (.getfield 10, 3) := by decide +kernel
theorem dX2_spendEnd_25 : decode cX2_spendEnd 25 = .ok (.aload_n 0, 1) := by decide +kernel
theorem dX2_spendEnd_26 : decode cX2_spendEnd 26 = .ok (.getfield 26, 3) := by decide +kernel
theorem dX2_spendEnd_29 : decode cX2_spendEnd 29 = .ok (.getfield 52, 3) := by decide +kernel
theorem dX2_spendEnd_32 : decode cX2_spendEnd 32 = .ok (.iload_n 1, 1) := by decide +kernel
theorem dX2_spendEnd_33 : decode cX2_spendEnd 33 = .ok (.iaload, 1) := by decide +kernel
theorem dX2_spendEnd_34 : decode cX2_spendEnd 34 = .ok (.aload_n 0, 1) := by decide +kernel
theorem dX2_spendEnd_35 : decode cX2_spendEnd 35 = .ok (.getfield 26, 3) := by decide +kernel
theorem dX2_spendEnd_38 : decode cX2_spendEnd 38 = .ok (.getfield 55, 3) := by decide +kernel
theorem dX2_spendEnd_41 : decode cX2_spendEnd 41 = .ok (.iload_n 1, 1) := by decide +kernel
theorem dX2_spendEnd_42 : decode cX2_spendEnd 42 = .ok (.iaload, 1) := by decide +kernel
theorem dX2_spendEnd_43 : decode cX2_spendEnd 43 = .ok (.iload_n 2, 1) := by decide +kernel
theorem dX2_spendEnd_44 : decode cX2_spendEnd 44 = .ok (.invokevirtual 58, 3) := by decide +kernel
theorem dX2_spendEnd_47 : decode cX2_spendEnd 47 = .ok (.ireturn, 1) := by decide +kernel
theorem dX2_copyFrom_0 : decode cX2_copyFrom 0 = .ok (.aload_n 0, 1) := by decide +kernel
theorem dX2_copyFrom_1 : decode cX2_copyFrom 1 = .ok (.getfield 10, 3) := by decide +kernel
theorem dX2_copyFrom_4 : decode cX2_copyFrom 4 = .ok (.aload_n 1, 1) := by decide +kernel
theorem dX2_copyFrom_5 : decode cX2_copyFrom 5 = .ok (.getfield 10, 3) := by decide +kernel
theorem dX2_copyFrom_8 : decode cX2_copyFrom 8 = .ok (.invokevirtual 62, 3) := by decide +kernel
theorem dX2_copyFrom_11 : decode cX2_copyFrom 11 = .ok (.aload_n 0, 1) := by decide +kernel
theorem dX2_copyFrom_12 : decode cX2_copyFrom 12 = .ok (.getfield 19, 3) := by decide +kernel
theorem dX2_copyFrom_15 : decode cX2_copyFrom 15 = .ok (.aload_n 1, 1) := by decide +kernel
theorem dX2_copyFrom_16 : decode cX2_copyFrom 16 = .ok (.getfield 19, 3) := by decide +kernel
theorem dX2_copyFrom_19 : decode cX2_copyFrom 19 = .ok (.invokevirtual 66, 3) := by decide +kernel
theorem dX2_copyFrom_22 : decode cX2_copyFrom 22 = .ok (.aload_n 0, 1) := by decide +kernel
theorem dX2_copyFrom_23 : decode cX2_copyFrom 23 = .ok (.getfield 26, 3) := by decide +kernel
theorem dX2_copyFrom_26 : decode cX2_copyFrom 26 = .ok (.aload_n 1, 1) := by decide +kernel
theorem dX2_copyFrom_27 : decode cX2_copyFrom 27 = .ok (.getfield 26, 3) := by decide +kernel
theorem dX2_copyFrom_30 : decode cX2_copyFrom 30 = .ok (.invokevirtual 69, 3) := by decide +kernel
theorem dX2_copyFrom_33 : decode cX2_copyFrom 33 = .ok (.aload_n 0, 1) := by decide +kernel
theorem dX2_copyFrom_34 : decode cX2_copyFrom 34 = .ok (.getfield 33, 3) := by decide +kernel
theorem dX2_copyFrom_37 : decode cX2_copyFrom 37 = .ok (.aload_n 1, 1) := by decide +kernel
theorem dX2_copyFrom_38 : decode cX2_copyFrom 38 = .ok (.getfield 33, 3) := by decide +kernel
theorem dX2_copyFrom_41 : decode cX2_copyFrom 41 = .ok (.invokevirtual 72, 3) := by decide +kernel
theorem dX2_copyFrom_44 : decode cX2_copyFrom 44 = .ok (.aload_n 0, 1) := by decide +kernel
theorem dX2_copyFrom_45 : decode cX2_copyFrom 45 = .ok (.getfield 40, 3) := by decide +kernel
theorem dX2_copyFrom_48 : decode cX2_copyFrom 48 = .ok (.aload_n 1, 1) := by decide +kernel
theorem dX2_copyFrom_49 : decode cX2_copyFrom 49 = .ok (.getfield 40, 3) := by decide +kernel
theorem dX2_copyFrom_52 : decode cX2_copyFrom 52 = .ok (.invokevirtual 75, 3) := by decide +kernel
theorem dX2_copyFrom_55 : decode cX2_copyFrom 55 = .ok (.return_, 1) := by decide +kernel
theorem dX3_init_0 : decode cX3_init 0 = .ok (.aload_n 0, 1) := by decide +kernel
theorem dX3_init_1 : decode cX3_init 1 = .ok (.invokespecial 3, 3) := by decide +kernel
theorem dX3_init_4 : decode cX3_init 4 = .ok (.aload_n 0, 1) := by decide +kernel
theorem dX3_init_5 : decode cX3_init 5 = .ok (.iconst 0, 1) := by decide +kernel
theorem dX3_init_6 : decode cX3_init 6 = .ok (.putfield 9, 3) := by decide +kernel
theorem dX3_init_9 : decode cX3_init 9 = .ok (.aload_n 0, 1) := by decide +kernel
theorem dX3_init_10 : decode cX3_init 10 = .ok (.iconst 0, 1) := by decide +kernel
theorem dX3_init_11 : decode cX3_init 11 = .ok (.putfield 15, 3) := by decide +kernel
theorem dX3_init_14 : decode cX3_init 14 = .ok (.aload_n 0, 1) := by decide +kernel
theorem dX3_init_15 : decode cX3_init 15 = .ok (.iconst 0, 1) := by decide +kernel
theorem dX3_init_16 : decode cX3_init 16 = .ok (.putfield 19, 3) := by decide +kernel
theorem dX3_init_19 : decode cX3_init 19 = .ok (.aload_n 0, 1) := by decide +kernel
theorem dX3_init_20 : decode cX3_init 20 = .ok (.iconst 0, 1) := by decide +kernel
theorem dX3_init_21 : decode cX3_init 21 = .ok (.putfield 22, 3) := by decide +kernel
theorem dX3_init_24 : decode cX3_init 24 = .ok (.aload_n 0, 1) := by decide +kernel
theorem dX3_init_25 : decode cX3_init 25 = .ok (.bipush 10, 2) := by decide +kernel
theorem dX3_init_27 : decode cX3_init 27 = .ok (.newarray .int, 2) := by decide +kernel
theorem dX3_init_29 : decode cX3_init 29 = .ok (.putfield 25, 3) := by decide +kernel
theorem dX3_init_32 : decode cX3_init 32 = .ok (.aload_n 0, 1) := by decide +kernel
theorem dX3_init_33 : decode cX3_init 33 = .ok (.bipush 10, 2) := by decide +kernel
theorem dX3_init_35 : decode cX3_init 35 = .ok (.newarray .int, 2) := by decide +kernel
theorem dX3_init_37 : decode cX3_init 37 = .ok (.putfield 29, 3) := by decide +kernel
theorem dX3_init_40 : decode cX3_init 40 = .ok (.aload_n 0, 1) := by decide +kernel
theorem dX3_init_41 : decode cX3_init 41 = .ok (.aload_n 1, 1) := by decide +kernel
theorem dX3_init_42 : decode cX3_init 42 = .ok (.putfield 32, 3) := by decide +kernel
theorem dX3_init_45 : decode cX3_init 45 = .ok (.return_, 1) := by decide +kernel
theorem dX3_openAt_0 : decode cX3_openAt 0 = .ok (.aload_n 0, 1) := by decide +kernel
theorem dX3_openAt_1 : decode cX3_openAt 1 = .ok (.iload_n 1, 1) := by decide +kernel
theorem dX3_openAt_2 : decode cX3_openAt 2 = .ok (.putfield 9, 3) := by decide +kernel
theorem dX3_openAt_5 : decode cX3_openAt 5 = .ok (.aload_n 0, 1) := by decide +kernel
theorem dX3_openAt_6 : decode cX3_openAt 6 = .ok (.invokevirtual 36, 3) := by decide +kernel
theorem dX3_openAt_9 : decode cX3_openAt 9 = .ok (.aload_n 0, 1) := by decide +kernel
theorem dX3_openAt_10 : decode cX3_openAt 10 = .ok (.invokevirtual 39, 3) := by decide +kernel
theorem dX3_openAt_13 : decode cX3_openAt 13 = .ok (.aload_n 0, 1) := by decide +kernel
theorem dX3_openAt_14 : decode cX3_openAt 14 = .ok (.areturn, 1) := by decide +kernel
theorem dX3_sumSpends_0 : decode cX3_sumSpends 0 = .ok (.iconst 0, 1) := by decide +kernel
theorem dX3_sumSpends_1 : decode cX3_sumSpends 1 = .ok (.istore_n 1, 1) := by decide +kernel
theorem dX3_sumSpends_2 : decode cX3_sumSpends 2 = .ok (.iload_n 1, 1) := by decide +kernel
theorem dX3_sumSpends_3 : decode cX3_sumSpends 3 = .ok (.bipush 10, 2) := by decide +kernel
theorem dX3_sumSpends_5 : decode cX3_sumSpends 5 = .ok (.if_icmp .ge 23, 3) := by decide +kernel
theorem dX3_sumSpends_8 : decode cX3_sumSpends 8 = .ok (.aload_n 0, 1) := by decide +kernel
theorem dX3_sumSpends_9 : decode cX3_sumSpends 9 = .ok (.getfield 25, 3) := by decide +kernel
theorem dX3_sumSpends_12 : decode cX3_sumSpends 12 = .ok (.iload_n 1, 1) := by decide +kernel
theorem dX3_sumSpends_13 : decode cX3_sumSpends 13 = .ok (.iconst 0, 1) := by decide +kernel
theorem dX3_sumSpends_14 : decode cX3_sumSpends 14 = .ok (.iastore, 1) := by decide +kernel
theorem dX3_sumSpends_15 : decode cX3_sumSpends 15 = .ok (.aload_n 0, 1) := by decide +kernel
theorem dX3_sumSpends_16 : decode cX3_sumSpends 16 = .ok (.getfield 29, 3) := by decide +kernel
theorem dX3_sumSpends_19 : decode cX3_sumSpends 19 = .ok (.iload_n 1, 1) := by decide +kernel
theorem dX3_sumSpends_20 : decode cX3_sumSpends 20 = .ok (.iconst 0, 1) := by decide +kernel
theorem dX3_sumSpends_21 : decode cX3_sumSpends 21 = .ok (.iastore, 1) := by decide +kernel
theorem dX3_sumSpends_22 : decode cX3_sumSpends 22 = .ok (.iinc 1 1, 3) := by decide +kernel
theorem dX3_sumSpends_25 : decode cX3_sumSpends 25 = .ok (.goto (-23), 3) := by decide +kernel
theorem dX3_sumSpends_28 : decode cX3_sumSpends 28 = .ok (.aload_n 0, 1) := by decide +kernel
theorem dX3_sumSpends_29 : decode cX3_sumSpends 29 = .ok (.getfield 32, 3) := by decide +kernel
theorem dX3_sumSpends_32 : decode cX3_sumSpends 32 = .ok (.getfield 42, 3) := by decide +kernel
theorem dX3_sumSpends_35 : decode cX3_sumSpends 35 = .ok (.astore_n 1, 1) := by decide +kernel
theorem dX3_sumSpends_36 : decode cX3_sumSpends 36 = .ok (.iconst 0, 1) := by decide +kernel
theorem dX3_sumSpends_37 : decode cX3_sumSpends 37 = .ok (.istore_n 2, 1) := by decide +kernel
theorem dX3_sumSpends_38 : decode cX3_sumSpends 38 = .ok (.iload_n 2, 1) := by decide +kernel
theorem dX3_sumSpends_39 : decode cX3_sumSpends 39 = .ok (.aload_n 1, 1) := by decide +kernel
theorem dX3_sumSpends_40 : decode cX3_sumSpends 40 = .ok (.getfield 48, 3) := by decide +kernel
theorem dX3_sumSpends_43 : decode cX3_sumSpends 43 = .ok (.if_icmp .ge 67, 3) := by decide +kernel
theorem dX3_sumSpends_46 : decode cX3_sumSpends 46 = .ok (.aload_n 1, 1) := by decide +kernel
theorem dX3_sumSpends_47 : decode cX3_sumSpends 47 = .ok (.iload_n 2, 1) := by decide +kernel
theorem dX3_sumSpends_48 : decode cX3_sumSpends 48 = .ok (.aload_n 0, 1) := by decide +kernel
theorem dX3_sumSpends_49 : decode cX3_sumSpends 49 = .ok (.getfield 9, 3) := by decide +kernel
theorem dX3_sumSpends_52 : decode cX3_sumSpends 52 = .ok (.invokevirtual 53, 3) := by decide +kernel
theorem dX3_sumSpends_55 : decode cX3_sumSpends 55 = .ok (.ifCond .eq 49, 3) := by decide +kernel
theorem dX3_sumSpends_58 : decode cX3_sumSpends 58 = .ok (.aload_n 0, 1) := by decide +kernel
theorem dX3_sumSpends_59 : decode cX3_sumSpends 59 = .ok (.getfield 25, 3) := by decide +kernel
theorem dX3_sumSpends_62 : decode cX3_sumSpends 62 = .ok (.aload_n 1, 1) := by decide +kernel
theorem dX3_sumSpends_63 : decode cX3_sumSpends 63 = .ok (.getfield 57, 3) := by decide +kernel
theorem dX3_sumSpends_66 : decode cX3_sumSpends 66 = .ok (.iload_n 2, 1) := by decide +kernel
theorem dX3_sumSpends_67 : decode cX3_sumSpends 67 = .ok (.iaload, 1) := by decide +kernel
theorem dX3_sumSpends_68 : decode cX3_sumSpends 68 = .ok (.dup2, 1) := by decide +kernel
theorem dX3_sumSpends_69 : decode cX3_sumSpends 69 = .ok (.iaload, 1) := by decide +kernel
theorem dX3_sumSpends_70 : decode cX3_sumSpends 70 = .ok (.aload_n 0, 1) := by decide +kernel
theorem dX3_sumSpends_71 : decode cX3_sumSpends 71 = .ok (.getfield 32, 3) := by decide +kernel
theorem dX3_sumSpends_74 : decode cX3_sumSpends 74 = .ok (.iload_n 2, 1) := by decide +kernel
theorem dX3_sumSpends_75 : decode cX3_sumSpends 75 = .ok (.iconst 0, 1) := by decide +kernel
theorem dX3_sumSpends_76 : decode cX3_sumSpends 76 = .ok (.invokevirtual 60, 3) := by decide +kernel
theorem dX3_sumSpends_79 : decode cX3_sumSpends 79 = .ok (.iadd, 1) := by decide +kernel
theorem dX3_sumSpends_80 : decode cX3_sumSpends 80 = .ok (.iastore, 1) := by decide +kernel
theorem dX3_sumSpends_81 : decode cX3_sumSpends 81 = .ok (.aload_n 0, 1) := by decide +kernel
theorem dX3_sumSpends_82 : decode cX3_sumSpends 82 = .ok (.getfield 29, 3) := by decide +kernel
theorem dX3_sumSpends_85 : decode cX3_sumSpends 85 = .ok (.aload_n 1, 1) := by decide +kernel
theorem dX3_sumSpends_86 : decode cX3_sumSpends 86 = .ok (.getfield 57, 3) := by decide +kernel
theorem dX3_sumSpends_89 : decode cX3_sumSpends 89 = .ok (.iload_n 2, 1) := by decide +kernel
theorem dX3_sumSpends_90 : decode cX3_sumSpends 90 = .ok (.iaload, 1) := by decide +kernel
theorem dX3_sumSpends_91 : decode cX3_sumSpends 91 = .ok (.dup2, 1) := by decide +kernel
theorem dX3_sumSpends_92 : decode cX3_sumSpends 92 = .ok (.iaload, 1) := by decide +kernel
theorem dX3_sumSpends_93 : decode cX3_sumSpends 93 = .ok (.aload_n 0, 1) := by decide +kernel
theorem dX3_sumSpends_94 : decode cX3_sumSpends 94 = .ok (.getfield 32, 3) := by decide +kernel
theorem dX3_sumSpends_97 : decode cX3_sumSpends 97 = .ok (.iload_n 2, 1) := by decide +kernel
theorem dX3_sumSpends_98 : decode cX3_sumSpends 98 = .ok (.iconst 1, 1) := by decide +kernel
theorem dX3_sumSpends_99 : decode cX3_sumSpends 99 = .ok (.invokevirtual 60, 3) := by decide +kernel
theorem dX3_sumSpends_102 : decode cX3_sumSpends 102 = .ok (.iadd, 1) := by decide +kernel
theorem dX3_sumSpends_103 : decode cX3_sumSpends 103 = .ok (.iastore, 1) := by decide +kernel
theorem dX3_sumSpends_104 : decode cX3_sumSpends 104 = .ok (.iinc 2 1, 3) := by decide +kernel
theorem dX3_sumSpends_107 : decode cX3_sumSpends 107 = .ok (.goto (-69), 3) := by decide +kernel
theorem dX3_sumSpends_110 : decode cX3_sumSpends 110 = .ok (.iconst 1, 1) := by decide +kernel
theorem dX3_sumSpends_111 : decode cX3_sumSpends 111 = .ok (.istore_n 2, 1) := by decide +kernel
theorem dX3_sumSpends_112 : decode cX3_sumSpends 112 = .ok (.iload_n 2, 1) := by decide +kernel
theorem dX3_sumSpends_113 : decode cX3_sumSpends 113 = .ok (.bipush 10, 2) := by decide +kernel
theorem dX3_sumSpends_115 : decode cX3_sumSpends 115 = .ok (.if_icmp .ge 43, 3) := by decide +kernel
theorem dX3_sumSpends_118 : decode cX3_sumSpends 118 = .ok (.aload_n 0, 1) := by decide +kernel
theorem dX3_sumSpends_119 : decode cX3_sumSpends 119 = .ok (.getfield 25, 3) := by decide +kernel
theorem dX3_sumSpends_122 : decode cX3_sumSpends 122 = .ok (.iload_n 2, 1) := by decide +kernel
theorem dX3_sumSpends_123 : decode cX3_sumSpends 123 = .ok (.dup2, 1) := by decide +kernel
theorem dX3_sumSpends_124 : decode cX3_sumSpends 124 = .ok (.iaload, 1) := by decide +kernel
theorem dX3_sumSpends_125 : decode cX3_sumSpends 125 = .ok (.aload_n 0, 1) := by decide +kernel
theorem dX3_sumSpends_126 : decode cX3_sumSpends 126 = .ok (.getfield 25, 3) := by decide +kernel
theorem dX3_sumSpends_129 : decode cX3_sumSpends 129 = .ok (.iload_n 2, 1) := by decide +kernel
theorem dX3_sumSpends_130 : decode cX3_sumSpends 130 = .ok (.iconst 1, 1) := by decide +kernel
