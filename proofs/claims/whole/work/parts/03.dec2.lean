theorem dX8_of_1 : decode cX8_of 1 = .ok (.getfield 15, 3) := by decide +kernel
theorem dX8_of_4 : decode cX8_of 4 = .ok (.getfield 77, 3) := by decide +kernel
theorem dX8_of_7 : decode cX8_of 7 = .ok (.astore_n 3, 1) := by decide +kernel
theorem dX8_of_8 : decode cX8_of 8 = .ok (.aload_n 3, 1) := by decide +kernel
theorem dX8_of_9 : decode cX8_of 9 = .ok (.iload_n 1, 1) := by decide +kernel
theorem dX8_of_10 : decode cX8_of 10 = .ok (.invokevirtual 87, 3) := by decide +kernel
theorem dX8_of_13 : decode cX8_of 13 = .ok (.ifCond .ne 5, 3) := by decide +kernel
theorem dX8_of_16 : decode cX8_of 16 = .ok (.iconst (-1), 1) := by decide +kernel
theorem dX8_of_17 : decode cX8_of 17 = .ok (.ireturn, 1) := by decide +kernel
theorem dX8_of_18 : decode cX8_of 18 = .ok (.iload_n 2, 1) := by decide +kernel
theorem dX8_of_19 : decode cX8_of 19 = .ok (.tableswitch 124 0 7 #[45, 52, 59, 66, 73, 80, 100, 112], 45) := by decide +kernel
theorem dX8_of_64 : decode cX8_of 64 = .ok (.aload_n 3, 1) := by decide +kernel
theorem dX8_of_65 : decode cX8_of 65 = .ok (.getfield 97, 3) := by decide +kernel
theorem dX8_of_68 : decode cX8_of 68 = .ok (.iload_n 1, 1) := by decide +kernel
theorem dX8_of_69 : decode cX8_of 69 = .ok (.iaload, 1) := by decide +kernel
theorem dX8_of_70 : decode cX8_of 70 = .ok (.ireturn, 1) := by decide +kernel
theorem dX8_of_71 : decode cX8_of 71 = .ok (.aload_n 3, 1) := by decide +kernel
theorem dX8_of_72 : decode cX8_of 72 = .ok (.getfield 100, 3) := by decide +kernel
theorem dX8_of_75 : decode cX8_of 75 = .ok (.iload_n 1, 1) := by decide +kernel
theorem dX8_of_76 : decode cX8_of 76 = .ok (.iaload, 1) := by decide +kernel
theorem dX8_of_77 : decode cX8_of 77 = .ok (.ireturn, 1) := by decide +kernel
theorem dX8_of_78 : decode cX8_of 78 = .ok (.aload_n 3, 1) := by decide +kernel
theorem dX8_of_79 : decode cX8_of 79 = .ok (.getfield 103, 3) := by decide +kernel
theorem dX8_of_82 : decode cX8_of 82 = .ok (.iload_n 1, 1) := by decide +kernel
theorem dX8_of_83 : decode cX8_of 83 = .ok (.iaload, 1) := by decide +kernel
theorem dX8_of_84 : decode cX8_of 84 = .ok (.ireturn, 1) := by decide +kernel
theorem dX8_of_85 : decode cX8_of 85 = .ok (.aload_n 3, 1) := by decide +kernel
theorem dX8_of_86 : decode cX8_of 86 = .ok (.getfield 106, 3) := by decide +kernel
theorem dX8_of_89 : decode cX8_of 89 = .ok (.iload_n 1, 1) := by decide +kernel
theorem dX8_of_90 : decode cX8_of 90 = .ok (.iaload, 1) := by decide +kernel
theorem dX8_of_91 : decode cX8_of 91 = .ok (.ireturn, 1) := by decide +kernel
theorem dX8_of_92 : decode cX8_of 92 = .ok (.aload_n 3, 1) := by decide +kernel
theorem dX8_of_93 : decode cX8_of 93 = .ok (.getfield 88, 3) := by decide +kernel
theorem dX8_of_96 : decode cX8_of 96 = .ok (.iload_n 1, 1) := by decide +kernel
theorem dX8_of_97 : decode cX8_of 97 = .ok (.iaload, 1) := by decide +kernel
theorem dX8_of_98 : decode cX8_of 98 = .ok (.ireturn, 1) := by decide +kernel
theorem dX8_of_99 : decode cX8_of 99 = .ok (.aload_n 0, 1) := by decide +kernel
theorem dX8_of_100 : decode cX8_of 100 = .ok (.getfield 21, 3) := by decide +kernel
theorem dX8_of_103 : decode cX8_of 103 = .ok (.iload_n 1, 1) := by decide +kernel
theorem dX8_of_104 : decode cX8_of 104 = .ok (.invokevirtual 109, 3) := by decide +kernel
theorem dX8_of_107 : decode cX8_of 107 = .ok (.getfield 113, 3) := by decide +kernel
theorem dX8_of_110 : decode cX8_of 110 = .ok (.ifCond .eq 7, 3) := by decide +kernel
theorem dX8_of_113 : decode cX8_of 113 = .ok (.iconst 1, 1) := by decide +kernel
theorem dX8_of_114 : decode cX8_of 114 = .ok (.goto 4, 3) := by decide +kernel
theorem dX8_of_117 : decode cX8_of 117 = .ok (.iconst 0, 1) := by decide +kernel
theorem dX8_of_118 : decode cX8_of 118 = .ok (.ireturn, 1) := by decide +kernel
theorem dX8_of_119 : decode cX8_of 119 = .ok (.aload_n 0, 1) := by decide +kernel
theorem dX8_of_120 : decode cX8_of 120 = .ok (.getfield 15, 3) := by decide +kernel
theorem dX8_of_123 : decode cX8_of 123 = .ok (.getfield 117, 3) := by decide +kernel
theorem dX8_of_126 : decode cX8_of 126 = .ok (.iload_n 1, 1) := by decide +kernel
theorem dX8_of_127 : decode cX8_of 127 = .ok (.invokevirtual 121, 3) := by decide +kernel
theorem dX8_of_130 : decode cX8_of 130 = .ok (.ireturn, 1) := by decide +kernel
theorem dX8_of_131 : decode cX8_of 131 = .ok (.aload_n 0, 1) := by decide +kernel
theorem dX8_of_132 : decode cX8_of 132 = .ok (.getfield 15, 3) := by decide +kernel
theorem dX8_of_135 : decode cX8_of 135 = .ok (.getfield 126, 3) := by decide +kernel
theorem dX8_of_138 : decode cX8_of 138 = .ok (.iload_n 1, 1) := by decide +kernel
theorem dX8_of_139 : decode cX8_of 139 = .ok (.invokevirtual 130, 3) := by decide +kernel
theorem dX8_of_142 : decode cX8_of 142 = .ok (.ireturn, 1) := by decide +kernel
theorem dX8_of_143 : decode cX8_of 143 = .ok (.iconst (-1), 1) := by decide +kernel
theorem dX8_of_144 : decode cX8_of 144 = .ok (.ireturn, 1) := by decide +kernel
theorem dX8_show_0 : decode cX8_show 0 = .ok (.aload_n 0, 1) := by decide +kernel
theorem dX8_show_1 : decode cX8_show 1 = .ok (.getfield 15, 3) := by decide +kernel
theorem dX8_show_4 : decode cX8_show 4 = .ok (.getfield 77, 3) := by decide +kernel
theorem dX8_show_7 : decode cX8_show 7 = .ok (.iload_n 1, 1) := by decide +kernel
theorem dX8_show_8 : decode cX8_show 8 = .ok (.invokevirtual 87, 3) := by decide +kernel
theorem dX8_show_11 : decode cX8_show 11 = .ok (.ifCond .eq 24, 3) := by decide +kernel
theorem dX8_show_14 : decode cX8_show 14 = .ok (.aload_n 0, 1) := by decide +kernel
theorem dX8_show_15 : decode cX8_show 15 = .ok (.getfield 15, 3) := by decide +kernel
theorem dX8_show_18 : decode cX8_show 18 = .ok (.getfield 41, 3) := by decide +kernel
theorem dX8_show_21 : decode cX8_show 21 = .ok (.iload_n 2, 1) := by decide +kernel
theorem dX8_show_22 : decode cX8_show 22 = .ok (.invokevirtual 58, 3) := by decide +kernel
theorem dX8_show_25 : decode cX8_show 25 = .ok (.ifCond .eq 10, 3) := by decide +kernel
theorem dX8_show_28 : decode cX8_show 28 = .ok (.iload_n 3, 1) := by decide +kernel
theorem dX8_show_29 : decode cX8_show 29 = .ok (.invokestatic 62, 3) := by decide +kernel
theorem dX8_show_32 : decode cX8_show 32 = .ok (.ifCond .ne 5, 3) := by decide +kernel
theorem dX8_show_35 : decode cX8_show 35 = .ok (.iconst (-1), 1) := by decide +kernel
theorem dX8_show_36 : decode cX8_show 36 = .ok (.ireturn, 1) := by decide +kernel
theorem dX8_show_37 : decode cX8_show 37 = .ok (.aload_n 0, 1) := by decide +kernel
theorem dX8_show_38 : decode cX8_show 38 = .ok (.getfield 15, 3) := by decide +kernel
theorem dX8_show_41 : decode cX8_show 41 = .ok (.getfield 117, 3) := by decide +kernel
theorem dX8_show_44 : decode cX8_show 44 = .ok (.iload_n 1, 1) := by decide +kernel
theorem dX8_show_45 : decode cX8_show 45 = .ok (.iload_n 3, 1) := by decide +kernel
theorem dX8_show_46 : decode cX8_show 46 = .ok (.iconst 0, 1) := by decide +kernel
theorem dX8_show_47 : decode cX8_show 47 = .ok (.invokevirtual 133, 3) := by decide +kernel
theorem dX8_show_50 : decode cX8_show 50 = .ok (.ifCond .eq 6, 3) := by decide +kernel
theorem dX8_show_53 : decode cX8_show 53 = .ok (.bipush (-3), 2) := by decide +kernel
theorem dX8_show_55 : decode cX8_show 55 = .ok (.ireturn, 1) := by decide +kernel
theorem dX8_show_56 : decode cX8_show 56 = .ok (.aload_n 0, 1) := by decide +kernel
theorem dX8_show_57 : decode cX8_show 57 = .ok (.getfield 15, 3) := by decide +kernel
theorem dX8_show_60 : decode cX8_show 60 = .ok (.getfield 117, 3) := by decide +kernel
theorem dX8_show_63 : decode cX8_show 63 = .ok (.getfield 136, 3) := by decide +kernel
theorem dX8_show_66 : decode cX8_show 66 = .ok (.bipush 30, 2) := by decide +kernel
theorem dX8_show_68 : decode cX8_show 68 = .ok (.if_icmp .lt 6, 3) := by decide +kernel
theorem dX8_show_71 : decode cX8_show 71 = .ok (.bipush (-2), 2) := by decide +kernel
theorem dX8_show_73 : decode cX8_show 73 = .ok (.ireturn, 1) := by decide +kernel
theorem dX8_show_74 : decode cX8_show 74 = .ok (.aload_n 0, 1) := by decide +kernel
theorem dX8_show_75 : decode cX8_show 75 = .ok (.aload_n 0, 1) := by decide +kernel
theorem dX8_show_76 : decode cX8_show 76 = .ok (.getfield 15, 3) := by decide +kernel
theorem dX8_show_79 : decode cX8_show 79 = .ok (.getfield 117, 3) := by decide +kernel
theorem dX8_show_82 : decode cX8_show 82 = .ok (.iload_n 1, 1) := by decide +kernel
theorem dX8_show_83 : decode cX8_show 83 = .ok (.iload_n 2, 1) := by decide +kernel
theorem dX8_show_84 : decode cX8_show 84 = .ok (.iload_n 3, 1) := by decide +kernel
theorem dX8_show_85 : decode cX8_show 85 = .ok (.invokevirtual 137, 3) := by decide +kernel
theorem dX8_show_88 : decode cX8_show 88 = .ok (.invokevirtual 55, 3) := by decide +kernel
theorem dX8_show_91 : decode cX8_show 91 = .ok (.ireturn, 1) := by decide +kernel
theorem dX8_lend_0 : decode cX8_lend 0 = .ok (.aload_n 0, 1) := by decide +kernel
theorem dX8_lend_1 : decode cX8_lend 1 = .ok (.getfield 15, 3) := by decide +kernel
theorem dX8_lend_4 : decode cX8_lend 4 = .ok (.getfield 77, 3) := by decide +kernel
theorem dX8_lend_7 : decode cX8_lend 7 = .ok (.iload_n 1, 1) := by decide +kernel
theorem dX8_lend_8 : decode cX8_lend 8 = .ok (.invokevirtual 87, 3) := by decide +kernel
theorem dX8_lend_11 : decode cX8_lend 11 = .ok (.ifCond .eq 21, 3) := by decide +kernel
theorem dX8_lend_14 : decode cX8_lend 14 = .ok (.iload_n 2, 1) := by decide +kernel
theorem dX8_lend_15 : decode cX8_lend 15 = .ok (.invokestatic 62, 3) := by decide +kernel
theorem dX8_lend_18 : decode cX8_lend 18 = .ok (.ifCond .eq 14, 3) := by decide +kernel
theorem dX8_lend_21 : decode cX8_lend 21 = .ok (.iload_n 3, 1) := by decide +kernel
theorem dX8_lend_22 : decode cX8_lend 22 = .ok (.iconst 1, 1) := by decide +kernel
theorem dX8_lend_23 : decode cX8_lend 23 = .ok (.sipush 500, 3) := by decide +kernel
theorem dX8_lend_26 : decode cX8_lend 26 = .ok (.invokestatic 37, 3) := by decide +kernel
theorem dX8_lend_29 : decode cX8_lend 29 = .ok (.ifCond .ne 5, 3) := by decide +kernel
theorem dX8_lend_32 : decode cX8_lend 32 = .ok (.iconst (-1), 1) := by decide +kernel
theorem dX8_lend_33 : decode cX8_lend 33 = .ok (.ireturn, 1) := by decide +kernel
theorem dX8_lend_34 : decode cX8_lend 34 = .ok (.aload_n 0, 1) := by decide +kernel
theorem dX8_lend_35 : decode cX8_lend 35 = .ok (.getfield 21, 3) := by decide +kernel
theorem dX8_lend_38 : decode cX8_lend 38 = .ok (.iload_n 1, 1) := by decide +kernel
theorem dX8_lend_39 : decode cX8_lend 39 = .ok (.invokevirtual 109, 3) := by decide +kernel
theorem dX8_lend_42 : decode cX8_lend 42 = .ok (.iconst 0, 1) := by decide +kernel
theorem dX8_lend_43 : decode cX8_lend 43 = .ok (.invokevirtual 141, 3) := by decide +kernel
theorem dX8_lend_46 : decode cX8_lend 46 = .ok (.iload_n 3, 1) := by decide +kernel
theorem dX8_lend_47 : decode cX8_lend 47 = .ok (.if_icmp .ge 6, 3) := by decide +kernel
theorem dX8_lend_50 : decode cX8_lend 50 = .ok (.bipush (-4), 2) := by decide +kernel
theorem dX8_lend_52 : decode cX8_lend 52 = .ok (.ireturn, 1) := by decide +kernel
theorem dX8_lend_53 : decode cX8_lend 53 = .ok (.aload_n 0, 1) := by decide +kernel
theorem dX8_lend_54 : decode cX8_lend 54 = .ok (.getfield 15, 3) := by decide +kernel
theorem dX8_lend_57 : decode cX8_lend 57 = .ok (.getfield 117, 3) := by decide +kernel
theorem dX8_lend_60 : decode cX8_lend 60 = .ok (.getfield 136, 3) := by decide +kernel
theorem dX8_lend_63 : decode cX8_lend 63 = .ok (.bipush 30, 2) := by decide +kernel
theorem dX8_lend_65 : decode cX8_lend 65 = .ok (.if_icmp .lt 6, 3) := by decide +kernel
theorem dX8_lend_68 : decode cX8_lend 68 = .ok (.bipush (-2), 2) := by decide +kernel
theorem dX8_lend_70 : decode cX8_lend 70 = .ok (.ireturn, 1) := by decide +kernel
theorem dX8_lend_71 : decode cX8_lend 71 = .ok (.aload_n 0, 1) := by decide +kernel
theorem dX8_lend_72 : decode cX8_lend 72 = .ok (.aload_n 0, 1) := by decide +kernel
theorem dX8_lend_73 : decode cX8_lend 73 = .ok (.getfield 15, 3) := by decide +kernel
theorem dX8_lend_76 : decode cX8_lend 76 = .ok (.getfield 117, 3) := by decide +kernel
theorem dX8_lend_79 : decode cX8_lend 79 = .ok (.iload_n 1, 1) := by decide +kernel
theorem dX8_lend_80 : decode cX8_lend 80 = .ok (.iload_n 2, 1) := by decide +kernel
theorem dX8_lend_81 : decode cX8_lend 81 = .ok (.iload_n 3, 1) := by decide +kernel
theorem dX8_lend_82 : decode cX8_lend 82 = .ok (.invokevirtual 145, 3) := by decide +kernel
theorem dX8_lend_85 : decode cX8_lend 85 = .ok (.invokevirtual 55, 3) := by decide +kernel
theorem dX8_lend_88 : decode cX8_lend 88 = .ok (.ireturn, 1) := by decide +kernel
theorem dX8_lacks_0 : decode cX8_lacks 0 = .ok (.aload_n 0, 1) := by decide +kernel
theorem dX8_lacks_1 : decode cX8_lacks 1 = .ok (.getfield 15, 3) := by decide +kernel
theorem dX8_lacks_4 : decode cX8_lacks 4 = .ok (.getfield 77, 3) := by decide +kernel
theorem dX8_lacks_7 : decode cX8_lacks 7 = .ok (.iload_n 1, 1) := by decide +kernel
theorem dX8_lacks_8 : decode cX8_lacks 8 = .ok (.invokevirtual 87, 3) := by decide +kernel
theorem dX8_lacks_11 : decode cX8_lacks 11 = .ok (.ifCond .eq 14, 3) := by decide +kernel
theorem dX8_lacks_14 : decode cX8_lacks 14 = .ok (.iload_n 2, 1) := by decide +kernel
theorem dX8_lacks_15 : decode cX8_lacks 15 = .ok (.iconst 1, 1) := by decide +kernel
theorem dX8_lacks_16 : decode cX8_lacks 16 = .ok (.sipush 500, 3) := by decide +kernel
theorem dX8_lacks_19 : decode cX8_lacks 19 = .ok (.invokestatic 37, 3) := by decide +kernel
theorem dX8_lacks_22 : decode cX8_lacks 22 = .ok (.ifCond .ne 5, 3) := by decide +kernel
theorem dX8_lacks_25 : decode cX8_lacks 25 = .ok (.iconst (-1), 1) := by decide +kernel
theorem dX8_lacks_26 : decode cX8_lacks 26 = .ok (.ireturn, 1) := by decide +kernel
theorem dX8_lacks_27 : decode cX8_lacks 27 = .ok (.iconst 0, 1) := by decide +kernel
theorem dX8_lacks_28 : decode cX8_lacks 28 = .ok (.iload_n 2, 1) := by decide +kernel
theorem dX8_lacks_29 : decode cX8_lacks 29 = .ok (.aload_n 0, 1) := by decide +kernel
theorem dX8_lacks_30 : decode cX8_lacks 30 = .ok (.getfield 21, 3) := by decide +kernel
theorem dX8_lacks_33 : decode cX8_lacks 33 = .ok (.iload_n 1, 1) := by decide +kernel
theorem dX8_lacks_34 : decode cX8_lacks 34 = .ok (.invokevirtual 109, 3) := by decide +kernel
theorem dX8_lacks_37 : decode cX8_lacks 37 = .ok (.iconst 0, 1) := by decide +kernel
theorem dX8_lacks_38 : decode cX8_lacks 38 = .ok (.invokevirtual 141, 3) := by decide +kernel
theorem dX8_lacks_41 : decode cX8_lacks 41 = .ok (.isub, 1) := by decide +kernel
theorem dX8_lacks_42 : decode cX8_lacks 42 = .ok (.invokestatic 148, 3) := by decide +kernel
theorem dX8_lacks_45 : decode cX8_lacks 45 = .ok (.ireturn, 1) := by decide +kernel
theorem dX8_cancel_0 : decode cX8_cancel 0 = .ok (.aload_n 0, 1) := by decide +kernel
theorem dX8_cancel_1 : decode cX8_cancel 1 = .ok (.getfield 15, 3) := by decide +kernel
theorem dX8_cancel_4 : decode cX8_cancel 4 = .ok (.getfield 117, 3) := by decide +kernel
theorem dX8_cancel_7 : decode cX8_cancel 7 = .ok (.astore_n 2, 1) := by decide +kernel
theorem dX8_cancel_8 : decode cX8_cancel 8 = .ok (.aload_n 2, 1) := by decide +kernel
theorem dX8_cancel_9 : decode cX8_cancel 9 = .ok (.iload_n 1, 1) := by decide +kernel
theorem dX8_cancel_10 : decode cX8_cancel 10 = .ok (.invokevirtual 154, 3) := by decide +kernel
theorem dX8_cancel_13 : decode cX8_cancel 13 = .ok (.ifCond .ne 5, 3) := by decide +kernel
theorem dX8_cancel_16 : decode cX8_cancel 16 = .ok (.iconst (-1), 1) := by decide +kernel
theorem dX8_cancel_17 : decode cX8_cancel 17 = .ok (.ireturn, 1) := by decide +kernel
theorem dX8_cancel_18 : decode cX8_cancel 18 = .ok (.aload_n 2, 1) := by decide +kernel
theorem dX8_cancel_19 : decode cX8_cancel 19 = .ok (.getfield 155, 3) := by decide +kernel
theorem dX8_cancel_22 : decode cX8_cancel 22 = .ok (.iload_n 1, 1) := by decide +kernel
theorem dX8_cancel_23 : decode cX8_cancel 23 = .ok (.baload, 1) := by decide +kernel
theorem dX8_cancel_24 : decode cX8_cancel 24 = .ok (.ifCond .eq 6, 3) := by decide +kernel
theorem dX8_cancel_27 : decode cX8_cancel 27 = .ok (.bipush (-3), 2) := by decide +kernel
theorem dX8_cancel_29 : decode cX8_cancel 29 = .ok (.ireturn, 1) := by decide +kernel
theorem dX8_cancel_30 : decode cX8_cancel 30 = .ok (.aload_n 2, 1) := by decide +kernel
theorem dX8_cancel_31 : decode cX8_cancel 31 = .ok (.getfield 155, 3) := by decide +kernel
theorem dX8_cancel_34 : decode cX8_cancel 34 = .ok (.iload_n 1, 1) := by decide +kernel
theorem dX8_cancel_35 : decode cX8_cancel 35 = .ok (.iconst 1, 1) := by decide +kernel
theorem dX8_cancel_36 : decode cX8_cancel 36 = .ok (.bastore, 1) := by decide +kernel
theorem dX8_cancel_37 : decode cX8_cancel 37 = .ok (.aload_n 0, 1) := by decide +kernel
theorem dX8_cancel_38 : decode cX8_cancel 38 = .ok (.iconst 1, 1) := by decide +kernel
theorem dX8_cancel_39 : decode cX8_cancel 39 = .ok (.invokevirtual 55, 3) := by decide +kernel
theorem dX8_cancel_42 : decode cX8_cancel 42 = .ok (.ireturn, 1) := by decide +kernel
theorem dX8_booking_0 : decode cX8_booking 0 = .ok (.aload_n 0, 1) := by decide +kernel
theorem dX8_booking_1 : decode cX8_booking 1 = .ok (.getfield 15, 3) := by decide +kernel
theorem dX8_booking_4 : decode cX8_booking 4 = .ok (.getfield 117, 3) := by decide +kernel
theorem dX8_booking_7 : decode cX8_booking 7 = .ok (.astore_n 3, 1) := by decide +kernel
theorem dX8_booking_8 : decode cX8_booking 8 = .ok (.aload_n 3, 1) := by decide +kernel
theorem dX8_booking_9 : decode cX8_booking 9 = .ok (.iload_n 1, 1) := by decide +kernel
theorem dX8_booking_10 : decode cX8_booking 10 = .ok (.invokevirtual 154, 3) := by decide +kernel
theorem dX8_booking_13 : decode cX8_booking 13 = .ok (.ifCond .ne 5, 3) := by decide +kernel
theorem dX8_booking_16 : decode cX8_booking 16 = .ok (.iconst (-1), 1) := by decide +kernel
theorem dX8_booking_17 : decode cX8_booking 17 = .ok (.ireturn, 1) := by decide +kernel
theorem dX8_booking_18 : decode cX8_booking 18 = .ok (.iload_n 2, 1) := by decide +kernel
theorem dX8_booking_19 : decode cX8_booking 19 = .ok (.tableswitch 111 0 6 #[41, 55, 62, 69, 76, 86, 96], 41) := by decide +kernel
theorem dX8_booking_60 : decode cX8_booking 60 = .ok (.aload_n 3, 1) := by decide +kernel
theorem dX8_booking_61 : decode cX8_booking 61 = .ok (.iload_n 1, 1) := by decide +kernel
theorem dX8_booking_62 : decode cX8_booking 62 = .ok (.invokevirtual 159, 3) := by decide +kernel
theorem dX8_booking_65 : decode cX8_booking 65 = .ok (.ifCond .eq 7, 3) := by decide +kernel
theorem dX8_booking_68 : decode cX8_booking 68 = .ok (.iconst 1, 1) := by decide +kernel
theorem dX8_booking_69 : decode cX8_booking 69 = .ok (.goto 4, 3) := by decide +kernel
theorem dX8_booking_72 : decode cX8_booking 72 = .ok (.iconst 0, 1) := by decide +kernel
theorem dX8_booking_73 : decode cX8_booking 73 = .ok (.ireturn, 1) := by decide +kernel
theorem dX8_booking_74 : decode cX8_booking 74 = .ok (.aload_n 3, 1) := by decide +kernel
theorem dX8_booking_75 : decode cX8_booking 75 = .ok (.getfield 162, 3) := by decide +kernel
theorem dX8_booking_78 : decode cX8_booking 78 = .ok (.iload_n 1, 1) := by decide +kernel
theorem dX8_booking_79 : decode cX8_booking 79 = .ok (.iaload, 1) := by decide +kernel
theorem dX8_booking_80 : decode cX8_booking 80 = .ok (.ireturn, 1) := by decide +kernel
theorem dX8_booking_81 : decode cX8_booking 81 = .ok (.aload_n 3, 1) := by decide +kernel
theorem dX8_booking_82 : decode cX8_booking 82 = .ok (.getfield 165, 3) := by decide +kernel
theorem dX8_booking_85 : decode cX8_booking 85 = .ok (.iload_n 1, 1) := by decide +kernel
theorem dX8_booking_86 : decode cX8_booking 86 = .ok (.iaload, 1) := by decide +kernel
theorem dX8_booking_87 : decode cX8_booking 87 = .ok (.ireturn, 1) := by decide +kernel
theorem dX8_booking_88 : decode cX8_booking 88 = .ok (.aload_n 3, 1) := by decide +kernel
theorem dX8_booking_89 : decode cX8_booking 89 = .ok (.getfield 168, 3) := by decide +kernel
theorem dX8_booking_92 : decode cX8_booking 92 = .ok (.iload_n 1, 1) := by decide +kernel
theorem dX8_booking_93 : decode cX8_booking 93 = .ok (.iaload, 1) := by decide +kernel
theorem dX8_booking_94 : decode cX8_booking 94 = .ok (.ireturn, 1) := by decide +kernel
theorem dX8_booking_95 : decode cX8_booking 95 = .ok (.aload_n 0, 1) := by decide +kernel
theorem dX8_booking_96 : decode cX8_booking 96 = .ok (.getfield 15, 3) := by decide +kernel
theorem dX8_booking_99 : decode cX8_booking 99 = .ok (.iload_n 1, 1) := by decide +kernel
theorem dX8_booking_100 : decode cX8_booking 100 = .ok (.iconst 0, 1) := by decide +kernel
theorem dX8_booking_101 : decode cX8_booking 101 = .ok (.invokevirtual 171, 3) := by decide +kernel
theorem dX8_booking_104 : decode cX8_booking 104 = .ok (.ireturn, 1) := by decide +kernel
theorem dX8_booking_105 : decode cX8_booking 105 = .ok (.aload_n 0, 1) := by decide +kernel
theorem dX8_booking_106 : decode cX8_booking 106 = .ok (.getfield 15, 3) := by decide +kernel
theorem dX8_booking_109 : decode cX8_booking 109 = .ok (.iload_n 1, 1) := by decide +kernel
theorem dX8_booking_110 : decode cX8_booking 110 = .ok (.iconst 1, 1) := by decide +kernel
theorem dX8_booking_111 : decode cX8_booking 111 = .ok (.invokevirtual 171, 3) := by decide +kernel
theorem dX8_booking_114 : decode cX8_booking 114 = .ok (.ireturn, 1) := by decide +kernel
theorem dX8_booking_115 : decode cX8_booking 115 = .ok (.aload_n 3, 1) := by decide +kernel
theorem dX8_booking_116 : decode cX8_booking 116 = .ok (.getfield 155, 3) := by decide +kernel
theorem dX8_booking_119 : decode cX8_booking 119 = .ok (.iload_n 1, 1) := by decide +kernel
theorem dX8_booking_120 : decode cX8_booking 120 = .ok (.baload, 1) := by decide +kernel
theorem dX8_booking_121 : decode cX8_booking 121 = .ok (.ifCond .eq 7, 3) := by decide +kernel
theorem dX8_booking_124 : decode cX8_booking 124 = .ok (.iconst 1, 1) := by decide +kernel
theorem dX8_booking_125 : decode cX8_booking 125 = .ok (.goto 4, 3) := by decide +kernel
theorem dX8_booking_128 : decode cX8_booking 128 = .ok (.iconst 0, 1) := by decide +kernel
theorem dX8_booking_129 : decode cX8_booking 129 = .ok (.ireturn, 1) := by decide +kernel
theorem dX8_booking_130 : decode cX8_booking 130 = .ok (.iconst (-1), 1) := by decide +kernel
theorem dX8_booking_131 : decode cX8_booking 131 = .ok (.ireturn, 1) := by decide +kernel
theorem dX8_thread_0 : decode cX8_thread 0 = .ok (.aload_n 0, 1) := by decide +kernel
theorem dX8_thread_1 : decode cX8_thread 1 = .ok (.getfield 15, 3) := by decide +kernel
theorem dX8_thread_4 : decode cX8_thread 4 = .ok (.getfield 77, 3) := by decide +kernel
theorem dX8_thread_7 : decode cX8_thread 7 = .ok (.iload_n 1, 1) := by decide +kernel
theorem dX8_thread_8 : decode cX8_thread 8 = .ok (.invokevirtual 87, 3) := by decide +kernel
theorem dX8_thread_11 : decode cX8_thread 11 = .ok (.ifCond .eq 20, 3) := by decide +kernel
theorem dX8_thread_14 : decode cX8_thread 14 = .ok (.iload_n 2, 1) := by decide +kernel
theorem dX8_thread_15 : decode cX8_thread 15 = .ok (.invokestatic 62, 3) := by decide +kernel
theorem dX8_thread_18 : decode cX8_thread 18 = .ok (.ifCond .eq 13, 3) := by decide +kernel
theorem dX8_thread_21 : decode cX8_thread 21 = .ok (.iload_n 3, 1) := by decide +kernel
theorem dX8_thread_22 : decode cX8_thread 22 = .ok (.iconst 0, 1) := by decide +kernel
theorem dX8_thread_23 : decode cX8_thread 23 = .ok (.bipush 7, 2) := by decide +kernel
theorem dX8_thread_25 : decode cX8_thread 25 = .ok (.invokestatic 37, 3) := by decide +kernel
theorem dX8_thread_28 : decode cX8_thread 28 = .ok (.ifCond .ne 5, 3) := by decide +kernel
theorem dX8_thread_31 : decode cX8_thread 31 = .ok (.iconst (-1), 1) := by decide +kernel
theorem dX8_thread_32 : decode cX8_thread 32 = .ok (.ireturn, 1) := by decide +kernel
theorem dX8_thread_33 : decode cX8_thread 33 = .ok (.aload_n 0, 1) := by decide +kernel
theorem dX8_thread_34 : decode cX8_thread 34 = .ok (.getfield 15, 3) := by decide +kernel
theorem dX8_thread_37 : decode cX8_thread 37 = .ok (.getfield 126, 3) := by decide +kernel
theorem dX8_thread_40 : decode cX8_thread 40 = .ok (.getfield 175, 3) := by decide +kernel
theorem dX8_thread_43 : decode cX8_thread 43 = .ok (.bipush 12, 2) := by decide +kernel
theorem dX8_thread_45 : decode cX8_thread 45 = .ok (.if_icmp .lt 6, 3) := by decide +kernel
theorem dX8_thread_48 : decode cX8_thread 48 = .ok (.bipush (-2), 2) := by decide +kernel
theorem dX8_thread_50 : decode cX8_thread 50 = .ok (.ireturn, 1) := by decide +kernel
theorem dX8_thread_51 : decode cX8_thread 51 = .ok (.aload_n 0, 1) := by decide +kernel
theorem dX8_thread_52 : decode cX8_thread 52 = .ok (.aload_n 0, 1) := by decide +kernel
theorem dX8_thread_53 : decode cX8_thread 53 = .ok (.getfield 15, 3) := by decide +kernel
theorem dX8_thread_56 : decode cX8_thread 56 = .ok (.getfield 126, 3) := by decide +kernel
theorem dX8_thread_59 : decode cX8_thread 59 = .ok (.iload_n 1, 1) := by decide +kernel
theorem dX8_thread_60 : decode cX8_thread 60 = .ok (.iload_n 2, 1) := by decide +kernel
theorem dX8_thread_61 : decode cX8_thread 61 = .ok (.iload_n 3, 1) := by decide +kernel
theorem dX8_thread_62 : decode cX8_thread 62 = .ok (.invokevirtual 176, 3) := by decide +kernel
theorem dX8_thread_65 : decode cX8_thread 65 = .ok (.invokevirtual 55, 3) := by decide +kernel
theorem dX8_thread_68 : decode cX8_thread 68 = .ok (.ireturn, 1) := by decide +kernel
theorem dX8_cut_0 : decode cX8_cut 0 = .ok (.aload_n 0, 1) := by decide +kernel
theorem dX8_cut_1 : decode cX8_cut 1 = .ok (.getfield 15, 3) := by decide +kernel
theorem dX8_cut_4 : decode cX8_cut 4 = .ok (.getfield 126, 3) := by decide +kernel
theorem dX8_cut_7 : decode cX8_cut 7 = .ok (.getfield 175, 3) := by decide +kernel
theorem dX8_cut_10 : decode cX8_cut 10 = .ok (.ifCond .gt 6, 3) := by decide +kernel
theorem dX8_cut_13 : decode cX8_cut 13 = .ok (.bipush (-4), 2) := by decide +kernel
theorem dX8_cut_15 : decode cX8_cut 15 = .ok (.ireturn, 1) := by decide +kernel
theorem dX8_cut_16 : decode cX8_cut 16 = .ok (.aload_n 0, 1) := by decide +kernel
theorem dX8_cut_17 : decode cX8_cut 17 = .ok (.getfield 15, 3) := by decide +kernel
theorem dX8_cut_20 : decode cX8_cut 20 = .ok (.getfield 126, 3) := by decide +kernel
theorem dX8_cut_23 : decode cX8_cut 23 = .ok (.dup, 1) := by decide +kernel
theorem dX8_cut_24 : decode cX8_cut 24 = .ok (.getfield 175, 3) := by decide +kernel
theorem dX8_cut_27 : decode cX8_cut 27 = .ok (.iconst 1, 1) := by decide +kernel
theorem dX8_cut_28 : decode cX8_cut 28 = .ok (.isub, 1) := by decide +kernel
theorem dX8_cut_29 : decode cX8_cut 29 = .ok (.putfield 175, 3) := by decide +kernel
theorem dX8_cut_32 : decode cX8_cut 32 = .ok (.aload_n 0, 1) := by decide +kernel
theorem dX8_cut_33 : decode cX8_cut 33 = .ok (.aload_n 0, 1) := by decide +kernel
theorem dX8_cut_34 : decode cX8_cut 34 = .ok (.getfield 15, 3) := by decide +kernel
theorem dX8_cut_37 : decode cX8_cut 37 = .ok (.getfield 126, 3) := by decide +kernel
theorem dX8_cut_40 : decode cX8_cut 40 = .ok (.getfield 175, 3) := by decide +kernel
theorem dX8_cut_43 : decode cX8_cut 43 = .ok (.invokevirtual 55, 3) := by decide +kernel
theorem dX8_cut_46 : decode cX8_cut 46 = .ok (.ireturn, 1) := by decide +kernel
theorem dX8_pastOf_0 : decode cX8_pastOf 0 = .ok (.aload_n 0, 1) := by decide +kernel
theorem dX8_pastOf_1 : decode cX8_pastOf 1 = .ok (.getfield 15, 3) := by decide +kernel
theorem dX8_pastOf_4 : decode cX8_pastOf 4 = .ok (.getfield 77, 3) := by decide +kernel
theorem dX8_pastOf_7 : decode cX8_pastOf 7 = .ok (.iload_n 1, 1) := by decide +kernel
theorem dX8_pastOf_8 : decode cX8_pastOf 8 = .ok (.invokevirtual 87, 3) := by decide +kernel
theorem dX8_pastOf_11 : decode cX8_pastOf 11 = .ok (.ifCond .ne 5, 3) := by decide +kernel
theorem dX8_pastOf_14 : decode cX8_pastOf 14 = .ok (.iconst (-1), 1) := by decide +kernel
theorem dX8_pastOf_15 : decode cX8_pastOf 15 = .ok (.ireturn, 1) := by decide +kernel
theorem dX8_pastOf_16 : decode cX8_pastOf 16 = .ok (.aload_n 0, 1) := by decide +kernel
theorem dX8_pastOf_17 : decode cX8_pastOf 17 = .ok (.getfield 21, 3) := by decide +kernel
theorem dX8_pastOf_20 : decode cX8_pastOf 20 = .ok (.iload_n 1, 1) := by decide +kernel
theorem dX8_pastOf_21 : decode cX8_pastOf 21 = .ok (.invokevirtual 109, 3) := by decide +kernel
theorem dX8_pastOf_24 : decode cX8_pastOf 24 = .ok (.iload_n 2, 1) := by decide +kernel
theorem dX8_pastOf_25 : decode cX8_pastOf 25 = .ok (.invokevirtual 178, 3) := by decide +kernel
theorem dX8_pastOf_28 : decode cX8_pastOf 28 = .ok (.ireturn, 1) := by decide +kernel
theorem dX8_spent_0 : decode cX8_spent 0 = .ok (.aload_n 0, 1) := by decide +kernel
theorem dX8_spent_1 : decode cX8_spent 1 = .ok (.getfield 15, 3) := by decide +kernel
theorem dX8_spent_4 : decode cX8_spent 4 = .ok (.getfield 77, 3) := by decide +kernel
theorem dX8_spent_7 : decode cX8_spent 7 = .ok (.iload_n 1, 1) := by decide +kernel
theorem dX8_spent_8 : decode cX8_spent 8 = .ok (.invokevirtual 87, 3) := by decide +kernel
theorem dX8_spent_11 : decode cX8_spent 11 = .ok (.ifCond .eq 10, 3) := by decide +kernel
theorem dX8_spent_14 : decode cX8_spent 14 = .ok (.iload_n 2, 1) := by decide +kernel
theorem dX8_spent_15 : decode cX8_spent 15 = .ok (.invokestatic 62, 3) := by decide +kernel
theorem dX8_spent_18 : decode cX8_spent 18 = .ok (.ifCond .ne 5, 3) := by decide +kernel
theorem dX8_spent_21 : decode cX8_spent 21 = .ok (.iconst (-1), 1) := by decide +kernel
theorem dX8_spent_22 : decode cX8_spent 22 = .ok (.ireturn, 1) := by decide +kernel
theorem dX8_spent_23 : decode cX8_spent 23 = .ok (.aload_n 0, 1) := by decide +kernel
theorem dX8_spent_24 : decode cX8_spent 24 = .ok (.getfield 21, 3) := by decide +kernel
theorem dX8_spent_27 : decode cX8_spent 27 = .ok (.iload_n 1, 1) := by decide +kernel
theorem dX8_spent_28 : decode cX8_spent 28 = .ok (.invokevirtual 109, 3) := by decide +kernel
theorem dX8_spent_31 : decode cX8_spent 31 = .ok (.iload_n 2, 1) := by decide +kernel
theorem dX8_spent_32 : decode cX8_spent 32 = .ok (.iload_n 3, 1) := by decide +kernel
theorem dX8_spent_33 : decode cX8_spent 33 = .ok (.invokevirtual 181, 3) := by decide +kernel
theorem dX8_spent_36 : decode cX8_spent 36 = .ok (.ireturn, 1) := by decide +kernel
theorem dX8_left_0 : decode cX8_left 0 = .ok (.aload_n 0, 1) := by decide +kernel
theorem dX8_left_1 : decode cX8_left 1 = .ok (.getfield 15, 3) := by decide +kernel
theorem dX8_left_4 : decode cX8_left 4 = .ok (.getfield 77, 3) := by decide +kernel
theorem dX8_left_7 : decode cX8_left 7 = .ok (.iload_n 1, 1) := by decide +kernel
theorem dX8_left_8 : decode cX8_left 8 = .ok (.invokevirtual 87, 3) := by decide +kernel
theorem dX8_left_11 : decode cX8_left 11 = .ok (.ifCond .ne 6, 3) := by decide +kernel
theorem dX8_left_14 : decode cX8_left 14 = .ok (.ldc 184, 2) := by decide +kernel
theorem dX8_left_16 : decode cX8_left 16 = .ok (.ireturn, 1) := by decide +kernel
theorem dX8_left_17 : decode cX8_left 17 = .ok (.aload_n 0, 1) := by decide +kernel
theorem dX8_left_18 : decode cX8_left 18 = .ok (.getfield 21, 3) := by decide +kernel
theorem dX8_left_21 : decode cX8_left 21 = .ok (.iload_n 1, 1) := by decide +kernel
theorem dX8_left_22 : decode cX8_left 22 = .ok (.invokevirtual 109, 3) := by decide +kernel
theorem dX8_left_25 : decode cX8_left 25 = .ok (.iload_n 2, 1) := by decide +kernel
theorem dX8_left_26 : decode cX8_left 26 = .ok (.invokevirtual 141, 3) := by decide +kernel
theorem dX8_left_29 : decode cX8_left 29 = .ok (.ireturn, 1) := by decide +kernel
theorem dX8_step_0 : decode cX8_step 0 = .ok (.aload_n 0, 1) := by decide +kernel
theorem dX8_step_1 : decode cX8_step 1 = .ok (.getfield 15, 3) := by decide +kernel
theorem dX8_step_4 : decode cX8_step 4 = .ok (.getfield 77, 3) := by decide +kernel
theorem dX8_step_7 : decode cX8_step 7 = .ok (.iload_n 1, 1) := by decide +kernel
theorem dX8_step_8 : decode cX8_step 8 = .ok (.invokevirtual 87, 3) := by decide +kernel
theorem dX8_step_11 : decode cX8_step 11 = .ok (.ifCond .eq 10, 3) := by decide +kernel
theorem dX8_step_14 : decode cX8_step 14 = .ok (.iload_n 2, 1) := by decide +kernel
theorem dX8_step_15 : decode cX8_step 15 = .ok (.invokestatic 62, 3) := by decide +kernel
theorem dX8_step_18 : decode cX8_step 18 = .ok (.ifCond .ne 5, 3) := by decide +kernel
theorem dX8_step_21 : decode cX8_step 21 = .ok (.iconst (-1), 1) := by decide +kernel
theorem dX8_step_22 : decode cX8_step 22 = .ok (.ireturn, 1) := by decide +kernel
theorem dX8_step_23 : decode cX8_step 23 = .ok (.aload_n 0, 1) := by decide +kernel
theorem dX8_step_24 : decode cX8_step 24 = .ok (.getfield 21, 3) := by decide +kernel
theorem dX8_step_27 : decode cX8_step 27 = .ok (.iload_n 1, 1) := by decide +kernel
theorem dX8_step_28 : decode cX8_step 28 = .ok (.invokevirtual 109, 3) := by decide +kernel
theorem dX8_step_31 : decode cX8_step 31 = .ok (.iload_n 2, 1) := by decide +kernel
theorem dX8_step_32 : decode cX8_step 32 = .ok (.iload_n 3, 1) := by decide +kernel
theorem dX8_step_33 : decode cX8_step 33 = .ok (.invokevirtual 181, 3) := by decide +kernel
theorem dX8_step_36 : decode cX8_step 36 = .ok (.invokestatic 185, 3) := by decide +kernel
theorem dX8_step_39 : decode cX8_step 39 = .ok (.ireturn, 1) := by decide +kernel
theorem dX8_wall_0 : decode cX8_wall 0 = .ok (.aload_n 0, 1) := by decide +kernel
theorem dX8_wall_1 : decode cX8_wall 1 = .ok (.getfield 15, 3) := by decide +kernel
theorem dX8_wall_4 : decode cX8_wall 4 = .ok (.getfield 41, 3) := by decide +kernel
theorem dX8_wall_7 : decode cX8_wall 7 = .ok (.iload_n 1, 1) := by decide +kernel
theorem dX8_wall_8 : decode cX8_wall 8 = .ok (.invokevirtual 58, 3) := by decide +kernel
theorem dX8_wall_11 : decode cX8_wall 11 = .ok (.ifCond .eq 19, 3) := by decide +kernel
theorem dX8_wall_14 : decode cX8_wall 14 = .ok (.iload_n 2, 1) := by decide +kernel
theorem dX8_wall_15 : decode cX8_wall 15 = .ok (.invokestatic 62, 3) := by decide +kernel
theorem dX8_wall_18 : decode cX8_wall 18 = .ok (.ifCond .eq 12, 3) := by decide +kernel
theorem dX8_wall_21 : decode cX8_wall 21 = .ok (.iload_n 3, 1) := by decide +kernel
theorem dX8_wall_22 : decode cX8_wall 22 = .ok (.iconst 0, 1) := by decide +kernel
theorem dX8_wall_23 : decode cX8_wall 23 = .ok (.iconst 3, 1) := by decide +kernel
theorem dX8_wall_24 : decode cX8_wall 24 = .ok (.invokestatic 37, 3) := by decide +kernel
theorem dX8_wall_27 : decode cX8_wall 27 = .ok (.ifCond .ne 5, 3) := by decide +kernel
theorem dX8_wall_30 : decode cX8_wall 30 = .ok (.iconst (-1), 1) := by decide +kernel
theorem dX8_wall_31 : decode cX8_wall 31 = .ok (.ireturn, 1) := by decide +kernel
theorem dX8_wall_32 : decode cX8_wall 32 = .ok (.aload_n 0, 1) := by decide +kernel
theorem dX8_wall_33 : decode cX8_wall 33 = .ok (.getfield 15, 3) := by decide +kernel
theorem dX8_wall_36 : decode cX8_wall 36 = .ok (.getfield 188, 3) := by decide +kernel
theorem dX8_wall_39 : decode cX8_wall 39 = .ok (.getfield 192, 3) := by decide +kernel
theorem dX8_wall_42 : decode cX8_wall 42 = .ok (.iconst 5, 1) := by decide +kernel
theorem dX8_wall_43 : decode cX8_wall 43 = .ok (.if_icmp .lt 6, 3) := by decide +kernel
theorem dX8_wall_46 : decode cX8_wall 46 = .ok (.bipush (-2), 2) := by decide +kernel
theorem dX8_wall_48 : decode cX8_wall 48 = .ok (.ireturn, 1) := by decide +kernel
theorem dX8_wall_49 : decode cX8_wall 49 = .ok (.aload_n 0, 1) := by decide +kernel
theorem dX8_wall_50 : decode cX8_wall 50 = .ok (.aload_n 0, 1) := by decide +kernel
theorem dX8_wall_51 : decode cX8_wall 51 = .ok (.getfield 15, 3) := by decide +kernel
theorem dX8_wall_54 : decode cX8_wall 54 = .ok (.getfield 188, 3) := by decide +kernel
theorem dX8_wall_57 : decode cX8_wall 57 = .ok (.iload_n 1, 1) := by decide +kernel
theorem dX8_wall_58 : decode cX8_wall 58 = .ok (.iload_n 2, 1) := by decide +kernel
theorem dX8_wall_59 : decode cX8_wall 59 = .ok (.iload_n 3, 1) := by decide +kernel
theorem dX8_wall_60 : decode cX8_wall 60 = .ok (.invokevirtual 195, 3) := by decide +kernel
theorem dX8_wall_63 : decode cX8_wall 63 = .ok (.invokevirtual 55, 3) := by decide +kernel
theorem dX8_wall_66 : decode cX8_wall 66 = .ok (.ireturn, 1) := by decide +kernel
theorem dX8_strip_0 : decode cX8_strip 0 = .ok (.aload_n 0, 1) := by decide +kernel
theorem dX8_strip_1 : decode cX8_strip 1 = .ok (.getfield 15, 3) := by decide +kernel
theorem dX8_strip_4 : decode cX8_strip 4 = .ok (.getfield 188, 3) := by decide +kernel
theorem dX8_strip_7 : decode cX8_strip 7 = .ok (.getfield 192, 3) := by decide +kernel
theorem dX8_strip_10 : decode cX8_strip 10 = .ok (.ifCond .gt 6, 3) := by decide +kernel
theorem dX8_strip_13 : decode cX8_strip 13 = .ok (.bipush (-4), 2) := by decide +kernel
theorem dX8_strip_15 : decode cX8_strip 15 = .ok (.ireturn, 1) := by decide +kernel
theorem dX8_strip_16 : decode cX8_strip 16 = .ok (.aload_n 0, 1) := by decide +kernel
theorem dX8_strip_17 : decode cX8_strip 17 = .ok (.getfield 15, 3) := by decide +kernel
theorem dX8_strip_20 : decode cX8_strip 20 = .ok (.getfield 188, 3) := by decide +kernel
theorem dX8_strip_23 : decode cX8_strip 23 = .ok (.dup, 1) := by decide +kernel
theorem dX8_strip_24 : decode cX8_strip 24 = .ok (.getfield 192, 3) := by decide +kernel
theorem dX8_strip_27 : decode cX8_strip 27 = .ok (.iconst 1, 1) := by decide +kernel
theorem dX8_strip_28 : decode cX8_strip 28 = .ok (.isub, 1) := by decide +kernel
theorem dX8_strip_29 : decode cX8_strip 29 = .ok (.putfield 192, 3) := by decide +kernel
theorem dX8_strip_32 : decode cX8_strip 32 = .ok (.aload_n 0, 1) := by decide +kernel
theorem dX8_strip_33 : decode cX8_strip 33 = .ok (.aload_n 0, 1) := by decide +kernel
theorem dX8_strip_34 : decode cX8_strip 34 = .ok (.getfield 15, 3) := by decide +kernel
theorem dX8_strip_37 : decode cX8_strip 37 = .ok (.getfield 188, 3) := by decide +kernel
theorem dX8_strip_40 : decode cX8_strip 40 = .ok (.getfield 192, 3) := by decide +kernel
theorem dX8_strip_43 : decode cX8_strip 43 = .ok (.invokevirtual 55, 3) := by decide +kernel
theorem dX8_strip_46 : decode cX8_strip 46 = .ok (.ireturn, 1) := by decide +kernel
theorem dX8_hung_0 : decode cX8_hung 0 = .ok (.aload_n 0, 1) := by decide +kernel
theorem dX8_hung_1 : decode cX8_hung 1 = .ok (.getfield 15, 3) := by decide +kernel
theorem dX8_hung_4 : decode cX8_hung 4 = .ok (.getfield 188, 3) := by decide +kernel
theorem dX8_hung_7 : decode cX8_hung 7 = .ok (.iload_n 1, 1) := by decide +kernel
theorem dX8_hung_8 : decode cX8_hung 8 = .ok (.invokevirtual 196, 3) := by decide +kernel
theorem dX8_hung_11 : decode cX8_hung 11 = .ok (.ifCond .ne 5, 3) := by decide +kernel
theorem dX8_hung_14 : decode cX8_hung 14 = .ok (.iconst (-1), 1) := by decide +kernel
theorem dX8_hung_15 : decode cX8_hung 15 = .ok (.ireturn, 1) := by decide +kernel
theorem dX8_hung_16 : decode cX8_hung 16 = .ok (.aload_n 0, 1) := by decide +kernel
theorem dX8_hung_17 : decode cX8_hung 17 = .ok (.getfield 30, 3) := by decide +kernel
theorem dX8_hung_20 : decode cX8_hung 20 = .ok (.invokevirtual 197, 3) := by decide +kernel
theorem dX8_hung_23 : decode cX8_hung 23 = .ok (.aload_n 0, 1) := by decide +kernel
theorem dX8_hung_24 : decode cX8_hung 24 = .ok (.getfield 30, 3) := by decide +kernel
theorem dX8_hung_27 : decode cX8_hung 27 = .ok (.getfield 200, 3) := by decide +kernel
theorem dX8_hung_30 : decode cX8_hung 30 = .ok (.iload_n 1, 1) := by decide +kernel
theorem dX8_hung_31 : decode cX8_hung 31 = .ok (.iaload, 1) := by decide +kernel
theorem dX8_hung_32 : decode cX8_hung 32 = .ok (.ireturn, 1) := by decide +kernel
theorem dX8_worth_0 : decode cX8_worth 0 = .ok (.aload_n 0, 1) := by decide +kernel
theorem dX8_worth_1 : decode cX8_worth 1 = .ok (.getfield 30, 3) := by decide +kernel
theorem dX8_worth_4 : decode cX8_worth 4 = .ok (.invokevirtual 197, 3) := by decide +kernel
theorem dX8_worth_7 : decode cX8_worth 7 = .ok (.aload_n 0, 1) := by decide +kernel
theorem dX8_worth_8 : decode cX8_worth 8 = .ok (.getfield 30, 3) := by decide +kernel
theorem dX8_worth_11 : decode cX8_worth 11 = .ok (.getfield 203, 3) := by decide +kernel
theorem dX8_worth_14 : decode cX8_worth 14 = .ok (.ireturn, 1) := by decide +kernel
theorem dX8_spares_0 : decode cX8_spares 0 = .ok (.aload_n 0, 1) := by decide +kernel
theorem dX8_spares_1 : decode cX8_spares 1 = .ok (.getfield 15, 3) := by decide +kernel
theorem dX8_spares_4 : decode cX8_spares 4 = .ok (.getfield 77, 3) := by decide +kernel
theorem dX8_spares_7 : decode cX8_spares 7 = .ok (.iload_n 1, 1) := by decide +kernel
theorem dX8_spares_8 : decode cX8_spares 8 = .ok (.invokevirtual 87, 3) := by decide +kernel
theorem dX8_spares_11 : decode cX8_spares 11 = .ok (.ifCond .ne 6, 3) := by decide +kernel
theorem dX8_spares_14 : decode cX8_spares 14 = .ok (.ldc 184, 2) := by decide +kernel
theorem dX8_spares_16 : decode cX8_spares 16 = .ok (.ireturn, 1) := by decide +kernel
theorem dX8_spares_17 : decode cX8_spares 17 = .ok (.aload_n 0, 1) := by decide +kernel
theorem dX8_spares_18 : decode cX8_spares 18 = .ok (.getfield 30, 3) := by decide +kernel
theorem dX8_spares_21 : decode cX8_spares 21 = .ok (.invokevirtual 197, 3) := by decide +kernel
theorem dX8_spares_24 : decode cX8_spares 24 = .ok (.aload_n 0, 1) := by decide +kernel
theorem dX8_spares_25 : decode cX8_spares 25 = .ok (.getfield 21, 3) := by decide +kernel
theorem dX8_spares_28 : decode cX8_spares 28 = .ok (.iload_n 1, 1) := by decide +kernel
theorem dX8_spares_29 : decode cX8_spares 29 = .ok (.invokevirtual 109, 3) := by decide +kernel
theorem dX8_spares_32 : decode cX8_spares 32 = .ok (.iconst 0, 1) := by decide +kernel
theorem dX8_spares_33 : decode cX8_spares 33 = .ok (.invokevirtual 141, 3) := by decide +kernel
theorem dX8_spares_36 : decode cX8_spares 36 = .ok (.aload_n 0, 1) := by decide +kernel
theorem dX8_spares_37 : decode cX8_spares 37 = .ok (.getfield 30, 3) := by decide +kernel
theorem dX8_spares_40 : decode cX8_spares 40 = .ok (.iload_n 1, 1) := by decide +kernel
theorem dX8_spares_41 : decode cX8_spares 41 = .ok (.invokevirtual 206, 3) := by decide +kernel
theorem dX8_spares_44 : decode cX8_spares 44 = .ok (.isub, 1) := by decide +kernel
theorem dX8_spares_45 : decode cX8_spares 45 = .ok (.ireturn, 1) := by decide +kernel
theorem dX8_hang_0 : decode cX8_hang 0 = .ok (.aload_n 0, 1) := by decide +kernel
theorem dX8_hang_1 : decode cX8_hang 1 = .ok (.getfield 30, 3) := by decide +kernel
theorem dX8_hang_4 : decode cX8_hang 4 = .ok (.invokevirtual 197, 3) := by decide +kernel
theorem dX8_hang_7 : decode cX8_hang 7 = .ok (.aload_n 0, 1) := by decide +kernel
theorem dX8_hang_8 : decode cX8_hang 8 = .ok (.getfield 30, 3) := by decide +kernel
theorem dX8_hang_11 : decode cX8_hang 11 = .ok (.invokevirtual 209, 3) := by decide +kernel
theorem dX8_hang_14 : decode cX8_hang 14 = .ok (.istore_n 1, 1) := by decide +kernel
theorem dX8_hang_15 : decode cX8_hang 15 = .ok (.aload_n 0, 1) := by decide +kernel
theorem dX8_hang_16 : decode cX8_hang 16 = .ok (.getfield 15, 3) := by decide +kernel
theorem dX8_hang_19 : decode cX8_hang 19 = .ok (.getfield 117, 3) := by decide +kernel
theorem dX8_hang_22 : decode cX8_hang 22 = .ok (.getfield 136, 3) := by decide +kernel
theorem dX8_hang_25 : decode cX8_hang 25 = .ok (.iload_n 1, 1) := by decide +kernel
theorem dX8_hang_26 : decode cX8_hang 26 = .ok (.iadd, 1) := by decide +kernel
theorem dX8_hang_27 : decode cX8_hang 27 = .ok (.bipush 30, 2) := by decide +kernel
theorem dX8_hang_29 : decode cX8_hang 29 = .ok (.if_icmp .le 6, 3) := by decide +kernel
theorem dX8_hang_32 : decode cX8_hang 32 = .ok (.bipush (-2), 2) := by decide +kernel
theorem dX8_hang_34 : decode cX8_hang 34 = .ok (.ireturn, 1) := by decide +kernel
theorem dX8_hang_35 : decode cX8_hang 35 = .ok (.aload_n 0, 1) := by decide +kernel
theorem dX8_hang_36 : decode cX8_hang 36 = .ok (.getfield 15, 3) := by decide +kernel
theorem dX8_hang_39 : decode cX8_hang 39 = .ok (.getfield 188, 3) := by decide +kernel
theorem dX8_hang_42 : decode cX8_hang 42 = .ok (.astore_n 2, 1) := by decide +kernel
theorem dX8_hang_43 : decode cX8_hang 43 = .ok (.iconst 0, 1) := by decide +kernel
theorem dX8_hang_44 : decode cX8_hang 44 = .ok (.istore_n 3, 1) := by decide +kernel
theorem dX8_hang_45 : decode cX8_hang 45 = .ok (.iload_n 3, 1) := by decide +kernel
theorem dX8_hang_46 : decode cX8_hang 46 = .ok (.aload_n 2, 1) := by decide +kernel
theorem dX8_hang_47 : decode cX8_hang 47 = .ok (.getfield 192, 3) := by decide +kernel
theorem dX8_hang_50 : decode cX8_hang 50 = .ok (.if_icmp .ge 55, 3) := by decide +kernel
theorem dX8_hang_53 : decode cX8_hang 53 = .ok (.aload_n 0, 1) := by decide +kernel
theorem dX8_hang_54 : decode cX8_hang 54 = .ok (.getfield 30, 3) := by decide +kernel
theorem dX8_hang_57 : decode cX8_hang 57 = .ok (.getfield 200, 3) := by decide +kernel
theorem dX8_hang_60 : decode cX8_hang 60 = .ok (.iload_n 3, 1) := by decide +kernel
theorem dX8_hang_61 : decode cX8_hang 61 = .ok (.iaload, 1) := by decide +kernel
theorem dX8_hang_62 : decode cX8_hang 62 = .ok (.bipush (-4), 2) := by decide +kernel
theorem dX8_hang_64 : decode cX8_hang 64 = .ok (.if_icmp .eq 35, 3) := by decide +kernel
theorem dX8_hang_67 : decode cX8_hang 67 = .ok (.aload_n 0, 1) := by decide +kernel
theorem dX8_hang_68 : decode cX8_hang 68 = .ok (.getfield 15, 3) := by decide +kernel
theorem dX8_hang_71 : decode cX8_hang 71 = .ok (.getfield 117, 3) := by decide +kernel
theorem dX8_hang_74 : decode cX8_hang 74 = .ok (.aload_n 0, 1) := by decide +kernel
theorem dX8_hang_75 : decode cX8_hang 75 = .ok (.getfield 30, 3) := by decide +kernel
theorem dX8_hang_78 : decode cX8_hang 78 = .ok (.getfield 200, 3) := by decide +kernel
theorem dX8_hang_81 : decode cX8_hang 81 = .ok (.iload_n 3, 1) := by decide +kernel
theorem dX8_hang_82 : decode cX8_hang 82 = .ok (.iaload, 1) := by decide +kernel
theorem dX8_hang_83 : decode cX8_hang 83 = .ok (.aload_n 2, 1) := by decide +kernel
theorem dX8_hang_84 : decode cX8_hang 84 = .ok (.getfield 213, 3) := by decide +kernel
theorem dX8_hang_87 : decode cX8_hang 87 = .ok (.iload_n 3, 1) := by decide +kernel
theorem dX8_hang_88 : decode cX8_hang 88 = .ok (.iaload, 1) := by decide +kernel
theorem dX8_hang_89 : decode cX8_hang 89 = .ok (.aload_n 2, 1) := by decide +kernel
theorem dX8_hang_90 : decode cX8_hang 90 = .ok (.getfield 214, 3) := by decide +kernel
theorem dX8_hang_93 : decode cX8_hang 93 = .ok (.iload_n 3, 1) := by decide +kernel
theorem dX8_hang_94 : decode cX8_hang 94 = .ok (.iaload, 1) := by decide +kernel
theorem dX8_hang_95 : decode cX8_hang 95 = .ok (.invokevirtual 137, 3) := by decide +kernel
theorem dX8_hang_98 : decode cX8_hang 98 = .ok (.pop, 1) := by decide +kernel
theorem dX8_hang_99 : decode cX8_hang 99 = .ok (.iinc 3 1, 3) := by decide +kernel
theorem dX8_hang_102 : decode cX8_hang 102 = .ok (.goto (-57), 3) := by decide +kernel
theorem dX8_hang_105 : decode cX8_hang 105 = .ok (.aload_n 2, 1) := by decide +kernel
theorem dX8_hang_106 : decode cX8_hang 106 = .ok (.iconst 0, 1) := by decide +kernel
theorem dX8_hang_107 : decode cX8_hang 107 = .ok (.putfield 192, 3) := by decide +kernel
theorem dX8_hang_110 : decode cX8_hang 110 = .ok (.aload_n 0, 1) := by decide +kernel
theorem dX8_hang_111 : decode cX8_hang 111 = .ok (.iload_n 1, 1) := by decide +kernel
theorem dX8_hang_112 : decode cX8_hang 112 = .ok (.invokevirtual 55, 3) := by decide +kernel
theorem dX8_hang_115 : decode cX8_hang 115 = .ok (.ireturn, 1) := by decide +kernel
theorem dX8_many_0 : decode cX8_many 0 = .ok (.iload_n 1, 1) := by decide +kernel
theorem dX8_many_1 : decode cX8_many 1 = .ok (.tableswitch 144 0 8 #[51, 62, 73, 84, 95, 106, 117, 125, 133], 51) := by decide +kernel
theorem dX8_many_52 : decode cX8_many 52 = .ok (.aload_n 0, 1) := by decide +kernel
theorem dX8_many_53 : decode cX8_many 53 = .ok (.getfield 15, 3) := by decide +kernel
theorem dX8_many_56 : decode cX8_many 56 = .ok (.getfield 41, 3) := by decide +kernel
theorem dX8_many_59 : decode cX8_many 59 = .ok (.getfield 45, 3) := by decide +kernel
theorem dX8_many_62 : decode cX8_many 62 = .ok (.ireturn, 1) := by decide +kernel
theorem dX8_many_63 : decode cX8_many 63 = .ok (.aload_n 0, 1) := by decide +kernel
theorem dX8_many_64 : decode cX8_many 64 = .ok (.getfield 15, 3) := by decide +kernel
theorem dX8_many_67 : decode cX8_many 67 = .ok (.getfield 77, 3) := by decide +kernel
theorem dX8_many_70 : decode cX8_many 70 = .ok (.getfield 81, 3) := by decide +kernel
theorem dX8_many_73 : decode cX8_many 73 = .ok (.ireturn, 1) := by decide +kernel
theorem dX8_many_74 : decode cX8_many 74 = .ok (.aload_n 0, 1) := by decide +kernel
theorem dX8_many_75 : decode cX8_many 75 = .ok (.getfield 15, 3) := by decide +kernel
theorem dX8_many_78 : decode cX8_many 78 = .ok (.getfield 117, 3) := by decide +kernel
theorem dX8_many_81 : decode cX8_many 81 = .ok (.getfield 136, 3) := by decide +kernel
theorem dX8_many_84 : decode cX8_many 84 = .ok (.ireturn, 1) := by decide +kernel
theorem dX8_many_85 : decode cX8_many 85 = .ok (.aload_n 0, 1) := by decide +kernel
theorem dX8_many_86 : decode cX8_many 86 = .ok (.getfield 15, 3) := by decide +kernel
theorem dX8_many_89 : decode cX8_many 89 = .ok (.getfield 117, 3) := by decide +kernel
theorem dX8_many_92 : decode cX8_many 92 = .ok (.invokevirtual 215, 3) := by decide +kernel
theorem dX8_many_95 : decode cX8_many 95 = .ok (.ireturn, 1) := by decide +kernel
theorem dX8_many_96 : decode cX8_many 96 = .ok (.aload_n 0, 1) := by decide +kernel
theorem dX8_many_97 : decode cX8_many 97 = .ok (.getfield 15, 3) := by decide +kernel
theorem dX8_many_100 : decode cX8_many 100 = .ok (.getfield 126, 3) := by decide +kernel
theorem dX8_many_103 : decode cX8_many 103 = .ok (.getfield 175, 3) := by decide +kernel
theorem dX8_many_106 : decode cX8_many 106 = .ok (.ireturn, 1) := by decide +kernel
theorem dX8_many_107 : decode cX8_many 107 = .ok (.aload_n 0, 1) := by decide +kernel
theorem dX8_many_108 : decode cX8_many 108 = .ok (.getfield 15, 3) := by decide +kernel
theorem dX8_many_111 : decode cX8_many 111 = .ok (.getfield 188, 3) := by decide +kernel
theorem dX8_many_114 : decode cX8_many 114 = .ok (.getfield 192, 3) := by decide +kernel
theorem dX8_many_117 : decode cX8_many 117 = .ok (.ireturn, 1) := by decide +kernel
theorem dX8_many_118 : decode cX8_many 118 = .ok (.aload_n 0, 1) := by decide +kernel
theorem dX8_many_119 : decode cX8_many 119 = .ok (.getfield 21, 3) := by decide +kernel
theorem dX8_many_122 : decode cX8_many 122 = .ok (.invokevirtual 218, 3) := by decide +kernel
theorem dX8_many_125 : decode cX8_many 125 = .ok (.ireturn, 1) := by decide +kernel
theorem dX8_many_126 : decode cX8_many 126 = .ok (.aload_n 0, 1) := by decide +kernel
theorem dX8_many_127 : decode cX8_many 127 = .ok (.getfield 21, 3) := by decide +kernel
theorem dX8_many_130 : decode cX8_many 130 = .ok (.invokevirtual 221, 3) := by decide +kernel
theorem dX8_many_133 : decode cX8_many 133 = .ok (.ireturn, 1) := by decide +kernel
theorem dX8_many_134 : decode cX8_many 134 = .ok (.aload_n 0, 1) := by decide +kernel
theorem dX8_many_135 : decode cX8_many 135 = .ok (.getfield 15, 3) := by decide +kernel
theorem dX8_many_138 : decode cX8_many 138 = .ok (.getfield 41, 3) := by decide +kernel
theorem dX8_many_141 : decode cX8_many 141 = .ok (.invokevirtual 224, 3) := by decide +kernel
theorem dX8_many_144 : decode cX8_many 144 = .ok (.ireturn, 1) := by decide +kernel
theorem dX8_many_145 : decode cX8_many 145 = .ok (.iconst (-1), 1) := by decide +kernel
theorem dX8_many_146 : decode cX8_many 146 = .ok (.ireturn, 1) := by decide +kernel
theorem dX8_keep_0 : decode cX8_keep 0 = .ok (.aload_n 0, 1) := by decide +kernel
theorem dX8_keep_1 : decode cX8_keep 1 = .ok (.getfield 34, 3) := by decide +kernel
theorem dX8_keep_4 : decode cX8_keep 4 = .ok (.ifnonnull 14, 3) := by decide +kernel
theorem dX8_keep_7 : decode cX8_keep 7 = .ok (.aload_n 0, 1) := by decide +kernel
theorem dX8_keep_8 : decode cX8_keep 8 = .ok (.new 7, 3) := by decide +kernel
theorem dX8_keep_11 : decode cX8_keep 11 = .ok (.dup, 1) := by decide +kernel
theorem dX8_keep_12 : decode cX8_keep 12 = .ok (.invokespecial 9, 3) := by decide +kernel
theorem dX8_keep_15 : decode cX8_keep 15 = .ok (.putfield 34, 3) := by decide +kernel
theorem dX8_keep_18 : decode cX8_keep 18 = .ok (.aload_n 0, 1) := by decide +kernel
theorem dX8_keep_19 : decode cX8_keep 19 = .ok (.getfield 34, 3) := by decide +kernel
theorem dX8_keep_22 : decode cX8_keep 22 = .ok (.aload_n 0, 1) := by decide +kernel
theorem dX8_keep_23 : decode cX8_keep 23 = .ok (.getfield 15, 3) := by decide +kernel
theorem dX8_keep_26 : decode cX8_keep 26 = .ok (.invokevirtual 227, 3) := by decide +kernel
theorem dX8_keep_29 : decode cX8_keep 29 = .ok (.iconst 1, 1) := by decide +kernel
theorem dX8_keep_30 : decode cX8_keep 30 = .ok (.ireturn, 1) := by decide +kernel
theorem dX8_back_0 : decode cX8_back 0 = .ok (.aload_n 0, 1) := by decide +kernel
theorem dX8_back_1 : decode cX8_back 1 = .ok (.getfield 34, 3) := by decide +kernel
theorem dX8_back_4 : decode cX8_back 4 = .ok (.ifnonnull 6, 3) := by decide +kernel
theorem dX8_back_7 : decode cX8_back 7 = .ok (.bipush (-4), 2) := by decide +kernel
theorem dX8_back_9 : decode cX8_back 9 = .ok (.ireturn, 1) := by decide +kernel
theorem dX8_back_10 : decode cX8_back 10 = .ok (.aload_n 0, 1) := by decide +kernel
theorem dX8_back_11 : decode cX8_back 11 = .ok (.getfield 15, 3) := by decide +kernel
theorem dX8_back_14 : decode cX8_back 14 = .ok (.aload_n 0, 1) := by decide +kernel
theorem dX8_back_15 : decode cX8_back 15 = .ok (.getfield 34, 3) := by decide +kernel
theorem dX8_back_18 : decode cX8_back 18 = .ok (.invokevirtual 227, 3) := by decide +kernel
theorem dX8_back_21 : decode cX8_back 21 = .ok (.aload_n 0, 1) := by decide +kernel
theorem dX8_back_22 : decode cX8_back 22 = .ok (.iconst 1, 1) := by decide +kernel
theorem dX8_back_23 : decode cX8_back 23 = .ok (.invokevirtual 55, 3) := by decide +kernel
theorem dX8_back_26 : decode cX8_back 26 = .ok (.ireturn, 1) := by decide +kernel
theorem dX8_changed_0 : decode cX8_changed 0 = .ok (.aload_n 0, 1) := by decide +kernel
theorem dX8_changed_1 : decode cX8_changed 1 = .ok (.getfield 30, 3) := by decide +kernel
theorem dX8_changed_4 : decode cX8_changed 4 = .ok (.invokevirtual 230, 3) := by decide +kernel
theorem dX8_changed_7 : decode cX8_changed 7 = .ok (.iload_n 1, 1) := by decide +kernel
theorem dX8_changed_8 : decode cX8_changed 8 = .ok (.ireturn, 1) := by decide +kernel
theorem dX8_within_0 : decode cX8_within 0 = .ok (.iload_n 0, 1) := by decide +kernel
theorem dX8_within_1 : decode cX8_within 1 = .ok (.iload_n 1, 1) := by decide +kernel
theorem dX8_within_2 : decode cX8_within 2 = .ok (.if_icmp .lt 12, 3) := by decide +kernel
theorem dX8_within_5 : decode cX8_within 5 = .ok (.iload_n 0, 1) := by decide +kernel
theorem dX8_within_6 : decode cX8_within 6 = .ok (.iload_n 2, 1) := by decide +kernel
theorem dX8_within_7 : decode cX8_within 7 = .ok (.if_icmp .gt 7, 3) := by decide +kernel
theorem dX8_within_10 : decode cX8_within 10 = .ok (.iconst 1, 1) := by decide +kernel
theorem dX8_within_11 : decode cX8_within 11 = .ok (.goto 4, 3) := by decide +kernel
theorem dX8_within_14 : decode cX8_within 14 = .ok (.iconst 0, 1) := by decide +kernel
theorem dX8_within_15 : decode cX8_within 15 = .ok (.ireturn, 1) := by decide +kernel
theorem dX8_isYear_0 : decode cX8_isYear 0 = .ok (.iload_n 0, 1) := by decide +kernel
theorem dX8_isYear_1 : decode cX8_isYear 1 = .ok (.iconst 0, 1) := by decide +kernel
theorem dX8_isYear_2 : decode cX8_isYear 2 = .ok (.bipush 9, 2) := by decide +kernel
theorem dX8_isYear_4 : decode cX8_isYear 4 = .ok (.invokestatic 37, 3) := by decide +kernel
theorem dX8_isYear_7 : decode cX8_isYear 7 = .ok (.ireturn, 1) := by decide +kernel
theorem dX8_stepOfAmount_0 : decode cX8_stepOfAmount 0 = .ok (.bipush 7, 2) := by decide +kernel
theorem dX8_stepOfAmount_2 : decode cX8_stepOfAmount 2 = .ok (.istore_n 1, 1) := by decide +kernel
theorem dX8_stepOfAmount_3 : decode cX8_stepOfAmount 3 = .ok (.iload_n 1, 1) := by decide +kernel
theorem dX8_stepOfAmount_4 : decode cX8_stepOfAmount 4 = .ok (.ifCond .le 18, 3) := by decide +kernel
theorem dX8_stepOfAmount_7 : decode cX8_stepOfAmount 7 = .ok (.iload_n 0, 1) := by decide +kernel
theorem dX8_stepOfAmount_8 : decode cX8_stepOfAmount 8 = .ok (.getstatic 233, 3) := by decide +kernel
theorem dX8_stepOfAmount_11 : decode cX8_stepOfAmount 11 = .ok (.iload_n 1, 1) := by decide +kernel
theorem dX8_stepOfAmount_12 : decode cX8_stepOfAmount 12 = .ok (.iaload, 1) := by decide +kernel
theorem dX8_stepOfAmount_13 : decode cX8_stepOfAmount 13 = .ok (.if_icmp .ge 9, 3) := by decide +kernel
theorem dX8_stepOfAmount_16 : decode cX8_stepOfAmount 16 = .ok (.iinc 1 (-1), 3) := by decide +kernel
theorem dX8_stepOfAmount_19 : decode cX8_stepOfAmount 19 = .ok (.goto (-16), 3) := by decide +kernel
theorem dX8_stepOfAmount_22 : decode cX8_stepOfAmount 22 = .ok (.iload_n 1, 1) := by decide +kernel
theorem dX8_stepOfAmount_23 : decode cX8_stepOfAmount 23 = .ok (.ireturn, 1) := by decide +kernel
theorem dX8_copyRow_0 : decode cX8_copyRow 0 = .ok (.aload_n 0, 1) := by decide +kernel
theorem dX8_copyRow_1 : decode cX8_copyRow 1 = .ok (.iconst 0, 1) := by decide +kernel
theorem dX8_copyRow_2 : decode cX8_copyRow 2 = .ok (.aload_n 1, 1) := by decide +kernel
theorem dX8_copyRow_3 : decode cX8_copyRow 3 = .ok (.iconst 0, 1) := by decide +kernel
theorem dX8_copyRow_4 : decode cX8_copyRow 4 = .ok (.aload_n 0, 1) := by decide +kernel
theorem dX8_copyRow_5 : decode cX8_copyRow 5 = .ok (.arraylength, 1) := by decide +kernel
theorem dX8_copyRow_6 : decode cX8_copyRow 6 = .ok (.aload_n 1, 1) := by decide +kernel
theorem dX8_copyRow_7 : decode cX8_copyRow 7 = .ok (.arraylength, 1) := by decide +kernel
theorem dX8_copyRow_8 : decode cX8_copyRow 8 = .ok (.invokestatic 236, 3) := by decide +kernel
theorem dX8_copyRow_11 : decode cX8_copyRow 11 = .ok (.invokestatic 239, 3) := by decide +kernel
theorem dX8_copyRow_14 : decode cX8_copyRow 14 = .ok (.return_, 1) := by decide +kernel
theorem dX9_init_0 : decode cX9_init 0 = .ok (.aload_n 0, 1) := by decide +kernel
theorem dX9_init_1 : decode cX9_init 1 = .ok (.invokespecial 1, 3) := by decide +kernel
theorem dX9_init_4 : decode cX9_init 4 = .ok (.aload_n 0, 1) := by decide +kernel
theorem dX9_init_5 : decode cX9_init 5 = .ok (.iconst 5, 1) := by decide +kernel
theorem dX9_init_6 : decode cX9_init 6 = .ok (.newarray .int, 2) := by decide +kernel
theorem dX9_init_8 : decode cX9_init 8 = .ok (.putfield 7, 3) := by decide +kernel
theorem dX9_init_11 : decode cX9_init 11 = .ok (.aload_n 0, 1) := by decide +kernel
theorem dX9_init_12 : decode cX9_init 12 = .ok (.iconst 4, 1) := by decide +kernel
theorem dX9_init_13 : decode cX9_init 13 = .ok (.newarray .int, 2) := by decide +kernel
theorem dX9_init_15 : decode cX9_init 15 = .ok (.putfield 13, 3) := by decide +kernel
theorem dX9_init_18 : decode cX9_init 18 = .ok (.aload_n 0, 1) := by decide +kernel
theorem dX9_init_19 : decode cX9_init 19 = .ok (.bipush 40, 2) := by decide +kernel
theorem dX9_init_21 : decode cX9_init 21 = .ok (.newarray .int, 2) := by decide +kernel
theorem dX9_init_23 : decode cX9_init 23 = .ok (.putfield 16, 3) := by decide +kernel
theorem dX9_init_26 : decode cX9_init 26 = .ok (.aload_n 0, 1) := by decide +kernel
theorem dX9_init_27 : decode cX9_init 27 = .ok (.bipush 56, 2) := by decide +kernel
theorem dX9_init_29 : decode cX9_init 29 = .ok (.newarray .int, 2) := by decide +kernel
theorem dX9_init_31 : decode cX9_init 31 = .ok (.putfield 19, 3) := by decide +kernel
theorem dX9_init_34 : decode cX9_init 34 = .ok (.aload_n 0, 1) := by decide +kernel
theorem dX9_init_35 : decode cX9_init 35 = .ok (.sipush 150, 3) := by decide +kernel
theorem dX9_init_38 : decode cX9_init 38 = .ok (.newarray .int, 2) := by decide +kernel
theorem dX9_init_40 : decode cX9_init 40 = .ok (.putfield 22, 3) := by decide +kernel
theorem dX9_init_43 : decode cX9_init 43 = .ok (.aload_n 0, 1) := by decide +kernel
theorem dX9_init_44 : decode cX9_init 44 = .ok (.bipush 36, 2) := by decide +kernel
theorem dX9_init_46 : decode cX9_init 46 = .ok (.newarray .int, 2) := by decide +kernel
theorem dX9_init_48 : decode cX9_init 48 = .ok (.putfield 25, 3) := by decide +kernel
theorem dX9_init_51 : decode cX9_init 51 = .ok (.aload_n 0, 1) := by decide +kernel
theorem dX9_init_52 : decode cX9_init 52 = .ok (.bipush 15, 2) := by decide +kernel
theorem dX9_init_54 : decode cX9_init 54 = .ok (.newarray .int, 2) := by decide +kernel
theorem dX9_init_56 : decode cX9_init 56 = .ok (.putfield 28, 3) := by decide +kernel
theorem dX9_init_59 : decode cX9_init 59 = .ok (.aload_n 0, 1) := by decide +kernel
theorem dX9_init_60 : decode cX9_init 60 = .ok (.bipush 9, 2) := by decide +kernel
theorem dX9_init_62 : decode cX9_init 62 = .ok (.newarray .int, 2) := by decide +kernel
theorem dX9_init_64 : decode cX9_init 64 = .ok (.dup, 1) := by decide +kernel
theorem dX9_init_65 : decode cX9_init 65 = .ok (.iconst 0, 1) := by decide +kernel
theorem dX9_init_66 : decode cX9_init 66 = .ok (.iconst 0, 1) := by decide +kernel
theorem dX9_init_67 : decode cX9_init 67 = .ok (.iastore, 1) := by decide +kernel
theorem dX9_init_68 : decode cX9_init 68 = .ok (.dup, 1) := by decide +kernel
theorem dX9_init_69 : decode cX9_init 69 = .ok (.iconst 1, 1) := by decide +kernel
theorem dX9_init_70 : decode cX9_init 70 = .ok (.bipush 10, 2) := by decide +kernel
theorem dX9_init_72 : decode cX9_init 72 = .ok (.iastore, 1) := by decide +kernel
theorem dX9_init_73 : decode cX9_init 73 = .ok (.dup, 1) := by decide +kernel
theorem dX9_init_74 : decode cX9_init 74 = .ok (.iconst 2, 1) := by decide +kernel
theorem dX9_init_75 : decode cX9_init 75 = .ok (.bipush 20, 2) := by decide +kernel
theorem dX9_init_77 : decode cX9_init 77 = .ok (.iastore, 1) := by decide +kernel
theorem dX9_init_78 : decode cX9_init 78 = .ok (.dup, 1) := by decide +kernel
theorem dX9_init_79 : decode cX9_init 79 = .ok (.iconst 3, 1) := by decide +kernel
theorem dX9_init_80 : decode cX9_init 80 = .ok (.bipush 40, 2) := by decide +kernel
theorem dX9_init_82 : decode cX9_init 82 = .ok (.iastore, 1) := by decide +kernel
theorem dX9_init_83 : decode cX9_init 83 = .ok (.dup, 1) := by decide +kernel
theorem dX9_init_84 : decode cX9_init 84 = .ok (.iconst 4, 1) := by decide +kernel
theorem dX9_init_85 : decode cX9_init 85 = .ok (.bipush 80, 2) := by decide +kernel
theorem dX9_init_87 : decode cX9_init 87 = .ok (.iastore, 1) := by decide +kernel
theorem dX9_init_88 : decode cX9_init 88 = .ok (.dup, 1) := by decide +kernel
theorem dX9_init_89 : decode cX9_init 89 = .ok (.iconst 5, 1) := by decide +kernel
theorem dX9_init_90 : decode cX9_init 90 = .ok (.sipush 160, 3) := by decide +kernel
theorem dX9_init_93 : decode cX9_init 93 = .ok (.iastore, 1) := by decide +kernel
theorem dX9_init_94 : decode cX9_init 94 = .ok (.dup, 1) := by decide +kernel
theorem dX9_init_95 : decode cX9_init 95 = .ok (.bipush 6, 2) := by decide +kernel
theorem dX9_init_97 : decode cX9_init 97 = .ok (.sipush 320, 3) := by decide +kernel
theorem dX9_init_100 : decode cX9_init 100 = .ok (.iastore, 1) := by decide +kernel
theorem dX9_init_101 : decode cX9_init 101 = .ok (.dup, 1) := by decide +kernel
theorem dX9_init_102 : decode cX9_init 102 = .ok (.bipush 7, 2) := by decide +kernel
theorem dX9_init_104 : decode cX9_init 104 = .ok (.sipush 640, 3) := by decide +kernel
theorem dX9_init_107 : decode cX9_init 107 = .ok (.iastore, 1) := by decide +kernel
theorem dX9_init_108 : decode cX9_init 108 = .ok (.dup, 1) := by decide +kernel
theorem dX9_init_109 : decode cX9_init 109 = .ok (.bipush 8, 2) := by decide +kernel
theorem dX9_init_111 : decode cX9_init 111 = .ok (.ldc 31, 2) := by decide +kernel
theorem dX9_init_113 : decode cX9_init 113 = .ok (.iastore, 1) := by decide +kernel
theorem dX9_init_114 : decode cX9_init 114 = .ok (.putfield 32, 3) := by decide +kernel
theorem dX9_init_117 : decode cX9_init 117 = .ok (.aload_n 0, 1) := by decide +kernel
theorem dX9_init_118 : decode cX9_init 118 = .ok (.sipush 310, 3) := by decide +kernel
theorem dX9_init_121 : decode cX9_init 121 = .ok (.newarray .int, 2) := by decide +kernel
theorem dX9_init_123 : decode cX9_init 123 = .ok (.putfield 35, 3) := by decide +kernel
theorem dX9_init_126 : decode cX9_init 126 = .ok (.aload_n 0, 1) := by decide +kernel
theorem dX9_init_127 : decode cX9_init 127 = .ok (.bipush 6, 2) := by decide +kernel
theorem dX9_init_129 : decode cX9_init 129 = .ok (.newarray .int, 2) := by decide +kernel
theorem dX9_init_131 : decode cX9_init 131 = .ok (.putfield 38, 3) := by decide +kernel
theorem dX9_init_134 : decode cX9_init 134 = .ok (.aload_n 0, 1) := by decide +kernel
theorem dX9_init_135 : decode cX9_init 135 = .ok (.iconst 5, 1) := by decide +kernel
theorem dX9_init_136 : decode cX9_init 136 = .ok (.newarray .int, 2) := by decide +kernel
theorem dX9_init_138 : decode cX9_init 138 = .ok (.putfield 41, 3) := by decide +kernel
theorem dX9_init_141 : decode cX9_init 141 = .ok (.aload_n 0, 1) := by decide +kernel
theorem dX9_init_142 : decode cX9_init 142 = .ok (.bipush 8, 2) := by decide +kernel
theorem dX9_init_144 : decode cX9_init 144 = .ok (.newarray .int, 2) := by decide +kernel
theorem dX9_init_146 : decode cX9_init 146 = .ok (.putfield 44, 3) := by decide +kernel
theorem dX9_init_149 : decode cX9_init 149 = .ok (.return_, 1) := by decide +kernel
theorem dX9_in_0 : decode cX9_in 0 = .ok (.iload_n 0, 1) := by decide +kernel
theorem dX9_in_1 : decode cX9_in 1 = .ok (.iload_n 1, 1) := by decide +kernel
theorem dX9_in_2 : decode cX9_in 2 = .ok (.if_icmp .lt 12, 3) := by decide +kernel
theorem dX9_in_5 : decode cX9_in 5 = .ok (.iload_n 0, 1) := by decide +kernel
theorem dX9_in_6 : decode cX9_in 6 = .ok (.iload_n 2, 1) := by decide +kernel
theorem dX9_in_7 : decode cX9_in 7 = .ok (.if_icmp .gt 7, 3) := by decide +kernel
theorem dX9_in_10 : decode cX9_in 10 = .ok (.iconst 1, 1) := by decide +kernel
theorem dX9_in_11 : decode cX9_in 11 = .ok (.goto 4, 3) := by decide +kernel
theorem dX9_in_14 : decode cX9_in 14 = .ok (.iconst 0, 1) := by decide +kernel
theorem dX9_in_15 : decode cX9_in 15 = .ok (.ireturn, 1) := by decide +kernel
theorem dX9_is_0 : decode cX9_is 0 = .ok (.iload_n 2, 1) := by decide +kernel
theorem dX9_is_1 : decode cX9_is 1 = .ok (.iconst 0, 1) := by decide +kernel
theorem dX9_is_2 : decode cX9_is 2 = .ok (.aload_n 0, 1) := by decide +kernel
theorem dX9_is_3 : decode cX9_is 3 = .ok (.getfield 7, 3) := by decide +kernel
theorem dX9_is_6 : decode cX9_is 6 = .ok (.iload_n 1, 1) := by decide +kernel
theorem dX9_is_7 : decode cX9_is 7 = .ok (.iaload, 1) := by decide +kernel
theorem dX9_is_8 : decode cX9_is 8 = .ok (.iconst 1, 1) := by decide +kernel
theorem dX9_is_9 : decode cX9_is 9 = .ok (.isub, 1) := by decide +kernel
theorem dX9_is_10 : decode cX9_is 10 = .ok (.invokestatic 47, 3) := by decide +kernel
theorem dX9_is_13 : decode cX9_is 13 = .ok (.ireturn, 1) := by decide +kernel
theorem dX9_isYear_0 : decode cX9_isYear 0 = .ok (.iload_n 0, 1) := by decide +kernel
theorem dX9_isYear_1 : decode cX9_isYear 1 = .ok (.iconst 0, 1) := by decide +kernel
theorem dX9_isYear_2 : decode cX9_isYear 2 = .ok (.bipush 9, 2) := by decide +kernel
theorem dX9_isYear_4 : decode cX9_isYear 4 = .ok (.invokestatic 47, 3) := by decide +kernel
theorem dX9_isYear_7 : decode cX9_isYear 7 = .ok (.ireturn, 1) := by decide +kernel
theorem dX9_came_0 : decode cX9_came 0 = .ok (.aload_n 0, 1) := by decide +kernel
theorem dX9_came_1 : decode cX9_came 1 = .ok (.getfield 7, 3) := by decide +kernel
theorem dX9_came_4 : decode cX9_came 4 = .ok (.iload_n 1, 1) := by decide +kernel
theorem dX9_came_5 : decode cX9_came 5 = .ok (.dup2, 1) := by decide +kernel
theorem dX9_came_6 : decode cX9_came 6 = .ok (.iaload, 1) := by decide +kernel
theorem dX9_came_7 : decode cX9_came 7 = .ok (.iconst 1, 1) := by decide +kernel
theorem dX9_came_8 : decode cX9_came 8 = .ok (.iadd, 1) := by decide +kernel
theorem dX9_came_9 : decode cX9_came 9 = .ok (.iastore, 1) := by decide +kernel
theorem dX9_came_10 : decode cX9_came 10 = .ok (.aload_n 0, 1) := by decide +kernel
theorem dX9_came_11 : decode cX9_came 11 = .ok (.getfield 7, 3) := by decide +kernel
theorem dX9_came_14 : decode cX9_came 14 = .ok (.iload_n 1, 1) := by decide +kernel
theorem dX9_came_15 : decode cX9_came 15 = .ok (.iaload, 1) := by decide +kernel
theorem dX9_came_16 : decode cX9_came 16 = .ok (.iconst 1, 1) := by decide +kernel
theorem dX9_came_17 : decode cX9_came 17 = .ok (.isub, 1) := by decide +kernel
theorem dX9_came_18 : decode cX9_came 18 = .ok (.ireturn, 1) := by decide +kernel
theorem dX9_room_0 : decode cX9_room 0 = .ok (.iload_n 1, 1) := by decide +kernel
theorem dX9_room_1 : decode cX9_room 1 = .ok (.iconst 1, 1) := by decide +kernel
theorem dX9_room_2 : decode cX9_room 2 = .ok (.sipush 200, 3) := by decide +kernel
theorem dX9_room_5 : decode cX9_room 5 = .ok (.invokestatic 47, 3) := by decide +kernel
theorem dX9_room_8 : decode cX9_room 8 = .ok (.ifCond .ne 5, 3) := by decide +kernel
theorem dX9_room_11 : decode cX9_room 11 = .ok (.iconst (-1), 1) := by decide +kernel
theorem dX9_room_12 : decode cX9_room 12 = .ok (.ireturn, 1) := by decide +kernel
theorem dX9_room_13 : decode cX9_room 13 = .ok (.aload_n 0, 1) := by decide +kernel
theorem dX9_room_14 : decode cX9_room 14 = .ok (.getfield 7, 3) := by decide +kernel
theorem dX9_room_17 : decode cX9_room 17 = .ok (.iconst 0, 1) := by decide +kernel
theorem dX9_room_18 : decode cX9_room 18 = .ok (.iaload, 1) := by decide +kernel
theorem dX9_room_19 : decode cX9_room 19 = .ok (.iconst 4, 1) := by decide +kernel
theorem dX9_room_20 : decode cX9_room 20 = .ok (.if_icmp .ne 6, 3) := by decide +kernel
theorem dX9_room_23 : decode cX9_room 23 = .ok (.bipush (-2), 2) := by decide +kernel
theorem dX9_room_25 : decode cX9_room 25 = .ok (.ireturn, 1) := by decide +kernel
theorem dX9_room_26 : decode cX9_room 26 = .ok (.aload_n 0, 1) := by decide +kernel
theorem dX9_room_27 : decode cX9_room 27 = .ok (.getfield 7, 3) := by decide +kernel
theorem dX9_room_30 : decode cX9_room 30 = .ok (.iconst 0, 1) := by decide +kernel
theorem dX9_room_31 : decode cX9_room 31 = .ok (.iaload, 1) := by decide +kernel
theorem dX9_room_32 : decode cX9_room 32 = .ok (.istore_n 2, 1) := by decide +kernel
theorem dX9_room_33 : decode cX9_room 33 = .ok (.aload_n 0, 1) := by decide +kernel
theorem dX9_room_34 : decode cX9_room 34 = .ok (.getfield 13, 3) := by decide +kernel
theorem dX9_room_37 : decode cX9_room 37 = .ok (.iload_n 2, 1) := by decide +kernel
theorem dX9_room_38 : decode cX9_room 38 = .ok (.iload_n 1, 1) := by decide +kernel
theorem dX9_room_39 : decode cX9_room 39 = .ok (.iastore, 1) := by decide +kernel
theorem dX9_room_40 : decode cX9_room 40 = .ok (.iconst 0, 1) := by decide +kernel
theorem dX9_room_41 : decode cX9_room 41 = .ok (.istore_n 3, 1) := by decide +kernel
theorem dX9_room_42 : decode cX9_room 42 = .ok (.iload_n 3, 1) := by decide +kernel
theorem dX9_room_43 : decode cX9_room 43 = .ok (.bipush 10, 2) := by decide +kernel
theorem dX9_room_45 : decode cX9_room 45 = .ok (.if_icmp .ge 21, 3) := by decide +kernel
theorem dX9_room_48 : decode cX9_room 48 = .ok (.aload_n 0, 1) := by decide +kernel
theorem dX9_room_49 : decode cX9_room 49 = .ok (.getfield 16, 3) := by decide +kernel
theorem dX9_room_52 : decode cX9_room 52 = .ok (.bipush 10, 2) := by decide +kernel
theorem dX9_room_54 : decode cX9_room 54 = .ok (.iload_n 2, 1) := by decide +kernel
theorem dX9_room_55 : decode cX9_room 55 = .ok (.imul, 1) := by decide +kernel
theorem dX9_room_56 : decode cX9_room 56 = .ok (.iload_n 3, 1) := by decide +kernel
theorem dX9_room_57 : decode cX9_room 57 = .ok (.iadd, 1) := by decide +kernel
theorem dX9_room_58 : decode cX9_room 58 = .ok (.iconst (-1), 1) := by decide +kernel
theorem dX9_room_59 : decode cX9_room 59 = .ok (.iastore, 1) := by decide +kernel
theorem dX9_room_60 : decode cX9_room 60 = .ok (.iinc 3 1, 3) := by decide +kernel
theorem dX9_room_63 : decode cX9_room 63 = .ok (.goto (-21), 3) := by decide +kernel
theorem dX9_room_66 : decode cX9_room 66 = .ok (.aload_n 0, 1) := by decide +kernel
theorem dX9_room_67 : decode cX9_room 67 = .ok (.iconst 0, 1) := by decide +kernel
theorem dX9_room_68 : decode cX9_room 68 = .ok (.invokevirtual 51, 3) := by decide +kernel
theorem dX9_room_71 : decode cX9_room 71 = .ok (.ireturn, 1) := by decide +kernel
theorem dX9_reading_0 : decode cX9_reading 0 = .ok (.aload_n 0, 1) := by decide +kernel
theorem dX9_reading_1 : decode cX9_reading 1 = .ok (.iconst 0, 1) := by decide +kernel
theorem dX9_reading_2 : decode cX9_reading 2 = .ok (.iload_n 1, 1) := by decide +kernel
theorem dX9_reading_3 : decode cX9_reading 3 = .ok (.invokevirtual 55, 3) := by decide +kernel
theorem dX9_reading_6 : decode cX9_reading 6 = .ok (.ifCond .eq 24, 3) := by decide +kernel
theorem dX9_reading_9 : decode cX9_reading 9 = .ok (.iload_n 2, 1) := by decide +kernel
theorem dX9_reading_10 : decode cX9_reading 10 = .ok (.invokestatic 59, 3) := by decide +kernel
theorem dX9_reading_13 : decode cX9_reading 13 = .ok (.ifCond .eq 17, 3) := by decide +kernel
theorem dX9_reading_16 : decode cX9_reading 16 = .ok (.iload_n 3, 1) := by decide +kernel
theorem dX9_reading_17 : decode cX9_reading 17 = .ok (.iconst (-1), 1) := by decide +kernel
theorem dX9_reading_18 : decode cX9_reading 18 = .ok (.aload_n 0, 1) := by decide +kernel
theorem dX9_reading_19 : decode cX9_reading 19 = .ok (.getfield 13, 3) := by decide +kernel
theorem dX9_reading_22 : decode cX9_reading 22 = .ok (.iload_n 1, 1) := by decide +kernel
theorem dX9_reading_23 : decode cX9_reading 23 = .ok (.iaload, 1) := by decide +kernel
theorem dX9_reading_24 : decode cX9_reading 24 = .ok (.invokestatic 47, 3) := by decide +kernel
theorem dX9_reading_27 : decode cX9_reading 27 = .ok (.ifCond .ne 5, 3) := by decide +kernel
theorem dX9_reading_30 : decode cX9_reading 30 = .ok (.iconst (-1), 1) := by decide +kernel
theorem dX9_reading_31 : decode cX9_reading 31 = .ok (.ireturn, 1) := by decide +kernel
theorem dX9_reading_32 : decode cX9_reading 32 = .ok (.aload_n 0, 1) := by decide +kernel
theorem dX9_reading_33 : decode cX9_reading 33 = .ok (.getfield 16, 3) := by decide +kernel
theorem dX9_reading_36 : decode cX9_reading 36 = .ok (.bipush 10, 2) := by decide +kernel
theorem dX9_reading_38 : decode cX9_reading 38 = .ok (.iload_n 1, 1) := by decide +kernel
theorem dX9_reading_39 : decode cX9_reading 39 = .ok (.imul, 1) := by decide +kernel
theorem dX9_reading_40 : decode cX9_reading 40 = .ok (.iload_n 2, 1) := by decide +kernel
theorem dX9_reading_41 : decode cX9_reading 41 = .ok (.iadd, 1) := by decide +kernel
theorem dX9_reading_42 : decode cX9_reading 42 = .ok (.iload_n 3, 1) := by decide +kernel
theorem dX9_reading_43 : decode cX9_reading 43 = .ok (.iastore, 1) := by decide +kernel
theorem dX9_reading_44 : decode cX9_reading 44 = .ok (.iconst 1, 1) := by decide +kernel
theorem dX9_reading_45 : decode cX9_reading 45 = .ok (.ireturn, 1) := by decide +kernel
theorem dX9_lightOf_0 : decode cX9_lightOf 0 = .ok (.aload_n 0, 1) := by decide +kernel
theorem dX9_lightOf_1 : decode cX9_lightOf 1 = .ok (.getfield 16, 3) := by decide +kernel
theorem dX9_lightOf_4 : decode cX9_lightOf 4 = .ok (.bipush 10, 2) := by decide +kernel
theorem dX9_lightOf_6 : decode cX9_lightOf 6 = .ok (.iload_n 1, 1) := by decide +kernel
theorem dX9_lightOf_7 : decode cX9_lightOf 7 = .ok (.imul, 1) := by decide +kernel
theorem dX9_lightOf_8 : decode cX9_lightOf 8 = .ok (.iload_n 2, 1) := by decide +kernel
theorem dX9_lightOf_9 : decode cX9_lightOf 9 = .ok (.iadd, 1) := by decide +kernel
theorem dX9_lightOf_10 : decode cX9_lightOf 10 = .ok (.iaload, 1) := by decide +kernel
theorem dX9_lightOf_11 : decode cX9_lightOf 11 = .ok (.istore 4, 2) := by decide +kernel
theorem dX9_lightOf_13 : decode cX9_lightOf 13 = .ok (.iload 4, 2) := by decide +kernel
theorem dX9_lightOf_15 : decode cX9_lightOf 15 = .ok (.ifCond .lt 8, 3) := by decide +kernel
theorem dX9_lightOf_18 : decode cX9_lightOf 18 = .ok (.iload 4, 2) := by decide +kernel
theorem dX9_lightOf_20 : decode cX9_lightOf 20 = .ok (.goto 17, 3) := by decide +kernel
theorem dX9_lightOf_23 : decode cX9_lightOf 23 = .ok (.iload_n 3, 1) := by decide +kernel
theorem dX9_lightOf_24 : decode cX9_lightOf 24 = .ok (.ifCond .eq 12, 3) := by decide +kernel
theorem dX9_lightOf_27 : decode cX9_lightOf 27 = .ok (.aload_n 0, 1) := by decide +kernel
theorem dX9_lightOf_28 : decode cX9_lightOf 28 = .ok (.getfield 13, 3) := by decide +kernel
theorem dX9_lightOf_31 : decode cX9_lightOf 31 = .ok (.iload_n 1, 1) := by decide +kernel
theorem dX9_lightOf_32 : decode cX9_lightOf 32 = .ok (.iaload, 1) := by decide +kernel
theorem dX9_lightOf_33 : decode cX9_lightOf 33 = .ok (.goto 4, 3) := by decide +kernel
theorem dX9_lightOf_36 : decode cX9_lightOf 36 = .ok (.iconst 0, 1) := by decide +kernel
theorem dX9_lightOf_37 : decode cX9_lightOf 37 = .ok (.ireturn, 1) := by decide +kernel
theorem dX9_light_0 : decode cX9_light 0 = .ok (.aload_n 0, 1) := by decide +kernel
theorem dX9_light_1 : decode cX9_light 1 = .ok (.iconst 0, 1) := by decide +kernel
theorem dX9_light_2 : decode cX9_light 2 = .ok (.iload_n 1, 1) := by decide +kernel
theorem dX9_light_3 : decode cX9_light 3 = .ok (.invokevirtual 55, 3) := by decide +kernel
theorem dX9_light_6 : decode cX9_light 6 = .ok (.ifCond .eq 20, 3) := by decide +kernel
theorem dX9_light_9 : decode cX9_light 9 = .ok (.iload_n 2, 1) := by decide +kernel
theorem dX9_light_10 : decode cX9_light 10 = .ok (.invokestatic 59, 3) := by decide +kernel
theorem dX9_light_13 : decode cX9_light 13 = .ok (.ifCond .eq 13, 3) := by decide +kernel
theorem dX9_light_16 : decode cX9_light 16 = .ok (.aload_n 0, 1) := by decide +kernel
theorem dX9_light_17 : decode cX9_light 17 = .ok (.iload_n 1, 1) := by decide +kernel
theorem dX9_light_18 : decode cX9_light 18 = .ok (.iload_n 2, 1) := by decide +kernel
