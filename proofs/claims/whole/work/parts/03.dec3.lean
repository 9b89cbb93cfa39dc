theorem dX9_light_19 : decode cX9_light 19 = .ok (.iload_n 3, 1) := by decide +kernel
theorem dX9_light_20 : decode cX9_light 20 = .ok (.invokevirtual 63, 3) := by decide +kernel
theorem dX9_light_23 : decode cX9_light 23 = .ok (.goto 4, 3) := by decide +kernel
theorem dX9_light_26 : decode cX9_light 26 = .ok (.iconst (-1), 1) := by decide +kernel
theorem dX9_light_27 : decode cX9_light 27 = .ok (.ireturn, 1) := by decide +kernel
theorem dX9_sheet_0 : decode cX9_sheet 0 = .ok (.iload_n 1, 1) := by decide +kernel
theorem dX9_sheet_1 : decode cX9_sheet 1 = .ok (.iconst 1, 1) := by decide +kernel
theorem dX9_sheet_2 : decode cX9_sheet 2 = .ok (.sipush 2000, 3) := by decide +kernel
theorem dX9_sheet_5 : decode cX9_sheet 5 = .ok (.invokestatic 47, 3) := by decide +kernel
theorem dX9_sheet_8 : decode cX9_sheet 8 = .ok (.ifCond .eq 33, 3) := by decide +kernel
theorem dX9_sheet_11 : decode cX9_sheet 11 = .ok (.iload_n 2, 1) := by decide +kernel
theorem dX9_sheet_12 : decode cX9_sheet 12 = .ok (.iconst 1, 1) := by decide +kernel
theorem dX9_sheet_13 : decode cX9_sheet 13 = .ok (.bipush 15, 2) := by decide +kernel
theorem dX9_sheet_15 : decode cX9_sheet 15 = .ok (.invokestatic 47, 3) := by decide +kernel
theorem dX9_sheet_18 : decode cX9_sheet 18 = .ok (.ifCond .eq 23, 3) := by decide +kernel
theorem dX9_sheet_21 : decode cX9_sheet 21 = .ok (.iload_n 3, 1) := by decide +kernel
theorem dX9_sheet_22 : decode cX9_sheet 22 = .ok (.iconst 1, 1) := by decide +kernel
theorem dX9_sheet_23 : decode cX9_sheet 23 = .ok (.bipush 9, 2) := by decide +kernel
theorem dX9_sheet_25 : decode cX9_sheet 25 = .ok (.invokestatic 47, 3) := by decide +kernel
theorem dX9_sheet_28 : decode cX9_sheet 28 = .ok (.ifCond .eq 13, 3) := by decide +kernel
theorem dX9_sheet_31 : decode cX9_sheet 31 = .ok (.iload 4, 2) := by decide +kernel
theorem dX9_sheet_33 : decode cX9_sheet 33 = .ok (.iconst 0, 1) := by decide +kernel
theorem dX9_sheet_34 : decode cX9_sheet 34 = .ok (.iconst 3, 1) := by decide +kernel
theorem dX9_sheet_35 : decode cX9_sheet 35 = .ok (.invokestatic 47, 3) := by decide +kernel
theorem dX9_sheet_38 : decode cX9_sheet 38 = .ok (.ifCond .ne 5, 3) := by decide +kernel
theorem dX9_sheet_41 : decode cX9_sheet 41 = .ok (.iconst (-1), 1) := by decide +kernel
theorem dX9_sheet_42 : decode cX9_sheet 42 = .ok (.ireturn, 1) := by decide +kernel
theorem dX9_sheet_43 : decode cX9_sheet 43 = .ok (.aload_n 0, 1) := by decide +kernel
theorem dX9_sheet_44 : decode cX9_sheet 44 = .ok (.getfield 7, 3) := by decide +kernel
theorem dX9_sheet_47 : decode cX9_sheet 47 = .ok (.iconst 1, 1) := by decide +kernel
theorem dX9_sheet_48 : decode cX9_sheet 48 = .ok (.iaload, 1) := by decide +kernel
theorem dX9_sheet_49 : decode cX9_sheet 49 = .ok (.bipush 8, 2) := by decide +kernel
theorem dX9_sheet_51 : decode cX9_sheet 51 = .ok (.if_icmp .ne 6, 3) := by decide +kernel
theorem dX9_sheet_54 : decode cX9_sheet 54 = .ok (.bipush (-2), 2) := by decide +kernel
theorem dX9_sheet_56 : decode cX9_sheet 56 = .ok (.ireturn, 1) := by decide +kernel
theorem dX9_sheet_57 : decode cX9_sheet 57 = .ok (.bipush 7, 2) := by decide +kernel
theorem dX9_sheet_59 : decode cX9_sheet 59 = .ok (.aload_n 0, 1) := by decide +kernel
theorem dX9_sheet_60 : decode cX9_sheet 60 = .ok (.getfield 7, 3) := by decide +kernel
theorem dX9_sheet_63 : decode cX9_sheet 63 = .ok (.iconst 1, 1) := by decide +kernel
theorem dX9_sheet_64 : decode cX9_sheet 64 = .ok (.iaload, 1) := by decide +kernel
theorem dX9_sheet_65 : decode cX9_sheet 65 = .ok (.imul, 1) := by decide +kernel
theorem dX9_sheet_66 : decode cX9_sheet 66 = .ok (.istore 5, 2) := by decide +kernel
theorem dX9_sheet_68 : decode cX9_sheet 68 = .ok (.aload_n 0, 1) := by decide +kernel
theorem dX9_sheet_69 : decode cX9_sheet 69 = .ok (.getfield 19, 3) := by decide +kernel
theorem dX9_sheet_72 : decode cX9_sheet 72 = .ok (.iload 5, 2) := by decide +kernel
theorem dX9_sheet_74 : decode cX9_sheet 74 = .ok (.iload_n 1, 1) := by decide +kernel
theorem dX9_sheet_75 : decode cX9_sheet 75 = .ok (.iastore, 1) := by decide +kernel
theorem dX9_sheet_76 : decode cX9_sheet 76 = .ok (.aload_n 0, 1) := by decide +kernel
theorem dX9_sheet_77 : decode cX9_sheet 77 = .ok (.getfield 19, 3) := by decide +kernel
theorem dX9_sheet_80 : decode cX9_sheet 80 = .ok (.iload 5, 2) := by decide +kernel
theorem dX9_sheet_82 : decode cX9_sheet 82 = .ok (.iconst 1, 1) := by decide +kernel
theorem dX9_sheet_83 : decode cX9_sheet 83 = .ok (.iadd, 1) := by decide +kernel
theorem dX9_sheet_84 : decode cX9_sheet 84 = .ok (.iload_n 2, 1) := by decide +kernel
theorem dX9_sheet_85 : decode cX9_sheet 85 = .ok (.iastore, 1) := by decide +kernel
theorem dX9_sheet_86 : decode cX9_sheet 86 = .ok (.aload_n 0, 1) := by decide +kernel
theorem dX9_sheet_87 : decode cX9_sheet 87 = .ok (.getfield 19, 3) := by decide +kernel
theorem dX9_sheet_90 : decode cX9_sheet 90 = .ok (.iload 5, 2) := by decide +kernel
theorem dX9_sheet_92 : decode cX9_sheet 92 = .ok (.iconst 2, 1) := by decide +kernel
theorem dX9_sheet_93 : decode cX9_sheet 93 = .ok (.iadd, 1) := by decide +kernel
theorem dX9_sheet_94 : decode cX9_sheet 94 = .ok (.iload_n 3, 1) := by decide +kernel
theorem dX9_sheet_95 : decode cX9_sheet 95 = .ok (.iastore, 1) := by decide +kernel
theorem dX9_sheet_96 : decode cX9_sheet 96 = .ok (.aload_n 0, 1) := by decide +kernel
theorem dX9_sheet_97 : decode cX9_sheet 97 = .ok (.getfield 19, 3) := by decide +kernel
theorem dX9_sheet_100 : decode cX9_sheet 100 = .ok (.iload 5, 2) := by decide +kernel
theorem dX9_sheet_102 : decode cX9_sheet 102 = .ok (.iconst 3, 1) := by decide +kernel
theorem dX9_sheet_103 : decode cX9_sheet 103 = .ok (.iadd, 1) := by decide +kernel
theorem dX9_sheet_104 : decode cX9_sheet 104 = .ok (.iload 4, 2) := by decide +kernel
theorem dX9_sheet_106 : decode cX9_sheet 106 = .ok (.iastore, 1) := by decide +kernel
theorem dX9_sheet_107 : decode cX9_sheet 107 = .ok (.aload_n 0, 1) := by decide +kernel
theorem dX9_sheet_108 : decode cX9_sheet 108 = .ok (.getfield 19, 3) := by decide +kernel
theorem dX9_sheet_111 : decode cX9_sheet 111 = .ok (.iload 5, 2) := by decide +kernel
theorem dX9_sheet_113 : decode cX9_sheet 113 = .ok (.iconst 4, 1) := by decide +kernel
theorem dX9_sheet_114 : decode cX9_sheet 114 = .ok (.iadd, 1) := by decide +kernel
theorem dX9_sheet_115 : decode cX9_sheet 115 = .ok (.iconst (-1), 1) := by decide +kernel
theorem dX9_sheet_116 : decode cX9_sheet 116 = .ok (.iastore, 1) := by decide +kernel
theorem dX9_sheet_117 : decode cX9_sheet 117 = .ok (.aload_n 0, 1) := by decide +kernel
theorem dX9_sheet_118 : decode cX9_sheet 118 = .ok (.getfield 19, 3) := by decide +kernel
theorem dX9_sheet_121 : decode cX9_sheet 121 = .ok (.iload 5, 2) := by decide +kernel
theorem dX9_sheet_123 : decode cX9_sheet 123 = .ok (.iconst 5, 1) := by decide +kernel
theorem dX9_sheet_124 : decode cX9_sheet 124 = .ok (.iadd, 1) := by decide +kernel
theorem dX9_sheet_125 : decode cX9_sheet 125 = .ok (.iconst 0, 1) := by decide +kernel
theorem dX9_sheet_126 : decode cX9_sheet 126 = .ok (.iastore, 1) := by decide +kernel
theorem dX9_sheet_127 : decode cX9_sheet 127 = .ok (.aload_n 0, 1) := by decide +kernel
theorem dX9_sheet_128 : decode cX9_sheet 128 = .ok (.getfield 19, 3) := by decide +kernel
theorem dX9_sheet_131 : decode cX9_sheet 131 = .ok (.iload 5, 2) := by decide +kernel
theorem dX9_sheet_133 : decode cX9_sheet 133 = .ok (.bipush 6, 2) := by decide +kernel
theorem dX9_sheet_135 : decode cX9_sheet 135 = .ok (.iadd, 1) := by decide +kernel
theorem dX9_sheet_136 : decode cX9_sheet 136 = .ok (.iconst 0, 1) := by decide +kernel
theorem dX9_sheet_137 : decode cX9_sheet 137 = .ok (.iastore, 1) := by decide +kernel
theorem dX9_sheet_138 : decode cX9_sheet 138 = .ok (.aload_n 0, 1) := by decide +kernel
theorem dX9_sheet_139 : decode cX9_sheet 139 = .ok (.iconst 1, 1) := by decide +kernel
theorem dX9_sheet_140 : decode cX9_sheet 140 = .ok (.invokevirtual 51, 3) := by decide +kernel
theorem dX9_sheet_143 : decode cX9_sheet 143 = .ok (.ireturn, 1) := by decide +kernel
theorem dX9_sisterOf_0 : decode cX9_sisterOf 0 = .ok (.aload_n 0, 1) := by decide +kernel
theorem dX9_sisterOf_1 : decode cX9_sisterOf 1 = .ok (.getfield 19, 3) := by decide +kernel
theorem dX9_sisterOf_4 : decode cX9_sisterOf 4 = .ok (.bipush 7, 2) := by decide +kernel
theorem dX9_sisterOf_6 : decode cX9_sisterOf 6 = .ok (.iload_n 1, 1) := by decide +kernel
theorem dX9_sisterOf_7 : decode cX9_sisterOf 7 = .ok (.imul, 1) := by decide +kernel
theorem dX9_sisterOf_8 : decode cX9_sisterOf 8 = .ok (.iconst 4, 1) := by decide +kernel
theorem dX9_sisterOf_9 : decode cX9_sisterOf 9 = .ok (.iadd, 1) := by decide +kernel
theorem dX9_sisterOf_10 : decode cX9_sisterOf 10 = .ok (.iaload, 1) := by decide +kernel
theorem dX9_sisterOf_11 : decode cX9_sisterOf 11 = .ok (.ireturn, 1) := by decide +kernel
theorem dX9_sisters_0 : decode cX9_sisters 0 = .ok (.aload_n 0, 1) := by decide +kernel
theorem dX9_sisters_1 : decode cX9_sisters 1 = .ok (.iconst 1, 1) := by decide +kernel
theorem dX9_sisters_2 : decode cX9_sisters 2 = .ok (.iload_n 1, 1) := by decide +kernel
theorem dX9_sisters_3 : decode cX9_sisters 3 = .ok (.invokevirtual 55, 3) := by decide +kernel
theorem dX9_sisters_6 : decode cX9_sisters 6 = .ok (.ifCond .eq 17, 3) := by decide +kernel
theorem dX9_sisters_9 : decode cX9_sisters 9 = .ok (.aload_n 0, 1) := by decide +kernel
theorem dX9_sisters_10 : decode cX9_sisters 10 = .ok (.iconst 1, 1) := by decide +kernel
theorem dX9_sisters_11 : decode cX9_sisters 11 = .ok (.iload_n 2, 1) := by decide +kernel
theorem dX9_sisters_12 : decode cX9_sisters 12 = .ok (.invokevirtual 55, 3) := by decide +kernel
theorem dX9_sisters_15 : decode cX9_sisters 15 = .ok (.ifCond .eq 8, 3) := by decide +kernel
theorem dX9_sisters_18 : decode cX9_sisters 18 = .ok (.iload_n 1, 1) := by decide +kernel
theorem dX9_sisters_19 : decode cX9_sisters 19 = .ok (.iload_n 2, 1) := by decide +kernel
theorem dX9_sisters_20 : decode cX9_sisters 20 = .ok (.if_icmp .ne 5, 3) := by decide +kernel
theorem dX9_sisters_23 : decode cX9_sisters 23 = .ok (.iconst (-1), 1) := by decide +kernel
theorem dX9_sisters_24 : decode cX9_sisters 24 = .ok (.ireturn, 1) := by decide +kernel
theorem dX9_sisters_25 : decode cX9_sisters 25 = .ok (.aload_n 0, 1) := by decide +kernel
theorem dX9_sisters_26 : decode cX9_sisters 26 = .ok (.iload_n 1, 1) := by decide +kernel
theorem dX9_sisters_27 : decode cX9_sisters 27 = .ok (.invokevirtual 67, 3) := by decide +kernel
theorem dX9_sisters_30 : decode cX9_sisters 30 = .ok (.ifCond .ge 11, 3) := by decide +kernel
theorem dX9_sisters_33 : decode cX9_sisters 33 = .ok (.aload_n 0, 1) := by decide +kernel
theorem dX9_sisters_34 : decode cX9_sisters 34 = .ok (.iload_n 2, 1) := by decide +kernel
theorem dX9_sisters_35 : decode cX9_sisters 35 = .ok (.invokevirtual 67, 3) := by decide +kernel
theorem dX9_sisters_38 : decode cX9_sisters 38 = .ok (.ifCond .lt 6, 3) := by decide +kernel
theorem dX9_sisters_41 : decode cX9_sisters 41 = .ok (.bipush (-3), 2) := by decide +kernel
theorem dX9_sisters_43 : decode cX9_sisters 43 = .ok (.ireturn, 1) := by decide +kernel
theorem dX9_sisters_44 : decode cX9_sisters 44 = .ok (.aload_n 0, 1) := by decide +kernel
theorem dX9_sisters_45 : decode cX9_sisters 45 = .ok (.getfield 19, 3) := by decide +kernel
theorem dX9_sisters_48 : decode cX9_sisters 48 = .ok (.bipush 7, 2) := by decide +kernel
theorem dX9_sisters_50 : decode cX9_sisters 50 = .ok (.iload_n 1, 1) := by decide +kernel
theorem dX9_sisters_51 : decode cX9_sisters 51 = .ok (.imul, 1) := by decide +kernel
theorem dX9_sisters_52 : decode cX9_sisters 52 = .ok (.iconst 4, 1) := by decide +kernel
theorem dX9_sisters_53 : decode cX9_sisters 53 = .ok (.iadd, 1) := by decide +kernel
theorem dX9_sisters_54 : decode cX9_sisters 54 = .ok (.iload_n 2, 1) := by decide +kernel
theorem dX9_sisters_55 : decode cX9_sisters 55 = .ok (.iastore, 1) := by decide +kernel
theorem dX9_sisters_56 : decode cX9_sisters 56 = .ok (.aload_n 0, 1) := by decide +kernel
theorem dX9_sisters_57 : decode cX9_sisters 57 = .ok (.getfield 19, 3) := by decide +kernel
theorem dX9_sisters_60 : decode cX9_sisters 60 = .ok (.bipush 7, 2) := by decide +kernel
theorem dX9_sisters_62 : decode cX9_sisters 62 = .ok (.iload_n 2, 1) := by decide +kernel
theorem dX9_sisters_63 : decode cX9_sisters 63 = .ok (.imul, 1) := by decide +kernel
theorem dX9_sisters_64 : decode cX9_sisters 64 = .ok (.iconst 4, 1) := by decide +kernel
theorem dX9_sisters_65 : decode cX9_sisters 65 = .ok (.iadd, 1) := by decide +kernel
theorem dX9_sisters_66 : decode cX9_sisters 66 = .ok (.iload_n 1, 1) := by decide +kernel
theorem dX9_sisters_67 : decode cX9_sisters 67 = .ok (.iastore, 1) := by decide +kernel
theorem dX9_sisters_68 : decode cX9_sisters 68 = .ok (.iconst 1, 1) := by decide +kernel
theorem dX9_sisters_69 : decode cX9_sisters 69 = .ok (.ireturn, 1) := by decide +kernel
theorem dX9_past_0 : decode cX9_past 0 = .ok (.aload_n 0, 1) := by decide +kernel
theorem dX9_past_1 : decode cX9_past 1 = .ok (.iconst 1, 1) := by decide +kernel
theorem dX9_past_2 : decode cX9_past 2 = .ok (.iload_n 1, 1) := by decide +kernel
theorem dX9_past_3 : decode cX9_past 3 = .ok (.invokevirtual 55, 3) := by decide +kernel
theorem dX9_past_6 : decode cX9_past 6 = .ok (.ifCond .eq 25, 3) := by decide +kernel
theorem dX9_past_9 : decode cX9_past 9 = .ok (.iload_n 2, 1) := by decide +kernel
theorem dX9_past_10 : decode cX9_past 10 = .ok (.iconst 0, 1) := by decide +kernel
theorem dX9_past_11 : decode cX9_past 11 = .ok (.sipush 2000, 3) := by decide +kernel
theorem dX9_past_14 : decode cX9_past 14 = .ok (.invokestatic 47, 3) := by decide +kernel
theorem dX9_past_17 : decode cX9_past 17 = .ok (.ifCond .eq 14, 3) := by decide +kernel
theorem dX9_past_20 : decode cX9_past 20 = .ok (.iload_n 3, 1) := by decide +kernel
theorem dX9_past_21 : decode cX9_past 21 = .ok (.iload_n 2, 1) := by decide +kernel
theorem dX9_past_22 : decode cX9_past 22 = .ok (.sipush 2000, 3) := by decide +kernel
theorem dX9_past_25 : decode cX9_past 25 = .ok (.invokestatic 47, 3) := by decide +kernel
theorem dX9_past_28 : decode cX9_past 28 = .ok (.ifCond .ne 5, 3) := by decide +kernel
theorem dX9_past_31 : decode cX9_past 31 = .ok (.iconst (-1), 1) := by decide +kernel
theorem dX9_past_32 : decode cX9_past 32 = .ok (.ireturn, 1) := by decide +kernel
theorem dX9_past_33 : decode cX9_past 33 = .ok (.aload_n 0, 1) := by decide +kernel
theorem dX9_past_34 : decode cX9_past 34 = .ok (.getfield 19, 3) := by decide +kernel
theorem dX9_past_37 : decode cX9_past 37 = .ok (.bipush 7, 2) := by decide +kernel
theorem dX9_past_39 : decode cX9_past 39 = .ok (.iload_n 1, 1) := by decide +kernel
theorem dX9_past_40 : decode cX9_past 40 = .ok (.imul, 1) := by decide +kernel
theorem dX9_past_41 : decode cX9_past 41 = .ok (.iconst 5, 1) := by decide +kernel
theorem dX9_past_42 : decode cX9_past 42 = .ok (.iadd, 1) := by decide +kernel
theorem dX9_past_43 : decode cX9_past 43 = .ok (.iload_n 2, 1) := by decide +kernel
theorem dX9_past_44 : decode cX9_past 44 = .ok (.iastore, 1) := by decide +kernel
theorem dX9_past_45 : decode cX9_past 45 = .ok (.aload_n 0, 1) := by decide +kernel
theorem dX9_past_46 : decode cX9_past 46 = .ok (.getfield 19, 3) := by decide +kernel
theorem dX9_past_49 : decode cX9_past 49 = .ok (.bipush 7, 2) := by decide +kernel
theorem dX9_past_51 : decode cX9_past 51 = .ok (.iload_n 1, 1) := by decide +kernel
theorem dX9_past_52 : decode cX9_past 52 = .ok (.imul, 1) := by decide +kernel
theorem dX9_past_53 : decode cX9_past 53 = .ok (.bipush 6, 2) := by decide +kernel
theorem dX9_past_55 : decode cX9_past 55 = .ok (.iadd, 1) := by decide +kernel
theorem dX9_past_56 : decode cX9_past 56 = .ok (.iload_n 3, 1) := by decide +kernel
theorem dX9_past_57 : decode cX9_past 57 = .ok (.iastore, 1) := by decide +kernel
theorem dX9_past_58 : decode cX9_past 58 = .ok (.iconst 1, 1) := by decide +kernel
theorem dX9_past_59 : decode cX9_past 59 = .ok (.ireturn, 1) := by decide +kernel
theorem dX9_isHere_0 : decode cX9_isHere 0 = .ok (.aload_n 0, 1) := by decide +kernel
theorem dX9_isHere_1 : decode cX9_isHere 1 = .ok (.getfield 22, 3) := by decide +kernel
theorem dX9_isHere_4 : decode cX9_isHere 4 = .ok (.iconst 5, 1) := by decide +kernel
theorem dX9_isHere_5 : decode cX9_isHere 5 = .ok (.iload_n 1, 1) := by decide +kernel
theorem dX9_isHere_6 : decode cX9_isHere 6 = .ok (.imul, 1) := by decide +kernel
theorem dX9_isHere_7 : decode cX9_isHere 7 = .ok (.iaload, 1) := by decide +kernel
theorem dX9_isHere_8 : decode cX9_isHere 8 = .ok (.iload_n 2, 1) := by decide +kernel
theorem dX9_isHere_9 : decode cX9_isHere 9 = .ok (.if_icmp .ne 20, 3) := by decide +kernel
theorem dX9_isHere_12 : decode cX9_isHere 12 = .ok (.aload_n 0, 1) := by decide +kernel
theorem dX9_isHere_13 : decode cX9_isHere 13 = .ok (.getfield 22, 3) := by decide +kernel
theorem dX9_isHere_16 : decode cX9_isHere 16 = .ok (.iconst 5, 1) := by decide +kernel
theorem dX9_isHere_17 : decode cX9_isHere 17 = .ok (.iload_n 1, 1) := by decide +kernel
theorem dX9_isHere_18 : decode cX9_isHere 18 = .ok (.imul, 1) := by decide +kernel
theorem dX9_isHere_19 : decode cX9_isHere 19 = .ok (.iconst 4, 1) := by decide +kernel
theorem dX9_isHere_20 : decode cX9_isHere 20 = .ok (.iadd, 1) := by decide +kernel
theorem dX9_isHere_21 : decode cX9_isHere 21 = .ok (.iaload, 1) := by decide +kernel
theorem dX9_isHere_22 : decode cX9_isHere 22 = .ok (.ifCond .ne 7, 3) := by decide +kernel
theorem dX9_isHere_25 : decode cX9_isHere 25 = .ok (.iconst 1, 1) := by decide +kernel
theorem dX9_isHere_26 : decode cX9_isHere 26 = .ok (.goto 4, 3) := by decide +kernel
theorem dX9_isHere_29 : decode cX9_isHere 29 = .ok (.iconst 0, 1) := by decide +kernel
theorem dX9_isHere_30 : decode cX9_isHere 30 = .ok (.ireturn, 1) := by decide +kernel
theorem dX9_spends_0 : decode cX9_spends 0 = .ok (.aload_n 0, 1) := by decide +kernel
theorem dX9_spends_1 : decode cX9_spends 1 = .ok (.getfield 22, 3) := by decide +kernel
theorem dX9_spends_4 : decode cX9_spends 4 = .ok (.iconst 5, 1) := by decide +kernel
theorem dX9_spends_5 : decode cX9_spends 5 = .ok (.iload_n 1, 1) := by decide +kernel
theorem dX9_spends_6 : decode cX9_spends 6 = .ok (.imul, 1) := by decide +kernel
theorem dX9_spends_7 : decode cX9_spends 7 = .ok (.iconst 1, 1) := by decide +kernel
theorem dX9_spends_8 : decode cX9_spends 8 = .ok (.iadd, 1) := by decide +kernel
theorem dX9_spends_9 : decode cX9_spends 9 = .ok (.iaload, 1) := by decide +kernel
theorem dX9_spends_10 : decode cX9_spends 10 = .ok (.istore_n 3, 1) := by decide +kernel
theorem dX9_spends_11 : decode cX9_spends 11 = .ok (.iload_n 3, 1) := by decide +kernel
theorem dX9_spends_12 : decode cX9_spends 12 = .ok (.ifCond .ge 16, 3) := by decide +kernel
theorem dX9_spends_15 : decode cX9_spends 15 = .ok (.aload_n 0, 1) := by decide +kernel
theorem dX9_spends_16 : decode cX9_spends 16 = .ok (.getfield 22, 3) := by decide +kernel
theorem dX9_spends_19 : decode cX9_spends 19 = .ok (.iconst 5, 1) := by decide +kernel
theorem dX9_spends_20 : decode cX9_spends 20 = .ok (.iload_n 1, 1) := by decide +kernel
theorem dX9_spends_21 : decode cX9_spends 21 = .ok (.imul, 1) := by decide +kernel
theorem dX9_spends_22 : decode cX9_spends 22 = .ok (.iconst 3, 1) := by decide +kernel
theorem dX9_spends_23 : decode cX9_spends 23 = .ok (.iadd, 1) := by decide +kernel
theorem dX9_spends_24 : decode cX9_spends 24 = .ok (.iaload, 1) := by decide +kernel
theorem dX9_spends_25 : decode cX9_spends 25 = .ok (.goto 19, 3) := by decide +kernel
theorem dX9_spends_28 : decode cX9_spends 28 = .ok (.aload_n 0, 1) := by decide +kernel
theorem dX9_spends_29 : decode cX9_spends 29 = .ok (.iload_n 3, 1) := by decide +kernel
theorem dX9_spends_30 : decode cX9_spends 30 = .ok (.aload_n 0, 1) := by decide +kernel
theorem dX9_spends_31 : decode cX9_spends 31 = .ok (.getfield 22, 3) := by decide +kernel
theorem dX9_spends_34 : decode cX9_spends 34 = .ok (.iconst 5, 1) := by decide +kernel
theorem dX9_spends_35 : decode cX9_spends 35 = .ok (.iload_n 1, 1) := by decide +kernel
theorem dX9_spends_36 : decode cX9_spends 36 = .ok (.imul, 1) := by decide +kernel
theorem dX9_spends_37 : decode cX9_spends 37 = .ok (.iconst 2, 1) := by decide +kernel
theorem dX9_spends_38 : decode cX9_spends 38 = .ok (.iadd, 1) := by decide +kernel
theorem dX9_spends_39 : decode cX9_spends 39 = .ok (.iaload, 1) := by decide +kernel
theorem dX9_spends_40 : decode cX9_spends 40 = .ok (.iload_n 2, 1) := by decide +kernel
theorem dX9_spends_41 : decode cX9_spends 41 = .ok (.invokevirtual 63, 3) := by decide +kernel
theorem dX9_spends_44 : decode cX9_spends 44 = .ok (.ireturn, 1) := by decide +kernel
theorem dX9_booked_0 : decode cX9_booked 0 = .ok (.iconst 0, 1) := by decide +kernel
theorem dX9_booked_1 : decode cX9_booked 1 = .ok (.istore 4, 2) := by decide +kernel
theorem dX9_booked_3 : decode cX9_booked 3 = .ok (.iconst 0, 1) := by decide +kernel
theorem dX9_booked_4 : decode cX9_booked 4 = .ok (.istore 5, 2) := by decide +kernel
theorem dX9_booked_6 : decode cX9_booked 6 = .ok (.iload 5, 2) := by decide +kernel
theorem dX9_booked_8 : decode cX9_booked 8 = .ok (.aload_n 0, 1) := by decide +kernel
theorem dX9_booked_9 : decode cX9_booked 9 = .ok (.getfield 7, 3) := by decide +kernel
theorem dX9_booked_12 : decode cX9_booked 12 = .ok (.iconst 2, 1) := by decide +kernel
theorem dX9_booked_13 : decode cX9_booked 13 = .ok (.iaload, 1) := by decide +kernel
theorem dX9_booked_14 : decode cX9_booked 14 = .ok (.if_icmp .ge 50, 3) := by decide +kernel
theorem dX9_booked_17 : decode cX9_booked 17 = .ok (.iload 4, 2) := by decide +kernel
theorem dX9_booked_19 : decode cX9_booked 19 = .ok (.aload_n 0, 1) := by decide +kernel
theorem dX9_booked_20 : decode cX9_booked 20 = .ok (.iload 5, 2) := by decide +kernel
theorem dX9_booked_22 : decode cX9_booked 22 = .ok (.iload_n 1, 1) := by decide +kernel
theorem dX9_booked_23 : decode cX9_booked 23 = .ok (.invokevirtual 70, 3) := by decide +kernel
theorem dX9_booked_26 : decode cX9_booked 26 = .ok (.ifCond .eq 28, 3) := by decide +kernel
theorem dX9_booked_29 : decode cX9_booked 29 = .ok (.aload_n 0, 1) := by decide +kernel
theorem dX9_booked_30 : decode cX9_booked 30 = .ok (.getfield 22, 3) := by decide +kernel
theorem dX9_booked_33 : decode cX9_booked 33 = .ok (.iconst 5, 1) := by decide +kernel
theorem dX9_booked_34 : decode cX9_booked 34 = .ok (.iload 5, 2) := by decide +kernel
theorem dX9_booked_36 : decode cX9_booked 36 = .ok (.imul, 1) := by decide +kernel
theorem dX9_booked_37 : decode cX9_booked 37 = .ok (.iconst 2, 1) := by decide +kernel
theorem dX9_booked_38 : decode cX9_booked 38 = .ok (.iadd, 1) := by decide +kernel
theorem dX9_booked_39 : decode cX9_booked 39 = .ok (.iaload, 1) := by decide +kernel
theorem dX9_booked_40 : decode cX9_booked 40 = .ok (.iload_n 2, 1) := by decide +kernel
theorem dX9_booked_41 : decode cX9_booked 41 = .ok (.if_icmp .gt 13, 3) := by decide +kernel
theorem dX9_booked_44 : decode cX9_booked 44 = .ok (.aload_n 0, 1) := by decide +kernel
theorem dX9_booked_45 : decode cX9_booked 45 = .ok (.iload 5, 2) := by decide +kernel
theorem dX9_booked_47 : decode cX9_booked 47 = .ok (.iload_n 3, 1) := by decide +kernel
theorem dX9_booked_48 : decode cX9_booked 48 = .ok (.invokevirtual 73, 3) := by decide +kernel
theorem dX9_booked_51 : decode cX9_booked 51 = .ok (.goto 4, 3) := by decide +kernel
theorem dX9_booked_54 : decode cX9_booked 54 = .ok (.iconst 0, 1) := by decide +kernel
theorem dX9_booked_55 : decode cX9_booked 55 = .ok (.iadd, 1) := by decide +kernel
theorem dX9_booked_56 : decode cX9_booked 56 = .ok (.istore 4, 2) := by decide +kernel
theorem dX9_booked_58 : decode cX9_booked 58 = .ok (.iinc 5 1, 3) := by decide +kernel
theorem dX9_booked_61 : decode cX9_booked 61 = .ok (.goto (-55), 3) := by decide +kernel
theorem dX9_booked_64 : decode cX9_booked 64 = .ok (.iload 4, 2) := by decide +kernel
theorem dX9_booked_66 : decode cX9_booked 66 = .ok (.ireturn, 1) := by decide +kernel
theorem dX9_findPast_0 : decode cX9_findPast 0 = .ok (.aload_n 0, 1) := by decide +kernel
theorem dX9_findPast_1 : decode cX9_findPast 1 = .ok (.aload_n 0, 1) := by decide +kernel
theorem dX9_findPast_2 : decode cX9_findPast 2 = .ok (.getfield 19, 3) := by decide +kernel
theorem dX9_findPast_5 : decode cX9_findPast 5 = .ok (.bipush 7, 2) := by decide +kernel
theorem dX9_findPast_7 : decode cX9_findPast 7 = .ok (.iload_n 1, 1) := by decide +kernel
theorem dX9_findPast_8 : decode cX9_findPast 8 = .ok (.imul, 1) := by decide +kernel
theorem dX9_findPast_9 : decode cX9_findPast 9 = .ok (.iconst 5, 1) := by decide +kernel
theorem dX9_findPast_10 : decode cX9_findPast 10 = .ok (.iadd, 1) := by decide +kernel
theorem dX9_findPast_11 : decode cX9_findPast 11 = .ok (.iaload, 1) := by decide +kernel
theorem dX9_findPast_12 : decode cX9_findPast 12 = .ok (.putfield 77, 3) := by decide +kernel
theorem dX9_findPast_15 : decode cX9_findPast 15 = .ok (.aload_n 0, 1) := by decide +kernel
theorem dX9_findPast_16 : decode cX9_findPast 16 = .ok (.aload_n 0, 1) := by decide +kernel
theorem dX9_findPast_17 : decode cX9_findPast 17 = .ok (.getfield 19, 3) := by decide +kernel
theorem dX9_findPast_20 : decode cX9_findPast 20 = .ok (.bipush 7, 2) := by decide +kernel
theorem dX9_findPast_22 : decode cX9_findPast 22 = .ok (.iload_n 1, 1) := by decide +kernel
theorem dX9_findPast_23 : decode cX9_findPast 23 = .ok (.imul, 1) := by decide +kernel
theorem dX9_findPast_24 : decode cX9_findPast 24 = .ok (.bipush 6, 2) := by decide +kernel
theorem dX9_findPast_26 : decode cX9_findPast 26 = .ok (.iadd, 1) := by decide +kernel
theorem dX9_findPast_27 : decode cX9_findPast 27 = .ok (.iaload, 1) := by decide +kernel
theorem dX9_findPast_28 : decode cX9_findPast 28 = .ok (.putfield 81, 3) := by decide +kernel
theorem dX9_findPast_31 : decode cX9_findPast 31 = .ok (.iconst 0, 1) := by decide +kernel
theorem dX9_findPast_32 : decode cX9_findPast 32 = .ok (.istore_n 2, 1) := by decide +kernel
theorem dX9_findPast_33 : decode cX9_findPast 33 = .ok (.iload_n 2, 1) := by decide +kernel
theorem dX9_findPast_34 : decode cX9_findPast 34 = .ok (.aload_n 0, 1) := by decide +kernel
theorem dX9_findPast_35 : decode cX9_findPast 35 = .ok (.getfield 7, 3) := by decide +kernel
theorem dX9_findPast_38 : decode cX9_findPast 38 = .ok (.iconst 3, 1) := by decide +kernel
theorem dX9_findPast_39 : decode cX9_findPast 39 = .ok (.iaload, 1) := by decide +kernel
theorem dX9_findPast_40 : decode cX9_findPast 40 = .ok (.if_icmp .ge 126, 3) := by decide +kernel
theorem dX9_findPast_43 : decode cX9_findPast 43 = .ok (.aload_n 0, 1) := by decide +kernel
theorem dX9_findPast_44 : decode cX9_findPast 44 = .ok (.getfield 25, 3) := by decide +kernel
theorem dX9_findPast_47 : decode cX9_findPast 47 = .ok (.iconst 3, 1) := by decide +kernel
theorem dX9_findPast_48 : decode cX9_findPast 48 = .ok (.iload_n 2, 1) := by decide +kernel
theorem dX9_findPast_49 : decode cX9_findPast 49 = .ok (.imul, 1) := by decide +kernel
theorem dX9_findPast_50 : decode cX9_findPast 50 = .ok (.iaload, 1) := by decide +kernel
theorem dX9_findPast_51 : decode cX9_findPast 51 = .ok (.iload_n 1, 1) := by decide +kernel
theorem dX9_findPast_52 : decode cX9_findPast 52 = .ok (.if_icmp .ne 108, 3) := by decide +kernel
theorem dX9_findPast_55 : decode cX9_findPast 55 = .ok (.aload_n 0, 1) := by decide +kernel
theorem dX9_findPast_56 : decode cX9_findPast 56 = .ok (.getfield 25, 3) := by decide +kernel
theorem dX9_findPast_59 : decode cX9_findPast 59 = .ok (.iconst 3, 1) := by decide +kernel
theorem dX9_findPast_60 : decode cX9_findPast 60 = .ok (.iload_n 2, 1) := by decide +kernel
theorem dX9_findPast_61 : decode cX9_findPast 61 = .ok (.imul, 1) := by decide +kernel
theorem dX9_findPast_62 : decode cX9_findPast 62 = .ok (.iconst 1, 1) := by decide +kernel
theorem dX9_findPast_63 : decode cX9_findPast 63 = .ok (.iadd, 1) := by decide +kernel
theorem dX9_findPast_64 : decode cX9_findPast 64 = .ok (.iaload, 1) := by decide +kernel
theorem dX9_findPast_65 : decode cX9_findPast 65 = .ok (.istore_n 3, 1) := by decide +kernel
theorem dX9_findPast_66 : decode cX9_findPast 66 = .ok (.aload_n 0, 1) := by decide +kernel
theorem dX9_findPast_67 : decode cX9_findPast 67 = .ok (.getfield 25, 3) := by decide +kernel
theorem dX9_findPast_70 : decode cX9_findPast 70 = .ok (.iconst 3, 1) := by decide +kernel
theorem dX9_findPast_71 : decode cX9_findPast 71 = .ok (.iload_n 2, 1) := by decide +kernel
theorem dX9_findPast_72 : decode cX9_findPast 72 = .ok (.imul, 1) := by decide +kernel
theorem dX9_findPast_73 : decode cX9_findPast 73 = .ok (.iconst 2, 1) := by decide +kernel
theorem dX9_findPast_74 : decode cX9_findPast 74 = .ok (.iadd, 1) := by decide +kernel
theorem dX9_findPast_75 : decode cX9_findPast 75 = .ok (.iaload, 1) := by decide +kernel
theorem dX9_findPast_76 : decode cX9_findPast 76 = .ok (.istore 4, 2) := by decide +kernel
theorem dX9_findPast_78 : decode cX9_findPast 78 = .ok (.aload_n 0, 1) := by decide +kernel
theorem dX9_findPast_79 : decode cX9_findPast 79 = .ok (.getfield 32, 3) := by decide +kernel
theorem dX9_findPast_82 : decode cX9_findPast 82 = .ok (.iload 4, 2) := by decide +kernel
theorem dX9_findPast_84 : decode cX9_findPast 84 = .ok (.iaload, 1) := by decide +kernel
theorem dX9_findPast_85 : decode cX9_findPast 85 = .ok (.aload_n 0, 1) := by decide +kernel
theorem dX9_findPast_86 : decode cX9_findPast 86 = .ok (.iload_n 1, 1) := by decide +kernel
theorem dX9_findPast_87 : decode cX9_findPast 87 = .ok (.iload_n 3, 1) := by decide +kernel
theorem dX9_findPast_88 : decode cX9_findPast 88 = .ok (.iconst 1, 1) := by decide +kernel
theorem dX9_findPast_89 : decode cX9_findPast 89 = .ok (.invokevirtual 84, 3) := by decide +kernel
theorem dX9_findPast_92 : decode cX9_findPast 92 = .ok (.isub, 1) := by decide +kernel
theorem dX9_findPast_93 : decode cX9_findPast 93 = .ok (.istore 5, 2) := by decide +kernel
theorem dX9_findPast_95 : decode cX9_findPast 95 = .ok (.aload_n 0, 1) := by decide +kernel
theorem dX9_findPast_96 : decode cX9_findPast 96 = .ok (.getfield 32, 3) := by decide +kernel
theorem dX9_findPast_99 : decode cX9_findPast 99 = .ok (.iload 4, 2) := by decide +kernel
theorem dX9_findPast_101 : decode cX9_findPast 101 = .ok (.iconst 1, 1) := by decide +kernel
theorem dX9_findPast_102 : decode cX9_findPast 102 = .ok (.iadd, 1) := by decide +kernel
theorem dX9_findPast_103 : decode cX9_findPast 103 = .ok (.iaload, 1) := by decide +kernel
theorem dX9_findPast_104 : decode cX9_findPast 104 = .ok (.iconst 1, 1) := by decide +kernel
theorem dX9_findPast_105 : decode cX9_findPast 105 = .ok (.isub, 1) := by decide +kernel
theorem dX9_findPast_106 : decode cX9_findPast 106 = .ok (.aload_n 0, 1) := by decide +kernel
theorem dX9_findPast_107 : decode cX9_findPast 107 = .ok (.iload_n 1, 1) := by decide +kernel
theorem dX9_findPast_108 : decode cX9_findPast 108 = .ok (.iload_n 3, 1) := by decide +kernel
theorem dX9_findPast_109 : decode cX9_findPast 109 = .ok (.iconst 0, 1) := by decide +kernel
theorem dX9_findPast_110 : decode cX9_findPast 110 = .ok (.invokevirtual 84, 3) := by decide +kernel
theorem dX9_findPast_113 : decode cX9_findPast 113 = .ok (.isub, 1) := by decide +kernel
theorem dX9_findPast_114 : decode cX9_findPast 114 = .ok (.istore 6, 2) := by decide +kernel
theorem dX9_findPast_116 : decode cX9_findPast 116 = .ok (.aload_n 0, 1) := by decide +kernel
theorem dX9_findPast_117 : decode cX9_findPast 117 = .ok (.iload 5, 2) := by decide +kernel
theorem dX9_findPast_119 : decode cX9_findPast 119 = .ok (.aload_n 0, 1) := by decide +kernel
theorem dX9_findPast_120 : decode cX9_findPast 120 = .ok (.getfield 77, 3) := by decide +kernel
theorem dX9_findPast_123 : decode cX9_findPast 123 = .ok (.if_icmp .le 8, 3) := by decide +kernel
theorem dX9_findPast_126 : decode cX9_findPast 126 = .ok (.iload 5, 2) := by decide +kernel
theorem dX9_findPast_128 : decode cX9_findPast 128 = .ok (.goto 7, 3) := by decide +kernel
theorem dX9_findPast_131 : decode cX9_findPast 131 = .ok (.aload_n 0, 1) := by decide +kernel
theorem dX9_findPast_132 : decode cX9_findPast 132 = .ok (.getfield 77, 3) := by decide +kernel
theorem dX9_findPast_135 : decode cX9_findPast 135 = .ok (.putfield 77, 3) := by decide +kernel
theorem dX9_findPast_138 : decode cX9_findPast 138 = .ok (.aload_n 0, 1) := by decide +kernel
theorem dX9_findPast_139 : decode cX9_findPast 139 = .ok (.iload 6, 2) := by decide +kernel
theorem dX9_findPast_141 : decode cX9_findPast 141 = .ok (.aload_n 0, 1) := by decide +kernel
theorem dX9_findPast_142 : decode cX9_findPast 142 = .ok (.getfield 81, 3) := by decide +kernel
theorem dX9_findPast_145 : decode cX9_findPast 145 = .ok (.if_icmp .ge 8, 3) := by decide +kernel
theorem dX9_findPast_148 : decode cX9_findPast 148 = .ok (.iload 6, 2) := by decide +kernel
theorem dX9_findPast_150 : decode cX9_findPast 150 = .ok (.goto 7, 3) := by decide +kernel
theorem dX9_findPast_153 : decode cX9_findPast 153 = .ok (.aload_n 0, 1) := by decide +kernel
theorem dX9_findPast_154 : decode cX9_findPast 154 = .ok (.getfield 81, 3) := by decide +kernel
theorem dX9_findPast_157 : decode cX9_findPast 157 = .ok (.putfield 81, 3) := by decide +kernel
theorem dX9_findPast_160 : decode cX9_findPast 160 = .ok (.iinc 2 1, 3) := by decide +kernel
theorem dX9_findPast_163 : decode cX9_findPast 163 = .ok (.goto (-130), 3) := by decide +kernel
theorem dX9_findPast_166 : decode cX9_findPast 166 = .ok (.aload_n 0, 1) := by decide +kernel
theorem dX9_findPast_167 : decode cX9_findPast 167 = .ok (.aload_n 0, 1) := by decide +kernel
theorem dX9_findPast_168 : decode cX9_findPast 168 = .ok (.getfield 77, 3) := by decide +kernel
theorem dX9_findPast_171 : decode cX9_findPast 171 = .ok (.aload_n 0, 1) := by decide +kernel
theorem dX9_findPast_172 : decode cX9_findPast 172 = .ok (.getfield 81, 3) := by decide +kernel
theorem dX9_findPast_175 : decode cX9_findPast 175 = .ok (.if_icmp .le 7, 3) := by decide +kernel
theorem dX9_findPast_178 : decode cX9_findPast 178 = .ok (.iconst 1, 1) := by decide +kernel
theorem dX9_findPast_179 : decode cX9_findPast 179 = .ok (.goto 4, 3) := by decide +kernel
theorem dX9_findPast_182 : decode cX9_findPast 182 = .ok (.iconst 0, 1) := by decide +kernel
theorem dX9_findPast_183 : decode cX9_findPast 183 = .ok (.putfield 87, 3) := by decide +kernel
theorem dX9_findPast_186 : decode cX9_findPast 186 = .ok (.aload_n 0, 1) := by decide +kernel
theorem dX9_findPast_187 : decode cX9_findPast 187 = .ok (.getfield 87, 3) := by decide +kernel
theorem dX9_findPast_190 : decode cX9_findPast 190 = .ok (.ifCond .eq 34, 3) := by decide +kernel
theorem dX9_findPast_193 : decode cX9_findPast 193 = .ok (.aload_n 0, 1) := by decide +kernel
theorem dX9_findPast_194 : decode cX9_findPast 194 = .ok (.aload_n 0, 1) := by decide +kernel
theorem dX9_findPast_195 : decode cX9_findPast 195 = .ok (.getfield 19, 3) := by decide +kernel
theorem dX9_findPast_198 : decode cX9_findPast 198 = .ok (.bipush 7, 2) := by decide +kernel
theorem dX9_findPast_200 : decode cX9_findPast 200 = .ok (.iload_n 1, 1) := by decide +kernel
theorem dX9_findPast_201 : decode cX9_findPast 201 = .ok (.imul, 1) := by decide +kernel
theorem dX9_findPast_202 : decode cX9_findPast 202 = .ok (.iconst 5, 1) := by decide +kernel
theorem dX9_findPast_203 : decode cX9_findPast 203 = .ok (.iadd, 1) := by decide +kernel
theorem dX9_findPast_204 : decode cX9_findPast 204 = .ok (.iaload, 1) := by decide +kernel
theorem dX9_findPast_205 : decode cX9_findPast 205 = .ok (.putfield 77, 3) := by decide +kernel
theorem dX9_findPast_208 : decode cX9_findPast 208 = .ok (.aload_n 0, 1) := by decide +kernel
theorem dX9_findPast_209 : decode cX9_findPast 209 = .ok (.aload_n 0, 1) := by decide +kernel
theorem dX9_findPast_210 : decode cX9_findPast 210 = .ok (.getfield 19, 3) := by decide +kernel
theorem dX9_findPast_213 : decode cX9_findPast 213 = .ok (.bipush 7, 2) := by decide +kernel
theorem dX9_findPast_215 : decode cX9_findPast 215 = .ok (.iload_n 1, 1) := by decide +kernel
theorem dX9_findPast_216 : decode cX9_findPast 216 = .ok (.imul, 1) := by decide +kernel
theorem dX9_findPast_217 : decode cX9_findPast 217 = .ok (.bipush 6, 2) := by decide +kernel
theorem dX9_findPast_219 : decode cX9_findPast 219 = .ok (.iadd, 1) := by decide +kernel
theorem dX9_findPast_220 : decode cX9_findPast 220 = .ok (.iaload, 1) := by decide +kernel
theorem dX9_findPast_221 : decode cX9_findPast 221 = .ok (.putfield 81, 3) := by decide +kernel
theorem dX9_findPast_224 : decode cX9_findPast 224 = .ok (.return_, 1) := by decide +kernel
theorem dX9_spentOf_0 : decode cX9_spentOf 0 = .ok (.aload_n 0, 1) := by decide +kernel
theorem dX9_spentOf_1 : decode cX9_spentOf 1 = .ok (.iload_n 1, 1) := by decide +kernel
theorem dX9_spentOf_2 : decode cX9_spentOf 2 = .ok (.invokevirtual 91, 3) := by decide +kernel
theorem dX9_spentOf_5 : decode cX9_spentOf 5 = .ok (.iload_n 3, 1) := by decide +kernel
theorem dX9_spentOf_6 : decode cX9_spentOf 6 = .ok (.ifCond .eq 10, 3) := by decide +kernel
theorem dX9_spentOf_9 : decode cX9_spentOf 9 = .ok (.aload_n 0, 1) := by decide +kernel
theorem dX9_spentOf_10 : decode cX9_spentOf 10 = .ok (.getfield 81, 3) := by decide +kernel
theorem dX9_spentOf_13 : decode cX9_spentOf 13 = .ok (.goto 7, 3) := by decide +kernel
theorem dX9_spentOf_16 : decode cX9_spentOf 16 = .ok (.aload_n 0, 1) := by decide +kernel
theorem dX9_spentOf_17 : decode cX9_spentOf 17 = .ok (.getfield 77, 3) := by decide +kernel
theorem dX9_spentOf_20 : decode cX9_spentOf 20 = .ok (.aload_n 0, 1) := by decide +kernel
theorem dX9_spentOf_21 : decode cX9_spentOf 21 = .ok (.iload_n 1, 1) := by decide +kernel
theorem dX9_spentOf_22 : decode cX9_spentOf 22 = .ok (.iload_n 2, 1) := by decide +kernel
theorem dX9_spentOf_23 : decode cX9_spentOf 23 = .ok (.iload_n 3, 1) := by decide +kernel
theorem dX9_spentOf_24 : decode cX9_spentOf 24 = .ok (.invokevirtual 84, 3) := by decide +kernel
theorem dX9_spentOf_27 : decode cX9_spentOf 27 = .ok (.iadd, 1) := by decide +kernel
theorem dX9_spentOf_28 : decode cX9_spentOf 28 = .ok (.ireturn, 1) := by decide +kernel
theorem dX9_leastLeft_0 : decode cX9_leastLeft 0 = .ok (.aload_n 0, 1) := by decide +kernel
theorem dX9_leastLeft_1 : decode cX9_leastLeft 1 = .ok (.getfield 19, 3) := by decide +kernel
theorem dX9_leastLeft_4 : decode cX9_leastLeft 4 = .ok (.bipush 7, 2) := by decide +kernel
theorem dX9_leastLeft_6 : decode cX9_leastLeft 6 = .ok (.iload_n 1, 1) := by decide +kernel
theorem dX9_leastLeft_7 : decode cX9_leastLeft 7 = .ok (.imul, 1) := by decide +kernel
theorem dX9_leastLeft_8 : decode cX9_leastLeft 8 = .ok (.iaload, 1) := by decide +kernel
theorem dX9_leastLeft_9 : decode cX9_leastLeft 9 = .ok (.aload_n 0, 1) := by decide +kernel
theorem dX9_leastLeft_10 : decode cX9_leastLeft 10 = .ok (.iload_n 1, 1) := by decide +kernel
theorem dX9_leastLeft_11 : decode cX9_leastLeft 11 = .ok (.bipush 9, 2) := by decide +kernel
theorem dX9_leastLeft_13 : decode cX9_leastLeft 13 = .ok (.iconst 1, 1) := by decide +kernel
theorem dX9_leastLeft_14 : decode cX9_leastLeft 14 = .ok (.invokevirtual 95, 3) := by decide +kernel
theorem dX9_leastLeft_17 : decode cX9_leastLeft 17 = .ok (.isub, 1) := by decide +kernel
theorem dX9_leastLeft_18 : decode cX9_leastLeft 18 = .ok (.ireturn, 1) := by decide +kernel
theorem dX9_bookedMany_0 : decode cX9_bookedMany 0 = .ok (.iconst 0, 1) := by decide +kernel
theorem dX9_bookedMany_1 : decode cX9_bookedMany 1 = .ok (.istore_n 2, 1) := by decide +kernel
theorem dX9_bookedMany_2 : decode cX9_bookedMany 2 = .ok (.iconst 0, 1) := by decide +kernel
theorem dX9_bookedMany_3 : decode cX9_bookedMany 3 = .ok (.istore_n 3, 1) := by decide +kernel
theorem dX9_bookedMany_4 : decode cX9_bookedMany 4 = .ok (.iload_n 3, 1) := by decide +kernel
theorem dX9_bookedMany_5 : decode cX9_bookedMany 5 = .ok (.aload_n 0, 1) := by decide +kernel
theorem dX9_bookedMany_6 : decode cX9_bookedMany 6 = .ok (.getfield 7, 3) := by decide +kernel
theorem dX9_bookedMany_9 : decode cX9_bookedMany 9 = .ok (.iconst 2, 1) := by decide +kernel
theorem dX9_bookedMany_10 : decode cX9_bookedMany 10 = .ok (.iaload, 1) := by decide +kernel
theorem dX9_bookedMany_11 : decode cX9_bookedMany 11 = .ok (.if_icmp .ge 26, 3) := by decide +kernel
theorem dX9_bookedMany_14 : decode cX9_bookedMany 14 = .ok (.iload_n 2, 1) := by decide +kernel
theorem dX9_bookedMany_15 : decode cX9_bookedMany 15 = .ok (.aload_n 0, 1) := by decide +kernel
theorem dX9_bookedMany_16 : decode cX9_bookedMany 16 = .ok (.iload_n 3, 1) := by decide +kernel
theorem dX9_bookedMany_17 : decode cX9_bookedMany 17 = .ok (.iload_n 1, 1) := by decide +kernel
theorem dX9_bookedMany_18 : decode cX9_bookedMany 18 = .ok (.invokevirtual 70, 3) := by decide +kernel
theorem dX9_bookedMany_21 : decode cX9_bookedMany 21 = .ok (.ifCond .eq 7, 3) := by decide +kernel
theorem dX9_bookedMany_24 : decode cX9_bookedMany 24 = .ok (.iconst 1, 1) := by decide +kernel
theorem dX9_bookedMany_25 : decode cX9_bookedMany 25 = .ok (.goto 4, 3) := by decide +kernel
theorem dX9_bookedMany_28 : decode cX9_bookedMany 28 = .ok (.iconst 0, 1) := by decide +kernel
theorem dX9_bookedMany_29 : decode cX9_bookedMany 29 = .ok (.iadd, 1) := by decide +kernel
theorem dX9_bookedMany_30 : decode cX9_bookedMany 30 = .ok (.istore_n 2, 1) := by decide +kernel
theorem dX9_bookedMany_31 : decode cX9_bookedMany 31 = .ok (.iinc 3 1, 3) := by decide +kernel
theorem dX9_bookedMany_34 : decode cX9_bookedMany 34 = .ok (.goto (-30), 3) := by decide +kernel
theorem dX9_bookedMany_37 : decode cX9_bookedMany 37 = .ok (.iload_n 2, 1) := by decide +kernel
theorem dX9_bookedMany_38 : decode cX9_bookedMany 38 = .ok (.ireturn, 1) := by decide +kernel
theorem dX9_threadMany_0 : decode cX9_threadMany 0 = .ok (.iconst 0, 1) := by decide +kernel
theorem dX9_threadMany_1 : decode cX9_threadMany 1 = .ok (.istore_n 2, 1) := by decide +kernel
theorem dX9_threadMany_2 : decode cX9_threadMany 2 = .ok (.iconst 0, 1) := by decide +kernel
theorem dX9_threadMany_3 : decode cX9_threadMany 3 = .ok (.istore_n 3, 1) := by decide +kernel
theorem dX9_threadMany_4 : decode cX9_threadMany 4 = .ok (.iload_n 3, 1) := by decide +kernel
theorem dX9_threadMany_5 : decode cX9_threadMany 5 = .ok (.aload_n 0, 1) := by decide +kernel
theorem dX9_threadMany_6 : decode cX9_threadMany 6 = .ok (.getfield 7, 3) := by decide +kernel
theorem dX9_threadMany_9 : decode cX9_threadMany 9 = .ok (.iconst 3, 1) := by decide +kernel
theorem dX9_threadMany_10 : decode cX9_threadMany 10 = .ok (.iaload, 1) := by decide +kernel
theorem dX9_threadMany_11 : decode cX9_threadMany 11 = .ok (.if_icmp .ge 29, 3) := by decide +kernel
theorem dX9_threadMany_14 : decode cX9_threadMany 14 = .ok (.iload_n 2, 1) := by decide +kernel
theorem dX9_threadMany_15 : decode cX9_threadMany 15 = .ok (.aload_n 0, 1) := by decide +kernel
theorem dX9_threadMany_16 : decode cX9_threadMany 16 = .ok (.getfield 25, 3) := by decide +kernel
theorem dX9_threadMany_19 : decode cX9_threadMany 19 = .ok (.iconst 3, 1) := by decide +kernel
theorem dX9_threadMany_20 : decode cX9_threadMany 20 = .ok (.iload_n 3, 1) := by decide +kernel
theorem dX9_threadMany_21 : decode cX9_threadMany 21 = .ok (.imul, 1) := by decide +kernel
theorem dX9_threadMany_22 : decode cX9_threadMany 22 = .ok (.iaload, 1) := by decide +kernel
theorem dX9_threadMany_23 : decode cX9_threadMany 23 = .ok (.iload_n 1, 1) := by decide +kernel
theorem dX9_threadMany_24 : decode cX9_threadMany 24 = .ok (.if_icmp .ne 7, 3) := by decide +kernel
theorem dX9_threadMany_27 : decode cX9_threadMany 27 = .ok (.iconst 1, 1) := by decide +kernel
theorem dX9_threadMany_28 : decode cX9_threadMany 28 = .ok (.goto 4, 3) := by decide +kernel
theorem dX9_threadMany_31 : decode cX9_threadMany 31 = .ok (.iconst 0, 1) := by decide +kernel
theorem dX9_threadMany_32 : decode cX9_threadMany 32 = .ok (.iadd, 1) := by decide +kernel
theorem dX9_threadMany_33 : decode cX9_threadMany 33 = .ok (.istore_n 2, 1) := by decide +kernel
theorem dX9_threadMany_34 : decode cX9_threadMany 34 = .ok (.iinc 3 1, 3) := by decide +kernel
theorem dX9_threadMany_37 : decode cX9_threadMany 37 = .ok (.goto (-33), 3) := by decide +kernel
theorem dX9_threadMany_40 : decode cX9_threadMany 40 = .ok (.iload_n 2, 1) := by decide +kernel
theorem dX9_threadMany_41 : decode cX9_threadMany 41 = .ok (.ireturn, 1) := by decide +kernel
theorem dX9_of_0 : decode cX9_of 0 = .ok (.aload_n 0, 1) := by decide +kernel
theorem dX9_of_1 : decode cX9_of 1 = .ok (.iconst 1, 1) := by decide +kernel
theorem dX9_of_2 : decode cX9_of 2 = .ok (.iload_n 1, 1) := by decide +kernel
theorem dX9_of_3 : decode cX9_of 3 = .ok (.invokevirtual 55, 3) := by decide +kernel
theorem dX9_of_6 : decode cX9_of 6 = .ok (.ifCond .eq 13, 3) := by decide +kernel
theorem dX9_of_9 : decode cX9_of 9 = .ok (.iload_n 2, 1) := by decide +kernel
theorem dX9_of_10 : decode cX9_of 10 = .ok (.iconst 0, 1) := by decide +kernel
theorem dX9_of_11 : decode cX9_of 11 = .ok (.bipush 7, 2) := by decide +kernel
theorem dX9_of_13 : decode cX9_of 13 = .ok (.invokestatic 47, 3) := by decide +kernel
theorem dX9_of_16 : decode cX9_of 16 = .ok (.ifCond .ne 5, 3) := by decide +kernel
theorem dX9_of_19 : decode cX9_of 19 = .ok (.iconst (-1), 1) := by decide +kernel
theorem dX9_of_20 : decode cX9_of 20 = .ok (.ireturn, 1) := by decide +kernel
theorem dX9_of_21 : decode cX9_of 21 = .ok (.iload_n 2, 1) := by decide +kernel
theorem dX9_of_22 : decode cX9_of 22 = .ok (.iconst 4, 1) := by decide +kernel
theorem dX9_of_23 : decode cX9_of 23 = .ok (.if_icmp .ge 15, 3) := by decide +kernel
theorem dX9_of_26 : decode cX9_of 26 = .ok (.aload_n 0, 1) := by decide +kernel
theorem dX9_of_27 : decode cX9_of 27 = .ok (.getfield 19, 3) := by decide +kernel
theorem dX9_of_30 : decode cX9_of 30 = .ok (.bipush 7, 2) := by decide +kernel
theorem dX9_of_32 : decode cX9_of 32 = .ok (.iload_n 1, 1) := by decide +kernel
theorem dX9_of_33 : decode cX9_of 33 = .ok (.imul, 1) := by decide +kernel
theorem dX9_of_34 : decode cX9_of 34 = .ok (.iload_n 2, 1) := by decide +kernel
theorem dX9_of_35 : decode cX9_of 35 = .ok (.iadd, 1) := by decide +kernel
theorem dX9_of_36 : decode cX9_of 36 = .ok (.iaload, 1) := by decide +kernel
theorem dX9_of_37 : decode cX9_of 37 = .ok (.ireturn, 1) := by decide +kernel
theorem dX9_of_38 : decode cX9_of 38 = .ok (.iload_n 2, 1) := by decide +kernel
theorem dX9_of_39 : decode cX9_of 39 = .ok (.tableswitch 68 4 6 #[25, 44, 62], 25) := by decide +kernel
theorem dX9_of_64 : decode cX9_of 64 = .ok (.aload_n 0, 1) := by decide +kernel
theorem dX9_of_65 : decode cX9_of 65 = .ok (.iload_n 1, 1) := by decide +kernel
theorem dX9_of_66 : decode cX9_of 66 = .ok (.invokevirtual 67, 3) := by decide +kernel
theorem dX9_of_69 : decode cX9_of 69 = .ok (.ifCond .ge 8, 3) := by decide +kernel
theorem dX9_of_72 : decode cX9_of 72 = .ok (.bipush (-4), 2) := by decide +kernel
theorem dX9_of_74 : decode cX9_of 74 = .ok (.goto 8, 3) := by decide +kernel
theorem dX9_of_77 : decode cX9_of 77 = .ok (.aload_n 0, 1) := by decide +kernel
theorem dX9_of_78 : decode cX9_of 78 = .ok (.iload_n 1, 1) := by decide +kernel
theorem dX9_of_79 : decode cX9_of 79 = .ok (.invokevirtual 67, 3) := by decide +kernel
theorem dX9_of_82 : decode cX9_of 82 = .ok (.ireturn, 1) := by decide +kernel
theorem dX9_of_83 : decode cX9_of 83 = .ok (.aload_n 0, 1) := by decide +kernel
theorem dX9_of_84 : decode cX9_of 84 = .ok (.iload_n 1, 1) := by decide +kernel
theorem dX9_of_85 : decode cX9_of 85 = .ok (.invokevirtual 91, 3) := by decide +kernel
theorem dX9_of_88 : decode cX9_of 88 = .ok (.aload_n 0, 1) := by decide +kernel
theorem dX9_of_89 : decode cX9_of 89 = .ok (.getfield 87, 3) := by decide +kernel
theorem dX9_of_92 : decode cX9_of 92 = .ok (.ifCond .eq 7, 3) := by decide +kernel
theorem dX9_of_95 : decode cX9_of 95 = .ok (.iconst 1, 1) := by decide +kernel
theorem dX9_of_96 : decode cX9_of 96 = .ok (.goto 4, 3) := by decide +kernel
theorem dX9_of_99 : decode cX9_of 99 = .ok (.iconst 0, 1) := by decide +kernel
theorem dX9_of_100 : decode cX9_of 100 = .ok (.ireturn, 1) := by decide +kernel
theorem dX9_of_101 : decode cX9_of 101 = .ok (.aload_n 0, 1) := by decide +kernel
theorem dX9_of_102 : decode cX9_of 102 = .ok (.iload_n 1, 1) := by decide +kernel
theorem dX9_of_103 : decode cX9_of 103 = .ok (.invokevirtual 98, 3) := by decide +kernel
theorem dX9_of_106 : decode cX9_of 106 = .ok (.ireturn, 1) := by decide +kernel
theorem dX9_of_107 : decode cX9_of 107 = .ok (.aload_n 0, 1) := by decide +kernel
theorem dX9_of_108 : decode cX9_of 108 = .ok (.iload_n 1, 1) := by decide +kernel
theorem dX9_of_109 : decode cX9_of 109 = .ok (.invokevirtual 101, 3) := by decide +kernel
theorem dX9_of_112 : decode cX9_of 112 = .ok (.ireturn, 1) := by decide +kernel
theorem dX9_books_0 : decode cX9_books 0 = .ok (.iconst 5, 1) := by decide +kernel
theorem dX9_books_1 : decode cX9_books 1 = .ok (.aload_n 0, 1) := by decide +kernel
theorem dX9_books_2 : decode cX9_books 2 = .ok (.getfield 7, 3) := by decide +kernel
theorem dX9_books_5 : decode cX9_books 5 = .ok (.iconst 2, 1) := by decide +kernel
theorem dX9_books_6 : decode cX9_books 6 = .ok (.iaload, 1) := by decide +kernel
theorem dX9_books_7 : decode cX9_books 7 = .ok (.imul, 1) := by decide +kernel
theorem dX9_books_8 : decode cX9_books 8 = .ok (.istore 5, 2) := by decide +kernel
theorem dX9_books_10 : decode cX9_books 10 = .ok (.aload_n 0, 1) := by decide +kernel
theorem dX9_books_11 : decode cX9_books 11 = .ok (.getfield 22, 3) := by decide +kernel
theorem dX9_books_14 : decode cX9_books 14 = .ok (.iload 5, 2) := by decide +kernel
theorem dX9_books_16 : decode cX9_books 16 = .ok (.iload_n 1, 1) := by decide +kernel
theorem dX9_books_17 : decode cX9_books 17 = .ok (.iastore, 1) := by decide +kernel
theorem dX9_books_18 : decode cX9_books 18 = .ok (.aload_n 0, 1) := by decide +kernel
theorem dX9_books_19 : decode cX9_books 19 = .ok (.getfield 22, 3) := by decide +kernel
theorem dX9_books_22 : decode cX9_books 22 = .ok (.iload 5, 2) := by decide +kernel
theorem dX9_books_24 : decode cX9_books 24 = .ok (.iconst 1, 1) := by decide +kernel
theorem dX9_books_25 : decode cX9_books 25 = .ok (.iadd, 1) := by decide +kernel
theorem dX9_books_26 : decode cX9_books 26 = .ok (.iload_n 2, 1) := by decide +kernel
theorem dX9_books_27 : decode cX9_books 27 = .ok (.iastore, 1) := by decide +kernel
theorem dX9_books_28 : decode cX9_books 28 = .ok (.aload_n 0, 1) := by decide +kernel
theorem dX9_books_29 : decode cX9_books 29 = .ok (.getfield 22, 3) := by decide +kernel
theorem dX9_books_32 : decode cX9_books 32 = .ok (.iload 5, 2) := by decide +kernel
theorem dX9_books_34 : decode cX9_books 34 = .ok (.iconst 2, 1) := by decide +kernel
theorem dX9_books_35 : decode cX9_books 35 = .ok (.iadd, 1) := by decide +kernel
theorem dX9_books_36 : decode cX9_books 36 = .ok (.iload_n 3, 1) := by decide +kernel
theorem dX9_books_37 : decode cX9_books 37 = .ok (.iastore, 1) := by decide +kernel
theorem dX9_books_38 : decode cX9_books 38 = .ok (.aload_n 0, 1) := by decide +kernel
theorem dX9_books_39 : decode cX9_books 39 = .ok (.getfield 22, 3) := by decide +kernel
theorem dX9_books_42 : decode cX9_books 42 = .ok (.iload 5, 2) := by decide +kernel
theorem dX9_books_44 : decode cX9_books 44 = .ok (.iconst 3, 1) := by decide +kernel
theorem dX9_books_45 : decode cX9_books 45 = .ok (.iadd, 1) := by decide +kernel
theorem dX9_books_46 : decode cX9_books 46 = .ok (.iload 4, 2) := by decide +kernel
theorem dX9_books_48 : decode cX9_books 48 = .ok (.iastore, 1) := by decide +kernel
theorem dX9_books_49 : decode cX9_books 49 = .ok (.aload_n 0, 1) := by decide +kernel
theorem dX9_books_50 : decode cX9_books 50 = .ok (.getfield 22, 3) := by decide +kernel
theorem dX9_books_53 : decode cX9_books 53 = .ok (.iload 5, 2) := by decide +kernel
theorem dX9_books_55 : decode cX9_books 55 = .ok (.iconst 4, 1) := by decide +kernel
theorem dX9_books_56 : decode cX9_books 56 = .ok (.iadd, 1) := by decide +kernel
theorem dX9_books_57 : decode cX9_books 57 = .ok (.iconst 0, 1) := by decide +kernel
theorem dX9_books_58 : decode cX9_books 58 = .ok (.iastore, 1) := by decide +kernel
theorem dX9_books_59 : decode cX9_books 59 = .ok (.aload_n 0, 1) := by decide +kernel
theorem dX9_books_60 : decode cX9_books 60 = .ok (.iconst 2, 1) := by decide +kernel
theorem dX9_books_61 : decode cX9_books 61 = .ok (.invokevirtual 51, 3) := by decide +kernel
theorem dX9_books_64 : decode cX9_books 64 = .ok (.ireturn, 1) := by decide +kernel
theorem dX9_isShown_0 : decode cX9_isShown 0 = .ok (.iconst 0, 1) := by decide +kernel
theorem dX9_isShown_1 : decode cX9_isShown 1 = .ok (.istore_n 3, 1) := by decide +kernel
theorem dX9_isShown_2 : decode cX9_isShown 2 = .ok (.iconst 0, 1) := by decide +kernel
theorem dX9_isShown_3 : decode cX9_isShown 3 = .ok (.istore 4, 2) := by decide +kernel
theorem dX9_isShown_5 : decode cX9_isShown 5 = .ok (.iload 4, 2) := by decide +kernel
theorem dX9_isShown_7 : decode cX9_isShown 7 = .ok (.aload_n 0, 1) := by decide +kernel
theorem dX9_isShown_8 : decode cX9_isShown 8 = .ok (.getfield 7, 3) := by decide +kernel
theorem dX9_isShown_11 : decode cX9_isShown 11 = .ok (.iconst 2, 1) := by decide +kernel
theorem dX9_isShown_12 : decode cX9_isShown 12 = .ok (.iaload, 1) := by decide +kernel
theorem dX9_isShown_13 : decode cX9_isShown 13 = .ok (.if_icmp .ge 58, 3) := by decide +kernel
theorem dX9_isShown_16 : decode cX9_isShown 16 = .ok (.iload_n 3, 1) := by decide +kernel
theorem dX9_isShown_17 : decode cX9_isShown 17 = .ok (.ifCond .ne 42, 3) := by decide +kernel
theorem dX9_isShown_20 : decode cX9_isShown 20 = .ok (.aload_n 0, 1) := by decide +kernel
theorem dX9_isShown_21 : decode cX9_isShown 21 = .ok (.iload 4, 2) := by decide +kernel
theorem dX9_isShown_23 : decode cX9_isShown 23 = .ok (.iload_n 1, 1) := by decide +kernel
theorem dX9_isShown_24 : decode cX9_isShown 24 = .ok (.invokevirtual 70, 3) := by decide +kernel
theorem dX9_isShown_27 : decode cX9_isShown 27 = .ok (.ifCond .eq 36, 3) := by decide +kernel
theorem dX9_isShown_30 : decode cX9_isShown 30 = .ok (.aload_n 0, 1) := by decide +kernel
theorem dX9_isShown_31 : decode cX9_isShown 31 = .ok (.getfield 22, 3) := by decide +kernel
theorem dX9_isShown_34 : decode cX9_isShown 34 = .ok (.iconst 5, 1) := by decide +kernel
theorem dX9_isShown_35 : decode cX9_isShown 35 = .ok (.iload 4, 2) := by decide +kernel
theorem dX9_isShown_37 : decode cX9_isShown 37 = .ok (.imul, 1) := by decide +kernel
theorem dX9_isShown_38 : decode cX9_isShown 38 = .ok (.iconst 1, 1) := by decide +kernel
theorem dX9_isShown_39 : decode cX9_isShown 39 = .ok (.iadd, 1) := by decide +kernel
theorem dX9_isShown_40 : decode cX9_isShown 40 = .ok (.iaload, 1) := by decide +kernel
theorem dX9_isShown_41 : decode cX9_isShown 41 = .ok (.ifCond .lt 22, 3) := by decide +kernel
theorem dX9_isShown_44 : decode cX9_isShown 44 = .ok (.aload_n 0, 1) := by decide +kernel
theorem dX9_isShown_45 : decode cX9_isShown 45 = .ok (.getfield 22, 3) := by decide +kernel
theorem dX9_isShown_48 : decode cX9_isShown 48 = .ok (.iconst 5, 1) := by decide +kernel
theorem dX9_isShown_49 : decode cX9_isShown 49 = .ok (.iload 4, 2) := by decide +kernel
theorem dX9_isShown_51 : decode cX9_isShown 51 = .ok (.imul, 1) := by decide +kernel
theorem dX9_isShown_52 : decode cX9_isShown 52 = .ok (.iconst 2, 1) := by decide +kernel
theorem dX9_isShown_53 : decode cX9_isShown 53 = .ok (.iadd, 1) := by decide +kernel
theorem dX9_isShown_54 : decode cX9_isShown 54 = .ok (.iaload, 1) := by decide +kernel
theorem dX9_isShown_55 : decode cX9_isShown 55 = .ok (.iload_n 2, 1) := by decide +kernel
theorem dX9_isShown_56 : decode cX9_isShown 56 = .ok (.if_icmp .ne 7, 3) := by decide +kernel
theorem dX9_isShown_59 : decode cX9_isShown 59 = .ok (.iconst 1, 1) := by decide +kernel
theorem dX9_isShown_60 : decode cX9_isShown 60 = .ok (.goto 4, 3) := by decide +kernel
theorem dX9_isShown_63 : decode cX9_isShown 63 = .ok (.iconst 0, 1) := by decide +kernel
theorem dX9_isShown_64 : decode cX9_isShown 64 = .ok (.istore_n 3, 1) := by decide +kernel
theorem dX9_isShown_65 : decode cX9_isShown 65 = .ok (.iinc 4 1, 3) := by decide +kernel
theorem dX9_isShown_68 : decode cX9_isShown 68 = .ok (.goto (-63), 3) := by decide +kernel
theorem dX9_isShown_71 : decode cX9_isShown 71 = .ok (.iload_n 3, 1) := by decide +kernel
theorem dX9_isShown_72 : decode cX9_isShown 72 = .ok (.ireturn, 1) := by decide +kernel
theorem dX9_show_0 : decode cX9_show 0 = .ok (.aload_n 0, 1) := by decide +kernel
theorem dX9_show_1 : decode cX9_show 1 = .ok (.iconst 1, 1) := by decide +kernel
theorem dX9_show_2 : decode cX9_show 2 = .ok (.iload_n 1, 1) := by decide +kernel
theorem dX9_show_3 : decode cX9_show 3 = .ok (.invokevirtual 55, 3) := by decide +kernel
theorem dX9_show_6 : decode cX9_show 6 = .ok (.ifCond .eq 19, 3) := by decide +kernel
theorem dX9_show_9 : decode cX9_show 9 = .ok (.aload_n 0, 1) := by decide +kernel
theorem dX9_show_10 : decode cX9_show 10 = .ok (.iconst 0, 1) := by decide +kernel
theorem dX9_show_11 : decode cX9_show 11 = .ok (.iload_n 2, 1) := by decide +kernel
theorem dX9_show_12 : decode cX9_show 12 = .ok (.invokevirtual 55, 3) := by decide +kernel
theorem dX9_show_15 : decode cX9_show 15 = .ok (.ifCond .eq 10, 3) := by decide +kernel
theorem dX9_show_18 : decode cX9_show 18 = .ok (.iload_n 3, 1) := by decide +kernel
theorem dX9_show_19 : decode cX9_show 19 = .ok (.invokestatic 59, 3) := by decide +kernel
theorem dX9_show_22 : decode cX9_show 22 = .ok (.ifCond .ne 5, 3) := by decide +kernel
theorem dX9_show_25 : decode cX9_show 25 = .ok (.iconst (-1), 1) := by decide +kernel
theorem dX9_show_26 : decode cX9_show 26 = .ok (.ireturn, 1) := by decide +kernel
theorem dX9_show_27 : decode cX9_show 27 = .ok (.aload_n 0, 1) := by decide +kernel
theorem dX9_show_28 : decode cX9_show 28 = .ok (.iload_n 1, 1) := by decide +kernel
theorem dX9_show_29 : decode cX9_show 29 = .ok (.iload_n 3, 1) := by decide +kernel
theorem dX9_show_30 : decode cX9_show 30 = .ok (.invokevirtual 104, 3) := by decide +kernel
theorem dX9_show_33 : decode cX9_show 33 = .ok (.ifCond .eq 6, 3) := by decide +kernel
theorem dX9_show_36 : decode cX9_show 36 = .ok (.bipush (-3), 2) := by decide +kernel
theorem dX9_show_38 : decode cX9_show 38 = .ok (.ireturn, 1) := by decide +kernel
theorem dX9_show_39 : decode cX9_show 39 = .ok (.aload_n 0, 1) := by decide +kernel
theorem dX9_show_40 : decode cX9_show 40 = .ok (.getfield 7, 3) := by decide +kernel
theorem dX9_show_43 : decode cX9_show 43 = .ok (.iconst 2, 1) := by decide +kernel
theorem dX9_show_44 : decode cX9_show 44 = .ok (.iaload, 1) := by decide +kernel
theorem dX9_show_45 : decode cX9_show 45 = .ok (.bipush 30, 2) := by decide +kernel
theorem dX9_show_47 : decode cX9_show 47 = .ok (.if_icmp .ne 8, 3) := by decide +kernel
theorem dX9_show_50 : decode cX9_show 50 = .ok (.bipush (-2), 2) := by decide +kernel
theorem dX9_show_52 : decode cX9_show 52 = .ok (.goto 11, 3) := by decide +kernel
theorem dX9_show_55 : decode cX9_show 55 = .ok (.aload_n 0, 1) := by decide +kernel
theorem dX9_show_56 : decode cX9_show 56 = .ok (.iload_n 1, 1) := by decide +kernel
theorem dX9_show_57 : decode cX9_show 57 = .ok (.iload_n 2, 1) := by decide +kernel
theorem dX9_show_58 : decode cX9_show 58 = .ok (.iload_n 3, 1) := by decide +kernel
theorem dX9_show_59 : decode cX9_show 59 = .ok (.iconst 0, 1) := by decide +kernel
theorem dX9_show_60 : decode cX9_show 60 = .ok (.invokevirtual 107, 3) := by decide +kernel
theorem dX9_show_63 : decode cX9_show 63 = .ok (.ireturn, 1) := by decide +kernel
theorem dX9_lend_0 : decode cX9_lend 0 = .ok (.aload_n 0, 1) := by decide +kernel
theorem dX9_lend_1 : decode cX9_lend 1 = .ok (.iconst 1, 1) := by decide +kernel
theorem dX9_lend_2 : decode cX9_lend 2 = .ok (.iload_n 1, 1) := by decide +kernel
theorem dX9_lend_3 : decode cX9_lend 3 = .ok (.invokevirtual 55, 3) := by decide +kernel
theorem dX9_lend_6 : decode cX9_lend 6 = .ok (.ifCond .eq 21, 3) := by decide +kernel
theorem dX9_lend_9 : decode cX9_lend 9 = .ok (.iload_n 2, 1) := by decide +kernel
theorem dX9_lend_10 : decode cX9_lend 10 = .ok (.invokestatic 59, 3) := by decide +kernel
theorem dX9_lend_13 : decode cX9_lend 13 = .ok (.ifCond .eq 14, 3) := by decide +kernel
theorem dX9_lend_16 : decode cX9_lend 16 = .ok (.iload_n 3, 1) := by decide +kernel
theorem dX9_lend_17 : decode cX9_lend 17 = .ok (.iconst 1, 1) := by decide +kernel
theorem dX9_lend_18 : decode cX9_lend 18 = .ok (.sipush 500, 3) := by decide +kernel
theorem dX9_lend_21 : decode cX9_lend 21 = .ok (.invokestatic 47, 3) := by decide +kernel
theorem dX9_lend_24 : decode cX9_lend 24 = .ok (.ifCond .ne 5, 3) := by decide +kernel
theorem dX9_lend_27 : decode cX9_lend 27 = .ok (.iconst (-1), 1) := by decide +kernel
theorem dX9_lend_28 : decode cX9_lend 28 = .ok (.ireturn, 1) := by decide +kernel
theorem dX9_lend_29 : decode cX9_lend 29 = .ok (.aload_n 0, 1) := by decide +kernel
theorem dX9_lend_30 : decode cX9_lend 30 = .ok (.iload_n 1, 1) := by decide +kernel
theorem dX9_lend_31 : decode cX9_lend 31 = .ok (.invokevirtual 111, 3) := by decide +kernel
theorem dX9_lend_34 : decode cX9_lend 34 = .ok (.iload_n 3, 1) := by decide +kernel
theorem dX9_lend_35 : decode cX9_lend 35 = .ok (.if_icmp .ge 6, 3) := by decide +kernel
theorem dX9_lend_38 : decode cX9_lend 38 = .ok (.bipush (-4), 2) := by decide +kernel
theorem dX9_lend_40 : decode cX9_lend 40 = .ok (.ireturn, 1) := by decide +kernel
theorem dX9_lend_41 : decode cX9_lend 41 = .ok (.aload_n 0, 1) := by decide +kernel
theorem dX9_lend_42 : decode cX9_lend 42 = .ok (.getfield 7, 3) := by decide +kernel
theorem dX9_lend_45 : decode cX9_lend 45 = .ok (.iconst 2, 1) := by decide +kernel
theorem dX9_lend_46 : decode cX9_lend 46 = .ok (.iaload, 1) := by decide +kernel
theorem dX9_lend_47 : decode cX9_lend 47 = .ok (.bipush 30, 2) := by decide +kernel
theorem dX9_lend_49 : decode cX9_lend 49 = .ok (.if_icmp .ne 8, 3) := by decide +kernel
theorem dX9_lend_52 : decode cX9_lend 52 = .ok (.bipush (-2), 2) := by decide +kernel
theorem dX9_lend_54 : decode cX9_lend 54 = .ok (.goto 11, 3) := by decide +kernel
theorem dX9_lend_57 : decode cX9_lend 57 = .ok (.aload_n 0, 1) := by decide +kernel
theorem dX9_lend_58 : decode cX9_lend 58 = .ok (.iload_n 1, 1) := by decide +kernel
theorem dX9_lend_59 : decode cX9_lend 59 = .ok (.iconst (-1), 1) := by decide +kernel
theorem dX9_lend_60 : decode cX9_lend 60 = .ok (.iload_n 2, 1) := by decide +kernel
theorem dX9_lend_61 : decode cX9_lend 61 = .ok (.iload_n 3, 1) := by decide +kernel
theorem dX9_lend_62 : decode cX9_lend 62 = .ok (.invokevirtual 107, 3) := by decide +kernel
theorem dX9_lend_65 : decode cX9_lend 65 = .ok (.ireturn, 1) := by decide +kernel
theorem dX9_lacks_0 : decode cX9_lacks 0 = .ok (.aload_n 0, 1) := by decide +kernel
theorem dX9_lacks_1 : decode cX9_lacks 1 = .ok (.iconst 1, 1) := by decide +kernel
theorem dX9_lacks_2 : decode cX9_lacks 2 = .ok (.iload_n 1, 1) := by decide +kernel
theorem dX9_lacks_3 : decode cX9_lacks 3 = .ok (.invokevirtual 55, 3) := by decide +kernel
theorem dX9_lacks_6 : decode cX9_lacks 6 = .ok (.ifCond .eq 14, 3) := by decide +kernel
theorem dX9_lacks_9 : decode cX9_lacks 9 = .ok (.iload_n 2, 1) := by decide +kernel
theorem dX9_lacks_10 : decode cX9_lacks 10 = .ok (.iconst 1, 1) := by decide +kernel
theorem dX9_lacks_11 : decode cX9_lacks 11 = .ok (.sipush 500, 3) := by decide +kernel
theorem dX9_lacks_14 : decode cX9_lacks 14 = .ok (.invokestatic 47, 3) := by decide +kernel
theorem dX9_lacks_17 : decode cX9_lacks 17 = .ok (.ifCond .ne 5, 3) := by decide +kernel
theorem dX9_lacks_20 : decode cX9_lacks 20 = .ok (.iconst (-1), 1) := by decide +kernel
theorem dX9_lacks_21 : decode cX9_lacks 21 = .ok (.ireturn, 1) := by decide +kernel
theorem dX9_lacks_22 : decode cX9_lacks 22 = .ok (.iload_n 2, 1) := by decide +kernel
theorem dX9_lacks_23 : decode cX9_lacks 23 = .ok (.aload_n 0, 1) := by decide +kernel
theorem dX9_lacks_24 : decode cX9_lacks 24 = .ok (.iload_n 1, 1) := by decide +kernel
theorem dX9_lacks_25 : decode cX9_lacks 25 = .ok (.invokevirtual 111, 3) := by decide +kernel
theorem dX9_lacks_28 : decode cX9_lacks 28 = .ok (.isub, 1) := by decide +kernel
theorem dX9_lacks_29 : decode cX9_lacks 29 = .ok (.istore_n 3, 1) := by decide +kernel
theorem dX9_lacks_30 : decode cX9_lacks 30 = .ok (.iload_n 3, 1) := by decide +kernel
theorem dX9_lacks_31 : decode cX9_lacks 31 = .ok (.ifCond .le 7, 3) := by decide +kernel
theorem dX9_lacks_34 : decode cX9_lacks 34 = .ok (.iload_n 3, 1) := by decide +kernel
theorem dX9_lacks_35 : decode cX9_lacks 35 = .ok (.goto 4, 3) := by decide +kernel
theorem dX9_lacks_38 : decode cX9_lacks 38 = .ok (.iconst 0, 1) := by decide +kernel
theorem dX9_lacks_39 : decode cX9_lacks 39 = .ok (.ireturn, 1) := by decide +kernel
theorem dX9_cancel_0 : decode cX9_cancel 0 = .ok (.aload_n 0, 1) := by decide +kernel
theorem dX9_cancel_1 : decode cX9_cancel 1 = .ok (.iconst 2, 1) := by decide +kernel
theorem dX9_cancel_2 : decode cX9_cancel 2 = .ok (.iload_n 1, 1) := by decide +kernel
theorem dX9_cancel_3 : decode cX9_cancel 3 = .ok (.invokevirtual 55, 3) := by decide +kernel
theorem dX9_cancel_6 : decode cX9_cancel 6 = .ok (.ifCond .ne 5, 3) := by decide +kernel
theorem dX9_cancel_9 : decode cX9_cancel 9 = .ok (.iconst (-1), 1) := by decide +kernel
theorem dX9_cancel_10 : decode cX9_cancel 10 = .ok (.ireturn, 1) := by decide +kernel
theorem dX9_cancel_11 : decode cX9_cancel 11 = .ok (.aload_n 0, 1) := by decide +kernel
theorem dX9_cancel_12 : decode cX9_cancel 12 = .ok (.getfield 22, 3) := by decide +kernel
theorem dX9_cancel_15 : decode cX9_cancel 15 = .ok (.iconst 5, 1) := by decide +kernel
theorem dX9_cancel_16 : decode cX9_cancel 16 = .ok (.iload_n 1, 1) := by decide +kernel
theorem dX9_cancel_17 : decode cX9_cancel 17 = .ok (.imul, 1) := by decide +kernel
theorem dX9_cancel_18 : decode cX9_cancel 18 = .ok (.iconst 4, 1) := by decide +kernel
theorem dX9_cancel_19 : decode cX9_cancel 19 = .ok (.iadd, 1) := by decide +kernel
theorem dX9_cancel_20 : decode cX9_cancel 20 = .ok (.iaload, 1) := by decide +kernel
theorem dX9_cancel_21 : decode cX9_cancel 21 = .ok (.iconst 1, 1) := by decide +kernel
theorem dX9_cancel_22 : decode cX9_cancel 22 = .ok (.if_icmp .ne 6, 3) := by decide +kernel
theorem dX9_cancel_25 : decode cX9_cancel 25 = .ok (.bipush (-3), 2) := by decide +kernel
theorem dX9_cancel_27 : decode cX9_cancel 27 = .ok (.ireturn, 1) := by decide +kernel
theorem dX9_cancel_28 : decode cX9_cancel 28 = .ok (.aload_n 0, 1) := by decide +kernel
theorem dX9_cancel_29 : decode cX9_cancel 29 = .ok (.getfield 22, 3) := by decide +kernel
theorem dX9_cancel_32 : decode cX9_cancel 32 = .ok (.iconst 5, 1) := by decide +kernel
theorem dX9_cancel_33 : decode cX9_cancel 33 = .ok (.iload_n 1, 1) := by decide +kernel
theorem dX9_cancel_34 : decode cX9_cancel 34 = .ok (.imul, 1) := by decide +kernel
theorem dX9_cancel_35 : decode cX9_cancel 35 = .ok (.iconst 4, 1) := by decide +kernel
theorem dX9_cancel_36 : decode cX9_cancel 36 = .ok (.iadd, 1) := by decide +kernel
theorem dX9_cancel_37 : decode cX9_cancel 37 = .ok (.iconst 1, 1) := by decide +kernel
theorem dX9_cancel_38 : decode cX9_cancel 38 = .ok (.iastore, 1) := by decide +kernel
theorem dX9_cancel_39 : decode cX9_cancel 39 = .ok (.iconst 1, 1) := by decide +kernel
theorem dX9_cancel_40 : decode cX9_cancel 40 = .ok (.ireturn, 1) := by decide +kernel
theorem dX9_booking_0 : decode cX9_booking 0 = .ok (.aload_n 0, 1) := by decide +kernel
theorem dX9_booking_1 : decode cX9_booking 1 = .ok (.iconst 2, 1) := by decide +kernel
theorem dX9_booking_2 : decode cX9_booking 2 = .ok (.iload_n 1, 1) := by decide +kernel
theorem dX9_booking_3 : decode cX9_booking 3 = .ok (.invokevirtual 55, 3) := by decide +kernel
theorem dX9_booking_6 : decode cX9_booking 6 = .ok (.ifCond .eq 13, 3) := by decide +kernel
theorem dX9_booking_9 : decode cX9_booking 9 = .ok (.iload_n 2, 1) := by decide +kernel
theorem dX9_booking_10 : decode cX9_booking 10 = .ok (.iconst 0, 1) := by decide +kernel
theorem dX9_booking_11 : decode cX9_booking 11 = .ok (.bipush 6, 2) := by decide +kernel
theorem dX9_booking_13 : decode cX9_booking 13 = .ok (.invokestatic 47, 3) := by decide +kernel
theorem dX9_booking_16 : decode cX9_booking 16 = .ok (.ifCond .ne 5, 3) := by decide +kernel
theorem dX9_booking_19 : decode cX9_booking 19 = .ok (.iconst (-1), 1) := by decide +kernel
theorem dX9_booking_20 : decode cX9_booking 20 = .ok (.ireturn, 1) := by decide +kernel
theorem dX9_booking_21 : decode cX9_booking 21 = .ok (.iconst 5, 1) := by decide +kernel
theorem dX9_booking_22 : decode cX9_booking 22 = .ok (.iload_n 1, 1) := by decide +kernel
theorem dX9_booking_23 : decode cX9_booking 23 = .ok (.imul, 1) := by decide +kernel
theorem dX9_booking_24 : decode cX9_booking 24 = .ok (.istore_n 3, 1) := by decide +kernel
theorem dX9_booking_25 : decode cX9_booking 25 = .ok (.iload_n 2, 1) := by decide +kernel
theorem dX9_booking_26 : decode cX9_booking 26 = .ok (.tableswitch 112 0 5 #[38, 55, 62, 87, 96, 96], 38) := by decide +kernel
theorem dX9_booking_64 : decode cX9_booking 64 = .ok (.aload_n 0, 1) := by decide +kernel
theorem dX9_booking_65 : decode cX9_booking 65 = .ok (.getfield 22, 3) := by decide +kernel
theorem dX9_booking_68 : decode cX9_booking 68 = .ok (.iload_n 3, 1) := by decide +kernel
theorem dX9_booking_69 : decode cX9_booking 69 = .ok (.iconst 1, 1) := by decide +kernel
theorem dX9_booking_70 : decode cX9_booking 70 = .ok (.iadd, 1) := by decide +kernel
theorem dX9_booking_71 : decode cX9_booking 71 = .ok (.iaload, 1) := by decide +kernel
theorem dX9_booking_72 : decode cX9_booking 72 = .ok (.ifCond .ge 7, 3) := by decide +kernel
theorem dX9_booking_75 : decode cX9_booking 75 = .ok (.iconst 1, 1) := by decide +kernel
theorem dX9_booking_76 : decode cX9_booking 76 = .ok (.goto 4, 3) := by decide +kernel
theorem dX9_booking_79 : decode cX9_booking 79 = .ok (.iconst 0, 1) := by decide +kernel
theorem dX9_booking_80 : decode cX9_booking 80 = .ok (.ireturn, 1) := by decide +kernel
theorem dX9_booking_81 : decode cX9_booking 81 = .ok (.aload_n 0, 1) := by decide +kernel
theorem dX9_booking_82 : decode cX9_booking 82 = .ok (.getfield 22, 3) := by decide +kernel
theorem dX9_booking_85 : decode cX9_booking 85 = .ok (.iload_n 3, 1) := by decide +kernel
theorem dX9_booking_86 : decode cX9_booking 86 = .ok (.iaload, 1) := by decide +kernel
theorem dX9_booking_87 : decode cX9_booking 87 = .ok (.ireturn, 1) := by decide +kernel
theorem dX9_booking_88 : decode cX9_booking 88 = .ok (.aload_n 0, 1) := by decide +kernel
theorem dX9_booking_89 : decode cX9_booking 89 = .ok (.getfield 22, 3) := by decide +kernel
theorem dX9_booking_92 : decode cX9_booking 92 = .ok (.iload_n 3, 1) := by decide +kernel
theorem dX9_booking_93 : decode cX9_booking 93 = .ok (.iconst 1, 1) := by decide +kernel
theorem dX9_booking_94 : decode cX9_booking 94 = .ok (.iadd, 1) := by decide +kernel
theorem dX9_booking_95 : decode cX9_booking 95 = .ok (.iaload, 1) := by decide +kernel
theorem dX9_booking_96 : decode cX9_booking 96 = .ok (.ifCond .ge 8, 3) := by decide +kernel
theorem dX9_booking_99 : decode cX9_booking 99 = .ok (.bipush (-4), 2) := by decide +kernel
theorem dX9_booking_101 : decode cX9_booking 101 = .ok (.goto 11, 3) := by decide +kernel
theorem dX9_booking_104 : decode cX9_booking 104 = .ok (.aload_n 0, 1) := by decide +kernel
theorem dX9_booking_105 : decode cX9_booking 105 = .ok (.getfield 22, 3) := by decide +kernel
theorem dX9_booking_108 : decode cX9_booking 108 = .ok (.iload_n 3, 1) := by decide +kernel
theorem dX9_booking_109 : decode cX9_booking 109 = .ok (.iconst 1, 1) := by decide +kernel
theorem dX9_booking_110 : decode cX9_booking 110 = .ok (.iadd, 1) := by decide +kernel
theorem dX9_booking_111 : decode cX9_booking 111 = .ok (.iaload, 1) := by decide +kernel
theorem dX9_booking_112 : decode cX9_booking 112 = .ok (.ireturn, 1) := by decide +kernel
theorem dX9_booking_113 : decode cX9_booking 113 = .ok (.aload_n 0, 1) := by decide +kernel
theorem dX9_booking_114 : decode cX9_booking 114 = .ok (.getfield 22, 3) := by decide +kernel
theorem dX9_booking_117 : decode cX9_booking 117 = .ok (.iload_n 3, 1) := by decide +kernel
theorem dX9_booking_118 : decode cX9_booking 118 = .ok (.iconst 2, 1) := by decide +kernel
theorem dX9_booking_119 : decode cX9_booking 119 = .ok (.iadd, 1) := by decide +kernel
theorem dX9_booking_120 : decode cX9_booking 120 = .ok (.iaload, 1) := by decide +kernel
theorem dX9_booking_121 : decode cX9_booking 121 = .ok (.ireturn, 1) := by decide +kernel
theorem dX9_booking_122 : decode cX9_booking 122 = .ok (.aload_n 0, 1) := by decide +kernel
theorem dX9_booking_123 : decode cX9_booking 123 = .ok (.iload_n 1, 1) := by decide +kernel
theorem dX9_booking_124 : decode cX9_booking 124 = .ok (.iload_n 2, 1) := by decide +kernel
theorem dX9_booking_125 : decode cX9_booking 125 = .ok (.iconst 5, 1) := by decide +kernel
theorem dX9_booking_126 : decode cX9_booking 126 = .ok (.if_icmp .ne 7, 3) := by decide +kernel
theorem dX9_booking_129 : decode cX9_booking 129 = .ok (.iconst 1, 1) := by decide +kernel
theorem dX9_booking_130 : decode cX9_booking 130 = .ok (.goto 4, 3) := by decide +kernel
theorem dX9_booking_133 : decode cX9_booking 133 = .ok (.iconst 0, 1) := by decide +kernel
theorem dX9_booking_134 : decode cX9_booking 134 = .ok (.invokevirtual 73, 3) := by decide +kernel
theorem dX9_booking_137 : decode cX9_booking 137 = .ok (.ireturn, 1) := by decide +kernel
theorem dX9_booking_138 : decode cX9_booking 138 = .ok (.aload_n 0, 1) := by decide +kernel
theorem dX9_booking_139 : decode cX9_booking 139 = .ok (.getfield 22, 3) := by decide +kernel
theorem dX9_booking_142 : decode cX9_booking 142 = .ok (.iload_n 3, 1) := by decide +kernel
theorem dX9_booking_143 : decode cX9_booking 143 = .ok (.iconst 4, 1) := by decide +kernel
theorem dX9_booking_144 : decode cX9_booking 144 = .ok (.iadd, 1) := by decide +kernel
theorem dX9_booking_145 : decode cX9_booking 145 = .ok (.iaload, 1) := by decide +kernel
theorem dX9_booking_146 : decode cX9_booking 146 = .ok (.ireturn, 1) := by decide +kernel
theorem dX9_thread_0 : decode cX9_thread 0 = .ok (.aload_n 0, 1) := by decide +kernel
theorem dX9_thread_1 : decode cX9_thread 1 = .ok (.iconst 1, 1) := by decide +kernel
theorem dX9_thread_2 : decode cX9_thread 2 = .ok (.iload_n 1, 1) := by decide +kernel
theorem dX9_thread_3 : decode cX9_thread 3 = .ok (.invokevirtual 55, 3) := by decide +kernel
theorem dX9_thread_6 : decode cX9_thread 6 = .ok (.ifCond .eq 20, 3) := by decide +kernel
theorem dX9_thread_9 : decode cX9_thread 9 = .ok (.iload_n 2, 1) := by decide +kernel
theorem dX9_thread_10 : decode cX9_thread 10 = .ok (.invokestatic 59, 3) := by decide +kernel
theorem dX9_thread_13 : decode cX9_thread 13 = .ok (.ifCond .eq 13, 3) := by decide +kernel
theorem dX9_thread_16 : decode cX9_thread 16 = .ok (.iload_n 3, 1) := by decide +kernel
theorem dX9_thread_17 : decode cX9_thread 17 = .ok (.iconst 0, 1) := by decide +kernel
theorem dX9_thread_18 : decode cX9_thread 18 = .ok (.bipush 7, 2) := by decide +kernel
theorem dX9_thread_20 : decode cX9_thread 20 = .ok (.invokestatic 47, 3) := by decide +kernel
theorem dX9_thread_23 : decode cX9_thread 23 = .ok (.ifCond .ne 5, 3) := by decide +kernel
theorem dX9_thread_26 : decode cX9_thread 26 = .ok (.iconst (-1), 1) := by decide +kernel
theorem dX9_thread_27 : decode cX9_thread 27 = .ok (.ireturn, 1) := by decide +kernel
theorem dX9_thread_28 : decode cX9_thread 28 = .ok (.aload_n 0, 1) := by decide +kernel
theorem dX9_thread_29 : decode cX9_thread 29 = .ok (.getfield 7, 3) := by decide +kernel
theorem dX9_thread_32 : decode cX9_thread 32 = .ok (.iconst 3, 1) := by decide +kernel
theorem dX9_thread_33 : decode cX9_thread 33 = .ok (.iaload, 1) := by decide +kernel
theorem dX9_thread_34 : decode cX9_thread 34 = .ok (.bipush 12, 2) := by decide +kernel
theorem dX9_thread_36 : decode cX9_thread 36 = .ok (.if_icmp .ne 6, 3) := by decide +kernel
theorem dX9_thread_39 : decode cX9_thread 39 = .ok (.bipush (-2), 2) := by decide +kernel
theorem dX9_thread_41 : decode cX9_thread 41 = .ok (.ireturn, 1) := by decide +kernel
theorem dX9_thread_42 : decode cX9_thread 42 = .ok (.iconst 3, 1) := by decide +kernel
theorem dX9_thread_43 : decode cX9_thread 43 = .ok (.aload_n 0, 1) := by decide +kernel
theorem dX9_thread_44 : decode cX9_thread 44 = .ok (.getfield 7, 3) := by decide +kernel
theorem dX9_thread_47 : decode cX9_thread 47 = .ok (.iconst 3, 1) := by decide +kernel
theorem dX9_thread_48 : decode cX9_thread 48 = .ok (.iaload, 1) := by decide +kernel
theorem dX9_thread_49 : decode cX9_thread 49 = .ok (.imul, 1) := by decide +kernel
theorem dX9_thread_50 : decode cX9_thread 50 = .ok (.istore 4, 2) := by decide +kernel
theorem dX9_thread_52 : decode cX9_thread 52 = .ok (.aload_n 0, 1) := by decide +kernel
theorem dX9_thread_53 : decode cX9_thread 53 = .ok (.getfield 25, 3) := by decide +kernel
theorem dX9_thread_56 : decode cX9_thread 56 = .ok (.iload 4, 2) := by decide +kernel
theorem dX9_thread_58 : decode cX9_thread 58 = .ok (.iload_n 1, 1) := by decide +kernel
theorem dX9_thread_59 : decode cX9_thread 59 = .ok (.iastore, 1) := by decide +kernel
theorem dX9_thread_60 : decode cX9_thread 60 = .ok (.aload_n 0, 1) := by decide +kernel
theorem dX9_thread_61 : decode cX9_thread 61 = .ok (.getfield 25, 3) := by decide +kernel
theorem dX9_thread_64 : decode cX9_thread 64 = .ok (.iload 4, 2) := by decide +kernel
theorem dX9_thread_66 : decode cX9_thread 66 = .ok (.iconst 1, 1) := by decide +kernel
theorem dX9_thread_67 : decode cX9_thread 67 = .ok (.iadd, 1) := by decide +kernel
theorem dX9_thread_68 : decode cX9_thread 68 = .ok (.iload_n 2, 1) := by decide +kernel
theorem dX9_thread_69 : decode cX9_thread 69 = .ok (.iastore, 1) := by decide +kernel
theorem dX9_thread_70 : decode cX9_thread 70 = .ok (.aload_n 0, 1) := by decide +kernel
theorem dX9_thread_71 : decode cX9_thread 71 = .ok (.getfield 25, 3) := by decide +kernel
theorem dX9_thread_74 : decode cX9_thread 74 = .ok (.iload 4, 2) := by decide +kernel
theorem dX9_thread_76 : decode cX9_thread 76 = .ok (.iconst 2, 1) := by decide +kernel
theorem dX9_thread_77 : decode cX9_thread 77 = .ok (.iadd, 1) := by decide +kernel
theorem dX9_thread_78 : decode cX9_thread 78 = .ok (.iload_n 3, 1) := by decide +kernel
theorem dX9_thread_79 : decode cX9_thread 79 = .ok (.iastore, 1) := by decide +kernel
theorem dX9_thread_80 : decode cX9_thread 80 = .ok (.aload_n 0, 1) := by decide +kernel
theorem dX9_thread_81 : decode cX9_thread 81 = .ok (.iconst 3, 1) := by decide +kernel
theorem dX9_thread_82 : decode cX9_thread 82 = .ok (.invokevirtual 51, 3) := by decide +kernel
theorem dX9_thread_85 : decode cX9_thread 85 = .ok (.ireturn, 1) := by decide +kernel
theorem dX9_cut_0 : decode cX9_cut 0 = .ok (.aload_n 0, 1) := by decide +kernel
theorem dX9_cut_1 : decode cX9_cut 1 = .ok (.getfield 7, 3) := by decide +kernel
theorem dX9_cut_4 : decode cX9_cut 4 = .ok (.iconst 3, 1) := by decide +kernel
theorem dX9_cut_5 : decode cX9_cut 5 = .ok (.iaload, 1) := by decide +kernel
theorem dX9_cut_6 : decode cX9_cut 6 = .ok (.ifCond .ne 6, 3) := by decide +kernel
theorem dX9_cut_9 : decode cX9_cut 9 = .ok (.bipush (-4), 2) := by decide +kernel
theorem dX9_cut_11 : decode cX9_cut 11 = .ok (.ireturn, 1) := by decide +kernel
theorem dX9_cut_12 : decode cX9_cut 12 = .ok (.aload_n 0, 1) := by decide +kernel
