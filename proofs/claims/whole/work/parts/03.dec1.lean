theorem dX3_sumSpends_131 : decode cX3_sumSpends 131 = .ok (.isub, 1) := by decide +kernel
theorem dX3_sumSpends_132 : decode cX3_sumSpends 132 = .ok (.iaload, 1) := by decide +kernel
theorem dX3_sumSpends_133 : decode cX3_sumSpends 133 = .ok (.iadd, 1) := by decide +kernel
theorem dX3_sumSpends_134 : decode cX3_sumSpends 134 = .ok (.iastore, 1) := by decide +kernel
theorem dX3_sumSpends_135 : decode cX3_sumSpends 135 = .ok (.aload_n 0, 1) := by decide +kernel
theorem dX3_sumSpends_136 : decode cX3_sumSpends 136 = .ok (.getfield 29, 3) := by decide +kernel
theorem dX3_sumSpends_139 : decode cX3_sumSpends 139 = .ok (.iload_n 2, 1) := by decide +kernel
theorem dX3_sumSpends_140 : decode cX3_sumSpends 140 = .ok (.dup2, 1) := by decide +kernel
theorem dX3_sumSpends_141 : decode cX3_sumSpends 141 = .ok (.iaload, 1) := by decide +kernel
theorem dX3_sumSpends_142 : decode cX3_sumSpends 142 = .ok (.aload_n 0, 1) := by decide +kernel
theorem dX3_sumSpends_143 : decode cX3_sumSpends 143 = .ok (.getfield 29, 3) := by decide +kernel
theorem dX3_sumSpends_146 : decode cX3_sumSpends 146 = .ok (.iload_n 2, 1) := by decide +kernel
theorem dX3_sumSpends_147 : decode cX3_sumSpends 147 = .ok (.iconst 1, 1) := by decide +kernel
theorem dX3_sumSpends_148 : decode cX3_sumSpends 148 = .ok (.isub, 1) := by decide +kernel
theorem dX3_sumSpends_149 : decode cX3_sumSpends 149 = .ok (.iaload, 1) := by decide +kernel
theorem dX3_sumSpends_150 : decode cX3_sumSpends 150 = .ok (.iadd, 1) := by decide +kernel
theorem dX3_sumSpends_151 : decode cX3_sumSpends 151 = .ok (.iastore, 1) := by decide +kernel
theorem dX3_sumSpends_152 : decode cX3_sumSpends 152 = .ok (.iinc 2 1, 3) := by decide +kernel
theorem dX3_sumSpends_155 : decode cX3_sumSpends 155 = .ok (.goto (-43), 3) := by decide +kernel
theorem dX3_sumSpends_158 : decode cX3_sumSpends 158 = .ok (.return_, 1) := by decide +kernel
theorem dX3_narrowPast_0 : decode cX3_narrowPast 0 = .ok (.aload_n 0, 1) := by decide +kernel
theorem dX3_narrowPast_1 : decode cX3_narrowPast 1 = .ok (.getfield 32, 3) := by decide +kernel
theorem dX3_narrowPast_4 : decode cX3_narrowPast 4 = .ok (.getfield 64, 3) := by decide +kernel
theorem dX3_narrowPast_7 : decode cX3_narrowPast 7 = .ok (.getfield 68, 3) := by decide +kernel
theorem dX3_narrowPast_10 : decode cX3_narrowPast 10 = .ok (.aload_n 0, 1) := by decide +kernel
theorem dX3_narrowPast_11 : decode cX3_narrowPast 11 = .ok (.getfield 9, 3) := by decide +kernel
theorem dX3_narrowPast_14 : decode cX3_narrowPast 14 = .ok (.iaload, 1) := by decide +kernel
theorem dX3_narrowPast_15 : decode cX3_narrowPast 15 = .ok (.istore_n 1, 1) := by decide +kernel
theorem dX3_narrowPast_16 : decode cX3_narrowPast 16 = .ok (.aload_n 0, 1) := by decide +kernel
theorem dX3_narrowPast_17 : decode cX3_narrowPast 17 = .ok (.getfield 32, 3) := by decide +kernel
theorem dX3_narrowPast_20 : decode cX3_narrowPast 20 = .ok (.getfield 64, 3) := by decide +kernel
theorem dX3_narrowPast_23 : decode cX3_narrowPast 23 = .ok (.getfield 73, 3) := by decide +kernel
theorem dX3_narrowPast_26 : decode cX3_narrowPast 26 = .ok (.aload_n 0, 1) := by decide +kernel
theorem dX3_narrowPast_27 : decode cX3_narrowPast 27 = .ok (.getfield 9, 3) := by decide +kernel
theorem dX3_narrowPast_30 : decode cX3_narrowPast 30 = .ok (.iaload, 1) := by decide +kernel
theorem dX3_narrowPast_31 : decode cX3_narrowPast 31 = .ok (.istore_n 2, 1) := by decide +kernel
theorem dX3_narrowPast_32 : decode cX3_narrowPast 32 = .ok (.aload_n 0, 1) := by decide +kernel
theorem dX3_narrowPast_33 : decode cX3_narrowPast 33 = .ok (.getfield 32, 3) := by decide +kernel
theorem dX3_narrowPast_36 : decode cX3_narrowPast 36 = .ok (.getfield 76, 3) := by decide +kernel
theorem dX3_narrowPast_39 : decode cX3_narrowPast 39 = .ok (.astore_n 3, 1) := by decide +kernel
theorem dX3_narrowPast_40 : decode cX3_narrowPast 40 = .ok (.iconst 0, 1) := by decide +kernel
theorem dX3_narrowPast_41 : decode cX3_narrowPast 41 = .ok (.istore 4, 2) := by decide +kernel
theorem dX3_narrowPast_43 : decode cX3_narrowPast 43 = .ok (.iload 4, 2) := by decide +kernel
theorem dX3_narrowPast_45 : decode cX3_narrowPast 45 = .ok (.aload_n 3, 1) := by decide +kernel
theorem dX3_narrowPast_46 : decode cX3_narrowPast 46 = .ok (.getfield 80, 3) := by decide +kernel
theorem dX3_narrowPast_49 : decode cX3_narrowPast 49 = .ok (.if_icmp .ge 83, 3) := by decide +kernel
theorem dX3_narrowPast_52 : decode cX3_narrowPast 52 = .ok (.aload_n 3, 1) := by decide +kernel
theorem dX3_narrowPast_53 : decode cX3_narrowPast 53 = .ok (.getfield 83, 3) := by decide +kernel
theorem dX3_narrowPast_56 : decode cX3_narrowPast 56 = .ok (.iload 4, 2) := by decide +kernel
theorem dX3_narrowPast_58 : decode cX3_narrowPast 58 = .ok (.iaload, 1) := by decide +kernel
theorem dX3_narrowPast_59 : decode cX3_narrowPast 59 = .ok (.aload_n 0, 1) := by decide +kernel
theorem dX3_narrowPast_60 : decode cX3_narrowPast 60 = .ok (.getfield 9, 3) := by decide +kernel
theorem dX3_narrowPast_63 : decode cX3_narrowPast 63 = .ok (.if_icmp .ne 63, 3) := by decide +kernel
theorem dX3_narrowPast_66 : decode cX3_narrowPast 66 = .ok (.aload_n 3, 1) := by decide +kernel
theorem dX3_narrowPast_67 : decode cX3_narrowPast 67 = .ok (.getfield 85, 3) := by decide +kernel
theorem dX3_narrowPast_70 : decode cX3_narrowPast 70 = .ok (.iload 4, 2) := by decide +kernel
theorem dX3_narrowPast_72 : decode cX3_narrowPast 72 = .ok (.iaload, 1) := by decide +kernel
theorem dX3_narrowPast_73 : decode cX3_narrowPast 73 = .ok (.istore 5, 2) := by decide +kernel
theorem dX3_narrowPast_75 : decode cX3_narrowPast 75 = .ok (.aload_n 3, 1) := by decide +kernel
theorem dX3_narrowPast_76 : decode cX3_narrowPast 76 = .ok (.getfield 88, 3) := by decide +kernel
theorem dX3_narrowPast_79 : decode cX3_narrowPast 79 = .ok (.iload 4, 2) := by decide +kernel
theorem dX3_narrowPast_81 : decode cX3_narrowPast 81 = .ok (.iaload, 1) := by decide +kernel
theorem dX3_narrowPast_82 : decode cX3_narrowPast 82 = .ok (.istore 6, 2) := by decide +kernel
theorem dX3_narrowPast_84 : decode cX3_narrowPast 84 = .ok (.iload_n 1, 1) := by decide +kernel
theorem dX3_narrowPast_85 : decode cX3_narrowPast 85 = .ok (.getstatic 89, 3) := by decide +kernel
theorem dX3_narrowPast_88 : decode cX3_narrowPast 88 = .ok (.iload 5, 2) := by decide +kernel
theorem dX3_narrowPast_90 : decode cX3_narrowPast 90 = .ok (.iaload, 1) := by decide +kernel
theorem dX3_narrowPast_91 : decode cX3_narrowPast 91 = .ok (.aload_n 0, 1) := by decide +kernel
theorem dX3_narrowPast_92 : decode cX3_narrowPast 92 = .ok (.getfield 29, 3) := by decide +kernel
theorem dX3_narrowPast_95 : decode cX3_narrowPast 95 = .ok (.iload 6, 2) := by decide +kernel
theorem dX3_narrowPast_97 : decode cX3_narrowPast 97 = .ok (.iaload, 1) := by decide +kernel
theorem dX3_narrowPast_98 : decode cX3_narrowPast 98 = .ok (.isub, 1) := by decide +kernel
theorem dX3_narrowPast_99 : decode cX3_narrowPast 99 = .ok (.invokestatic 92, 3) := by decide +kernel
theorem dX3_narrowPast_102 : decode cX3_narrowPast 102 = .ok (.istore_n 1, 1) := by decide +kernel
theorem dX3_narrowPast_103 : decode cX3_narrowPast 103 = .ok (.iload_n 2, 1) := by decide +kernel
theorem dX3_narrowPast_104 : decode cX3_narrowPast 104 = .ok (.getstatic 89, 3) := by decide +kernel
theorem dX3_narrowPast_107 : decode cX3_narrowPast 107 = .ok (.iload 5, 2) := by decide +kernel
theorem dX3_narrowPast_109 : decode cX3_narrowPast 109 = .ok (.iconst 1, 1) := by decide +kernel
theorem dX3_narrowPast_110 : decode cX3_narrowPast 110 = .ok (.iadd, 1) := by decide +kernel
theorem dX3_narrowPast_111 : decode cX3_narrowPast 111 = .ok (.iaload, 1) := by decide +kernel
theorem dX3_narrowPast_112 : decode cX3_narrowPast 112 = .ok (.iconst 1, 1) := by decide +kernel
theorem dX3_narrowPast_113 : decode cX3_narrowPast 113 = .ok (.isub, 1) := by decide +kernel
theorem dX3_narrowPast_114 : decode cX3_narrowPast 114 = .ok (.aload_n 0, 1) := by decide +kernel
theorem dX3_narrowPast_115 : decode cX3_narrowPast 115 = .ok (.getfield 25, 3) := by decide +kernel
theorem dX3_narrowPast_118 : decode cX3_narrowPast 118 = .ok (.iload 6, 2) := by decide +kernel
theorem dX3_narrowPast_120 : decode cX3_narrowPast 120 = .ok (.iaload, 1) := by decide +kernel
theorem dX3_narrowPast_121 : decode cX3_narrowPast 121 = .ok (.isub, 1) := by decide +kernel
theorem dX3_narrowPast_122 : decode cX3_narrowPast 122 = .ok (.invokestatic 98, 3) := by decide +kernel
theorem dX3_narrowPast_125 : decode cX3_narrowPast 125 = .ok (.istore_n 2, 1) := by decide +kernel
theorem dX3_narrowPast_126 : decode cX3_narrowPast 126 = .ok (.iinc 4 1, 3) := by decide +kernel
theorem dX3_narrowPast_129 : decode cX3_narrowPast 129 = .ok (.goto (-86), 3) := by decide +kernel
theorem dX3_narrowPast_132 : decode cX3_narrowPast 132 = .ok (.aload_n 0, 1) := by decide +kernel
theorem dX3_narrowPast_133 : decode cX3_narrowPast 133 = .ok (.iload_n 1, 1) := by decide +kernel
theorem dX3_narrowPast_134 : decode cX3_narrowPast 134 = .ok (.iload_n 2, 1) := by decide +kernel
theorem dX3_narrowPast_135 : decode cX3_narrowPast 135 = .ok (.if_icmp .le 7, 3) := by decide +kernel
theorem dX3_narrowPast_138 : decode cX3_narrowPast 138 = .ok (.iconst 1, 1) := by decide +kernel
theorem dX3_narrowPast_139 : decode cX3_narrowPast 139 = .ok (.goto 4, 3) := by decide +kernel
theorem dX3_narrowPast_142 : decode cX3_narrowPast 142 = .ok (.iconst 0, 1) := by decide +kernel
theorem dX3_narrowPast_143 : decode cX3_narrowPast 143 = .ok (.putfield 15, 3) := by decide +kernel
theorem dX3_narrowPast_146 : decode cX3_narrowPast 146 = .ok (.aload_n 0, 1) := by decide +kernel
theorem dX3_narrowPast_147 : decode cX3_narrowPast 147 = .ok (.aload_n 0, 1) := by decide +kernel
theorem dX3_narrowPast_148 : decode cX3_narrowPast 148 = .ok (.getfield 15, 3) := by decide +kernel
theorem dX3_narrowPast_151 : decode cX3_narrowPast 151 = .ok (.ifCond .eq 21, 3) := by decide +kernel
theorem dX3_narrowPast_154 : decode cX3_narrowPast 154 = .ok (.aload_n 0, 1) := by decide +kernel
theorem dX3_narrowPast_155 : decode cX3_narrowPast 155 = .ok (.getfield 32, 3) := by decide +kernel
theorem dX3_narrowPast_158 : decode cX3_narrowPast 158 = .ok (.getfield 64, 3) := by decide +kernel
theorem dX3_narrowPast_161 : decode cX3_narrowPast 161 = .ok (.getfield 68, 3) := by decide +kernel
theorem dX3_narrowPast_164 : decode cX3_narrowPast 164 = .ok (.aload_n 0, 1) := by decide +kernel
theorem dX3_narrowPast_165 : decode cX3_narrowPast 165 = .ok (.getfield 9, 3) := by decide +kernel
theorem dX3_narrowPast_168 : decode cX3_narrowPast 168 = .ok (.iaload, 1) := by decide +kernel
theorem dX3_narrowPast_169 : decode cX3_narrowPast 169 = .ok (.goto 4, 3) := by decide +kernel
theorem dX3_narrowPast_172 : decode cX3_narrowPast 172 = .ok (.iload_n 1, 1) := by decide +kernel
theorem dX3_narrowPast_173 : decode cX3_narrowPast 173 = .ok (.putfield 19, 3) := by decide +kernel
theorem dX3_narrowPast_176 : decode cX3_narrowPast 176 = .ok (.aload_n 0, 1) := by decide +kernel
theorem dX3_narrowPast_177 : decode cX3_narrowPast 177 = .ok (.aload_n 0, 1) := by decide +kernel
theorem dX3_narrowPast_178 : decode cX3_narrowPast 178 = .ok (.getfield 15, 3) := by decide +kernel
theorem dX3_narrowPast_181 : decode cX3_narrowPast 181 = .ok (.ifCond .eq 21, 3) := by decide +kernel
theorem dX3_narrowPast_184 : decode cX3_narrowPast 184 = .ok (.aload_n 0, 1) := by decide +kernel
theorem dX3_narrowPast_185 : decode cX3_narrowPast 185 = .ok (.getfield 32, 3) := by decide +kernel
theorem dX3_narrowPast_188 : decode cX3_narrowPast 188 = .ok (.getfield 64, 3) := by decide +kernel
theorem dX3_narrowPast_191 : decode cX3_narrowPast 191 = .ok (.getfield 73, 3) := by decide +kernel
theorem dX3_narrowPast_194 : decode cX3_narrowPast 194 = .ok (.aload_n 0, 1) := by decide +kernel
theorem dX3_narrowPast_195 : decode cX3_narrowPast 195 = .ok (.getfield 9, 3) := by decide +kernel
theorem dX3_narrowPast_198 : decode cX3_narrowPast 198 = .ok (.iaload, 1) := by decide +kernel
theorem dX3_narrowPast_199 : decode cX3_narrowPast 199 = .ok (.goto 4, 3) := by decide +kernel
theorem dX3_narrowPast_202 : decode cX3_narrowPast 202 = .ok (.iload_n 2, 1) := by decide +kernel
theorem dX3_narrowPast_203 : decode cX3_narrowPast 203 = .ok (.putfield 22, 3) := by decide +kernel
theorem dX3_narrowPast_206 : decode cX3_narrowPast 206 = .ok (.return_, 1) := by decide +kernel
theorem dX3_pastEnd_0 : decode cX3_pastEnd 0 = .ok (.iload_n 1, 1) := by decide +kernel
theorem dX3_pastEnd_1 : decode cX3_pastEnd 1 = .ok (.ifCond .eq 10, 3) := by decide +kernel
theorem dX3_pastEnd_4 : decode cX3_pastEnd 4 = .ok (.aload_n 0, 1) := by decide +kernel
theorem dX3_pastEnd_5 : decode cX3_pastEnd 5 = .ok (.getfield 22, 3) := by decide +kernel
theorem dX3_pastEnd_8 : decode cX3_pastEnd 8 = .ok (.goto 7, 3) := by decide +kernel
theorem dX3_pastEnd_11 : decode cX3_pastEnd 11 = .ok (.aload_n 0, 1) := by decide +kernel
theorem dX3_pastEnd_12 : decode cX3_pastEnd 12 = .ok (.getfield 19, 3) := by decide +kernel
theorem dX3_pastEnd_15 : decode cX3_pastEnd 15 = .ok (.ireturn, 1) := by decide +kernel
theorem dX3_spentEnd_0 : decode cX3_spentEnd 0 = .ok (.iload_n 2, 1) := by decide +kernel
theorem dX3_spentEnd_1 : decode cX3_spentEnd 1 = .ok (.ifCond .eq 17, 3) := by decide +kernel
theorem dX3_spentEnd_4 : decode cX3_spentEnd 4 = .ok (.aload_n 0, 1) := by decide +kernel
theorem dX3_spentEnd_5 : decode cX3_spentEnd 5 = .ok (.getfield 22, 3) := by decide +kernel
theorem dX3_spentEnd_8 : decode cX3_spentEnd 8 = .ok (.aload_n 0, 1) := by decide +kernel
theorem dX3_spentEnd_9 : decode cX3_spentEnd 9 = .ok (.getfield 29, 3) := by decide +kernel
theorem dX3_spentEnd_12 : decode cX3_spentEnd 12 = .ok (.iload_n 1, 1) := by decide +kernel
theorem dX3_spentEnd_13 : decode cX3_spentEnd 13 = .ok (.iaload, 1) := by decide +kernel
theorem dX3_spentEnd_14 : decode cX3_spentEnd 14 = .ok (.iadd, 1) := by decide +kernel
theorem dX3_spentEnd_15 : decode cX3_spentEnd 15 = .ok (.goto 14, 3) := by decide +kernel
theorem dX3_spentEnd_18 : decode cX3_spentEnd 18 = .ok (.aload_n 0, 1) := by decide +kernel
theorem dX3_spentEnd_19 : decode cX3_spentEnd 19 = .ok (.getfield 19, 3) := by decide +kernel
theorem dX3_spentEnd_22 : decode cX3_spentEnd 22 = .ok (.aload_n 0, 1) := by decide +kernel
theorem dX3_spentEnd_23 : decode cX3_spentEnd 23 = .ok (.getfield 25, 3) := by decide +kernel
theorem dX3_spentEnd_26 : decode cX3_spentEnd 26 = .ok (.iload_n 1, 1) := by decide +kernel
theorem dX3_spentEnd_27 : decode cX3_spentEnd 27 = .ok (.iaload, 1) := by decide +kernel
theorem dX3_spentEnd_28 : decode cX3_spentEnd 28 = .ok (.iadd, 1) := by decide +kernel
theorem dX3_spentEnd_29 : decode cX3_spentEnd 29 = .ok (.ireturn, 1) := by decide +kernel
theorem dX3_leftEnd_0 : decode cX3_leftEnd 0 = .ok (.aload_n 0, 1) := by decide +kernel
theorem dX3_leftEnd_1 : decode cX3_leftEnd 1 = .ok (.getfield 32, 3) := by decide +kernel
theorem dX3_leftEnd_4 : decode cX3_leftEnd 4 = .ok (.getfield 64, 3) := by decide +kernel
theorem dX3_leftEnd_7 : decode cX3_leftEnd 7 = .ok (.getfield 101, 3) := by decide +kernel
theorem dX3_leftEnd_10 : decode cX3_leftEnd 10 = .ok (.aload_n 0, 1) := by decide +kernel
theorem dX3_leftEnd_11 : decode cX3_leftEnd 11 = .ok (.getfield 9, 3) := by decide +kernel
theorem dX3_leftEnd_14 : decode cX3_leftEnd 14 = .ok (.iaload, 1) := by decide +kernel
theorem dX3_leftEnd_15 : decode cX3_leftEnd 15 = .ok (.aload_n 0, 1) := by decide +kernel
theorem dX3_leftEnd_16 : decode cX3_leftEnd 16 = .ok (.bipush 9, 2) := by decide +kernel
theorem dX3_leftEnd_18 : decode cX3_leftEnd 18 = .ok (.iload_n 1, 1) := by decide +kernel
theorem dX3_leftEnd_19 : decode cX3_leftEnd 19 = .ok (.ifCond .ne 7, 3) := by decide +kernel
theorem dX3_leftEnd_22 : decode cX3_leftEnd 22 = .ok (.iconst 1, 1) := by decide +kernel
theorem dX3_leftEnd_23 : decode cX3_leftEnd 23 = .ok (.goto 4, 3) := by decide +kernel
theorem dX3_leftEnd_26 : decode cX3_leftEnd 26 = .ok (.iconst 0, 1) := by decide +kernel
theorem dX3_leftEnd_27 : decode cX3_leftEnd 27 = .ok (.invokevirtual 104, 3) := by decide +kernel
theorem dX3_leftEnd_30 : decode cX3_leftEnd 30 = .ok (.isub, 1) := by decide +kernel
theorem dX3_leftEnd_31 : decode cX3_leftEnd 31 = .ok (.ireturn, 1) := by decide +kernel
theorem dX3_countQuarrels_0 : decode cX3_countQuarrels 0 = .ok (.iconst 0, 1) := by decide +kernel
theorem dX3_countQuarrels_1 : decode cX3_countQuarrels 1 = .ok (.istore_n 1, 1) := by decide +kernel
theorem dX3_countQuarrels_2 : decode cX3_countQuarrels 2 = .ok (.iconst 0, 1) := by decide +kernel
theorem dX3_countQuarrels_3 : decode cX3_countQuarrels 3 = .ok (.istore_n 2, 1) := by decide +kernel
theorem dX3_countQuarrels_4 : decode cX3_countQuarrels 4 = .ok (.iload_n 2, 1) := by decide +kernel
theorem dX3_countQuarrels_5 : decode cX3_countQuarrels 5 = .ok (.aload_n 0, 1) := by decide +kernel
theorem dX3_countQuarrels_6 : decode cX3_countQuarrels 6 = .ok (.getfield 32, 3) := by decide +kernel
theorem dX3_countQuarrels_9 : decode cX3_countQuarrels 9 = .ok (.getfield 64, 3) := by decide +kernel
theorem dX3_countQuarrels_12 : decode cX3_countQuarrels 12 = .ok (.getfield 107, 3) := by decide +kernel
theorem dX3_countQuarrels_15 : decode cX3_countQuarrels 15 = .ok (.if_icmp .ge 23, 3) := by decide +kernel
theorem dX3_countQuarrels_18 : decode cX3_countQuarrels 18 = .ok (.aload_n 0, 1) := by decide +kernel
theorem dX3_countQuarrels_19 : decode cX3_countQuarrels 19 = .ok (.iload_n 2, 1) := by decide +kernel
theorem dX3_countQuarrels_20 : decode cX3_countQuarrels 20 = .ok (.invokevirtual 108, 3) := by decide +kernel
theorem dX3_countQuarrels_23 : decode cX3_countQuarrels 23 = .ok (.getfield 15, 3) := by decide +kernel
theorem dX3_countQuarrels_26 : decode cX3_countQuarrels 26 = .ok (.ifCond .eq 6, 3) := by decide +kernel
theorem dX3_countQuarrels_29 : decode cX3_countQuarrels 29 = .ok (.iinc 1 1, 3) := by decide +kernel
theorem dX3_countQuarrels_32 : decode cX3_countQuarrels 32 = .ok (.iinc 2 1, 3) := by decide +kernel
theorem dX3_countQuarrels_35 : decode cX3_countQuarrels 35 = .ok (.goto (-31), 3) := by decide +kernel
theorem dX3_countQuarrels_38 : decode cX3_countQuarrels 38 = .ok (.iload_n 1, 1) := by decide +kernel
theorem dX3_countQuarrels_39 : decode cX3_countQuarrels 39 = .ok (.ireturn, 1) := by decide +kernel
theorem dX3_countOverspent_0 : decode cX3_countOverspent 0 = .ok (.iconst 0, 1) := by decide +kernel
theorem dX3_countOverspent_1 : decode cX3_countOverspent 1 = .ok (.istore_n 1, 1) := by decide +kernel
theorem dX3_countOverspent_2 : decode cX3_countOverspent 2 = .ok (.iconst 0, 1) := by decide +kernel
theorem dX3_countOverspent_3 : decode cX3_countOverspent 3 = .ok (.istore_n 2, 1) := by decide +kernel
theorem dX3_countOverspent_4 : decode cX3_countOverspent 4 = .ok (.iload_n 2, 1) := by decide +kernel
theorem dX3_countOverspent_5 : decode cX3_countOverspent 5 = .ok (.aload_n 0, 1) := by decide +kernel
theorem dX3_countOverspent_6 : decode cX3_countOverspent 6 = .ok (.getfield 32, 3) := by decide +kernel
theorem dX3_countOverspent_9 : decode cX3_countOverspent 9 = .ok (.getfield 64, 3) := by decide +kernel
theorem dX3_countOverspent_12 : decode cX3_countOverspent 12 = .ok (.getfield 107, 3) := by decide +kernel
theorem dX3_countOverspent_15 : decode cX3_countOverspent 15 = .ok (.if_icmp .ge 24, 3) := by decide +kernel
theorem dX3_countOverspent_18 : decode cX3_countOverspent 18 = .ok (.aload_n 0, 1) := by decide +kernel
theorem dX3_countOverspent_19 : decode cX3_countOverspent 19 = .ok (.iload_n 2, 1) := by decide +kernel
theorem dX3_countOverspent_20 : decode cX3_countOverspent 20 = .ok (.invokevirtual 108, 3) := by decide +kernel
theorem dX3_countOverspent_23 : decode cX3_countOverspent 23 = .ok (.iconst 0, 1) := by decide +kernel
theorem dX3_countOverspent_24 : decode cX3_countOverspent 24 = .ok (.invokevirtual 112, 3) := by decide +kernel
theorem dX3_countOverspent_27 : decode cX3_countOverspent 27 = .ok (.ifCond .ge 6, 3) := by decide +kernel
theorem dX3_countOverspent_30 : decode cX3_countOverspent 30 = .ok (.iinc 1 1, 3) := by decide +kernel
theorem dX3_countOverspent_33 : decode cX3_countOverspent 33 = .ok (.iinc 2 1, 3) := by decide +kernel
theorem dX3_countOverspent_36 : decode cX3_countOverspent 36 = .ok (.goto (-32), 3) := by decide +kernel
theorem dX3_countOverspent_39 : decode cX3_countOverspent 39 = .ok (.iload_n 1, 1) := by decide +kernel
theorem dX3_countOverspent_40 : decode cX3_countOverspent 40 = .ok (.ireturn, 1) := by decide +kernel
theorem dX4_init_0 : decode cX4_init 0 = .ok (.aload_n 0, 1) := by decide +kernel
theorem dX4_init_1 : decode cX4_init 1 = .ok (.invokespecial 3, 3) := by decide +kernel
theorem dX4_init_4 : decode cX4_init 4 = .ok (.aload_n 0, 1) := by decide +kernel
theorem dX4_init_5 : decode cX4_init 5 = .ok (.iconst 0, 1) := by decide +kernel
theorem dX4_init_6 : decode cX4_init 6 = .ok (.putfield 9, 3) := by decide +kernel
theorem dX4_init_9 : decode cX4_init 9 = .ok (.aload_n 0, 1) := by decide +kernel
theorem dX4_init_10 : decode cX4_init 10 = .ok (.iconst 4, 1) := by decide +kernel
theorem dX4_init_11 : decode cX4_init 11 = .ok (.newarray .int, 2) := by decide +kernel
theorem dX4_init_13 : decode cX4_init 13 = .ok (.putfield 15, 3) := by decide +kernel
theorem dX4_init_16 : decode cX4_init 16 = .ok (.aload_n 0, 1) := by decide +kernel
theorem dX4_init_17 : decode cX4_init 17 = .ok (.bipush 40, 2) := by decide +kernel
theorem dX4_init_19 : decode cX4_init 19 = .ok (.newarray .int, 2) := by decide +kernel
theorem dX4_init_21 : decode cX4_init 21 = .ok (.putfield 19, 3) := by decide +kernel
theorem dX4_init_24 : decode cX4_init 24 = .ok (.return_, 1) := by decide +kernel
theorem dX4_has_0 : decode cX4_has 0 = .ok (.iload_n 1, 1) := by decide +kernel
theorem dX4_has_1 : decode cX4_has 1 = .ok (.ifCond .lt 15, 3) := by decide +kernel
theorem dX4_has_4 : decode cX4_has 4 = .ok (.iload_n 1, 1) := by decide +kernel
theorem dX4_has_5 : decode cX4_has 5 = .ok (.aload_n 0, 1) := by decide +kernel
theorem dX4_has_6 : decode cX4_has 6 = .ok (.getfield 9, 3) := by decide +kernel
theorem dX4_has_9 : decode cX4_has 9 = .ok (.if_icmp .ge 7, 3) := by decide +kernel
theorem dX4_has_12 : decode cX4_has 12 = .ok (.iconst 1, 1) := by decide +kernel
theorem dX4_has_13 : decode cX4_has 13 = .ok (.goto 4, 3) := by decide +kernel
theorem dX4_has_16 : decode cX4_has 16 = .ok (.iconst 0, 1) := by decide +kernel
theorem dX4_has_17 : decode cX4_has 17 = .ok (.ireturn, 1) := by decide +kernel
theorem dX4_add_0 : decode cX4_add 0 = .ok (.aload_n 0, 1) := by decide +kernel
theorem dX4_add_1 : decode cX4_add 1 = .ok (.getfield 9, 3) := by decide +kernel
theorem dX4_add_4 : decode cX4_add 4 = .ok (.iconst 4, 1) := by decide +kernel
theorem dX4_add_5 : decode cX4_add 5 = .ok (.if_icmp .lt 6, 3) := by decide +kernel
theorem dX4_add_8 : decode cX4_add 8 = .ok (.bipush (-2), 2) := by decide +kernel
theorem dX4_add_10 : decode cX4_add 10 = .ok (.ireturn, 1) := by decide +kernel
theorem dX4_add_11 : decode cX4_add 11 = .ok (.aload_n 0, 1) := by decide +kernel
theorem dX4_add_12 : decode cX4_add 12 = .ok (.getfield 15, 3) := by decide +kernel
theorem dX4_add_15 : decode cX4_add 15 = .ok (.aload_n 0, 1) := by decide +kernel
theorem dX4_add_16 : decode cX4_add 16 = .ok (.getfield 9, 3) := by decide +kernel
theorem dX4_add_19 : decode cX4_add 19 = .ok (.iload_n 1, 1) := by decide +kernel
theorem dX4_add_20 : decode cX4_add 20 = .ok (.iastore, 1) := by decide +kernel
theorem dX4_add_21 : decode cX4_add 21 = .ok (.iconst 0, 1) := by decide +kernel
theorem dX4_add_22 : decode cX4_add 22 = .ok (.istore_n 2, 1) := by decide +kernel
theorem dX4_add_23 : decode cX4_add 23 = .ok (.iload_n 2, 1) := by decide +kernel
theorem dX4_add_24 : decode cX4_add 24 = .ok (.bipush 10, 2) := by decide +kernel
theorem dX4_add_26 : decode cX4_add 26 = .ok (.if_icmp .ge 19, 3) := by decide +kernel
theorem dX4_add_29 : decode cX4_add 29 = .ok (.aload_n 0, 1) := by decide +kernel
theorem dX4_add_30 : decode cX4_add 30 = .ok (.aload_n 0, 1) := by decide +kernel
theorem dX4_add_31 : decode cX4_add 31 = .ok (.getfield 9, 3) := by decide +kernel
theorem dX4_add_34 : decode cX4_add 34 = .ok (.iload_n 2, 1) := by decide +kernel
theorem dX4_add_35 : decode cX4_add 35 = .ok (.iconst (-1), 1) := by decide +kernel
theorem dX4_add_36 : decode cX4_add 36 = .ok (.invokevirtual 22, 3) := by decide +kernel
theorem dX4_add_39 : decode cX4_add 39 = .ok (.iinc 2 1, 3) := by decide +kernel
theorem dX4_add_42 : decode cX4_add 42 = .ok (.goto (-19), 3) := by decide +kernel
theorem dX4_add_45 : decode cX4_add 45 = .ok (.aload_n 0, 1) := by decide +kernel
theorem dX4_add_46 : decode cX4_add 46 = .ok (.dup, 1) := by decide +kernel
theorem dX4_add_47 : decode cX4_add 47 = .ok (.getfield 9, 3) := by decide +kernel
theorem dX4_add_50 : decode cX4_add 50 = .ok (.iconst 1, 1) := by decide +kernel
theorem dX4_add_51 : decode cX4_add 51 = .ok (.iadd, 1) := by decide +kernel
theorem dX4_add_52 : decode cX4_add 52 = .ok (.putfield 9, 3) := by decide +kernel
theorem dX4_add_55 : decode cX4_add 55 = .ok (.aload_n 0, 1) := by decide +kernel
theorem dX4_add_56 : decode cX4_add 56 = .ok (.getfield 9, 3) := by decide +kernel
theorem dX4_add_59 : decode cX4_add 59 = .ok (.iconst 1, 1) := by decide +kernel
theorem dX4_add_60 : decode cX4_add 60 = .ok (.isub, 1) := by decide +kernel
theorem dX4_add_61 : decode cX4_add 61 = .ok (.ireturn, 1) := by decide +kernel
theorem dX4_read_0 : decode cX4_read 0 = .ok (.aload_n 0, 1) := by decide +kernel
theorem dX4_read_1 : decode cX4_read 1 = .ok (.getfield 19, 3) := by decide +kernel
theorem dX4_read_4 : decode cX4_read 4 = .ok (.iload_n 1, 1) := by decide +kernel
theorem dX4_read_5 : decode cX4_read 5 = .ok (.bipush 10, 2) := by decide +kernel
theorem dX4_read_7 : decode cX4_read 7 = .ok (.imul, 1) := by decide +kernel
theorem dX4_read_8 : decode cX4_read 8 = .ok (.iload_n 2, 1) := by decide +kernel
theorem dX4_read_9 : decode cX4_read 9 = .ok (.iadd, 1) := by decide +kernel
theorem dX4_read_10 : decode cX4_read 10 = .ok (.iload_n 3, 1) := by decide +kernel
theorem dX4_read_11 : decode cX4_read 11 = .ok (.iastore, 1) := by decide +kernel
theorem dX4_read_12 : decode cX4_read 12 = .ok (.return_, 1) := by decide +kernel
theorem dX4_lightEnd_0 : decode cX4_lightEnd 0 = .ok (.aload_n 0, 1) := by decide +kernel
theorem dX4_lightEnd_1 : decode cX4_lightEnd 1 = .ok (.getfield 19, 3) := by decide +kernel
theorem dX4_lightEnd_4 : decode cX4_lightEnd 4 = .ok (.iload_n 1, 1) := by decide +kernel
theorem dX4_lightEnd_5 : decode cX4_lightEnd 5 = .ok (.bipush 10, 2) := by decide +kernel
theorem dX4_lightEnd_7 : decode cX4_lightEnd 7 = .ok (.imul, 1) := by decide +kernel
theorem dX4_lightEnd_8 : decode cX4_lightEnd 8 = .ok (.iload_n 2, 1) := by decide +kernel
theorem dX4_lightEnd_9 : decode cX4_lightEnd 9 = .ok (.iadd, 1) := by decide +kernel
theorem dX4_lightEnd_10 : decode cX4_lightEnd 10 = .ok (.iaload, 1) := by decide +kernel
theorem dX4_lightEnd_11 : decode cX4_lightEnd 11 = .ok (.istore 4, 2) := by decide +kernel
theorem dX4_lightEnd_13 : decode cX4_lightEnd 13 = .ok (.iload 4, 2) := by decide +kernel
theorem dX4_lightEnd_15 : decode cX4_lightEnd 15 = .ok (.iconst (-1), 1) := by decide +kernel
theorem dX4_lightEnd_16 : decode cX4_lightEnd 16 = .ok (.if_icmp .eq 6, 3) := by decide +kernel
theorem dX4_lightEnd_19 : decode cX4_lightEnd 19 = .ok (.iload 4, 2) := by decide +kernel
theorem dX4_lightEnd_21 : decode cX4_lightEnd 21 = .ok (.ireturn, 1) := by decide +kernel
theorem dX4_lightEnd_22 : decode cX4_lightEnd 22 = .ok (.iload_n 3, 1) := by decide +kernel
theorem dX4_lightEnd_23 : decode cX4_lightEnd 23 = .ok (.ifCond .eq 12, 3) := by decide +kernel
theorem dX4_lightEnd_26 : decode cX4_lightEnd 26 = .ok (.aload_n 0, 1) := by decide +kernel
theorem dX4_lightEnd_27 : decode cX4_lightEnd 27 = .ok (.getfield 15, 3) := by decide +kernel
theorem dX4_lightEnd_30 : decode cX4_lightEnd 30 = .ok (.iload_n 1, 1) := by decide +kernel
theorem dX4_lightEnd_31 : decode cX4_lightEnd 31 = .ok (.iaload, 1) := by decide +kernel
theorem dX4_lightEnd_32 : decode cX4_lightEnd 32 = .ok (.goto 4, 3) := by decide +kernel
theorem dX4_lightEnd_35 : decode cX4_lightEnd 35 = .ok (.iconst 0, 1) := by decide +kernel
theorem dX4_lightEnd_36 : decode cX4_lightEnd 36 = .ok (.ireturn, 1) := by decide +kernel
theorem dX4_countReadings_0 : decode cX4_countReadings 0 = .ok (.iconst 0, 1) := by decide +kernel
theorem dX4_countReadings_1 : decode cX4_countReadings 1 = .ok (.istore_n 1, 1) := by decide +kernel
theorem dX4_countReadings_2 : decode cX4_countReadings 2 = .ok (.iconst 0, 1) := by decide +kernel
theorem dX4_countReadings_3 : decode cX4_countReadings 3 = .ok (.istore_n 2, 1) := by decide +kernel
theorem dX4_countReadings_4 : decode cX4_countReadings 4 = .ok (.iload_n 2, 1) := by decide +kernel
theorem dX4_countReadings_5 : decode cX4_countReadings 5 = .ok (.aload_n 0, 1) := by decide +kernel
theorem dX4_countReadings_6 : decode cX4_countReadings 6 = .ok (.getfield 9, 3) := by decide +kernel
theorem dX4_countReadings_9 : decode cX4_countReadings 9 = .ok (.bipush 10, 2) := by decide +kernel
theorem dX4_countReadings_11 : decode cX4_countReadings 11 = .ok (.imul, 1) := by decide +kernel
theorem dX4_countReadings_12 : decode cX4_countReadings 12 = .ok (.if_icmp .ge 22, 3) := by decide +kernel
theorem dX4_countReadings_15 : decode cX4_countReadings 15 = .ok (.aload_n 0, 1) := by decide +kernel
theorem dX4_countReadings_16 : decode cX4_countReadings 16 = .ok (.getfield 19, 3) := by decide +kernel
theorem dX4_countReadings_19 : decode cX4_countReadings 19 = .ok (.iload_n 2, 1) := by decide +kernel
theorem dX4_countReadings_20 : decode cX4_countReadings 20 = .ok (.iaload, 1) := by decide +kernel
theorem dX4_countReadings_21 : decode cX4_countReadings 21 = .ok (.iconst (-1), 1) := by decide +kernel
theorem dX4_countReadings_22 : decode cX4_countReadings 22 = .ok (.if_icmp .eq 6, 3) := by decide +kernel
theorem dX4_countReadings_25 : decode cX4_countReadings 25 = .ok (.iinc 1 1, 3) := by decide +kernel
theorem dX4_countReadings_28 : decode cX4_countReadings 28 = .ok (.iinc 2 1, 3) := by decide +kernel
theorem dX4_countReadings_31 : decode cX4_countReadings 31 = .ok (.goto (-27), 3) := by decide +kernel
theorem dX4_countReadings_34 : decode cX4_countReadings 34 = .ok (.iload_n 1, 1) := by decide +kernel
theorem dX4_countReadings_35 : decode cX4_countReadings 35 = .ok (.ireturn, 1) := by decide +kernel
theorem dX4_copyFrom_0 : decode cX4_copyFrom 0 = .ok (.aload_n 0, 1) := by decide +kernel
theorem dX4_copyFrom_1 : decode cX4_copyFrom 1 = .ok (.aload_n 1, 1) := by decide +kernel
theorem dX4_copyFrom_2 : decode cX4_copyFrom 2 = .ok (.getfield 9, 3) := by decide +kernel
theorem dX4_copyFrom_5 : decode cX4_copyFrom 5 = .ok (.putfield 9, 3) := by decide +kernel
theorem dX4_copyFrom_8 : decode cX4_copyFrom 8 = .ok (.aload_n 1, 1) := by decide +kernel
theorem dX4_copyFrom_9 : decode cX4_copyFrom 9 = .ok (.getfield 15, 3) := by decide +kernel
theorem dX4_copyFrom_12 : decode cX4_copyFrom 12 = .ok (.aload_n 0, 1) := by decide +kernel
theorem dX4_copyFrom_13 : decode cX4_copyFrom 13 = .ok (.getfield 15, 3) := by decide +kernel
theorem dX4_copyFrom_16 : decode cX4_copyFrom 16 = .ok (.invokestatic 26, 3) := by decide +kernel
theorem dX4_copyFrom_19 : decode cX4_copyFrom 19 = .ok (.aload_n 1, 1) := by decide +kernel
theorem dX4_copyFrom_20 : decode cX4_copyFrom 20 = .ok (.getfield 19, 3) := by decide +kernel
theorem dX4_copyFrom_23 : decode cX4_copyFrom 23 = .ok (.aload_n 0, 1) := by decide +kernel
theorem dX4_copyFrom_24 : decode cX4_copyFrom 24 = .ok (.getfield 19, 3) := by decide +kernel
theorem dX4_copyFrom_27 : decode cX4_copyFrom 27 = .ok (.invokestatic 26, 3) := by decide +kernel
theorem dX4_copyFrom_30 : decode cX4_copyFrom 30 = .ok (.return_, 1) := by decide +kernel
theorem dX5_init_0 : decode cX5_init 0 = .ok (.aload_n 0, 1) := by decide +kernel
theorem dX5_init_1 : decode cX5_init 1 = .ok (.invokespecial 3, 3) := by decide +kernel
theorem dX5_init_4 : decode cX5_init 4 = .ok (.aload_n 0, 1) := by decide +kernel
theorem dX5_init_5 : decode cX5_init 5 = .ok (.iconst 0, 1) := by decide +kernel
theorem dX5_init_6 : decode cX5_init 6 = .ok (.putfield 9, 3) := by decide +kernel
theorem dX5_init_9 : decode cX5_init 9 = .ok (.aload_n 0, 1) := by decide +kernel
theorem dX5_init_10 : decode cX5_init 10 = .ok (.bipush 8, 2) := by decide +kernel
theorem dX5_init_12 : decode cX5_init 12 = .ok (.newarray .int, 2) := by decide +kernel
theorem dX5_init_14 : decode cX5_init 14 = .ok (.putfield 15, 3) := by decide +kernel
theorem dX5_init_17 : decode cX5_init 17 = .ok (.aload_n 0, 1) := by decide +kernel
theorem dX5_init_18 : decode cX5_init 18 = .ok (.bipush 8, 2) := by decide +kernel
theorem dX5_init_20 : decode cX5_init 20 = .ok (.newarray .int, 2) := by decide +kernel
theorem dX5_init_22 : decode cX5_init 22 = .ok (.putfield 19, 3) := by decide +kernel
theorem dX5_init_25 : decode cX5_init 25 = .ok (.aload_n 0, 1) := by decide +kernel
theorem dX5_init_26 : decode cX5_init 26 = .ok (.bipush 8, 2) := by decide +kernel
theorem dX5_init_28 : decode cX5_init 28 = .ok (.newarray .int, 2) := by decide +kernel
theorem dX5_init_30 : decode cX5_init 30 = .ok (.putfield 22, 3) := by decide +kernel
theorem dX5_init_33 : decode cX5_init 33 = .ok (.aload_n 0, 1) := by decide +kernel
theorem dX5_init_34 : decode cX5_init 34 = .ok (.bipush 8, 2) := by decide +kernel
theorem dX5_init_36 : decode cX5_init 36 = .ok (.newarray .int, 2) := by decide +kernel
theorem dX5_init_38 : decode cX5_init 38 = .ok (.putfield 25, 3) := by decide +kernel
theorem dX5_init_41 : decode cX5_init 41 = .ok (.aload_n 0, 1) := by decide +kernel
theorem dX5_init_42 : decode cX5_init 42 = .ok (.bipush 8, 2) := by decide +kernel
theorem dX5_init_44 : decode cX5_init 44 = .ok (.newarray .int, 2) := by decide +kernel
theorem dX5_init_46 : decode cX5_init 46 = .ok (.putfield 28, 3) := by decide +kernel
theorem dX5_init_49 : decode cX5_init 49 = .ok (.aload_n 0, 1) := by decide +kernel
theorem dX5_init_50 : decode cX5_init 50 = .ok (.bipush 8, 2) := by decide +kernel
theorem dX5_init_52 : decode cX5_init 52 = .ok (.newarray .int, 2) := by decide +kernel
theorem dX5_init_54 : decode cX5_init 54 = .ok (.putfield 31, 3) := by decide +kernel
theorem dX5_init_57 : decode cX5_init 57 = .ok (.aload_n 0, 1) := by decide +kernel
theorem dX5_init_58 : decode cX5_init 58 = .ok (.bipush 8, 2) := by decide +kernel
theorem dX5_init_60 : decode cX5_init 60 = .ok (.newarray .int, 2) := by decide +kernel
theorem dX5_init_62 : decode cX5_init 62 = .ok (.putfield 34, 3) := by decide +kernel
theorem dX5_init_65 : decode cX5_init 65 = .ok (.return_, 1) := by decide +kernel
theorem dX5_has_0 : decode cX5_has 0 = .ok (.iload_n 1, 1) := by decide +kernel
theorem dX5_has_1 : decode cX5_has 1 = .ok (.ifCond .lt 15, 3) := by decide +kernel
theorem dX5_has_4 : decode cX5_has 4 = .ok (.iload_n 1, 1) := by decide +kernel
theorem dX5_has_5 : decode cX5_has 5 = .ok (.aload_n 0, 1) := by decide +kernel
theorem dX5_has_6 : decode cX5_has 6 = .ok (.getfield 9, 3) := by decide +kernel
theorem dX5_has_9 : decode cX5_has 9 = .ok (.if_icmp .ge 7, 3) := by decide +kernel
theorem dX5_has_12 : decode cX5_has 12 = .ok (.iconst 1, 1) := by decide +kernel
theorem dX5_has_13 : decode cX5_has 13 = .ok (.goto 4, 3) := by decide +kernel
theorem dX5_has_16 : decode cX5_has 16 = .ok (.iconst 0, 1) := by decide +kernel
theorem dX5_has_17 : decode cX5_has 17 = .ok (.ireturn, 1) := by decide +kernel
theorem dX5_add_0 : decode cX5_add 0 = .ok (.aload_n 0, 1) := by decide +kernel
theorem dX5_add_1 : decode cX5_add 1 = .ok (.getfield 9, 3) := by decide +kernel
theorem dX5_add_4 : decode cX5_add 4 = .ok (.bipush 8, 2) := by decide +kernel
theorem dX5_add_6 : decode cX5_add 6 = .ok (.if_icmp .lt 6, 3) := by decide +kernel
theorem dX5_add_9 : decode cX5_add 9 = .ok (.bipush (-2), 2) := by decide +kernel
theorem dX5_add_11 : decode cX5_add 11 = .ok (.ireturn, 1) := by decide +kernel
theorem dX5_add_12 : decode cX5_add 12 = .ok (.aload_n 0, 1) := by decide +kernel
theorem dX5_add_13 : decode cX5_add 13 = .ok (.getfield 15, 3) := by decide +kernel
theorem dX5_add_16 : decode cX5_add 16 = .ok (.aload_n 0, 1) := by decide +kernel
theorem dX5_add_17 : decode cX5_add 17 = .ok (.getfield 9, 3) := by decide +kernel
theorem dX5_add_20 : decode cX5_add 20 = .ok (.iload_n 1, 1) := by decide +kernel
theorem dX5_add_21 : decode cX5_add 21 = .ok (.iastore, 1) := by decide +kernel
theorem dX5_add_22 : decode cX5_add 22 = .ok (.aload_n 0, 1) := by decide +kernel
theorem dX5_add_23 : decode cX5_add 23 = .ok (.getfield 19, 3) := by decide +kernel
theorem dX5_add_26 : decode cX5_add 26 = .ok (.aload_n 0, 1) := by decide +kernel
theorem dX5_add_27 : decode cX5_add 27 = .ok (.getfield 9, 3) := by decide +kernel
theorem dX5_add_30 : decode cX5_add 30 = .ok (.iload_n 2, 1) := by decide +kernel
theorem dX5_add_31 : decode cX5_add 31 = .ok (.iastore, 1) := by decide +kernel
theorem dX5_add_32 : decode cX5_add 32 = .ok (.aload_n 0, 1) := by decide +kernel
theorem dX5_add_33 : decode cX5_add 33 = .ok (.getfield 22, 3) := by decide +kernel
theorem dX5_add_36 : decode cX5_add 36 = .ok (.aload_n 0, 1) := by decide +kernel
theorem dX5_add_37 : decode cX5_add 37 = .ok (.getfield 9, 3) := by decide +kernel
theorem dX5_add_40 : decode cX5_add 40 = .ok (.iload_n 3, 1) := by decide +kernel
theorem dX5_add_41 : decode cX5_add 41 = .ok (.iastore, 1) := by decide +kernel
theorem dX5_add_42 : decode cX5_add 42 = .ok (.aload_n 0, 1) := by decide +kernel
theorem dX5_add_43 : decode cX5_add 43 = .ok (.getfield 25, 3) := by decide +kernel
theorem dX5_add_46 : decode cX5_add 46 = .ok (.aload_n 0, 1) := by decide +kernel
theorem dX5_add_47 : decode cX5_add 47 = .ok (.getfield 9, 3) := by decide +kernel
theorem dX5_add_50 : decode cX5_add 50 = .ok (.iload 4, 2) := by decide +kernel
theorem dX5_add_52 : decode cX5_add 52 = .ok (.iastore, 1) := by decide +kernel
theorem dX5_add_53 : decode cX5_add 53 = .ok (.aload_n 0, 1) := by decide +kernel
theorem dX5_add_54 : decode cX5_add 54 = .ok (.getfield 28, 3) := by decide +kernel
theorem dX5_add_57 : decode cX5_add 57 = .ok (.aload_n 0, 1) := by decide +kernel
theorem dX5_add_58 : decode cX5_add 58 = .ok (.getfield 9, 3) := by decide +kernel
theorem dX5_add_61 : decode cX5_add 61 = .ok (.bipush (-4), 2) := by decide +kernel
theorem dX5_add_63 : decode cX5_add 63 = .ok (.iastore, 1) := by decide +kernel
theorem dX5_add_64 : decode cX5_add 64 = .ok (.aload_n 0, 1) := by decide +kernel
theorem dX5_add_65 : decode cX5_add 65 = .ok (.getfield 31, 3) := by decide +kernel
theorem dX5_add_68 : decode cX5_add 68 = .ok (.aload_n 0, 1) := by decide +kernel
theorem dX5_add_69 : decode cX5_add 69 = .ok (.getfield 9, 3) := by decide +kernel
theorem dX5_add_72 : decode cX5_add 72 = .ok (.iconst 0, 1) := by decide +kernel
theorem dX5_add_73 : decode cX5_add 73 = .ok (.iastore, 1) := by decide +kernel
theorem dX5_add_74 : decode cX5_add 74 = .ok (.aload_n 0, 1) := by decide +kernel
theorem dX5_add_75 : decode cX5_add 75 = .ok (.getfield 34, 3) := by decide +kernel
theorem dX5_add_78 : decode cX5_add 78 = .ok (.aload_n 0, 1) := by decide +kernel
theorem dX5_add_79 : decode cX5_add 79 = .ok (.getfield 9, 3) := by decide +kernel
theorem dX5_add_82 : decode cX5_add 82 = .ok (.iconst 0, 1) := by decide +kernel
theorem dX5_add_83 : decode cX5_add 83 = .ok (.iastore, 1) := by decide +kernel
theorem dX5_add_84 : decode cX5_add 84 = .ok (.aload_n 0, 1) := by decide +kernel
theorem dX5_add_85 : decode cX5_add 85 = .ok (.dup, 1) := by decide +kernel
theorem dX5_add_86 : decode cX5_add 86 = .ok (.getfield 9, 3) := by decide +kernel
theorem dX5_add_89 : decode cX5_add 89 = .ok (.iconst 1, 1) := by decide +kernel
theorem dX5_add_90 : decode cX5_add 90 = .ok (.iadd, 1) := by decide +kernel
theorem dX5_add_91 : decode cX5_add 91 = .ok (.putfield 9, 3) := by decide +kernel
theorem dX5_add_94 : decode cX5_add 94 = .ok (.aload_n 0, 1) := by decide +kernel
theorem dX5_add_95 : decode cX5_add 95 = .ok (.getfield 9, 3) := by decide +kernel
theorem dX5_add_98 : decode cX5_add 98 = .ok (.iconst 1, 1) := by decide +kernel
theorem dX5_add_99 : decode cX5_add 99 = .ok (.isub, 1) := by decide +kernel
theorem dX5_add_100 : decode cX5_add 100 = .ok (.ireturn, 1) := by decide +kernel
theorem dX5_hasTheme_0 : decode cX5_hasTheme 0 = .ok (.aload_n 0, 1) := by decide +kernel
theorem dX5_hasTheme_1 : decode cX5_hasTheme 1 = .ok (.getfield 19, 3) := by decide +kernel
theorem dX5_hasTheme_4 : decode cX5_hasTheme 4 = .ok (.iload_n 1, 1) := by decide +kernel
theorem dX5_hasTheme_5 : decode cX5_hasTheme 5 = .ok (.iaload, 1) := by decide +kernel
theorem dX5_hasTheme_6 : decode cX5_hasTheme 6 = .ok (.iload_n 2, 1) := by decide +kernel
theorem dX5_hasTheme_7 : decode cX5_hasTheme 7 = .ok (.ishr, 1) := by decide +kernel
theorem dX5_hasTheme_8 : decode cX5_hasTheme 8 = .ok (.iconst 1, 1) := by decide +kernel
theorem dX5_hasTheme_9 : decode cX5_hasTheme 9 = .ok (.iand, 1) := by decide +kernel
theorem dX5_hasTheme_10 : decode cX5_hasTheme 10 = .ok (.iconst 1, 1) := by decide +kernel
theorem dX5_hasTheme_11 : decode cX5_hasTheme 11 = .ok (.if_icmp .ne 7, 3) := by decide +kernel
theorem dX5_hasTheme_14 : decode cX5_hasTheme 14 = .ok (.iconst 1, 1) := by decide +kernel
theorem dX5_hasTheme_15 : decode cX5_hasTheme 15 = .ok (.goto 4, 3) := by decide +kernel
theorem dX5_hasTheme_18 : decode cX5_hasTheme 18 = .ok (.iconst 0, 1) := by decide +kernel
theorem dX5_hasTheme_19 : decode cX5_hasTheme 19 = .ok (.ireturn, 1) := by decide +kernel
theorem dX5_copyFrom_0 : decode cX5_copyFrom 0 = .ok (.aload_n 0, 1) := by decide +kernel
theorem dX5_copyFrom_1 : decode cX5_copyFrom 1 = .ok (.aload_n 1, 1) := by decide +kernel
theorem dX5_copyFrom_2 : decode cX5_copyFrom 2 = .ok (.getfield 9, 3) := by decide +kernel
theorem dX5_copyFrom_5 : decode cX5_copyFrom 5 = .ok (.putfield 9, 3) := by decide +kernel
theorem dX5_copyFrom_8 : decode cX5_copyFrom 8 = .ok (.aload_n 1, 1) := by decide +kernel
theorem dX5_copyFrom_9 : decode cX5_copyFrom 9 = .ok (.getfield 15, 3) := by decide +kernel
theorem dX5_copyFrom_12 : decode cX5_copyFrom 12 = .ok (.aload_n 0, 1) := by decide +kernel
theorem dX5_copyFrom_13 : decode cX5_copyFrom 13 = .ok (.getfield 15, 3) := by decide +kernel
theorem dX5_copyFrom_16 : decode cX5_copyFrom 16 = .ok (.invokestatic 37, 3) := by decide +kernel
theorem dX5_copyFrom_19 : decode cX5_copyFrom 19 = .ok (.aload_n 1, 1) := by decide +kernel
theorem dX5_copyFrom_20 : decode cX5_copyFrom 20 = .ok (.getfield 19, 3) := by decide +kernel
theorem dX5_copyFrom_23 : decode cX5_copyFrom 23 = .ok (.aload_n 0, 1) := by decide +kernel
theorem dX5_copyFrom_24 : decode cX5_copyFrom 24 = .ok (.getfield 19, 3) := by decide +kernel
theorem dX5_copyFrom_27 : decode cX5_copyFrom 27 = .ok (.invokestatic 37, 3) := by decide +kernel
theorem dX5_copyFrom_30 : decode cX5_copyFrom 30 = .ok (.aload_n 1, 1) := by decide +kernel
theorem dX5_copyFrom_31 : decode cX5_copyFrom 31 = .ok (.getfield 22, 3) := by decide +kernel
theorem dX5_copyFrom_34 : decode cX5_copyFrom 34 = .ok (.aload_n 0, 1) := by decide +kernel
theorem dX5_copyFrom_35 : decode cX5_copyFrom 35 = .ok (.getfield 22, 3) := by decide +kernel
theorem dX5_copyFrom_38 : decode cX5_copyFrom 38 = .ok (.invokestatic 37, 3) := by decide +kernel
theorem dX5_copyFrom_41 : decode cX5_copyFrom 41 = .ok (.aload_n 1, 1) := by decide +kernel
theorem dX5_copyFrom_42 : decode cX5_copyFrom 42 = .ok (.getfield 25, 3) := by decide +kernel
theorem dX5_copyFrom_45 : decode cX5_copyFrom 45 = .ok (.aload_n 0, 1) := by decide +kernel
theorem dX5_copyFrom_46 : decode cX5_copyFrom 46 = .ok (.getfield 25, 3) := by decide +kernel
theorem dX5_copyFrom_49 : decode cX5_copyFrom 49 = .ok (.invokestatic 37, 3) := by decide +kernel
theorem dX5_copyFrom_52 : decode cX5_copyFrom 52 = .ok (.aload_n 1, 1) := by decide +kernel
theorem dX5_copyFrom_53 : decode cX5_copyFrom 53 = .ok (.getfield 28, 3) := by decide +kernel
theorem dX5_copyFrom_56 : decode cX5_copyFrom 56 = .ok (.aload_n 0, 1) := by decide +kernel
theorem dX5_copyFrom_57 : decode cX5_copyFrom 57 = .ok (.getfield 28, 3) := by decide +kernel
theorem dX5_copyFrom_60 : decode cX5_copyFrom 60 = .ok (.invokestatic 37, 3) := by decide +kernel
theorem dX5_copyFrom_63 : decode cX5_copyFrom 63 = .ok (.aload_n 1, 1) := by decide +kernel
theorem dX5_copyFrom_64 : decode cX5_copyFrom 64 = .ok (.getfield 31, 3) := by decide +kernel
theorem dX5_copyFrom_67 : decode cX5_copyFrom 67 = .ok (.aload_n 0, 1) := by decide +kernel
theorem dX5_copyFrom_68 : decode cX5_copyFrom 68 = .ok (.getfield 31, 3) := by decide +kernel
theorem dX5_copyFrom_71 : decode cX5_copyFrom 71 = .ok (.invokestatic 37, 3) := by decide +kernel
theorem dX5_copyFrom_74 : decode cX5_copyFrom 74 = .ok (.aload_n 1, 1) := by decide +kernel
theorem dX5_copyFrom_75 : decode cX5_copyFrom 75 = .ok (.getfield 34, 3) := by decide +kernel
theorem dX5_copyFrom_78 : decode cX5_copyFrom 78 = .ok (.aload_n 0, 1) := by decide +kernel
theorem dX5_copyFrom_79 : decode cX5_copyFrom 79 = .ok (.getfield 34, 3) := by decide +kernel
theorem dX5_copyFrom_82 : decode cX5_copyFrom 82 = .ok (.invokestatic 37, 3) := by decide +kernel
theorem dX5_copyFrom_85 : decode cX5_copyFrom 85 = .ok (.return_, 1) := by decide +kernel
theorem dX6_init_0 : decode cX6_init 0 = .ok (.aload_n 0, 1) := by decide +kernel
theorem dX6_init_1 : decode cX6_init 1 = .ok (.invokespecial 3, 3) := by decide +kernel
theorem dX6_init_4 : decode cX6_init 4 = .ok (.aload_n 0, 1) := by decide +kernel
theorem dX6_init_5 : decode cX6_init 5 = .ok (.iconst 0, 1) := by decide +kernel
theorem dX6_init_6 : decode cX6_init 6 = .ok (.putfield 9, 3) := by decide +kernel
theorem dX6_init_9 : decode cX6_init 9 = .ok (.aload_n 0, 1) := by decide +kernel
theorem dX6_init_10 : decode cX6_init 10 = .ok (.bipush 12, 2) := by decide +kernel
theorem dX6_init_12 : decode cX6_init 12 = .ok (.newarray .int, 2) := by decide +kernel
theorem dX6_init_14 : decode cX6_init 14 = .ok (.putfield 15, 3) := by decide +kernel
theorem dX6_init_17 : decode cX6_init 17 = .ok (.aload_n 0, 1) := by decide +kernel
theorem dX6_init_18 : decode cX6_init 18 = .ok (.bipush 12, 2) := by decide +kernel
theorem dX6_init_20 : decode cX6_init 20 = .ok (.newarray .int, 2) := by decide +kernel
theorem dX6_init_22 : decode cX6_init 22 = .ok (.putfield 19, 3) := by decide +kernel
theorem dX6_init_25 : decode cX6_init 25 = .ok (.aload_n 0, 1) := by decide +kernel
theorem dX6_init_26 : decode cX6_init 26 = .ok (.bipush 12, 2) := by decide +kernel
theorem dX6_init_28 : decode cX6_init 28 = .ok (.newarray .int, 2) := by decide +kernel
theorem dX6_init_30 : decode cX6_init 30 = .ok (.putfield 22, 3) := by decide +kernel
theorem dX6_init_33 : decode cX6_init 33 = .ok (.return_, 1) := by decide +kernel
theorem dX6_add_0 : decode cX6_add 0 = .ok (.aload_n 0, 1) := by decide +kernel
theorem dX6_add_1 : decode cX6_add 1 = .ok (.getfield 9, 3) := by decide +kernel
theorem dX6_add_4 : decode cX6_add 4 = .ok (.bipush 12, 2) := by decide +kernel
theorem dX6_add_6 : decode cX6_add 6 = .ok (.if_icmp .lt 6, 3) := by decide +kernel
theorem dX6_add_9 : decode cX6_add 9 = .ok (.bipush (-2), 2) := by decide +kernel
theorem dX6_add_11 : decode cX6_add 11 = .ok (.ireturn, 1) := by decide +kernel
theorem dX6_add_12 : decode cX6_add 12 = .ok (.aload_n 0, 1) := by decide +kernel
theorem dX6_add_13 : decode cX6_add 13 = .ok (.getfield 15, 3) := by decide +kernel
theorem dX6_add_16 : decode cX6_add 16 = .ok (.aload_n 0, 1) := by decide +kernel
theorem dX6_add_17 : decode cX6_add 17 = .ok (.getfield 9, 3) := by decide +kernel
theorem dX6_add_20 : decode cX6_add 20 = .ok (.iload_n 1, 1) := by decide +kernel
theorem dX6_add_21 : decode cX6_add 21 = .ok (.iastore, 1) := by decide +kernel
theorem dX6_add_22 : decode cX6_add 22 = .ok (.aload_n 0, 1) := by decide +kernel
theorem dX6_add_23 : decode cX6_add 23 = .ok (.getfield 19, 3) := by decide +kernel
theorem dX6_add_26 : decode cX6_add 26 = .ok (.aload_n 0, 1) := by decide +kernel
theorem dX6_add_27 : decode cX6_add 27 = .ok (.getfield 9, 3) := by decide +kernel
theorem dX6_add_30 : decode cX6_add 30 = .ok (.iload_n 2, 1) := by decide +kernel
theorem dX6_add_31 : decode cX6_add 31 = .ok (.iastore, 1) := by decide +kernel
theorem dX6_add_32 : decode cX6_add 32 = .ok (.aload_n 0, 1) := by decide +kernel
theorem dX6_add_33 : decode cX6_add 33 = .ok (.getfield 22, 3) := by decide +kernel
theorem dX6_add_36 : decode cX6_add 36 = .ok (.aload_n 0, 1) := by decide +kernel
theorem dX6_add_37 : decode cX6_add 37 = .ok (.getfield 9, 3) := by decide +kernel
theorem dX6_add_40 : decode cX6_add 40 = .ok (.iload_n 3, 1) := by decide +kernel
theorem dX6_add_41 : decode cX6_add 41 = .ok (.iastore, 1) := by decide +kernel
theorem dX6_add_42 : decode cX6_add 42 = .ok (.aload_n 0, 1) := by decide +kernel
theorem dX6_add_43 : decode cX6_add 43 = .ok (.dup, 1) := by decide +kernel
theorem dX6_add_44 : decode cX6_add 44 = .ok (.getfield 9, 3) := by decide +kernel
theorem dX6_add_47 : decode cX6_add 47 = .ok (.iconst 1, 1) := by decide +kernel
theorem dX6_add_48 : decode cX6_add 48 = .ok (.iadd, 1) := by decide +kernel
theorem dX6_add_49 : decode cX6_add 49 = .ok (.putfield 9, 3) := by decide +kernel
theorem dX6_add_52 : decode cX6_add 52 = .ok (.aload_n 0, 1) := by decide +kernel
theorem dX6_add_53 : decode cX6_add 53 = .ok (.getfield 9, 3) := by decide +kernel
theorem dX6_add_56 : decode cX6_add 56 = .ok (.iconst 1, 1) := by decide +kernel
theorem dX6_add_57 : decode cX6_add 57 = .ok (.isub, 1) := by decide +kernel
theorem dX6_add_58 : decode cX6_add 58 = .ok (.ireturn, 1) := by decide +kernel
theorem dX6_countOf_0 : decode cX6_countOf 0 = .ok (.iconst 0, 1) := by decide +kernel
theorem dX6_countOf_1 : decode cX6_countOf 1 = .ok (.istore_n 2, 1) := by decide +kernel
theorem dX6_countOf_2 : decode cX6_countOf 2 = .ok (.iconst 0, 1) := by decide +kernel
theorem dX6_countOf_3 : decode cX6_countOf 3 = .ok (.istore_n 3, 1) := by decide +kernel
theorem dX6_countOf_4 : decode cX6_countOf 4 = .ok (.iload_n 3, 1) := by decide +kernel
theorem dX6_countOf_5 : decode cX6_countOf 5 = .ok (.aload_n 0, 1) := by decide +kernel
theorem dX6_countOf_6 : decode cX6_countOf 6 = .ok (.getfield 9, 3) := by decide +kernel
theorem dX6_countOf_9 : decode cX6_countOf 9 = .ok (.if_icmp .ge 22, 3) := by decide +kernel
theorem dX6_countOf_12 : decode cX6_countOf 12 = .ok (.aload_n 0, 1) := by decide +kernel
theorem dX6_countOf_13 : decode cX6_countOf 13 = .ok (.getfield 15, 3) := by decide +kernel
theorem dX6_countOf_16 : decode cX6_countOf 16 = .ok (.iload_n 3, 1) := by decide +kernel
theorem dX6_countOf_17 : decode cX6_countOf 17 = .ok (.iaload, 1) := by decide +kernel
theorem dX6_countOf_18 : decode cX6_countOf 18 = .ok (.iload_n 1, 1) := by decide +kernel
theorem dX6_countOf_19 : decode cX6_countOf 19 = .ok (.if_icmp .ne 6, 3) := by decide +kernel
theorem dX6_countOf_22 : decode cX6_countOf 22 = .ok (.iinc 2 1, 3) := by decide +kernel
theorem dX6_countOf_25 : decode cX6_countOf 25 = .ok (.iinc 3 1, 3) := by decide +kernel
theorem dX6_countOf_28 : decode cX6_countOf 28 = .ok (.goto (-24), 3) := by decide +kernel
theorem dX6_countOf_31 : decode cX6_countOf 31 = .ok (.iload_n 2, 1) := by decide +kernel
theorem dX6_countOf_32 : decode cX6_countOf 32 = .ok (.ireturn, 1) := by decide +kernel
theorem dX6_copyFrom_0 : decode cX6_copyFrom 0 = .ok (.aload_n 0, 1) := by decide +kernel
theorem dX6_copyFrom_1 : decode cX6_copyFrom 1 = .ok (.aload_n 1, 1) := by decide +kernel
theorem dX6_copyFrom_2 : decode cX6_copyFrom 2 = .ok (.getfield 9, 3) := by decide +kernel
theorem dX6_copyFrom_5 : decode cX6_copyFrom 5 = .ok (.putfield 9, 3) := by decide +kernel
theorem dX6_copyFrom_8 : decode cX6_copyFrom 8 = .ok (.aload_n 1, 1) := by decide +kernel
theorem dX6_copyFrom_9 : decode cX6_copyFrom 9 = .ok (.getfield 15, 3) := by decide +kernel
theorem dX6_copyFrom_12 : decode cX6_copyFrom 12 = .ok (.aload_n 0, 1) := by decide +kernel
theorem dX6_copyFrom_13 : decode cX6_copyFrom 13 = .ok (.getfield 15, 3) := by decide +kernel
theorem dX6_copyFrom_16 : decode cX6_copyFrom 16 = .ok (.invokestatic 25, 3) := by decide +kernel
theorem dX6_copyFrom_19 : decode cX6_copyFrom 19 = .ok (.aload_n 1, 1) := by decide +kernel
theorem dX6_copyFrom_20 : decode cX6_copyFrom 20 = .ok (.getfield 19, 3) := by decide +kernel
theorem dX6_copyFrom_23 : decode cX6_copyFrom 23 = .ok (.aload_n 0, 1) := by decide +kernel
theorem dX6_copyFrom_24 : decode cX6_copyFrom 24 = .ok (.getfield 19, 3) := by decide +kernel
theorem dX6_copyFrom_27 : decode cX6_copyFrom 27 = .ok (.invokestatic 25, 3) := by decide +kernel
theorem dX6_copyFrom_30 : decode cX6_copyFrom 30 = .ok (.aload_n 1, 1) := by decide +kernel
theorem dX6_copyFrom_31 : decode cX6_copyFrom 31 = .ok (.getfield 22, 3) := by decide +kernel
theorem dX6_copyFrom_34 : decode cX6_copyFrom 34 = .ok (.aload_n 0, 1) := by decide +kernel
theorem dX6_copyFrom_35 : decode cX6_copyFrom 35 = .ok (.getfield 22, 3) := by decide +kernel
theorem dX6_copyFrom_38 : decode cX6_copyFrom 38 = .ok (.invokestatic 25, 3) := by decide +kernel
theorem dX6_copyFrom_41 : decode cX6_copyFrom 41 = .ok (.return_, 1) := by decide +kernel
theorem dX7_init_0 : decode cX7_init 0 = .ok (.aload_n 0, 1) := by decide +kernel
theorem dX7_init_1 : decode cX7_init 1 = .ok (.invokespecial 3, 3) := by decide +kernel
theorem dX7_init_4 : decode cX7_init 4 = .ok (.aload_n 0, 1) := by decide +kernel
theorem dX7_init_5 : decode cX7_init 5 = .ok (.iconst 0, 1) := by decide +kernel
theorem dX7_init_6 : decode cX7_init 6 = .ok (.putfield 9, 3) := by decide +kernel
theorem dX7_init_9 : decode cX7_init 9 = .ok (.aload_n 0, 1) := by decide +kernel
theorem dX7_init_10 : decode cX7_init 10 = .ok (.iconst 5, 1) := by decide +kernel
theorem dX7_init_11 : decode cX7_init 11 = .ok (.newarray .int, 2) := by decide +kernel
theorem dX7_init_13 : decode cX7_init 13 = .ok (.putfield 15, 3) := by decide +kernel
theorem dX7_init_16 : decode cX7_init 16 = .ok (.aload_n 0, 1) := by decide +kernel
theorem dX7_init_17 : decode cX7_init 17 = .ok (.iconst 5, 1) := by decide +kernel
theorem dX7_init_18 : decode cX7_init 18 = .ok (.newarray .int, 2) := by decide +kernel
theorem dX7_init_20 : decode cX7_init 20 = .ok (.putfield 19, 3) := by decide +kernel
theorem dX7_init_23 : decode cX7_init 23 = .ok (.aload_n 0, 1) := by decide +kernel
theorem dX7_init_24 : decode cX7_init 24 = .ok (.iconst 5, 1) := by decide +kernel
theorem dX7_init_25 : decode cX7_init 25 = .ok (.newarray .int, 2) := by decide +kernel
theorem dX7_init_27 : decode cX7_init 27 = .ok (.putfield 22, 3) := by decide +kernel
theorem dX7_init_30 : decode cX7_init 30 = .ok (.return_, 1) := by decide +kernel
theorem dX7_has_0 : decode cX7_has 0 = .ok (.iload_n 1, 1) := by decide +kernel
theorem dX7_has_1 : decode cX7_has 1 = .ok (.ifCond .lt 15, 3) := by decide +kernel
theorem dX7_has_4 : decode cX7_has 4 = .ok (.iload_n 1, 1) := by decide +kernel
theorem dX7_has_5 : decode cX7_has 5 = .ok (.aload_n 0, 1) := by decide +kernel
theorem dX7_has_6 : decode cX7_has 6 = .ok (.getfield 9, 3) := by decide +kernel
theorem dX7_has_9 : decode cX7_has 9 = .ok (.if_icmp .ge 7, 3) := by decide +kernel
theorem dX7_has_12 : decode cX7_has 12 = .ok (.iconst 1, 1) := by decide +kernel
theorem dX7_has_13 : decode cX7_has 13 = .ok (.goto 4, 3) := by decide +kernel
theorem dX7_has_16 : decode cX7_has 16 = .ok (.iconst 0, 1) := by decide +kernel
theorem dX7_has_17 : decode cX7_has 17 = .ok (.ireturn, 1) := by decide +kernel
theorem dX7_add_0 : decode cX7_add 0 = .ok (.aload_n 0, 1) := by decide +kernel
theorem dX7_add_1 : decode cX7_add 1 = .ok (.getfield 9, 3) := by decide +kernel
theorem dX7_add_4 : decode cX7_add 4 = .ok (.iconst 5, 1) := by decide +kernel
theorem dX7_add_5 : decode cX7_add 5 = .ok (.if_icmp .lt 6, 3) := by decide +kernel
theorem dX7_add_8 : decode cX7_add 8 = .ok (.bipush (-2), 2) := by decide +kernel
theorem dX7_add_10 : decode cX7_add 10 = .ok (.ireturn, 1) := by decide +kernel
theorem dX7_add_11 : decode cX7_add 11 = .ok (.aload_n 0, 1) := by decide +kernel
theorem dX7_add_12 : decode cX7_add 12 = .ok (.getfield 15, 3) := by decide +kernel
theorem dX7_add_15 : decode cX7_add 15 = .ok (.aload_n 0, 1) := by decide +kernel
theorem dX7_add_16 : decode cX7_add 16 = .ok (.getfield 9, 3) := by decide +kernel
theorem dX7_add_19 : decode cX7_add 19 = .ok (.iload_n 1, 1) := by decide +kernel
theorem dX7_add_20 : decode cX7_add 20 = .ok (.iastore, 1) := by decide +kernel
theorem dX7_add_21 : decode cX7_add 21 = .ok (.aload_n 0, 1) := by decide +kernel
theorem dX7_add_22 : decode cX7_add 22 = .ok (.getfield 19, 3) := by decide +kernel
theorem dX7_add_25 : decode cX7_add 25 = .ok (.aload_n 0, 1) := by decide +kernel
theorem dX7_add_26 : decode cX7_add 26 = .ok (.getfield 9, 3) := by decide +kernel
theorem dX7_add_29 : decode cX7_add 29 = .ok (.iload_n 2, 1) := by decide +kernel
theorem dX7_add_30 : decode cX7_add 30 = .ok (.iastore, 1) := by decide +kernel
theorem dX7_add_31 : decode cX7_add 31 = .ok (.aload_n 0, 1) := by decide +kernel
theorem dX7_add_32 : decode cX7_add 32 = .ok (.getfield 22, 3) := by decide +kernel
theorem dX7_add_35 : decode cX7_add 35 = .ok (.aload_n 0, 1) := by decide +kernel
theorem dX7_add_36 : decode cX7_add 36 = .ok (.getfield 9, 3) := by decide +kernel
theorem dX7_add_39 : decode cX7_add 39 = .ok (.iload_n 3, 1) := by decide +kernel
theorem dX7_add_40 : decode cX7_add 40 = .ok (.iastore, 1) := by decide +kernel
theorem dX7_add_41 : decode cX7_add 41 = .ok (.aload_n 0, 1) := by decide +kernel
theorem dX7_add_42 : decode cX7_add 42 = .ok (.dup, 1) := by decide +kernel
theorem dX7_add_43 : decode cX7_add 43 = .ok (.getfield 9, 3) := by decide +kernel
theorem dX7_add_46 : decode cX7_add 46 = .ok (.iconst 1, 1) := by decide +kernel
theorem dX7_add_47 : decode cX7_add 47 = .ok (.iadd, 1) := by decide +kernel
theorem dX7_add_48 : decode cX7_add 48 = .ok (.putfield 9, 3) := by decide +kernel
theorem dX7_add_51 : decode cX7_add 51 = .ok (.aload_n 0, 1) := by decide +kernel
theorem dX7_add_52 : decode cX7_add 52 = .ok (.getfield 9, 3) := by decide +kernel
theorem dX7_add_55 : decode cX7_add 55 = .ok (.iconst 1, 1) := by decide +kernel
theorem dX7_add_56 : decode cX7_add 56 = .ok (.isub, 1) := by decide +kernel
theorem dX7_add_57 : decode cX7_add 57 = .ok (.ireturn, 1) := by decide +kernel
theorem dX7_copyFrom_0 : decode cX7_copyFrom 0 = .ok (.aload_n 0, 1) := by decide +kernel
theorem dX7_copyFrom_1 : decode cX7_copyFrom 1 = .ok (.aload_n 1, 1) := by decide +kernel
theorem dX7_copyFrom_2 : decode cX7_copyFrom 2 = .ok (.getfield 9, 3) := by decide +kernel
theorem dX7_copyFrom_5 : decode cX7_copyFrom 5 = .ok (.putfield 9, 3) := by decide +kernel
theorem dX7_copyFrom_8 : decode cX7_copyFrom 8 = .ok (.aload_n 1, 1) := by decide +kernel
theorem dX7_copyFrom_9 : decode cX7_copyFrom 9 = .ok (.getfield 15, 3) := by decide +kernel
theorem dX7_copyFrom_12 : decode cX7_copyFrom 12 = .ok (.aload_n 0, 1) := by decide +kernel
theorem dX7_copyFrom_13 : decode cX7_copyFrom 13 = .ok (.getfield 15, 3) := by decide +kernel
theorem dX7_copyFrom_16 : decode cX7_copyFrom 16 = .ok (.invokestatic 25, 3) := by decide +kernel
theorem dX7_copyFrom_19 : decode cX7_copyFrom 19 = .ok (.aload_n 1, 1) := by decide +kernel
theorem dX7_copyFrom_20 : decode cX7_copyFrom 20 = .ok (.getfield 19, 3) := by decide +kernel
theorem dX7_copyFrom_23 : decode cX7_copyFrom 23 = .ok (.aload_n 0, 1) := by decide +kernel
theorem dX7_copyFrom_24 : decode cX7_copyFrom 24 = .ok (.getfield 19, 3) := by decide +kernel
theorem dX7_copyFrom_27 : decode cX7_copyFrom 27 = .ok (.invokestatic 25, 3) := by decide +kernel
theorem dX7_copyFrom_30 : decode cX7_copyFrom 30 = .ok (.aload_n 1, 1) := by decide +kernel
theorem dX7_copyFrom_31 : decode cX7_copyFrom 31 = .ok (.getfield 22, 3) := by decide +kernel
theorem dX7_copyFrom_34 : decode cX7_copyFrom 34 = .ok (.aload_n 0, 1) := by decide +kernel
theorem dX7_copyFrom_35 : decode cX7_copyFrom 35 = .ok (.getfield 22, 3) := by decide +kernel
theorem dX7_copyFrom_38 : decode cX7_copyFrom 38 = .ok (.invokestatic 25, 3) := by decide +kernel
theorem dX7_copyFrom_41 : decode cX7_copyFrom 41 = .ok (.return_, 1) := by decide +kernel
theorem dX8_init_0 : decode cX8_init 0 = .ok (.aload_n 0, 1) := by decide +kernel
theorem dX8_init_1 : decode cX8_init 1 = .ok (.invokespecial 1, 3) := by decide +kernel
theorem dX8_init_4 : decode cX8_init 4 = .ok (.new 7, 3) := by decide +kernel
theorem dX8_init_7 : decode cX8_init 7 = .ok (.dup, 1) := by decide +kernel
theorem dX8_init_8 : decode cX8_init 8 = .ok (.invokespecial 9, 3) := by decide +kernel
theorem dX8_init_11 : decode cX8_init 11 = .ok (.astore_n 1, 1) := by decide +kernel
theorem dX8_init_12 : decode cX8_init 12 = .ok (.new 10, 3) := by decide +kernel
theorem dX8_init_15 : decode cX8_init 15 = .ok (.dup, 1) := by decide +kernel
theorem dX8_init_16 : decode cX8_init 16 = .ok (.aload_n 1, 1) := by decide +kernel
theorem dX8_init_17 : decode cX8_init 17 = .ok (.invokespecial 12, 3) := by decide +kernel
theorem dX8_init_20 : decode cX8_init 20 = .ok (.astore_n 2, 1) := by decide +kernel
theorem dX8_init_21 : decode cX8_init 21 = .ok (.aload_n 0, 1) := by decide +kernel
theorem dX8_init_22 : decode cX8_init 22 = .ok (.aload_n 1, 1) := by decide +kernel
theorem dX8_init_23 : decode cX8_init 23 = .ok (.putfield 15, 3) := by decide +kernel
theorem dX8_init_26 : decode cX8_init 26 = .ok (.aload_n 0, 1) := by decide +kernel
theorem dX8_init_27 : decode cX8_init 27 = .ok (.aload_n 2, 1) := by decide +kernel
theorem dX8_init_28 : decode cX8_init 28 = .ok (.putfield 21, 3) := by decide +kernel
theorem dX8_init_31 : decode cX8_init 31 = .ok (.aload_n 0, 1) := by decide +kernel
theorem dX8_init_32 : decode cX8_init 32 = .ok (.new 25, 3) := by decide +kernel
theorem dX8_init_35 : decode cX8_init 35 = .ok (.dup, 1) := by decide +kernel
theorem dX8_init_36 : decode cX8_init 36 = .ok (.aload_n 1, 1) := by decide +kernel
theorem dX8_init_37 : decode cX8_init 37 = .ok (.aload_n 2, 1) := by decide +kernel
theorem dX8_init_38 : decode cX8_init 38 = .ok (.invokespecial 27, 3) := by decide +kernel
theorem dX8_init_41 : decode cX8_init 41 = .ok (.putfield 30, 3) := by decide +kernel
theorem dX8_init_44 : decode cX8_init 44 = .ok (.aload_n 0, 1) := by decide +kernel
theorem dX8_init_45 : decode cX8_init 45 = .ok (.aconst_null, 1) := by decide +kernel
theorem dX8_init_46 : decode cX8_init 46 = .ok (.putfield 34, 3) := by decide +kernel
theorem dX8_init_49 : decode cX8_init 49 = .ok (.return_, 1) := by decide +kernel
theorem dX8_room_0 : decode cX8_room 0 = .ok (.iload_n 1, 1) := by decide +kernel
theorem dX8_room_1 : decode cX8_room 1 = .ok (.iconst 1, 1) := by decide +kernel
theorem dX8_room_2 : decode cX8_room 2 = .ok (.sipush 200, 3) := by decide +kernel
theorem dX8_room_5 : decode cX8_room 5 = .ok (.invokestatic 37, 3) := by decide +kernel
theorem dX8_room_8 : decode cX8_room 8 = .ok (.ifCond .ne 5, 3) := by decide +kernel
theorem dX8_room_11 : decode cX8_room 11 = .ok (.iconst (-1), 1) := by decide +kernel
theorem dX8_room_12 : decode cX8_room 12 = .ok (.ireturn, 1) := by decide +kernel
theorem dX8_room_13 : decode cX8_room 13 = .ok (.aload_n 0, 1) := by decide +kernel
theorem dX8_room_14 : decode cX8_room 14 = .ok (.getfield 15, 3) := by decide +kernel
theorem dX8_room_17 : decode cX8_room 17 = .ok (.getfield 41, 3) := by decide +kernel
theorem dX8_room_20 : decode cX8_room 20 = .ok (.getfield 45, 3) := by decide +kernel
theorem dX8_room_23 : decode cX8_room 23 = .ok (.iconst 4, 1) := by decide +kernel
theorem dX8_room_24 : decode cX8_room 24 = .ok (.if_icmp .lt 6, 3) := by decide +kernel
theorem dX8_room_27 : decode cX8_room 27 = .ok (.bipush (-2), 2) := by decide +kernel
theorem dX8_room_29 : decode cX8_room 29 = .ok (.ireturn, 1) := by decide +kernel
theorem dX8_room_30 : decode cX8_room 30 = .ok (.aload_n 0, 1) := by decide +kernel
theorem dX8_room_31 : decode cX8_room 31 = .ok (.aload_n 0, 1) := by decide +kernel
theorem dX8_room_32 : decode cX8_room 32 = .ok (.getfield 15, 3) := by decide +kernel
theorem dX8_room_35 : decode cX8_room 35 = .ok (.getfield 41, 3) := by decide +kernel
theorem dX8_room_38 : decode cX8_room 38 = .ok (.iload_n 1, 1) := by decide +kernel
theorem dX8_room_39 : decode cX8_room 39 = .ok (.invokevirtual 51, 3) := by decide +kernel
theorem dX8_room_42 : decode cX8_room 42 = .ok (.invokevirtual 55, 3) := by decide +kernel
theorem dX8_room_45 : decode cX8_room 45 = .ok (.ireturn, 1) := by decide +kernel
theorem dX8_reading_0 : decode cX8_reading 0 = .ok (.aload_n 0, 1) := by decide +kernel
theorem dX8_reading_1 : decode cX8_reading 1 = .ok (.getfield 15, 3) := by decide +kernel
theorem dX8_reading_4 : decode cX8_reading 4 = .ok (.getfield 41, 3) := by decide +kernel
theorem dX8_reading_7 : decode cX8_reading 7 = .ok (.iload_n 1, 1) := by decide +kernel
theorem dX8_reading_8 : decode cX8_reading 8 = .ok (.invokevirtual 58, 3) := by decide +kernel
theorem dX8_reading_11 : decode cX8_reading 11 = .ok (.ifCond .eq 30, 3) := by decide +kernel
theorem dX8_reading_14 : decode cX8_reading 14 = .ok (.iload_n 2, 1) := by decide +kernel
theorem dX8_reading_15 : decode cX8_reading 15 = .ok (.invokestatic 62, 3) := by decide +kernel
theorem dX8_reading_18 : decode cX8_reading 18 = .ok (.ifCond .eq 23, 3) := by decide +kernel
theorem dX8_reading_21 : decode cX8_reading 21 = .ok (.iload_n 3, 1) := by decide +kernel
theorem dX8_reading_22 : decode cX8_reading 22 = .ok (.iconst (-1), 1) := by decide +kernel
theorem dX8_reading_23 : decode cX8_reading 23 = .ok (.aload_n 0, 1) := by decide +kernel
theorem dX8_reading_24 : decode cX8_reading 24 = .ok (.getfield 15, 3) := by decide +kernel
theorem dX8_reading_27 : decode cX8_reading 27 = .ok (.getfield 41, 3) := by decide +kernel
theorem dX8_reading_30 : decode cX8_reading 30 = .ok (.getfield 65, 3) := by decide +kernel
theorem dX8_reading_33 : decode cX8_reading 33 = .ok (.iload_n 1, 1) := by decide +kernel
theorem dX8_reading_34 : decode cX8_reading 34 = .ok (.iaload, 1) := by decide +kernel
theorem dX8_reading_35 : decode cX8_reading 35 = .ok (.invokestatic 37, 3) := by decide +kernel
theorem dX8_reading_38 : decode cX8_reading 38 = .ok (.ifCond .ne 5, 3) := by decide +kernel
theorem dX8_reading_41 : decode cX8_reading 41 = .ok (.iconst (-1), 1) := by decide +kernel
theorem dX8_reading_42 : decode cX8_reading 42 = .ok (.ireturn, 1) := by decide +kernel
theorem dX8_reading_43 : decode cX8_reading 43 = .ok (.aload_n 0, 1) := by decide +kernel
theorem dX8_reading_44 : decode cX8_reading 44 = .ok (.getfield 15, 3) := by decide +kernel
theorem dX8_reading_47 : decode cX8_reading 47 = .ok (.getfield 41, 3) := by decide +kernel
theorem dX8_reading_50 : decode cX8_reading 50 = .ok (.iload_n 1, 1) := by decide +kernel
theorem dX8_reading_51 : decode cX8_reading 51 = .ok (.iload_n 2, 1) := by decide +kernel
theorem dX8_reading_52 : decode cX8_reading 52 = .ok (.iload_n 3, 1) := by decide +kernel
theorem dX8_reading_53 : decode cX8_reading 53 = .ok (.invokevirtual 69, 3) := by decide +kernel
theorem dX8_reading_56 : decode cX8_reading 56 = .ok (.aload_n 0, 1) := by decide +kernel
theorem dX8_reading_57 : decode cX8_reading 57 = .ok (.iconst 1, 1) := by decide +kernel
theorem dX8_reading_58 : decode cX8_reading 58 = .ok (.invokevirtual 55, 3) := by decide +kernel
theorem dX8_reading_61 : decode cX8_reading 61 = .ok (.ireturn, 1) := by decide +kernel
theorem dX8_light_0 : decode cX8_light 0 = .ok (.aload_n 0, 1) := by decide +kernel
theorem dX8_light_1 : decode cX8_light 1 = .ok (.getfield 15, 3) := by decide +kernel
theorem dX8_light_4 : decode cX8_light 4 = .ok (.getfield 41, 3) := by decide +kernel
theorem dX8_light_7 : decode cX8_light 7 = .ok (.iload_n 1, 1) := by decide +kernel
theorem dX8_light_8 : decode cX8_light 8 = .ok (.invokevirtual 58, 3) := by decide +kernel
theorem dX8_light_11 : decode cX8_light 11 = .ok (.ifCond .eq 10, 3) := by decide +kernel
theorem dX8_light_14 : decode cX8_light 14 = .ok (.iload_n 2, 1) := by decide +kernel
theorem dX8_light_15 : decode cX8_light 15 = .ok (.invokestatic 62, 3) := by decide +kernel
theorem dX8_light_18 : decode cX8_light 18 = .ok (.ifCond .ne 5, 3) := by decide +kernel
theorem dX8_light_21 : decode cX8_light 21 = .ok (.iconst (-1), 1) := by decide +kernel
theorem dX8_light_22 : decode cX8_light 22 = .ok (.ireturn, 1) := by decide +kernel
theorem dX8_light_23 : decode cX8_light 23 = .ok (.aload_n 0, 1) := by decide +kernel
theorem dX8_light_24 : decode cX8_light 24 = .ok (.getfield 15, 3) := by decide +kernel
theorem dX8_light_27 : decode cX8_light 27 = .ok (.getfield 41, 3) := by decide +kernel
theorem dX8_light_30 : decode cX8_light 30 = .ok (.iload_n 1, 1) := by decide +kernel
theorem dX8_light_31 : decode cX8_light 31 = .ok (.iload_n 2, 1) := by decide +kernel
theorem dX8_light_32 : decode cX8_light 32 = .ok (.iload_n 3, 1) := by decide +kernel
theorem dX8_light_33 : decode cX8_light 33 = .ok (.invokevirtual 73, 3) := by decide +kernel
theorem dX8_light_36 : decode cX8_light 36 = .ok (.ireturn, 1) := by decide +kernel
theorem dX8_sheet_0 : decode cX8_sheet 0 = .ok (.iload_n 1, 1) := by decide +kernel
theorem dX8_sheet_1 : decode cX8_sheet 1 = .ok (.iconst 1, 1) := by decide +kernel
theorem dX8_sheet_2 : decode cX8_sheet 2 = .ok (.sipush 2000, 3) := by decide +kernel
theorem dX8_sheet_5 : decode cX8_sheet 5 = .ok (.invokestatic 37, 3) := by decide +kernel
theorem dX8_sheet_8 : decode cX8_sheet 8 = .ok (.ifCond .eq 13, 3) := by decide +kernel
theorem dX8_sheet_11 : decode cX8_sheet 11 = .ok (.iload_n 2, 1) := by decide +kernel
theorem dX8_sheet_12 : decode cX8_sheet 12 = .ok (.iconst 1, 1) := by decide +kernel
theorem dX8_sheet_13 : decode cX8_sheet 13 = .ok (.bipush 15, 2) := by decide +kernel
theorem dX8_sheet_15 : decode cX8_sheet 15 = .ok (.invokestatic 37, 3) := by decide +kernel
theorem dX8_sheet_18 : decode cX8_sheet 18 = .ok (.ifCond .ne 5, 3) := by decide +kernel
theorem dX8_sheet_21 : decode cX8_sheet 21 = .ok (.iconst (-1), 1) := by decide +kernel
theorem dX8_sheet_22 : decode cX8_sheet 22 = .ok (.ireturn, 1) := by decide +kernel
theorem dX8_sheet_23 : decode cX8_sheet 23 = .ok (.iload_n 3, 1) := by decide +kernel
theorem dX8_sheet_24 : decode cX8_sheet 24 = .ok (.iconst 1, 1) := by decide +kernel
theorem dX8_sheet_25 : decode cX8_sheet 25 = .ok (.bipush 9, 2) := by decide +kernel
theorem dX8_sheet_27 : decode cX8_sheet 27 = .ok (.invokestatic 37, 3) := by decide +kernel
theorem dX8_sheet_30 : decode cX8_sheet 30 = .ok (.ifCond .eq 13, 3) := by decide +kernel
theorem dX8_sheet_33 : decode cX8_sheet 33 = .ok (.iload 4, 2) := by decide +kernel
theorem dX8_sheet_35 : decode cX8_sheet 35 = .ok (.iconst 0, 1) := by decide +kernel
theorem dX8_sheet_36 : decode cX8_sheet 36 = .ok (.iconst 3, 1) := by decide +kernel
theorem dX8_sheet_37 : decode cX8_sheet 37 = .ok (.invokestatic 37, 3) := by decide +kernel
theorem dX8_sheet_40 : decode cX8_sheet 40 = .ok (.ifCond .ne 5, 3) := by decide +kernel
theorem dX8_sheet_43 : decode cX8_sheet 43 = .ok (.iconst (-1), 1) := by decide +kernel
theorem dX8_sheet_44 : decode cX8_sheet 44 = .ok (.ireturn, 1) := by decide +kernel
theorem dX8_sheet_45 : decode cX8_sheet 45 = .ok (.aload_n 0, 1) := by decide +kernel
theorem dX8_sheet_46 : decode cX8_sheet 46 = .ok (.getfield 15, 3) := by decide +kernel
theorem dX8_sheet_49 : decode cX8_sheet 49 = .ok (.getfield 77, 3) := by decide +kernel
theorem dX8_sheet_52 : decode cX8_sheet 52 = .ok (.getfield 81, 3) := by decide +kernel
theorem dX8_sheet_55 : decode cX8_sheet 55 = .ok (.bipush 8, 2) := by decide +kernel
theorem dX8_sheet_57 : decode cX8_sheet 57 = .ok (.if_icmp .lt 6, 3) := by decide +kernel
theorem dX8_sheet_60 : decode cX8_sheet 60 = .ok (.bipush (-2), 2) := by decide +kernel
theorem dX8_sheet_62 : decode cX8_sheet 62 = .ok (.ireturn, 1) := by decide +kernel
theorem dX8_sheet_63 : decode cX8_sheet 63 = .ok (.aload_n 0, 1) := by decide +kernel
theorem dX8_sheet_64 : decode cX8_sheet 64 = .ok (.aload_n 0, 1) := by decide +kernel
theorem dX8_sheet_65 : decode cX8_sheet 65 = .ok (.getfield 15, 3) := by decide +kernel
theorem dX8_sheet_68 : decode cX8_sheet 68 = .ok (.getfield 77, 3) := by decide +kernel
theorem dX8_sheet_71 : decode cX8_sheet 71 = .ok (.iload_n 1, 1) := by decide +kernel
theorem dX8_sheet_72 : decode cX8_sheet 72 = .ok (.iload_n 2, 1) := by decide +kernel
theorem dX8_sheet_73 : decode cX8_sheet 73 = .ok (.iload_n 3, 1) := by decide +kernel
theorem dX8_sheet_74 : decode cX8_sheet 74 = .ok (.iload 4, 2) := by decide +kernel
theorem dX8_sheet_76 : decode cX8_sheet 76 = .ok (.invokevirtual 84, 3) := by decide +kernel
theorem dX8_sheet_79 : decode cX8_sheet 79 = .ok (.invokevirtual 55, 3) := by decide +kernel
theorem dX8_sheet_82 : decode cX8_sheet 82 = .ok (.ireturn, 1) := by decide +kernel
theorem dX8_sisters_0 : decode cX8_sisters 0 = .ok (.aload_n 0, 1) := by decide +kernel
theorem dX8_sisters_1 : decode cX8_sisters 1 = .ok (.getfield 15, 3) := by decide +kernel
theorem dX8_sisters_4 : decode cX8_sisters 4 = .ok (.getfield 77, 3) := by decide +kernel
theorem dX8_sisters_7 : decode cX8_sisters 7 = .ok (.astore_n 3, 1) := by decide +kernel
theorem dX8_sisters_8 : decode cX8_sisters 8 = .ok (.aload_n 3, 1) := by decide +kernel
theorem dX8_sisters_9 : decode cX8_sisters 9 = .ok (.iload_n 1, 1) := by decide +kernel
theorem dX8_sisters_10 : decode cX8_sisters 10 = .ok (.invokevirtual 87, 3) := by decide +kernel
theorem dX8_sisters_13 : decode cX8_sisters 13 = .ok (.ifCond .eq 16, 3) := by decide +kernel
theorem dX8_sisters_16 : decode cX8_sisters 16 = .ok (.aload_n 3, 1) := by decide +kernel
theorem dX8_sisters_17 : decode cX8_sisters 17 = .ok (.iload_n 2, 1) := by decide +kernel
theorem dX8_sisters_18 : decode cX8_sisters 18 = .ok (.invokevirtual 87, 3) := by decide +kernel
theorem dX8_sisters_21 : decode cX8_sisters 21 = .ok (.ifCond .eq 8, 3) := by decide +kernel
theorem dX8_sisters_24 : decode cX8_sisters 24 = .ok (.iload_n 1, 1) := by decide +kernel
theorem dX8_sisters_25 : decode cX8_sisters 25 = .ok (.iload_n 2, 1) := by decide +kernel
theorem dX8_sisters_26 : decode cX8_sisters 26 = .ok (.if_icmp .ne 5, 3) := by decide +kernel
theorem dX8_sisters_29 : decode cX8_sisters 29 = .ok (.iconst (-1), 1) := by decide +kernel
theorem dX8_sisters_30 : decode cX8_sisters 30 = .ok (.ireturn, 1) := by decide +kernel
theorem dX8_sisters_31 : decode cX8_sisters 31 = .ok (.aload_n 3, 1) := by decide +kernel
theorem dX8_sisters_32 : decode cX8_sisters 32 = .ok (.getfield 88, 3) := by decide +kernel
theorem dX8_sisters_35 : decode cX8_sisters 35 = .ok (.iload_n 1, 1) := by decide +kernel
theorem dX8_sisters_36 : decode cX8_sisters 36 = .ok (.iaload, 1) := by decide +kernel
theorem dX8_sisters_37 : decode cX8_sisters 37 = .ok (.bipush (-4), 2) := by decide +kernel
theorem dX8_sisters_39 : decode cX8_sisters 39 = .ok (.if_icmp .ne 14, 3) := by decide +kernel
theorem dX8_sisters_42 : decode cX8_sisters 42 = .ok (.aload_n 3, 1) := by decide +kernel
theorem dX8_sisters_43 : decode cX8_sisters 43 = .ok (.getfield 88, 3) := by decide +kernel
theorem dX8_sisters_46 : decode cX8_sisters 46 = .ok (.iload_n 2, 1) := by decide +kernel
theorem dX8_sisters_47 : decode cX8_sisters 47 = .ok (.iaload, 1) := by decide +kernel
theorem dX8_sisters_48 : decode cX8_sisters 48 = .ok (.bipush (-4), 2) := by decide +kernel
theorem dX8_sisters_50 : decode cX8_sisters 50 = .ok (.if_icmp .eq 6, 3) := by decide +kernel
theorem dX8_sisters_53 : decode cX8_sisters 53 = .ok (.bipush (-3), 2) := by decide +kernel
theorem dX8_sisters_55 : decode cX8_sisters 55 = .ok (.ireturn, 1) := by decide +kernel
theorem dX8_sisters_56 : decode cX8_sisters 56 = .ok (.aload_n 3, 1) := by decide +kernel
theorem dX8_sisters_57 : decode cX8_sisters 57 = .ok (.getfield 88, 3) := by decide +kernel
theorem dX8_sisters_60 : decode cX8_sisters 60 = .ok (.iload_n 1, 1) := by decide +kernel
theorem dX8_sisters_61 : decode cX8_sisters 61 = .ok (.iload_n 2, 1) := by decide +kernel
theorem dX8_sisters_62 : decode cX8_sisters 62 = .ok (.iastore, 1) := by decide +kernel
theorem dX8_sisters_63 : decode cX8_sisters 63 = .ok (.aload_n 3, 1) := by decide +kernel
theorem dX8_sisters_64 : decode cX8_sisters 64 = .ok (.getfield 88, 3) := by decide +kernel
theorem dX8_sisters_67 : decode cX8_sisters 67 = .ok (.iload_n 2, 1) := by decide +kernel
theorem dX8_sisters_68 : decode cX8_sisters 68 = .ok (.iload_n 1, 1) := by decide +kernel
theorem dX8_sisters_69 : decode cX8_sisters 69 = .ok (.iastore, 1) := by decide +kernel
theorem dX8_sisters_70 : decode cX8_sisters 70 = .ok (.aload_n 0, 1) := by decide +kernel
theorem dX8_sisters_71 : decode cX8_sisters 71 = .ok (.iconst 1, 1) := by decide +kernel
theorem dX8_sisters_72 : decode cX8_sisters 72 = .ok (.invokevirtual 55, 3) := by decide +kernel
theorem dX8_sisters_75 : decode cX8_sisters 75 = .ok (.ireturn, 1) := by decide +kernel
theorem dX8_past_0 : decode cX8_past 0 = .ok (.aload_n 0, 1) := by decide +kernel
theorem dX8_past_1 : decode cX8_past 1 = .ok (.getfield 15, 3) := by decide +kernel
theorem dX8_past_4 : decode cX8_past 4 = .ok (.getfield 77, 3) := by decide +kernel
theorem dX8_past_7 : decode cX8_past 7 = .ok (.iload_n 1, 1) := by decide +kernel
theorem dX8_past_8 : decode cX8_past 8 = .ok (.invokevirtual 87, 3) := by decide +kernel
theorem dX8_past_11 : decode cX8_past 11 = .ok (.ifCond .eq 25, 3) := by decide +kernel
theorem dX8_past_14 : decode cX8_past 14 = .ok (.iload_n 2, 1) := by decide +kernel
theorem dX8_past_15 : decode cX8_past 15 = .ok (.iconst 0, 1) := by decide +kernel
theorem dX8_past_16 : decode cX8_past 16 = .ok (.sipush 2000, 3) := by decide +kernel
theorem dX8_past_19 : decode cX8_past 19 = .ok (.invokestatic 37, 3) := by decide +kernel
theorem dX8_past_22 : decode cX8_past 22 = .ok (.ifCond .eq 14, 3) := by decide +kernel
theorem dX8_past_25 : decode cX8_past 25 = .ok (.iload_n 3, 1) := by decide +kernel
theorem dX8_past_26 : decode cX8_past 26 = .ok (.iload_n 2, 1) := by decide +kernel
theorem dX8_past_27 : decode cX8_past 27 = .ok (.sipush 2000, 3) := by decide +kernel
theorem dX8_past_30 : decode cX8_past 30 = .ok (.invokestatic 37, 3) := by decide +kernel
theorem dX8_past_33 : decode cX8_past 33 = .ok (.ifCond .ne 5, 3) := by decide +kernel
theorem dX8_past_36 : decode cX8_past 36 = .ok (.iconst (-1), 1) := by decide +kernel
theorem dX8_past_37 : decode cX8_past 37 = .ok (.ireturn, 1) := by decide +kernel
theorem dX8_past_38 : decode cX8_past 38 = .ok (.aload_n 0, 1) := by decide +kernel
theorem dX8_past_39 : decode cX8_past 39 = .ok (.getfield 15, 3) := by decide +kernel
theorem dX8_past_42 : decode cX8_past 42 = .ok (.getfield 77, 3) := by decide +kernel
theorem dX8_past_45 : decode cX8_past 45 = .ok (.getfield 91, 3) := by decide +kernel
theorem dX8_past_48 : decode cX8_past 48 = .ok (.iload_n 1, 1) := by decide +kernel
theorem dX8_past_49 : decode cX8_past 49 = .ok (.iload_n 2, 1) := by decide +kernel
theorem dX8_past_50 : decode cX8_past 50 = .ok (.iastore, 1) := by decide +kernel
theorem dX8_past_51 : decode cX8_past 51 = .ok (.aload_n 0, 1) := by decide +kernel
theorem dX8_past_52 : decode cX8_past 52 = .ok (.getfield 15, 3) := by decide +kernel
theorem dX8_past_55 : decode cX8_past 55 = .ok (.getfield 77, 3) := by decide +kernel
theorem dX8_past_58 : decode cX8_past 58 = .ok (.getfield 94, 3) := by decide +kernel
theorem dX8_past_61 : decode cX8_past 61 = .ok (.iload_n 1, 1) := by decide +kernel
theorem dX8_past_62 : decode cX8_past 62 = .ok (.iload_n 3, 1) := by decide +kernel
theorem dX8_past_63 : decode cX8_past 63 = .ok (.iastore, 1) := by decide +kernel
theorem dX8_past_64 : decode cX8_past 64 = .ok (.aload_n 0, 1) := by decide +kernel
theorem dX8_past_65 : decode cX8_past 65 = .ok (.iconst 1, 1) := by decide +kernel
theorem dX8_past_66 : decode cX8_past 66 = .ok (.invokevirtual 55, 3) := by decide +kernel
theorem dX8_past_69 : decode cX8_past 69 = .ok (.ireturn, 1) := by decide +kernel
theorem dX8_of_0 : decode cX8_of 0 = .ok (.aload_n 0, 1) := by decide +kernel
