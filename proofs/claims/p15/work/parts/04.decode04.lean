theorem d_M_day_127 : decode b_M_day 127 = .ok (.iaload, 1) := by decide +kernel
theorem d_M_day_128 : decode b_M_day 128 = .ok (.iconst 3, 1) := by decide +kernel
theorem d_M_day_129 : decode b_M_day 129 = .ok (.if_icmp .ne 22, 3) := by decide +kernel
theorem d_M_day_132 : decode b_M_day 132 = .ok (.aload_n 0, 1) := by decide +kernel
theorem d_M_day_133 : decode b_M_day 133 = .ok (.getfield 7, 3) := by decide +kernel
theorem d_M_day_136 : decode b_M_day 136 = .ok (.iload_n 3, 1) := by decide +kernel
theorem d_M_day_137 : decode b_M_day 137 = .ok (.iconst (-1), 1) := by decide +kernel
theorem d_M_day_138 : decode b_M_day 138 = .ok (.iastore, 1) := by decide +kernel
theorem d_M_day_139 : decode b_M_day 139 = .ok (.aload_n 0, 1) := by decide +kernel
theorem d_M_day_140 : decode b_M_day 140 = .ok (.iload_n 2, 1) := by decide +kernel
theorem d_M_day_141 : decode b_M_day 141 = .ok (.iload_n 1, 1) := by decide +kernel
theorem d_M_day_142 : decode b_M_day 142 = .ok (.bipush 6, 2) := by decide +kernel
theorem d_M_day_144 : decode b_M_day 144 = .ok (.iconst 0, 1) := by decide +kernel
theorem d_M_day_145 : decode b_M_day 145 = .ok (.invokevirtual 117, 3) := by decide +kernel
theorem d_M_day_148 : decode b_M_day 148 = .ok (.goto 26, 3) := by decide +kernel
theorem d_M_day_151 : decode b_M_day 151 = .ok (.aload_n 0, 1) := by decide +kernel
theorem d_M_day_152 : decode b_M_day 152 = .ok (.getfield 22, 3) := by decide +kernel
theorem d_M_day_155 : decode b_M_day 155 = .ok (.iload_n 3, 1) := by decide +kernel
theorem d_M_day_156 : decode b_M_day 156 = .ok (.dup2, 1) := by decide +kernel
theorem d_M_day_157 : decode b_M_day 157 = .ok (.iaload, 1) := by decide +kernel
theorem d_M_day_158 : decode b_M_day 158 = .ok (.iconst 1, 1) := by decide +kernel
theorem d_M_day_159 : decode b_M_day 159 = .ok (.iadd, 1) := by decide +kernel
theorem d_M_day_160 : decode b_M_day 160 = .ok (.iastore, 1) := by decide +kernel
theorem d_M_day_161 : decode b_M_day 161 = .ok (.aload_n 0, 1) := by decide +kernel
theorem d_M_day_162 : decode b_M_day 162 = .ok (.iload_n 2, 1) := by decide +kernel
theorem d_M_day_163 : decode b_M_day 163 = .ok (.iload_n 1, 1) := by decide +kernel
theorem d_M_day_164 : decode b_M_day 164 = .ok (.iconst 5, 1) := by decide +kernel
theorem d_M_day_165 : decode b_M_day 165 = .ok (.aload_n 0, 1) := by decide +kernel
theorem d_M_day_166 : decode b_M_day 166 = .ok (.getfield 22, 3) := by decide +kernel
theorem d_M_day_169 : decode b_M_day 169 = .ok (.iload_n 3, 1) := by decide +kernel
theorem d_M_day_170 : decode b_M_day 170 = .ok (.iaload, 1) := by decide +kernel
theorem d_M_day_171 : decode b_M_day 171 = .ok (.invokevirtual 117, 3) := by decide +kernel
theorem d_M_day_174 : decode b_M_day 174 = .ok (.return_, 1) := by decide +kernel
theorem d_M_tick_0 : decode b_M_tick 0 = .ok (.iload_n 1, 1) := by decide +kernel
theorem d_M_tick_1 : decode b_M_tick 1 = .ok (.iconst 1, 1) := by decide +kernel
theorem d_M_tick_2 : decode b_M_tick 2 = .ok (.bipush 20, 2) := by decide +kernel
theorem d_M_tick_4 : decode b_M_tick 4 = .ok (.invokestatic 96, 3) := by decide +kernel
theorem d_M_tick_7 : decode b_M_tick 7 = .ok (.ifCond .ne 9, 3) := by decide +kernel
theorem d_M_tick_10 : decode b_M_tick 10 = .ok (.aload_n 0, 1) := by decide +kernel
theorem d_M_tick_11 : decode b_M_tick 11 = .ok (.iconst 1, 1) := by decide +kernel
theorem d_M_tick_12 : decode b_M_tick 12 = .ok (.invokevirtual 107, 3) := by decide +kernel
theorem d_M_tick_15 : decode b_M_tick 15 = .ok (.ireturn, 1) := by decide +kernel
theorem d_M_tick_16 : decode b_M_tick 16 = .ok (.aload_n 0, 1) := by decide +kernel
theorem d_M_tick_17 : decode b_M_tick 17 = .ok (.iconst 0, 1) := by decide +kernel
theorem d_M_tick_18 : decode b_M_tick 18 = .ok (.putfield 92, 3) := by decide +kernel
theorem d_M_tick_21 : decode b_M_tick 21 = .ok (.iconst 0, 1) := by decide +kernel
theorem d_M_tick_22 : decode b_M_tick 22 = .ok (.istore_n 2, 1) := by decide +kernel
theorem d_M_tick_23 : decode b_M_tick 23 = .ok (.iload_n 2, 1) := by decide +kernel
theorem d_M_tick_24 : decode b_M_tick 24 = .ok (.iload_n 1, 1) := by decide +kernel
theorem d_M_tick_25 : decode b_M_tick 25 = .ok (.if_icmp .ge 87, 3) := by decide +kernel
theorem d_M_tick_28 : decode b_M_tick 28 = .ok (.aload_n 0, 1) := by decide +kernel
theorem d_M_tick_29 : decode b_M_tick 29 = .ok (.dup, 1) := by decide +kernel
theorem d_M_tick_30 : decode b_M_tick 30 = .ok (.getfield 111, 3) := by decide +kernel
theorem d_M_tick_33 : decode b_M_tick 33 = .ok (.iconst 1, 1) := by decide +kernel
theorem d_M_tick_34 : decode b_M_tick 34 = .ok (.iadd, 1) := by decide +kernel
theorem d_M_tick_35 : decode b_M_tick 35 = .ok (.putfield 111, 3) := by decide +kernel
theorem d_M_tick_38 : decode b_M_tick 38 = .ok (.iconst 0, 1) := by decide +kernel
theorem d_M_tick_39 : decode b_M_tick 39 = .ok (.istore_n 3, 1) := by decide +kernel
theorem d_M_tick_40 : decode b_M_tick 40 = .ok (.iload_n 3, 1) := by decide +kernel
theorem d_M_tick_41 : decode b_M_tick 41 = .ok (.iconst 3, 1) := by decide +kernel
theorem d_M_tick_42 : decode b_M_tick 42 = .ok (.if_icmp .ge 64, 3) := by decide +kernel
theorem d_M_tick_45 : decode b_M_tick 45 = .ok (.iconst 0, 1) := by decide +kernel
theorem d_M_tick_46 : decode b_M_tick 46 = .ok (.istore 4, 2) := by decide +kernel
theorem d_M_tick_48 : decode b_M_tick 48 = .ok (.iload 4, 2) := by decide +kernel
theorem d_M_tick_50 : decode b_M_tick 50 = .ok (.bipush 12, 2) := by decide +kernel
theorem d_M_tick_52 : decode b_M_tick 52 = .ok (.if_icmp .ge 16, 3) := by decide +kernel
theorem d_M_tick_55 : decode b_M_tick 55 = .ok (.aload_n 0, 1) := by decide +kernel
theorem d_M_tick_56 : decode b_M_tick 56 = .ok (.iload_n 3, 1) := by decide +kernel
theorem d_M_tick_57 : decode b_M_tick 57 = .ok (.iload 4, 2) := by decide +kernel
theorem d_M_tick_59 : decode b_M_tick 59 = .ok (.invokevirtual 145, 3) := by decide +kernel
theorem d_M_tick_62 : decode b_M_tick 62 = .ok (.iinc 4 1, 3) := by decide +kernel
theorem d_M_tick_65 : decode b_M_tick 65 = .ok (.goto (-17), 3) := by decide +kernel
theorem d_M_tick_68 : decode b_M_tick 68 = .ok (.aload_n 0, 1) := by decide +kernel
theorem d_M_tick_69 : decode b_M_tick 69 = .ok (.getfield 71, 3) := by decide +kernel
theorem d_M_tick_72 : decode b_M_tick 72 = .ok (.iload_n 3, 1) := by decide +kernel
theorem d_M_tick_73 : decode b_M_tick 73 = .ok (.iaload, 1) := by decide +kernel
theorem d_M_tick_74 : decode b_M_tick 74 = .ok (.ifCond .le 26, 3) := by decide +kernel
theorem d_M_tick_77 : decode b_M_tick 77 = .ok (.aload_n 0, 1) := by decide +kernel
theorem d_M_tick_78 : decode b_M_tick 78 = .ok (.getfield 111, 3) := by decide +kernel
theorem d_M_tick_81 : decode b_M_tick 81 = .ok (.aload_n 0, 1) := by decide +kernel
theorem d_M_tick_82 : decode b_M_tick 82 = .ok (.getfield 77, 3) := by decide +kernel
theorem d_M_tick_85 : decode b_M_tick 85 = .ok (.bipush 40, 2) := by decide +kernel
theorem d_M_tick_87 : decode b_M_tick 87 = .ok (.iload_n 3, 1) := by decide +kernel
theorem d_M_tick_88 : decode b_M_tick 88 = .ok (.imul, 1) := by decide +kernel
theorem d_M_tick_89 : decode b_M_tick 89 = .ok (.iaload, 1) := by decide +kernel
theorem d_M_tick_90 : decode b_M_tick 90 = .ok (.isub, 1) := by decide +kernel
theorem d_M_tick_91 : decode b_M_tick 91 = .ok (.iconst 2, 1) := by decide +kernel
theorem d_M_tick_92 : decode b_M_tick 92 = .ok (.if_icmp .le 8, 3) := by decide +kernel
theorem d_M_tick_95 : decode b_M_tick 95 = .ok (.aload_n 0, 1) := by decide +kernel
theorem d_M_tick_96 : decode b_M_tick 96 = .ok (.iload_n 3, 1) := by decide +kernel
theorem d_M_tick_97 : decode b_M_tick 97 = .ok (.invokevirtual 135, 3) := by decide +kernel
theorem d_M_tick_100 : decode b_M_tick 100 = .ok (.iinc 3 1, 3) := by decide +kernel
theorem d_M_tick_103 : decode b_M_tick 103 = .ok (.goto (-63), 3) := by decide +kernel
theorem d_M_tick_106 : decode b_M_tick 106 = .ok (.iinc 2 1, 3) := by decide +kernel
theorem d_M_tick_109 : decode b_M_tick 109 = .ok (.goto (-86), 3) := by decide +kernel
theorem d_M_tick_112 : decode b_M_tick 112 = .ok (.aload_n 0, 1) := by decide +kernel
theorem d_M_tick_113 : decode b_M_tick 113 = .ok (.getfield 111, 3) := by decide +kernel
theorem d_M_tick_116 : decode b_M_tick 116 = .ok (.ireturn, 1) := by decide +kernel
theorem d_M_told_0 : decode b_M_told 0 = .ok (.iload_n 1, 1) := by decide +kernel
theorem d_M_told_1 : decode b_M_told 1 = .ok (.iload_n 2, 1) := by decide +kernel
theorem d_M_told_2 : decode b_M_told 2 = .ok (.invokestatic 103, 3) := by decide +kernel
theorem d_M_told_5 : decode b_M_told 5 = .ok (.ifCond .eq 12, 3) := by decide +kernel
theorem d_M_told_8 : decode b_M_told 8 = .ok (.iload_n 3, 1) := by decide +kernel
theorem d_M_told_9 : decode b_M_told 9 = .ok (.iconst 0, 1) := by decide +kernel
theorem d_M_told_10 : decode b_M_told 10 = .ok (.iconst 4, 1) := by decide +kernel
theorem d_M_told_11 : decode b_M_told 11 = .ok (.invokestatic 96, 3) := by decide +kernel
theorem d_M_told_14 : decode b_M_told 14 = .ok (.ifCond .ne 9, 3) := by decide +kernel
theorem d_M_told_17 : decode b_M_told 17 = .ok (.aload_n 0, 1) := by decide +kernel
theorem d_M_told_18 : decode b_M_told 18 = .ok (.iconst 1, 1) := by decide +kernel
theorem d_M_told_19 : decode b_M_told 19 = .ok (.invokevirtual 107, 3) := by decide +kernel
theorem d_M_told_22 : decode b_M_told 22 = .ok (.ireturn, 1) := by decide +kernel
theorem d_M_told_23 : decode b_M_told 23 = .ok (.bipush 12, 2) := by decide +kernel
theorem d_M_told_25 : decode b_M_told 25 = .ok (.iload_n 1, 1) := by decide +kernel
theorem d_M_told_26 : decode b_M_told 26 = .ok (.imul, 1) := by decide +kernel
theorem d_M_told_27 : decode b_M_told 27 = .ok (.iload_n 2, 1) := by decide +kernel
theorem d_M_told_28 : decode b_M_told 28 = .ok (.iadd, 1) := by decide +kernel
theorem d_M_told_29 : decode b_M_told 29 = .ok (.istore 4, 2) := by decide +kernel
theorem d_M_told_31 : decode b_M_told 31 = .ok (.aload_n 0, 1) := by decide +kernel
theorem d_M_told_32 : decode b_M_told 32 = .ok (.getfield 7, 3) := by decide +kernel
theorem d_M_told_35 : decode b_M_told 35 = .ok (.iload 4, 2) := by decide +kernel
theorem d_M_told_37 : decode b_M_told 37 = .ok (.iaload, 1) := by decide +kernel
theorem d_M_told_38 : decode b_M_told 38 = .ok (.iconst (-1), 1) := by decide +kernel
theorem d_M_told_39 : decode b_M_told 39 = .ok (.if_icmp .ne 9, 3) := by decide +kernel
theorem d_M_told_42 : decode b_M_told 42 = .ok (.aload_n 0, 1) := by decide +kernel
theorem d_M_told_43 : decode b_M_told 43 = .ok (.iconst 2, 1) := by decide +kernel
theorem d_M_told_44 : decode b_M_told 44 = .ok (.invokevirtual 107, 3) := by decide +kernel
theorem d_M_told_47 : decode b_M_told 47 = .ok (.ireturn, 1) := by decide +kernel
theorem d_M_told_48 : decode b_M_told 48 = .ok (.aload_n 0, 1) := by decide +kernel
theorem d_M_told_49 : decode b_M_told 49 = .ok (.iconst 0, 1) := by decide +kernel
theorem d_M_told_50 : decode b_M_told 50 = .ok (.putfield 92, 3) := by decide +kernel
theorem d_M_told_53 : decode b_M_told 53 = .ok (.iload_n 3, 1) := by decide +kernel
theorem d_M_told_54 : decode b_M_told 54 = .ok (.tableswitch 85 0 3 #[30, 38, 46, 62], 30) := by decide +kernel
theorem d_M_told_84 : decode b_M_told 84 = .ok (.aload_n 0, 1) := by decide +kernel
theorem d_M_told_85 : decode b_M_told 85 = .ok (.getfield 7, 3) := by decide +kernel
theorem d_M_told_88 : decode b_M_told 88 = .ok (.iload 4, 2) := by decide +kernel
theorem d_M_told_90 : decode b_M_told 90 = .ok (.iaload, 1) := by decide +kernel
theorem d_M_told_91 : decode b_M_told 91 = .ok (.ireturn, 1) := by decide +kernel
theorem d_M_told_92 : decode b_M_told 92 = .ok (.aload_n 0, 1) := by decide +kernel
theorem d_M_told_93 : decode b_M_told 93 = .ok (.getfield 13, 3) := by decide +kernel
theorem d_M_told_96 : decode b_M_told 96 = .ok (.iload 4, 2) := by decide +kernel
theorem d_M_told_98 : decode b_M_told 98 = .ok (.iaload, 1) := by decide +kernel
theorem d_M_told_99 : decode b_M_told 99 = .ok (.ireturn, 1) := by decide +kernel
theorem d_M_told_100 : decode b_M_told 100 = .ok (.aload_n 0, 1) := by decide +kernel
theorem d_M_told_101 : decode b_M_told 101 = .ok (.getfield 28, 3) := by decide +kernel
theorem d_M_told_104 : decode b_M_told 104 = .ok (.iload 4, 2) := by decide +kernel
theorem d_M_told_106 : decode b_M_told 106 = .ok (.baload, 1) := by decide +kernel
theorem d_M_told_107 : decode b_M_told 107 = .ok (.ifCond .eq 7, 3) := by decide +kernel
theorem d_M_told_110 : decode b_M_told 110 = .ok (.iconst 1, 1) := by decide +kernel
theorem d_M_told_111 : decode b_M_told 111 = .ok (.goto 4, 3) := by decide +kernel
theorem d_M_told_114 : decode b_M_told 114 = .ok (.iconst 0, 1) := by decide +kernel
theorem d_M_told_115 : decode b_M_told 115 = .ok (.ireturn, 1) := by decide +kernel
theorem d_M_told_116 : decode b_M_told 116 = .ok (.aload_n 0, 1) := by decide +kernel
theorem d_M_told_117 : decode b_M_told 117 = .ok (.getfield 7, 3) := by decide +kernel
theorem d_M_told_120 : decode b_M_told 120 = .ok (.iload 4, 2) := by decide +kernel
theorem d_M_told_122 : decode b_M_told 122 = .ok (.iaload, 1) := by decide +kernel
theorem d_M_told_123 : decode b_M_told 123 = .ok (.iconst 2, 1) := by decide +kernel
theorem d_M_told_124 : decode b_M_told 124 = .ok (.if_icmp .ne 13, 3) := by decide +kernel
theorem d_M_told_127 : decode b_M_told 127 = .ok (.aload_n 0, 1) := by decide +kernel
theorem d_M_told_128 : decode b_M_told 128 = .ok (.getfield 22, 3) := by decide +kernel
theorem d_M_told_131 : decode b_M_told 131 = .ok (.iload 4, 2) := by decide +kernel
theorem d_M_told_133 : decode b_M_told 133 = .ok (.iaload, 1) := by decide +kernel
theorem d_M_told_134 : decode b_M_told 134 = .ok (.goto 4, 3) := by decide +kernel
theorem d_M_told_137 : decode b_M_told 137 = .ok (.iconst 0, 1) := by decide +kernel
theorem d_M_told_138 : decode b_M_told 138 = .ok (.ireturn, 1) := by decide +kernel
theorem d_M_told_139 : decode b_M_told 139 = .ok (.aload_n 0, 1) := by decide +kernel
theorem d_M_told_140 : decode b_M_told 140 = .ok (.getfield 16, 3) := by decide +kernel
theorem d_M_told_143 : decode b_M_told 143 = .ok (.iload 4, 2) := by decide +kernel
theorem d_M_told_145 : decode b_M_told 145 = .ok (.iaload, 1) := by decide +kernel
theorem d_M_told_146 : decode b_M_told 146 = .ok (.ireturn, 1) := by decide +kernel
theorem d_M_score_0 : decode b_M_score 0 = .ok (.iload_n 1, 1) := by decide +kernel
theorem d_M_score_1 : decode b_M_score 1 = .ok (.iload_n 2, 1) := by decide +kernel
theorem d_M_score_2 : decode b_M_score 2 = .ok (.invokestatic 103, 3) := by decide +kernel
theorem d_M_score_5 : decode b_M_score 5 = .ok (.ifCond .ne 10, 3) := by decide +kernel
theorem d_M_score_8 : decode b_M_score 8 = .ok (.aload_n 0, 1) := by decide +kernel
theorem d_M_score_9 : decode b_M_score 9 = .ok (.iconst 1, 1) := by decide +kernel
theorem d_M_score_10 : decode b_M_score 10 = .ok (.invokevirtual 107, 3) := by decide +kernel
theorem d_M_score_13 : decode b_M_score 13 = .ok (.i2d, 1) := by decide +kernel
theorem d_M_score_14 : decode b_M_score 14 = .ok (.dreturn, 1) := by decide +kernel
theorem d_M_score_15 : decode b_M_score 15 = .ok (.bipush 12, 2) := by decide +kernel
theorem d_M_score_17 : decode b_M_score 17 = .ok (.iload_n 1, 1) := by decide +kernel
theorem d_M_score_18 : decode b_M_score 18 = .ok (.imul, 1) := by decide +kernel
theorem d_M_score_19 : decode b_M_score 19 = .ok (.iload_n 2, 1) := by decide +kernel
theorem d_M_score_20 : decode b_M_score 20 = .ok (.iadd, 1) := by decide +kernel
theorem d_M_score_21 : decode b_M_score 21 = .ok (.istore_n 3, 1) := by decide +kernel
theorem d_M_score_22 : decode b_M_score 22 = .ok (.aload_n 0, 1) := by decide +kernel
theorem d_M_score_23 : decode b_M_score 23 = .ok (.getfield 7, 3) := by decide +kernel
theorem d_M_score_26 : decode b_M_score 26 = .ok (.iload_n 3, 1) := by decide +kernel
theorem d_M_score_27 : decode b_M_score 27 = .ok (.iaload, 1) := by decide +kernel
theorem d_M_score_28 : decode b_M_score 28 = .ok (.iconst (-1), 1) := by decide +kernel
theorem d_M_score_29 : decode b_M_score 29 = .ok (.if_icmp .ne 10, 3) := by decide +kernel
theorem d_M_score_32 : decode b_M_score 32 = .ok (.aload_n 0, 1) := by decide +kernel
theorem d_M_score_33 : decode b_M_score 33 = .ok (.iconst 2, 1) := by decide +kernel
theorem d_M_score_34 : decode b_M_score 34 = .ok (.invokevirtual 107, 3) := by decide +kernel
theorem d_M_score_37 : decode b_M_score 37 = .ok (.i2d, 1) := by decide +kernel
theorem d_M_score_38 : decode b_M_score 38 = .ok (.dreturn, 1) := by decide +kernel
theorem d_M_score_39 : decode b_M_score 39 = .ok (.aload_n 0, 1) := by decide +kernel
theorem d_M_score_40 : decode b_M_score 40 = .ok (.iconst 0, 1) := by decide +kernel
theorem d_M_score_41 : decode b_M_score 41 = .ok (.putfield 92, 3) := by decide +kernel
theorem d_M_score_44 : decode b_M_score 44 = .ok (.aload_n 0, 1) := by decide +kernel
theorem d_M_score_45 : decode b_M_score 45 = .ok (.getfield 35, 3) := by decide +kernel
theorem d_M_score_48 : decode b_M_score 48 = .ok (.iload_n 3, 1) := by decide +kernel
theorem d_M_score_49 : decode b_M_score 49 = .ok (.daload, 1) := by decide +kernel
theorem d_M_score_50 : decode b_M_score 50 = .ok (.dreturn, 1) := by decide +kernel
theorem d_M_sent_0 : decode b_M_sent 0 = .ok (.iload_n 2, 1) := by decide +kernel
theorem d_M_sent_1 : decode b_M_sent 1 = .ok (.iconst 0, 1) := by decide +kernel
theorem d_M_sent_2 : decode b_M_sent 2 = .ok (.iconst 3, 1) := by decide +kernel
theorem d_M_sent_3 : decode b_M_sent 3 = .ok (.invokestatic 96, 3) := by decide +kernel
theorem d_M_sent_6 : decode b_M_sent 6 = .ok (.ifCond .ne 9, 3) := by decide +kernel
theorem d_M_sent_9 : decode b_M_sent 9 = .ok (.aload_n 0, 1) := by decide +kernel
theorem d_M_sent_10 : decode b_M_sent 10 = .ok (.iconst 1, 1) := by decide +kernel
theorem d_M_sent_11 : decode b_M_sent 11 = .ok (.invokevirtual 107, 3) := by decide +kernel
theorem d_M_sent_14 : decode b_M_sent 14 = .ok (.ireturn, 1) := by decide +kernel
theorem d_M_sent_15 : decode b_M_sent 15 = .ok (.iload_n 1, 1) := by decide +kernel
theorem d_M_sent_16 : decode b_M_sent 16 = .ok (.iconst 0, 1) := by decide +kernel
theorem d_M_sent_17 : decode b_M_sent 17 = .ok (.bipush 59, 2) := by decide +kernel
theorem d_M_sent_19 : decode b_M_sent 19 = .ok (.invokestatic 96, 3) := by decide +kernel
theorem d_M_sent_22 : decode b_M_sent 22 = .ok (.ifCond .eq 11, 3) := by decide +kernel
theorem d_M_sent_25 : decode b_M_sent 25 = .ok (.iload_n 1, 1) := by decide +kernel
theorem d_M_sent_26 : decode b_M_sent 26 = .ok (.aload_n 0, 1) := by decide +kernel
theorem d_M_sent_27 : decode b_M_sent 27 = .ok (.getfield 100, 3) := by decide +kernel
theorem d_M_sent_30 : decode b_M_sent 30 = .ok (.if_icmp .lt 9, 3) := by decide +kernel
theorem d_M_sent_33 : decode b_M_sent 33 = .ok (.aload_n 0, 1) := by decide +kernel
theorem d_M_sent_34 : decode b_M_sent 34 = .ok (.iconst 2, 1) := by decide +kernel
theorem d_M_sent_35 : decode b_M_sent 35 = .ok (.invokevirtual 107, 3) := by decide +kernel
theorem d_M_sent_38 : decode b_M_sent 38 = .ok (.ireturn, 1) := by decide +kernel
theorem d_M_sent_39 : decode b_M_sent 39 = .ok (.aload_n 0, 1) := by decide +kernel
theorem d_M_sent_40 : decode b_M_sent 40 = .ok (.iconst 0, 1) := by decide +kernel
theorem d_M_sent_41 : decode b_M_sent 41 = .ok (.putfield 92, 3) := by decide +kernel
theorem d_M_sent_44 : decode b_M_sent 44 = .ok (.iload_n 2, 1) := by decide +kernel
theorem d_M_sent_45 : decode b_M_sent 45 = .ok (.ifCond .ne 12, 3) := by decide +kernel
theorem d_M_sent_48 : decode b_M_sent 48 = .ok (.aload_n 0, 1) := by decide +kernel
theorem d_M_sent_49 : decode b_M_sent 49 = .ok (.getfield 80, 3) := by decide +kernel
theorem d_M_sent_52 : decode b_M_sent 52 = .ok (.iload_n 1, 1) := by decide +kernel
theorem d_M_sent_53 : decode b_M_sent 53 = .ok (.iaload, 1) := by decide +kernel
theorem d_M_sent_54 : decode b_M_sent 54 = .ok (.goto 37, 3) := by decide +kernel
theorem d_M_sent_57 : decode b_M_sent 57 = .ok (.iload_n 2, 1) := by decide +kernel
theorem d_M_sent_58 : decode b_M_sent 58 = .ok (.iconst 1, 1) := by decide +kernel
theorem d_M_sent_59 : decode b_M_sent 59 = .ok (.if_icmp .ne 12, 3) := by decide +kernel
theorem d_M_sent_62 : decode b_M_sent 62 = .ok (.aload_n 0, 1) := by decide +kernel
theorem d_M_sent_63 : decode b_M_sent 63 = .ok (.getfield 83, 3) := by decide +kernel
theorem d_M_sent_66 : decode b_M_sent 66 = .ok (.iload_n 1, 1) := by decide +kernel
theorem d_M_sent_67 : decode b_M_sent 67 = .ok (.iaload, 1) := by decide +kernel
theorem d_M_sent_68 : decode b_M_sent 68 = .ok (.goto 23, 3) := by decide +kernel
theorem d_M_sent_71 : decode b_M_sent 71 = .ok (.iload_n 2, 1) := by decide +kernel
theorem d_M_sent_72 : decode b_M_sent 72 = .ok (.iconst 2, 1) := by decide +kernel
theorem d_M_sent_73 : decode b_M_sent 73 = .ok (.if_icmp .ne 12, 3) := by decide +kernel
theorem d_M_sent_76 : decode b_M_sent 76 = .ok (.aload_n 0, 1) := by decide +kernel
theorem d_M_sent_77 : decode b_M_sent 77 = .ok (.getfield 86, 3) := by decide +kernel
theorem d_M_sent_80 : decode b_M_sent 80 = .ok (.iload_n 1, 1) := by decide +kernel
theorem d_M_sent_81 : decode b_M_sent 81 = .ok (.iaload, 1) := by decide +kernel
theorem d_M_sent_82 : decode b_M_sent 82 = .ok (.goto 9, 3) := by decide +kernel
theorem d_M_sent_85 : decode b_M_sent 85 = .ok (.aload_n 0, 1) := by decide +kernel
theorem d_M_sent_86 : decode b_M_sent 86 = .ok (.getfield 89, 3) := by decide +kernel
theorem d_M_sent_89 : decode b_M_sent 89 = .ok (.iload_n 1, 1) := by decide +kernel
theorem d_M_sent_90 : decode b_M_sent 90 = .ok (.iaload, 1) := by decide +kernel
theorem d_M_sent_91 : decode b_M_sent 91 = .ok (.ireturn, 1) := by decide +kernel
theorem d_M_count_0 : decode b_M_count 0 = .ok (.aload_n 0, 1) := by decide +kernel
theorem d_M_count_1 : decode b_M_count 1 = .ok (.iconst 0, 1) := by decide +kernel
theorem d_M_count_2 : decode b_M_count 2 = .ok (.putfield 92, 3) := by decide +kernel
theorem d_M_count_5 : decode b_M_count 5 = .ok (.iload_n 1, 1) := by decide +kernel
theorem d_M_count_6 : decode b_M_count 6 = .ok (.tableswitch 61 0 4 #[34, 39, 44, 50, 56], 34) := by decide +kernel
theorem d_M_count_40 : decode b_M_count 40 = .ok (.aload_n 0, 1) := by decide +kernel
theorem d_M_count_41 : decode b_M_count 41 = .ok (.getfield 111, 3) := by decide +kernel
theorem d_M_count_44 : decode b_M_count 44 = .ok (.ireturn, 1) := by decide +kernel
theorem d_M_count_45 : decode b_M_count 45 = .ok (.aload_n 0, 1) := by decide +kernel
theorem d_M_count_46 : decode b_M_count 46 = .ok (.getfield 125, 3) := by decide +kernel
theorem d_M_count_49 : decode b_M_count 49 = .ok (.ireturn, 1) := by decide +kernel
theorem d_M_count_50 : decode b_M_count 50 = .ok (.aload_n 0, 1) := by decide +kernel
theorem d_M_count_51 : decode b_M_count 51 = .ok (.iconst 0, 1) := by decide +kernel
theorem d_M_count_52 : decode b_M_count 52 = .ok (.invokevirtual 138, 3) := by decide +kernel
theorem d_M_count_55 : decode b_M_count 55 = .ok (.ireturn, 1) := by decide +kernel
theorem d_M_count_56 : decode b_M_count 56 = .ok (.aload_n 0, 1) := by decide +kernel
theorem d_M_count_57 : decode b_M_count 57 = .ok (.iconst 1, 1) := by decide +kernel
theorem d_M_count_58 : decode b_M_count 58 = .ok (.invokevirtual 138, 3) := by decide +kernel
theorem d_M_count_61 : decode b_M_count 61 = .ok (.ireturn, 1) := by decide +kernel
theorem d_M_count_62 : decode b_M_count 62 = .ok (.aload_n 0, 1) := by decide +kernel
theorem d_M_count_63 : decode b_M_count 63 = .ok (.getfield 100, 3) := by decide +kernel
theorem d_M_count_66 : decode b_M_count 66 = .ok (.ireturn, 1) := by decide +kernel
theorem d_M_count_67 : decode b_M_count 67 = .ok (.iload_n 1, 1) := by decide +kernel
theorem d_M_count_68 : decode b_M_count 68 = .ok (.bipush 10, 2) := by decide +kernel
theorem d_M_count_70 : decode b_M_count 70 = .ok (.irem, 1) := by decide +kernel
theorem d_M_count_71 : decode b_M_count 71 = .ok (.istore_n 2, 1) := by decide +kernel
theorem d_M_count_72 : decode b_M_count 72 = .ok (.iconst 0, 1) := by decide +kernel
theorem d_M_count_73 : decode b_M_count 73 = .ok (.istore_n 3, 1) := by decide +kernel
theorem d_M_count_74 : decode b_M_count 74 = .ok (.iload_n 1, 1) := by decide +kernel
theorem d_M_count_75 : decode b_M_count 75 = .ok (.bipush 10, 2) := by decide +kernel
theorem d_M_count_77 : decode b_M_count 77 = .ok (.bipush 49, 2) := by decide +kernel
theorem d_M_count_79 : decode b_M_count 79 = .ok (.invokestatic 96, 3) := by decide +kernel
theorem d_M_count_82 : decode b_M_count 82 = .ok (.ifCond .eq 8, 3) := by decide +kernel
theorem d_M_count_85 : decode b_M_count 85 = .ok (.iload_n 2, 1) := by decide +kernel
theorem d_M_count_86 : decode b_M_count 86 = .ok (.iconst 3, 1) := by decide +kernel
theorem d_M_count_87 : decode b_M_count 87 = .ok (.if_icmp .lt 9, 3) := by decide +kernel
theorem d_M_count_90 : decode b_M_count 90 = .ok (.aload_n 0, 1) := by decide +kernel
theorem d_M_count_91 : decode b_M_count 91 = .ok (.iconst 1, 1) := by decide +kernel
theorem d_M_count_92 : decode b_M_count 92 = .ok (.invokevirtual 107, 3) := by decide +kernel
theorem d_M_count_95 : decode b_M_count 95 = .ok (.ireturn, 1) := by decide +kernel
theorem d_M_count_96 : decode b_M_count 96 = .ok (.iload_n 1, 1) := by decide +kernel
theorem d_M_count_97 : decode b_M_count 97 = .ok (.bipush 40, 2) := by decide +kernel
theorem d_M_count_99 : decode b_M_count 99 = .ok (.if_icmp .lt 38, 3) := by decide +kernel
theorem d_M_count_102 : decode b_M_count 102 = .ok (.iconst 0, 1) := by decide +kernel
theorem d_M_count_103 : decode b_M_count 103 = .ok (.istore 4, 2) := by decide +kernel
theorem d_M_count_105 : decode b_M_count 105 = .ok (.iload 4, 2) := by decide +kernel
theorem d_M_count_107 : decode b_M_count 107 = .ok (.aload_n 0, 1) := by decide +kernel
theorem d_M_count_108 : decode b_M_count 108 = .ok (.getfield 71, 3) := by decide +kernel
theorem d_M_count_111 : decode b_M_count 111 = .ok (.iload_n 2, 1) := by decide +kernel
theorem d_M_count_112 : decode b_M_count 112 = .ok (.iaload, 1) := by decide +kernel
theorem d_M_count_113 : decode b_M_count 113 = .ok (.if_icmp .ge 24, 3) := by decide +kernel
theorem d_M_count_116 : decode b_M_count 116 = .ok (.iload_n 3, 1) := by decide +kernel
theorem d_M_count_117 : decode b_M_count 117 = .ok (.aload_n 0, 1) := by decide +kernel
theorem d_M_count_118 : decode b_M_count 118 = .ok (.getfield 74, 3) := by decide +kernel
theorem d_M_count_121 : decode b_M_count 121 = .ok (.bipush 40, 2) := by decide +kernel
theorem d_M_count_123 : decode b_M_count 123 = .ok (.iload_n 2, 1) := by decide +kernel
theorem d_M_count_124 : decode b_M_count 124 = .ok (.imul, 1) := by decide +kernel
theorem d_M_count_125 : decode b_M_count 125 = .ok (.iload 4, 2) := by decide +kernel
theorem d_M_count_127 : decode b_M_count 127 = .ok (.iadd, 1) := by decide +kernel
theorem d_M_count_128 : decode b_M_count 128 = .ok (.iaload, 1) := by decide +kernel
theorem d_M_count_129 : decode b_M_count 129 = .ok (.iadd, 1) := by decide +kernel
theorem d_M_count_130 : decode b_M_count 130 = .ok (.istore_n 3, 1) := by decide +kernel
theorem d_M_count_131 : decode b_M_count 131 = .ok (.iinc 4 1, 3) := by decide +kernel
theorem d_M_count_134 : decode b_M_count 134 = .ok (.goto (-29), 3) := by decide +kernel
theorem d_M_count_137 : decode b_M_count 137 = .ok (.iload_n 1, 1) := by decide +kernel
theorem d_M_count_138 : decode b_M_count 138 = .ok (.bipush 30, 2) := by decide +kernel
theorem d_M_count_140 : decode b_M_count 140 = .ok (.if_icmp .ge 63, 3) := by decide +kernel
theorem d_M_count_143 : decode b_M_count 143 = .ok (.iconst 0, 1) := by decide +kernel
theorem d_M_count_144 : decode b_M_count 144 = .ok (.istore 4, 2) := by decide +kernel
theorem d_M_count_146 : decode b_M_count 146 = .ok (.iload 4, 2) := by decide +kernel
theorem d_M_count_148 : decode b_M_count 148 = .ok (.bipush 12, 2) := by decide +kernel
theorem d_M_count_150 : decode b_M_count 150 = .ok (.if_icmp .ge 53, 3) := by decide +kernel
theorem d_M_count_153 : decode b_M_count 153 = .ok (.iload_n 1, 1) := by decide +kernel
theorem d_M_count_154 : decode b_M_count 154 = .ok (.bipush 20, 2) := by decide +kernel
theorem d_M_count_156 : decode b_M_count 156 = .ok (.if_icmp .ge 22, 3) := by decide +kernel
theorem d_M_count_159 : decode b_M_count 159 = .ok (.aload_n 0, 1) := by decide +kernel
theorem d_M_count_160 : decode b_M_count 160 = .ok (.getfield 7, 3) := by decide +kernel
theorem d_M_count_163 : decode b_M_count 163 = .ok (.bipush 12, 2) := by decide +kernel
theorem d_M_count_165 : decode b_M_count 165 = .ok (.iload_n 2, 1) := by decide +kernel
theorem d_M_count_166 : decode b_M_count 166 = .ok (.imul, 1) := by decide +kernel
theorem d_M_count_167 : decode b_M_count 167 = .ok (.iload 4, 2) := by decide +kernel
theorem d_M_count_169 : decode b_M_count 169 = .ok (.iadd, 1) := by decide +kernel
theorem d_M_count_170 : decode b_M_count 170 = .ok (.iaload, 1) := by decide +kernel
theorem d_M_count_171 : decode b_M_count 171 = .ok (.iconst (-1), 1) := by decide +kernel
theorem d_M_count_172 : decode b_M_count 172 = .ok (.if_icmp .eq 25, 3) := by decide +kernel
theorem d_M_count_175 : decode b_M_count 175 = .ok (.goto 19, 3) := by decide +kernel
theorem d_M_count_178 : decode b_M_count 178 = .ok (.aload_n 0, 1) := by decide +kernel
theorem d_M_count_179 : decode b_M_count 179 = .ok (.getfield 7, 3) := by decide +kernel
theorem d_M_count_182 : decode b_M_count 182 = .ok (.bipush 12, 2) := by decide +kernel
theorem d_M_count_184 : decode b_M_count 184 = .ok (.iload_n 2, 1) := by decide +kernel
theorem d_M_count_185 : decode b_M_count 185 = .ok (.imul, 1) := by decide +kernel
theorem d_M_count_186 : decode b_M_count 186 = .ok (.iload 4, 2) := by decide +kernel
theorem d_M_count_188 : decode b_M_count 188 = .ok (.iadd, 1) := by decide +kernel
theorem d_M_count_189 : decode b_M_count 189 = .ok (.iaload, 1) := by decide +kernel
theorem d_M_count_190 : decode b_M_count 190 = .ok (.iconst 1, 1) := by decide +kernel
theorem d_M_count_191 : decode b_M_count 191 = .ok (.if_icmp .ne 6, 3) := by decide +kernel
theorem d_M_count_194 : decode b_M_count 194 = .ok (.iinc 3 1, 3) := by decide +kernel
theorem d_M_count_197 : decode b_M_count 197 = .ok (.iinc 4 1, 3) := by decide +kernel
theorem d_M_count_200 : decode b_M_count 200 = .ok (.goto (-54), 3) := by decide +kernel
theorem d_M_count_203 : decode b_M_count 203 = .ok (.iload_n 1, 1) := by decide +kernel
theorem d_M_count_204 : decode b_M_count 204 = .ok (.bipush 30, 2) := by decide +kernel
theorem d_M_count_206 : decode b_M_count 206 = .ok (.bipush 39, 2) := by decide +kernel
theorem d_M_count_208 : decode b_M_count 208 = .ok (.invokestatic 96, 3) := by decide +kernel
theorem d_M_count_211 : decode b_M_count 211 = .ok (.ifCond .eq 12, 3) := by decide +kernel
theorem d_M_count_214 : decode b_M_count 214 = .ok (.aload_n 0, 1) := by decide +kernel
theorem d_M_count_215 : decode b_M_count 215 = .ok (.getfield 71, 3) := by decide +kernel
theorem d_M_count_218 : decode b_M_count 218 = .ok (.iload_n 2, 1) := by decide +kernel
theorem d_M_count_219 : decode b_M_count 219 = .ok (.iaload, 1) := by decide +kernel
theorem d_M_count_220 : decode b_M_count 220 = .ok (.goto 4, 3) := by decide +kernel
theorem d_M_count_223 : decode b_M_count 223 = .ok (.iload_n 3, 1) := by decide +kernel
theorem d_M_count_224 : decode b_M_count 224 = .ok (.ireturn, 1) := by decide +kernel
theorem d_W_ask_0 : decode b_W_ask 0 = .ok (.aload 4, 2) := by decide +kernel
theorem d_W_ask_2 : decode b_W_ask 2 = .ok (.iconst 0, 1) := by decide +kernel
theorem d_W_ask_3 : decode b_W_ask 3 = .ok (.aload_n 0, 1) := by decide +kernel
theorem d_W_ask_4 : decode b_W_ask 4 = .ok (.iload_n 1, 1) := by decide +kernel
theorem d_W_ask_5 : decode b_W_ask 5 = .ok (.iload_n 2, 1) := by decide +kernel
theorem d_W_ask_6 : decode b_W_ask 6 = .ok (.iload_n 3, 1) := by decide +kernel
theorem d_W_ask_7 : decode b_W_ask 7 = .ok (.invokevirtual 7, 3) := by decide +kernel
theorem d_W_ask_10 : decode b_W_ask 10 = .ok (.i2l, 1) := by decide +kernel
theorem d_W_ask_11 : decode b_W_ask 11 = .ok (.lastore, 1) := by decide +kernel
theorem d_W_ask_12 : decode b_W_ask 12 = .ok (.goto 15, 3) := by decide +kernel
theorem d_W_ask_15 : decode b_W_ask 15 = .ok (.astore 5, 2) := by decide +kernel
theorem d_W_ask_17 : decode b_W_ask 17 = .ok (.iconst 1, 1) := by decide +kernel
theorem d_W_ask_18 : decode b_W_ask 18 = .ok (.ireturn, 1) := by decide +kernel
theorem d_W_ask_19 : decode b_W_ask 19 = .ok (.astore 5, 2) := by decide +kernel
theorem d_W_ask_21 : decode b_W_ask 21 = .ok (.iconst 2, 1) := by decide +kernel
theorem d_W_ask_22 : decode b_W_ask 22 = .ok (.ireturn, 1) := by decide +kernel
theorem d_W_ask_23 : decode b_W_ask 23 = .ok (.astore 5, 2) := by decide +kernel
theorem d_W_ask_25 : decode b_W_ask 25 = .ok (.iconst 3, 1) := by decide +kernel
theorem d_W_ask_26 : decode b_W_ask 26 = .ok (.ireturn, 1) := by decide +kernel
theorem d_W_ask_27 : decode b_W_ask 27 = .ok (.iconst 0, 1) := by decide +kernel
theorem d_W_ask_28 : decode b_W_ask 28 = .ok (.ireturn, 1) := by decide +kernel
theorem d_W_confirm_0 : decode b_W_confirm 0 = .ok (.aload_n 2, 1) := by decide +kernel
theorem d_W_confirm_1 : decode b_W_confirm 1 = .ok (.iconst 0, 1) := by decide +kernel
theorem d_W_confirm_2 : decode b_W_confirm 2 = .ok (.aload_n 0, 1) := by decide +kernel
theorem d_W_confirm_3 : decode b_W_confirm 3 = .ok (.iload_n 1, 1) := by decide +kernel
theorem d_W_confirm_4 : decode b_W_confirm 4 = .ok (.invokevirtual 19, 3) := by decide +kernel
theorem d_W_confirm_7 : decode b_W_confirm 7 = .ok (.i2l, 1) := by decide +kernel
theorem d_W_confirm_8 : decode b_W_confirm 8 = .ok (.lastore, 1) := by decide +kernel
theorem d_W_confirm_9 : decode b_W_confirm 9 = .ok (.goto 6, 3) := by decide +kernel
theorem d_W_confirm_12 : decode b_W_confirm 12 = .ok (.astore_n 3, 1) := by decide +kernel
theorem d_W_confirm_13 : decode b_W_confirm 13 = .ok (.iconst 1, 1) := by decide +kernel
theorem d_W_confirm_14 : decode b_W_confirm 14 = .ok (.ireturn, 1) := by decide +kernel
theorem d_W_confirm_15 : decode b_W_confirm 15 = .ok (.iconst 0, 1) := by decide +kernel
theorem d_W_confirm_16 : decode b_W_confirm 16 = .ok (.ireturn, 1) := by decide +kernel
theorem d_W_leave_0 : decode b_W_leave 0 = .ok (.aload_n 3, 1) := by decide +kernel
theorem d_W_leave_1 : decode b_W_leave 1 = .ok (.iconst 0, 1) := by decide +kernel
theorem d_W_leave_2 : decode b_W_leave 2 = .ok (.aload_n 0, 1) := by decide +kernel
theorem d_W_leave_3 : decode b_W_leave 3 = .ok (.iload_n 1, 1) := by decide +kernel
theorem d_W_leave_4 : decode b_W_leave 4 = .ok (.iload_n 2, 1) := by decide +kernel
theorem d_W_leave_5 : decode b_W_leave 5 = .ok (.invokevirtual 25, 3) := by decide +kernel
theorem d_W_leave_8 : decode b_W_leave 8 = .ok (.i2l, 1) := by decide +kernel
theorem d_W_leave_9 : decode b_W_leave 9 = .ok (.lastore, 1) := by decide +kernel
theorem d_W_leave_10 : decode b_W_leave 10 = .ok (.goto 11, 3) := by decide +kernel
theorem d_W_leave_13 : decode b_W_leave 13 = .ok (.astore 4, 2) := by decide +kernel
theorem d_W_leave_15 : decode b_W_leave 15 = .ok (.iconst 1, 1) := by decide +kernel
theorem d_W_leave_16 : decode b_W_leave 16 = .ok (.ireturn, 1) := by decide +kernel
theorem d_W_leave_17 : decode b_W_leave 17 = .ok (.astore 4, 2) := by decide +kernel
theorem d_W_leave_19 : decode b_W_leave 19 = .ok (.iconst 2, 1) := by decide +kernel
theorem d_W_leave_20 : decode b_W_leave 20 = .ok (.ireturn, 1) := by decide +kernel
theorem d_W_leave_21 : decode b_W_leave 21 = .ok (.iconst 0, 1) := by decide +kernel
theorem d_W_leave_22 : decode b_W_leave 22 = .ok (.ireturn, 1) := by decide +kernel
theorem d_W_way_0 : decode b_W_way 0 = .ok (.aload 4, 2) := by decide +kernel
theorem d_W_way_2 : decode b_W_way 2 = .ok (.iconst 0, 1) := by decide +kernel
theorem d_W_way_3 : decode b_W_way 3 = .ok (.aload_n 0, 1) := by decide +kernel
theorem d_W_way_4 : decode b_W_way 4 = .ok (.iload_n 1, 1) := by decide +kernel
theorem d_W_way_5 : decode b_W_way 5 = .ok (.iload_n 2, 1) := by decide +kernel
theorem d_W_way_6 : decode b_W_way 6 = .ok (.iload_n 3, 1) := by decide +kernel
theorem d_W_way_7 : decode b_W_way 7 = .ok (.invokevirtual 29, 3) := by decide +kernel
theorem d_W_way_10 : decode b_W_way 10 = .ok (.i2l, 1) := by decide +kernel
theorem d_W_way_11 : decode b_W_way 11 = .ok (.lastore, 1) := by decide +kernel
theorem d_W_way_12 : decode b_W_way 12 = .ok (.goto 11, 3) := by decide +kernel
theorem d_W_way_15 : decode b_W_way 15 = .ok (.astore 5, 2) := by decide +kernel
theorem d_W_way_17 : decode b_W_way 17 = .ok (.iconst 1, 1) := by decide +kernel
theorem d_W_way_18 : decode b_W_way 18 = .ok (.ireturn, 1) := by decide +kernel
theorem d_W_way_19 : decode b_W_way 19 = .ok (.astore 5, 2) := by decide +kernel
theorem d_W_way_21 : decode b_W_way 21 = .ok (.iconst 2, 1) := by decide +kernel
theorem d_W_way_22 : decode b_W_way 22 = .ok (.ireturn, 1) := by decide +kernel
theorem d_W_way_23 : decode b_W_way 23 = .ok (.iconst 0, 1) := by decide +kernel
theorem d_W_way_24 : decode b_W_way 24 = .ok (.ireturn, 1) := by decide +kernel
theorem d_W_moderator_0 : decode b_W_moderator 0 = .ok (.aload 4, 2) := by decide +kernel
theorem d_W_moderator_2 : decode b_W_moderator 2 = .ok (.iconst 0, 1) := by decide +kernel
theorem d_W_moderator_3 : decode b_W_moderator 3 = .ok (.aload_n 0, 1) := by decide +kernel
theorem d_W_moderator_4 : decode b_W_moderator 4 = .ok (.iload_n 1, 1) := by decide +kernel
theorem d_W_moderator_5 : decode b_W_moderator 5 = .ok (.iload_n 2, 1) := by decide +kernel
theorem d_W_moderator_6 : decode b_W_moderator 6 = .ok (.iload_n 3, 1) := by decide +kernel
theorem d_W_moderator_7 : decode b_W_moderator 7 = .ok (.invokevirtual 32, 3) := by decide +kernel
theorem d_W_moderator_10 : decode b_W_moderator 10 = .ok (.ifCond .eq 7, 3) := by decide +kernel
theorem d_W_moderator_13 : decode b_W_moderator 13 = .ok (.lconst 1, 1) := by decide +kernel
theorem d_W_moderator_14 : decode b_W_moderator 14 = .ok (.goto 4, 3) := by decide +kernel
theorem d_W_moderator_17 : decode b_W_moderator 17 = .ok (.lconst 0, 1) := by decide +kernel
theorem d_W_moderator_18 : decode b_W_moderator 18 = .ok (.lastore, 1) := by decide +kernel
theorem d_W_moderator_19 : decode b_W_moderator 19 = .ok (.goto 15, 3) := by decide +kernel
theorem d_W_moderator_22 : decode b_W_moderator 22 = .ok (.astore 5, 2) := by decide +kernel
theorem d_W_moderator_24 : decode b_W_moderator 24 = .ok (.iconst 1, 1) := by decide +kernel
theorem d_W_moderator_25 : decode b_W_moderator 25 = .ok (.ireturn, 1) := by decide +kernel
theorem d_W_moderator_26 : decode b_W_moderator 26 = .ok (.astore 5, 2) := by decide +kernel
theorem d_W_moderator_28 : decode b_W_moderator 28 = .ok (.iconst 2, 1) := by decide +kernel
theorem d_W_moderator_29 : decode b_W_moderator 29 = .ok (.ireturn, 1) := by decide +kernel
theorem d_W_moderator_30 : decode b_W_moderator 30 = .ok (.astore 5, 2) := by decide +kernel
theorem d_W_moderator_32 : decode b_W_moderator 32 = .ok (.iconst 3, 1) := by decide +kernel
theorem d_W_moderator_33 : decode b_W_moderator 33 = .ok (.ireturn, 1) := by decide +kernel
theorem d_W_moderator_34 : decode b_W_moderator 34 = .ok (.iconst 0, 1) := by decide +kernel
theorem d_W_moderator_35 : decode b_W_moderator 35 = .ok (.ireturn, 1) := by decide +kernel
theorem d_W_ban_0 : decode b_W_ban 0 = .ok (.aload 4, 2) := by decide +kernel
theorem d_W_ban_2 : decode b_W_ban 2 = .ok (.iconst 0, 1) := by decide +kernel
theorem d_W_ban_3 : decode b_W_ban 3 = .ok (.aload_n 0, 1) := by decide +kernel
theorem d_W_ban_4 : decode b_W_ban 4 = .ok (.iload_n 1, 1) := by decide +kernel
theorem d_W_ban_5 : decode b_W_ban 5 = .ok (.iload_n 2, 1) := by decide +kernel
theorem d_W_ban_6 : decode b_W_ban 6 = .ok (.iload_n 3, 1) := by decide +kernel
theorem d_W_ban_7 : decode b_W_ban 7 = .ok (.invokevirtual 36, 3) := by decide +kernel
theorem d_W_ban_10 : decode b_W_ban 10 = .ok (.ifCond .eq 7, 3) := by decide +kernel
theorem d_W_ban_13 : decode b_W_ban 13 = .ok (.lconst 1, 1) := by decide +kernel
theorem d_W_ban_14 : decode b_W_ban 14 = .ok (.goto 4, 3) := by decide +kernel
theorem d_W_ban_17 : decode b_W_ban 17 = .ok (.lconst 0, 1) := by decide +kernel
theorem d_W_ban_18 : decode b_W_ban 18 = .ok (.lastore, 1) := by decide +kernel
theorem d_W_ban_19 : decode b_W_ban 19 = .ok (.goto 7, 3) := by decide +kernel
theorem d_W_ban_22 : decode b_W_ban 22 = .ok (.astore 5, 2) := by decide +kernel
theorem d_W_ban_24 : decode b_W_ban 24 = .ok (.iconst 1, 1) := by decide +kernel
theorem d_W_ban_25 : decode b_W_ban 25 = .ok (.ireturn, 1) := by decide +kernel
theorem d_W_ban_26 : decode b_W_ban 26 = .ok (.iconst 0, 1) := by decide +kernel
theorem d_W_ban_27 : decode b_W_ban 27 = .ok (.ireturn, 1) := by decide +kernel
theorem d_W_setting_0 : decode b_W_setting 0 = .ok (.aload 5, 2) := by decide +kernel
theorem d_W_setting_2 : decode b_W_setting 2 = .ok (.iconst 0, 1) := by decide +kernel
theorem d_W_setting_3 : decode b_W_setting 3 = .ok (.aload_n 0, 1) := by decide +kernel
theorem d_W_setting_4 : decode b_W_setting 4 = .ok (.iload_n 1, 1) := by decide +kernel
theorem d_W_setting_5 : decode b_W_setting 5 = .ok (.iload_n 2, 1) := by decide +kernel
theorem d_W_setting_6 : decode b_W_setting 6 = .ok (.dload_n 3, 1) := by decide +kernel
theorem d_W_setting_7 : decode b_W_setting 7 = .ok (.invokevirtual 39, 3) := by decide +kernel
theorem d_W_setting_10 : decode b_W_setting 10 = .ok (.dastore, 1) := by decide +kernel
theorem d_W_setting_11 : decode b_W_setting 11 = .ok (.goto 7, 3) := by decide +kernel
theorem d_W_setting_14 : decode b_W_setting 14 = .ok (.astore 6, 2) := by decide +kernel
theorem d_W_setting_16 : decode b_W_setting 16 = .ok (.iconst 1, 1) := by decide +kernel
theorem d_W_setting_17 : decode b_W_setting 17 = .ok (.ireturn, 1) := by decide +kernel
theorem d_W_setting_18 : decode b_W_setting 18 = .ok (.iconst 0, 1) := by decide +kernel
theorem d_W_setting_19 : decode b_W_setting 19 = .ok (.ireturn, 1) := by decide +kernel
theorem d_W_post_0 : decode b_W_post 0 = .ok (.aload 5, 2) := by decide +kernel
theorem d_W_post_2 : decode b_W_post 2 = .ok (.iconst 0, 1) := by decide +kernel
theorem d_W_post_3 : decode b_W_post 3 = .ok (.aload_n 0, 1) := by decide +kernel
theorem d_W_post_4 : decode b_W_post 4 = .ok (.iload_n 1, 1) := by decide +kernel
theorem d_W_post_5 : decode b_W_post 5 = .ok (.iload_n 2, 1) := by decide +kernel
theorem d_W_post_6 : decode b_W_post 6 = .ok (.iload_n 3, 1) := by decide +kernel
theorem d_W_post_7 : decode b_W_post 7 = .ok (.iload 4, 2) := by decide +kernel
theorem d_W_post_9 : decode b_W_post 9 = .ok (.invokevirtual 43, 3) := by decide +kernel
theorem d_W_post_12 : decode b_W_post 12 = .ok (.i2l, 1) := by decide +kernel
theorem d_W_post_13 : decode b_W_post 13 = .ok (.lastore, 1) := by decide +kernel
theorem d_W_post_14 : decode b_W_post 14 = .ok (.goto 15, 3) := by decide +kernel
theorem d_W_post_17 : decode b_W_post 17 = .ok (.astore 6, 2) := by decide +kernel
theorem d_W_post_19 : decode b_W_post 19 = .ok (.iconst 1, 1) := by decide +kernel
theorem d_W_post_20 : decode b_W_post 20 = .ok (.ireturn, 1) := by decide +kernel
theorem d_W_post_21 : decode b_W_post 21 = .ok (.astore 6, 2) := by decide +kernel
theorem d_W_post_23 : decode b_W_post 23 = .ok (.iconst 2, 1) := by decide +kernel
theorem d_W_post_24 : decode b_W_post 24 = .ok (.ireturn, 1) := by decide +kernel
theorem d_W_post_25 : decode b_W_post 25 = .ok (.astore 6, 2) := by decide +kernel
theorem d_W_post_27 : decode b_W_post 27 = .ok (.iconst 3, 1) := by decide +kernel
theorem d_W_post_28 : decode b_W_post 28 = .ok (.ireturn, 1) := by decide +kernel
theorem d_W_post_29 : decode b_W_post 29 = .ok (.iconst 0, 1) := by decide +kernel
theorem d_W_post_30 : decode b_W_post 30 = .ok (.ireturn, 1) := by decide +kernel
theorem d_W_judge_0 : decode b_W_judge 0 = .ok (.aload 4, 2) := by decide +kernel
theorem d_W_judge_2 : decode b_W_judge 2 = .ok (.iconst 0, 1) := by decide +kernel
theorem d_W_judge_3 : decode b_W_judge 3 = .ok (.aload_n 0, 1) := by decide +kernel
theorem d_W_judge_4 : decode b_W_judge 4 = .ok (.iload_n 1, 1) := by decide +kernel
theorem d_W_judge_5 : decode b_W_judge 5 = .ok (.iload_n 2, 1) := by decide +kernel
theorem d_W_judge_6 : decode b_W_judge 6 = .ok (.iload_n 3, 1) := by decide +kernel
theorem d_W_judge_7 : decode b_W_judge 7 = .ok (.invokevirtual 47, 3) := by decide +kernel
theorem d_W_judge_10 : decode b_W_judge 10 = .ok (.i2l, 1) := by decide +kernel
theorem d_W_judge_11 : decode b_W_judge 11 = .ok (.lastore, 1) := by decide +kernel
theorem d_W_judge_12 : decode b_W_judge 12 = .ok (.goto 15, 3) := by decide +kernel
theorem d_W_judge_15 : decode b_W_judge 15 = .ok (.astore 5, 2) := by decide +kernel
theorem d_W_judge_17 : decode b_W_judge 17 = .ok (.iconst 1, 1) := by decide +kernel
theorem d_W_judge_18 : decode b_W_judge 18 = .ok (.ireturn, 1) := by decide +kernel
theorem d_W_judge_19 : decode b_W_judge 19 = .ok (.astore 5, 2) := by decide +kernel
theorem d_W_judge_21 : decode b_W_judge 21 = .ok (.iconst 2, 1) := by decide +kernel
theorem d_W_judge_22 : decode b_W_judge 22 = .ok (.ireturn, 1) := by decide +kernel
theorem d_W_judge_23 : decode b_W_judge 23 = .ok (.astore 5, 2) := by decide +kernel
theorem d_W_judge_25 : decode b_W_judge 25 = .ok (.iconst 3, 1) := by decide +kernel
theorem d_W_judge_26 : decode b_W_judge 26 = .ok (.ireturn, 1) := by decide +kernel
theorem d_W_judge_27 : decode b_W_judge 27 = .ok (.iconst 0, 1) := by decide +kernel
theorem d_W_judge_28 : decode b_W_judge 28 = .ok (.ireturn, 1) := by decide +kernel
theorem d_W_bounce_0 : decode b_W_bounce 0 = .ok (.aload 4, 2) := by decide +kernel
theorem d_W_bounce_2 : decode b_W_bounce 2 = .ok (.iconst 0, 1) := by decide +kernel
theorem d_W_bounce_3 : decode b_W_bounce 3 = .ok (.aload_n 0, 1) := by decide +kernel
theorem d_W_bounce_4 : decode b_W_bounce 4 = .ok (.iload_n 1, 1) := by decide +kernel
theorem d_W_bounce_5 : decode b_W_bounce 5 = .ok (.iload_n 2, 1) := by decide +kernel
theorem d_W_bounce_6 : decode b_W_bounce 6 = .ok (.iload_n 3, 1) := by decide +kernel
theorem d_W_bounce_7 : decode b_W_bounce 7 = .ok (.invokevirtual 50, 3) := by decide +kernel
theorem d_W_bounce_10 : decode b_W_bounce 10 = .ok (.dastore, 1) := by decide +kernel
theorem d_W_bounce_11 : decode b_W_bounce 11 = .ok (.goto 15, 3) := by decide +kernel
theorem d_W_bounce_14 : decode b_W_bounce 14 = .ok (.astore 5, 2) := by decide +kernel
theorem d_W_bounce_16 : decode b_W_bounce 16 = .ok (.iconst 1, 1) := by decide +kernel
theorem d_W_bounce_17 : decode b_W_bounce 17 = .ok (.ireturn, 1) := by decide +kernel
theorem d_W_bounce_18 : decode b_W_bounce 18 = .ok (.astore 5, 2) := by decide +kernel
theorem d_W_bounce_20 : decode b_W_bounce 20 = .ok (.iconst 2, 1) := by decide +kernel
theorem d_W_bounce_21 : decode b_W_bounce 21 = .ok (.ireturn, 1) := by decide +kernel
theorem d_W_bounce_22 : decode b_W_bounce 22 = .ok (.astore 5, 2) := by decide +kernel
theorem d_W_bounce_24 : decode b_W_bounce 24 = .ok (.iconst 3, 1) := by decide +kernel
theorem d_W_bounce_25 : decode b_W_bounce 25 = .ok (.ireturn, 1) := by decide +kernel
theorem d_W_bounce_26 : decode b_W_bounce 26 = .ok (.iconst 0, 1) := by decide +kernel
theorem d_W_bounce_27 : decode b_W_bounce 27 = .ok (.ireturn, 1) := by decide +kernel
theorem d_W_renew_0 : decode b_W_renew 0 = .ok (.aload_n 3, 1) := by decide +kernel
theorem d_W_renew_1 : decode b_W_renew 1 = .ok (.iconst 0, 1) := by decide +kernel
theorem d_W_renew_2 : decode b_W_renew 2 = .ok (.aload_n 0, 1) := by decide +kernel
theorem d_W_renew_3 : decode b_W_renew 3 = .ok (.iload_n 1, 1) := by decide +kernel
theorem d_W_renew_4 : decode b_W_renew 4 = .ok (.iload_n 2, 1) := by decide +kernel
theorem d_W_renew_5 : decode b_W_renew 5 = .ok (.invokevirtual 54, 3) := by decide +kernel
theorem d_W_renew_8 : decode b_W_renew 8 = .ok (.i2l, 1) := by decide +kernel
theorem d_W_renew_9 : decode b_W_renew 9 = .ok (.lastore, 1) := by decide +kernel
theorem d_W_renew_10 : decode b_W_renew 10 = .ok (.goto 15, 3) := by decide +kernel
theorem d_W_renew_13 : decode b_W_renew 13 = .ok (.astore 4, 2) := by decide +kernel
theorem d_W_renew_15 : decode b_W_renew 15 = .ok (.iconst 1, 1) := by decide +kernel
theorem d_W_renew_16 : decode b_W_renew 16 = .ok (.ireturn, 1) := by decide +kernel
theorem d_W_renew_17 : decode b_W_renew 17 = .ok (.astore 4, 2) := by decide +kernel
theorem d_W_renew_19 : decode b_W_renew 19 = .ok (.iconst 2, 1) := by decide +kernel
theorem d_W_renew_20 : decode b_W_renew 20 = .ok (.ireturn, 1) := by decide +kernel
theorem d_W_renew_21 : decode b_W_renew 21 = .ok (.astore 4, 2) := by decide +kernel
theorem d_W_renew_23 : decode b_W_renew 23 = .ok (.iconst 3, 1) := by decide +kernel
theorem d_W_renew_24 : decode b_W_renew 24 = .ok (.ireturn, 1) := by decide +kernel
theorem d_W_renew_25 : decode b_W_renew 25 = .ok (.iconst 0, 1) := by decide +kernel
theorem d_W_renew_26 : decode b_W_renew 26 = .ok (.ireturn, 1) := by decide +kernel
theorem d_W_tick_0 : decode b_W_tick 0 = .ok (.aload_n 2, 1) := by decide +kernel
theorem d_W_tick_1 : decode b_W_tick 1 = .ok (.iconst 0, 1) := by decide +kernel
theorem d_W_tick_2 : decode b_W_tick 2 = .ok (.aload_n 0, 1) := by decide +kernel
theorem d_W_tick_3 : decode b_W_tick 3 = .ok (.iload_n 1, 1) := by decide +kernel
theorem d_W_tick_4 : decode b_W_tick 4 = .ok (.invokevirtual 57, 3) := by decide +kernel
theorem d_W_tick_7 : decode b_W_tick 7 = .ok (.i2l, 1) := by decide +kernel
theorem d_W_tick_8 : decode b_W_tick 8 = .ok (.lastore, 1) := by decide +kernel
theorem d_W_tick_9 : decode b_W_tick 9 = .ok (.goto 6, 3) := by decide +kernel
theorem d_W_tick_12 : decode b_W_tick 12 = .ok (.astore_n 3, 1) := by decide +kernel
theorem d_W_tick_13 : decode b_W_tick 13 = .ok (.iconst 1, 1) := by decide +kernel
theorem d_W_tick_14 : decode b_W_tick 14 = .ok (.ireturn, 1) := by decide +kernel
theorem d_W_tick_15 : decode b_W_tick 15 = .ok (.iconst 0, 1) := by decide +kernel
theorem d_W_tick_16 : decode b_W_tick 16 = .ok (.ireturn, 1) := by decide +kernel
theorem d_W_told_0 : decode b_W_told 0 = .ok (.aload 4, 2) := by decide +kernel
theorem d_W_told_2 : decode b_W_told 2 = .ok (.iconst 0, 1) := by decide +kernel
theorem d_W_told_3 : decode b_W_told 3 = .ok (.aload_n 0, 1) := by decide +kernel
theorem d_W_told_4 : decode b_W_told 4 = .ok (.iload_n 1, 1) := by decide +kernel
theorem d_W_told_5 : decode b_W_told 5 = .ok (.iload_n 2, 1) := by decide +kernel
theorem d_W_told_6 : decode b_W_told 6 = .ok (.iload_n 3, 1) := by decide +kernel
theorem d_W_told_7 : decode b_W_told 7 = .ok (.invokevirtual 60, 3) := by decide +kernel
theorem d_W_told_10 : decode b_W_told 10 = .ok (.i2l, 1) := by decide +kernel
theorem d_W_told_11 : decode b_W_told 11 = .ok (.lastore, 1) := by decide +kernel
theorem d_W_told_12 : decode b_W_told 12 = .ok (.goto 11, 3) := by decide +kernel
theorem d_W_told_15 : decode b_W_told 15 = .ok (.astore 5, 2) := by decide +kernel
theorem d_W_told_17 : decode b_W_told 17 = .ok (.iconst 1, 1) := by decide +kernel
theorem d_W_told_18 : decode b_W_told 18 = .ok (.ireturn, 1) := by decide +kernel
theorem d_W_told_19 : decode b_W_told 19 = .ok (.astore 5, 2) := by decide +kernel
theorem d_W_told_21 : decode b_W_told 21 = .ok (.iconst 2, 1) := by decide +kernel
theorem d_W_told_22 : decode b_W_told 22 = .ok (.ireturn, 1) := by decide +kernel
theorem d_W_told_23 : decode b_W_told 23 = .ok (.iconst 0, 1) := by decide +kernel
theorem d_W_told_24 : decode b_W_told 24 = .ok (.ireturn, 1) := by decide +kernel
theorem d_W_score_0 : decode b_W_score 0 = .ok (.aload_n 3, 1) := by decide +kernel
theorem d_W_score_1 : decode b_W_score 1 = .ok (.iconst 0, 1) := by decide +kernel
theorem d_W_score_2 : decode b_W_score 2 = .ok (.aload_n 0, 1) := by decide +kernel
theorem d_W_score_3 : decode b_W_score 3 = .ok (.iload_n 1, 1) := by decide +kernel
theorem d_W_score_4 : decode b_W_score 4 = .ok (.iload_n 2, 1) := by decide +kernel
theorem d_W_score_5 : decode b_W_score 5 = .ok (.invokevirtual 63, 3) := by decide +kernel
theorem d_W_score_8 : decode b_W_score 8 = .ok (.dastore, 1) := by decide +kernel
theorem d_W_score_9 : decode b_W_score 9 = .ok (.goto 11, 3) := by decide +kernel
theorem d_W_score_12 : decode b_W_score 12 = .ok (.astore 4, 2) := by decide +kernel
theorem d_W_score_14 : decode b_W_score 14 = .ok (.iconst 1, 1) := by decide +kernel
theorem d_W_score_15 : decode b_W_score 15 = .ok (.ireturn, 1) := by decide +kernel
theorem d_W_score_16 : decode b_W_score 16 = .ok (.astore 4, 2) := by decide +kernel
theorem d_W_score_18 : decode b_W_score 18 = .ok (.iconst 2, 1) := by decide +kernel
theorem d_W_score_19 : decode b_W_score 19 = .ok (.ireturn, 1) := by decide +kernel
theorem d_W_score_20 : decode b_W_score 20 = .ok (.iconst 0, 1) := by decide +kernel
theorem d_W_score_21 : decode b_W_score 21 = .ok (.ireturn, 1) := by decide +kernel
theorem d_W_sent_0 : decode b_W_sent 0 = .ok (.aload_n 3, 1) := by decide +kernel
theorem d_W_sent_1 : decode b_W_sent 1 = .ok (.iconst 0, 1) := by decide +kernel
theorem d_W_sent_2 : decode b_W_sent 2 = .ok (.aload_n 0, 1) := by decide +kernel
theorem d_W_sent_3 : decode b_W_sent 3 = .ok (.iload_n 1, 1) := by decide +kernel
theorem d_W_sent_4 : decode b_W_sent 4 = .ok (.iload_n 2, 1) := by decide +kernel
theorem d_W_sent_5 : decode b_W_sent 5 = .ok (.invokevirtual 67, 3) := by decide +kernel
theorem d_W_sent_8 : decode b_W_sent 8 = .ok (.i2l, 1) := by decide +kernel
theorem d_W_sent_9 : decode b_W_sent 9 = .ok (.lastore, 1) := by decide +kernel
theorem d_W_sent_10 : decode b_W_sent 10 = .ok (.goto 11, 3) := by decide +kernel
theorem d_W_sent_13 : decode b_W_sent 13 = .ok (.astore 4, 2) := by decide +kernel
theorem d_W_sent_15 : decode b_W_sent 15 = .ok (.iconst 1, 1) := by decide +kernel
theorem d_W_sent_16 : decode b_W_sent 16 = .ok (.ireturn, 1) := by decide +kernel
theorem d_W_sent_17 : decode b_W_sent 17 = .ok (.astore 4, 2) := by decide +kernel
theorem d_W_sent_19 : decode b_W_sent 19 = .ok (.iconst 2, 1) := by decide +kernel
theorem d_W_sent_20 : decode b_W_sent 20 = .ok (.ireturn, 1) := by decide +kernel
theorem d_W_sent_21 : decode b_W_sent 21 = .ok (.iconst 0, 1) := by decide +kernel
theorem d_W_sent_22 : decode b_W_sent 22 = .ok (.ireturn, 1) := by decide +kernel
theorem d_W_count_0 : decode b_W_count 0 = .ok (.aload_n 2, 1) := by decide +kernel
theorem d_W_count_1 : decode b_W_count 1 = .ok (.iconst 0, 1) := by decide +kernel
theorem d_W_count_2 : decode b_W_count 2 = .ok (.aload_n 0, 1) := by decide +kernel
theorem d_W_count_3 : decode b_W_count 3 = .ok (.iload_n 1, 1) := by decide +kernel
theorem d_W_count_4 : decode b_W_count 4 = .ok (.invokevirtual 72, 3) := by decide +kernel
theorem d_W_count_7 : decode b_W_count 7 = .ok (.i2l, 1) := by decide +kernel
theorem d_W_count_8 : decode b_W_count 8 = .ok (.lastore, 1) := by decide +kernel
theorem d_W_count_9 : decode b_W_count 9 = .ok (.goto 6, 3) := by decide +kernel
theorem d_W_count_12 : decode b_W_count 12 = .ok (.astore_n 3, 1) := by decide +kernel
theorem d_W_count_13 : decode b_W_count 13 = .ok (.iconst 1, 1) := by decide +kernel
theorem d_W_count_14 : decode b_W_count 14 = .ok (.ireturn, 1) := by decide +kernel
theorem d_W_count_15 : decode b_W_count 15 = .ok (.iconst 0, 1) := by decide +kernel
theorem d_W_count_16 : decode b_W_count 16 = .ok (.ireturn, 1) := by decide +kernel
theorem d_W_law_0 : decode b_W_law 0 = .ok (.new 8, 3) := by decide +kernel
theorem d_W_law_3 : decode b_W_law 3 = .ok (.dup, 1) := by decide +kernel
theorem d_W_law_4 : decode b_W_law 4 = .ok (.invokespecial 75, 3) := by decide +kernel
theorem d_W_law_7 : decode b_W_law 7 = .ok (.astore_n 1, 1) := by decide +kernel
theorem d_W_law_8 : decode b_W_law 8 = .ok (.new 76, 3) := by decide +kernel
theorem d_W_law_11 : decode b_W_law 11 = .ok (.dup, 1) := by decide +kernel
theorem d_W_law_12 : decode b_W_law 12 = .ok (.invokespecial 78, 3) := by decide +kernel
theorem d_W_law_15 : decode b_W_law 15 = .ok (.astore_n 2, 1) := by decide +kernel
theorem d_W_law_16 : decode b_W_law 16 = .ok (.iconst 1, 1) := by decide +kernel
theorem d_W_law_17 : decode b_W_law 17 = .ok (.newarray .long, 2) := by decide +kernel
theorem d_W_law_19 : decode b_W_law 19 = .ok (.astore_n 3, 1) := by decide +kernel
theorem d_W_law_20 : decode b_W_law 20 = .ok (.iconst 1, 1) := by decide +kernel
theorem d_W_law_21 : decode b_W_law 21 = .ok (.newarray .double, 2) := by decide +kernel
theorem d_W_law_23 : decode b_W_law 23 = .ok (.astore 4, 2) := by decide +kernel
theorem d_W_law_25 : decode b_W_law 25 = .ok (.iconst 0, 1) := by decide +kernel
theorem d_W_law_26 : decode b_W_law 26 = .ok (.istore 5, 2) := by decide +kernel
theorem d_W_law_28 : decode b_W_law 28 = .ok (.iload 5, 2) := by decide +kernel
theorem d_W_law_30 : decode b_W_law 30 = .ok (.aload_n 0, 1) := by decide +kernel
theorem d_W_law_31 : decode b_W_law 31 = .ok (.arraylength, 1) := by decide +kernel
theorem d_W_law_32 : decode b_W_law 32 = .ok (.iconst 5, 1) := by decide +kernel
theorem d_W_law_33 : decode b_W_law 33 = .ok (.isub, 1) := by decide +kernel
theorem d_W_law_34 : decode b_W_law 34 = .ok (.if_icmp .gt 929, 3) := by decide +kernel
theorem d_W_law_37 : decode b_W_law 37 = .ok (.aload_n 0, 1) := by decide +kernel
theorem d_W_law_38 : decode b_W_law 38 = .ok (.iload 5, 2) := by decide +kernel
theorem d_W_law_40 : decode b_W_law 40 = .ok (.iaload, 1) := by decide +kernel
theorem d_W_law_41 : decode b_W_law 41 = .ok (.bipush 15, 2) := by decide +kernel
theorem d_W_law_43 : decode b_W_law 43 = .ok (.iand, 1) := by decide +kernel
theorem d_W_law_44 : decode b_W_law 44 = .ok (.tableswitch 913 0 15 #[80, 132, 160, 200, 252, 320, 388, 451, 515, 567, 636, 676, 704, 756, 845, 885], 80) := by decide +kernel
theorem d_W_law_124 : decode b_W_law 124 = .ok (.aload_n 1, 1) := by decide +kernel
theorem d_W_law_125 : decode b_W_law 125 = .ok (.aload_n 0, 1) := by decide +kernel
theorem d_W_law_126 : decode b_W_law 126 = .ok (.iload 5, 2) := by decide +kernel
theorem d_W_law_128 : decode b_W_law 128 = .ok (.iconst 1, 1) := by decide +kernel
theorem d_W_law_129 : decode b_W_law 129 = .ok (.iadd, 1) := by decide +kernel
theorem d_W_law_130 : decode b_W_law 130 = .ok (.iaload, 1) := by decide +kernel
theorem d_W_law_131 : decode b_W_law 131 = .ok (.aload_n 0, 1) := by decide +kernel
theorem d_W_law_132 : decode b_W_law 132 = .ok (.iload 5, 2) := by decide +kernel
theorem d_W_law_134 : decode b_W_law 134 = .ok (.iconst 2, 1) := by decide +kernel
theorem d_W_law_135 : decode b_W_law 135 = .ok (.iadd, 1) := by decide +kernel
theorem d_W_law_136 : decode b_W_law 136 = .ok (.iaload, 1) := by decide +kernel
theorem d_W_law_137 : decode b_W_law 137 = .ok (.aload_n 0, 1) := by decide +kernel
theorem d_W_law_138 : decode b_W_law 138 = .ok (.iload 5, 2) := by decide +kernel
theorem d_W_law_140 : decode b_W_law 140 = .ok (.iconst 3, 1) := by decide +kernel
theorem d_W_law_141 : decode b_W_law 141 = .ok (.iadd, 1) := by decide +kernel
theorem d_W_law_142 : decode b_W_law 142 = .ok (.iaload, 1) := by decide +kernel
theorem d_W_law_143 : decode b_W_law 143 = .ok (.aload_n 3, 1) := by decide +kernel
theorem d_W_law_144 : decode b_W_law 144 = .ok (.invokestatic 79, 3) := by decide +kernel
theorem d_W_law_147 : decode b_W_law 147 = .ok (.istore 6, 2) := by decide +kernel
theorem d_W_law_149 : decode b_W_law 149 = .ok (.aload_n 2, 1) := by decide +kernel
