theorem dX5_init_0 : decode cX5_init 0 = .ok (.aload_n 0, 1) := by decide +kernel
theorem dX5_init_1 : decode cX5_init 1 = .ok (.invokespecial 1, 3) := by decide +kernel
theorem dX5_init_4 : decode cX5_init 4 = .ok (.aload_n 0, 1) := by decide +kernel
theorem dX5_init_5 : decode cX5_init 5 = .ok (.new 7, 3) := by decide +kernel
theorem dX5_init_8 : decode cX5_init 8 = .ok (.dup, 1) := by decide +kernel
theorem dX5_init_9 : decode cX5_init 9 = .ok (.bipush 16, 2) := by decide +kernel
theorem dX5_init_11 : decode cX5_init 11 = .ok (.invokespecial 11, 3) := by decide +kernel
theorem dX5_init_14 : decode cX5_init 14 = .ok (.putfield 14, 3) := by decide +kernel
theorem dX5_init_17 : decode cX5_init 17 = .ok (.aload_n 0, 1) := by decide +kernel
theorem dX5_init_18 : decode cX5_init 18 = .ok (.new 7, 3) := by decide +kernel
theorem dX5_init_21 : decode cX5_init 21 = .ok (.dup, 1) := by decide +kernel
theorem dX5_init_22 : decode cX5_init 22 = .ok (.bipush 16, 2) := by decide +kernel
theorem dX5_init_24 : decode cX5_init 24 = .ok (.invokespecial 11, 3) := by decide +kernel
theorem dX5_init_27 : decode cX5_init 27 = .ok (.putfield 18, 3) := by decide +kernel
theorem dX5_init_30 : decode cX5_init 30 = .ok (.aload_n 0, 1) := by decide +kernel
theorem dX5_init_31 : decode cX5_init 31 = .ok (.new 7, 3) := by decide +kernel
theorem dX5_init_34 : decode cX5_init 34 = .ok (.dup, 1) := by decide +kernel
theorem dX5_init_35 : decode cX5_init 35 = .ok (.bipush 16, 2) := by decide +kernel
theorem dX5_init_37 : decode cX5_init 37 = .ok (.invokespecial 11, 3) := by decide +kernel
theorem dX5_init_40 : decode cX5_init 40 = .ok (.putfield 21, 3) := by decide +kernel
theorem dX5_init_43 : decode cX5_init 43 = .ok (.aload_n 0, 1) := by decide +kernel
theorem dX5_init_44 : decode cX5_init 44 = .ok (.new 7, 3) := by decide +kernel
theorem dX5_init_47 : decode cX5_init 47 = .ok (.dup, 1) := by decide +kernel
theorem dX5_init_48 : decode cX5_init 48 = .ok (.bipush 16, 2) := by decide +kernel
theorem dX5_init_50 : decode cX5_init 50 = .ok (.invokespecial 11, 3) := by decide +kernel
theorem dX5_init_53 : decode cX5_init 53 = .ok (.putfield 24, 3) := by decide +kernel
theorem dX5_init_56 : decode cX5_init 56 = .ok (.aload_n 0, 1) := by decide +kernel
theorem dX5_init_57 : decode cX5_init 57 = .ok (.new 7, 3) := by decide +kernel
theorem dX5_init_60 : decode cX5_init 60 = .ok (.dup, 1) := by decide +kernel
theorem dX5_init_61 : decode cX5_init 61 = .ok (.bipush 16, 2) := by decide +kernel
theorem dX5_init_63 : decode cX5_init 63 = .ok (.invokespecial 11, 3) := by decide +kernel
theorem dX5_init_66 : decode cX5_init 66 = .ok (.putfield 27, 3) := by decide +kernel
theorem dX5_init_69 : decode cX5_init 69 = .ok (.aload_n 0, 1) := by decide +kernel
theorem dX5_init_70 : decode cX5_init 70 = .ok (.new 7, 3) := by decide +kernel
theorem dX5_init_73 : decode cX5_init 73 = .ok (.dup, 1) := by decide +kernel
theorem dX5_init_74 : decode cX5_init 74 = .ok (.bipush 8, 2) := by decide +kernel
theorem dX5_init_76 : decode cX5_init 76 = .ok (.invokespecial 11, 3) := by decide +kernel
theorem dX5_init_79 : decode cX5_init 79 = .ok (.putfield 30, 3) := by decide +kernel
theorem dX5_init_82 : decode cX5_init 82 = .ok (.aload_n 0, 1) := by decide +kernel
theorem dX5_init_83 : decode cX5_init 83 = .ok (.new 33, 3) := by decide +kernel
theorem dX5_init_86 : decode cX5_init 86 = .ok (.dup, 1) := by decide +kernel
theorem dX5_init_87 : decode cX5_init 87 = .ok (.bipush 8, 2) := by decide +kernel
theorem dX5_init_89 : decode cX5_init 89 = .ok (.invokespecial 35, 3) := by decide +kernel
theorem dX5_init_92 : decode cX5_init 92 = .ok (.putfield 36, 3) := by decide +kernel
theorem dX5_init_95 : decode cX5_init 95 = .ok (.aload_n 0, 1) := by decide +kernel
theorem dX5_init_96 : decode cX5_init 96 = .ok (.new 33, 3) := by decide +kernel
theorem dX5_init_99 : decode cX5_init 99 = .ok (.dup, 1) := by decide +kernel
theorem dX5_init_100 : decode cX5_init 100 = .ok (.bipush 16, 2) := by decide +kernel
theorem dX5_init_102 : decode cX5_init 102 = .ok (.invokespecial 35, 3) := by decide +kernel
theorem dX5_init_105 : decode cX5_init 105 = .ok (.putfield 40, 3) := by decide +kernel
theorem dX5_init_108 : decode cX5_init 108 = .ok (.aload_n 0, 1) := by decide +kernel
theorem dX5_init_109 : decode cX5_init 109 = .ok (.new 33, 3) := by decide +kernel
theorem dX5_init_112 : decode cX5_init 112 = .ok (.dup, 1) := by decide +kernel
theorem dX5_init_113 : decode cX5_init 113 = .ok (.bipush 16, 2) := by decide +kernel
theorem dX5_init_115 : decode cX5_init 115 = .ok (.invokespecial 35, 3) := by decide +kernel
theorem dX5_init_118 : decode cX5_init 118 = .ok (.putfield 43, 3) := by decide +kernel
theorem dX5_init_121 : decode cX5_init 121 = .ok (.aload_n 0, 1) := by decide +kernel
theorem dX5_init_122 : decode cX5_init 122 = .ok (.new 33, 3) := by decide +kernel
theorem dX5_init_125 : decode cX5_init 125 = .ok (.dup, 1) := by decide +kernel
theorem dX5_init_126 : decode cX5_init 126 = .ok (.bipush 16, 2) := by decide +kernel
theorem dX5_init_128 : decode cX5_init 128 = .ok (.invokespecial 35, 3) := by decide +kernel
theorem dX5_init_131 : decode cX5_init 131 = .ok (.putfield 46, 3) := by decide +kernel
theorem dX5_init_134 : decode cX5_init 134 = .ok (.aload_n 0, 1) := by decide +kernel
theorem dX5_init_135 : decode cX5_init 135 = .ok (.new 49, 3) := by decide +kernel
theorem dX5_init_138 : decode cX5_init 138 = .ok (.dup, 1) := by decide +kernel
theorem dX5_init_139 : decode cX5_init 139 = .ok (.invokespecial 51, 3) := by decide +kernel
theorem dX5_init_142 : decode cX5_init 142 = .ok (.putfield 52, 3) := by decide +kernel
theorem dX5_init_145 : decode cX5_init 145 = .ok (.aload_n 0, 1) := by decide +kernel
theorem dX5_init_146 : decode cX5_init 146 = .ok (.new 56, 3) := by decide +kernel
theorem dX5_init_149 : decode cX5_init 149 = .ok (.dup, 1) := by decide +kernel
theorem dX5_init_150 : decode cX5_init 150 = .ok (.invokespecial 58, 3) := by decide +kernel
theorem dX5_init_153 : decode cX5_init 153 = .ok (.putfield 59, 3) := by decide +kernel
theorem dX5_init_156 : decode cX5_init 156 = .ok (.aload_n 0, 1) := by decide +kernel
theorem dX5_init_157 : decode cX5_init 157 = .ok (.new 63, 3) := by decide +kernel
theorem dX5_init_160 : decode cX5_init 160 = .ok (.dup, 1) := by decide +kernel
theorem dX5_init_161 : decode cX5_init 161 = .ok (.invokespecial 65, 3) := by decide +kernel
theorem dX5_init_164 : decode cX5_init 164 = .ok (.putfield 66, 3) := by decide +kernel
theorem dX5_init_167 : decode cX5_init 167 = .ok (.aload_n 0, 1) := by decide +kernel
theorem dX5_init_168 : decode cX5_init 168 = .ok (.new 7, 3) := by decide +kernel
theorem dX5_init_171 : decode cX5_init 171 = .ok (.dup, 1) := by decide +kernel
theorem dX5_init_172 : decode cX5_init 172 = .ok (.bipush 16, 2) := by decide +kernel
theorem dX5_init_174 : decode cX5_init 174 = .ok (.invokespecial 11, 3) := by decide +kernel
theorem dX5_init_177 : decode cX5_init 177 = .ok (.putfield 70, 3) := by decide +kernel
theorem dX5_init_180 : decode cX5_init 180 = .ok (.aload_n 0, 1) := by decide +kernel
theorem dX5_init_181 : decode cX5_init 181 = .ok (.new 7, 3) := by decide +kernel
theorem dX5_init_184 : decode cX5_init 184 = .ok (.dup, 1) := by decide +kernel
theorem dX5_init_185 : decode cX5_init 185 = .ok (.bipush 40, 2) := by decide +kernel
theorem dX5_init_187 : decode cX5_init 187 = .ok (.invokespecial 11, 3) := by decide +kernel
theorem dX5_init_190 : decode cX5_init 190 = .ok (.putfield 73, 3) := by decide +kernel
theorem dX5_init_193 : decode cX5_init 193 = .ok (.iconst 0, 1) := by decide +kernel
theorem dX5_init_194 : decode cX5_init 194 = .ok (.istore_n 1, 1) := by decide +kernel
theorem dX5_init_195 : decode cX5_init 195 = .ok (.iload_n 1, 1) := by decide +kernel
theorem dX5_init_196 : decode cX5_init 196 = .ok (.bipush 8, 2) := by decide +kernel
theorem dX5_init_198 : decode cX5_init 198 = .ok (.if_icmp .ge 18, 3) := by decide +kernel
theorem dX5_init_201 : decode cX5_init 201 = .ok (.aload_n 0, 1) := by decide +kernel
theorem dX5_init_202 : decode cX5_init 202 = .ok (.getfield 30, 3) := by decide +kernel
theorem dX5_init_205 : decode cX5_init 205 = .ok (.iload_n 1, 1) := by decide +kernel
theorem dX5_init_206 : decode cX5_init 206 = .ok (.iload_n 1, 1) := by decide +kernel
theorem dX5_init_207 : decode cX5_init 207 = .ok (.invokevirtual 76, 3) := by decide +kernel
theorem dX5_init_210 : decode cX5_init 210 = .ok (.iinc 1 1, 3) := by decide +kernel
theorem dX5_init_213 : decode cX5_init 213 = .ok (.goto (-18), 3) := by decide +kernel
theorem dX5_init_216 : decode cX5_init 216 = .ok (.return_, 1) := by decide +kernel
theorem dX5_mention_0 : decode cX5_mention 0 = .ok (.iload 4, 2) := by decide +kernel
theorem dX5_mention_2 : decode cX5_mention 2 = .ok (.iconst (-1), 1) := by decide +kernel
theorem dX5_mention_3 : decode cX5_mention 3 = .ok (.if_icmp .eq 8, 3) := by decide +kernel
theorem dX5_mention_6 : decode cX5_mention 6 = .ok (.iload 4, 2) := by decide +kernel
theorem dX5_mention_8 : decode cX5_mention 8 = .ok (.invokestatic 80, 3) := by decide +kernel
theorem dX5_mention_11 : decode cX5_mention 11 = .ok (.iload_n 1, 1) := by decide +kernel
theorem dX5_mention_12 : decode cX5_mention 12 = .ok (.iconst 0, 1) := by decide +kernel
theorem dX5_mention_13 : decode cX5_mention 13 = .ok (.bipush 9, 2) := by decide +kernel
theorem dX5_mention_15 : decode cX5_mention 15 = .ok (.invokestatic 83, 3) := by decide +kernel
theorem dX5_mention_18 : decode cX5_mention 18 = .ok (.iload_n 2, 1) := by decide +kernel
theorem dX5_mention_19 : decode cX5_mention 19 = .ok (.iconst (-1), 1) := by decide +kernel
theorem dX5_mention_20 : decode cX5_mention 20 = .ok (.bipush 9, 2) := by decide +kernel
theorem dX5_mention_22 : decode cX5_mention 22 = .ok (.invokestatic 83, 3) := by decide +kernel
theorem dX5_mention_25 : decode cX5_mention 25 = .ok (.iload_n 3, 1) := by decide +kernel
theorem dX5_mention_26 : decode cX5_mention 26 = .ok (.iconst 0, 1) := by decide +kernel
theorem dX5_mention_27 : decode cX5_mention 27 = .ok (.iconst 5, 1) := by decide +kernel
theorem dX5_mention_28 : decode cX5_mention 28 = .ok (.invokestatic 83, 3) := by decide +kernel
theorem dX5_mention_31 : decode cX5_mention 31 = .ok (.aload_n 0, 1) := by decide +kernel
theorem dX5_mention_32 : decode cX5_mention 32 = .ok (.getfield 87, 3) := by decide +kernel
theorem dX5_mention_35 : decode cX5_mention 35 = .ok (.bipush 16, 2) := by decide +kernel
theorem dX5_mention_37 : decode cX5_mention 37 = .ok (.if_icmp .lt 13, 3) := by decide +kernel
theorem dX5_mention_40 : decode cX5_mention 40 = .ok (.new 91, 3) := by decide +kernel
theorem dX5_mention_43 : decode cX5_mention 43 = .ok (.dup, 1) := by decide +kernel
theorem dX5_mention_44 : decode cX5_mention 44 = .ok (.ldc 93, 2) := by decide +kernel
theorem dX5_mention_46 : decode cX5_mention 46 = .ok (.invokespecial 95, 3) := by decide +kernel
theorem dX5_mention_49 : decode cX5_mention 49 = .ok (.athrow, 1) := by decide +kernel
theorem dX5_mention_50 : decode cX5_mention 50 = .ok (.aload_n 0, 1) := by decide +kernel
theorem dX5_mention_51 : decode cX5_mention 51 = .ok (.invokevirtual 98, 3) := by decide +kernel
theorem dX5_mention_54 : decode cX5_mention 54 = .ok (.aload_n 0, 1) := by decide +kernel
theorem dX5_mention_55 : decode cX5_mention 55 = .ok (.getfield 87, 3) := by decide +kernel
theorem dX5_mention_58 : decode cX5_mention 58 = .ok (.istore 5, 2) := by decide +kernel
theorem dX5_mention_60 : decode cX5_mention 60 = .ok (.aload_n 0, 1) := by decide +kernel
theorem dX5_mention_61 : decode cX5_mention 61 = .ok (.getfield 14, 3) := by decide +kernel
theorem dX5_mention_64 : decode cX5_mention 64 = .ok (.iload 5, 2) := by decide +kernel
theorem dX5_mention_66 : decode cX5_mention 66 = .ok (.iload_n 1, 1) := by decide +kernel
theorem dX5_mention_67 : decode cX5_mention 67 = .ok (.invokevirtual 76, 3) := by decide +kernel
theorem dX5_mention_70 : decode cX5_mention 70 = .ok (.aload_n 0, 1) := by decide +kernel
theorem dX5_mention_71 : decode cX5_mention 71 = .ok (.getfield 18, 3) := by decide +kernel
theorem dX5_mention_74 : decode cX5_mention 74 = .ok (.iload 5, 2) := by decide +kernel
theorem dX5_mention_76 : decode cX5_mention 76 = .ok (.iload_n 2, 1) := by decide +kernel
theorem dX5_mention_77 : decode cX5_mention 77 = .ok (.invokevirtual 76, 3) := by decide +kernel
theorem dX5_mention_80 : decode cX5_mention 80 = .ok (.aload_n 0, 1) := by decide +kernel
theorem dX5_mention_81 : decode cX5_mention 81 = .ok (.getfield 21, 3) := by decide +kernel
theorem dX5_mention_84 : decode cX5_mention 84 = .ok (.iload 5, 2) := by decide +kernel
theorem dX5_mention_86 : decode cX5_mention 86 = .ok (.iload_n 3, 1) := by decide +kernel
theorem dX5_mention_87 : decode cX5_mention 87 = .ok (.invokevirtual 76, 3) := by decide +kernel
theorem dX5_mention_90 : decode cX5_mention 90 = .ok (.aload_n 0, 1) := by decide +kernel
theorem dX5_mention_91 : decode cX5_mention 91 = .ok (.getfield 24, 3) := by decide +kernel
theorem dX5_mention_94 : decode cX5_mention 94 = .ok (.iload 5, 2) := by decide +kernel
theorem dX5_mention_96 : decode cX5_mention 96 = .ok (.iload 4, 2) := by decide +kernel
theorem dX5_mention_98 : decode cX5_mention 98 = .ok (.invokevirtual 76, 3) := by decide +kernel
theorem dX5_mention_101 : decode cX5_mention 101 = .ok (.aload_n 0, 1) := by decide +kernel
theorem dX5_mention_102 : decode cX5_mention 102 = .ok (.getfield 27, 3) := by decide +kernel
theorem dX5_mention_105 : decode cX5_mention 105 = .ok (.iload 5, 2) := by decide +kernel
theorem dX5_mention_107 : decode cX5_mention 107 = .ok (.iconst (-1), 1) := by decide +kernel
theorem dX5_mention_108 : decode cX5_mention 108 = .ok (.invokevirtual 76, 3) := by decide +kernel
theorem dX5_mention_111 : decode cX5_mention 111 = .ok (.aload_n 0, 1) := by decide +kernel
theorem dX5_mention_112 : decode cX5_mention 112 = .ok (.getfield 59, 3) := by decide +kernel
theorem dX5_mention_115 : decode cX5_mention 115 = .ok (.iload 5, 2) := by decide +kernel
theorem dX5_mention_117 : decode cX5_mention 117 = .ok (.invokevirtual 101, 3) := by decide +kernel
theorem dX5_mention_120 : decode cX5_mention 120 = .ok (.pop, 1) := by decide +kernel
theorem dX5_mention_121 : decode cX5_mention 121 = .ok (.aload_n 0, 1) := by decide +kernel
theorem dX5_mention_122 : decode cX5_mention 122 = .ok (.dup, 1) := by decide +kernel
theorem dX5_mention_123 : decode cX5_mention 123 = .ok (.getfield 87, 3) := by decide +kernel
theorem dX5_mention_126 : decode cX5_mention 126 = .ok (.iconst 1, 1) := by decide +kernel
theorem dX5_mention_127 : decode cX5_mention 127 = .ok (.iadd, 1) := by decide +kernel
theorem dX5_mention_128 : decode cX5_mention 128 = .ok (.putfield 87, 3) := by decide +kernel
theorem dX5_mention_131 : decode cX5_mention 131 = .ok (.iload 5, 2) := by decide +kernel
theorem dX5_mention_133 : decode cX5_mention 133 = .ok (.ireturn, 1) := by decide +kernel
theorem dX5_rank_0 : decode cX5_rank 0 = .ok (.iload_n 1, 1) := by decide +kernel
theorem dX5_rank_1 : decode cX5_rank 1 = .ok (.invokestatic 80, 3) := by decide +kernel
theorem dX5_rank_4 : decode cX5_rank 4 = .ok (.iload_n 2, 1) := by decide +kernel
theorem dX5_rank_5 : decode cX5_rank 5 = .ok (.iconst 0, 1) := by decide +kernel
theorem dX5_rank_6 : decode cX5_rank 6 = .ok (.bipush 9, 2) := by decide +kernel
theorem dX5_rank_8 : decode cX5_rank 8 = .ok (.invokestatic 83, 3) := by decide +kernel
theorem dX5_rank_11 : decode cX5_rank 11 = .ok (.aload_n 0, 1) := by decide +kernel
theorem dX5_rank_12 : decode cX5_rank 12 = .ok (.getfield 30, 3) := by decide +kernel
theorem dX5_rank_15 : decode cX5_rank 15 = .ok (.iload_n 1, 1) := by decide +kernel
theorem dX5_rank_16 : decode cX5_rank 16 = .ok (.invokevirtual 105, 3) := by decide +kernel
theorem dX5_rank_19 : decode cX5_rank 19 = .ok (.istore_n 3, 1) := by decide +kernel
theorem dX5_rank_20 : decode cX5_rank 20 = .ok (.aload_n 0, 1) := by decide +kernel
theorem dX5_rank_21 : decode cX5_rank 21 = .ok (.getfield 30, 3) := by decide +kernel
theorem dX5_rank_24 : decode cX5_rank 24 = .ok (.iload_n 1, 1) := by decide +kernel
theorem dX5_rank_25 : decode cX5_rank 25 = .ok (.iload_n 2, 1) := by decide +kernel
theorem dX5_rank_26 : decode cX5_rank 26 = .ok (.invokevirtual 76, 3) := by decide +kernel
theorem dX5_rank_29 : decode cX5_rank 29 = .ok (.iload_n 3, 1) := by decide +kernel
theorem dX5_rank_30 : decode cX5_rank 30 = .ok (.ireturn, 1) := by decide +kernel
theorem dX5_bar_0 : decode cX5_bar 0 = .ok (.iload_n 1, 1) := by decide +kernel
theorem dX5_bar_1 : decode cX5_bar 1 = .ok (.invokestatic 80, 3) := by decide +kernel
theorem dX5_bar_4 : decode cX5_bar 4 = .ok (.iload_n 2, 1) := by decide +kernel
theorem dX5_bar_5 : decode cX5_bar 5 = .ok (.invokestatic 80, 3) := by decide +kernel
theorem dX5_bar_8 : decode cX5_bar 8 = .ok (.iload_n 1, 1) := by decide +kernel
theorem dX5_bar_9 : decode cX5_bar 9 = .ok (.iload_n 2, 1) := by decide +kernel
theorem dX5_bar_10 : decode cX5_bar 10 = .ok (.invokestatic 108, 3) := by decide +kernel
theorem dX5_bar_13 : decode cX5_bar 13 = .ok (.aload_n 0, 1) := by decide +kernel
theorem dX5_bar_14 : decode cX5_bar 14 = .ok (.getfield 36, 3) := by decide +kernel
theorem dX5_bar_17 : decode cX5_bar 17 = .ok (.iload_n 1, 1) := by decide +kernel
theorem dX5_bar_18 : decode cX5_bar 18 = .ok (.iload_n 2, 1) := by decide +kernel
theorem dX5_bar_19 : decode cX5_bar 19 = .ok (.iload_n 3, 1) := by decide +kernel
theorem dX5_bar_20 : decode cX5_bar 20 = .ok (.invokevirtual 111, 3) := by decide +kernel
theorem dX5_bar_23 : decode cX5_bar 23 = .ok (.ireturn, 1) := by decide +kernel
theorem dX5_ahead_0 : decode cX5_ahead 0 = .ok (.aload_n 0, 1) := by decide +kernel
theorem dX5_ahead_1 : decode cX5_ahead 1 = .ok (.iload_n 1, 1) := by decide +kernel
theorem dX5_ahead_2 : decode cX5_ahead 2 = .ok (.iload_n 2, 1) := by decide +kernel
theorem dX5_ahead_3 : decode cX5_ahead 3 = .ok (.invokevirtual 115, 3) := by decide +kernel
theorem dX5_ahead_6 : decode cX5_ahead 6 = .ok (.iload_n 3, 1) := by decide +kernel
theorem dX5_ahead_7 : decode cX5_ahead 7 = .ok (.bipush (-50), 2) := by decide +kernel
theorem dX5_ahead_9 : decode cX5_ahead 9 = .ok (.bipush 50, 2) := by decide +kernel
theorem dX5_ahead_11 : decode cX5_ahead 11 = .ok (.invokestatic 83, 3) := by decide +kernel
theorem dX5_ahead_14 : decode cX5_ahead 14 = .ok (.aload_n 0, 1) := by decide +kernel
theorem dX5_ahead_15 : decode cX5_ahead 15 = .ok (.getfield 52, 3) := by decide +kernel
theorem dX5_ahead_18 : decode cX5_ahead 18 = .ok (.invokevirtual 118, 3) := by decide +kernel
theorem dX5_ahead_21 : decode cX5_ahead 21 = .ok (.ifCond .eq 13, 3) := by decide +kernel
theorem dX5_ahead_24 : decode cX5_ahead 24 = .ok (.new 91, 3) := by decide +kernel
theorem dX5_ahead_27 : decode cX5_ahead 27 = .ok (.dup, 1) := by decide +kernel
theorem dX5_ahead_28 : decode cX5_ahead 28 = .ok (.ldc 122, 2) := by decide +kernel
theorem dX5_ahead_30 : decode cX5_ahead 30 = .ok (.invokespecial 95, 3) := by decide +kernel
theorem dX5_ahead_33 : decode cX5_ahead 33 = .ok (.athrow, 1) := by decide +kernel
theorem dX5_ahead_34 : decode cX5_ahead 34 = .ok (.aload_n 0, 1) := by decide +kernel
theorem dX5_ahead_35 : decode cX5_ahead 35 = .ok (.getfield 52, 3) := by decide +kernel
theorem dX5_ahead_38 : decode cX5_ahead 38 = .ok (.iload_n 1, 1) := by decide +kernel
theorem dX5_ahead_39 : decode cX5_ahead 39 = .ok (.iload_n 2, 1) := by decide +kernel
theorem dX5_ahead_40 : decode cX5_ahead 40 = .ok (.iload_n 3, 1) := by decide +kernel
theorem dX5_ahead_41 : decode cX5_ahead 41 = .ok (.invokevirtual 124, 3) := by decide +kernel
theorem dX5_ahead_44 : decode cX5_ahead 44 = .ok (.istore 4, 2) := by decide +kernel
theorem dX5_ahead_46 : decode cX5_ahead 46 = .ok (.iload 4, 2) := by decide +kernel
theorem dX5_ahead_48 : decode cX5_ahead 48 = .ok (.invokestatic 128, 3) := by decide +kernel
theorem dX5_ahead_51 : decode cX5_ahead 51 = .ok (.iload 4, 2) := by decide +kernel
theorem dX5_ahead_53 : decode cX5_ahead 53 = .ok (.ireturn, 1) := by decide +kernel
theorem dX5_find_0 : decode cX5_find 0 = .ok (.aload_n 0, 1) := by decide +kernel
theorem dX5_find_1 : decode cX5_find 1 = .ok (.iload_n 1, 1) := by decide +kernel
theorem dX5_find_2 : decode cX5_find 2 = .ok (.invokevirtual 131, 3) := by decide +kernel
theorem dX5_find_5 : decode cX5_find 5 = .ok (.iload_n 2, 1) := by decide +kernel
theorem dX5_find_6 : decode cX5_find 6 = .ok (.iload_n 3, 1) := by decide +kernel
theorem dX5_find_7 : decode cX5_find 7 = .ok (.invokestatic 134, 3) := by decide +kernel
theorem dX5_find_10 : decode cX5_find 10 = .ok (.aload_n 0, 1) := by decide +kernel
theorem dX5_find_11 : decode cX5_find 11 = .ok (.getfield 52, 3) := by decide +kernel
theorem dX5_find_14 : decode cX5_find 14 = .ok (.iload_n 1, 1) := by decide +kernel
theorem dX5_find_15 : decode cX5_find 15 = .ok (.iload_n 2, 1) := by decide +kernel
theorem dX5_find_16 : decode cX5_find 16 = .ok (.iload_n 3, 1) := by decide +kernel
theorem dX5_find_17 : decode cX5_find 17 = .ok (.invokevirtual 137, 3) := by decide +kernel
theorem dX5_find_20 : decode cX5_find 20 = .ok (.istore 4, 2) := by decide +kernel
theorem dX5_find_22 : decode cX5_find 22 = .ok (.iload 4, 2) := by decide +kernel
theorem dX5_find_24 : decode cX5_find 24 = .ok (.invokestatic 128, 3) := by decide +kernel
theorem dX5_find_27 : decode cX5_find 27 = .ok (.iload 4, 2) := by decide +kernel
theorem dX5_find_29 : decode cX5_find 29 = .ok (.ireturn, 1) := by decide +kernel
theorem dX5_wouldMove_0 : decode cX5_wouldMove 0 = .ok (.aload_n 0, 1) := by decide +kernel
theorem dX5_wouldMove_1 : decode cX5_wouldMove 1 = .ok (.iload_n 1, 1) := by decide +kernel
theorem dX5_wouldMove_2 : decode cX5_wouldMove 2 = .ok (.invokevirtual 131, 3) := by decide +kernel
theorem dX5_wouldMove_5 : decode cX5_wouldMove 5 = .ok (.iload_n 2, 1) := by decide +kernel
theorem dX5_wouldMove_6 : decode cX5_wouldMove 6 = .ok (.iload_n 3, 1) := by decide +kernel
theorem dX5_wouldMove_7 : decode cX5_wouldMove 7 = .ok (.invokestatic 134, 3) := by decide +kernel
theorem dX5_wouldMove_10 : decode cX5_wouldMove 10 = .ok (.aload_n 0, 1) := by decide +kernel
theorem dX5_wouldMove_11 : decode cX5_wouldMove 11 = .ok (.getfield 52, 3) := by decide +kernel
theorem dX5_wouldMove_14 : decode cX5_wouldMove 14 = .ok (.iload_n 1, 1) := by decide +kernel
theorem dX5_wouldMove_15 : decode cX5_wouldMove 15 = .ok (.iload_n 2, 1) := by decide +kernel
theorem dX5_wouldMove_16 : decode cX5_wouldMove 16 = .ok (.iload_n 3, 1) := by decide +kernel
theorem dX5_wouldMove_17 : decode cX5_wouldMove 17 = .ok (.invokevirtual 140, 3) := by decide +kernel
theorem dX5_wouldMove_20 : decode cX5_wouldMove 20 = .ok (.ireturn, 1) := by decide +kernel
theorem dX5_year_0 : decode cX5_year 0 = .ok (.aload_n 0, 1) := by decide +kernel
theorem dX5_year_1 : decode cX5_year 1 = .ok (.iload_n 1, 1) := by decide +kernel
theorem dX5_year_2 : decode cX5_year 2 = .ok (.invokevirtual 131, 3) := by decide +kernel
theorem dX5_year_5 : decode cX5_year 5 = .ok (.iload_n 2, 1) := by decide +kernel
theorem dX5_year_6 : decode cX5_year 6 = .ok (.ifCond .eq 14, 3) := by decide +kernel
theorem dX5_year_9 : decode cX5_year 9 = .ok (.aload_n 0, 1) := by decide +kernel
theorem dX5_year_10 : decode cX5_year 10 = .ok (.getfield 52, 3) := by decide +kernel
theorem dX5_year_13 : decode cX5_year 13 = .ok (.iload_n 1, 1) := by decide +kernel
theorem dX5_year_14 : decode cX5_year 14 = .ok (.invokevirtual 143, 3) := by decide +kernel
theorem dX5_year_17 : decode cX5_year 17 = .ok (.goto 11, 3) := by decide +kernel
theorem dX5_year_20 : decode cX5_year 20 = .ok (.aload_n 0, 1) := by decide +kernel
theorem dX5_year_21 : decode cX5_year 21 = .ok (.getfield 52, 3) := by decide +kernel
theorem dX5_year_24 : decode cX5_year 24 = .ok (.iload_n 1, 1) := by decide +kernel
theorem dX5_year_25 : decode cX5_year 25 = .ok (.invokevirtual 146, 3) := by decide +kernel
theorem dX5_year_28 : decode cX5_year 28 = .ok (.ireturn, 1) := by decide +kernel
theorem dX5_yearAnew_0 : decode cX5_yearAnew 0 = .ok (.aload_n 0, 1) := by decide +kernel
theorem dX5_yearAnew_1 : decode cX5_yearAnew 1 = .ok (.iload_n 1, 1) := by decide +kernel
theorem dX5_yearAnew_2 : decode cX5_yearAnew 2 = .ok (.invokevirtual 131, 3) := by decide +kernel
theorem dX5_yearAnew_5 : decode cX5_yearAnew 5 = .ok (.iload_n 2, 1) := by decide +kernel
theorem dX5_yearAnew_6 : decode cX5_yearAnew 6 = .ok (.ifCond .eq 14, 3) := by decide +kernel
theorem dX5_yearAnew_9 : decode cX5_yearAnew 9 = .ok (.aload_n 0, 1) := by decide +kernel
theorem dX5_yearAnew_10 : decode cX5_yearAnew 10 = .ok (.getfield 52, 3) := by decide +kernel
theorem dX5_yearAnew_13 : decode cX5_yearAnew 13 = .ok (.iload_n 1, 1) := by decide +kernel
theorem dX5_yearAnew_14 : decode cX5_yearAnew 14 = .ok (.invokevirtual 149, 3) := by decide +kernel
theorem dX5_yearAnew_17 : decode cX5_yearAnew 17 = .ok (.goto 11, 3) := by decide +kernel
theorem dX5_yearAnew_20 : decode cX5_yearAnew 20 = .ok (.aload_n 0, 1) := by decide +kernel
theorem dX5_yearAnew_21 : decode cX5_yearAnew 21 = .ok (.getfield 52, 3) := by decide +kernel
theorem dX5_yearAnew_24 : decode cX5_yearAnew 24 = .ok (.iload_n 1, 1) := by decide +kernel
theorem dX5_yearAnew_25 : decode cX5_yearAnew 25 = .ok (.invokevirtual 152, 3) := by decide +kernel
theorem dX5_yearAnew_28 : decode cX5_yearAnew 28 = .ok (.ireturn, 1) := by decide +kernel
theorem dX5_seal_0 : decode cX5_seal 0 = .ok (.aload_n 0, 1) := by decide +kernel
theorem dX5_seal_1 : decode cX5_seal 1 = .ok (.iload_n 1, 1) := by decide +kernel
theorem dX5_seal_2 : decode cX5_seal 2 = .ok (.iload_n 2, 1) := by decide +kernel
theorem dX5_seal_3 : decode cX5_seal 3 = .ok (.invokevirtual 115, 3) := by decide +kernel
theorem dX5_seal_6 : decode cX5_seal 6 = .ok (.aload_n 0, 1) := by decide +kernel
theorem dX5_seal_7 : decode cX5_seal 7 = .ok (.getfield 40, 3) := by decide +kernel
theorem dX5_seal_10 : decode cX5_seal 10 = .ok (.iload_n 1, 1) := by decide +kernel
theorem dX5_seal_11 : decode cX5_seal 11 = .ok (.iload_n 2, 1) := by decide +kernel
theorem dX5_seal_12 : decode cX5_seal 12 = .ok (.iconst 1, 1) := by decide +kernel
theorem dX5_seal_13 : decode cX5_seal 13 = .ok (.invokevirtual 111, 3) := by decide +kernel
theorem dX5_seal_16 : decode cX5_seal 16 = .ok (.ireturn, 1) := by decide +kernel
theorem dX5_block_0 : decode cX5_block 0 = .ok (.aload_n 0, 1) := by decide +kernel
theorem dX5_block_1 : decode cX5_block 1 = .ok (.iload_n 1, 1) := by decide +kernel
theorem dX5_block_2 : decode cX5_block 2 = .ok (.iload_n 2, 1) := by decide +kernel
theorem dX5_block_3 : decode cX5_block 3 = .ok (.invokevirtual 115, 3) := by decide +kernel
theorem dX5_block_6 : decode cX5_block 6 = .ok (.aload_n 0, 1) := by decide +kernel
theorem dX5_block_7 : decode cX5_block 7 = .ok (.getfield 43, 3) := by decide +kernel
theorem dX5_block_10 : decode cX5_block 10 = .ok (.iload_n 1, 1) := by decide +kernel
theorem dX5_block_11 : decode cX5_block 11 = .ok (.iload_n 2, 1) := by decide +kernel
theorem dX5_block_12 : decode cX5_block 12 = .ok (.iload_n 3, 1) := by decide +kernel
theorem dX5_block_13 : decode cX5_block 13 = .ok (.invokevirtual 111, 3) := by decide +kernel
theorem dX5_block_16 : decode cX5_block 16 = .ok (.ireturn, 1) := by decide +kernel
theorem dX5_weight_0 : decode cX5_weight 0 = .ok (.aload_n 0, 1) := by decide +kernel
theorem dX5_weight_1 : decode cX5_weight 1 = .ok (.iload_n 1, 1) := by decide +kernel
theorem dX5_weight_2 : decode cX5_weight 2 = .ok (.iload_n 2, 1) := by decide +kernel
theorem dX5_weight_3 : decode cX5_weight 3 = .ok (.invokevirtual 115, 3) := by decide +kernel
theorem dX5_weight_6 : decode cX5_weight 6 = .ok (.aload_n 0, 1) := by decide +kernel
theorem dX5_weight_7 : decode cX5_weight 7 = .ok (.iload_n 1, 1) := by decide +kernel
theorem dX5_weight_8 : decode cX5_weight 8 = .ok (.iload_n 2, 1) := by decide +kernel
theorem dX5_weight_9 : decode cX5_weight 9 = .ok (.invokevirtual 155, 3) := by decide +kernel
theorem dX5_weight_12 : decode cX5_weight 12 = .ok (.ireturn, 1) := by decide +kernel
theorem dX5_whyNot_0 : decode cX5_whyNot 0 = .ok (.aload_n 0, 1) := by decide +kernel
theorem dX5_whyNot_1 : decode cX5_whyNot 1 = .ok (.iload_n 1, 1) := by decide +kernel
theorem dX5_whyNot_2 : decode cX5_whyNot 2 = .ok (.iload_n 2, 1) := by decide +kernel
theorem dX5_whyNot_3 : decode cX5_whyNot 3 = .ok (.invokevirtual 115, 3) := by decide +kernel
theorem dX5_whyNot_6 : decode cX5_whyNot 6 = .ok (.aload_n 0, 1) := by decide +kernel
theorem dX5_whyNot_7 : decode cX5_whyNot 7 = .ok (.iload_n 1, 1) := by decide +kernel
theorem dX5_whyNot_8 : decode cX5_whyNot 8 = .ok (.iload_n 2, 1) := by decide +kernel
theorem dX5_whyNot_9 : decode cX5_whyNot 9 = .ok (.invokevirtual 159, 3) := by decide +kernel
theorem dX5_whyNot_12 : decode cX5_whyNot 12 = .ok (.ireturn, 1) := by decide +kernel
theorem dX5_join_0 : decode cX5_join 0 = .ok (.aload_n 0, 1) := by decide +kernel
theorem dX5_join_1 : decode cX5_join 1 = .ok (.iload_n 1, 1) := by decide +kernel
theorem dX5_join_2 : decode cX5_join 2 = .ok (.iload_n 2, 1) := by decide +kernel
theorem dX5_join_3 : decode cX5_join 3 = .ok (.invokevirtual 115, 3) := by decide +kernel
theorem dX5_join_6 : decode cX5_join 6 = .ok (.aload_n 0, 1) := by decide +kernel
theorem dX5_join_7 : decode cX5_join 7 = .ok (.iload_n 1, 1) := by decide +kernel
theorem dX5_join_8 : decode cX5_join 8 = .ok (.iload_n 2, 1) := by decide +kernel
theorem dX5_join_9 : decode cX5_join 9 = .ok (.invokevirtual 159, 3) := by decide +kernel
theorem dX5_join_12 : decode cX5_join 12 = .ok (.ifCond .eq 13, 3) := by decide +kernel
theorem dX5_join_15 : decode cX5_join 15 = .ok (.new 91, 3) := by decide +kernel
theorem dX5_join_18 : decode cX5_join 18 = .ok (.dup, 1) := by decide +kernel
theorem dX5_join_19 : decode cX5_join 19 = .ok (.ldc 162, 2) := by decide +kernel
theorem dX5_join_21 : decode cX5_join 21 = .ok (.invokespecial 95, 3) := by decide +kernel
theorem dX5_join_24 : decode cX5_join 24 = .ok (.athrow, 1) := by decide +kernel
theorem dX5_join_25 : decode cX5_join 25 = .ok (.aload_n 0, 1) := by decide +kernel
theorem dX5_join_26 : decode cX5_join 26 = .ok (.getfield 59, 3) := by decide +kernel
theorem dX5_join_29 : decode cX5_join 29 = .ok (.aload_n 0, 1) := by decide +kernel
theorem dX5_join_30 : decode cX5_join 30 = .ok (.getfield 59, 3) := by decide +kernel
theorem dX5_join_33 : decode cX5_join 33 = .ok (.iload_n 1, 1) := by decide +kernel
theorem dX5_join_34 : decode cX5_join 34 = .ok (.invokevirtual 164, 3) := by decide +kernel
theorem dX5_join_37 : decode cX5_join 37 = .ok (.aload_n 0, 1) := by decide +kernel
theorem dX5_join_38 : decode cX5_join 38 = .ok (.getfield 59, 3) := by decide +kernel
theorem dX5_join_41 : decode cX5_join 41 = .ok (.iload_n 2, 1) := by decide +kernel
theorem dX5_join_42 : decode cX5_join 42 = .ok (.invokevirtual 164, 3) := by decide +kernel
theorem dX5_join_45 : decode cX5_join 45 = .ok (.invokevirtual 167, 3) := by decide +kernel
theorem dX5_join_48 : decode cX5_join 48 = .ok (.ireturn, 1) := by decide +kernel
theorem dX5_split_0 : decode cX5_split 0 = .ok (.aload_n 0, 1) := by decide +kernel
theorem dX5_split_1 : decode cX5_split 1 = .ok (.iload_n 1, 1) := by decide +kernel
theorem dX5_split_2 : decode cX5_split 2 = .ok (.invokevirtual 131, 3) := by decide +kernel
theorem dX5_split_5 : decode cX5_split 5 = .ok (.aload_n 0, 1) := by decide +kernel
theorem dX5_split_6 : decode cX5_split 6 = .ok (.aload_n 0, 1) := by decide +kernel
theorem dX5_split_7 : decode cX5_split 7 = .ok (.getfield 59, 3) := by decide +kernel
theorem dX5_split_10 : decode cX5_split 10 = .ok (.iload_n 1, 1) := by decide +kernel
theorem dX5_split_11 : decode cX5_split 11 = .ok (.invokevirtual 164, 3) := by decide +kernel
theorem dX5_split_14 : decode cX5_split 14 = .ok (.invokevirtual 170, 3) := by decide +kernel
theorem dX5_split_17 : decode cX5_split 17 = .ok (.iconst 2, 1) := by decide +kernel
theorem dX5_split_18 : decode cX5_split 18 = .ok (.if_icmp .ge 13, 3) := by decide +kernel
theorem dX5_split_21 : decode cX5_split 21 = .ok (.new 91, 3) := by decide +kernel
theorem dX5_split_24 : decode cX5_split 24 = .ok (.dup, 1) := by decide +kernel
theorem dX5_split_25 : decode cX5_split 25 = .ok (.ldc 173, 2) := by decide +kernel
theorem dX5_split_27 : decode cX5_split 27 = .ok (.invokespecial 95, 3) := by decide +kernel
theorem dX5_split_30 : decode cX5_split 30 = .ok (.athrow, 1) := by decide +kernel
theorem dX5_split_31 : decode cX5_split 31 = .ok (.aload_n 0, 1) := by decide +kernel
theorem dX5_split_32 : decode cX5_split 32 = .ok (.invokevirtual 98, 3) := by decide +kernel
theorem dX5_split_35 : decode cX5_split 35 = .ok (.aload_n 0, 1) := by decide +kernel
theorem dX5_split_36 : decode cX5_split 36 = .ok (.getfield 59, 3) := by decide +kernel
theorem dX5_split_39 : decode cX5_split 39 = .ok (.iload_n 1, 1) := by decide +kernel
theorem dX5_split_40 : decode cX5_split 40 = .ok (.invokevirtual 101, 3) := by decide +kernel
theorem dX5_split_43 : decode cX5_split 43 = .ok (.ireturn, 1) := by decide +kernel
theorem dX5_person_0 : decode cX5_person 0 = .ok (.aload_n 0, 1) := by decide +kernel
theorem dX5_person_1 : decode cX5_person 1 = .ok (.iload_n 1, 1) := by decide +kernel
theorem dX5_person_2 : decode cX5_person 2 = .ok (.invokevirtual 131, 3) := by decide +kernel
theorem dX5_person_5 : decode cX5_person 5 = .ok (.aload_n 0, 1) := by decide +kernel
theorem dX5_person_6 : decode cX5_person 6 = .ok (.getfield 59, 3) := by decide +kernel
theorem dX5_person_9 : decode cX5_person 9 = .ok (.iload_n 1, 1) := by decide +kernel
theorem dX5_person_10 : decode cX5_person 10 = .ok (.invokevirtual 164, 3) := by decide +kernel
theorem dX5_person_13 : decode cX5_person 13 = .ok (.ireturn, 1) := by decide +kernel
theorem dX5_entry_0 : decode cX5_entry 0 = .ok (.aload_n 0, 1) := by decide +kernel
theorem dX5_entry_1 : decode cX5_entry 1 = .ok (.iload_n 1, 1) := by decide +kernel
theorem dX5_entry_2 : decode cX5_entry 2 = .ok (.invokevirtual 175, 3) := by decide +kernel
theorem dX5_entry_5 : decode cX5_entry 5 = .ok (.aload_n 0, 1) := by decide +kernel
theorem dX5_entry_6 : decode cX5_entry 6 = .ok (.getfield 59, 3) := by decide +kernel
theorem dX5_entry_9 : decode cX5_entry 9 = .ok (.iload_n 1, 1) := by decide +kernel
theorem dX5_entry_10 : decode cX5_entry 10 = .ok (.invokevirtual 178, 3) := by decide +kernel
theorem dX5_entry_13 : decode cX5_entry 13 = .ok (.ireturn, 1) := by decide +kernel
theorem dX5_size_0 : decode cX5_size 0 = .ok (.aload_n 0, 1) := by decide +kernel
theorem dX5_size_1 : decode cX5_size 1 = .ok (.iload_n 1, 1) := by decide +kernel
theorem dX5_size_2 : decode cX5_size 2 = .ok (.invokevirtual 175, 3) := by decide +kernel
theorem dX5_size_5 : decode cX5_size 5 = .ok (.aload_n 0, 1) := by decide +kernel
theorem dX5_size_6 : decode cX5_size 6 = .ok (.aload_n 0, 1) := by decide +kernel
theorem dX5_size_7 : decode cX5_size 7 = .ok (.getfield 59, 3) := by decide +kernel
theorem dX5_size_10 : decode cX5_size 10 = .ok (.iload_n 1, 1) := by decide +kernel
theorem dX5_size_11 : decode cX5_size 11 = .ok (.invokevirtual 178, 3) := by decide +kernel
theorem dX5_size_14 : decode cX5_size 14 = .ok (.invokevirtual 170, 3) := by decide +kernel
theorem dX5_size_17 : decode cX5_size 17 = .ok (.ireturn, 1) := by decide +kernel
theorem dX5_careerAt_0 : decode cX5_careerAt 0 = .ok (.aload_n 0, 1) := by decide +kernel
theorem dX5_careerAt_1 : decode cX5_careerAt 1 = .ok (.iload_n 1, 1) := by decide +kernel
theorem dX5_careerAt_2 : decode cX5_careerAt 2 = .ok (.invokevirtual 175, 3) := by decide +kernel
theorem dX5_careerAt_5 : decode cX5_careerAt 5 = .ok (.iload_n 2, 1) := by decide +kernel
theorem dX5_careerAt_6 : decode cX5_careerAt 6 = .ok (.ifCond .ge 13, 3) := by decide +kernel
theorem dX5_careerAt_9 : decode cX5_careerAt 9 = .ok (.new 181, 3) := by decide +kernel
theorem dX5_careerAt_12 : decode cX5_careerAt 12 = .ok (.dup, 1) := by decide +kernel
theorem dX5_careerAt_13 : decode cX5_careerAt 13 = .ok (.ldc 183, 2) := by decide +kernel
theorem dX5_careerAt_15 : decode cX5_careerAt 15 = .ok (.invokespecial 185, 3) := by decide +kernel
theorem dX5_careerAt_18 : decode cX5_careerAt 18 = .ok (.athrow, 1) := by decide +kernel
theorem dX5_careerAt_19 : decode cX5_careerAt 19 = .ok (.aload_n 0, 1) := by decide +kernel
theorem dX5_careerAt_20 : decode cX5_careerAt 20 = .ok (.aload_n 0, 1) := by decide +kernel
theorem dX5_careerAt_21 : decode cX5_careerAt 21 = .ok (.getfield 59, 3) := by decide +kernel
theorem dX5_careerAt_24 : decode cX5_careerAt 24 = .ok (.iload_n 1, 1) := by decide +kernel
theorem dX5_careerAt_25 : decode cX5_careerAt 25 = .ok (.invokevirtual 178, 3) := by decide +kernel
theorem dX5_careerAt_28 : decode cX5_careerAt 28 = .ok (.invokevirtual 186, 3) := by decide +kernel
theorem dX5_careerAt_31 : decode cX5_careerAt 31 = .ok (.istore_n 3, 1) := by decide +kernel
theorem dX5_careerAt_32 : decode cX5_careerAt 32 = .ok (.iload_n 2, 1) := by decide +kernel
theorem dX5_careerAt_33 : decode cX5_careerAt 33 = .ok (.iload_n 3, 1) := by decide +kernel
theorem dX5_careerAt_34 : decode cX5_careerAt 34 = .ok (.if_icmp .ge 14, 3) := by decide +kernel
theorem dX5_careerAt_37 : decode cX5_careerAt 37 = .ok (.aload_n 0, 1) := by decide +kernel
theorem dX5_careerAt_38 : decode cX5_careerAt 38 = .ok (.getfield 70, 3) := by decide +kernel
theorem dX5_careerAt_41 : decode cX5_careerAt 41 = .ok (.iload_n 2, 1) := by decide +kernel
theorem dX5_careerAt_42 : decode cX5_careerAt 42 = .ok (.invokevirtual 105, 3) := by decide +kernel
theorem dX5_careerAt_45 : decode cX5_careerAt 45 = .ok (.goto 4, 3) := by decide +kernel
theorem dX5_careerAt_48 : decode cX5_careerAt 48 = .ok (.iconst (-1), 1) := by decide +kernel
theorem dX5_careerAt_49 : decode cX5_careerAt 49 = .ok (.ireturn, 1) := by decide +kernel
theorem dX5_breaches_0 : decode cX5_breaches 0 = .ok (.aload_n 0, 1) := by decide +kernel
theorem dX5_breaches_1 : decode cX5_breaches 1 = .ok (.iload_n 1, 1) := by decide +kernel
theorem dX5_breaches_2 : decode cX5_breaches 2 = .ok (.invokevirtual 175, 3) := by decide +kernel
theorem dX5_breaches_5 : decode cX5_breaches 5 = .ok (.aload_n 0, 1) := by decide +kernel
theorem dX5_breaches_6 : decode cX5_breaches 6 = .ok (.aload_n 0, 1) := by decide +kernel
theorem dX5_breaches_7 : decode cX5_breaches 7 = .ok (.getfield 59, 3) := by decide +kernel
theorem dX5_breaches_10 : decode cX5_breaches 10 = .ok (.iload_n 1, 1) := by decide +kernel
theorem dX5_breaches_11 : decode cX5_breaches 11 = .ok (.invokevirtual 178, 3) := by decide +kernel
theorem dX5_breaches_14 : decode cX5_breaches 14 = .ok (.invokevirtual 186, 3) := by decide +kernel
theorem dX5_breaches_17 : decode cX5_breaches 17 = .ok (.istore_n 2, 1) := by decide +kernel
theorem dX5_breaches_18 : decode cX5_breaches 18 = .ok (.iconst 0, 1) := by decide +kernel
theorem dX5_breaches_19 : decode cX5_breaches 19 = .ok (.istore_n 3, 1) := by decide +kernel
theorem dX5_breaches_20 : decode cX5_breaches 20 = .ok (.iconst 1, 1) := by decide +kernel
theorem dX5_breaches_21 : decode cX5_breaches 21 = .ok (.istore 4, 2) := by decide +kernel
theorem dX5_breaches_23 : decode cX5_breaches 23 = .ok (.iload 4, 2) := by decide +kernel
theorem dX5_breaches_25 : decode cX5_breaches 25 = .ok (.iload_n 2, 1) := by decide +kernel
theorem dX5_breaches_26 : decode cX5_breaches 26 = .ok (.if_icmp .ge 29, 3) := by decide +kernel
theorem dX5_breaches_29 : decode cX5_breaches 29 = .ok (.aload_n 0, 1) := by decide +kernel
theorem dX5_breaches_30 : decode cX5_breaches 30 = .ok (.iload 4, 2) := by decide +kernel
theorem dX5_breaches_32 : decode cX5_breaches 32 = .ok (.invokevirtual 189, 3) := by decide +kernel
theorem dX5_breaches_35 : decode cX5_breaches 35 = .ok (.aload_n 0, 1) := by decide +kernel
theorem dX5_breaches_36 : decode cX5_breaches 36 = .ok (.iload 4, 2) := by decide +kernel
theorem dX5_breaches_38 : decode cX5_breaches 38 = .ok (.iconst 1, 1) := by decide +kernel
theorem dX5_breaches_39 : decode cX5_breaches 39 = .ok (.isub, 1) := by decide +kernel
theorem dX5_breaches_40 : decode cX5_breaches 40 = .ok (.invokevirtual 189, 3) := by decide +kernel
theorem dX5_breaches_43 : decode cX5_breaches 43 = .ok (.if_icmp .ge 6, 3) := by decide +kernel
theorem dX5_breaches_46 : decode cX5_breaches 46 = .ok (.iinc 3 1, 3) := by decide +kernel
theorem dX5_breaches_49 : decode cX5_breaches 49 = .ok (.iinc 4 1, 3) := by decide +kernel
theorem dX5_breaches_52 : decode cX5_breaches 52 = .ok (.goto (-29), 3) := by decide +kernel
theorem dX5_breaches_55 : decode cX5_breaches 55 = .ok (.iload_n 3, 1) := by decide +kernel
theorem dX5_breaches_56 : decode cX5_breaches 56 = .ok (.ireturn, 1) := by decide +kernel
theorem dX5_kin_0 : decode cX5_kin 0 = .ok (.aload_n 0, 1) := by decide +kernel
theorem dX5_kin_1 : decode cX5_kin 1 = .ok (.iload_n 1, 1) := by decide +kernel
theorem dX5_kin_2 : decode cX5_kin 2 = .ok (.iload_n 2, 1) := by decide +kernel
theorem dX5_kin_3 : decode cX5_kin 3 = .ok (.invokevirtual 115, 3) := by decide +kernel
theorem dX5_kin_6 : decode cX5_kin 6 = .ok (.aload_n 0, 1) := by decide +kernel
theorem dX5_kin_7 : decode cX5_kin 7 = .ok (.getfield 46, 3) := by decide +kernel
theorem dX5_kin_10 : decode cX5_kin 10 = .ok (.iload_n 1, 1) := by decide +kernel
theorem dX5_kin_11 : decode cX5_kin 11 = .ok (.iload_n 2, 1) := by decide +kernel
theorem dX5_kin_12 : decode cX5_kin 12 = .ok (.iconst 1, 1) := by decide +kernel
theorem dX5_kin_13 : decode cX5_kin 13 = .ok (.invokevirtual 111, 3) := by decide +kernel
theorem dX5_kin_16 : decode cX5_kin 16 = .ok (.ireturn, 1) := by decide +kernel
theorem dX5_degree_0 : decode cX5_degree 0 = .ok (.aload_n 0, 1) := by decide +kernel
theorem dX5_degree_1 : decode cX5_degree 1 = .ok (.iload_n 1, 1) := by decide +kernel
theorem dX5_degree_2 : decode cX5_degree 2 = .ok (.invokevirtual 175, 3) := by decide +kernel
theorem dX5_degree_5 : decode cX5_degree 5 = .ok (.aload_n 0, 1) := by decide +kernel
theorem dX5_degree_6 : decode cX5_degree 6 = .ok (.iload_n 2, 1) := by decide +kernel
theorem dX5_degree_7 : decode cX5_degree 7 = .ok (.invokevirtual 175, 3) := by decide +kernel
theorem dX5_degree_10 : decode cX5_degree 10 = .ok (.aload_n 0, 1) := by decide +kernel
theorem dX5_degree_11 : decode cX5_degree 11 = .ok (.aload_n 0, 1) := by decide +kernel
theorem dX5_degree_12 : decode cX5_degree 12 = .ok (.getfield 59, 3) := by decide +kernel
theorem dX5_degree_15 : decode cX5_degree 15 = .ok (.iload_n 1, 1) := by decide +kernel
theorem dX5_degree_16 : decode cX5_degree 16 = .ok (.invokevirtual 178, 3) := by decide +kernel
theorem dX5_degree_19 : decode cX5_degree 19 = .ok (.aload_n 0, 1) := by decide +kernel
theorem dX5_degree_20 : decode cX5_degree 20 = .ok (.getfield 59, 3) := by decide +kernel
theorem dX5_degree_23 : decode cX5_degree 23 = .ok (.iload_n 2, 1) := by decide +kernel
theorem dX5_degree_24 : decode cX5_degree 24 = .ok (.invokevirtual 178, 3) := by decide +kernel
theorem dX5_degree_27 : decode cX5_degree 27 = .ok (.invokevirtual 192, 3) := by decide +kernel
theorem dX5_degree_30 : decode cX5_degree 30 = .ok (.ireturn, 1) := by decide +kernel
theorem dX5_best_0 : decode cX5_best 0 = .ok (.aload_n 0, 1) := by decide +kernel
theorem dX5_best_1 : decode cX5_best 1 = .ok (.iload_n 1, 1) := by decide +kernel
theorem dX5_best_2 : decode cX5_best 2 = .ok (.invokevirtual 195, 3) := by decide +kernel
theorem dX5_best_5 : decode cX5_best 5 = .ok (.aload_n 0, 1) := by decide +kernel
theorem dX5_best_6 : decode cX5_best 6 = .ok (.iload_n 1, 1) := by decide +kernel
theorem dX5_best_7 : decode cX5_best 7 = .ok (.invokevirtual 198, 3) := by decide +kernel
theorem dX5_best_10 : decode cX5_best 10 = .ok (.aload_n 0, 1) := by decide +kernel
theorem dX5_best_11 : decode cX5_best 11 = .ok (.getfield 66, 3) := by decide +kernel
theorem dX5_best_14 : decode cX5_best 14 = .ok (.invokevirtual 201, 3) := by decide +kernel
theorem dX5_best_17 : decode cX5_best 17 = .ok (.ireturn, 1) := by decide +kernel
theorem dX5_bestAnew_0 : decode cX5_bestAnew 0 = .ok (.aload_n 0, 1) := by decide +kernel
theorem dX5_bestAnew_1 : decode cX5_bestAnew 1 = .ok (.iload_n 1, 1) := by decide +kernel
theorem dX5_bestAnew_2 : decode cX5_bestAnew 2 = .ok (.invokevirtual 195, 3) := by decide +kernel
theorem dX5_bestAnew_5 : decode cX5_bestAnew 5 = .ok (.aload_n 0, 1) := by decide +kernel
theorem dX5_bestAnew_6 : decode cX5_bestAnew 6 = .ok (.iload_n 1, 1) := by decide +kernel
theorem dX5_bestAnew_7 : decode cX5_bestAnew 7 = .ok (.invokevirtual 198, 3) := by decide +kernel
theorem dX5_bestAnew_10 : decode cX5_bestAnew 10 = .ok (.aload_n 0, 1) := by decide +kernel
theorem dX5_bestAnew_11 : decode cX5_bestAnew 11 = .ok (.getfield 66, 3) := by decide +kernel
theorem dX5_bestAnew_14 : decode cX5_bestAnew 14 = .ok (.invokevirtual 205, 3) := by decide +kernel
theorem dX5_bestAnew_17 : decode cX5_bestAnew 17 = .ok (.ireturn, 1) := by decide +kernel
theorem dX5_rival_0 : decode cX5_rival 0 = .ok (.aload_n 0, 1) := by decide +kernel
theorem dX5_rival_1 : decode cX5_rival 1 = .ok (.iload_n 1, 1) := by decide +kernel
theorem dX5_rival_2 : decode cX5_rival 2 = .ok (.invokevirtual 131, 3) := by decide +kernel
theorem dX5_rival_5 : decode cX5_rival 5 = .ok (.iload_n 2, 1) := by decide +kernel
theorem dX5_rival_6 : decode cX5_rival 6 = .ok (.iconst (-1), 1) := by decide +kernel
theorem dX5_rival_7 : decode cX5_rival 7 = .ok (.bipush 15, 2) := by decide +kernel
theorem dX5_rival_9 : decode cX5_rival 9 = .ok (.invokestatic 83, 3) := by decide +kernel
theorem dX5_rival_12 : decode cX5_rival 12 = .ok (.aload_n 0, 1) := by decide +kernel
theorem dX5_rival_13 : decode cX5_rival 13 = .ok (.getfield 27, 3) := by decide +kernel
theorem dX5_rival_16 : decode cX5_rival 16 = .ok (.iload_n 1, 1) := by decide +kernel
theorem dX5_rival_17 : decode cX5_rival 17 = .ok (.invokevirtual 105, 3) := by decide +kernel
theorem dX5_rival_20 : decode cX5_rival 20 = .ok (.istore_n 3, 1) := by decide +kernel
theorem dX5_rival_21 : decode cX5_rival 21 = .ok (.aload_n 0, 1) := by decide +kernel
theorem dX5_rival_22 : decode cX5_rival 22 = .ok (.getfield 27, 3) := by decide +kernel
theorem dX5_rival_25 : decode cX5_rival 25 = .ok (.iload_n 1, 1) := by decide +kernel
theorem dX5_rival_26 : decode cX5_rival 26 = .ok (.iload_n 2, 1) := by decide +kernel
theorem dX5_rival_27 : decode cX5_rival 27 = .ok (.invokevirtual 76, 3) := by decide +kernel
theorem dX5_rival_30 : decode cX5_rival 30 = .ok (.iload_n 3, 1) := by decide +kernel
theorem dX5_rival_31 : decode cX5_rival 31 = .ok (.ireturn, 1) := by decide +kernel
theorem dX5_differ_0 : decode cX5_differ 0 = .ok (.iconst 0, 1) := by decide +kernel
theorem dX5_differ_1 : decode cX5_differ 1 = .ok (.istore_n 1, 1) := by decide +kernel
theorem dX5_differ_2 : decode cX5_differ 2 = .ok (.iconst 0, 1) := by decide +kernel
theorem dX5_differ_3 : decode cX5_differ 3 = .ok (.istore_n 2, 1) := by decide +kernel
theorem dX5_differ_4 : decode cX5_differ 4 = .ok (.iload_n 2, 1) := by decide +kernel
theorem dX5_differ_5 : decode cX5_differ 5 = .ok (.aload_n 0, 1) := by decide +kernel
theorem dX5_differ_6 : decode cX5_differ 6 = .ok (.getfield 87, 3) := by decide +kernel
theorem dX5_differ_9 : decode cX5_differ 9 = .ok (.if_icmp .ge 67, 3) := by decide +kernel
theorem dX5_differ_12 : decode cX5_differ 12 = .ok (.iload_n 2, 1) := by decide +kernel
theorem dX5_differ_13 : decode cX5_differ 13 = .ok (.iconst 1, 1) := by decide +kernel
theorem dX5_differ_14 : decode cX5_differ 14 = .ok (.iadd, 1) := by decide +kernel
theorem dX5_differ_15 : decode cX5_differ 15 = .ok (.istore_n 3, 1) := by decide +kernel
theorem dX5_differ_16 : decode cX5_differ 16 = .ok (.iload_n 3, 1) := by decide +kernel
theorem dX5_differ_17 : decode cX5_differ 17 = .ok (.aload_n 0, 1) := by decide +kernel
theorem dX5_differ_18 : decode cX5_differ 18 = .ok (.getfield 87, 3) := by decide +kernel
theorem dX5_differ_21 : decode cX5_differ 21 = .ok (.if_icmp .ge 49, 3) := by decide +kernel
theorem dX5_differ_24 : decode cX5_differ 24 = .ok (.aload_n 0, 1) := by decide +kernel
theorem dX5_differ_25 : decode cX5_differ 25 = .ok (.getfield 59, 3) := by decide +kernel
theorem dX5_differ_28 : decode cX5_differ 28 = .ok (.iload_n 2, 1) := by decide +kernel
theorem dX5_differ_29 : decode cX5_differ 29 = .ok (.invokevirtual 164, 3) := by decide +kernel
theorem dX5_differ_32 : decode cX5_differ 32 = .ok (.aload_n 0, 1) := by decide +kernel
theorem dX5_differ_33 : decode cX5_differ 33 = .ok (.getfield 59, 3) := by decide +kernel
theorem dX5_differ_36 : decode cX5_differ 36 = .ok (.iload_n 3, 1) := by decide +kernel
theorem dX5_differ_37 : decode cX5_differ 37 = .ok (.invokevirtual 164, 3) := by decide +kernel
theorem dX5_differ_40 : decode cX5_differ 40 = .ok (.if_icmp .ne 7, 3) := by decide +kernel
theorem dX5_differ_43 : decode cX5_differ 43 = .ok (.iconst 1, 1) := by decide +kernel
theorem dX5_differ_44 : decode cX5_differ 44 = .ok (.goto 4, 3) := by decide +kernel
theorem dX5_differ_47 : decode cX5_differ 47 = .ok (.iconst 0, 1) := by decide +kernel
theorem dX5_differ_48 : decode cX5_differ 48 = .ok (.istore 4, 2) := by decide +kernel
theorem dX5_differ_50 : decode cX5_differ 50 = .ok (.iload 4, 2) := by decide +kernel
theorem dX5_differ_52 : decode cX5_differ 52 = .ok (.aload_n 0, 1) := by decide +kernel
theorem dX5_differ_53 : decode cX5_differ 53 = .ok (.iload_n 2, 1) := by decide +kernel
theorem dX5_differ_54 : decode cX5_differ 54 = .ok (.iload_n 3, 1) := by decide +kernel
theorem dX5_differ_55 : decode cX5_differ 55 = .ok (.invokevirtual 208, 3) := by decide +kernel
theorem dX5_differ_58 : decode cX5_differ 58 = .ok (.if_icmp .eq 6, 3) := by decide +kernel
theorem dX5_differ_61 : decode cX5_differ 61 = .ok (.iinc 1 1, 3) := by decide +kernel
theorem dX5_differ_64 : decode cX5_differ 64 = .ok (.iinc 3 1, 3) := by decide +kernel
theorem dX5_differ_67 : decode cX5_differ 67 = .ok (.goto (-51), 3) := by decide +kernel
theorem dX5_differ_70 : decode cX5_differ 70 = .ok (.iinc 2 1, 3) := by decide +kernel
theorem dX5_differ_73 : decode cX5_differ 73 = .ok (.goto (-69), 3) := by decide +kernel
theorem dX5_differ_76 : decode cX5_differ 76 = .ok (.iload_n 1, 1) := by decide +kernel
theorem dX5_differ_77 : decode cX5_differ 77 = .ok (.ireturn, 1) := by decide +kernel
theorem dX5_needMention_0 : decode cX5_needMention 0 = .ok (.iload_n 1, 1) := by decide +kernel
theorem dX5_needMention_1 : decode cX5_needMention 1 = .ok (.ifCond .lt 11, 3) := by decide +kernel
theorem dX5_needMention_4 : decode cX5_needMention 4 = .ok (.iload_n 1, 1) := by decide +kernel
theorem dX5_needMention_5 : decode cX5_needMention 5 = .ok (.aload_n 0, 1) := by decide +kernel
theorem dX5_needMention_6 : decode cX5_needMention 6 = .ok (.getfield 87, 3) := by decide +kernel
theorem dX5_needMention_9 : decode cX5_needMention 9 = .ok (.if_icmp .lt 13, 3) := by decide +kernel
theorem dX5_needMention_12 : decode cX5_needMention 12 = .ok (.new 181, 3) := by decide +kernel
theorem dX5_needMention_15 : decode cX5_needMention 15 = .ok (.dup, 1) := by decide +kernel
theorem dX5_needMention_16 : decode cX5_needMention 16 = .ok (.ldc 212, 2) := by decide +kernel
theorem dX5_needMention_18 : decode cX5_needMention 18 = .ok (.invokespecial 185, 3) := by decide +kernel
theorem dX5_needMention_21 : decode cX5_needMention 21 = .ok (.athrow, 1) := by decide +kernel
theorem dX5_needMention_22 : decode cX5_needMention 22 = .ok (.return_, 1) := by decide +kernel
theorem dX5_needTwoMentions_0 : decode cX5_needTwoMentions 0 = .ok (.aload_n 0, 1) := by decide +kernel
theorem dX5_needTwoMentions_1 : decode cX5_needTwoMentions 1 = .ok (.iload_n 1, 1) := by decide +kernel
theorem dX5_needTwoMentions_2 : decode cX5_needTwoMentions 2 = .ok (.invokevirtual 131, 3) := by decide +kernel
theorem dX5_needTwoMentions_5 : decode cX5_needTwoMentions 5 = .ok (.aload_n 0, 1) := by decide +kernel
theorem dX5_needTwoMentions_6 : decode cX5_needTwoMentions 6 = .ok (.iload_n 2, 1) := by decide +kernel
theorem dX5_needTwoMentions_7 : decode cX5_needTwoMentions 7 = .ok (.invokevirtual 131, 3) := by decide +kernel
theorem dX5_needTwoMentions_10 : decode cX5_needTwoMentions 10 = .ok (.iload_n 1, 1) := by decide +kernel
theorem dX5_needTwoMentions_11 : decode cX5_needTwoMentions 11 = .ok (.iload_n 2, 1) := by decide +kernel
theorem dX5_needTwoMentions_12 : decode cX5_needTwoMentions 12 = .ok (.invokestatic 108, 3) := by decide +kernel
theorem dX5_needTwoMentions_15 : decode cX5_needTwoMentions 15 = .ok (.return_, 1) := by decide +kernel
theorem dX5_needPerson_0 : decode cX5_needPerson 0 = .ok (.iload_n 1, 1) := by decide +kernel
theorem dX5_needPerson_1 : decode cX5_needPerson 1 = .ok (.ifCond .lt 14, 3) := by decide +kernel
theorem dX5_needPerson_4 : decode cX5_needPerson 4 = .ok (.iload_n 1, 1) := by decide +kernel
theorem dX5_needPerson_5 : decode cX5_needPerson 5 = .ok (.aload_n 0, 1) := by decide +kernel
theorem dX5_needPerson_6 : decode cX5_needPerson 6 = .ok (.getfield 59, 3) := by decide +kernel
theorem dX5_needPerson_9 : decode cX5_needPerson 9 = .ok (.invokevirtual 214, 3) := by decide +kernel
theorem dX5_needPerson_12 : decode cX5_needPerson 12 = .ok (.if_icmp .lt 13, 3) := by decide +kernel
theorem dX5_needPerson_15 : decode cX5_needPerson 15 = .ok (.new 181, 3) := by decide +kernel
theorem dX5_needPerson_18 : decode cX5_needPerson 18 = .ok (.dup, 1) := by decide +kernel
theorem dX5_needPerson_19 : decode cX5_needPerson 19 = .ok (.ldc 217, 2) := by decide +kernel
theorem dX5_needPerson_21 : decode cX5_needPerson 21 = .ok (.invokespecial 185, 3) := by decide +kernel
theorem dX5_needPerson_24 : decode cX5_needPerson 24 = .ok (.athrow, 1) := by decide +kernel
theorem dX5_needPerson_25 : decode cX5_needPerson 25 = .ok (.return_, 1) := by decide +kernel
theorem dX5_needPost_0 : decode cX5_needPost 0 = .ok (.iload_n 0, 1) := by decide +kernel
theorem dX5_needPost_1 : decode cX5_needPost 1 = .ok (.ifCond .lt 9, 3) := by decide +kernel
theorem dX5_needPost_4 : decode cX5_needPost 4 = .ok (.iload_n 0, 1) := by decide +kernel
theorem dX5_needPost_5 : decode cX5_needPost 5 = .ok (.bipush 8, 2) := by decide +kernel
theorem dX5_needPost_7 : decode cX5_needPost 7 = .ok (.if_icmp .lt 13, 3) := by decide +kernel
theorem dX5_needPost_10 : decode cX5_needPost 10 = .ok (.new 181, 3) := by decide +kernel
theorem dX5_needPost_13 : decode cX5_needPost 13 = .ok (.dup, 1) := by decide +kernel
theorem dX5_needPost_14 : decode cX5_needPost 14 = .ok (.ldc 219, 2) := by decide +kernel
theorem dX5_needPost_16 : decode cX5_needPost 16 = .ok (.invokespecial 185, 3) := by decide +kernel
theorem dX5_needPost_19 : decode cX5_needPost 19 = .ok (.athrow, 1) := by decide +kernel
theorem dX5_needPost_20 : decode cX5_needPost 20 = .ok (.return_, 1) := by decide +kernel
theorem dX5_needUnlike_0 : decode cX5_needUnlike 0 = .ok (.iload_n 0, 1) := by decide +kernel
theorem dX5_needUnlike_1 : decode cX5_needUnlike 1 = .ok (.iload_n 1, 1) := by decide +kernel
theorem dX5_needUnlike_2 : decode cX5_needUnlike 2 = .ok (.if_icmp .ne 13, 3) := by decide +kernel
theorem dX5_needUnlike_5 : decode cX5_needUnlike 5 = .ok (.new 221, 3) := by decide +kernel
theorem dX5_needUnlike_8 : decode cX5_needUnlike 8 = .ok (.dup, 1) := by decide +kernel
theorem dX5_needUnlike_9 : decode cX5_needUnlike 9 = .ok (.ldc 223, 2) := by decide +kernel
theorem dX5_needUnlike_11 : decode cX5_needUnlike 11 = .ok (.invokespecial 225, 3) := by decide +kernel
theorem dX5_needUnlike_14 : decode cX5_needUnlike 14 = .ok (.athrow, 1) := by decide +kernel
theorem dX5_needUnlike_15 : decode cX5_needUnlike 15 = .ok (.return_, 1) := by decide +kernel
theorem dX5_needWithin_0 : decode cX5_needWithin 0 = .ok (.iload_n 0, 1) := by decide +kernel
theorem dX5_needWithin_1 : decode cX5_needWithin 1 = .ok (.iload_n 1, 1) := by decide +kernel
theorem dX5_needWithin_2 : decode cX5_needWithin 2 = .ok (.if_icmp .lt 8, 3) := by decide +kernel
theorem dX5_needWithin_5 : decode cX5_needWithin 5 = .ok (.iload_n 0, 1) := by decide +kernel
theorem dX5_needWithin_6 : decode cX5_needWithin 6 = .ok (.iload_n 2, 1) := by decide +kernel
theorem dX5_needWithin_7 : decode cX5_needWithin 7 = .ok (.if_icmp .le 13, 3) := by decide +kernel
theorem dX5_needWithin_10 : decode cX5_needWithin 10 = .ok (.new 221, 3) := by decide +kernel
theorem dX5_needWithin_13 : decode cX5_needWithin 13 = .ok (.dup, 1) := by decide +kernel
theorem dX5_needWithin_14 : decode cX5_needWithin 14 = .ok (.ldc 226, 2) := by decide +kernel
theorem dX5_needWithin_16 : decode cX5_needWithin 16 = .ok (.invokespecial 225, 3) := by decide +kernel
theorem dX5_needWithin_19 : decode cX5_needWithin 19 = .ok (.athrow, 1) := by decide +kernel
theorem dX5_needWithin_20 : decode cX5_needWithin 20 = .ok (.return_, 1) := by decide +kernel
theorem dX5_needYears_0 : decode cX5_needYears 0 = .ok (.iload_n 0, 1) := by decide +kernel
theorem dX5_needYears_1 : decode cX5_needYears 1 = .ok (.iconst 0, 1) := by decide +kernel
theorem dX5_needYears_2 : decode cX5_needYears 2 = .ok (.sipush 999, 3) := by decide +kernel
theorem dX5_needYears_5 : decode cX5_needYears 5 = .ok (.invokestatic 83, 3) := by decide +kernel
theorem dX5_needYears_8 : decode cX5_needYears 8 = .ok (.iload_n 1, 1) := by decide +kernel
theorem dX5_needYears_9 : decode cX5_needYears 9 = .ok (.iload_n 0, 1) := by decide +kernel
theorem dX5_needYears_10 : decode cX5_needYears 10 = .ok (.sipush 999, 3) := by decide +kernel
theorem dX5_needYears_13 : decode cX5_needYears 13 = .ok (.invokestatic 83, 3) := by decide +kernel
theorem dX5_needYears_16 : decode cX5_needYears 16 = .ok (.return_, 1) := by decide +kernel
theorem dX5_needFewMentions_0 : decode cX5_needFewMentions 0 = .ok (.iload_n 1, 1) := by decide +kernel
theorem dX5_needFewMentions_1 : decode cX5_needFewMentions 1 = .ok (.aload_n 0, 1) := by decide +kernel
theorem dX5_needFewMentions_2 : decode cX5_needFewMentions 2 = .ok (.getfield 87, 3) := by decide +kernel
theorem dX5_needFewMentions_5 : decode cX5_needFewMentions 5 = .ok (.ishr, 1) := by decide +kernel
theorem dX5_needFewMentions_6 : decode cX5_needFewMentions 6 = .ok (.ifCond .eq 13, 3) := by decide +kernel
theorem dX5_needFewMentions_9 : decode cX5_needFewMentions 9 = .ok (.new 221, 3) := by decide +kernel
theorem dX5_needFewMentions_12 : decode cX5_needFewMentions 12 = .ok (.dup, 1) := by decide +kernel
theorem dX5_needFewMentions_13 : decode cX5_needFewMentions 13 = .ok (.ldc 228, 2) := by decide +kernel
theorem dX5_needFewMentions_15 : decode cX5_needFewMentions 15 = .ok (.invokespecial 225, 3) := by decide +kernel
theorem dX5_needFewMentions_18 : decode cX5_needFewMentions 18 = .ok (.athrow, 1) := by decide +kernel
theorem dX5_needFewMentions_19 : decode cX5_needFewMentions 19 = .ok (.iload_n 1, 1) := by decide +kernel
theorem dX5_needFewMentions_20 : decode cX5_needFewMentions 20 = .ok (.invokestatic 230, 3) := by decide +kernel
theorem dX5_needFewMentions_23 : decode cX5_needFewMentions 23 = .ok (.iconst 0, 1) := by decide +kernel
theorem dX5_needFewMentions_24 : decode cX5_needFewMentions 24 = .ok (.bipush 6, 2) := by decide +kernel
theorem dX5_needFewMentions_26 : decode cX5_needFewMentions 26 = .ok (.invokestatic 83, 3) := by decide +kernel
theorem dX5_needFewMentions_29 : decode cX5_needFewMentions 29 = .ok (.return_, 1) := by decide +kernel
theorem dX5_needRoomForPerson_0 : decode cX5_needRoomForPerson 0 = .ok (.aload_n 0, 1) := by decide +kernel
theorem dX5_needRoomForPerson_1 : decode cX5_needRoomForPerson 1 = .ok (.getfield 59, 3) := by decide +kernel
theorem dX5_needRoomForPerson_4 : decode cX5_needRoomForPerson 4 = .ok (.invokevirtual 214, 3) := by decide +kernel
theorem dX5_needRoomForPerson_7 : decode cX5_needRoomForPerson 7 = .ok (.bipush 40, 2) := by decide +kernel
theorem dX5_needRoomForPerson_9 : decode cX5_needRoomForPerson 9 = .ok (.if_icmp .lt 13, 3) := by decide +kernel
theorem dX5_needRoomForPerson_12 : decode cX5_needRoomForPerson 12 = .ok (.new 91, 3) := by decide +kernel
theorem dX5_needRoomForPerson_15 : decode cX5_needRoomForPerson 15 = .ok (.dup, 1) := by decide +kernel
theorem dX5_needRoomForPerson_16 : decode cX5_needRoomForPerson 16 = .ok (.ldc 235, 2) := by decide +kernel
theorem dX5_needRoomForPerson_18 : decode cX5_needRoomForPerson 18 = .ok (.invokespecial 95, 3) := by decide +kernel
theorem dX5_needRoomForPerson_21 : decode cX5_needRoomForPerson 21 = .ok (.athrow, 1) := by decide +kernel
theorem dX5_needRoomForPerson_22 : decode cX5_needRoomForPerson 22 = .ok (.return_, 1) := by decide +kernel
theorem dX5_needDating_0 : decode cX5_needDating 0 = .ok (.iload_n 0, 1) := by decide +kernel
theorem dX5_needDating_1 : decode cX5_needDating 1 = .ok (.iconst (-1), 1) := by decide +kernel
theorem dX5_needDating_2 : decode cX5_needDating 2 = .ok (.if_icmp .ne 13, 3) := by decide +kernel
theorem dX5_needDating_5 : decode cX5_needDating 5 = .ok (.new 91, 3) := by decide +kernel
theorem dX5_needDating_8 : decode cX5_needDating 8 = .ok (.dup, 1) := by decide +kernel
theorem dX5_needDating_9 : decode cX5_needDating 9 = .ok (.ldc 237, 2) := by decide +kernel
theorem dX5_needDating_11 : decode cX5_needDating 11 = .ok (.invokespecial 95, 3) := by decide +kernel
theorem dX5_needDating_14 : decode cX5_needDating 14 = .ok (.athrow, 1) := by decide +kernel
theorem dX5_needDating_15 : decode cX5_needDating 15 = .ok (.return_, 1) := by decide +kernel
theorem dX5_weightOf_0 : decode cX5_weightOf 0 = .ok (.iconst 0, 1) := by decide +kernel
theorem dX5_weightOf_1 : decode cX5_weightOf 1 = .ok (.istore_n 3, 1) := by decide +kernel
theorem dX5_weightOf_2 : decode cX5_weightOf 2 = .ok (.aload_n 0, 1) := by decide +kernel
theorem dX5_weightOf_3 : decode cX5_weightOf 3 = .ok (.getfield 14, 3) := by decide +kernel
theorem dX5_weightOf_6 : decode cX5_weightOf 6 = .ok (.iload_n 1, 1) := by decide +kernel
theorem dX5_weightOf_7 : decode cX5_weightOf 7 = .ok (.invokevirtual 105, 3) := by decide +kernel
theorem dX5_weightOf_10 : decode cX5_weightOf 10 = .ok (.aload_n 0, 1) := by decide +kernel
theorem dX5_weightOf_11 : decode cX5_weightOf 11 = .ok (.getfield 14, 3) := by decide +kernel
theorem dX5_weightOf_14 : decode cX5_weightOf 14 = .ok (.iload_n 2, 1) := by decide +kernel
theorem dX5_weightOf_15 : decode cX5_weightOf 15 = .ok (.invokevirtual 105, 3) := by decide +kernel
theorem dX5_weightOf_18 : decode cX5_weightOf 18 = .ok (.if_icmp .ne 6, 3) := by decide +kernel
theorem dX5_weightOf_21 : decode cX5_weightOf 21 = .ok (.iinc 3 2, 3) := by decide +kernel
theorem dX5_weightOf_24 : decode cX5_weightOf 24 = .ok (.aload_n 0, 1) := by decide +kernel
theorem dX5_weightOf_25 : decode cX5_weightOf 25 = .ok (.getfield 18, 3) := by decide +kernel
theorem dX5_weightOf_28 : decode cX5_weightOf 28 = .ok (.iload_n 1, 1) := by decide +kernel
theorem dX5_weightOf_29 : decode cX5_weightOf 29 = .ok (.invokevirtual 105, 3) := by decide +kernel
theorem dX5_weightOf_32 : decode cX5_weightOf 32 = .ok (.aload_n 0, 1) := by decide +kernel
theorem dX5_weightOf_33 : decode cX5_weightOf 33 = .ok (.getfield 18, 3) := by decide +kernel
theorem dX5_weightOf_36 : decode cX5_weightOf 36 = .ok (.iload_n 2, 1) := by decide +kernel
theorem dX5_weightOf_37 : decode cX5_weightOf 37 = .ok (.invokevirtual 105, 3) := by decide +kernel
theorem dX5_weightOf_40 : decode cX5_weightOf 40 = .ok (.invokestatic 239, 3) := by decide +kernel
theorem dX5_weightOf_43 : decode cX5_weightOf 43 = .ok (.ifCond .eq 6, 3) := by decide +kernel
theorem dX5_weightOf_46 : decode cX5_weightOf 46 = .ok (.iinc 3 3, 3) := by decide +kernel
theorem dX5_weightOf_49 : decode cX5_weightOf 49 = .ok (.aload_n 0, 1) := by decide +kernel
theorem dX5_weightOf_50 : decode cX5_weightOf 50 = .ok (.getfield 21, 3) := by decide +kernel
theorem dX5_weightOf_53 : decode cX5_weightOf 53 = .ok (.iload_n 1, 1) := by decide +kernel
theorem dX5_weightOf_54 : decode cX5_weightOf 54 = .ok (.invokevirtual 105, 3) := by decide +kernel
theorem dX5_weightOf_57 : decode cX5_weightOf 57 = .ok (.aload_n 0, 1) := by decide +kernel
theorem dX5_weightOf_58 : decode cX5_weightOf 58 = .ok (.getfield 21, 3) := by decide +kernel
theorem dX5_weightOf_61 : decode cX5_weightOf 61 = .ok (.iload_n 2, 1) := by decide +kernel
theorem dX5_weightOf_62 : decode cX5_weightOf 62 = .ok (.invokevirtual 105, 3) := by decide +kernel
theorem dX5_weightOf_65 : decode cX5_weightOf 65 = .ok (.if_icmp .ne 6, 3) := by decide +kernel
theorem dX5_weightOf_68 : decode cX5_weightOf 68 = .ok (.iinc 3 1, 3) := by decide +kernel
theorem dX5_weightOf_71 : decode cX5_weightOf 71 = .ok (.aload_n 0, 1) := by decide +kernel
theorem dX5_weightOf_72 : decode cX5_weightOf 72 = .ok (.getfield 24, 3) := by decide +kernel
theorem dX5_weightOf_75 : decode cX5_weightOf 75 = .ok (.iload_n 1, 1) := by decide +kernel
theorem dX5_weightOf_76 : decode cX5_weightOf 76 = .ok (.invokevirtual 105, 3) := by decide +kernel
theorem dX5_weightOf_79 : decode cX5_weightOf 79 = .ok (.aload_n 0, 1) := by decide +kernel
theorem dX5_weightOf_80 : decode cX5_weightOf 80 = .ok (.getfield 24, 3) := by decide +kernel
theorem dX5_weightOf_83 : decode cX5_weightOf 83 = .ok (.iload_n 2, 1) := by decide +kernel
theorem dX5_weightOf_84 : decode cX5_weightOf 84 = .ok (.invokevirtual 105, 3) := by decide +kernel
theorem dX5_weightOf_87 : decode cX5_weightOf 87 = .ok (.invokestatic 239, 3) := by decide +kernel
theorem dX5_weightOf_90 : decode cX5_weightOf 90 = .ok (.ifCond .eq 6, 3) := by decide +kernel
theorem dX5_weightOf_93 : decode cX5_weightOf 93 = .ok (.iinc 3 2, 3) := by decide +kernel
theorem dX5_weightOf_96 : decode cX5_weightOf 96 = .ok (.aload_n 0, 1) := by decide +kernel
theorem dX5_weightOf_97 : decode cX5_weightOf 97 = .ok (.getfield 40, 3) := by decide +kernel
theorem dX5_weightOf_100 : decode cX5_weightOf 100 = .ok (.iload_n 1, 1) := by decide +kernel
theorem dX5_weightOf_101 : decode cX5_weightOf 101 = .ok (.iload_n 2, 1) := by decide +kernel
theorem dX5_weightOf_102 : decode cX5_weightOf 102 = .ok (.invokevirtual 242, 3) := by decide +kernel
theorem dX5_weightOf_105 : decode cX5_weightOf 105 = .ok (.ifCond .eq 6, 3) := by decide +kernel
theorem dX5_weightOf_108 : decode cX5_weightOf 108 = .ok (.iinc 3 5, 3) := by decide +kernel
theorem dX5_weightOf_111 : decode cX5_weightOf 111 = .ok (.iload_n 3, 1) := by decide +kernel
theorem dX5_weightOf_112 : decode cX5_weightOf 112 = .ok (.ireturn, 1) := by decide +kernel
theorem dX5_areSameAndKnown_0 : decode cX5_areSameAndKnown 0 = .ok (.iload_n 0, 1) := by decide +kernel
theorem dX5_areSameAndKnown_1 : decode cX5_areSameAndKnown 1 = .ok (.iload_n 1, 1) := by decide +kernel
theorem dX5_areSameAndKnown_2 : decode cX5_areSameAndKnown 2 = .ok (.if_icmp .ne 12, 3) := by decide +kernel
theorem dX5_areSameAndKnown_5 : decode cX5_areSameAndKnown 5 = .ok (.iload_n 0, 1) := by decide +kernel
theorem dX5_areSameAndKnown_6 : decode cX5_areSameAndKnown 6 = .ok (.iconst (-1), 1) := by decide +kernel
theorem dX5_areSameAndKnown_7 : decode cX5_areSameAndKnown 7 = .ok (.if_icmp .eq 7, 3) := by decide +kernel
theorem dX5_areSameAndKnown_10 : decode cX5_areSameAndKnown 10 = .ok (.iconst 1, 1) := by decide +kernel
theorem dX5_areSameAndKnown_11 : decode cX5_areSameAndKnown 11 = .ok (.goto 4, 3) := by decide +kernel
theorem dX5_areSameAndKnown_14 : decode cX5_areSameAndKnown 14 = .ok (.iconst 0, 1) := by decide +kernel
theorem dX5_areSameAndKnown_15 : decode cX5_areSameAndKnown 15 = .ok (.ireturn, 1) := by decide +kernel
theorem dX5_haveOtherFamilies_0 : decode cX5_haveOtherFamilies 0 = .ok (.aload_n 0, 1) := by decide +kernel
theorem dX5_haveOtherFamilies_1 : decode cX5_haveOtherFamilies 1 = .ok (.getfield 18, 3) := by decide +kernel
theorem dX5_haveOtherFamilies_4 : decode cX5_haveOtherFamilies 4 = .ok (.iload_n 1, 1) := by decide +kernel
theorem dX5_haveOtherFamilies_5 : decode cX5_haveOtherFamilies 5 = .ok (.invokevirtual 105, 3) := by decide +kernel
theorem dX5_haveOtherFamilies_8 : decode cX5_haveOtherFamilies 8 = .ok (.istore_n 3, 1) := by decide +kernel
theorem dX5_haveOtherFamilies_9 : decode cX5_haveOtherFamilies 9 = .ok (.aload_n 0, 1) := by decide +kernel
theorem dX5_haveOtherFamilies_10 : decode cX5_haveOtherFamilies 10 = .ok (.getfield 18, 3) := by decide +kernel
theorem dX5_haveOtherFamilies_13 : decode cX5_haveOtherFamilies 13 = .ok (.iload_n 2, 1) := by decide +kernel
theorem dX5_haveOtherFamilies_14 : decode cX5_haveOtherFamilies 14 = .ok (.invokevirtual 105, 3) := by decide +kernel
theorem dX5_haveOtherFamilies_17 : decode cX5_haveOtherFamilies 17 = .ok (.istore 4, 2) := by decide +kernel
theorem dX5_haveOtherFamilies_19 : decode cX5_haveOtherFamilies 19 = .ok (.iload_n 3, 1) := by decide +kernel
theorem dX5_haveOtherFamilies_20 : decode cX5_haveOtherFamilies 20 = .ok (.iconst (-1), 1) := by decide +kernel
theorem dX5_haveOtherFamilies_21 : decode cX5_haveOtherFamilies 21 = .ok (.if_icmp .eq 19, 3) := by decide +kernel
theorem dX5_haveOtherFamilies_24 : decode cX5_haveOtherFamilies 24 = .ok (.iload 4, 2) := by decide +kernel
theorem dX5_haveOtherFamilies_26 : decode cX5_haveOtherFamilies 26 = .ok (.iconst (-1), 1) := by decide +kernel
theorem dX5_haveOtherFamilies_27 : decode cX5_haveOtherFamilies 27 = .ok (.if_icmp .eq 13, 3) := by decide +kernel
theorem dX5_haveOtherFamilies_30 : decode cX5_haveOtherFamilies 30 = .ok (.iload_n 3, 1) := by decide +kernel
theorem dX5_haveOtherFamilies_31 : decode cX5_haveOtherFamilies 31 = .ok (.iload 4, 2) := by decide +kernel
theorem dX5_haveOtherFamilies_33 : decode cX5_haveOtherFamilies 33 = .ok (.if_icmp .eq 7, 3) := by decide +kernel
theorem dX5_haveOtherFamilies_36 : decode cX5_haveOtherFamilies 36 = .ok (.iconst 1, 1) := by decide +kernel
theorem dX5_haveOtherFamilies_37 : decode cX5_haveOtherFamilies 37 = .ok (.goto 4, 3) := by decide +kernel
theorem dX5_haveOtherFamilies_40 : decode cX5_haveOtherFamilies 40 = .ok (.iconst 0, 1) := by decide +kernel
theorem dX5_haveOtherFamilies_41 : decode cX5_haveOtherFamilies 41 = .ok (.ireturn, 1) := by decide +kernel
theorem dX5_areBarredAtOnce_0 : decode cX5_areBarredAtOnce 0 = .ok (.aload_n 0, 1) := by decide +kernel
theorem dX5_areBarredAtOnce_1 : decode cX5_areBarredAtOnce 1 = .ok (.getfield 24, 3) := by decide +kernel
theorem dX5_areBarredAtOnce_4 : decode cX5_areBarredAtOnce 4 = .ok (.iload_n 1, 1) := by decide +kernel
theorem dX5_areBarredAtOnce_5 : decode cX5_areBarredAtOnce 5 = .ok (.invokevirtual 105, 3) := by decide +kernel
theorem dX5_areBarredAtOnce_8 : decode cX5_areBarredAtOnce 8 = .ok (.istore_n 3, 1) := by decide +kernel
theorem dX5_areBarredAtOnce_9 : decode cX5_areBarredAtOnce 9 = .ok (.aload_n 0, 1) := by decide +kernel
theorem dX5_areBarredAtOnce_10 : decode cX5_areBarredAtOnce 10 = .ok (.getfield 24, 3) := by decide +kernel
theorem dX5_areBarredAtOnce_13 : decode cX5_areBarredAtOnce 13 = .ok (.iload_n 2, 1) := by decide +kernel
theorem dX5_areBarredAtOnce_14 : decode cX5_areBarredAtOnce 14 = .ok (.invokevirtual 105, 3) := by decide +kernel
theorem dX5_areBarredAtOnce_17 : decode cX5_areBarredAtOnce 17 = .ok (.istore 4, 2) := by decide +kernel
theorem dX5_areBarredAtOnce_19 : decode cX5_areBarredAtOnce 19 = .ok (.iload_n 3, 1) := by decide +kernel
theorem dX5_areBarredAtOnce_20 : decode cX5_areBarredAtOnce 20 = .ok (.iconst (-1), 1) := by decide +kernel
theorem dX5_areBarredAtOnce_21 : decode cX5_areBarredAtOnce 21 = .ok (.if_icmp .eq 67, 3) := by decide +kernel
theorem dX5_areBarredAtOnce_24 : decode cX5_areBarredAtOnce 24 = .ok (.iload 4, 2) := by decide +kernel
theorem dX5_areBarredAtOnce_26 : decode cX5_areBarredAtOnce 26 = .ok (.iconst (-1), 1) := by decide +kernel
theorem dX5_areBarredAtOnce_27 : decode cX5_areBarredAtOnce 27 = .ok (.if_icmp .eq 61, 3) := by decide +kernel
theorem dX5_areBarredAtOnce_30 : decode cX5_areBarredAtOnce 30 = .ok (.aload_n 0, 1) := by decide +kernel
theorem dX5_areBarredAtOnce_31 : decode cX5_areBarredAtOnce 31 = .ok (.getfield 36, 3) := by decide +kernel
theorem dX5_areBarredAtOnce_34 : decode cX5_areBarredAtOnce 34 = .ok (.iload_n 3, 1) := by decide +kernel
theorem dX5_areBarredAtOnce_35 : decode cX5_areBarredAtOnce 35 = .ok (.iload 4, 2) := by decide +kernel
theorem dX5_areBarredAtOnce_37 : decode cX5_areBarredAtOnce 37 = .ok (.invokevirtual 242, 3) := by decide +kernel
theorem dX5_areBarredAtOnce_40 : decode cX5_areBarredAtOnce 40 = .ok (.ifCond .eq 48, 3) := by decide +kernel
theorem dX5_areBarredAtOnce_43 : decode cX5_areBarredAtOnce 43 = .ok (.aload_n 0, 1) := by decide +kernel
theorem dX5_areBarredAtOnce_44 : decode cX5_areBarredAtOnce 44 = .ok (.getfield 52, 3) := by decide +kernel
theorem dX5_areBarredAtOnce_47 : decode cX5_areBarredAtOnce 47 = .ok (.iload_n 1, 1) := by decide +kernel
theorem dX5_areBarredAtOnce_48 : decode cX5_areBarredAtOnce 48 = .ok (.invokevirtual 245, 3) := by decide +kernel
theorem dX5_areBarredAtOnce_51 : decode cX5_areBarredAtOnce 51 = .ok (.ifCond .eq 37, 3) := by decide +kernel
theorem dX5_areBarredAtOnce_54 : decode cX5_areBarredAtOnce 54 = .ok (.aload_n 0, 1) := by decide +kernel
theorem dX5_areBarredAtOnce_55 : decode cX5_areBarredAtOnce 55 = .ok (.getfield 52, 3) := by decide +kernel
theorem dX5_areBarredAtOnce_58 : decode cX5_areBarredAtOnce 58 = .ok (.iload_n 2, 1) := by decide +kernel
theorem dX5_areBarredAtOnce_59 : decode cX5_areBarredAtOnce 59 = .ok (.invokevirtual 245, 3) := by decide +kernel
theorem dX5_areBarredAtOnce_62 : decode cX5_areBarredAtOnce 62 = .ok (.ifCond .eq 26, 3) := by decide +kernel
theorem dX5_areBarredAtOnce_65 : decode cX5_areBarredAtOnce 65 = .ok (.aload_n 0, 1) := by decide +kernel
theorem dX5_areBarredAtOnce_66 : decode cX5_areBarredAtOnce 66 = .ok (.getfield 52, 3) := by decide +kernel
theorem dX5_areBarredAtOnce_69 : decode cX5_areBarredAtOnce 69 = .ok (.iload_n 1, 1) := by decide +kernel
theorem dX5_areBarredAtOnce_70 : decode cX5_areBarredAtOnce 70 = .ok (.invokevirtual 146, 3) := by decide +kernel
theorem dX5_areBarredAtOnce_73 : decode cX5_areBarredAtOnce 73 = .ok (.aload_n 0, 1) := by decide +kernel
theorem dX5_areBarredAtOnce_74 : decode cX5_areBarredAtOnce 74 = .ok (.getfield 52, 3) := by decide +kernel
theorem dX5_areBarredAtOnce_77 : decode cX5_areBarredAtOnce 77 = .ok (.iload_n 2, 1) := by decide +kernel
theorem dX5_areBarredAtOnce_78 : decode cX5_areBarredAtOnce 78 = .ok (.invokevirtual 146, 3) := by decide +kernel
theorem dX5_areBarredAtOnce_81 : decode cX5_areBarredAtOnce 81 = .ok (.if_icmp .ne 7, 3) := by decide +kernel
theorem dX5_areBarredAtOnce_84 : decode cX5_areBarredAtOnce 84 = .ok (.iconst 1, 1) := by decide +kernel
theorem dX5_areBarredAtOnce_85 : decode cX5_areBarredAtOnce 85 = .ok (.goto 4, 3) := by decide +kernel
theorem dX5_areBarredAtOnce_88 : decode cX5_areBarredAtOnce 88 = .ok (.iconst 0, 1) := by decide +kernel
theorem dX5_areBarredAtOnce_89 : decode cX5_areBarredAtOnce 89 = .ok (.ireturn, 1) := by decide +kernel
theorem dX5_areTogetherForRival_0 : decode cX5_areTogetherForRival 0 = .ok (.aload_n 0, 1) := by decide +kernel
theorem dX5_areTogetherForRival_1 : decode cX5_areTogetherForRival 1 = .ok (.getfield 27, 3) := by decide +kernel
theorem dX5_areTogetherForRival_4 : decode cX5_areTogetherForRival 4 = .ok (.iload_n 1, 1) := by decide +kernel
theorem dX5_areTogetherForRival_5 : decode cX5_areTogetherForRival 5 = .ok (.invokevirtual 105, 3) := by decide +kernel
theorem dX5_areTogetherForRival_8 : decode cX5_areTogetherForRival 8 = .ok (.aload_n 0, 1) := by decide +kernel
theorem dX5_areTogetherForRival_9 : decode cX5_areTogetherForRival 9 = .ok (.getfield 27, 3) := by decide +kernel
theorem dX5_areTogetherForRival_12 : decode cX5_areTogetherForRival 12 = .ok (.iload_n 2, 1) := by decide +kernel
theorem dX5_areTogetherForRival_13 : decode cX5_areTogetherForRival 13 = .ok (.invokevirtual 105, 3) := by decide +kernel
theorem dX5_areTogetherForRival_16 : decode cX5_areTogetherForRival 16 = .ok (.invokestatic 239, 3) := by decide +kernel
theorem dX5_areTogetherForRival_19 : decode cX5_areTogetherForRival 19 = .ok (.ireturn, 1) := by decide +kernel
theorem dX5_reasonAgainst_0 : decode cX5_reasonAgainst 0 = .ok (.aload_n 0, 1) := by decide +kernel
theorem dX5_reasonAgainst_1 : decode cX5_reasonAgainst 1 = .ok (.getfield 59, 3) := by decide +kernel
theorem dX5_reasonAgainst_4 : decode cX5_reasonAgainst 4 = .ok (.iload_n 1, 1) := by decide +kernel
theorem dX5_reasonAgainst_5 : decode cX5_reasonAgainst 5 = .ok (.invokevirtual 164, 3) := by decide +kernel
theorem dX5_reasonAgainst_8 : decode cX5_reasonAgainst 8 = .ok (.istore_n 3, 1) := by decide +kernel
theorem dX5_reasonAgainst_9 : decode cX5_reasonAgainst 9 = .ok (.aload_n 0, 1) := by decide +kernel
theorem dX5_reasonAgainst_10 : decode cX5_reasonAgainst 10 = .ok (.getfield 59, 3) := by decide +kernel
theorem dX5_reasonAgainst_13 : decode cX5_reasonAgainst 13 = .ok (.iload_n 2, 1) := by decide +kernel
theorem dX5_reasonAgainst_14 : decode cX5_reasonAgainst 14 = .ok (.invokevirtual 164, 3) := by decide +kernel
theorem dX5_reasonAgainst_17 : decode cX5_reasonAgainst 17 = .ok (.istore 4, 2) := by decide +kernel
theorem dX5_reasonAgainst_19 : decode cX5_reasonAgainst 19 = .ok (.iload_n 3, 1) := by decide +kernel
theorem dX5_reasonAgainst_20 : decode cX5_reasonAgainst 20 = .ok (.iload 4, 2) := by decide +kernel
theorem dX5_reasonAgainst_22 : decode cX5_reasonAgainst 22 = .ok (.if_icmp .ne 5, 3) := by decide +kernel
theorem dX5_reasonAgainst_25 : decode cX5_reasonAgainst 25 = .ok (.iconst 1, 1) := by decide +kernel
theorem dX5_reasonAgainst_26 : decode cX5_reasonAgainst 26 = .ok (.ireturn, 1) := by decide +kernel
theorem dX5_reasonAgainst_27 : decode cX5_reasonAgainst 27 = .ok (.aload_n 0, 1) := by decide +kernel
theorem dX5_reasonAgainst_28 : decode cX5_reasonAgainst 28 = .ok (.iload_n 1, 1) := by decide +kernel
theorem dX5_reasonAgainst_29 : decode cX5_reasonAgainst 29 = .ok (.iload_n 2, 1) := by decide +kernel
theorem dX5_reasonAgainst_30 : decode cX5_reasonAgainst 30 = .ok (.invokevirtual 155, 3) := by decide +kernel
theorem dX5_reasonAgainst_33 : decode cX5_reasonAgainst 33 = .ok (.iconst 4, 1) := by decide +kernel
theorem dX5_reasonAgainst_34 : decode cX5_reasonAgainst 34 = .ok (.if_icmp .ge 7, 3) := by decide +kernel
theorem dX5_reasonAgainst_37 : decode cX5_reasonAgainst 37 = .ok (.iconst 5, 1) := by decide +kernel
theorem dX5_reasonAgainst_38 : decode cX5_reasonAgainst 38 = .ok (.goto 5, 3) := by decide +kernel
theorem dX5_reasonAgainst_41 : decode cX5_reasonAgainst 41 = .ok (.bipush 6, 2) := by decide +kernel
theorem dX5_reasonAgainst_43 : decode cX5_reasonAgainst 43 = .ok (.istore 5, 2) := by decide +kernel
theorem dX5_reasonAgainst_45 : decode cX5_reasonAgainst 45 = .ok (.iconst 0, 1) := by decide +kernel
theorem dX5_reasonAgainst_46 : decode cX5_reasonAgainst 46 = .ok (.istore 6, 2) := by decide +kernel
theorem dX5_reasonAgainst_48 : decode cX5_reasonAgainst 48 = .ok (.iload 6, 2) := by decide +kernel
theorem dX5_reasonAgainst_50 : decode cX5_reasonAgainst 50 = .ok (.aload_n 0, 1) := by decide +kernel
theorem dX5_reasonAgainst_51 : decode cX5_reasonAgainst 51 = .ok (.getfield 87, 3) := by decide +kernel
theorem dX5_reasonAgainst_54 : decode cX5_reasonAgainst 54 = .ok (.if_icmp .ge 37, 3) := by decide +kernel
theorem dX5_reasonAgainst_57 : decode cX5_reasonAgainst 57 = .ok (.aload_n 0, 1) := by decide +kernel
theorem dX5_reasonAgainst_58 : decode cX5_reasonAgainst 58 = .ok (.getfield 59, 3) := by decide +kernel
theorem dX5_reasonAgainst_61 : decode cX5_reasonAgainst 61 = .ok (.iload 6, 2) := by decide +kernel
theorem dX5_reasonAgainst_63 : decode cX5_reasonAgainst 63 = .ok (.invokevirtual 164, 3) := by decide +kernel
theorem dX5_reasonAgainst_66 : decode cX5_reasonAgainst 66 = .ok (.iload_n 3, 1) := by decide +kernel
theorem dX5_reasonAgainst_67 : decode cX5_reasonAgainst 67 = .ok (.if_icmp .ne 18, 3) := by decide +kernel
theorem dX5_reasonAgainst_70 : decode cX5_reasonAgainst 70 = .ok (.iload 5, 2) := by decide +kernel
theorem dX5_reasonAgainst_72 : decode cX5_reasonAgainst 72 = .ok (.aload_n 0, 1) := by decide +kernel
theorem dX5_reasonAgainst_73 : decode cX5_reasonAgainst 73 = .ok (.iload 6, 2) := by decide +kernel
theorem dX5_reasonAgainst_75 : decode cX5_reasonAgainst 75 = .ok (.iload 4, 2) := by decide +kernel
theorem dX5_reasonAgainst_77 : decode cX5_reasonAgainst 77 = .ok (.invokevirtual 249, 3) := by decide +kernel
theorem dX5_reasonAgainst_80 : decode cX5_reasonAgainst 80 = .ok (.invokestatic 252, 3) := by decide +kernel
theorem dX5_reasonAgainst_83 : decode cX5_reasonAgainst 83 = .ok (.istore 5, 2) := by decide +kernel
theorem dX5_reasonAgainst_85 : decode cX5_reasonAgainst 85 = .ok (.iinc 6 1, 3) := by decide +kernel
theorem dX5_reasonAgainst_88 : decode cX5_reasonAgainst 88 = .ok (.goto (-40), 3) := by decide +kernel
theorem dX5_reasonAgainst_91 : decode cX5_reasonAgainst 91 = .ok (.iload 5, 2) := by decide +kernel
theorem dX5_reasonAgainst_93 : decode cX5_reasonAgainst 93 = .ok (.bipush 6, 2) := by decide +kernel
theorem dX5_reasonAgainst_95 : decode cX5_reasonAgainst 95 = .ok (.if_icmp .ne 7, 3) := by decide +kernel
theorem dX5_reasonAgainst_98 : decode cX5_reasonAgainst 98 = .ok (.iconst 0, 1) := by decide +kernel
theorem dX5_reasonAgainst_99 : decode cX5_reasonAgainst 99 = .ok (.goto 5, 3) := by decide +kernel
theorem dX5_reasonAgainst_102 : decode cX5_reasonAgainst 102 = .ok (.iload 5, 2) := by decide +kernel
theorem dX5_reasonAgainst_104 : decode cX5_reasonAgainst 104 = .ok (.ireturn, 1) := by decide +kernel
theorem dX5_reasonAgainstAny_0 : decode cX5_reasonAgainstAny 0 = .ok (.bipush 6, 2) := by decide +kernel
theorem dX5_reasonAgainstAny_2 : decode cX5_reasonAgainstAny 2 = .ok (.istore_n 3, 1) := by decide +kernel
theorem dX5_reasonAgainstAny_3 : decode cX5_reasonAgainstAny 3 = .ok (.iconst 0, 1) := by decide +kernel
theorem dX5_reasonAgainstAny_4 : decode cX5_reasonAgainstAny 4 = .ok (.istore 4, 2) := by decide +kernel
theorem dX5_reasonAgainstAny_6 : decode cX5_reasonAgainstAny 6 = .ok (.iload 4, 2) := by decide +kernel
theorem dX5_reasonAgainstAny_8 : decode cX5_reasonAgainstAny 8 = .ok (.aload_n 0, 1) := by decide +kernel
theorem dX5_reasonAgainstAny_9 : decode cX5_reasonAgainstAny 9 = .ok (.getfield 87, 3) := by decide +kernel
theorem dX5_reasonAgainstAny_12 : decode cX5_reasonAgainstAny 12 = .ok (.if_icmp .ge 34, 3) := by decide +kernel
theorem dX5_reasonAgainstAny_15 : decode cX5_reasonAgainstAny 15 = .ok (.aload_n 0, 1) := by decide +kernel
theorem dX5_reasonAgainstAny_16 : decode cX5_reasonAgainstAny 16 = .ok (.getfield 59, 3) := by decide +kernel
theorem dX5_reasonAgainstAny_19 : decode cX5_reasonAgainstAny 19 = .ok (.iload 4, 2) := by decide +kernel
theorem dX5_reasonAgainstAny_21 : decode cX5_reasonAgainstAny 21 = .ok (.invokevirtual 164, 3) := by decide +kernel
theorem dX5_reasonAgainstAny_24 : decode cX5_reasonAgainstAny 24 = .ok (.iload_n 2, 1) := by decide +kernel
theorem dX5_reasonAgainstAny_25 : decode cX5_reasonAgainstAny 25 = .ok (.if_icmp .ne 15, 3) := by decide +kernel
theorem dX5_reasonAgainstAny_28 : decode cX5_reasonAgainstAny 28 = .ok (.iload_n 3, 1) := by decide +kernel
theorem dX5_reasonAgainstAny_29 : decode cX5_reasonAgainstAny 29 = .ok (.aload_n 0, 1) := by decide +kernel
theorem dX5_reasonAgainstAny_30 : decode cX5_reasonAgainstAny 30 = .ok (.iload_n 1, 1) := by decide +kernel
theorem dX5_reasonAgainstAny_31 : decode cX5_reasonAgainstAny 31 = .ok (.iload 4, 2) := by decide +kernel
theorem dX5_reasonAgainstAny_33 : decode cX5_reasonAgainstAny 33 = .ok (.invokevirtual 257, 3) := by decide +kernel
theorem dX5_reasonAgainstAny_36 : decode cX5_reasonAgainstAny 36 = .ok (.invokestatic 252, 3) := by decide +kernel
theorem dX5_reasonAgainstAny_39 : decode cX5_reasonAgainstAny 39 = .ok (.istore_n 3, 1) := by decide +kernel
theorem dX5_reasonAgainstAny_40 : decode cX5_reasonAgainstAny 40 = .ok (.iinc 4 1, 3) := by decide +kernel
theorem dX5_reasonAgainstAny_43 : decode cX5_reasonAgainstAny 43 = .ok (.goto (-37), 3) := by decide +kernel
theorem dX5_reasonAgainstAny_46 : decode cX5_reasonAgainstAny 46 = .ok (.iload_n 3, 1) := by decide +kernel
theorem dX5_reasonAgainstAny_47 : decode cX5_reasonAgainstAny 47 = .ok (.ireturn, 1) := by decide +kernel
theorem dX5_reasonOfPair_0 : decode cX5_reasonOfPair 0 = .ok (.aload_n 0, 1) := by decide +kernel
theorem dX5_reasonOfPair_1 : decode cX5_reasonOfPair 1 = .ok (.getfield 43, 3) := by decide +kernel
theorem dX5_reasonOfPair_4 : decode cX5_reasonOfPair 4 = .ok (.iload_n 1, 1) := by decide +kernel
theorem dX5_reasonOfPair_5 : decode cX5_reasonOfPair 5 = .ok (.iload_n 2, 1) := by decide +kernel
theorem dX5_reasonOfPair_6 : decode cX5_reasonOfPair 6 = .ok (.invokevirtual 242, 3) := by decide +kernel
theorem dX5_reasonOfPair_9 : decode cX5_reasonOfPair 9 = .ok (.ifCond .eq 5, 3) := by decide +kernel
theorem dX5_reasonOfPair_12 : decode cX5_reasonOfPair 12 = .ok (.iconst 2, 1) := by decide +kernel
theorem dX5_reasonOfPair_13 : decode cX5_reasonOfPair 13 = .ok (.ireturn, 1) := by decide +kernel
theorem dX5_reasonOfPair_14 : decode cX5_reasonOfPair 14 = .ok (.aload_n 0, 1) := by decide +kernel
theorem dX5_reasonOfPair_15 : decode cX5_reasonOfPair 15 = .ok (.iload_n 1, 1) := by decide +kernel
theorem dX5_reasonOfPair_16 : decode cX5_reasonOfPair 16 = .ok (.iload_n 2, 1) := by decide +kernel
theorem dX5_reasonOfPair_17 : decode cX5_reasonOfPair 17 = .ok (.invokevirtual 260, 3) := by decide +kernel
theorem dX5_reasonOfPair_20 : decode cX5_reasonOfPair 20 = .ok (.ifCond .eq 5, 3) := by decide +kernel
theorem dX5_reasonOfPair_23 : decode cX5_reasonOfPair 23 = .ok (.iconst 3, 1) := by decide +kernel
theorem dX5_reasonOfPair_24 : decode cX5_reasonOfPair 24 = .ok (.ireturn, 1) := by decide +kernel
theorem dX5_reasonOfPair_25 : decode cX5_reasonOfPair 25 = .ok (.aload_n 0, 1) := by decide +kernel
theorem dX5_reasonOfPair_26 : decode cX5_reasonOfPair 26 = .ok (.iload_n 1, 1) := by decide +kernel
theorem dX5_reasonOfPair_27 : decode cX5_reasonOfPair 27 = .ok (.iload_n 2, 1) := by decide +kernel
theorem dX5_reasonOfPair_28 : decode cX5_reasonOfPair 28 = .ok (.invokevirtual 263, 3) := by decide +kernel
theorem dX5_reasonOfPair_31 : decode cX5_reasonOfPair 31 = .ok (.ifCond .eq 7, 3) := by decide +kernel
theorem dX5_reasonOfPair_34 : decode cX5_reasonOfPair 34 = .ok (.iconst 4, 1) := by decide +kernel
theorem dX5_reasonOfPair_35 : decode cX5_reasonOfPair 35 = .ok (.goto 5, 3) := by decide +kernel
theorem dX5_reasonOfPair_38 : decode cX5_reasonOfPair 38 = .ok (.bipush 6, 2) := by decide +kernel
theorem dX5_reasonOfPair_40 : decode cX5_reasonOfPair 40 = .ok (.ireturn, 1) := by decide +kernel
theorem dX5_mentionsOf_0 : decode cX5_mentionsOf 0 = .ok (.iconst 0, 1) := by decide +kernel
theorem dX5_mentionsOf_1 : decode cX5_mentionsOf 1 = .ok (.istore_n 2, 1) := by decide +kernel
theorem dX5_mentionsOf_2 : decode cX5_mentionsOf 2 = .ok (.iconst 0, 1) := by decide +kernel
theorem dX5_mentionsOf_3 : decode cX5_mentionsOf 3 = .ok (.istore_n 3, 1) := by decide +kernel
theorem dX5_mentionsOf_4 : decode cX5_mentionsOf 4 = .ok (.iload_n 3, 1) := by decide +kernel
theorem dX5_mentionsOf_5 : decode cX5_mentionsOf 5 = .ok (.aload_n 0, 1) := by decide +kernel
theorem dX5_mentionsOf_6 : decode cX5_mentionsOf 6 = .ok (.getfield 87, 3) := by decide +kernel
theorem dX5_mentionsOf_9 : decode cX5_mentionsOf 9 = .ok (.if_icmp .ge 24, 3) := by decide +kernel
theorem dX5_mentionsOf_12 : decode cX5_mentionsOf 12 = .ok (.aload_n 0, 1) := by decide +kernel
theorem dX5_mentionsOf_13 : decode cX5_mentionsOf 13 = .ok (.getfield 59, 3) := by decide +kernel
theorem dX5_mentionsOf_16 : decode cX5_mentionsOf 16 = .ok (.iload_n 3, 1) := by decide +kernel
theorem dX5_mentionsOf_17 : decode cX5_mentionsOf 17 = .ok (.invokevirtual 164, 3) := by decide +kernel
theorem dX5_mentionsOf_20 : decode cX5_mentionsOf 20 = .ok (.iload_n 1, 1) := by decide +kernel
theorem dX5_mentionsOf_21 : decode cX5_mentionsOf 21 = .ok (.if_icmp .ne 6, 3) := by decide +kernel
theorem dX5_mentionsOf_24 : decode cX5_mentionsOf 24 = .ok (.iinc 2 1, 3) := by decide +kernel
theorem dX5_mentionsOf_27 : decode cX5_mentionsOf 27 = .ok (.iinc 3 1, 3) := by decide +kernel
theorem dX5_mentionsOf_30 : decode cX5_mentionsOf 30 = .ok (.goto (-26), 3) := by decide +kernel
theorem dX5_mentionsOf_33 : decode cX5_mentionsOf 33 = .ok (.iload_n 2, 1) := by decide +kernel
theorem dX5_mentionsOf_34 : decode cX5_mentionsOf 34 = .ok (.ireturn, 1) := by decide +kernel
theorem dX5_layOutCareer_0 : decode cX5_layOutCareer 0 = .ok (.iconst 0, 1) := by decide +kernel
theorem dX5_layOutCareer_1 : decode cX5_layOutCareer 1 = .ok (.istore_n 2, 1) := by decide +kernel
theorem dX5_layOutCareer_2 : decode cX5_layOutCareer 2 = .ok (.iconst 0, 1) := by decide +kernel
theorem dX5_layOutCareer_3 : decode cX5_layOutCareer 3 = .ok (.istore_n 3, 1) := by decide +kernel
theorem dX5_layOutCareer_4 : decode cX5_layOutCareer 4 = .ok (.iload_n 3, 1) := by decide +kernel
theorem dX5_layOutCareer_5 : decode cX5_layOutCareer 5 = .ok (.aload_n 0, 1) := by decide +kernel
theorem dX5_layOutCareer_6 : decode cX5_layOutCareer 6 = .ok (.getfield 87, 3) := by decide +kernel
theorem dX5_layOutCareer_9 : decode cX5_layOutCareer 9 = .ok (.if_icmp .ge 42, 3) := by decide +kernel
theorem dX5_layOutCareer_12 : decode cX5_layOutCareer 12 = .ok (.aload_n 0, 1) := by decide +kernel
theorem dX5_layOutCareer_13 : decode cX5_layOutCareer 13 = .ok (.getfield 59, 3) := by decide +kernel
theorem dX5_layOutCareer_16 : decode cX5_layOutCareer 16 = .ok (.iload_n 3, 1) := by decide +kernel
theorem dX5_layOutCareer_17 : decode cX5_layOutCareer 17 = .ok (.invokevirtual 164, 3) := by decide +kernel
theorem dX5_layOutCareer_20 : decode cX5_layOutCareer 20 = .ok (.iload_n 1, 1) := by decide +kernel
theorem dX5_layOutCareer_21 : decode cX5_layOutCareer 21 = .ok (.if_icmp .ne 24, 3) := by decide +kernel
theorem dX5_layOutCareer_24 : decode cX5_layOutCareer 24 = .ok (.aload_n 0, 1) := by decide +kernel
theorem dX5_layOutCareer_25 : decode cX5_layOutCareer 25 = .ok (.getfield 24, 3) := by decide +kernel
theorem dX5_layOutCareer_28 : decode cX5_layOutCareer 28 = .ok (.iload_n 3, 1) := by decide +kernel
theorem dX5_layOutCareer_29 : decode cX5_layOutCareer 29 = .ok (.invokevirtual 105, 3) := by decide +kernel
theorem dX5_layOutCareer_32 : decode cX5_layOutCareer 32 = .ok (.iconst (-1), 1) := by decide +kernel
theorem dX5_layOutCareer_33 : decode cX5_layOutCareer 33 = .ok (.if_icmp .eq 12, 3) := by decide +kernel
theorem dX5_layOutCareer_36 : decode cX5_layOutCareer 36 = .ok (.aload_n 0, 1) := by decide +kernel
theorem dX5_layOutCareer_37 : decode cX5_layOutCareer 37 = .ok (.iload_n 3, 1) := by decide +kernel
theorem dX5_layOutCareer_38 : decode cX5_layOutCareer 38 = .ok (.iload_n 2, 1) := by decide +kernel
theorem dX5_layOutCareer_39 : decode cX5_layOutCareer 39 = .ok (.invokevirtual 266, 3) := by decide +kernel
theorem dX5_layOutCareer_42 : decode cX5_layOutCareer 42 = .ok (.iinc 2 1, 3) := by decide +kernel
theorem dX5_layOutCareer_45 : decode cX5_layOutCareer 45 = .ok (.iinc 3 1, 3) := by decide +kernel
theorem dX5_layOutCareer_48 : decode cX5_layOutCareer 48 = .ok (.goto (-44), 3) := by decide +kernel
theorem dX5_layOutCareer_51 : decode cX5_layOutCareer 51 = .ok (.iload_n 2, 1) := by decide +kernel
theorem dX5_layOutCareer_52 : decode cX5_layOutCareer 52 = .ok (.ireturn, 1) := by decide +kernel
theorem dX5_putInCareer_0 : decode cX5_putInCareer 0 = .ok (.iload_n 2, 1) := by decide +kernel
theorem dX5_putInCareer_1 : decode cX5_putInCareer 1 = .ok (.istore_n 3, 1) := by decide +kernel
theorem dX5_putInCareer_2 : decode cX5_putInCareer 2 = .ok (.iload_n 3, 1) := by decide +kernel
theorem dX5_putInCareer_3 : decode cX5_putInCareer 3 = .ok (.ifCond .le 55, 3) := by decide +kernel
theorem dX5_putInCareer_6 : decode cX5_putInCareer 6 = .ok (.aload_n 0, 1) := by decide +kernel
theorem dX5_putInCareer_7 : decode cX5_putInCareer 7 = .ok (.getfield 52, 3) := by decide +kernel
theorem dX5_putInCareer_10 : decode cX5_putInCareer 10 = .ok (.aload_n 0, 1) := by decide +kernel
theorem dX5_putInCareer_11 : decode cX5_putInCareer 11 = .ok (.getfield 70, 3) := by decide +kernel
theorem dX5_putInCareer_14 : decode cX5_putInCareer 14 = .ok (.iload_n 3, 1) := by decide +kernel
theorem dX5_putInCareer_15 : decode cX5_putInCareer 15 = .ok (.iconst 1, 1) := by decide +kernel
theorem dX5_putInCareer_16 : decode cX5_putInCareer 16 = .ok (.isub, 1) := by decide +kernel
theorem dX5_putInCareer_17 : decode cX5_putInCareer 17 = .ok (.invokevirtual 105, 3) := by decide +kernel
theorem dX5_putInCareer_20 : decode cX5_putInCareer 20 = .ok (.invokevirtual 146, 3) := by decide +kernel
theorem dX5_putInCareer_23 : decode cX5_putInCareer 23 = .ok (.aload_n 0, 1) := by decide +kernel
theorem dX5_putInCareer_24 : decode cX5_putInCareer 24 = .ok (.getfield 52, 3) := by decide +kernel
theorem dX5_putInCareer_27 : decode cX5_putInCareer 27 = .ok (.iload_n 1, 1) := by decide +kernel
theorem dX5_putInCareer_28 : decode cX5_putInCareer 28 = .ok (.invokevirtual 146, 3) := by decide +kernel
theorem dX5_putInCareer_31 : decode cX5_putInCareer 31 = .ok (.if_icmp .le 27, 3) := by decide +kernel
theorem dX5_putInCareer_34 : decode cX5_putInCareer 34 = .ok (.aload_n 0, 1) := by decide +kernel
theorem dX5_putInCareer_35 : decode cX5_putInCareer 35 = .ok (.getfield 70, 3) := by decide +kernel
theorem dX5_putInCareer_38 : decode cX5_putInCareer 38 = .ok (.iload_n 3, 1) := by decide +kernel
theorem dX5_putInCareer_39 : decode cX5_putInCareer 39 = .ok (.aload_n 0, 1) := by decide +kernel
theorem dX5_putInCareer_40 : decode cX5_putInCareer 40 = .ok (.getfield 70, 3) := by decide +kernel
theorem dX5_putInCareer_43 : decode cX5_putInCareer 43 = .ok (.iload_n 3, 1) := by decide +kernel
theorem dX5_putInCareer_44 : decode cX5_putInCareer 44 = .ok (.iconst 1, 1) := by decide +kernel
theorem dX5_putInCareer_45 : decode cX5_putInCareer 45 = .ok (.isub, 1) := by decide +kernel
theorem dX5_putInCareer_46 : decode cX5_putInCareer 46 = .ok (.invokevirtual 105, 3) := by decide +kernel
theorem dX5_putInCareer_49 : decode cX5_putInCareer 49 = .ok (.invokevirtual 76, 3) := by decide +kernel
theorem dX5_putInCareer_52 : decode cX5_putInCareer 52 = .ok (.iinc 3 (-1), 3) := by decide +kernel
theorem dX5_putInCareer_55 : decode cX5_putInCareer 55 = .ok (.goto (-53), 3) := by decide +kernel
theorem dX5_putInCareer_58 : decode cX5_putInCareer 58 = .ok (.aload_n 0, 1) := by decide +kernel
theorem dX5_putInCareer_59 : decode cX5_putInCareer 59 = .ok (.getfield 70, 3) := by decide +kernel
theorem dX5_putInCareer_62 : decode cX5_putInCareer 62 = .ok (.iload_n 3, 1) := by decide +kernel
theorem dX5_putInCareer_63 : decode cX5_putInCareer 63 = .ok (.iload_n 1, 1) := by decide +kernel
theorem dX5_putInCareer_64 : decode cX5_putInCareer 64 = .ok (.invokevirtual 76, 3) := by decide +kernel
theorem dX5_putInCareer_67 : decode cX5_putInCareer 67 = .ok (.return_, 1) := by decide +kernel
theorem dX5_rankAt_0 : decode cX5_rankAt 0 = .ok (.aload_n 0, 1) := by decide +kernel
theorem dX5_rankAt_1 : decode cX5_rankAt 1 = .ok (.getfield 30, 3) := by decide +kernel
theorem dX5_rankAt_4 : decode cX5_rankAt 4 = .ok (.aload_n 0, 1) := by decide +kernel
theorem dX5_rankAt_5 : decode cX5_rankAt 5 = .ok (.getfield 24, 3) := by decide +kernel
theorem dX5_rankAt_8 : decode cX5_rankAt 8 = .ok (.aload_n 0, 1) := by decide +kernel
theorem dX5_rankAt_9 : decode cX5_rankAt 9 = .ok (.getfield 70, 3) := by decide +kernel
theorem dX5_rankAt_12 : decode cX5_rankAt 12 = .ok (.iload_n 1, 1) := by decide +kernel
theorem dX5_rankAt_13 : decode cX5_rankAt 13 = .ok (.invokevirtual 105, 3) := by decide +kernel
theorem dX5_rankAt_16 : decode cX5_rankAt 16 = .ok (.invokevirtual 105, 3) := by decide +kernel
theorem dX5_rankAt_19 : decode cX5_rankAt 19 = .ok (.invokevirtual 105, 3) := by decide +kernel
theorem dX5_rankAt_22 : decode cX5_rankAt 22 = .ok (.ireturn, 1) := by decide +kernel
theorem dX5_stepsBetween_0 : decode cX5_stepsBetween 0 = .ok (.aload_n 0, 1) := by decide +kernel
theorem dX5_stepsBetween_1 : decode cX5_stepsBetween 1 = .ok (.getfield 73, 3) := by decide +kernel
theorem dX5_stepsBetween_4 : decode cX5_stepsBetween 4 = .ok (.iconst (-1), 1) := by decide +kernel
theorem dX5_stepsBetween_5 : decode cX5_stepsBetween 5 = .ok (.invokevirtual 269, 3) := by decide +kernel
theorem dX5_stepsBetween_8 : decode cX5_stepsBetween 8 = .ok (.aload_n 0, 1) := by decide +kernel
theorem dX5_stepsBetween_9 : decode cX5_stepsBetween 9 = .ok (.getfield 73, 3) := by decide +kernel
theorem dX5_stepsBetween_12 : decode cX5_stepsBetween 12 = .ok (.iload_n 1, 1) := by decide +kernel
theorem dX5_stepsBetween_13 : decode cX5_stepsBetween 13 = .ok (.iconst 0, 1) := by decide +kernel
theorem dX5_stepsBetween_14 : decode cX5_stepsBetween 14 = .ok (.invokevirtual 76, 3) := by decide +kernel
theorem dX5_stepsBetween_17 : decode cX5_stepsBetween 17 = .ok (.iconst 0, 1) := by decide +kernel
theorem dX5_stepsBetween_18 : decode cX5_stepsBetween 18 = .ok (.istore_n 3, 1) := by decide +kernel
theorem dX5_stepsBetween_19 : decode cX5_stepsBetween 19 = .ok (.iload_n 3, 1) := by decide +kernel
theorem dX5_stepsBetween_20 : decode cX5_stepsBetween 20 = .ok (.aload_n 0, 1) := by decide +kernel
theorem dX5_stepsBetween_21 : decode cX5_stepsBetween 21 = .ok (.getfield 87, 3) := by decide +kernel
theorem dX5_stepsBetween_24 : decode cX5_stepsBetween 24 = .ok (.if_icmp .ge 26, 3) := by decide +kernel
theorem dX5_stepsBetween_27 : decode cX5_stepsBetween 27 = .ok (.aload_n 0, 1) := by decide +kernel
theorem dX5_stepsBetween_28 : decode cX5_stepsBetween 28 = .ok (.getfield 73, 3) := by decide +kernel
theorem dX5_stepsBetween_31 : decode cX5_stepsBetween 31 = .ok (.iload_n 2, 1) := by decide +kernel
theorem dX5_stepsBetween_32 : decode cX5_stepsBetween 32 = .ok (.invokevirtual 105, 3) := by decide +kernel
theorem dX5_stepsBetween_35 : decode cX5_stepsBetween 35 = .ok (.iconst (-1), 1) := by decide +kernel
theorem dX5_stepsBetween_36 : decode cX5_stepsBetween 36 = .ok (.if_icmp .ne 14, 3) := by decide +kernel
theorem dX5_stepsBetween_39 : decode cX5_stepsBetween 39 = .ok (.aload_n 0, 1) := by decide +kernel
theorem dX5_stepsBetween_40 : decode cX5_stepsBetween 40 = .ok (.iload_n 3, 1) := by decide +kernel
theorem dX5_stepsBetween_41 : decode cX5_stepsBetween 41 = .ok (.invokevirtual 272, 3) := by decide +kernel
theorem dX5_stepsBetween_44 : decode cX5_stepsBetween 44 = .ok (.iinc 3 1, 3) := by decide +kernel
theorem dX5_stepsBetween_47 : decode cX5_stepsBetween 47 = .ok (.goto (-28), 3) := by decide +kernel
theorem dX5_stepsBetween_50 : decode cX5_stepsBetween 50 = .ok (.aload_n 0, 1) := by decide +kernel
theorem dX5_stepsBetween_51 : decode cX5_stepsBetween 51 = .ok (.getfield 73, 3) := by decide +kernel
theorem dX5_stepsBetween_54 : decode cX5_stepsBetween 54 = .ok (.iload_n 2, 1) := by decide +kernel
theorem dX5_stepsBetween_55 : decode cX5_stepsBetween 55 = .ok (.invokevirtual 105, 3) := by decide +kernel
theorem dX5_stepsBetween_58 : decode cX5_stepsBetween 58 = .ok (.ireturn, 1) := by decide +kernel
theorem dX5_stepOn_0 : decode cX5_stepOn 0 = .ok (.iconst 0, 1) := by decide +kernel
theorem dX5_stepOn_1 : decode cX5_stepOn 1 = .ok (.istore_n 2, 1) := by decide +kernel
theorem dX5_stepOn_2 : decode cX5_stepOn 2 = .ok (.iload_n 2, 1) := by decide +kernel
theorem dX5_stepOn_3 : decode cX5_stepOn 3 = .ok (.aload_n 0, 1) := by decide +kernel
theorem dX5_stepOn_4 : decode cX5_stepOn 4 = .ok (.getfield 87, 3) := by decide +kernel
theorem dX5_stepOn_7 : decode cX5_stepOn 7 = .ok (.if_icmp .ge 36, 3) := by decide +kernel
theorem dX5_stepOn_10 : decode cX5_stepOn 10 = .ok (.aload_n 0, 1) := by decide +kernel
theorem dX5_stepOn_11 : decode cX5_stepOn 11 = .ok (.getfield 73, 3) := by decide +kernel
theorem dX5_stepOn_14 : decode cX5_stepOn 14 = .ok (.aload_n 0, 1) := by decide +kernel
theorem dX5_stepOn_15 : decode cX5_stepOn 15 = .ok (.getfield 59, 3) := by decide +kernel
theorem dX5_stepOn_18 : decode cX5_stepOn 18 = .ok (.iload_n 2, 1) := by decide +kernel
theorem dX5_stepOn_19 : decode cX5_stepOn 19 = .ok (.invokevirtual 164, 3) := by decide +kernel
theorem dX5_stepOn_22 : decode cX5_stepOn 22 = .ok (.invokevirtual 105, 3) := by decide +kernel
theorem dX5_stepOn_25 : decode cX5_stepOn 25 = .ok (.iload_n 1, 1) := by decide +kernel
theorem dX5_stepOn_26 : decode cX5_stepOn 26 = .ok (.if_icmp .ne 11, 3) := by decide +kernel
theorem dX5_stepOn_29 : decode cX5_stepOn 29 = .ok (.aload_n 0, 1) := by decide +kernel
theorem dX5_stepOn_30 : decode cX5_stepOn 30 = .ok (.iload_n 2, 1) := by decide +kernel
theorem dX5_stepOn_31 : decode cX5_stepOn 31 = .ok (.iload_n 1, 1) := by decide +kernel
theorem dX5_stepOn_32 : decode cX5_stepOn 32 = .ok (.iconst 1, 1) := by decide +kernel
theorem dX5_stepOn_33 : decode cX5_stepOn 33 = .ok (.iadd, 1) := by decide +kernel
theorem dX5_stepOn_34 : decode cX5_stepOn 34 = .ok (.invokevirtual 275, 3) := by decide +kernel
theorem dX5_stepOn_37 : decode cX5_stepOn 37 = .ok (.iinc 2 1, 3) := by decide +kernel
theorem dX5_stepOn_40 : decode cX5_stepOn 40 = .ok (.goto (-38), 3) := by decide +kernel
theorem dX5_stepOn_43 : decode cX5_stepOn 43 = .ok (.return_, 1) := by decide +kernel
theorem dX5_reachKinOf_0 : decode cX5_reachKinOf 0 = .ok (.iconst 0, 1) := by decide +kernel
theorem dX5_reachKinOf_1 : decode cX5_reachKinOf 1 = .ok (.istore_n 3, 1) := by decide +kernel
theorem dX5_reachKinOf_2 : decode cX5_reachKinOf 2 = .ok (.iload_n 3, 1) := by decide +kernel
theorem dX5_reachKinOf_3 : decode cX5_reachKinOf 3 = .ok (.aload_n 0, 1) := by decide +kernel
theorem dX5_reachKinOf_4 : decode cX5_reachKinOf 4 = .ok (.getfield 87, 3) := by decide +kernel
theorem dX5_reachKinOf_7 : decode cX5_reachKinOf 7 = .ok (.if_icmp .ge 54, 3) := by decide +kernel
theorem dX5_reachKinOf_10 : decode cX5_reachKinOf 10 = .ok (.aload_n 0, 1) := by decide +kernel
theorem dX5_reachKinOf_11 : decode cX5_reachKinOf 11 = .ok (.getfield 59, 3) := by decide +kernel
theorem dX5_reachKinOf_14 : decode cX5_reachKinOf 14 = .ok (.iload_n 3, 1) := by decide +kernel
theorem dX5_reachKinOf_15 : decode cX5_reachKinOf 15 = .ok (.invokevirtual 164, 3) := by decide +kernel
theorem dX5_reachKinOf_18 : decode cX5_reachKinOf 18 = .ok (.istore 4, 2) := by decide +kernel
theorem dX5_reachKinOf_20 : decode cX5_reachKinOf 20 = .ok (.aload_n 0, 1) := by decide +kernel
theorem dX5_reachKinOf_21 : decode cX5_reachKinOf 21 = .ok (.getfield 46, 3) := by decide +kernel
theorem dX5_reachKinOf_24 : decode cX5_reachKinOf 24 = .ok (.iload_n 1, 1) := by decide +kernel
theorem dX5_reachKinOf_25 : decode cX5_reachKinOf 25 = .ok (.iload_n 3, 1) := by decide +kernel
theorem dX5_reachKinOf_26 : decode cX5_reachKinOf 26 = .ok (.invokevirtual 242, 3) := by decide +kernel
theorem dX5_reachKinOf_29 : decode cX5_reachKinOf 29 = .ok (.ifCond .eq 26, 3) := by decide +kernel
theorem dX5_reachKinOf_32 : decode cX5_reachKinOf 32 = .ok (.aload_n 0, 1) := by decide +kernel
theorem dX5_reachKinOf_33 : decode cX5_reachKinOf 33 = .ok (.getfield 73, 3) := by decide +kernel
theorem dX5_reachKinOf_36 : decode cX5_reachKinOf 36 = .ok (.iload 4, 2) := by decide +kernel
theorem dX5_reachKinOf_38 : decode cX5_reachKinOf 38 = .ok (.invokevirtual 105, 3) := by decide +kernel
theorem dX5_reachKinOf_41 : decode cX5_reachKinOf 41 = .ok (.iconst (-1), 1) := by decide +kernel
theorem dX5_reachKinOf_42 : decode cX5_reachKinOf 42 = .ok (.if_icmp .ne 13, 3) := by decide +kernel
theorem dX5_reachKinOf_45 : decode cX5_reachKinOf 45 = .ok (.aload_n 0, 1) := by decide +kernel
theorem dX5_reachKinOf_46 : decode cX5_reachKinOf 46 = .ok (.getfield 73, 3) := by decide +kernel
theorem dX5_reachKinOf_49 : decode cX5_reachKinOf 49 = .ok (.iload 4, 2) := by decide +kernel
theorem dX5_reachKinOf_51 : decode cX5_reachKinOf 51 = .ok (.iload_n 2, 1) := by decide +kernel
theorem dX5_reachKinOf_52 : decode cX5_reachKinOf 52 = .ok (.invokevirtual 76, 3) := by decide +kernel
theorem dX5_reachKinOf_55 : decode cX5_reachKinOf 55 = .ok (.iinc 3 1, 3) := by decide +kernel
theorem dX5_reachKinOf_58 : decode cX5_reachKinOf 58 = .ok (.goto (-56), 3) := by decide +kernel
theorem dX5_reachKinOf_61 : decode cX5_reachKinOf 61 = .ok (.return_, 1) := by decide +kernel
theorem dX5_layOutPairs_0 : decode cX5_layOutPairs 0 = .ok (.aload_n 0, 1) := by decide +kernel
theorem dX5_layOutPairs_1 : decode cX5_layOutPairs 1 = .ok (.getfield 66, 3) := by decide +kernel
theorem dX5_layOutPairs_4 : decode cX5_layOutPairs 4 = .ok (.invokevirtual 278, 3) := by decide +kernel
theorem dX5_layOutPairs_7 : decode cX5_layOutPairs 7 = .ok (.iconst 0, 1) := by decide +kernel
theorem dX5_layOutPairs_8 : decode cX5_layOutPairs 8 = .ok (.istore_n 2, 1) := by decide +kernel
theorem dX5_layOutPairs_9 : decode cX5_layOutPairs 9 = .ok (.iload_n 2, 1) := by decide +kernel
theorem dX5_layOutPairs_10 : decode cX5_layOutPairs 10 = .ok (.aload_n 0, 1) := by decide +kernel
theorem dX5_layOutPairs_11 : decode cX5_layOutPairs 11 = .ok (.getfield 87, 3) := by decide +kernel
theorem dX5_layOutPairs_14 : decode cX5_layOutPairs 14 = .ok (.if_icmp .ge 25, 3) := by decide +kernel
theorem dX5_layOutPairs_17 : decode cX5_layOutPairs 17 = .ok (.iload_n 1, 1) := by decide +kernel
theorem dX5_layOutPairs_18 : decode cX5_layOutPairs 18 = .ok (.iload_n 2, 1) := by decide +kernel
theorem dX5_layOutPairs_19 : decode cX5_layOutPairs 19 = .ok (.ishr, 1) := by decide +kernel
theorem dX5_layOutPairs_20 : decode cX5_layOutPairs 20 = .ok (.iconst 1, 1) := by decide +kernel
theorem dX5_layOutPairs_21 : decode cX5_layOutPairs 21 = .ok (.iand, 1) := by decide +kernel
theorem dX5_layOutPairs_22 : decode cX5_layOutPairs 22 = .ok (.ifCond .eq 11, 3) := by decide +kernel
theorem dX5_layOutPairs_25 : decode cX5_layOutPairs 25 = .ok (.aload_n 0, 1) := by decide +kernel
theorem dX5_layOutPairs_26 : decode cX5_layOutPairs 26 = .ok (.getfield 66, 3) := by decide +kernel
theorem dX5_layOutPairs_29 : decode cX5_layOutPairs 29 = .ok (.iload_n 2, 1) := by decide +kernel
theorem dX5_layOutPairs_30 : decode cX5_layOutPairs 30 = .ok (.invokevirtual 281, 3) := by decide +kernel
theorem dX5_layOutPairs_33 : decode cX5_layOutPairs 33 = .ok (.iinc 2 1, 3) := by decide +kernel
theorem dX5_layOutPairs_36 : decode cX5_layOutPairs 36 = .ok (.goto (-27), 3) := by decide +kernel
theorem dX5_layOutPairs_39 : decode cX5_layOutPairs 39 = .ok (.iconst 0, 1) := by decide +kernel
theorem dX5_layOutPairs_40 : decode cX5_layOutPairs 40 = .ok (.istore_n 2, 1) := by decide +kernel
theorem dX5_layOutPairs_41 : decode cX5_layOutPairs 41 = .ok (.iload_n 2, 1) := by decide +kernel
theorem dX5_layOutPairs_42 : decode cX5_layOutPairs 42 = .ok (.aload_n 0, 1) := by decide +kernel
theorem dX5_layOutPairs_43 : decode cX5_layOutPairs 43 = .ok (.getfield 66, 3) := by decide +kernel
theorem dX5_layOutPairs_46 : decode cX5_layOutPairs 46 = .ok (.invokevirtual 284, 3) := by decide +kernel
theorem dX5_layOutPairs_49 : decode cX5_layOutPairs 49 = .ok (.if_icmp .ge 63, 3) := by decide +kernel
theorem dX5_layOutPairs_52 : decode cX5_layOutPairs 52 = .ok (.iload_n 2, 1) := by decide +kernel
theorem dX5_layOutPairs_53 : decode cX5_layOutPairs 53 = .ok (.iconst 1, 1) := by decide +kernel
theorem dX5_layOutPairs_54 : decode cX5_layOutPairs 54 = .ok (.iadd, 1) := by decide +kernel
theorem dX5_layOutPairs_55 : decode cX5_layOutPairs 55 = .ok (.istore_n 3, 1) := by decide +kernel
theorem dX5_layOutPairs_56 : decode cX5_layOutPairs 56 = .ok (.iload_n 3, 1) := by decide +kernel
theorem dX5_layOutPairs_57 : decode cX5_layOutPairs 57 = .ok (.aload_n 0, 1) := by decide +kernel
theorem dX5_layOutPairs_58 : decode cX5_layOutPairs 58 = .ok (.getfield 66, 3) := by decide +kernel
theorem dX5_layOutPairs_61 : decode cX5_layOutPairs 61 = .ok (.invokevirtual 284, 3) := by decide +kernel
theorem dX5_layOutPairs_64 : decode cX5_layOutPairs 64 = .ok (.if_icmp .ge 42, 3) := by decide +kernel
theorem dX5_layOutPairs_67 : decode cX5_layOutPairs 67 = .ok (.aload_n 0, 1) := by decide +kernel
theorem dX5_layOutPairs_68 : decode cX5_layOutPairs 68 = .ok (.aload_n 0, 1) := by decide +kernel
theorem dX5_layOutPairs_69 : decode cX5_layOutPairs 69 = .ok (.getfield 66, 3) := by decide +kernel
theorem dX5_layOutPairs_72 : decode cX5_layOutPairs 72 = .ok (.iload_n 2, 1) := by decide +kernel
theorem dX5_layOutPairs_73 : decode cX5_layOutPairs 73 = .ok (.invokevirtual 287, 3) := by decide +kernel
theorem dX5_layOutPairs_76 : decode cX5_layOutPairs 76 = .ok (.aload_n 0, 1) := by decide +kernel
theorem dX5_layOutPairs_77 : decode cX5_layOutPairs 77 = .ok (.getfield 66, 3) := by decide +kernel
theorem dX5_layOutPairs_80 : decode cX5_layOutPairs 80 = .ok (.iload_n 3, 1) := by decide +kernel
theorem dX5_layOutPairs_81 : decode cX5_layOutPairs 81 = .ok (.invokevirtual 287, 3) := by decide +kernel
theorem dX5_layOutPairs_84 : decode cX5_layOutPairs 84 = .ok (.invokevirtual 290, 3) := by decide +kernel
theorem dX5_layOutPairs_87 : decode cX5_layOutPairs 87 = .ok (.istore 4, 2) := by decide +kernel
theorem dX5_layOutPairs_89 : decode cX5_layOutPairs 89 = .ok (.aload_n 0, 1) := by decide +kernel
theorem dX5_layOutPairs_90 : decode cX5_layOutPairs 90 = .ok (.getfield 66, 3) := by decide +kernel
theorem dX5_layOutPairs_93 : decode cX5_layOutPairs 93 = .ok (.iload_n 2, 1) := by decide +kernel
theorem dX5_layOutPairs_94 : decode cX5_layOutPairs 94 = .ok (.iload_n 3, 1) := by decide +kernel
theorem dX5_layOutPairs_95 : decode cX5_layOutPairs 95 = .ok (.iload 4, 2) := by decide +kernel
theorem dX5_layOutPairs_97 : decode cX5_layOutPairs 97 = .ok (.invokevirtual 293, 3) := by decide +kernel
theorem dX5_layOutPairs_100 : decode cX5_layOutPairs 100 = .ok (.iinc 3 1, 3) := by decide +kernel
theorem dX5_layOutPairs_103 : decode cX5_layOutPairs 103 = .ok (.goto (-47), 3) := by decide +kernel
theorem dX5_layOutPairs_106 : decode cX5_layOutPairs 106 = .ok (.iinc 2 1, 3) := by decide +kernel
theorem dX5_layOutPairs_109 : decode cX5_layOutPairs 109 = .ok (.goto (-68), 3) := by decide +kernel
theorem dX5_layOutPairs_112 : decode cX5_layOutPairs 112 = .ok (.return_, 1) := by decide +kernel
theorem dX5_worthOfPair_0 : decode cX5_worthOfPair 0 = .ok (.aload_n 0, 1) := by decide +kernel
theorem dX5_worthOfPair_1 : decode cX5_worthOfPair 1 = .ok (.getfield 43, 3) := by decide +kernel
theorem dX5_worthOfPair_4 : decode cX5_worthOfPair 4 = .ok (.iload_n 1, 1) := by decide +kernel
theorem dX5_worthOfPair_5 : decode cX5_worthOfPair 5 = .ok (.iload_n 2, 1) := by decide +kernel
theorem dX5_worthOfPair_6 : decode cX5_worthOfPair 6 = .ok (.invokevirtual 242, 3) := by decide +kernel
theorem dX5_worthOfPair_9 : decode cX5_worthOfPair 9 = .ok (.ifCond .ne 12, 3) := by decide +kernel
theorem dX5_worthOfPair_12 : decode cX5_worthOfPair 12 = .ok (.aload_n 0, 1) := by decide +kernel
theorem dX5_worthOfPair_13 : decode cX5_worthOfPair 13 = .ok (.iload_n 1, 1) := by decide +kernel
theorem dX5_worthOfPair_14 : decode cX5_worthOfPair 14 = .ok (.iload_n 2, 1) := by decide +kernel
theorem dX5_worthOfPair_15 : decode cX5_worthOfPair 15 = .ok (.invokevirtual 260, 3) := by decide +kernel
theorem dX5_worthOfPair_18 : decode cX5_worthOfPair 18 = .ok (.ifCond .eq 7, 3) := by decide +kernel
theorem dX5_worthOfPair_21 : decode cX5_worthOfPair 21 = .ok (.ldc_w 296, 3) := by decide +kernel
theorem dX5_worthOfPair_24 : decode cX5_worthOfPair 24 = .ok (.ireturn, 1) := by decide +kernel
theorem dX5_worthOfPair_25 : decode cX5_worthOfPair 25 = .ok (.aload_n 0, 1) := by decide +kernel
theorem dX5_worthOfPair_26 : decode cX5_worthOfPair 26 = .ok (.iload_n 1, 1) := by decide +kernel
theorem dX5_worthOfPair_27 : decode cX5_worthOfPair 27 = .ok (.iload_n 2, 1) := by decide +kernel
theorem dX5_worthOfPair_28 : decode cX5_worthOfPair 28 = .ok (.invokevirtual 155, 3) := by decide +kernel
theorem dX5_worthOfPair_31 : decode cX5_worthOfPair 31 = .ok (.iconst 3, 1) := by decide +kernel
theorem dX5_worthOfPair_32 : decode cX5_worthOfPair 32 = .ok (.isub, 1) := by decide +kernel
theorem dX5_worthOfPair_33 : decode cX5_worthOfPair 33 = .ok (.ireturn, 1) := by decide +kernel
