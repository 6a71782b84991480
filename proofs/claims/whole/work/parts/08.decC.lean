theorem dX6_init_0 : decode cX6_init 0 = .ok (.aload_n 0, 1) := by decide +kernel
theorem dX6_init_1 : decode cX6_init 1 = .ok (.invokespecial 1, 3) := by decide +kernel
theorem dX6_init_4 : decode cX6_init 4 = .ok (.aload_n 0, 1) := by decide +kernel
theorem dX6_init_5 : decode cX6_init 5 = .ok (.bipush 16, 2) := by decide +kernel
theorem dX6_init_7 : decode cX6_init 7 = .ok (.newarray .int, 2) := by decide +kernel
theorem dX6_init_9 : decode cX6_init 9 = .ok (.putfield 7, 3) := by decide +kernel
theorem dX6_init_12 : decode cX6_init 12 = .ok (.aload_n 0, 1) := by decide +kernel
theorem dX6_init_13 : decode cX6_init 13 = .ok (.bipush 16, 2) := by decide +kernel
theorem dX6_init_15 : decode cX6_init 15 = .ok (.newarray .int, 2) := by decide +kernel
theorem dX6_init_17 : decode cX6_init 17 = .ok (.putfield 13, 3) := by decide +kernel
theorem dX6_init_20 : decode cX6_init 20 = .ok (.aload_n 0, 1) := by decide +kernel
theorem dX6_init_21 : decode cX6_init 21 = .ok (.bipush 16, 2) := by decide +kernel
theorem dX6_init_23 : decode cX6_init 23 = .ok (.newarray .int, 2) := by decide +kernel
theorem dX6_init_25 : decode cX6_init 25 = .ok (.putfield 16, 3) := by decide +kernel
theorem dX6_init_28 : decode cX6_init 28 = .ok (.aload_n 0, 1) := by decide +kernel
theorem dX6_init_29 : decode cX6_init 29 = .ok (.bipush 16, 2) := by decide +kernel
theorem dX6_init_31 : decode cX6_init 31 = .ok (.newarray .int, 2) := by decide +kernel
theorem dX6_init_33 : decode cX6_init 33 = .ok (.putfield 19, 3) := by decide +kernel
theorem dX6_init_36 : decode cX6_init 36 = .ok (.aload_n 0, 1) := by decide +kernel
theorem dX6_init_37 : decode cX6_init 37 = .ok (.bipush 8, 2) := by decide +kernel
theorem dX6_init_39 : decode cX6_init 39 = .ok (.newarray .int, 2) := by decide +kernel
theorem dX6_init_41 : decode cX6_init 41 = .ok (.putfield 22, 3) := by decide +kernel
theorem dX6_init_44 : decode cX6_init 44 = .ok (.aload_n 0, 1) := by decide +kernel
theorem dX6_init_45 : decode cX6_init 45 = .ok (.bipush 8, 2) := by decide +kernel
theorem dX6_init_47 : decode cX6_init 47 = .ok (.newarray .int, 2) := by decide +kernel
theorem dX6_init_49 : decode cX6_init 49 = .ok (.putfield 25, 3) := by decide +kernel
theorem dX6_init_52 : decode cX6_init 52 = .ok (.aload_n 0, 1) := by decide +kernel
theorem dX6_init_53 : decode cX6_init 53 = .ok (.bipush 16, 2) := by decide +kernel
theorem dX6_init_55 : decode cX6_init 55 = .ok (.newarray .int, 2) := by decide +kernel
theorem dX6_init_57 : decode cX6_init 57 = .ok (.putfield 28, 3) := by decide +kernel
theorem dX6_init_60 : decode cX6_init 60 = .ok (.aload_n 0, 1) := by decide +kernel
theorem dX6_init_61 : decode cX6_init 61 = .ok (.bipush 16, 2) := by decide +kernel
theorem dX6_init_63 : decode cX6_init 63 = .ok (.newarray .int, 2) := by decide +kernel
theorem dX6_init_65 : decode cX6_init 65 = .ok (.putfield 31, 3) := by decide +kernel
theorem dX6_init_68 : decode cX6_init 68 = .ok (.aload_n 0, 1) := by decide +kernel
theorem dX6_init_69 : decode cX6_init 69 = .ok (.bipush 16, 2) := by decide +kernel
theorem dX6_init_71 : decode cX6_init 71 = .ok (.newarray .int, 2) := by decide +kernel
theorem dX6_init_73 : decode cX6_init 73 = .ok (.putfield 34, 3) := by decide +kernel
theorem dX6_init_76 : decode cX6_init 76 = .ok (.aload_n 0, 1) := by decide +kernel
theorem dX6_init_77 : decode cX6_init 77 = .ok (.bipush 16, 2) := by decide +kernel
theorem dX6_init_79 : decode cX6_init 79 = .ok (.newarray .int, 2) := by decide +kernel
theorem dX6_init_81 : decode cX6_init 81 = .ok (.putfield 37, 3) := by decide +kernel
theorem dX6_init_84 : decode cX6_init 84 = .ok (.aload_n 0, 1) := by decide +kernel
theorem dX6_init_85 : decode cX6_init 85 = .ok (.bipush 16, 2) := by decide +kernel
theorem dX6_init_87 : decode cX6_init 87 = .ok (.newarray .int, 2) := by decide +kernel
theorem dX6_init_89 : decode cX6_init 89 = .ok (.putfield 40, 3) := by decide +kernel
theorem dX6_init_92 : decode cX6_init 92 = .ok (.aload_n 0, 1) := by decide +kernel
theorem dX6_init_93 : decode cX6_init 93 = .ok (.bipush 16, 2) := by decide +kernel
theorem dX6_init_95 : decode cX6_init 95 = .ok (.newarray .int, 2) := by decide +kernel
theorem dX6_init_97 : decode cX6_init 97 = .ok (.putfield 43, 3) := by decide +kernel
theorem dX6_init_100 : decode cX6_init 100 = .ok (.aload_n 0, 1) := by decide +kernel
theorem dX6_init_101 : decode cX6_init 101 = .ok (.bipush 16, 2) := by decide +kernel
theorem dX6_init_103 : decode cX6_init 103 = .ok (.newarray .int, 2) := by decide +kernel
theorem dX6_init_105 : decode cX6_init 105 = .ok (.putfield 46, 3) := by decide +kernel
theorem dX6_init_108 : decode cX6_init 108 = .ok (.aload_n 0, 1) := by decide +kernel
theorem dX6_init_109 : decode cX6_init 109 = .ok (.bipush 16, 2) := by decide +kernel
theorem dX6_init_111 : decode cX6_init 111 = .ok (.newarray .int, 2) := by decide +kernel
theorem dX6_init_113 : decode cX6_init 113 = .ok (.putfield 49, 3) := by decide +kernel
theorem dX6_init_116 : decode cX6_init 116 = .ok (.aload_n 0, 1) := by decide +kernel
theorem dX6_init_117 : decode cX6_init 117 = .ok (.bipush 16, 2) := by decide +kernel
theorem dX6_init_119 : decode cX6_init 119 = .ok (.newarray .int, 2) := by decide +kernel
theorem dX6_init_121 : decode cX6_init 121 = .ok (.putfield 52, 3) := by decide +kernel
theorem dX6_init_124 : decode cX6_init 124 = .ok (.aload_n 0, 1) := by decide +kernel
theorem dX6_init_125 : decode cX6_init 125 = .ok (.bipush 16, 2) := by decide +kernel
theorem dX6_init_127 : decode cX6_init 127 = .ok (.newarray .int, 2) := by decide +kernel
theorem dX6_init_129 : decode cX6_init 129 = .ok (.putfield 55, 3) := by decide +kernel
theorem dX6_init_132 : decode cX6_init 132 = .ok (.aload_n 0, 1) := by decide +kernel
theorem dX6_init_133 : decode cX6_init 133 = .ok (.bipush 40, 2) := by decide +kernel
theorem dX6_init_135 : decode cX6_init 135 = .ok (.newarray .int, 2) := by decide +kernel
theorem dX6_init_137 : decode cX6_init 137 = .ok (.putfield 58, 3) := by decide +kernel
theorem dX6_init_140 : decode cX6_init 140 = .ok (.aload_n 0, 1) := by decide +kernel
theorem dX6_init_141 : decode cX6_init 141 = .ok (.bipush 40, 2) := by decide +kernel
theorem dX6_init_143 : decode cX6_init 143 = .ok (.newarray .int, 2) := by decide +kernel
theorem dX6_init_145 : decode cX6_init 145 = .ok (.putfield 61, 3) := by decide +kernel
theorem dX6_init_148 : decode cX6_init 148 = .ok (.aload_n 0, 1) := by decide +kernel
theorem dX6_init_149 : decode cX6_init 149 = .ok (.bipush 40, 2) := by decide +kernel
theorem dX6_init_151 : decode cX6_init 151 = .ok (.newarray .int, 2) := by decide +kernel
theorem dX6_init_153 : decode cX6_init 153 = .ok (.putfield 64, 3) := by decide +kernel
theorem dX6_init_156 : decode cX6_init 156 = .ok (.aload_n 0, 1) := by decide +kernel
theorem dX6_init_157 : decode cX6_init 157 = .ok (.bipush 16, 2) := by decide +kernel
theorem dX6_init_159 : decode cX6_init 159 = .ok (.newarray .int, 2) := by decide +kernel
theorem dX6_init_161 : decode cX6_init 161 = .ok (.putfield 67, 3) := by decide +kernel
theorem dX6_init_164 : decode cX6_init 164 = .ok (.aload_n 0, 1) := by decide +kernel
theorem dX6_init_165 : decode cX6_init 165 = .ok (.bipush 40, 2) := by decide +kernel
theorem dX6_init_167 : decode cX6_init 167 = .ok (.newarray .int, 2) := by decide +kernel
theorem dX6_init_169 : decode cX6_init 169 = .ok (.putfield 70, 3) := by decide +kernel
theorem dX6_init_172 : decode cX6_init 172 = .ok (.aload_n 0, 1) := by decide +kernel
theorem dX6_init_173 : decode cX6_init 173 = .ok (.bipush 40, 2) := by decide +kernel
theorem dX6_init_175 : decode cX6_init 175 = .ok (.newarray .int, 2) := by decide +kernel
theorem dX6_init_177 : decode cX6_init 177 = .ok (.putfield 73, 3) := by decide +kernel
theorem dX6_init_180 : decode cX6_init 180 = .ok (.aload_n 0, 1) := by decide +kernel
theorem dX6_init_181 : decode cX6_init 181 = .ok (.bipush 6, 2) := by decide +kernel
theorem dX6_init_183 : decode cX6_init 183 = .ok (.newarray .int, 2) := by decide +kernel
theorem dX6_init_185 : decode cX6_init 185 = .ok (.putfield 76, 3) := by decide +kernel
theorem dX6_init_188 : decode cX6_init 188 = .ok (.aload_n 0, 1) := by decide +kernel
theorem dX6_init_189 : decode cX6_init 189 = .ok (.bipush 64, 2) := by decide +kernel
theorem dX6_init_191 : decode cX6_init 191 = .ok (.newarray .int, 2) := by decide +kernel
theorem dX6_init_193 : decode cX6_init 193 = .ok (.putfield 79, 3) := by decide +kernel
theorem dX6_init_196 : decode cX6_init 196 = .ok (.iconst 0, 1) := by decide +kernel
theorem dX6_init_197 : decode cX6_init 197 = .ok (.istore_n 1, 1) := by decide +kernel
theorem dX6_init_198 : decode cX6_init 198 = .ok (.iload_n 1, 1) := by decide +kernel
theorem dX6_init_199 : decode cX6_init 199 = .ok (.bipush 8, 2) := by decide +kernel
theorem dX6_init_201 : decode cX6_init 201 = .ok (.if_icmp .ge 16, 3) := by decide +kernel
theorem dX6_init_204 : decode cX6_init 204 = .ok (.aload_n 0, 1) := by decide +kernel
theorem dX6_init_205 : decode cX6_init 205 = .ok (.getfield 22, 3) := by decide +kernel
theorem dX6_init_208 : decode cX6_init 208 = .ok (.iload_n 1, 1) := by decide +kernel
theorem dX6_init_209 : decode cX6_init 209 = .ok (.iload_n 1, 1) := by decide +kernel
theorem dX6_init_210 : decode cX6_init 210 = .ok (.iastore, 1) := by decide +kernel
theorem dX6_init_211 : decode cX6_init 211 = .ok (.iinc 1 1, 3) := by decide +kernel
theorem dX6_init_214 : decode cX6_init 214 = .ok (.goto (-16), 3) := by decide +kernel
theorem dX6_init_217 : decode cX6_init 217 = .ok (.return_, 1) := by decide +kernel
theorem dX6_thrown_0 : decode cX6_thrown 0 = .ok (.aload_n 0, 1) := by decide +kernel
theorem dX6_thrown_1 : decode cX6_thrown 1 = .ok (.getfield 82, 3) := by decide +kernel
theorem dX6_thrown_4 : decode cX6_thrown 4 = .ok (.ireturn, 1) := by decide +kernel
theorem dX6_isIn_0 : decode cX6_isIn 0 = .ok (.iload_n 0, 1) := by decide +kernel
theorem dX6_isIn_1 : decode cX6_isIn 1 = .ok (.iload_n 1, 1) := by decide +kernel
theorem dX6_isIn_2 : decode cX6_isIn 2 = .ok (.if_icmp .lt 12, 3) := by decide +kernel
theorem dX6_isIn_5 : decode cX6_isIn 5 = .ok (.iload_n 0, 1) := by decide +kernel
theorem dX6_isIn_6 : decode cX6_isIn 6 = .ok (.iload_n 2, 1) := by decide +kernel
theorem dX6_isIn_7 : decode cX6_isIn 7 = .ok (.if_icmp .gt 7, 3) := by decide +kernel
theorem dX6_isIn_10 : decode cX6_isIn 10 = .ok (.iconst 1, 1) := by decide +kernel
theorem dX6_isIn_11 : decode cX6_isIn 11 = .ok (.goto 4, 3) := by decide +kernel
theorem dX6_isIn_14 : decode cX6_isIn 14 = .ok (.iconst 0, 1) := by decide +kernel
theorem dX6_isIn_15 : decode cX6_isIn 15 = .ok (.ireturn, 1) := by decide +kernel
theorem dX6_isMention_0 : decode cX6_isMention 0 = .ok (.iload_n 1, 1) := by decide +kernel
theorem dX6_isMention_1 : decode cX6_isMention 1 = .ok (.iconst 0, 1) := by decide +kernel
theorem dX6_isMention_2 : decode cX6_isMention 2 = .ok (.aload_n 0, 1) := by decide +kernel
theorem dX6_isMention_3 : decode cX6_isMention 3 = .ok (.getfield 86, 3) := by decide +kernel
theorem dX6_isMention_6 : decode cX6_isMention 6 = .ok (.iconst 1, 1) := by decide +kernel
theorem dX6_isMention_7 : decode cX6_isMention 7 = .ok (.isub, 1) := by decide +kernel
theorem dX6_isMention_8 : decode cX6_isMention 8 = .ok (.invokestatic 89, 3) := by decide +kernel
theorem dX6_isMention_11 : decode cX6_isMention 11 = .ok (.ireturn, 1) := by decide +kernel
theorem dX6_isPost_0 : decode cX6_isPost 0 = .ok (.iload_n 0, 1) := by decide +kernel
theorem dX6_isPost_1 : decode cX6_isPost 1 = .ok (.iconst 0, 1) := by decide +kernel
theorem dX6_isPost_2 : decode cX6_isPost 2 = .ok (.bipush 7, 2) := by decide +kernel
theorem dX6_isPost_4 : decode cX6_isPost 4 = .ok (.invokestatic 89, 3) := by decide +kernel
theorem dX6_isPost_7 : decode cX6_isPost 7 = .ok (.ireturn, 1) := by decide +kernel
theorem dX6_isPerson_0 : decode cX6_isPerson 0 = .ok (.iload_n 1, 1) := by decide +kernel
theorem dX6_isPerson_1 : decode cX6_isPerson 1 = .ok (.iconst 0, 1) := by decide +kernel
theorem dX6_isPerson_2 : decode cX6_isPerson 2 = .ok (.aload_n 0, 1) := by decide +kernel
theorem dX6_isPerson_3 : decode cX6_isPerson 3 = .ok (.getfield 93, 3) := by decide +kernel
theorem dX6_isPerson_6 : decode cX6_isPerson 6 = .ok (.iconst 1, 1) := by decide +kernel
theorem dX6_isPerson_7 : decode cX6_isPerson 7 = .ok (.isub, 1) := by decide +kernel
theorem dX6_isPerson_8 : decode cX6_isPerson 8 = .ok (.invokestatic 89, 3) := by decide +kernel
theorem dX6_isPerson_11 : decode cX6_isPerson 11 = .ok (.ireturn, 1) := by decide +kernel
theorem dX6_has_0 : decode cX6_has 0 = .ok (.iload_n 0, 1) := by decide +kernel
theorem dX6_has_1 : decode cX6_has 1 = .ok (.iload_n 1, 1) := by decide +kernel
theorem dX6_has_2 : decode cX6_has 2 = .ok (.ishr, 1) := by decide +kernel
theorem dX6_has_3 : decode cX6_has 3 = .ok (.iconst 1, 1) := by decide +kernel
theorem dX6_has_4 : decode cX6_has 4 = .ok (.iand, 1) := by decide +kernel
theorem dX6_has_5 : decode cX6_has 5 = .ok (.iconst 1, 1) := by decide +kernel
theorem dX6_has_6 : decode cX6_has 6 = .ok (.if_icmp .ne 7, 3) := by decide +kernel
theorem dX6_has_9 : decode cX6_has 9 = .ok (.iconst 1, 1) := by decide +kernel
theorem dX6_has_10 : decode cX6_has 10 = .ok (.goto 4, 3) := by decide +kernel
theorem dX6_has_13 : decode cX6_has 13 = .ok (.iconst 0, 1) := by decide +kernel
theorem dX6_has_14 : decode cX6_has 14 = .ok (.ireturn, 1) := by decide +kernel
theorem dX6_adds_0 : decode cX6_adds 0 = .ok (.aload_n 0, 1) := by decide +kernel
theorem dX6_adds_1 : decode cX6_adds 1 = .ok (.getfield 70, 3) := by decide +kernel
theorem dX6_adds_4 : decode cX6_adds 4 = .ok (.aload_n 0, 1) := by decide +kernel
theorem dX6_adds_5 : decode cX6_adds 5 = .ok (.getfield 93, 3) := by decide +kernel
theorem dX6_adds_8 : decode cX6_adds 8 = .ok (.aload_n 0, 1) := by decide +kernel
theorem dX6_adds_9 : decode cX6_adds 9 = .ok (.getfield 93, 3) := by decide +kernel
theorem dX6_adds_12 : decode cX6_adds 12 = .ok (.iastore, 1) := by decide +kernel
theorem dX6_adds_13 : decode cX6_adds 13 = .ok (.aload_n 0, 1) := by decide +kernel
theorem dX6_adds_14 : decode cX6_adds 14 = .ok (.getfield 67, 3) := by decide +kernel
theorem dX6_adds_17 : decode cX6_adds 17 = .ok (.iload_n 1, 1) := by decide +kernel
theorem dX6_adds_18 : decode cX6_adds 18 = .ok (.aload_n 0, 1) := by decide +kernel
theorem dX6_adds_19 : decode cX6_adds 19 = .ok (.getfield 93, 3) := by decide +kernel
theorem dX6_adds_22 : decode cX6_adds 22 = .ok (.iastore, 1) := by decide +kernel
theorem dX6_adds_23 : decode cX6_adds 23 = .ok (.aload_n 0, 1) := by decide +kernel
theorem dX6_adds_24 : decode cX6_adds 24 = .ok (.dup, 1) := by decide +kernel
theorem dX6_adds_25 : decode cX6_adds 25 = .ok (.getfield 93, 3) := by decide +kernel
theorem dX6_adds_28 : decode cX6_adds 28 = .ok (.iconst 1, 1) := by decide +kernel
theorem dX6_adds_29 : decode cX6_adds 29 = .ok (.iadd, 1) := by decide +kernel
theorem dX6_adds_30 : decode cX6_adds 30 = .ok (.putfield 93, 3) := by decide +kernel
theorem dX6_adds_33 : decode cX6_adds 33 = .ok (.aload_n 0, 1) := by decide +kernel
theorem dX6_adds_34 : decode cX6_adds 34 = .ok (.getfield 93, 3) := by decide +kernel
theorem dX6_adds_37 : decode cX6_adds 37 = .ok (.iconst 1, 1) := by decide +kernel
theorem dX6_adds_38 : decode cX6_adds 38 = .ok (.isub, 1) := by decide +kernel
theorem dX6_adds_39 : decode cX6_adds 39 = .ok (.ireturn, 1) := by decide +kernel
theorem dX6_mention_0 : decode cX6_mention 0 = .ok (.iload_n 1, 1) := by decide +kernel
theorem dX6_mention_1 : decode cX6_mention 1 = .ok (.iconst 0, 1) := by decide +kernel
theorem dX6_mention_2 : decode cX6_mention 2 = .ok (.bipush 9, 2) := by decide +kernel
theorem dX6_mention_4 : decode cX6_mention 4 = .ok (.invokestatic 89, 3) := by decide +kernel
theorem dX6_mention_7 : decode cX6_mention 7 = .ok (.ifCond .eq 26, 3) := by decide +kernel
theorem dX6_mention_10 : decode cX6_mention 10 = .ok (.iload_n 2, 1) := by decide +kernel
theorem dX6_mention_11 : decode cX6_mention 11 = .ok (.iconst (-1), 1) := by decide +kernel
theorem dX6_mention_12 : decode cX6_mention 12 = .ok (.bipush 9, 2) := by decide +kernel
theorem dX6_mention_14 : decode cX6_mention 14 = .ok (.invokestatic 89, 3) := by decide +kernel
theorem dX6_mention_17 : decode cX6_mention 17 = .ok (.ifCond .eq 16, 3) := by decide +kernel
theorem dX6_mention_20 : decode cX6_mention 20 = .ok (.iload_n 3, 1) := by decide +kernel
theorem dX6_mention_21 : decode cX6_mention 21 = .ok (.iconst 0, 1) := by decide +kernel
theorem dX6_mention_22 : decode cX6_mention 22 = .ok (.iconst 5, 1) := by decide +kernel
theorem dX6_mention_23 : decode cX6_mention 23 = .ok (.invokestatic 89, 3) := by decide +kernel
theorem dX6_mention_26 : decode cX6_mention 26 = .ok (.ifCond .eq 7, 3) := by decide +kernel
theorem dX6_mention_29 : decode cX6_mention 29 = .ok (.iconst 1, 1) := by decide +kernel
theorem dX6_mention_30 : decode cX6_mention 30 = .ok (.goto 4, 3) := by decide +kernel
theorem dX6_mention_33 : decode cX6_mention 33 = .ok (.iconst 0, 1) := by decide +kernel
theorem dX6_mention_34 : decode cX6_mention 34 = .ok (.istore 5, 2) := by decide +kernel
theorem dX6_mention_36 : decode cX6_mention 36 = .ok (.aload_n 0, 1) := by decide +kernel
theorem dX6_mention_37 : decode cX6_mention 37 = .ok (.iload 4, 2) := by decide +kernel
theorem dX6_mention_39 : decode cX6_mention 39 = .ok (.iconst (-1), 1) := by decide +kernel
theorem dX6_mention_40 : decode cX6_mention 40 = .ok (.if_icmp .eq 15, 3) := by decide +kernel
theorem dX6_mention_43 : decode cX6_mention 43 = .ok (.iload 4, 2) := by decide +kernel
theorem dX6_mention_45 : decode cX6_mention 45 = .ok (.invokestatic 96, 3) := by decide +kernel
theorem dX6_mention_48 : decode cX6_mention 48 = .ok (.ifCond .ne 7, 3) := by decide +kernel
theorem dX6_mention_51 : decode cX6_mention 51 = .ok (.iconst 1, 1) := by decide +kernel
theorem dX6_mention_52 : decode cX6_mention 52 = .ok (.goto 35, 3) := by decide +kernel
theorem dX6_mention_55 : decode cX6_mention 55 = .ok (.iload 5, 2) := by decide +kernel
theorem dX6_mention_57 : decode cX6_mention 57 = .ok (.ifCond .ne 7, 3) := by decide +kernel
theorem dX6_mention_60 : decode cX6_mention 60 = .ok (.iconst 2, 1) := by decide +kernel
theorem dX6_mention_61 : decode cX6_mention 61 = .ok (.goto 26, 3) := by decide +kernel
theorem dX6_mention_64 : decode cX6_mention 64 = .ok (.aload_n 0, 1) := by decide +kernel
theorem dX6_mention_65 : decode cX6_mention 65 = .ok (.getfield 86, 3) := by decide +kernel
theorem dX6_mention_68 : decode cX6_mention 68 = .ok (.bipush 16, 2) := by decide +kernel
theorem dX6_mention_70 : decode cX6_mention 70 = .ok (.if_icmp .eq 12, 3) := by decide +kernel
theorem dX6_mention_73 : decode cX6_mention 73 = .ok (.aload_n 0, 1) := by decide +kernel
theorem dX6_mention_74 : decode cX6_mention 74 = .ok (.getfield 93, 3) := by decide +kernel
theorem dX6_mention_77 : decode cX6_mention 77 = .ok (.bipush 40, 2) := by decide +kernel
theorem dX6_mention_79 : decode cX6_mention 79 = .ok (.if_icmp .ne 7, 3) := by decide +kernel
theorem dX6_mention_82 : decode cX6_mention 82 = .ok (.iconst 3, 1) := by decide +kernel
theorem dX6_mention_83 : decode cX6_mention 83 = .ok (.goto 4, 3) := by decide +kernel
theorem dX6_mention_86 : decode cX6_mention 86 = .ok (.iconst 0, 1) := by decide +kernel
theorem dX6_mention_87 : decode cX6_mention 87 = .ok (.putfield 82, 3) := by decide +kernel
theorem dX6_mention_90 : decode cX6_mention 90 = .ok (.aload_n 0, 1) := by decide +kernel
theorem dX6_mention_91 : decode cX6_mention 91 = .ok (.getfield 82, 3) := by decide +kernel
theorem dX6_mention_94 : decode cX6_mention 94 = .ok (.ifCond .le 5, 3) := by decide +kernel
theorem dX6_mention_97 : decode cX6_mention 97 = .ok (.iconst 0, 1) := by decide +kernel
theorem dX6_mention_98 : decode cX6_mention 98 = .ok (.ireturn, 1) := by decide +kernel
theorem dX6_mention_99 : decode cX6_mention 99 = .ok (.aload_n 0, 1) := by decide +kernel
theorem dX6_mention_100 : decode cX6_mention 100 = .ok (.getfield 7, 3) := by decide +kernel
theorem dX6_mention_103 : decode cX6_mention 103 = .ok (.aload_n 0, 1) := by decide +kernel
theorem dX6_mention_104 : decode cX6_mention 104 = .ok (.getfield 86, 3) := by decide +kernel
theorem dX6_mention_107 : decode cX6_mention 107 = .ok (.iload_n 1, 1) := by decide +kernel
theorem dX6_mention_108 : decode cX6_mention 108 = .ok (.iastore, 1) := by decide +kernel
theorem dX6_mention_109 : decode cX6_mention 109 = .ok (.aload_n 0, 1) := by decide +kernel
theorem dX6_mention_110 : decode cX6_mention 110 = .ok (.getfield 13, 3) := by decide +kernel
theorem dX6_mention_113 : decode cX6_mention 113 = .ok (.aload_n 0, 1) := by decide +kernel
theorem dX6_mention_114 : decode cX6_mention 114 = .ok (.getfield 86, 3) := by decide +kernel
theorem dX6_mention_117 : decode cX6_mention 117 = .ok (.iload_n 2, 1) := by decide +kernel
theorem dX6_mention_118 : decode cX6_mention 118 = .ok (.iastore, 1) := by decide +kernel
theorem dX6_mention_119 : decode cX6_mention 119 = .ok (.aload_n 0, 1) := by decide +kernel
theorem dX6_mention_120 : decode cX6_mention 120 = .ok (.getfield 16, 3) := by decide +kernel
theorem dX6_mention_123 : decode cX6_mention 123 = .ok (.aload_n 0, 1) := by decide +kernel
theorem dX6_mention_124 : decode cX6_mention 124 = .ok (.getfield 86, 3) := by decide +kernel
theorem dX6_mention_127 : decode cX6_mention 127 = .ok (.iload_n 3, 1) := by decide +kernel
theorem dX6_mention_128 : decode cX6_mention 128 = .ok (.iastore, 1) := by decide +kernel
theorem dX6_mention_129 : decode cX6_mention 129 = .ok (.aload_n 0, 1) := by decide +kernel
theorem dX6_mention_130 : decode cX6_mention 130 = .ok (.getfield 19, 3) := by decide +kernel
theorem dX6_mention_133 : decode cX6_mention 133 = .ok (.aload_n 0, 1) := by decide +kernel
theorem dX6_mention_134 : decode cX6_mention 134 = .ok (.getfield 86, 3) := by decide +kernel
theorem dX6_mention_137 : decode cX6_mention 137 = .ok (.iload 4, 2) := by decide +kernel
theorem dX6_mention_139 : decode cX6_mention 139 = .ok (.iastore, 1) := by decide +kernel
theorem dX6_mention_140 : decode cX6_mention 140 = .ok (.aload_n 0, 1) := by decide +kernel
theorem dX6_mention_141 : decode cX6_mention 141 = .ok (.getfield 40, 3) := by decide +kernel
theorem dX6_mention_144 : decode cX6_mention 144 = .ok (.aload_n 0, 1) := by decide +kernel
theorem dX6_mention_145 : decode cX6_mention 145 = .ok (.getfield 86, 3) := by decide +kernel
theorem dX6_mention_148 : decode cX6_mention 148 = .ok (.iconst 0, 1) := by decide +kernel
theorem dX6_mention_149 : decode cX6_mention 149 = .ok (.iastore, 1) := by decide +kernel
theorem dX6_mention_150 : decode cX6_mention 150 = .ok (.aload_n 0, 1) := by decide +kernel
theorem dX6_mention_151 : decode cX6_mention 151 = .ok (.getfield 43, 3) := by decide +kernel
theorem dX6_mention_154 : decode cX6_mention 154 = .ok (.aload_n 0, 1) := by decide +kernel
theorem dX6_mention_155 : decode cX6_mention 155 = .ok (.getfield 86, 3) := by decide +kernel
theorem dX6_mention_158 : decode cX6_mention 158 = .ok (.sipush 999, 3) := by decide +kernel
theorem dX6_mention_161 : decode cX6_mention 161 = .ok (.iastore, 1) := by decide +kernel
theorem dX6_mention_162 : decode cX6_mention 162 = .ok (.aload_n 0, 1) := by decide +kernel
theorem dX6_mention_163 : decode cX6_mention 163 = .ok (.getfield 46, 3) := by decide +kernel
theorem dX6_mention_166 : decode cX6_mention 166 = .ok (.aload_n 0, 1) := by decide +kernel
theorem dX6_mention_167 : decode cX6_mention 167 = .ok (.getfield 86, 3) := by decide +kernel
theorem dX6_mention_170 : decode cX6_mention 170 = .ok (.iconst 0, 1) := by decide +kernel
theorem dX6_mention_171 : decode cX6_mention 171 = .ok (.iastore, 1) := by decide +kernel
theorem dX6_mention_172 : decode cX6_mention 172 = .ok (.aload_n 0, 1) := by decide +kernel
theorem dX6_mention_173 : decode cX6_mention 173 = .ok (.getfield 49, 3) := by decide +kernel
theorem dX6_mention_176 : decode cX6_mention 176 = .ok (.aload_n 0, 1) := by decide +kernel
theorem dX6_mention_177 : decode cX6_mention 177 = .ok (.getfield 86, 3) := by decide +kernel
theorem dX6_mention_180 : decode cX6_mention 180 = .ok (.sipush 999, 3) := by decide +kernel
theorem dX6_mention_183 : decode cX6_mention 183 = .ok (.iastore, 1) := by decide +kernel
theorem dX6_mention_184 : decode cX6_mention 184 = .ok (.aload_n 0, 1) := by decide +kernel
theorem dX6_mention_185 : decode cX6_mention 185 = .ok (.getfield 37, 3) := by decide +kernel
theorem dX6_mention_188 : decode cX6_mention 188 = .ok (.aload_n 0, 1) := by decide +kernel
theorem dX6_mention_189 : decode cX6_mention 189 = .ok (.getfield 86, 3) := by decide +kernel
theorem dX6_mention_192 : decode cX6_mention 192 = .ok (.iconst (-1), 1) := by decide +kernel
theorem dX6_mention_193 : decode cX6_mention 193 = .ok (.iastore, 1) := by decide +kernel
theorem dX6_mention_194 : decode cX6_mention 194 = .ok (.aload_n 0, 1) := by decide +kernel
theorem dX6_mention_195 : decode cX6_mention 195 = .ok (.aload_n 0, 1) := by decide +kernel
theorem dX6_mention_196 : decode cX6_mention 196 = .ok (.getfield 86, 3) := by decide +kernel
theorem dX6_mention_199 : decode cX6_mention 199 = .ok (.invokevirtual 100, 3) := by decide +kernel
theorem dX6_mention_202 : decode cX6_mention 202 = .ok (.pop, 1) := by decide +kernel
theorem dX6_mention_203 : decode cX6_mention 203 = .ok (.aload_n 0, 1) := by decide +kernel
theorem dX6_mention_204 : decode cX6_mention 204 = .ok (.dup, 1) := by decide +kernel
theorem dX6_mention_205 : decode cX6_mention 205 = .ok (.getfield 86, 3) := by decide +kernel
theorem dX6_mention_208 : decode cX6_mention 208 = .ok (.iconst 1, 1) := by decide +kernel
theorem dX6_mention_209 : decode cX6_mention 209 = .ok (.iadd, 1) := by decide +kernel
theorem dX6_mention_210 : decode cX6_mention 210 = .ok (.putfield 86, 3) := by decide +kernel
theorem dX6_mention_213 : decode cX6_mention 213 = .ok (.aload_n 0, 1) := by decide +kernel
theorem dX6_mention_214 : decode cX6_mention 214 = .ok (.getfield 86, 3) := by decide +kernel
theorem dX6_mention_217 : decode cX6_mention 217 = .ok (.iconst 1, 1) := by decide +kernel
theorem dX6_mention_218 : decode cX6_mention 218 = .ok (.isub, 1) := by decide +kernel
theorem dX6_mention_219 : decode cX6_mention 219 = .ok (.ireturn, 1) := by decide +kernel
theorem dX6_rank_0 : decode cX6_rank 0 = .ok (.aload_n 0, 1) := by decide +kernel
theorem dX6_rank_1 : decode cX6_rank 1 = .ok (.iload_n 1, 1) := by decide +kernel
theorem dX6_rank_2 : decode cX6_rank 2 = .ok (.invokestatic 96, 3) := by decide +kernel
theorem dX6_rank_5 : decode cX6_rank 5 = .ok (.ifCond .ne 7, 3) := by decide +kernel
theorem dX6_rank_8 : decode cX6_rank 8 = .ok (.iconst 1, 1) := by decide +kernel
theorem dX6_rank_9 : decode cX6_rank 9 = .ok (.goto 18, 3) := by decide +kernel
theorem dX6_rank_12 : decode cX6_rank 12 = .ok (.iload_n 2, 1) := by decide +kernel
theorem dX6_rank_13 : decode cX6_rank 13 = .ok (.iconst 0, 1) := by decide +kernel
theorem dX6_rank_14 : decode cX6_rank 14 = .ok (.bipush 9, 2) := by decide +kernel
theorem dX6_rank_16 : decode cX6_rank 16 = .ok (.invokestatic 89, 3) := by decide +kernel
theorem dX6_rank_19 : decode cX6_rank 19 = .ok (.ifCond .ne 7, 3) := by decide +kernel
theorem dX6_rank_22 : decode cX6_rank 22 = .ok (.iconst 2, 1) := by decide +kernel
theorem dX6_rank_23 : decode cX6_rank 23 = .ok (.goto 4, 3) := by decide +kernel
theorem dX6_rank_26 : decode cX6_rank 26 = .ok (.iconst 0, 1) := by decide +kernel
theorem dX6_rank_27 : decode cX6_rank 27 = .ok (.putfield 82, 3) := by decide +kernel
theorem dX6_rank_30 : decode cX6_rank 30 = .ok (.aload_n 0, 1) := by decide +kernel
theorem dX6_rank_31 : decode cX6_rank 31 = .ok (.getfield 82, 3) := by decide +kernel
theorem dX6_rank_34 : decode cX6_rank 34 = .ok (.ifCond .le 5, 3) := by decide +kernel
theorem dX6_rank_37 : decode cX6_rank 37 = .ok (.iconst 0, 1) := by decide +kernel
theorem dX6_rank_38 : decode cX6_rank 38 = .ok (.ireturn, 1) := by decide +kernel
theorem dX6_rank_39 : decode cX6_rank 39 = .ok (.aload_n 0, 1) := by decide +kernel
theorem dX6_rank_40 : decode cX6_rank 40 = .ok (.getfield 22, 3) := by decide +kernel
theorem dX6_rank_43 : decode cX6_rank 43 = .ok (.iload_n 1, 1) := by decide +kernel
theorem dX6_rank_44 : decode cX6_rank 44 = .ok (.iaload, 1) := by decide +kernel
theorem dX6_rank_45 : decode cX6_rank 45 = .ok (.istore_n 3, 1) := by decide +kernel
theorem dX6_rank_46 : decode cX6_rank 46 = .ok (.aload_n 0, 1) := by decide +kernel
theorem dX6_rank_47 : decode cX6_rank 47 = .ok (.getfield 22, 3) := by decide +kernel
theorem dX6_rank_50 : decode cX6_rank 50 = .ok (.iload_n 1, 1) := by decide +kernel
theorem dX6_rank_51 : decode cX6_rank 51 = .ok (.iload_n 2, 1) := by decide +kernel
theorem dX6_rank_52 : decode cX6_rank 52 = .ok (.iastore, 1) := by decide +kernel
theorem dX6_rank_53 : decode cX6_rank 53 = .ok (.iload_n 3, 1) := by decide +kernel
theorem dX6_rank_54 : decode cX6_rank 54 = .ok (.ireturn, 1) := by decide +kernel
theorem dX6_bar_0 : decode cX6_bar 0 = .ok (.aload_n 0, 1) := by decide +kernel
theorem dX6_bar_1 : decode cX6_bar 1 = .ok (.iload_n 1, 1) := by decide +kernel
theorem dX6_bar_2 : decode cX6_bar 2 = .ok (.invokestatic 96, 3) := by decide +kernel
theorem dX6_bar_5 : decode cX6_bar 5 = .ok (.ifCond .eq 10, 3) := by decide +kernel
theorem dX6_bar_8 : decode cX6_bar 8 = .ok (.iload_n 2, 1) := by decide +kernel
theorem dX6_bar_9 : decode cX6_bar 9 = .ok (.invokestatic 96, 3) := by decide +kernel
theorem dX6_bar_12 : decode cX6_bar 12 = .ok (.ifCond .ne 7, 3) := by decide +kernel
theorem dX6_bar_15 : decode cX6_bar 15 = .ok (.iconst 1, 1) := by decide +kernel
theorem dX6_bar_16 : decode cX6_bar 16 = .ok (.goto 13, 3) := by decide +kernel
theorem dX6_bar_19 : decode cX6_bar 19 = .ok (.iload_n 1, 1) := by decide +kernel
theorem dX6_bar_20 : decode cX6_bar 20 = .ok (.iload_n 2, 1) := by decide +kernel
theorem dX6_bar_21 : decode cX6_bar 21 = .ok (.if_icmp .ne 7, 3) := by decide +kernel
theorem dX6_bar_24 : decode cX6_bar 24 = .ok (.iconst 2, 1) := by decide +kernel
theorem dX6_bar_25 : decode cX6_bar 25 = .ok (.goto 4, 3) := by decide +kernel
theorem dX6_bar_28 : decode cX6_bar 28 = .ok (.iconst 0, 1) := by decide +kernel
theorem dX6_bar_29 : decode cX6_bar 29 = .ok (.putfield 82, 3) := by decide +kernel
theorem dX6_bar_32 : decode cX6_bar 32 = .ok (.aload_n 0, 1) := by decide +kernel
theorem dX6_bar_33 : decode cX6_bar 33 = .ok (.getfield 82, 3) := by decide +kernel
theorem dX6_bar_36 : decode cX6_bar 36 = .ok (.ifCond .le 5, 3) := by decide +kernel
theorem dX6_bar_39 : decode cX6_bar 39 = .ok (.iconst 0, 1) := by decide +kernel
theorem dX6_bar_40 : decode cX6_bar 40 = .ok (.ireturn, 1) := by decide +kernel
theorem dX6_bar_41 : decode cX6_bar 41 = .ok (.aload_n 0, 1) := by decide +kernel
theorem dX6_bar_42 : decode cX6_bar 42 = .ok (.getfield 25, 3) := by decide +kernel
theorem dX6_bar_45 : decode cX6_bar 45 = .ok (.iload_n 1, 1) := by decide +kernel
theorem dX6_bar_46 : decode cX6_bar 46 = .ok (.iaload, 1) := by decide +kernel
theorem dX6_bar_47 : decode cX6_bar 47 = .ok (.iload_n 2, 1) := by decide +kernel
theorem dX6_bar_48 : decode cX6_bar 48 = .ok (.invokestatic 104, 3) := by decide +kernel
theorem dX6_bar_51 : decode cX6_bar 51 = .ok (.istore 4, 2) := by decide +kernel
theorem dX6_bar_53 : decode cX6_bar 53 = .ok (.aload_n 0, 1) := by decide +kernel
theorem dX6_bar_54 : decode cX6_bar 54 = .ok (.getfield 25, 3) := by decide +kernel
theorem dX6_bar_57 : decode cX6_bar 57 = .ok (.iload_n 1, 1) := by decide +kernel
theorem dX6_bar_58 : decode cX6_bar 58 = .ok (.iload_n 3, 1) := by decide +kernel
theorem dX6_bar_59 : decode cX6_bar 59 = .ok (.ifCond .eq 16, 3) := by decide +kernel
theorem dX6_bar_62 : decode cX6_bar 62 = .ok (.aload_n 0, 1) := by decide +kernel
theorem dX6_bar_63 : decode cX6_bar 63 = .ok (.getfield 25, 3) := by decide +kernel
theorem dX6_bar_66 : decode cX6_bar 66 = .ok (.iload_n 1, 1) := by decide +kernel
theorem dX6_bar_67 : decode cX6_bar 67 = .ok (.iaload, 1) := by decide +kernel
theorem dX6_bar_68 : decode cX6_bar 68 = .ok (.iconst 1, 1) := by decide +kernel
theorem dX6_bar_69 : decode cX6_bar 69 = .ok (.iload_n 2, 1) := by decide +kernel
theorem dX6_bar_70 : decode cX6_bar 70 = .ok (.ishl, 1) := by decide +kernel
theorem dX6_bar_71 : decode cX6_bar 71 = .ok (.ior, 1) := by decide +kernel
theorem dX6_bar_72 : decode cX6_bar 72 = .ok (.goto 15, 3) := by decide +kernel
theorem dX6_bar_75 : decode cX6_bar 75 = .ok (.aload_n 0, 1) := by decide +kernel
theorem dX6_bar_76 : decode cX6_bar 76 = .ok (.getfield 25, 3) := by decide +kernel
theorem dX6_bar_79 : decode cX6_bar 79 = .ok (.iload_n 1, 1) := by decide +kernel
theorem dX6_bar_80 : decode cX6_bar 80 = .ok (.iaload, 1) := by decide +kernel
theorem dX6_bar_81 : decode cX6_bar 81 = .ok (.iconst 1, 1) := by decide +kernel
theorem dX6_bar_82 : decode cX6_bar 82 = .ok (.iload_n 2, 1) := by decide +kernel
theorem dX6_bar_83 : decode cX6_bar 83 = .ok (.ishl, 1) := by decide +kernel
theorem dX6_bar_84 : decode cX6_bar 84 = .ok (.iconst (-1), 1) := by decide +kernel
theorem dX6_bar_85 : decode cX6_bar 85 = .ok (.ixor, 1) := by decide +kernel
theorem dX6_bar_86 : decode cX6_bar 86 = .ok (.iand, 1) := by decide +kernel
theorem dX6_bar_87 : decode cX6_bar 87 = .ok (.iastore, 1) := by decide +kernel
theorem dX6_bar_88 : decode cX6_bar 88 = .ok (.aload_n 0, 1) := by decide +kernel
theorem dX6_bar_89 : decode cX6_bar 89 = .ok (.getfield 25, 3) := by decide +kernel
theorem dX6_bar_92 : decode cX6_bar 92 = .ok (.iload_n 2, 1) := by decide +kernel
theorem dX6_bar_93 : decode cX6_bar 93 = .ok (.iload_n 3, 1) := by decide +kernel
theorem dX6_bar_94 : decode cX6_bar 94 = .ok (.ifCond .eq 16, 3) := by decide +kernel
theorem dX6_bar_97 : decode cX6_bar 97 = .ok (.aload_n 0, 1) := by decide +kernel
theorem dX6_bar_98 : decode cX6_bar 98 = .ok (.getfield 25, 3) := by decide +kernel
theorem dX6_bar_101 : decode cX6_bar 101 = .ok (.iload_n 2, 1) := by decide +kernel
theorem dX6_bar_102 : decode cX6_bar 102 = .ok (.iaload, 1) := by decide +kernel
theorem dX6_bar_103 : decode cX6_bar 103 = .ok (.iconst 1, 1) := by decide +kernel
theorem dX6_bar_104 : decode cX6_bar 104 = .ok (.iload_n 1, 1) := by decide +kernel
theorem dX6_bar_105 : decode cX6_bar 105 = .ok (.ishl, 1) := by decide +kernel
theorem dX6_bar_106 : decode cX6_bar 106 = .ok (.ior, 1) := by decide +kernel
theorem dX6_bar_107 : decode cX6_bar 107 = .ok (.goto 15, 3) := by decide +kernel
theorem dX6_bar_110 : decode cX6_bar 110 = .ok (.aload_n 0, 1) := by decide +kernel
theorem dX6_bar_111 : decode cX6_bar 111 = .ok (.getfield 25, 3) := by decide +kernel
theorem dX6_bar_114 : decode cX6_bar 114 = .ok (.iload_n 2, 1) := by decide +kernel
theorem dX6_bar_115 : decode cX6_bar 115 = .ok (.iaload, 1) := by decide +kernel
theorem dX6_bar_116 : decode cX6_bar 116 = .ok (.iconst 1, 1) := by decide +kernel
theorem dX6_bar_117 : decode cX6_bar 117 = .ok (.iload_n 1, 1) := by decide +kernel
theorem dX6_bar_118 : decode cX6_bar 118 = .ok (.ishl, 1) := by decide +kernel
theorem dX6_bar_119 : decode cX6_bar 119 = .ok (.iconst (-1), 1) := by decide +kernel
theorem dX6_bar_120 : decode cX6_bar 120 = .ok (.ixor, 1) := by decide +kernel
theorem dX6_bar_121 : decode cX6_bar 121 = .ok (.iand, 1) := by decide +kernel
theorem dX6_bar_122 : decode cX6_bar 122 = .ok (.iastore, 1) := by decide +kernel
theorem dX6_bar_123 : decode cX6_bar 123 = .ok (.iload 4, 2) := by decide +kernel
theorem dX6_bar_125 : decode cX6_bar 125 = .ok (.ireturn, 1) := by decide +kernel
theorem dX6_dates_0 : decode cX6_dates 0 = .ok (.iconst 0, 1) := by decide +kernel
theorem dX6_dates_1 : decode cX6_dates 1 = .ok (.istore_n 1, 1) := by decide +kernel
theorem dX6_dates_2 : decode cX6_dates 2 = .ok (.iload_n 1, 1) := by decide +kernel
theorem dX6_dates_3 : decode cX6_dates 3 = .ok (.aload_n 0, 1) := by decide +kernel
theorem dX6_dates_4 : decode cX6_dates 4 = .ok (.getfield 86, 3) := by decide +kernel
theorem dX6_dates_7 : decode cX6_dates 7 = .ok (.if_icmp .ge 33, 3) := by decide +kernel
theorem dX6_dates_10 : decode cX6_dates 10 = .ok (.aload_n 0, 1) := by decide +kernel
theorem dX6_dates_11 : decode cX6_dates 11 = .ok (.getfield 52, 3) := by decide +kernel
theorem dX6_dates_14 : decode cX6_dates 14 = .ok (.iload_n 1, 1) := by decide +kernel
theorem dX6_dates_15 : decode cX6_dates 15 = .ok (.aload_n 0, 1) := by decide +kernel
theorem dX6_dates_16 : decode cX6_dates 16 = .ok (.getfield 40, 3) := by decide +kernel
theorem dX6_dates_19 : decode cX6_dates 19 = .ok (.iload_n 1, 1) := by decide +kernel
theorem dX6_dates_20 : decode cX6_dates 20 = .ok (.iaload, 1) := by decide +kernel
theorem dX6_dates_21 : decode cX6_dates 21 = .ok (.iastore, 1) := by decide +kernel
theorem dX6_dates_22 : decode cX6_dates 22 = .ok (.aload_n 0, 1) := by decide +kernel
theorem dX6_dates_23 : decode cX6_dates 23 = .ok (.getfield 55, 3) := by decide +kernel
theorem dX6_dates_26 : decode cX6_dates 26 = .ok (.iload_n 1, 1) := by decide +kernel
theorem dX6_dates_27 : decode cX6_dates 27 = .ok (.aload_n 0, 1) := by decide +kernel
theorem dX6_dates_28 : decode cX6_dates 28 = .ok (.getfield 43, 3) := by decide +kernel
theorem dX6_dates_31 : decode cX6_dates 31 = .ok (.iload_n 1, 1) := by decide +kernel
theorem dX6_dates_32 : decode cX6_dates 32 = .ok (.iaload, 1) := by decide +kernel
theorem dX6_dates_33 : decode cX6_dates 33 = .ok (.iastore, 1) := by decide +kernel
theorem dX6_dates_34 : decode cX6_dates 34 = .ok (.iinc 1 1, 3) := by decide +kernel
theorem dX6_dates_37 : decode cX6_dates 37 = .ok (.goto (-35), 3) := by decide +kernel
theorem dX6_dates_40 : decode cX6_dates 40 = .ok (.iconst 1, 1) := by decide +kernel
theorem dX6_dates_41 : decode cX6_dates 41 = .ok (.istore_n 1, 1) := by decide +kernel
theorem dX6_dates_42 : decode cX6_dates 42 = .ok (.iconst 1, 1) := by decide +kernel
theorem dX6_dates_43 : decode cX6_dates 43 = .ok (.istore_n 2, 1) := by decide +kernel
theorem dX6_dates_44 : decode cX6_dates 44 = .ok (.iload_n 2, 1) := by decide +kernel
theorem dX6_dates_45 : decode cX6_dates 45 = .ok (.ifCond .eq 207, 3) := by decide +kernel
theorem dX6_dates_48 : decode cX6_dates 48 = .ok (.iload_n 1, 1) := by decide +kernel
theorem dX6_dates_49 : decode cX6_dates 49 = .ok (.ifCond .eq 203, 3) := by decide +kernel
theorem dX6_dates_52 : decode cX6_dates 52 = .ok (.iconst 0, 1) := by decide +kernel
theorem dX6_dates_53 : decode cX6_dates 53 = .ok (.istore_n 2, 1) := by decide +kernel
theorem dX6_dates_54 : decode cX6_dates 54 = .ok (.iconst 0, 1) := by decide +kernel
theorem dX6_dates_55 : decode cX6_dates 55 = .ok (.istore_n 3, 1) := by decide +kernel
theorem dX6_dates_56 : decode cX6_dates 56 = .ok (.iload_n 3, 1) := by decide +kernel
theorem dX6_dates_57 : decode cX6_dates 57 = .ok (.aload_n 0, 1) := by decide +kernel
theorem dX6_dates_58 : decode cX6_dates 58 = .ok (.getfield 108, 3) := by decide +kernel
theorem dX6_dates_61 : decode cX6_dates 61 = .ok (.if_icmp .ge 119, 3) := by decide +kernel
theorem dX6_dates_64 : decode cX6_dates 64 = .ok (.aload_n 0, 1) := by decide +kernel
theorem dX6_dates_65 : decode cX6_dates 65 = .ok (.getfield 58, 3) := by decide +kernel
theorem dX6_dates_68 : decode cX6_dates 68 = .ok (.iload_n 3, 1) := by decide +kernel
theorem dX6_dates_69 : decode cX6_dates 69 = .ok (.iaload, 1) := by decide +kernel
theorem dX6_dates_70 : decode cX6_dates 70 = .ok (.istore 4, 2) := by decide +kernel
theorem dX6_dates_72 : decode cX6_dates 72 = .ok (.aload_n 0, 1) := by decide +kernel
theorem dX6_dates_73 : decode cX6_dates 73 = .ok (.getfield 61, 3) := by decide +kernel
theorem dX6_dates_76 : decode cX6_dates 76 = .ok (.iload_n 3, 1) := by decide +kernel
theorem dX6_dates_77 : decode cX6_dates 77 = .ok (.iaload, 1) := by decide +kernel
theorem dX6_dates_78 : decode cX6_dates 78 = .ok (.istore 5, 2) := by decide +kernel
theorem dX6_dates_80 : decode cX6_dates 80 = .ok (.aload_n 0, 1) := by decide +kernel
theorem dX6_dates_81 : decode cX6_dates 81 = .ok (.getfield 52, 3) := by decide +kernel
theorem dX6_dates_84 : decode cX6_dates 84 = .ok (.iload 5, 2) := by decide +kernel
theorem dX6_dates_86 : decode cX6_dates 86 = .ok (.iaload, 1) := by decide +kernel
theorem dX6_dates_87 : decode cX6_dates 87 = .ok (.aload_n 0, 1) := by decide +kernel
theorem dX6_dates_88 : decode cX6_dates 88 = .ok (.getfield 52, 3) := by decide +kernel
theorem dX6_dates_91 : decode cX6_dates 91 = .ok (.iload 4, 2) := by decide +kernel
theorem dX6_dates_93 : decode cX6_dates 93 = .ok (.iaload, 1) := by decide +kernel
theorem dX6_dates_94 : decode cX6_dates 94 = .ok (.aload_n 0, 1) := by decide +kernel
theorem dX6_dates_95 : decode cX6_dates 95 = .ok (.getfield 64, 3) := by decide +kernel
theorem dX6_dates_98 : decode cX6_dates 98 = .ok (.iload_n 3, 1) := by decide +kernel
theorem dX6_dates_99 : decode cX6_dates 99 = .ok (.iaload, 1) := by decide +kernel
theorem dX6_dates_100 : decode cX6_dates 100 = .ok (.iadd, 1) := by decide +kernel
theorem dX6_dates_101 : decode cX6_dates 101 = .ok (.if_icmp .ge 26, 3) := by decide +kernel
theorem dX6_dates_104 : decode cX6_dates 104 = .ok (.aload_n 0, 1) := by decide +kernel
theorem dX6_dates_105 : decode cX6_dates 105 = .ok (.getfield 52, 3) := by decide +kernel
theorem dX6_dates_108 : decode cX6_dates 108 = .ok (.iload 5, 2) := by decide +kernel
theorem dX6_dates_110 : decode cX6_dates 110 = .ok (.aload_n 0, 1) := by decide +kernel
theorem dX6_dates_111 : decode cX6_dates 111 = .ok (.getfield 52, 3) := by decide +kernel
theorem dX6_dates_114 : decode cX6_dates 114 = .ok (.iload 4, 2) := by decide +kernel
theorem dX6_dates_116 : decode cX6_dates 116 = .ok (.iaload, 1) := by decide +kernel
theorem dX6_dates_117 : decode cX6_dates 117 = .ok (.aload_n 0, 1) := by decide +kernel
theorem dX6_dates_118 : decode cX6_dates 118 = .ok (.getfield 64, 3) := by decide +kernel
theorem dX6_dates_121 : decode cX6_dates 121 = .ok (.iload_n 3, 1) := by decide +kernel
theorem dX6_dates_122 : decode cX6_dates 122 = .ok (.iaload, 1) := by decide +kernel
theorem dX6_dates_123 : decode cX6_dates 123 = .ok (.iadd, 1) := by decide +kernel
theorem dX6_dates_124 : decode cX6_dates 124 = .ok (.iastore, 1) := by decide +kernel
theorem dX6_dates_125 : decode cX6_dates 125 = .ok (.iconst 1, 1) := by decide +kernel
theorem dX6_dates_126 : decode cX6_dates 126 = .ok (.istore_n 2, 1) := by decide +kernel
theorem dX6_dates_127 : decode cX6_dates 127 = .ok (.aload_n 0, 1) := by decide +kernel
theorem dX6_dates_128 : decode cX6_dates 128 = .ok (.getfield 55, 3) := by decide +kernel
theorem dX6_dates_131 : decode cX6_dates 131 = .ok (.iload 4, 2) := by decide +kernel
theorem dX6_dates_133 : decode cX6_dates 133 = .ok (.iaload, 1) := by decide +kernel
theorem dX6_dates_134 : decode cX6_dates 134 = .ok (.aload_n 0, 1) := by decide +kernel
theorem dX6_dates_135 : decode cX6_dates 135 = .ok (.getfield 55, 3) := by decide +kernel
theorem dX6_dates_138 : decode cX6_dates 138 = .ok (.iload 5, 2) := by decide +kernel
theorem dX6_dates_140 : decode cX6_dates 140 = .ok (.iaload, 1) := by decide +kernel
theorem dX6_dates_141 : decode cX6_dates 141 = .ok (.aload_n 0, 1) := by decide +kernel
theorem dX6_dates_142 : decode cX6_dates 142 = .ok (.getfield 64, 3) := by decide +kernel
theorem dX6_dates_145 : decode cX6_dates 145 = .ok (.iload_n 3, 1) := by decide +kernel
theorem dX6_dates_146 : decode cX6_dates 146 = .ok (.iaload, 1) := by decide +kernel
theorem dX6_dates_147 : decode cX6_dates 147 = .ok (.isub, 1) := by decide +kernel
theorem dX6_dates_148 : decode cX6_dates 148 = .ok (.if_icmp .le 26, 3) := by decide +kernel
theorem dX6_dates_151 : decode cX6_dates 151 = .ok (.aload_n 0, 1) := by decide +kernel
theorem dX6_dates_152 : decode cX6_dates 152 = .ok (.getfield 55, 3) := by decide +kernel
theorem dX6_dates_155 : decode cX6_dates 155 = .ok (.iload 4, 2) := by decide +kernel
theorem dX6_dates_157 : decode cX6_dates 157 = .ok (.aload_n 0, 1) := by decide +kernel
theorem dX6_dates_158 : decode cX6_dates 158 = .ok (.getfield 55, 3) := by decide +kernel
theorem dX6_dates_161 : decode cX6_dates 161 = .ok (.iload 5, 2) := by decide +kernel
theorem dX6_dates_163 : decode cX6_dates 163 = .ok (.iaload, 1) := by decide +kernel
theorem dX6_dates_164 : decode cX6_dates 164 = .ok (.aload_n 0, 1) := by decide +kernel
theorem dX6_dates_165 : decode cX6_dates 165 = .ok (.getfield 64, 3) := by decide +kernel
theorem dX6_dates_168 : decode cX6_dates 168 = .ok (.iload_n 3, 1) := by decide +kernel
theorem dX6_dates_169 : decode cX6_dates 169 = .ok (.iaload, 1) := by decide +kernel
theorem dX6_dates_170 : decode cX6_dates 170 = .ok (.isub, 1) := by decide +kernel
theorem dX6_dates_171 : decode cX6_dates 171 = .ok (.iastore, 1) := by decide +kernel
theorem dX6_dates_172 : decode cX6_dates 172 = .ok (.iconst 1, 1) := by decide +kernel
theorem dX6_dates_173 : decode cX6_dates 173 = .ok (.istore_n 2, 1) := by decide +kernel
theorem dX6_dates_174 : decode cX6_dates 174 = .ok (.iinc 3 1, 3) := by decide +kernel
theorem dX6_dates_177 : decode cX6_dates 177 = .ok (.goto (-121), 3) := by decide +kernel
theorem dX6_dates_180 : decode cX6_dates 180 = .ok (.iconst 0, 1) := by decide +kernel
theorem dX6_dates_181 : decode cX6_dates 181 = .ok (.istore_n 3, 1) := by decide +kernel
theorem dX6_dates_182 : decode cX6_dates 182 = .ok (.iload_n 3, 1) := by decide +kernel
theorem dX6_dates_183 : decode cX6_dates 183 = .ok (.aload_n 0, 1) := by decide +kernel
theorem dX6_dates_184 : decode cX6_dates 184 = .ok (.getfield 86, 3) := by decide +kernel
theorem dX6_dates_187 : decode cX6_dates 187 = .ok (.if_icmp .ge 62, 3) := by decide +kernel
theorem dX6_dates_190 : decode cX6_dates 190 = .ok (.iload_n 1, 1) := by decide +kernel
theorem dX6_dates_191 : decode cX6_dates 191 = .ok (.aload_n 0, 1) := by decide +kernel
theorem dX6_dates_192 : decode cX6_dates 192 = .ok (.getfield 52, 3) := by decide +kernel
theorem dX6_dates_195 : decode cX6_dates 195 = .ok (.iload_n 3, 1) := by decide +kernel
theorem dX6_dates_196 : decode cX6_dates 196 = .ok (.iaload, 1) := by decide +kernel
theorem dX6_dates_197 : decode cX6_dates 197 = .ok (.aload_n 0, 1) := by decide +kernel
theorem dX6_dates_198 : decode cX6_dates 198 = .ok (.getfield 43, 3) := by decide +kernel
theorem dX6_dates_201 : decode cX6_dates 201 = .ok (.iload_n 3, 1) := by decide +kernel
theorem dX6_dates_202 : decode cX6_dates 202 = .ok (.iaload, 1) := by decide +kernel
theorem dX6_dates_203 : decode cX6_dates 203 = .ok (.if_icmp .gt 37, 3) := by decide +kernel
theorem dX6_dates_206 : decode cX6_dates 206 = .ok (.aload_n 0, 1) := by decide +kernel
theorem dX6_dates_207 : decode cX6_dates 207 = .ok (.getfield 55, 3) := by decide +kernel
theorem dX6_dates_210 : decode cX6_dates 210 = .ok (.iload_n 3, 1) := by decide +kernel
theorem dX6_dates_211 : decode cX6_dates 211 = .ok (.iaload, 1) := by decide +kernel
theorem dX6_dates_212 : decode cX6_dates 212 = .ok (.aload_n 0, 1) := by decide +kernel
theorem dX6_dates_213 : decode cX6_dates 213 = .ok (.getfield 40, 3) := by decide +kernel
theorem dX6_dates_216 : decode cX6_dates 216 = .ok (.iload_n 3, 1) := by decide +kernel
theorem dX6_dates_217 : decode cX6_dates 217 = .ok (.iaload, 1) := by decide +kernel
theorem dX6_dates_218 : decode cX6_dates 218 = .ok (.if_icmp .lt 22, 3) := by decide +kernel
theorem dX6_dates_221 : decode cX6_dates 221 = .ok (.aload_n 0, 1) := by decide +kernel
theorem dX6_dates_222 : decode cX6_dates 222 = .ok (.getfield 52, 3) := by decide +kernel
theorem dX6_dates_225 : decode cX6_dates 225 = .ok (.iload_n 3, 1) := by decide +kernel
theorem dX6_dates_226 : decode cX6_dates 226 = .ok (.iaload, 1) := by decide +kernel
theorem dX6_dates_227 : decode cX6_dates 227 = .ok (.aload_n 0, 1) := by decide +kernel
theorem dX6_dates_228 : decode cX6_dates 228 = .ok (.getfield 55, 3) := by decide +kernel
theorem dX6_dates_231 : decode cX6_dates 231 = .ok (.iload_n 3, 1) := by decide +kernel
theorem dX6_dates_232 : decode cX6_dates 232 = .ok (.iaload, 1) := by decide +kernel
theorem dX6_dates_233 : decode cX6_dates 233 = .ok (.if_icmp .gt 7, 3) := by decide +kernel
theorem dX6_dates_236 : decode cX6_dates 236 = .ok (.iconst 1, 1) := by decide +kernel
theorem dX6_dates_237 : decode cX6_dates 237 = .ok (.goto 4, 3) := by decide +kernel
theorem dX6_dates_240 : decode cX6_dates 240 = .ok (.iconst 0, 1) := by decide +kernel
theorem dX6_dates_241 : decode cX6_dates 241 = .ok (.iand, 1) := by decide +kernel
theorem dX6_dates_242 : decode cX6_dates 242 = .ok (.istore_n 1, 1) := by decide +kernel
theorem dX6_dates_243 : decode cX6_dates 243 = .ok (.iinc 3 1, 3) := by decide +kernel
theorem dX6_dates_246 : decode cX6_dates 246 = .ok (.goto (-64), 3) := by decide +kernel
theorem dX6_dates_249 : decode cX6_dates 249 = .ok (.goto (-205), 3) := by decide +kernel
theorem dX6_dates_252 : decode cX6_dates 252 = .ok (.iload_n 1, 1) := by decide +kernel
theorem dX6_dates_253 : decode cX6_dates 253 = .ok (.ireturn, 1) := by decide +kernel
theorem dX6_moves_0 : decode cX6_moves 0 = .ok (.iconst 0, 1) := by decide +kernel
theorem dX6_moves_1 : decode cX6_moves 1 = .ok (.istore_n 1, 1) := by decide +kernel
theorem dX6_moves_2 : decode cX6_moves 2 = .ok (.iconst 0, 1) := by decide +kernel
theorem dX6_moves_3 : decode cX6_moves 3 = .ok (.istore_n 2, 1) := by decide +kernel
theorem dX6_moves_4 : decode cX6_moves 4 = .ok (.iload_n 2, 1) := by decide +kernel
theorem dX6_moves_5 : decode cX6_moves 5 = .ok (.aload_n 0, 1) := by decide +kernel
theorem dX6_moves_6 : decode cX6_moves 6 = .ok (.getfield 86, 3) := by decide +kernel
theorem dX6_moves_9 : decode cX6_moves 9 = .ok (.if_icmp .ge 47, 3) := by decide +kernel
theorem dX6_moves_12 : decode cX6_moves 12 = .ok (.iload_n 1, 1) := by decide +kernel
theorem dX6_moves_13 : decode cX6_moves 13 = .ok (.aload_n 0, 1) := by decide +kernel
theorem dX6_moves_14 : decode cX6_moves 14 = .ok (.getfield 52, 3) := by decide +kernel
theorem dX6_moves_17 : decode cX6_moves 17 = .ok (.iload_n 2, 1) := by decide +kernel
theorem dX6_moves_18 : decode cX6_moves 18 = .ok (.iaload, 1) := by decide +kernel
theorem dX6_moves_19 : decode cX6_moves 19 = .ok (.aload_n 0, 1) := by decide +kernel
theorem dX6_moves_20 : decode cX6_moves 20 = .ok (.getfield 46, 3) := by decide +kernel
theorem dX6_moves_23 : decode cX6_moves 23 = .ok (.iload_n 2, 1) := by decide +kernel
theorem dX6_moves_24 : decode cX6_moves 24 = .ok (.iaload, 1) := by decide +kernel
theorem dX6_moves_25 : decode cX6_moves 25 = .ok (.if_icmp .ne 18, 3) := by decide +kernel
theorem dX6_moves_28 : decode cX6_moves 28 = .ok (.aload_n 0, 1) := by decide +kernel
theorem dX6_moves_29 : decode cX6_moves 29 = .ok (.getfield 55, 3) := by decide +kernel
theorem dX6_moves_32 : decode cX6_moves 32 = .ok (.iload_n 2, 1) := by decide +kernel
theorem dX6_moves_33 : decode cX6_moves 33 = .ok (.iaload, 1) := by decide +kernel
theorem dX6_moves_34 : decode cX6_moves 34 = .ok (.aload_n 0, 1) := by decide +kernel
theorem dX6_moves_35 : decode cX6_moves 35 = .ok (.getfield 49, 3) := by decide +kernel
theorem dX6_moves_38 : decode cX6_moves 38 = .ok (.iload_n 2, 1) := by decide +kernel
theorem dX6_moves_39 : decode cX6_moves 39 = .ok (.iaload, 1) := by decide +kernel
theorem dX6_moves_40 : decode cX6_moves 40 = .ok (.if_icmp .eq 7, 3) := by decide +kernel
theorem dX6_moves_43 : decode cX6_moves 43 = .ok (.iconst 1, 1) := by decide +kernel
theorem dX6_moves_44 : decode cX6_moves 44 = .ok (.goto 4, 3) := by decide +kernel
theorem dX6_moves_47 : decode cX6_moves 47 = .ok (.iconst 0, 1) := by decide +kernel
theorem dX6_moves_48 : decode cX6_moves 48 = .ok (.iadd, 1) := by decide +kernel
theorem dX6_moves_49 : decode cX6_moves 49 = .ok (.istore_n 1, 1) := by decide +kernel
theorem dX6_moves_50 : decode cX6_moves 50 = .ok (.iinc 2 1, 3) := by decide +kernel
theorem dX6_moves_53 : decode cX6_moves 53 = .ok (.goto (-49), 3) := by decide +kernel
theorem dX6_moves_56 : decode cX6_moves 56 = .ok (.iload_n 1, 1) := by decide +kernel
theorem dX6_moves_57 : decode cX6_moves 57 = .ok (.ireturn, 1) := by decide +kernel
theorem dX6_keeps_0 : decode cX6_keeps 0 = .ok (.iconst 0, 1) := by decide +kernel
theorem dX6_keeps_1 : decode cX6_keeps 1 = .ok (.istore_n 1, 1) := by decide +kernel
theorem dX6_keeps_2 : decode cX6_keeps 2 = .ok (.iload_n 1, 1) := by decide +kernel
theorem dX6_keeps_3 : decode cX6_keeps 3 = .ok (.aload_n 0, 1) := by decide +kernel
theorem dX6_keeps_4 : decode cX6_keeps 4 = .ok (.getfield 86, 3) := by decide +kernel
theorem dX6_keeps_7 : decode cX6_keeps 7 = .ok (.if_icmp .ge 33, 3) := by decide +kernel
theorem dX6_keeps_10 : decode cX6_keeps 10 = .ok (.aload_n 0, 1) := by decide +kernel
theorem dX6_keeps_11 : decode cX6_keeps 11 = .ok (.getfield 46, 3) := by decide +kernel
theorem dX6_keeps_14 : decode cX6_keeps 14 = .ok (.iload_n 1, 1) := by decide +kernel
theorem dX6_keeps_15 : decode cX6_keeps 15 = .ok (.aload_n 0, 1) := by decide +kernel
theorem dX6_keeps_16 : decode cX6_keeps 16 = .ok (.getfield 52, 3) := by decide +kernel
theorem dX6_keeps_19 : decode cX6_keeps 19 = .ok (.iload_n 1, 1) := by decide +kernel
theorem dX6_keeps_20 : decode cX6_keeps 20 = .ok (.iaload, 1) := by decide +kernel
theorem dX6_keeps_21 : decode cX6_keeps 21 = .ok (.iastore, 1) := by decide +kernel
theorem dX6_keeps_22 : decode cX6_keeps 22 = .ok (.aload_n 0, 1) := by decide +kernel
theorem dX6_keeps_23 : decode cX6_keeps 23 = .ok (.getfield 49, 3) := by decide +kernel
theorem dX6_keeps_26 : decode cX6_keeps 26 = .ok (.iload_n 1, 1) := by decide +kernel
theorem dX6_keeps_27 : decode cX6_keeps 27 = .ok (.aload_n 0, 1) := by decide +kernel
theorem dX6_keeps_28 : decode cX6_keeps 28 = .ok (.getfield 55, 3) := by decide +kernel
theorem dX6_keeps_31 : decode cX6_keeps 31 = .ok (.iload_n 1, 1) := by decide +kernel
theorem dX6_keeps_32 : decode cX6_keeps 32 = .ok (.iaload, 1) := by decide +kernel
theorem dX6_keeps_33 : decode cX6_keeps 33 = .ok (.iastore, 1) := by decide +kernel
theorem dX6_keeps_34 : decode cX6_keeps 34 = .ok (.iinc 1 1, 3) := by decide +kernel
theorem dX6_keeps_37 : decode cX6_keeps 37 = .ok (.goto (-35), 3) := by decide +kernel
theorem dX6_keeps_40 : decode cX6_keeps 40 = .ok (.return_, 1) := by decide +kernel
theorem dX6_ahead_0 : decode cX6_ahead 0 = .ok (.aload_n 0, 1) := by decide +kernel
theorem dX6_ahead_1 : decode cX6_ahead 1 = .ok (.aload_n 0, 1) := by decide +kernel
theorem dX6_ahead_2 : decode cX6_ahead 2 = .ok (.iload_n 1, 1) := by decide +kernel
theorem dX6_ahead_3 : decode cX6_ahead 3 = .ok (.invokevirtual 111, 3) := by decide +kernel
theorem dX6_ahead_6 : decode cX6_ahead 6 = .ok (.ifCond .eq 11, 3) := by decide +kernel
theorem dX6_ahead_9 : decode cX6_ahead 9 = .ok (.aload_n 0, 1) := by decide +kernel
theorem dX6_ahead_10 : decode cX6_ahead 10 = .ok (.iload_n 2, 1) := by decide +kernel
theorem dX6_ahead_11 : decode cX6_ahead 11 = .ok (.invokevirtual 111, 3) := by decide +kernel
theorem dX6_ahead_14 : decode cX6_ahead 14 = .ok (.ifCond .ne 7, 3) := by decide +kernel
theorem dX6_ahead_17 : decode cX6_ahead 17 = .ok (.iconst 1, 1) := by decide +kernel
theorem dX6_ahead_18 : decode cX6_ahead 18 = .ok (.goto 37, 3) := by decide +kernel
theorem dX6_ahead_21 : decode cX6_ahead 21 = .ok (.iload_n 1, 1) := by decide +kernel
theorem dX6_ahead_22 : decode cX6_ahead 22 = .ok (.iload_n 2, 1) := by decide +kernel
theorem dX6_ahead_23 : decode cX6_ahead 23 = .ok (.if_icmp .eq 14, 3) := by decide +kernel
theorem dX6_ahead_26 : decode cX6_ahead 26 = .ok (.iload_n 3, 1) := by decide +kernel
theorem dX6_ahead_27 : decode cX6_ahead 27 = .ok (.bipush (-50), 2) := by decide +kernel
theorem dX6_ahead_29 : decode cX6_ahead 29 = .ok (.bipush 50, 2) := by decide +kernel
theorem dX6_ahead_31 : decode cX6_ahead 31 = .ok (.invokestatic 89, 3) := by decide +kernel
theorem dX6_ahead_34 : decode cX6_ahead 34 = .ok (.ifCond .ne 7, 3) := by decide +kernel
theorem dX6_ahead_37 : decode cX6_ahead 37 = .ok (.iconst 2, 1) := by decide +kernel
theorem dX6_ahead_38 : decode cX6_ahead 38 = .ok (.goto 17, 3) := by decide +kernel
theorem dX6_ahead_41 : decode cX6_ahead 41 = .ok (.aload_n 0, 1) := by decide +kernel
theorem dX6_ahead_42 : decode cX6_ahead 42 = .ok (.getfield 108, 3) := by decide +kernel
theorem dX6_ahead_45 : decode cX6_ahead 45 = .ok (.bipush 40, 2) := by decide +kernel
theorem dX6_ahead_47 : decode cX6_ahead 47 = .ok (.if_icmp .ne 7, 3) := by decide +kernel
theorem dX6_ahead_50 : decode cX6_ahead 50 = .ok (.iconst 3, 1) := by decide +kernel
theorem dX6_ahead_51 : decode cX6_ahead 51 = .ok (.goto 4, 3) := by decide +kernel
theorem dX6_ahead_54 : decode cX6_ahead 54 = .ok (.iconst 0, 1) := by decide +kernel
theorem dX6_ahead_55 : decode cX6_ahead 55 = .ok (.putfield 82, 3) := by decide +kernel
theorem dX6_ahead_58 : decode cX6_ahead 58 = .ok (.aload_n 0, 1) := by decide +kernel
theorem dX6_ahead_59 : decode cX6_ahead 59 = .ok (.getfield 82, 3) := by decide +kernel
theorem dX6_ahead_62 : decode cX6_ahead 62 = .ok (.ifCond .le 5, 3) := by decide +kernel
theorem dX6_ahead_65 : decode cX6_ahead 65 = .ok (.iconst 0, 1) := by decide +kernel
theorem dX6_ahead_66 : decode cX6_ahead 66 = .ok (.ireturn, 1) := by decide +kernel
theorem dX6_ahead_67 : decode cX6_ahead 67 = .ok (.aload_n 0, 1) := by decide +kernel
theorem dX6_ahead_68 : decode cX6_ahead 68 = .ok (.getfield 58, 3) := by decide +kernel
theorem dX6_ahead_71 : decode cX6_ahead 71 = .ok (.aload_n 0, 1) := by decide +kernel
theorem dX6_ahead_72 : decode cX6_ahead 72 = .ok (.getfield 108, 3) := by decide +kernel
theorem dX6_ahead_75 : decode cX6_ahead 75 = .ok (.iload_n 1, 1) := by decide +kernel
theorem dX6_ahead_76 : decode cX6_ahead 76 = .ok (.iastore, 1) := by decide +kernel
theorem dX6_ahead_77 : decode cX6_ahead 77 = .ok (.aload_n 0, 1) := by decide +kernel
theorem dX6_ahead_78 : decode cX6_ahead 78 = .ok (.getfield 61, 3) := by decide +kernel
theorem dX6_ahead_81 : decode cX6_ahead 81 = .ok (.aload_n 0, 1) := by decide +kernel
theorem dX6_ahead_82 : decode cX6_ahead 82 = .ok (.getfield 108, 3) := by decide +kernel
theorem dX6_ahead_85 : decode cX6_ahead 85 = .ok (.iload_n 2, 1) := by decide +kernel
theorem dX6_ahead_86 : decode cX6_ahead 86 = .ok (.iastore, 1) := by decide +kernel
theorem dX6_ahead_87 : decode cX6_ahead 87 = .ok (.aload_n 0, 1) := by decide +kernel
theorem dX6_ahead_88 : decode cX6_ahead 88 = .ok (.getfield 64, 3) := by decide +kernel
theorem dX6_ahead_91 : decode cX6_ahead 91 = .ok (.aload_n 0, 1) := by decide +kernel
theorem dX6_ahead_92 : decode cX6_ahead 92 = .ok (.getfield 108, 3) := by decide +kernel
theorem dX6_ahead_95 : decode cX6_ahead 95 = .ok (.iload_n 3, 1) := by decide +kernel
theorem dX6_ahead_96 : decode cX6_ahead 96 = .ok (.iastore, 1) := by decide +kernel
theorem dX6_ahead_97 : decode cX6_ahead 97 = .ok (.aload_n 0, 1) := by decide +kernel
theorem dX6_ahead_98 : decode cX6_ahead 98 = .ok (.dup, 1) := by decide +kernel
theorem dX6_ahead_99 : decode cX6_ahead 99 = .ok (.getfield 108, 3) := by decide +kernel
theorem dX6_ahead_102 : decode cX6_ahead 102 = .ok (.iconst 1, 1) := by decide +kernel
theorem dX6_ahead_103 : decode cX6_ahead 103 = .ok (.iadd, 1) := by decide +kernel
theorem dX6_ahead_104 : decode cX6_ahead 104 = .ok (.putfield 108, 3) := by decide +kernel
theorem dX6_ahead_107 : decode cX6_ahead 107 = .ok (.aload_n 0, 1) := by decide +kernel
theorem dX6_ahead_108 : decode cX6_ahead 108 = .ok (.invokevirtual 114, 3) := by decide +kernel
theorem dX6_ahead_111 : decode cX6_ahead 111 = .ok (.ifCond .ne 20, 3) := by decide +kernel
theorem dX6_ahead_114 : decode cX6_ahead 114 = .ok (.aload_n 0, 1) := by decide +kernel
theorem dX6_ahead_115 : decode cX6_ahead 115 = .ok (.dup, 1) := by decide +kernel
theorem dX6_ahead_116 : decode cX6_ahead 116 = .ok (.getfield 108, 3) := by decide +kernel
theorem dX6_ahead_119 : decode cX6_ahead 119 = .ok (.iconst 1, 1) := by decide +kernel
theorem dX6_ahead_120 : decode cX6_ahead 120 = .ok (.isub, 1) := by decide +kernel
theorem dX6_ahead_121 : decode cX6_ahead 121 = .ok (.putfield 108, 3) := by decide +kernel
theorem dX6_ahead_124 : decode cX6_ahead 124 = .ok (.aload_n 0, 1) := by decide +kernel
theorem dX6_ahead_125 : decode cX6_ahead 125 = .ok (.iconst 3, 1) := by decide +kernel
theorem dX6_ahead_126 : decode cX6_ahead 126 = .ok (.putfield 82, 3) := by decide +kernel
theorem dX6_ahead_129 : decode cX6_ahead 129 = .ok (.iconst 0, 1) := by decide +kernel
theorem dX6_ahead_130 : decode cX6_ahead 130 = .ok (.ireturn, 1) := by decide +kernel
theorem dX6_ahead_131 : decode cX6_ahead 131 = .ok (.aload_n 0, 1) := by decide +kernel
theorem dX6_ahead_132 : decode cX6_ahead 132 = .ok (.invokevirtual 118, 3) := by decide +kernel
theorem dX6_ahead_135 : decode cX6_ahead 135 = .ok (.istore 4, 2) := by decide +kernel
theorem dX6_ahead_137 : decode cX6_ahead 137 = .ok (.aload_n 0, 1) := by decide +kernel
theorem dX6_ahead_138 : decode cX6_ahead 138 = .ok (.invokevirtual 122, 3) := by decide +kernel
theorem dX6_ahead_141 : decode cX6_ahead 141 = .ok (.iload 4, 2) := by decide +kernel
theorem dX6_ahead_143 : decode cX6_ahead 143 = .ok (.ireturn, 1) := by decide +kernel
theorem dX6_areYears_0 : decode cX6_areYears 0 = .ok (.iload_n 1, 1) := by decide +kernel
theorem dX6_areYears_1 : decode cX6_areYears 1 = .ok (.iconst 0, 1) := by decide +kernel
theorem dX6_areYears_2 : decode cX6_areYears 2 = .ok (.sipush 999, 3) := by decide +kernel
theorem dX6_areYears_5 : decode cX6_areYears 5 = .ok (.invokestatic 89, 3) := by decide +kernel
theorem dX6_areYears_8 : decode cX6_areYears 8 = .ok (.ifCond .eq 18, 3) := by decide +kernel
theorem dX6_areYears_11 : decode cX6_areYears 11 = .ok (.iload_n 2, 1) := by decide +kernel
theorem dX6_areYears_12 : decode cX6_areYears 12 = .ok (.iload_n 1, 1) := by decide +kernel
theorem dX6_areYears_13 : decode cX6_areYears 13 = .ok (.sipush 999, 3) := by decide +kernel
theorem dX6_areYears_16 : decode cX6_areYears 16 = .ok (.invokestatic 89, 3) := by decide +kernel
theorem dX6_areYears_19 : decode cX6_areYears 19 = .ok (.ifCond .eq 7, 3) := by decide +kernel
theorem dX6_areYears_22 : decode cX6_areYears 22 = .ok (.iconst 1, 1) := by decide +kernel
theorem dX6_areYears_23 : decode cX6_areYears 23 = .ok (.goto 4, 3) := by decide +kernel
theorem dX6_areYears_26 : decode cX6_areYears 26 = .ok (.iconst 0, 1) := by decide +kernel
theorem dX6_areYears_27 : decode cX6_areYears 27 = .ok (.ireturn, 1) := by decide +kernel
theorem dX6_finds_0 : decode cX6_finds 0 = .ok (.aload_n 0, 1) := by decide +kernel
theorem dX6_finds_1 : decode cX6_finds 1 = .ok (.getfield 40, 3) := by decide +kernel
theorem dX6_finds_4 : decode cX6_finds 4 = .ok (.iload_n 1, 1) := by decide +kernel
theorem dX6_finds_5 : decode cX6_finds 5 = .ok (.iaload, 1) := by decide +kernel
theorem dX6_finds_6 : decode cX6_finds 6 = .ok (.istore 5, 2) := by decide +kernel
theorem dX6_finds_8 : decode cX6_finds 8 = .ok (.aload_n 0, 1) := by decide +kernel
theorem dX6_finds_9 : decode cX6_finds 9 = .ok (.getfield 43, 3) := by decide +kernel
theorem dX6_finds_12 : decode cX6_finds 12 = .ok (.iload_n 1, 1) := by decide +kernel
theorem dX6_finds_13 : decode cX6_finds 13 = .ok (.iaload, 1) := by decide +kernel
theorem dX6_finds_14 : decode cX6_finds 14 = .ok (.istore 6, 2) := by decide +kernel
theorem dX6_finds_16 : decode cX6_finds 16 = .ok (.aload_n 0, 1) := by decide +kernel
theorem dX6_finds_17 : decode cX6_finds 17 = .ok (.getfield 40, 3) := by decide +kernel
theorem dX6_finds_20 : decode cX6_finds 20 = .ok (.iload_n 1, 1) := by decide +kernel
theorem dX6_finds_21 : decode cX6_finds 21 = .ok (.iload_n 2, 1) := by decide +kernel
theorem dX6_finds_22 : decode cX6_finds 22 = .ok (.iload 5, 2) := by decide +kernel
theorem dX6_finds_24 : decode cX6_finds 24 = .ok (.if_icmp .le 7, 3) := by decide +kernel
theorem dX6_finds_27 : decode cX6_finds 27 = .ok (.iload_n 2, 1) := by decide +kernel
theorem dX6_finds_28 : decode cX6_finds 28 = .ok (.goto 5, 3) := by decide +kernel
theorem dX6_finds_31 : decode cX6_finds 31 = .ok (.iload 5, 2) := by decide +kernel
theorem dX6_finds_33 : decode cX6_finds 33 = .ok (.iastore, 1) := by decide +kernel
theorem dX6_finds_34 : decode cX6_finds 34 = .ok (.aload_n 0, 1) := by decide +kernel
theorem dX6_finds_35 : decode cX6_finds 35 = .ok (.getfield 43, 3) := by decide +kernel
theorem dX6_finds_38 : decode cX6_finds 38 = .ok (.iload_n 1, 1) := by decide +kernel
theorem dX6_finds_39 : decode cX6_finds 39 = .ok (.iload_n 3, 1) := by decide +kernel
theorem dX6_finds_40 : decode cX6_finds 40 = .ok (.iload 6, 2) := by decide +kernel
theorem dX6_finds_42 : decode cX6_finds 42 = .ok (.if_icmp .ge 7, 3) := by decide +kernel
theorem dX6_finds_45 : decode cX6_finds 45 = .ok (.iload_n 3, 1) := by decide +kernel
theorem dX6_finds_46 : decode cX6_finds 46 = .ok (.goto 5, 3) := by decide +kernel
theorem dX6_finds_49 : decode cX6_finds 49 = .ok (.iload 6, 2) := by decide +kernel
theorem dX6_finds_51 : decode cX6_finds 51 = .ok (.iastore, 1) := by decide +kernel
theorem dX6_finds_52 : decode cX6_finds 52 = .ok (.aload_n 0, 1) := by decide +kernel
theorem dX6_finds_53 : decode cX6_finds 53 = .ok (.invokevirtual 114, 3) := by decide +kernel
theorem dX6_finds_56 : decode cX6_finds 56 = .ok (.ifCond .eq 10, 3) := by decide +kernel
theorem dX6_finds_59 : decode cX6_finds 59 = .ok (.aload_n 0, 1) := by decide +kernel
theorem dX6_finds_60 : decode cX6_finds 60 = .ok (.invokevirtual 118, 3) := by decide +kernel
theorem dX6_finds_63 : decode cX6_finds 63 = .ok (.goto 4, 3) := by decide +kernel
theorem dX6_finds_66 : decode cX6_finds 66 = .ok (.iconst (-1), 1) := by decide +kernel
theorem dX6_finds_67 : decode cX6_finds 67 = .ok (.istore 7, 2) := by decide +kernel
theorem dX6_finds_69 : decode cX6_finds 69 = .ok (.iload 4, 2) := by decide +kernel
theorem dX6_finds_71 : decode cX6_finds 71 = .ok (.ifCond .eq 16, 3) := by decide +kernel
theorem dX6_finds_74 : decode cX6_finds 74 = .ok (.iload 7, 2) := by decide +kernel
theorem dX6_finds_76 : decode cX6_finds 76 = .ok (.iconst (-1), 1) := by decide +kernel
theorem dX6_finds_77 : decode cX6_finds 77 = .ok (.if_icmp .eq 10, 3) := by decide +kernel
theorem dX6_finds_80 : decode cX6_finds 80 = .ok (.aload_n 0, 1) := by decide +kernel
theorem dX6_finds_81 : decode cX6_finds 81 = .ok (.invokevirtual 122, 3) := by decide +kernel
theorem dX6_finds_84 : decode cX6_finds 84 = .ok (.goto 19, 3) := by decide +kernel
theorem dX6_finds_87 : decode cX6_finds 87 = .ok (.aload_n 0, 1) := by decide +kernel
theorem dX6_finds_88 : decode cX6_finds 88 = .ok (.getfield 40, 3) := by decide +kernel
theorem dX6_finds_91 : decode cX6_finds 91 = .ok (.iload_n 1, 1) := by decide +kernel
theorem dX6_finds_92 : decode cX6_finds 92 = .ok (.iload 5, 2) := by decide +kernel
theorem dX6_finds_94 : decode cX6_finds 94 = .ok (.iastore, 1) := by decide +kernel
theorem dX6_finds_95 : decode cX6_finds 95 = .ok (.aload_n 0, 1) := by decide +kernel
theorem dX6_finds_96 : decode cX6_finds 96 = .ok (.getfield 43, 3) := by decide +kernel
theorem dX6_finds_99 : decode cX6_finds 99 = .ok (.iload_n 1, 1) := by decide +kernel
theorem dX6_finds_100 : decode cX6_finds 100 = .ok (.iload 6, 2) := by decide +kernel
theorem dX6_finds_102 : decode cX6_finds 102 = .ok (.iastore, 1) := by decide +kernel
theorem dX6_finds_103 : decode cX6_finds 103 = .ok (.iload 7, 2) := by decide +kernel
theorem dX6_finds_105 : decode cX6_finds 105 = .ok (.ireturn, 1) := by decide +kernel
theorem dX6_find_0 : decode cX6_find 0 = .ok (.aload_n 0, 1) := by decide +kernel
theorem dX6_find_1 : decode cX6_find 1 = .ok (.aload_n 0, 1) := by decide +kernel
theorem dX6_find_2 : decode cX6_find 2 = .ok (.iload_n 1, 1) := by decide +kernel
theorem dX6_find_3 : decode cX6_find 3 = .ok (.invokevirtual 111, 3) := by decide +kernel
theorem dX6_find_6 : decode cX6_find 6 = .ok (.ifCond .ne 7, 3) := by decide +kernel
theorem dX6_find_9 : decode cX6_find 9 = .ok (.iconst 1, 1) := by decide +kernel
theorem dX6_find_10 : decode cX6_find 10 = .ok (.goto 17, 3) := by decide +kernel
theorem dX6_find_13 : decode cX6_find 13 = .ok (.aload_n 0, 1) := by decide +kernel
theorem dX6_find_14 : decode cX6_find 14 = .ok (.iload_n 2, 1) := by decide +kernel
theorem dX6_find_15 : decode cX6_find 15 = .ok (.iload_n 3, 1) := by decide +kernel
theorem dX6_find_16 : decode cX6_find 16 = .ok (.invokevirtual 125, 3) := by decide +kernel
theorem dX6_find_19 : decode cX6_find 19 = .ok (.ifCond .ne 7, 3) := by decide +kernel
theorem dX6_find_22 : decode cX6_find 22 = .ok (.iconst 2, 1) := by decide +kernel
theorem dX6_find_23 : decode cX6_find 23 = .ok (.goto 4, 3) := by decide +kernel
theorem dX6_find_26 : decode cX6_find 26 = .ok (.iconst 0, 1) := by decide +kernel
theorem dX6_find_27 : decode cX6_find 27 = .ok (.putfield 82, 3) := by decide +kernel
theorem dX6_find_30 : decode cX6_find 30 = .ok (.aload_n 0, 1) := by decide +kernel
theorem dX6_find_31 : decode cX6_find 31 = .ok (.getfield 82, 3) := by decide +kernel
theorem dX6_find_34 : decode cX6_find 34 = .ok (.ifCond .le 5, 3) := by decide +kernel
theorem dX6_find_37 : decode cX6_find 37 = .ok (.iconst 0, 1) := by decide +kernel
theorem dX6_find_38 : decode cX6_find 38 = .ok (.ireturn, 1) := by decide +kernel
theorem dX6_find_39 : decode cX6_find 39 = .ok (.aload_n 0, 1) := by decide +kernel
theorem dX6_find_40 : decode cX6_find 40 = .ok (.iload_n 1, 1) := by decide +kernel
theorem dX6_find_41 : decode cX6_find 41 = .ok (.iload_n 2, 1) := by decide +kernel
theorem dX6_find_42 : decode cX6_find 42 = .ok (.iload_n 3, 1) := by decide +kernel
theorem dX6_find_43 : decode cX6_find 43 = .ok (.iconst 1, 1) := by decide +kernel
theorem dX6_find_44 : decode cX6_find 44 = .ok (.invokevirtual 128, 3) := by decide +kernel
theorem dX6_find_47 : decode cX6_find 47 = .ok (.istore 4, 2) := by decide +kernel
theorem dX6_find_49 : decode cX6_find 49 = .ok (.aload_n 0, 1) := by decide +kernel
theorem dX6_find_50 : decode cX6_find 50 = .ok (.iload 4, 2) := by decide +kernel
theorem dX6_find_52 : decode cX6_find 52 = .ok (.iconst (-1), 1) := by decide +kernel
theorem dX6_find_53 : decode cX6_find 53 = .ok (.if_icmp .ne 7, 3) := by decide +kernel
theorem dX6_find_56 : decode cX6_find 56 = .ok (.iconst 3, 1) := by decide +kernel
theorem dX6_find_57 : decode cX6_find 57 = .ok (.goto 4, 3) := by decide +kernel
theorem dX6_find_60 : decode cX6_find 60 = .ok (.iconst 0, 1) := by decide +kernel
theorem dX6_find_61 : decode cX6_find 61 = .ok (.putfield 82, 3) := by decide +kernel
theorem dX6_find_64 : decode cX6_find 64 = .ok (.aload_n 0, 1) := by decide +kernel
theorem dX6_find_65 : decode cX6_find 65 = .ok (.getfield 82, 3) := by decide +kernel
theorem dX6_find_68 : decode cX6_find 68 = .ok (.ifCond .le 7, 3) := by decide +kernel
theorem dX6_find_71 : decode cX6_find 71 = .ok (.iconst 0, 1) := by decide +kernel
theorem dX6_find_72 : decode cX6_find 72 = .ok (.goto 5, 3) := by decide +kernel
theorem dX6_find_75 : decode cX6_find 75 = .ok (.iload 4, 2) := by decide +kernel
theorem dX6_find_77 : decode cX6_find 77 = .ok (.ireturn, 1) := by decide +kernel
theorem dX6_wouldMove_0 : decode cX6_wouldMove 0 = .ok (.aload_n 0, 1) := by decide +kernel
theorem dX6_wouldMove_1 : decode cX6_wouldMove 1 = .ok (.aload_n 0, 1) := by decide +kernel
theorem dX6_wouldMove_2 : decode cX6_wouldMove 2 = .ok (.iload_n 1, 1) := by decide +kernel
theorem dX6_wouldMove_3 : decode cX6_wouldMove 3 = .ok (.invokevirtual 111, 3) := by decide +kernel
theorem dX6_wouldMove_6 : decode cX6_wouldMove 6 = .ok (.ifCond .ne 7, 3) := by decide +kernel
theorem dX6_wouldMove_9 : decode cX6_wouldMove 9 = .ok (.iconst 1, 1) := by decide +kernel
theorem dX6_wouldMove_10 : decode cX6_wouldMove 10 = .ok (.goto 17, 3) := by decide +kernel
theorem dX6_wouldMove_13 : decode cX6_wouldMove 13 = .ok (.aload_n 0, 1) := by decide +kernel
theorem dX6_wouldMove_14 : decode cX6_wouldMove 14 = .ok (.iload_n 2, 1) := by decide +kernel
theorem dX6_wouldMove_15 : decode cX6_wouldMove 15 = .ok (.iload_n 3, 1) := by decide +kernel
theorem dX6_wouldMove_16 : decode cX6_wouldMove 16 = .ok (.invokevirtual 125, 3) := by decide +kernel
theorem dX6_wouldMove_19 : decode cX6_wouldMove 19 = .ok (.ifCond .ne 7, 3) := by decide +kernel
theorem dX6_wouldMove_22 : decode cX6_wouldMove 22 = .ok (.iconst 2, 1) := by decide +kernel
theorem dX6_wouldMove_23 : decode cX6_wouldMove 23 = .ok (.goto 4, 3) := by decide +kernel
theorem dX6_wouldMove_26 : decode cX6_wouldMove 26 = .ok (.iconst 0, 1) := by decide +kernel
theorem dX6_wouldMove_27 : decode cX6_wouldMove 27 = .ok (.putfield 82, 3) := by decide +kernel
theorem dX6_wouldMove_30 : decode cX6_wouldMove 30 = .ok (.aload_n 0, 1) := by decide +kernel
theorem dX6_wouldMove_31 : decode cX6_wouldMove 31 = .ok (.getfield 82, 3) := by decide +kernel
theorem dX6_wouldMove_34 : decode cX6_wouldMove 34 = .ok (.ifCond .le 7, 3) := by decide +kernel
theorem dX6_wouldMove_37 : decode cX6_wouldMove 37 = .ok (.iconst 0, 1) := by decide +kernel
theorem dX6_wouldMove_38 : decode cX6_wouldMove 38 = .ok (.goto 11, 3) := by decide +kernel
theorem dX6_wouldMove_41 : decode cX6_wouldMove 41 = .ok (.aload_n 0, 1) := by decide +kernel
theorem dX6_wouldMove_42 : decode cX6_wouldMove 42 = .ok (.iload_n 1, 1) := by decide +kernel
theorem dX6_wouldMove_43 : decode cX6_wouldMove 43 = .ok (.iload_n 2, 1) := by decide +kernel
theorem dX6_wouldMove_44 : decode cX6_wouldMove 44 = .ok (.iload_n 3, 1) := by decide +kernel
theorem dX6_wouldMove_45 : decode cX6_wouldMove 45 = .ok (.iconst 0, 1) := by decide +kernel
theorem dX6_wouldMove_46 : decode cX6_wouldMove 46 = .ok (.invokevirtual 128, 3) := by decide +kernel
theorem dX6_wouldMove_49 : decode cX6_wouldMove 49 = .ok (.ireturn, 1) := by decide +kernel
theorem dX6_tellsYear_0 : decode cX6_tellsYear 0 = .ok (.aload_n 0, 1) := by decide +kernel
theorem dX6_tellsYear_1 : decode cX6_tellsYear 1 = .ok (.aload_n 0, 1) := by decide +kernel
theorem dX6_tellsYear_2 : decode cX6_tellsYear 2 = .ok (.iload_n 1, 1) := by decide +kernel
theorem dX6_tellsYear_3 : decode cX6_tellsYear 3 = .ok (.invokevirtual 111, 3) := by decide +kernel
theorem dX6_tellsYear_6 : decode cX6_tellsYear 6 = .ok (.ifCond .eq 7, 3) := by decide +kernel
theorem dX6_tellsYear_9 : decode cX6_tellsYear 9 = .ok (.iconst 0, 1) := by decide +kernel
theorem dX6_tellsYear_10 : decode cX6_tellsYear 10 = .ok (.goto 4, 3) := by decide +kernel
theorem dX6_tellsYear_13 : decode cX6_tellsYear 13 = .ok (.iconst 1, 1) := by decide +kernel
theorem dX6_tellsYear_14 : decode cX6_tellsYear 14 = .ok (.putfield 82, 3) := by decide +kernel
theorem dX6_tellsYear_17 : decode cX6_tellsYear 17 = .ok (.aload_n 0, 1) := by decide +kernel
theorem dX6_tellsYear_18 : decode cX6_tellsYear 18 = .ok (.getfield 82, 3) := by decide +kernel
theorem dX6_tellsYear_21 : decode cX6_tellsYear 21 = .ok (.ifCond .le 7, 3) := by decide +kernel
theorem dX6_tellsYear_24 : decode cX6_tellsYear 24 = .ok (.iconst 0, 1) := by decide +kernel
theorem dX6_tellsYear_25 : decode cX6_tellsYear 25 = .ok (.goto 22, 3) := by decide +kernel
theorem dX6_tellsYear_28 : decode cX6_tellsYear 28 = .ok (.iload_n 2, 1) := by decide +kernel
theorem dX6_tellsYear_29 : decode cX6_tellsYear 29 = .ok (.ifCond .eq 12, 3) := by decide +kernel
theorem dX6_tellsYear_32 : decode cX6_tellsYear 32 = .ok (.aload_n 0, 1) := by decide +kernel
theorem dX6_tellsYear_33 : decode cX6_tellsYear 33 = .ok (.getfield 49, 3) := by decide +kernel
theorem dX6_tellsYear_36 : decode cX6_tellsYear 36 = .ok (.iload_n 1, 1) := by decide +kernel
theorem dX6_tellsYear_37 : decode cX6_tellsYear 37 = .ok (.iaload, 1) := by decide +kernel
theorem dX6_tellsYear_38 : decode cX6_tellsYear 38 = .ok (.goto 9, 3) := by decide +kernel
theorem dX6_tellsYear_41 : decode cX6_tellsYear 41 = .ok (.aload_n 0, 1) := by decide +kernel
theorem dX6_tellsYear_42 : decode cX6_tellsYear 42 = .ok (.getfield 46, 3) := by decide +kernel
theorem dX6_tellsYear_45 : decode cX6_tellsYear 45 = .ok (.iload_n 1, 1) := by decide +kernel
theorem dX6_tellsYear_46 : decode cX6_tellsYear 46 = .ok (.iaload, 1) := by decide +kernel
theorem dX6_tellsYear_47 : decode cX6_tellsYear 47 = .ok (.ireturn, 1) := by decide +kernel
theorem dX6_year_0 : decode cX6_year 0 = .ok (.aload_n 0, 1) := by decide +kernel
theorem dX6_year_1 : decode cX6_year 1 = .ok (.iload_n 1, 1) := by decide +kernel
theorem dX6_year_2 : decode cX6_year 2 = .ok (.iload_n 2, 1) := by decide +kernel
theorem dX6_year_3 : decode cX6_year 3 = .ok (.invokevirtual 132, 3) := by decide +kernel
theorem dX6_year_6 : decode cX6_year 6 = .ok (.ireturn, 1) := by decide +kernel
theorem dX6_yearAnew_0 : decode cX6_yearAnew 0 = .ok (.aload_n 0, 1) := by decide +kernel
theorem dX6_yearAnew_1 : decode cX6_yearAnew 1 = .ok (.iload_n 1, 1) := by decide +kernel
theorem dX6_yearAnew_2 : decode cX6_yearAnew 2 = .ok (.iload_n 2, 1) := by decide +kernel
theorem dX6_yearAnew_3 : decode cX6_yearAnew 3 = .ok (.invokevirtual 132, 3) := by decide +kernel
theorem dX6_yearAnew_6 : decode cX6_yearAnew 6 = .ok (.ireturn, 1) := by decide +kernel
theorem dX6_asksTwo_0 : decode cX6_asksTwo 0 = .ok (.aload_n 0, 1) := by decide +kernel
theorem dX6_asksTwo_1 : decode cX6_asksTwo 1 = .ok (.aload_n 0, 1) := by decide +kernel
theorem dX6_asksTwo_2 : decode cX6_asksTwo 2 = .ok (.iload_n 1, 1) := by decide +kernel
theorem dX6_asksTwo_3 : decode cX6_asksTwo 3 = .ok (.invokevirtual 111, 3) := by decide +kernel
theorem dX6_asksTwo_6 : decode cX6_asksTwo 6 = .ok (.ifCond .eq 11, 3) := by decide +kernel
theorem dX6_asksTwo_9 : decode cX6_asksTwo 9 = .ok (.aload_n 0, 1) := by decide +kernel
theorem dX6_asksTwo_10 : decode cX6_asksTwo 10 = .ok (.iload_n 2, 1) := by decide +kernel
theorem dX6_asksTwo_11 : decode cX6_asksTwo 11 = .ok (.invokevirtual 111, 3) := by decide +kernel
theorem dX6_asksTwo_14 : decode cX6_asksTwo 14 = .ok (.ifCond .ne 7, 3) := by decide +kernel
theorem dX6_asksTwo_17 : decode cX6_asksTwo 17 = .ok (.iconst 1, 1) := by decide +kernel
theorem dX6_asksTwo_18 : decode cX6_asksTwo 18 = .ok (.goto 13, 3) := by decide +kernel
theorem dX6_asksTwo_21 : decode cX6_asksTwo 21 = .ok (.iload_n 1, 1) := by decide +kernel
theorem dX6_asksTwo_22 : decode cX6_asksTwo 22 = .ok (.iload_n 2, 1) := by decide +kernel
theorem dX6_asksTwo_23 : decode cX6_asksTwo 23 = .ok (.if_icmp .ne 7, 3) := by decide +kernel
theorem dX6_asksTwo_26 : decode cX6_asksTwo 26 = .ok (.iconst 2, 1) := by decide +kernel
theorem dX6_asksTwo_27 : decode cX6_asksTwo 27 = .ok (.goto 4, 3) := by decide +kernel
theorem dX6_asksTwo_30 : decode cX6_asksTwo 30 = .ok (.iconst 0, 1) := by decide +kernel
theorem dX6_asksTwo_31 : decode cX6_asksTwo 31 = .ok (.putfield 82, 3) := by decide +kernel
theorem dX6_asksTwo_34 : decode cX6_asksTwo 34 = .ok (.aload_n 0, 1) := by decide +kernel
theorem dX6_asksTwo_35 : decode cX6_asksTwo 35 = .ok (.getfield 82, 3) := by decide +kernel
theorem dX6_asksTwo_38 : decode cX6_asksTwo 38 = .ok (.ifCond .ne 7, 3) := by decide +kernel
theorem dX6_asksTwo_41 : decode cX6_asksTwo 41 = .ok (.iconst 1, 1) := by decide +kernel
theorem dX6_asksTwo_42 : decode cX6_asksTwo 42 = .ok (.goto 4, 3) := by decide +kernel
theorem dX6_asksTwo_45 : decode cX6_asksTwo 45 = .ok (.iconst 0, 1) := by decide +kernel
theorem dX6_asksTwo_46 : decode cX6_asksTwo 46 = .ok (.ireturn, 1) := by decide +kernel
theorem dX6_seal_0 : decode cX6_seal 0 = .ok (.aload_n 0, 1) := by decide +kernel
theorem dX6_seal_1 : decode cX6_seal 1 = .ok (.iload_n 1, 1) := by decide +kernel
theorem dX6_seal_2 : decode cX6_seal 2 = .ok (.iload_n 2, 1) := by decide +kernel
theorem dX6_seal_3 : decode cX6_seal 3 = .ok (.invokevirtual 136, 3) := by decide +kernel
theorem dX6_seal_6 : decode cX6_seal 6 = .ok (.ifCond .ne 5, 3) := by decide +kernel
theorem dX6_seal_9 : decode cX6_seal 9 = .ok (.iconst 0, 1) := by decide +kernel
theorem dX6_seal_10 : decode cX6_seal 10 = .ok (.ireturn, 1) := by decide +kernel
theorem dX6_seal_11 : decode cX6_seal 11 = .ok (.aload_n 0, 1) := by decide +kernel
theorem dX6_seal_12 : decode cX6_seal 12 = .ok (.getfield 28, 3) := by decide +kernel
theorem dX6_seal_15 : decode cX6_seal 15 = .ok (.iload_n 1, 1) := by decide +kernel
theorem dX6_seal_16 : decode cX6_seal 16 = .ok (.iaload, 1) := by decide +kernel
theorem dX6_seal_17 : decode cX6_seal 17 = .ok (.iload_n 2, 1) := by decide +kernel
theorem dX6_seal_18 : decode cX6_seal 18 = .ok (.invokestatic 104, 3) := by decide +kernel
theorem dX6_seal_21 : decode cX6_seal 21 = .ok (.istore_n 3, 1) := by decide +kernel
theorem dX6_seal_22 : decode cX6_seal 22 = .ok (.aload_n 0, 1) := by decide +kernel
theorem dX6_seal_23 : decode cX6_seal 23 = .ok (.getfield 28, 3) := by decide +kernel
theorem dX6_seal_26 : decode cX6_seal 26 = .ok (.iload_n 1, 1) := by decide +kernel
theorem dX6_seal_27 : decode cX6_seal 27 = .ok (.dup2, 1) := by decide +kernel
theorem dX6_seal_28 : decode cX6_seal 28 = .ok (.iaload, 1) := by decide +kernel
theorem dX6_seal_29 : decode cX6_seal 29 = .ok (.iconst 1, 1) := by decide +kernel
theorem dX6_seal_30 : decode cX6_seal 30 = .ok (.iload_n 2, 1) := by decide +kernel
theorem dX6_seal_31 : decode cX6_seal 31 = .ok (.ishl, 1) := by decide +kernel
theorem dX6_seal_32 : decode cX6_seal 32 = .ok (.ior, 1) := by decide +kernel
theorem dX6_seal_33 : decode cX6_seal 33 = .ok (.iastore, 1) := by decide +kernel
theorem dX6_seal_34 : decode cX6_seal 34 = .ok (.aload_n 0, 1) := by decide +kernel
theorem dX6_seal_35 : decode cX6_seal 35 = .ok (.getfield 28, 3) := by decide +kernel
theorem dX6_seal_38 : decode cX6_seal 38 = .ok (.iload_n 2, 1) := by decide +kernel
theorem dX6_seal_39 : decode cX6_seal 39 = .ok (.dup2, 1) := by decide +kernel
theorem dX6_seal_40 : decode cX6_seal 40 = .ok (.iaload, 1) := by decide +kernel
theorem dX6_seal_41 : decode cX6_seal 41 = .ok (.iconst 1, 1) := by decide +kernel
theorem dX6_seal_42 : decode cX6_seal 42 = .ok (.iload_n 1, 1) := by decide +kernel
theorem dX6_seal_43 : decode cX6_seal 43 = .ok (.ishl, 1) := by decide +kernel
theorem dX6_seal_44 : decode cX6_seal 44 = .ok (.ior, 1) := by decide +kernel
theorem dX6_seal_45 : decode cX6_seal 45 = .ok (.iastore, 1) := by decide +kernel
theorem dX6_seal_46 : decode cX6_seal 46 = .ok (.iload_n 3, 1) := by decide +kernel
theorem dX6_seal_47 : decode cX6_seal 47 = .ok (.ireturn, 1) := by decide +kernel
theorem dX6_block_0 : decode cX6_block 0 = .ok (.aload_n 0, 1) := by decide +kernel
theorem dX6_block_1 : decode cX6_block 1 = .ok (.iload_n 1, 1) := by decide +kernel
theorem dX6_block_2 : decode cX6_block 2 = .ok (.iload_n 2, 1) := by decide +kernel
theorem dX6_block_3 : decode cX6_block 3 = .ok (.invokevirtual 136, 3) := by decide +kernel
theorem dX6_block_6 : decode cX6_block 6 = .ok (.ifCond .ne 5, 3) := by decide +kernel
theorem dX6_block_9 : decode cX6_block 9 = .ok (.iconst 0, 1) := by decide +kernel
theorem dX6_block_10 : decode cX6_block 10 = .ok (.ireturn, 1) := by decide +kernel
theorem dX6_block_11 : decode cX6_block 11 = .ok (.aload_n 0, 1) := by decide +kernel
theorem dX6_block_12 : decode cX6_block 12 = .ok (.getfield 31, 3) := by decide +kernel
theorem dX6_block_15 : decode cX6_block 15 = .ok (.iload_n 1, 1) := by decide +kernel
theorem dX6_block_16 : decode cX6_block 16 = .ok (.iaload, 1) := by decide +kernel
theorem dX6_block_17 : decode cX6_block 17 = .ok (.iload_n 2, 1) := by decide +kernel
theorem dX6_block_18 : decode cX6_block 18 = .ok (.invokestatic 104, 3) := by decide +kernel
theorem dX6_block_21 : decode cX6_block 21 = .ok (.istore 4, 2) := by decide +kernel
theorem dX6_block_23 : decode cX6_block 23 = .ok (.aload_n 0, 1) := by decide +kernel
theorem dX6_block_24 : decode cX6_block 24 = .ok (.getfield 31, 3) := by decide +kernel
theorem dX6_block_27 : decode cX6_block 27 = .ok (.iload_n 1, 1) := by decide +kernel
theorem dX6_block_28 : decode cX6_block 28 = .ok (.iload_n 3, 1) := by decide +kernel
theorem dX6_block_29 : decode cX6_block 29 = .ok (.ifCond .eq 16, 3) := by decide +kernel
theorem dX6_block_32 : decode cX6_block 32 = .ok (.aload_n 0, 1) := by decide +kernel
theorem dX6_block_33 : decode cX6_block 33 = .ok (.getfield 31, 3) := by decide +kernel
theorem dX6_block_36 : decode cX6_block 36 = .ok (.iload_n 1, 1) := by decide +kernel
theorem dX6_block_37 : decode cX6_block 37 = .ok (.iaload, 1) := by decide +kernel
theorem dX6_block_38 : decode cX6_block 38 = .ok (.iconst 1, 1) := by decide +kernel
theorem dX6_block_39 : decode cX6_block 39 = .ok (.iload_n 2, 1) := by decide +kernel
theorem dX6_block_40 : decode cX6_block 40 = .ok (.ishl, 1) := by decide +kernel
theorem dX6_block_41 : decode cX6_block 41 = .ok (.ior, 1) := by decide +kernel
theorem dX6_block_42 : decode cX6_block 42 = .ok (.goto 15, 3) := by decide +kernel
theorem dX6_block_45 : decode cX6_block 45 = .ok (.aload_n 0, 1) := by decide +kernel
theorem dX6_block_46 : decode cX6_block 46 = .ok (.getfield 31, 3) := by decide +kernel
theorem dX6_block_49 : decode cX6_block 49 = .ok (.iload_n 1, 1) := by decide +kernel
theorem dX6_block_50 : decode cX6_block 50 = .ok (.iaload, 1) := by decide +kernel
theorem dX6_block_51 : decode cX6_block 51 = .ok (.iconst 1, 1) := by decide +kernel
theorem dX6_block_52 : decode cX6_block 52 = .ok (.iload_n 2, 1) := by decide +kernel
theorem dX6_block_53 : decode cX6_block 53 = .ok (.ishl, 1) := by decide +kernel
theorem dX6_block_54 : decode cX6_block 54 = .ok (.iconst (-1), 1) := by decide +kernel
theorem dX6_block_55 : decode cX6_block 55 = .ok (.ixor, 1) := by decide +kernel
theorem dX6_block_56 : decode cX6_block 56 = .ok (.iand, 1) := by decide +kernel
theorem dX6_block_57 : decode cX6_block 57 = .ok (.iastore, 1) := by decide +kernel
theorem dX6_block_58 : decode cX6_block 58 = .ok (.aload_n 0, 1) := by decide +kernel
theorem dX6_block_59 : decode cX6_block 59 = .ok (.getfield 31, 3) := by decide +kernel
theorem dX6_block_62 : decode cX6_block 62 = .ok (.iload_n 2, 1) := by decide +kernel
theorem dX6_block_63 : decode cX6_block 63 = .ok (.iload_n 3, 1) := by decide +kernel
theorem dX6_block_64 : decode cX6_block 64 = .ok (.ifCond .eq 16, 3) := by decide +kernel
theorem dX6_block_67 : decode cX6_block 67 = .ok (.aload_n 0, 1) := by decide +kernel
theorem dX6_block_68 : decode cX6_block 68 = .ok (.getfield 31, 3) := by decide +kernel
theorem dX6_block_71 : decode cX6_block 71 = .ok (.iload_n 2, 1) := by decide +kernel
theorem dX6_block_72 : decode cX6_block 72 = .ok (.iaload, 1) := by decide +kernel
theorem dX6_block_73 : decode cX6_block 73 = .ok (.iconst 1, 1) := by decide +kernel
theorem dX6_block_74 : decode cX6_block 74 = .ok (.iload_n 1, 1) := by decide +kernel
theorem dX6_block_75 : decode cX6_block 75 = .ok (.ishl, 1) := by decide +kernel
theorem dX6_block_76 : decode cX6_block 76 = .ok (.ior, 1) := by decide +kernel
theorem dX6_block_77 : decode cX6_block 77 = .ok (.goto 15, 3) := by decide +kernel
theorem dX6_block_80 : decode cX6_block 80 = .ok (.aload_n 0, 1) := by decide +kernel
theorem dX6_block_81 : decode cX6_block 81 = .ok (.getfield 31, 3) := by decide +kernel
theorem dX6_block_84 : decode cX6_block 84 = .ok (.iload_n 2, 1) := by decide +kernel
theorem dX6_block_85 : decode cX6_block 85 = .ok (.iaload, 1) := by decide +kernel
theorem dX6_block_86 : decode cX6_block 86 = .ok (.iconst 1, 1) := by decide +kernel
theorem dX6_block_87 : decode cX6_block 87 = .ok (.iload_n 1, 1) := by decide +kernel
theorem dX6_block_88 : decode cX6_block 88 = .ok (.ishl, 1) := by decide +kernel
theorem dX6_block_89 : decode cX6_block 89 = .ok (.iconst (-1), 1) := by decide +kernel
theorem dX6_block_90 : decode cX6_block 90 = .ok (.ixor, 1) := by decide +kernel
theorem dX6_block_91 : decode cX6_block 91 = .ok (.iand, 1) := by decide +kernel
theorem dX6_block_92 : decode cX6_block 92 = .ok (.iastore, 1) := by decide +kernel
theorem dX6_block_93 : decode cX6_block 93 = .ok (.iload 4, 2) := by decide +kernel
theorem dX6_block_95 : decode cX6_block 95 = .ok (.ireturn, 1) := by decide +kernel
theorem dX6_weightOf_0 : decode cX6_weightOf 0 = .ok (.aload_n 0, 1) := by decide +kernel
theorem dX6_weightOf_1 : decode cX6_weightOf 1 = .ok (.getfield 7, 3) := by decide +kernel
theorem dX6_weightOf_4 : decode cX6_weightOf 4 = .ok (.iload_n 1, 1) := by decide +kernel
theorem dX6_weightOf_5 : decode cX6_weightOf 5 = .ok (.iaload, 1) := by decide +kernel
theorem dX6_weightOf_6 : decode cX6_weightOf 6 = .ok (.aload_n 0, 1) := by decide +kernel
theorem dX6_weightOf_7 : decode cX6_weightOf 7 = .ok (.getfield 7, 3) := by decide +kernel
theorem dX6_weightOf_10 : decode cX6_weightOf 10 = .ok (.iload_n 2, 1) := by decide +kernel
theorem dX6_weightOf_11 : decode cX6_weightOf 11 = .ok (.iaload, 1) := by decide +kernel
theorem dX6_weightOf_12 : decode cX6_weightOf 12 = .ok (.if_icmp .ne 7, 3) := by decide +kernel
theorem dX6_weightOf_15 : decode cX6_weightOf 15 = .ok (.iconst 2, 1) := by decide +kernel
theorem dX6_weightOf_16 : decode cX6_weightOf 16 = .ok (.goto 4, 3) := by decide +kernel
theorem dX6_weightOf_19 : decode cX6_weightOf 19 = .ok (.iconst 0, 1) := by decide +kernel
theorem dX6_weightOf_20 : decode cX6_weightOf 20 = .ok (.istore_n 3, 1) := by decide +kernel
theorem dX6_weightOf_21 : decode cX6_weightOf 21 = .ok (.iload_n 3, 1) := by decide +kernel
theorem dX6_weightOf_22 : decode cX6_weightOf 22 = .ok (.aload_n 0, 1) := by decide +kernel
theorem dX6_weightOf_23 : decode cX6_weightOf 23 = .ok (.getfield 13, 3) := by decide +kernel
theorem dX6_weightOf_26 : decode cX6_weightOf 26 = .ok (.iload_n 1, 1) := by decide +kernel
theorem dX6_weightOf_27 : decode cX6_weightOf 27 = .ok (.iaload, 1) := by decide +kernel
theorem dX6_weightOf_28 : decode cX6_weightOf 28 = .ok (.iconst (-1), 1) := by decide +kernel
theorem dX6_weightOf_29 : decode cX6_weightOf 29 = .ok (.if_icmp .eq 22, 3) := by decide +kernel
theorem dX6_weightOf_32 : decode cX6_weightOf 32 = .ok (.aload_n 0, 1) := by decide +kernel
theorem dX6_weightOf_33 : decode cX6_weightOf 33 = .ok (.getfield 13, 3) := by decide +kernel
theorem dX6_weightOf_36 : decode cX6_weightOf 36 = .ok (.iload_n 1, 1) := by decide +kernel
theorem dX6_weightOf_37 : decode cX6_weightOf 37 = .ok (.iaload, 1) := by decide +kernel
theorem dX6_weightOf_38 : decode cX6_weightOf 38 = .ok (.aload_n 0, 1) := by decide +kernel
theorem dX6_weightOf_39 : decode cX6_weightOf 39 = .ok (.getfield 13, 3) := by decide +kernel
theorem dX6_weightOf_42 : decode cX6_weightOf 42 = .ok (.iload_n 2, 1) := by decide +kernel
theorem dX6_weightOf_43 : decode cX6_weightOf 43 = .ok (.iaload, 1) := by decide +kernel
theorem dX6_weightOf_44 : decode cX6_weightOf 44 = .ok (.if_icmp .ne 7, 3) := by decide +kernel
theorem dX6_weightOf_47 : decode cX6_weightOf 47 = .ok (.iconst 3, 1) := by decide +kernel
theorem dX6_weightOf_48 : decode cX6_weightOf 48 = .ok (.goto 4, 3) := by decide +kernel
theorem dX6_weightOf_51 : decode cX6_weightOf 51 = .ok (.iconst 0, 1) := by decide +kernel
theorem dX6_weightOf_52 : decode cX6_weightOf 52 = .ok (.iadd, 1) := by decide +kernel
theorem dX6_weightOf_53 : decode cX6_weightOf 53 = .ok (.istore_n 3, 1) := by decide +kernel
theorem dX6_weightOf_54 : decode cX6_weightOf 54 = .ok (.iload_n 3, 1) := by decide +kernel
theorem dX6_weightOf_55 : decode cX6_weightOf 55 = .ok (.aload_n 0, 1) := by decide +kernel
theorem dX6_weightOf_56 : decode cX6_weightOf 56 = .ok (.getfield 16, 3) := by decide +kernel
theorem dX6_weightOf_59 : decode cX6_weightOf 59 = .ok (.iload_n 1, 1) := by decide +kernel
theorem dX6_weightOf_60 : decode cX6_weightOf 60 = .ok (.iaload, 1) := by decide +kernel
theorem dX6_weightOf_61 : decode cX6_weightOf 61 = .ok (.aload_n 0, 1) := by decide +kernel
theorem dX6_weightOf_62 : decode cX6_weightOf 62 = .ok (.getfield 16, 3) := by decide +kernel
theorem dX6_weightOf_65 : decode cX6_weightOf 65 = .ok (.iload_n 2, 1) := by decide +kernel
theorem dX6_weightOf_66 : decode cX6_weightOf 66 = .ok (.iaload, 1) := by decide +kernel
theorem dX6_weightOf_67 : decode cX6_weightOf 67 = .ok (.if_icmp .ne 7, 3) := by decide +kernel
theorem dX6_weightOf_70 : decode cX6_weightOf 70 = .ok (.iconst 1, 1) := by decide +kernel
theorem dX6_weightOf_71 : decode cX6_weightOf 71 = .ok (.goto 4, 3) := by decide +kernel
theorem dX6_weightOf_74 : decode cX6_weightOf 74 = .ok (.iconst 0, 1) := by decide +kernel
theorem dX6_weightOf_75 : decode cX6_weightOf 75 = .ok (.iadd, 1) := by decide +kernel
theorem dX6_weightOf_76 : decode cX6_weightOf 76 = .ok (.istore_n 3, 1) := by decide +kernel
theorem dX6_weightOf_77 : decode cX6_weightOf 77 = .ok (.iload_n 3, 1) := by decide +kernel
theorem dX6_weightOf_78 : decode cX6_weightOf 78 = .ok (.aload_n 0, 1) := by decide +kernel
theorem dX6_weightOf_79 : decode cX6_weightOf 79 = .ok (.getfield 19, 3) := by decide +kernel
theorem dX6_weightOf_82 : decode cX6_weightOf 82 = .ok (.iload_n 1, 1) := by decide +kernel
theorem dX6_weightOf_83 : decode cX6_weightOf 83 = .ok (.iaload, 1) := by decide +kernel
theorem dX6_weightOf_84 : decode cX6_weightOf 84 = .ok (.iconst (-1), 1) := by decide +kernel
theorem dX6_weightOf_85 : decode cX6_weightOf 85 = .ok (.if_icmp .eq 22, 3) := by decide +kernel
theorem dX6_weightOf_88 : decode cX6_weightOf 88 = .ok (.aload_n 0, 1) := by decide +kernel
theorem dX6_weightOf_89 : decode cX6_weightOf 89 = .ok (.getfield 19, 3) := by decide +kernel
theorem dX6_weightOf_92 : decode cX6_weightOf 92 = .ok (.iload_n 1, 1) := by decide +kernel
theorem dX6_weightOf_93 : decode cX6_weightOf 93 = .ok (.iaload, 1) := by decide +kernel
theorem dX6_weightOf_94 : decode cX6_weightOf 94 = .ok (.aload_n 0, 1) := by decide +kernel
theorem dX6_weightOf_95 : decode cX6_weightOf 95 = .ok (.getfield 19, 3) := by decide +kernel
theorem dX6_weightOf_98 : decode cX6_weightOf 98 = .ok (.iload_n 2, 1) := by decide +kernel
theorem dX6_weightOf_99 : decode cX6_weightOf 99 = .ok (.iaload, 1) := by decide +kernel
theorem dX6_weightOf_100 : decode cX6_weightOf 100 = .ok (.if_icmp .ne 7, 3) := by decide +kernel
theorem dX6_weightOf_103 : decode cX6_weightOf 103 = .ok (.iconst 2, 1) := by decide +kernel
theorem dX6_weightOf_104 : decode cX6_weightOf 104 = .ok (.goto 4, 3) := by decide +kernel
theorem dX6_weightOf_107 : decode cX6_weightOf 107 = .ok (.iconst 0, 1) := by decide +kernel
theorem dX6_weightOf_108 : decode cX6_weightOf 108 = .ok (.iadd, 1) := by decide +kernel
theorem dX6_weightOf_109 : decode cX6_weightOf 109 = .ok (.istore_n 3, 1) := by decide +kernel
theorem dX6_weightOf_110 : decode cX6_weightOf 110 = .ok (.iload_n 3, 1) := by decide +kernel
theorem dX6_weightOf_111 : decode cX6_weightOf 111 = .ok (.aload_n 0, 1) := by decide +kernel
theorem dX6_weightOf_112 : decode cX6_weightOf 112 = .ok (.getfield 28, 3) := by decide +kernel
theorem dX6_weightOf_115 : decode cX6_weightOf 115 = .ok (.iload_n 1, 1) := by decide +kernel
theorem dX6_weightOf_116 : decode cX6_weightOf 116 = .ok (.iaload, 1) := by decide +kernel
theorem dX6_weightOf_117 : decode cX6_weightOf 117 = .ok (.iload_n 2, 1) := by decide +kernel
theorem dX6_weightOf_118 : decode cX6_weightOf 118 = .ok (.invokestatic 104, 3) := by decide +kernel
theorem dX6_weightOf_121 : decode cX6_weightOf 121 = .ok (.ifCond .eq 7, 3) := by decide +kernel
theorem dX6_weightOf_124 : decode cX6_weightOf 124 = .ok (.iconst 5, 1) := by decide +kernel
theorem dX6_weightOf_125 : decode cX6_weightOf 125 = .ok (.goto 4, 3) := by decide +kernel
theorem dX6_weightOf_128 : decode cX6_weightOf 128 = .ok (.iconst 0, 1) := by decide +kernel
theorem dX6_weightOf_129 : decode cX6_weightOf 129 = .ok (.iadd, 1) := by decide +kernel
theorem dX6_weightOf_130 : decode cX6_weightOf 130 = .ok (.ireturn, 1) := by decide +kernel
theorem dX6_weight_0 : decode cX6_weight 0 = .ok (.aload_n 0, 1) := by decide +kernel
theorem dX6_weight_1 : decode cX6_weight 1 = .ok (.iload_n 1, 1) := by decide +kernel
theorem dX6_weight_2 : decode cX6_weight 2 = .ok (.iload_n 2, 1) := by decide +kernel
theorem dX6_weight_3 : decode cX6_weight 3 = .ok (.invokevirtual 136, 3) := by decide +kernel
theorem dX6_weight_6 : decode cX6_weight 6 = .ok (.ifCond .eq 12, 3) := by decide +kernel
theorem dX6_weight_9 : decode cX6_weight 9 = .ok (.aload_n 0, 1) := by decide +kernel
theorem dX6_weight_10 : decode cX6_weight 10 = .ok (.iload_n 1, 1) := by decide +kernel
theorem dX6_weight_11 : decode cX6_weight 11 = .ok (.iload_n 2, 1) := by decide +kernel
theorem dX6_weight_12 : decode cX6_weight 12 = .ok (.invokevirtual 139, 3) := by decide +kernel
theorem dX6_weight_15 : decode cX6_weight 15 = .ok (.goto 4, 3) := by decide +kernel
theorem dX6_weight_18 : decode cX6_weight 18 = .ok (.iconst 0, 1) := by decide +kernel
theorem dX6_weight_19 : decode cX6_weight 19 = .ok (.ireturn, 1) := by decide +kernel
theorem dX6_areOfUnlikeFamilies_0 : decode cX6_areOfUnlikeFamilies 0 = .ok (.aload_n 0, 1) := by decide +kernel
theorem dX6_areOfUnlikeFamilies_1 : decode cX6_areOfUnlikeFamilies 1 = .ok (.getfield 13, 3) := by decide +kernel
theorem dX6_areOfUnlikeFamilies_4 : decode cX6_areOfUnlikeFamilies 4 = .ok (.iload_n 1, 1) := by decide +kernel
theorem dX6_areOfUnlikeFamilies_5 : decode cX6_areOfUnlikeFamilies 5 = .ok (.iaload, 1) := by decide +kernel
theorem dX6_areOfUnlikeFamilies_6 : decode cX6_areOfUnlikeFamilies 6 = .ok (.iconst (-1), 1) := by decide +kernel
theorem dX6_areOfUnlikeFamilies_7 : decode cX6_areOfUnlikeFamilies 7 = .ok (.if_icmp .eq 32, 3) := by decide +kernel
theorem dX6_areOfUnlikeFamilies_10 : decode cX6_areOfUnlikeFamilies 10 = .ok (.aload_n 0, 1) := by decide +kernel
theorem dX6_areOfUnlikeFamilies_11 : decode cX6_areOfUnlikeFamilies 11 = .ok (.getfield 13, 3) := by decide +kernel
theorem dX6_areOfUnlikeFamilies_14 : decode cX6_areOfUnlikeFamilies 14 = .ok (.iload_n 2, 1) := by decide +kernel
theorem dX6_areOfUnlikeFamilies_15 : decode cX6_areOfUnlikeFamilies 15 = .ok (.iaload, 1) := by decide +kernel
theorem dX6_areOfUnlikeFamilies_16 : decode cX6_areOfUnlikeFamilies 16 = .ok (.iconst (-1), 1) := by decide +kernel
theorem dX6_areOfUnlikeFamilies_17 : decode cX6_areOfUnlikeFamilies 17 = .ok (.if_icmp .eq 22, 3) := by decide +kernel
theorem dX6_areOfUnlikeFamilies_20 : decode cX6_areOfUnlikeFamilies 20 = .ok (.aload_n 0, 1) := by decide +kernel
theorem dX6_areOfUnlikeFamilies_21 : decode cX6_areOfUnlikeFamilies 21 = .ok (.getfield 13, 3) := by decide +kernel
theorem dX6_areOfUnlikeFamilies_24 : decode cX6_areOfUnlikeFamilies 24 = .ok (.iload_n 1, 1) := by decide +kernel
theorem dX6_areOfUnlikeFamilies_25 : decode cX6_areOfUnlikeFamilies 25 = .ok (.iaload, 1) := by decide +kernel
theorem dX6_areOfUnlikeFamilies_26 : decode cX6_areOfUnlikeFamilies 26 = .ok (.aload_n 0, 1) := by decide +kernel
theorem dX6_areOfUnlikeFamilies_27 : decode cX6_areOfUnlikeFamilies 27 = .ok (.getfield 13, 3) := by decide +kernel
theorem dX6_areOfUnlikeFamilies_30 : decode cX6_areOfUnlikeFamilies 30 = .ok (.iload_n 2, 1) := by decide +kernel
theorem dX6_areOfUnlikeFamilies_31 : decode cX6_areOfUnlikeFamilies 31 = .ok (.iaload, 1) := by decide +kernel
theorem dX6_areOfUnlikeFamilies_32 : decode cX6_areOfUnlikeFamilies 32 = .ok (.if_icmp .eq 7, 3) := by decide +kernel
theorem dX6_areOfUnlikeFamilies_35 : decode cX6_areOfUnlikeFamilies 35 = .ok (.iconst 1, 1) := by decide +kernel
theorem dX6_areOfUnlikeFamilies_36 : decode cX6_areOfUnlikeFamilies 36 = .ok (.goto 4, 3) := by decide +kernel
theorem dX6_areOfUnlikeFamilies_39 : decode cX6_areOfUnlikeFamilies 39 = .ok (.iconst 0, 1) := by decide +kernel
theorem dX6_areOfUnlikeFamilies_40 : decode cX6_areOfUnlikeFamilies 40 = .ok (.ireturn, 1) := by decide +kernel
theorem dX6_areBarred_0 : decode cX6_areBarred 0 = .ok (.aload_n 0, 1) := by decide +kernel
theorem dX6_areBarred_1 : decode cX6_areBarred 1 = .ok (.getfield 19, 3) := by decide +kernel
theorem dX6_areBarred_4 : decode cX6_areBarred 4 = .ok (.iload_n 1, 1) := by decide +kernel
theorem dX6_areBarred_5 : decode cX6_areBarred 5 = .ok (.iaload, 1) := by decide +kernel
theorem dX6_areBarred_6 : decode cX6_areBarred 6 = .ok (.iconst (-1), 1) := by decide +kernel
theorem dX6_areBarred_7 : decode cX6_areBarred 7 = .ok (.if_icmp .eq 40, 3) := by decide +kernel
theorem dX6_areBarred_10 : decode cX6_areBarred 10 = .ok (.aload_n 0, 1) := by decide +kernel
theorem dX6_areBarred_11 : decode cX6_areBarred 11 = .ok (.getfield 19, 3) := by decide +kernel
theorem dX6_areBarred_14 : decode cX6_areBarred 14 = .ok (.iload_n 2, 1) := by decide +kernel
theorem dX6_areBarred_15 : decode cX6_areBarred 15 = .ok (.iaload, 1) := by decide +kernel
theorem dX6_areBarred_16 : decode cX6_areBarred 16 = .ok (.iconst (-1), 1) := by decide +kernel
theorem dX6_areBarred_17 : decode cX6_areBarred 17 = .ok (.if_icmp .eq 30, 3) := by decide +kernel
theorem dX6_areBarred_20 : decode cX6_areBarred 20 = .ok (.aload_n 0, 1) := by decide +kernel
theorem dX6_areBarred_21 : decode cX6_areBarred 21 = .ok (.getfield 25, 3) := by decide +kernel
theorem dX6_areBarred_24 : decode cX6_areBarred 24 = .ok (.aload_n 0, 1) := by decide +kernel
theorem dX6_areBarred_25 : decode cX6_areBarred 25 = .ok (.getfield 19, 3) := by decide +kernel
theorem dX6_areBarred_28 : decode cX6_areBarred 28 = .ok (.iload_n 1, 1) := by decide +kernel
theorem dX6_areBarred_29 : decode cX6_areBarred 29 = .ok (.iaload, 1) := by decide +kernel
theorem dX6_areBarred_30 : decode cX6_areBarred 30 = .ok (.iaload, 1) := by decide +kernel
theorem dX6_areBarred_31 : decode cX6_areBarred 31 = .ok (.aload_n 0, 1) := by decide +kernel
theorem dX6_areBarred_32 : decode cX6_areBarred 32 = .ok (.getfield 19, 3) := by decide +kernel
theorem dX6_areBarred_35 : decode cX6_areBarred 35 = .ok (.iload_n 2, 1) := by decide +kernel
theorem dX6_areBarred_36 : decode cX6_areBarred 36 = .ok (.iaload, 1) := by decide +kernel
theorem dX6_areBarred_37 : decode cX6_areBarred 37 = .ok (.invokestatic 104, 3) := by decide +kernel
theorem dX6_areBarred_40 : decode cX6_areBarred 40 = .ok (.ifCond .eq 7, 3) := by decide +kernel
theorem dX6_areBarred_43 : decode cX6_areBarred 43 = .ok (.iconst 1, 1) := by decide +kernel
theorem dX6_areBarred_44 : decode cX6_areBarred 44 = .ok (.goto 4, 3) := by decide +kernel
theorem dX6_areBarred_47 : decode cX6_areBarred 47 = .ok (.iconst 0, 1) := by decide +kernel
theorem dX6_areBarred_48 : decode cX6_areBarred 48 = .ok (.istore_n 3, 1) := by decide +kernel
theorem dX6_areBarred_49 : decode cX6_areBarred 49 = .ok (.iload_n 3, 1) := by decide +kernel
theorem dX6_areBarred_50 : decode cX6_areBarred 50 = .ok (.ifCond .eq 52, 3) := by decide +kernel
theorem dX6_areBarred_53 : decode cX6_areBarred 53 = .ok (.aload_n 0, 1) := by decide +kernel
theorem dX6_areBarred_54 : decode cX6_areBarred 54 = .ok (.getfield 46, 3) := by decide +kernel
theorem dX6_areBarred_57 : decode cX6_areBarred 57 = .ok (.iload_n 1, 1) := by decide +kernel
theorem dX6_areBarred_58 : decode cX6_areBarred 58 = .ok (.iaload, 1) := by decide +kernel
theorem dX6_areBarred_59 : decode cX6_areBarred 59 = .ok (.aload_n 0, 1) := by decide +kernel
theorem dX6_areBarred_60 : decode cX6_areBarred 60 = .ok (.getfield 49, 3) := by decide +kernel
theorem dX6_areBarred_63 : decode cX6_areBarred 63 = .ok (.iload_n 1, 1) := by decide +kernel
theorem dX6_areBarred_64 : decode cX6_areBarred 64 = .ok (.iaload, 1) := by decide +kernel
theorem dX6_areBarred_65 : decode cX6_areBarred 65 = .ok (.if_icmp .ne 37, 3) := by decide +kernel
theorem dX6_areBarred_68 : decode cX6_areBarred 68 = .ok (.aload_n 0, 1) := by decide +kernel
theorem dX6_areBarred_69 : decode cX6_areBarred 69 = .ok (.getfield 46, 3) := by decide +kernel
theorem dX6_areBarred_72 : decode cX6_areBarred 72 = .ok (.iload_n 2, 1) := by decide +kernel
theorem dX6_areBarred_73 : decode cX6_areBarred 73 = .ok (.iaload, 1) := by decide +kernel
theorem dX6_areBarred_74 : decode cX6_areBarred 74 = .ok (.aload_n 0, 1) := by decide +kernel
theorem dX6_areBarred_75 : decode cX6_areBarred 75 = .ok (.getfield 49, 3) := by decide +kernel
theorem dX6_areBarred_78 : decode cX6_areBarred 78 = .ok (.iload_n 2, 1) := by decide +kernel
theorem dX6_areBarred_79 : decode cX6_areBarred 79 = .ok (.iaload, 1) := by decide +kernel
theorem dX6_areBarred_80 : decode cX6_areBarred 80 = .ok (.if_icmp .ne 22, 3) := by decide +kernel
theorem dX6_areBarred_83 : decode cX6_areBarred 83 = .ok (.aload_n 0, 1) := by decide +kernel
theorem dX6_areBarred_84 : decode cX6_areBarred 84 = .ok (.getfield 46, 3) := by decide +kernel
theorem dX6_areBarred_87 : decode cX6_areBarred 87 = .ok (.iload_n 1, 1) := by decide +kernel
theorem dX6_areBarred_88 : decode cX6_areBarred 88 = .ok (.iaload, 1) := by decide +kernel
theorem dX6_areBarred_89 : decode cX6_areBarred 89 = .ok (.aload_n 0, 1) := by decide +kernel
theorem dX6_areBarred_90 : decode cX6_areBarred 90 = .ok (.getfield 46, 3) := by decide +kernel
theorem dX6_areBarred_93 : decode cX6_areBarred 93 = .ok (.iload_n 2, 1) := by decide +kernel
theorem dX6_areBarred_94 : decode cX6_areBarred 94 = .ok (.iaload, 1) := by decide +kernel
theorem dX6_areBarred_95 : decode cX6_areBarred 95 = .ok (.if_icmp .ne 7, 3) := by decide +kernel
theorem dX6_areBarred_98 : decode cX6_areBarred 98 = .ok (.iconst 1, 1) := by decide +kernel
theorem dX6_areBarred_99 : decode cX6_areBarred 99 = .ok (.goto 4, 3) := by decide +kernel
theorem dX6_areBarred_102 : decode cX6_areBarred 102 = .ok (.iconst 0, 1) := by decide +kernel
theorem dX6_areBarred_103 : decode cX6_areBarred 103 = .ok (.ireturn, 1) := by decide +kernel
theorem dX6_hasReason_0 : decode cX6_hasReason 0 = .ok (.iconst 0, 1) := by decide +kernel
theorem dX6_hasReason_1 : decode cX6_hasReason 1 = .ok (.istore 4, 2) := by decide +kernel
theorem dX6_hasReason_3 : decode cX6_hasReason 3 = .ok (.iconst 0, 1) := by decide +kernel
theorem dX6_hasReason_4 : decode cX6_hasReason 4 = .ok (.istore 5, 2) := by decide +kernel
theorem dX6_hasReason_6 : decode cX6_hasReason 6 = .ok (.iload 5, 2) := by decide +kernel
theorem dX6_hasReason_8 : decode cX6_hasReason 8 = .ok (.aload_n 0, 1) := by decide +kernel
theorem dX6_hasReason_9 : decode cX6_hasReason 9 = .ok (.getfield 86, 3) := by decide +kernel
theorem dX6_hasReason_12 : decode cX6_hasReason 12 = .ok (.if_icmp .ge 108, 3) := by decide +kernel
theorem dX6_hasReason_15 : decode cX6_hasReason 15 = .ok (.iconst 0, 1) := by decide +kernel
theorem dX6_hasReason_16 : decode cX6_hasReason 16 = .ok (.istore 6, 2) := by decide +kernel
theorem dX6_hasReason_18 : decode cX6_hasReason 18 = .ok (.iload 6, 2) := by decide +kernel
theorem dX6_hasReason_20 : decode cX6_hasReason 20 = .ok (.aload_n 0, 1) := by decide +kernel
theorem dX6_hasReason_21 : decode cX6_hasReason 21 = .ok (.getfield 86, 3) := by decide +kernel
theorem dX6_hasReason_24 : decode cX6_hasReason 24 = .ok (.if_icmp .ge 90, 3) := by decide +kernel
theorem dX6_hasReason_27 : decode cX6_hasReason 27 = .ok (.aload_n 0, 1) := by decide +kernel
theorem dX6_hasReason_28 : decode cX6_hasReason 28 = .ok (.getfield 67, 3) := by decide +kernel
theorem dX6_hasReason_31 : decode cX6_hasReason 31 = .ok (.iload 5, 2) := by decide +kernel
theorem dX6_hasReason_33 : decode cX6_hasReason 33 = .ok (.iaload, 1) := by decide +kernel
theorem dX6_hasReason_34 : decode cX6_hasReason 34 = .ok (.aload_n 0, 1) := by decide +kernel
theorem dX6_hasReason_35 : decode cX6_hasReason 35 = .ok (.getfield 67, 3) := by decide +kernel
theorem dX6_hasReason_38 : decode cX6_hasReason 38 = .ok (.iload_n 1, 1) := by decide +kernel
theorem dX6_hasReason_39 : decode cX6_hasReason 39 = .ok (.iaload, 1) := by decide +kernel
theorem dX6_hasReason_40 : decode cX6_hasReason 40 = .ok (.if_icmp .ne 68, 3) := by decide +kernel
theorem dX6_hasReason_43 : decode cX6_hasReason 43 = .ok (.aload_n 0, 1) := by decide +kernel
theorem dX6_hasReason_44 : decode cX6_hasReason 44 = .ok (.getfield 67, 3) := by decide +kernel
theorem dX6_hasReason_47 : decode cX6_hasReason 47 = .ok (.iload 6, 2) := by decide +kernel
theorem dX6_hasReason_49 : decode cX6_hasReason 49 = .ok (.iaload, 1) := by decide +kernel
theorem dX6_hasReason_50 : decode cX6_hasReason 50 = .ok (.aload_n 0, 1) := by decide +kernel
theorem dX6_hasReason_51 : decode cX6_hasReason 51 = .ok (.getfield 67, 3) := by decide +kernel
theorem dX6_hasReason_54 : decode cX6_hasReason 54 = .ok (.iload_n 2, 1) := by decide +kernel
theorem dX6_hasReason_55 : decode cX6_hasReason 55 = .ok (.iaload, 1) := by decide +kernel
theorem dX6_hasReason_56 : decode cX6_hasReason 56 = .ok (.if_icmp .ne 52, 3) := by decide +kernel
theorem dX6_hasReason_59 : decode cX6_hasReason 59 = .ok (.iload 4, 2) := by decide +kernel
theorem dX6_hasReason_61 : decode cX6_hasReason 61 = .ok (.iload_n 3, 1) := by decide +kernel
theorem dX6_hasReason_62 : decode cX6_hasReason 62 = .ok (.iconst 2, 1) := by decide +kernel
theorem dX6_hasReason_63 : decode cX6_hasReason 63 = .ok (.if_icmp .ne 18, 3) := by decide +kernel
theorem dX6_hasReason_66 : decode cX6_hasReason 66 = .ok (.aload_n 0, 1) := by decide +kernel
theorem dX6_hasReason_67 : decode cX6_hasReason 67 = .ok (.getfield 31, 3) := by decide +kernel
theorem dX6_hasReason_70 : decode cX6_hasReason 70 = .ok (.iload 5, 2) := by decide +kernel
theorem dX6_hasReason_72 : decode cX6_hasReason 72 = .ok (.iaload, 1) := by decide +kernel
theorem dX6_hasReason_73 : decode cX6_hasReason 73 = .ok (.iload 6, 2) := by decide +kernel
theorem dX6_hasReason_75 : decode cX6_hasReason 75 = .ok (.invokestatic 104, 3) := by decide +kernel
theorem dX6_hasReason_78 : decode cX6_hasReason 78 = .ok (.goto 27, 3) := by decide +kernel
theorem dX6_hasReason_81 : decode cX6_hasReason 81 = .ok (.iload_n 3, 1) := by decide +kernel
theorem dX6_hasReason_82 : decode cX6_hasReason 82 = .ok (.iconst 3, 1) := by decide +kernel
theorem dX6_hasReason_83 : decode cX6_hasReason 83 = .ok (.if_icmp .ne 14, 3) := by decide +kernel
theorem dX6_hasReason_86 : decode cX6_hasReason 86 = .ok (.aload_n 0, 1) := by decide +kernel
theorem dX6_hasReason_87 : decode cX6_hasReason 87 = .ok (.iload 5, 2) := by decide +kernel
theorem dX6_hasReason_89 : decode cX6_hasReason 89 = .ok (.iload 6, 2) := by decide +kernel
theorem dX6_hasReason_91 : decode cX6_hasReason 91 = .ok (.invokevirtual 143, 3) := by decide +kernel
theorem dX6_hasReason_94 : decode cX6_hasReason 94 = .ok (.goto 11, 3) := by decide +kernel
theorem dX6_hasReason_97 : decode cX6_hasReason 97 = .ok (.aload_n 0, 1) := by decide +kernel
theorem dX6_hasReason_98 : decode cX6_hasReason 98 = .ok (.iload 5, 2) := by decide +kernel
theorem dX6_hasReason_100 : decode cX6_hasReason 100 = .ok (.iload 6, 2) := by decide +kernel
theorem dX6_hasReason_102 : decode cX6_hasReason 102 = .ok (.invokevirtual 146, 3) := by decide +kernel
theorem dX6_hasReason_105 : decode cX6_hasReason 105 = .ok (.ior, 1) := by decide +kernel
theorem dX6_hasReason_106 : decode cX6_hasReason 106 = .ok (.istore 4, 2) := by decide +kernel
theorem dX6_hasReason_108 : decode cX6_hasReason 108 = .ok (.iinc 6 1, 3) := by decide +kernel
theorem dX6_hasReason_111 : decode cX6_hasReason 111 = .ok (.goto (-93), 3) := by decide +kernel
theorem dX6_hasReason_114 : decode cX6_hasReason 114 = .ok (.iinc 5 1, 3) := by decide +kernel
theorem dX6_hasReason_117 : decode cX6_hasReason 117 = .ok (.goto (-111), 3) := by decide +kernel
theorem dX6_hasReason_120 : decode cX6_hasReason 120 = .ok (.iload 4, 2) := by decide +kernel
theorem dX6_hasReason_122 : decode cX6_hasReason 122 = .ok (.ireturn, 1) := by decide +kernel
theorem dX6_reason_0 : decode cX6_reason 0 = .ok (.aload_n 0, 1) := by decide +kernel
theorem dX6_reason_1 : decode cX6_reason 1 = .ok (.getfield 67, 3) := by decide +kernel
theorem dX6_reason_4 : decode cX6_reason 4 = .ok (.iload_n 1, 1) := by decide +kernel
theorem dX6_reason_5 : decode cX6_reason 5 = .ok (.iaload, 1) := by decide +kernel
theorem dX6_reason_6 : decode cX6_reason 6 = .ok (.aload_n 0, 1) := by decide +kernel
theorem dX6_reason_7 : decode cX6_reason 7 = .ok (.getfield 67, 3) := by decide +kernel
theorem dX6_reason_10 : decode cX6_reason 10 = .ok (.iload_n 2, 1) := by decide +kernel
theorem dX6_reason_11 : decode cX6_reason 11 = .ok (.iaload, 1) := by decide +kernel
theorem dX6_reason_12 : decode cX6_reason 12 = .ok (.if_icmp .ne 5, 3) := by decide +kernel
theorem dX6_reason_15 : decode cX6_reason 15 = .ok (.iconst 1, 1) := by decide +kernel
theorem dX6_reason_16 : decode cX6_reason 16 = .ok (.ireturn, 1) := by decide +kernel
theorem dX6_reason_17 : decode cX6_reason 17 = .ok (.iconst 2, 1) := by decide +kernel
theorem dX6_reason_18 : decode cX6_reason 18 = .ok (.istore_n 3, 1) := by decide +kernel
theorem dX6_reason_19 : decode cX6_reason 19 = .ok (.iload_n 3, 1) := by decide +kernel
theorem dX6_reason_20 : decode cX6_reason 20 = .ok (.iconst 5, 1) := by decide +kernel
theorem dX6_reason_21 : decode cX6_reason 21 = .ok (.if_icmp .ge 21, 3) := by decide +kernel
theorem dX6_reason_24 : decode cX6_reason 24 = .ok (.aload_n 0, 1) := by decide +kernel
theorem dX6_reason_25 : decode cX6_reason 25 = .ok (.iload_n 1, 1) := by decide +kernel
theorem dX6_reason_26 : decode cX6_reason 26 = .ok (.iload_n 2, 1) := by decide +kernel
theorem dX6_reason_27 : decode cX6_reason 27 = .ok (.iload_n 3, 1) := by decide +kernel
theorem dX6_reason_28 : decode cX6_reason 28 = .ok (.invokevirtual 149, 3) := by decide +kernel
theorem dX6_reason_31 : decode cX6_reason 31 = .ok (.ifCond .eq 5, 3) := by decide +kernel
theorem dX6_reason_34 : decode cX6_reason 34 = .ok (.iload_n 3, 1) := by decide +kernel
theorem dX6_reason_35 : decode cX6_reason 35 = .ok (.ireturn, 1) := by decide +kernel
theorem dX6_reason_36 : decode cX6_reason 36 = .ok (.iinc 3 1, 3) := by decide +kernel
theorem dX6_reason_39 : decode cX6_reason 39 = .ok (.goto (-20), 3) := by decide +kernel
theorem dX6_reason_42 : decode cX6_reason 42 = .ok (.aload_n 0, 1) := by decide +kernel
theorem dX6_reason_43 : decode cX6_reason 43 = .ok (.iload_n 1, 1) := by decide +kernel
theorem dX6_reason_44 : decode cX6_reason 44 = .ok (.iload_n 2, 1) := by decide +kernel
theorem dX6_reason_45 : decode cX6_reason 45 = .ok (.invokevirtual 139, 3) := by decide +kernel
theorem dX6_reason_48 : decode cX6_reason 48 = .ok (.iconst 4, 1) := by decide +kernel
theorem dX6_reason_49 : decode cX6_reason 49 = .ok (.if_icmp .ge 7, 3) := by decide +kernel
theorem dX6_reason_52 : decode cX6_reason 52 = .ok (.iconst 5, 1) := by decide +kernel
theorem dX6_reason_53 : decode cX6_reason 53 = .ok (.goto 4, 3) := by decide +kernel
theorem dX6_reason_56 : decode cX6_reason 56 = .ok (.iconst 0, 1) := by decide +kernel
theorem dX6_reason_57 : decode cX6_reason 57 = .ok (.ireturn, 1) := by decide +kernel
theorem dX6_whyNot_0 : decode cX6_whyNot 0 = .ok (.aload_n 0, 1) := by decide +kernel
theorem dX6_whyNot_1 : decode cX6_whyNot 1 = .ok (.iload_n 1, 1) := by decide +kernel
theorem dX6_whyNot_2 : decode cX6_whyNot 2 = .ok (.iload_n 2, 1) := by decide +kernel
theorem dX6_whyNot_3 : decode cX6_whyNot 3 = .ok (.invokevirtual 136, 3) := by decide +kernel
theorem dX6_whyNot_6 : decode cX6_whyNot 6 = .ok (.ifCond .eq 12, 3) := by decide +kernel
theorem dX6_whyNot_9 : decode cX6_whyNot 9 = .ok (.aload_n 0, 1) := by decide +kernel
theorem dX6_whyNot_10 : decode cX6_whyNot 10 = .ok (.iload_n 1, 1) := by decide +kernel
theorem dX6_whyNot_11 : decode cX6_whyNot 11 = .ok (.iload_n 2, 1) := by decide +kernel
theorem dX6_whyNot_12 : decode cX6_whyNot 12 = .ok (.invokevirtual 152, 3) := by decide +kernel
theorem dX6_whyNot_15 : decode cX6_whyNot 15 = .ok (.goto 4, 3) := by decide +kernel
theorem dX6_whyNot_18 : decode cX6_whyNot 18 = .ok (.iconst 0, 1) := by decide +kernel
theorem dX6_whyNot_19 : decode cX6_whyNot 19 = .ok (.ireturn, 1) := by decide +kernel
theorem dX6_join_0 : decode cX6_join 0 = .ok (.aload_n 0, 1) := by decide +kernel
theorem dX6_join_1 : decode cX6_join 1 = .ok (.iload_n 1, 1) := by decide +kernel
theorem dX6_join_2 : decode cX6_join 2 = .ok (.iload_n 2, 1) := by decide +kernel
theorem dX6_join_3 : decode cX6_join 3 = .ok (.invokevirtual 136, 3) := by decide +kernel
theorem dX6_join_6 : decode cX6_join 6 = .ok (.ifCond .ne 5, 3) := by decide +kernel
theorem dX6_join_9 : decode cX6_join 9 = .ok (.iconst 0, 1) := by decide +kernel
theorem dX6_join_10 : decode cX6_join 10 = .ok (.ireturn, 1) := by decide +kernel
theorem dX6_join_11 : decode cX6_join 11 = .ok (.aload_n 0, 1) := by decide +kernel
theorem dX6_join_12 : decode cX6_join 12 = .ok (.aload_n 0, 1) := by decide +kernel
theorem dX6_join_13 : decode cX6_join 13 = .ok (.iload_n 1, 1) := by decide +kernel
theorem dX6_join_14 : decode cX6_join 14 = .ok (.iload_n 2, 1) := by decide +kernel
theorem dX6_join_15 : decode cX6_join 15 = .ok (.invokevirtual 152, 3) := by decide +kernel
theorem dX6_join_18 : decode cX6_join 18 = .ok (.ifCond .le 7, 3) := by decide +kernel
theorem dX6_join_21 : decode cX6_join 21 = .ok (.iconst 3, 1) := by decide +kernel
theorem dX6_join_22 : decode cX6_join 22 = .ok (.goto 4, 3) := by decide +kernel
theorem dX6_join_25 : decode cX6_join 25 = .ok (.iconst 0, 1) := by decide +kernel
theorem dX6_join_26 : decode cX6_join 26 = .ok (.putfield 82, 3) := by decide +kernel
theorem dX6_join_29 : decode cX6_join 29 = .ok (.aload_n 0, 1) := by decide +kernel
theorem dX6_join_30 : decode cX6_join 30 = .ok (.getfield 82, 3) := by decide +kernel
theorem dX6_join_33 : decode cX6_join 33 = .ok (.ifCond .le 5, 3) := by decide +kernel
theorem dX6_join_36 : decode cX6_join 36 = .ok (.iconst 0, 1) := by decide +kernel
theorem dX6_join_37 : decode cX6_join 37 = .ok (.ireturn, 1) := by decide +kernel
theorem dX6_join_38 : decode cX6_join 38 = .ok (.aload_n 0, 1) := by decide +kernel
theorem dX6_join_39 : decode cX6_join 39 = .ok (.getfield 67, 3) := by decide +kernel
theorem dX6_join_42 : decode cX6_join 42 = .ok (.iload_n 1, 1) := by decide +kernel
theorem dX6_join_43 : decode cX6_join 43 = .ok (.iaload, 1) := by decide +kernel
theorem dX6_join_44 : decode cX6_join 44 = .ok (.istore_n 3, 1) := by decide +kernel
theorem dX6_join_45 : decode cX6_join 45 = .ok (.aload_n 0, 1) := by decide +kernel
theorem dX6_join_46 : decode cX6_join 46 = .ok (.getfield 67, 3) := by decide +kernel
theorem dX6_join_49 : decode cX6_join 49 = .ok (.iload_n 2, 1) := by decide +kernel
theorem dX6_join_50 : decode cX6_join 50 = .ok (.iaload, 1) := by decide +kernel
theorem dX6_join_51 : decode cX6_join 51 = .ok (.istore 4, 2) := by decide +kernel
theorem dX6_join_53 : decode cX6_join 53 = .ok (.iload_n 3, 1) := by decide +kernel
theorem dX6_join_54 : decode cX6_join 54 = .ok (.iload 4, 2) := by decide +kernel
theorem dX6_join_56 : decode cX6_join 56 = .ok (.if_icmp .ge 7, 3) := by decide +kernel
theorem dX6_join_59 : decode cX6_join 59 = .ok (.iload_n 3, 1) := by decide +kernel
theorem dX6_join_60 : decode cX6_join 60 = .ok (.goto 5, 3) := by decide +kernel
theorem dX6_join_63 : decode cX6_join 63 = .ok (.iload 4, 2) := by decide +kernel
theorem dX6_join_65 : decode cX6_join 65 = .ok (.istore 5, 2) := by decide +kernel
theorem dX6_join_67 : decode cX6_join 67 = .ok (.iload_n 3, 1) := by decide +kernel
theorem dX6_join_68 : decode cX6_join 68 = .ok (.iload 4, 2) := by decide +kernel
theorem dX6_join_70 : decode cX6_join 70 = .ok (.if_icmp .ge 8, 3) := by decide +kernel
theorem dX6_join_73 : decode cX6_join 73 = .ok (.iload 4, 2) := by decide +kernel
theorem dX6_join_75 : decode cX6_join 75 = .ok (.goto 4, 3) := by decide +kernel
theorem dX6_join_78 : decode cX6_join 78 = .ok (.iload_n 3, 1) := by decide +kernel
theorem dX6_join_79 : decode cX6_join 79 = .ok (.istore 6, 2) := by decide +kernel
theorem dX6_join_81 : decode cX6_join 81 = .ok (.iconst 0, 1) := by decide +kernel
theorem dX6_join_82 : decode cX6_join 82 = .ok (.istore 7, 2) := by decide +kernel
theorem dX6_join_84 : decode cX6_join 84 = .ok (.iload 7, 2) := by decide +kernel
theorem dX6_join_86 : decode cX6_join 86 = .ok (.aload_n 0, 1) := by decide +kernel
theorem dX6_join_87 : decode cX6_join 87 = .ok (.getfield 86, 3) := by decide +kernel
theorem dX6_join_90 : decode cX6_join 90 = .ok (.if_icmp .ge 40, 3) := by decide +kernel
theorem dX6_join_93 : decode cX6_join 93 = .ok (.aload_n 0, 1) := by decide +kernel
theorem dX6_join_94 : decode cX6_join 94 = .ok (.getfield 67, 3) := by decide +kernel
theorem dX6_join_97 : decode cX6_join 97 = .ok (.iload 7, 2) := by decide +kernel
theorem dX6_join_99 : decode cX6_join 99 = .ok (.aload_n 0, 1) := by decide +kernel
theorem dX6_join_100 : decode cX6_join 100 = .ok (.getfield 67, 3) := by decide +kernel
theorem dX6_join_103 : decode cX6_join 103 = .ok (.iload 7, 2) := by decide +kernel
theorem dX6_join_105 : decode cX6_join 105 = .ok (.iaload, 1) := by decide +kernel
theorem dX6_join_106 : decode cX6_join 106 = .ok (.iload 6, 2) := by decide +kernel
theorem dX6_join_108 : decode cX6_join 108 = .ok (.if_icmp .ne 8, 3) := by decide +kernel
theorem dX6_join_111 : decode cX6_join 111 = .ok (.iload 5, 2) := by decide +kernel
theorem dX6_join_113 : decode cX6_join 113 = .ok (.goto 10, 3) := by decide +kernel
theorem dX6_join_116 : decode cX6_join 116 = .ok (.aload_n 0, 1) := by decide +kernel
theorem dX6_join_117 : decode cX6_join 117 = .ok (.getfield 67, 3) := by decide +kernel
theorem dX6_join_120 : decode cX6_join 120 = .ok (.iload 7, 2) := by decide +kernel
theorem dX6_join_122 : decode cX6_join 122 = .ok (.iaload, 1) := by decide +kernel
theorem dX6_join_123 : decode cX6_join 123 = .ok (.iastore, 1) := by decide +kernel
theorem dX6_join_124 : decode cX6_join 124 = .ok (.iinc 7 1, 3) := by decide +kernel
theorem dX6_join_127 : decode cX6_join 127 = .ok (.goto (-43), 3) := by decide +kernel
theorem dX6_join_130 : decode cX6_join 130 = .ok (.iconst 0, 1) := by decide +kernel
theorem dX6_join_131 : decode cX6_join 131 = .ok (.istore 7, 2) := by decide +kernel
theorem dX6_join_133 : decode cX6_join 133 = .ok (.iload 7, 2) := by decide +kernel
theorem dX6_join_135 : decode cX6_join 135 = .ok (.aload_n 0, 1) := by decide +kernel
theorem dX6_join_136 : decode cX6_join 136 = .ok (.getfield 93, 3) := by decide +kernel
theorem dX6_join_139 : decode cX6_join 139 = .ok (.if_icmp .ge 40, 3) := by decide +kernel
theorem dX6_join_142 : decode cX6_join 142 = .ok (.aload_n 0, 1) := by decide +kernel
theorem dX6_join_143 : decode cX6_join 143 = .ok (.getfield 70, 3) := by decide +kernel
theorem dX6_join_146 : decode cX6_join 146 = .ok (.iload 7, 2) := by decide +kernel
theorem dX6_join_148 : decode cX6_join 148 = .ok (.aload_n 0, 1) := by decide +kernel
theorem dX6_join_149 : decode cX6_join 149 = .ok (.getfield 70, 3) := by decide +kernel
theorem dX6_join_152 : decode cX6_join 152 = .ok (.iload 7, 2) := by decide +kernel
theorem dX6_join_154 : decode cX6_join 154 = .ok (.iaload, 1) := by decide +kernel
theorem dX6_join_155 : decode cX6_join 155 = .ok (.iload 6, 2) := by decide +kernel
theorem dX6_join_157 : decode cX6_join 157 = .ok (.if_icmp .ne 8, 3) := by decide +kernel
theorem dX6_join_160 : decode cX6_join 160 = .ok (.iload 5, 2) := by decide +kernel
theorem dX6_join_162 : decode cX6_join 162 = .ok (.goto 10, 3) := by decide +kernel
theorem dX6_join_165 : decode cX6_join 165 = .ok (.aload_n 0, 1) := by decide +kernel
theorem dX6_join_166 : decode cX6_join 166 = .ok (.getfield 70, 3) := by decide +kernel
theorem dX6_join_169 : decode cX6_join 169 = .ok (.iload 7, 2) := by decide +kernel
theorem dX6_join_171 : decode cX6_join 171 = .ok (.iaload, 1) := by decide +kernel
theorem dX6_join_172 : decode cX6_join 172 = .ok (.iastore, 1) := by decide +kernel
theorem dX6_join_173 : decode cX6_join 173 = .ok (.iinc 7 1, 3) := by decide +kernel
theorem dX6_join_176 : decode cX6_join 176 = .ok (.goto (-43), 3) := by decide +kernel
theorem dX6_join_179 : decode cX6_join 179 = .ok (.iload 5, 2) := by decide +kernel
theorem dX6_join_181 : decode cX6_join 181 = .ok (.ireturn, 1) := by decide +kernel
theorem dX6_sizeOf_0 : decode cX6_sizeOf 0 = .ok (.iconst 0, 1) := by decide +kernel
theorem dX6_sizeOf_1 : decode cX6_sizeOf 1 = .ok (.istore_n 2, 1) := by decide +kernel
theorem dX6_sizeOf_2 : decode cX6_sizeOf 2 = .ok (.iconst 0, 1) := by decide +kernel
theorem dX6_sizeOf_3 : decode cX6_sizeOf 3 = .ok (.istore_n 3, 1) := by decide +kernel
theorem dX6_sizeOf_4 : decode cX6_sizeOf 4 = .ok (.iload_n 3, 1) := by decide +kernel
theorem dX6_sizeOf_5 : decode cX6_sizeOf 5 = .ok (.aload_n 0, 1) := by decide +kernel
theorem dX6_sizeOf_6 : decode cX6_sizeOf 6 = .ok (.getfield 86, 3) := by decide +kernel
theorem dX6_sizeOf_9 : decode cX6_sizeOf 9 = .ok (.if_icmp .ge 27, 3) := by decide +kernel
theorem dX6_sizeOf_12 : decode cX6_sizeOf 12 = .ok (.iload_n 2, 1) := by decide +kernel
theorem dX6_sizeOf_13 : decode cX6_sizeOf 13 = .ok (.aload_n 0, 1) := by decide +kernel
theorem dX6_sizeOf_14 : decode cX6_sizeOf 14 = .ok (.getfield 67, 3) := by decide +kernel
theorem dX6_sizeOf_17 : decode cX6_sizeOf 17 = .ok (.iload_n 3, 1) := by decide +kernel
theorem dX6_sizeOf_18 : decode cX6_sizeOf 18 = .ok (.iaload, 1) := by decide +kernel
theorem dX6_sizeOf_19 : decode cX6_sizeOf 19 = .ok (.iload_n 1, 1) := by decide +kernel
theorem dX6_sizeOf_20 : decode cX6_sizeOf 20 = .ok (.if_icmp .ne 7, 3) := by decide +kernel
theorem dX6_sizeOf_23 : decode cX6_sizeOf 23 = .ok (.iconst 1, 1) := by decide +kernel
theorem dX6_sizeOf_24 : decode cX6_sizeOf 24 = .ok (.goto 4, 3) := by decide +kernel
theorem dX6_sizeOf_27 : decode cX6_sizeOf 27 = .ok (.iconst 0, 1) := by decide +kernel
theorem dX6_sizeOf_28 : decode cX6_sizeOf 28 = .ok (.iadd, 1) := by decide +kernel
theorem dX6_sizeOf_29 : decode cX6_sizeOf 29 = .ok (.istore_n 2, 1) := by decide +kernel
theorem dX6_sizeOf_30 : decode cX6_sizeOf 30 = .ok (.iinc 3 1, 3) := by decide +kernel
theorem dX6_sizeOf_33 : decode cX6_sizeOf 33 = .ok (.goto (-29), 3) := by decide +kernel
theorem dX6_sizeOf_36 : decode cX6_sizeOf 36 = .ok (.iload_n 2, 1) := by decide +kernel
theorem dX6_sizeOf_37 : decode cX6_sizeOf 37 = .ok (.ireturn, 1) := by decide +kernel
theorem dX6_split_0 : decode cX6_split 0 = .ok (.aload_n 0, 1) := by decide +kernel
theorem dX6_split_1 : decode cX6_split 1 = .ok (.aload_n 0, 1) := by decide +kernel
theorem dX6_split_2 : decode cX6_split 2 = .ok (.iload_n 1, 1) := by decide +kernel
theorem dX6_split_3 : decode cX6_split 3 = .ok (.invokevirtual 111, 3) := by decide +kernel
theorem dX6_split_6 : decode cX6_split 6 = .ok (.ifCond .ne 7, 3) := by decide +kernel
theorem dX6_split_9 : decode cX6_split 9 = .ok (.iconst 1, 1) := by decide +kernel
theorem dX6_split_10 : decode cX6_split 10 = .ok (.goto 31, 3) := by decide +kernel
theorem dX6_split_13 : decode cX6_split 13 = .ok (.aload_n 0, 1) := by decide +kernel
theorem dX6_split_14 : decode cX6_split 14 = .ok (.aload_n 0, 1) := by decide +kernel
theorem dX6_split_15 : decode cX6_split 15 = .ok (.getfield 67, 3) := by decide +kernel
theorem dX6_split_18 : decode cX6_split 18 = .ok (.iload_n 1, 1) := by decide +kernel
theorem dX6_split_19 : decode cX6_split 19 = .ok (.iaload, 1) := by decide +kernel
theorem dX6_split_20 : decode cX6_split 20 = .ok (.invokevirtual 155, 3) := by decide +kernel
theorem dX6_split_23 : decode cX6_split 23 = .ok (.iconst 1, 1) := by decide +kernel
theorem dX6_split_24 : decode cX6_split 24 = .ok (.if_icmp .eq 12, 3) := by decide +kernel
theorem dX6_split_27 : decode cX6_split 27 = .ok (.aload_n 0, 1) := by decide +kernel
theorem dX6_split_28 : decode cX6_split 28 = .ok (.getfield 93, 3) := by decide +kernel
theorem dX6_split_31 : decode cX6_split 31 = .ok (.bipush 40, 2) := by decide +kernel
theorem dX6_split_33 : decode cX6_split 33 = .ok (.if_icmp .ne 7, 3) := by decide +kernel
theorem dX6_split_36 : decode cX6_split 36 = .ok (.iconst 2, 1) := by decide +kernel
theorem dX6_split_37 : decode cX6_split 37 = .ok (.goto 4, 3) := by decide +kernel
theorem dX6_split_40 : decode cX6_split 40 = .ok (.iconst 0, 1) := by decide +kernel
theorem dX6_split_41 : decode cX6_split 41 = .ok (.putfield 82, 3) := by decide +kernel
theorem dX6_split_44 : decode cX6_split 44 = .ok (.aload_n 0, 1) := by decide +kernel
theorem dX6_split_45 : decode cX6_split 45 = .ok (.getfield 82, 3) := by decide +kernel
theorem dX6_split_48 : decode cX6_split 48 = .ok (.ifCond .le 7, 3) := by decide +kernel
theorem dX6_split_51 : decode cX6_split 51 = .ok (.iconst 0, 1) := by decide +kernel
theorem dX6_split_52 : decode cX6_split 52 = .ok (.goto 8, 3) := by decide +kernel
theorem dX6_split_55 : decode cX6_split 55 = .ok (.aload_n 0, 1) := by decide +kernel
theorem dX6_split_56 : decode cX6_split 56 = .ok (.iload_n 1, 1) := by decide +kernel
theorem dX6_split_57 : decode cX6_split 57 = .ok (.invokevirtual 100, 3) := by decide +kernel
theorem dX6_split_60 : decode cX6_split 60 = .ok (.ireturn, 1) := by decide +kernel
theorem dX6_person_0 : decode cX6_person 0 = .ok (.aload_n 0, 1) := by decide +kernel
theorem dX6_person_1 : decode cX6_person 1 = .ok (.aload_n 0, 1) := by decide +kernel
theorem dX6_person_2 : decode cX6_person 2 = .ok (.iload_n 1, 1) := by decide +kernel
theorem dX6_person_3 : decode cX6_person 3 = .ok (.invokevirtual 111, 3) := by decide +kernel
theorem dX6_person_6 : decode cX6_person 6 = .ok (.ifCond .eq 7, 3) := by decide +kernel
theorem dX6_person_9 : decode cX6_person 9 = .ok (.iconst 0, 1) := by decide +kernel
theorem dX6_person_10 : decode cX6_person 10 = .ok (.goto 4, 3) := by decide +kernel
theorem dX6_person_13 : decode cX6_person 13 = .ok (.iconst 1, 1) := by decide +kernel
theorem dX6_person_14 : decode cX6_person 14 = .ok (.putfield 82, 3) := by decide +kernel
theorem dX6_person_17 : decode cX6_person 17 = .ok (.aload_n 0, 1) := by decide +kernel
theorem dX6_person_18 : decode cX6_person 18 = .ok (.getfield 82, 3) := by decide +kernel
theorem dX6_person_21 : decode cX6_person 21 = .ok (.ifCond .le 7, 3) := by decide +kernel
theorem dX6_person_24 : decode cX6_person 24 = .ok (.iconst 0, 1) := by decide +kernel
theorem dX6_person_25 : decode cX6_person 25 = .ok (.goto 9, 3) := by decide +kernel
theorem dX6_person_28 : decode cX6_person 28 = .ok (.aload_n 0, 1) := by decide +kernel
theorem dX6_person_29 : decode cX6_person 29 = .ok (.getfield 67, 3) := by decide +kernel
theorem dX6_person_32 : decode cX6_person 32 = .ok (.iload_n 1, 1) := by decide +kernel
theorem dX6_person_33 : decode cX6_person 33 = .ok (.iaload, 1) := by decide +kernel
theorem dX6_person_34 : decode cX6_person 34 = .ok (.ireturn, 1) := by decide +kernel
theorem dX6_entry_0 : decode cX6_entry 0 = .ok (.aload_n 0, 1) := by decide +kernel
theorem dX6_entry_1 : decode cX6_entry 1 = .ok (.aload_n 0, 1) := by decide +kernel
theorem dX6_entry_2 : decode cX6_entry 2 = .ok (.iload_n 1, 1) := by decide +kernel
theorem dX6_entry_3 : decode cX6_entry 3 = .ok (.invokevirtual 158, 3) := by decide +kernel
theorem dX6_entry_6 : decode cX6_entry 6 = .ok (.ifCond .eq 7, 3) := by decide +kernel
theorem dX6_entry_9 : decode cX6_entry 9 = .ok (.iconst 0, 1) := by decide +kernel
theorem dX6_entry_10 : decode cX6_entry 10 = .ok (.goto 4, 3) := by decide +kernel
theorem dX6_entry_13 : decode cX6_entry 13 = .ok (.iconst 1, 1) := by decide +kernel
theorem dX6_entry_14 : decode cX6_entry 14 = .ok (.putfield 82, 3) := by decide +kernel
theorem dX6_entry_17 : decode cX6_entry 17 = .ok (.aload_n 0, 1) := by decide +kernel
theorem dX6_entry_18 : decode cX6_entry 18 = .ok (.getfield 82, 3) := by decide +kernel
theorem dX6_entry_21 : decode cX6_entry 21 = .ok (.ifCond .le 7, 3) := by decide +kernel
theorem dX6_entry_24 : decode cX6_entry 24 = .ok (.iconst 0, 1) := by decide +kernel
theorem dX6_entry_25 : decode cX6_entry 25 = .ok (.goto 9, 3) := by decide +kernel
theorem dX6_entry_28 : decode cX6_entry 28 = .ok (.aload_n 0, 1) := by decide +kernel
theorem dX6_entry_29 : decode cX6_entry 29 = .ok (.getfield 70, 3) := by decide +kernel
theorem dX6_entry_32 : decode cX6_entry 32 = .ok (.iload_n 1, 1) := by decide +kernel
theorem dX6_entry_33 : decode cX6_entry 33 = .ok (.iaload, 1) := by decide +kernel
theorem dX6_entry_34 : decode cX6_entry 34 = .ok (.ireturn, 1) := by decide +kernel
theorem dX6_size_0 : decode cX6_size 0 = .ok (.aload_n 0, 1) := by decide +kernel
theorem dX6_size_1 : decode cX6_size 1 = .ok (.aload_n 0, 1) := by decide +kernel
theorem dX6_size_2 : decode cX6_size 2 = .ok (.iload_n 1, 1) := by decide +kernel
theorem dX6_size_3 : decode cX6_size 3 = .ok (.invokevirtual 158, 3) := by decide +kernel
theorem dX6_size_6 : decode cX6_size 6 = .ok (.ifCond .eq 7, 3) := by decide +kernel
theorem dX6_size_9 : decode cX6_size 9 = .ok (.iconst 0, 1) := by decide +kernel
theorem dX6_size_10 : decode cX6_size 10 = .ok (.goto 4, 3) := by decide +kernel
theorem dX6_size_13 : decode cX6_size 13 = .ok (.iconst 1, 1) := by decide +kernel
theorem dX6_size_14 : decode cX6_size 14 = .ok (.putfield 82, 3) := by decide +kernel
theorem dX6_size_17 : decode cX6_size 17 = .ok (.aload_n 0, 1) := by decide +kernel
theorem dX6_size_18 : decode cX6_size 18 = .ok (.getfield 82, 3) := by decide +kernel
theorem dX6_size_21 : decode cX6_size 21 = .ok (.ifCond .le 7, 3) := by decide +kernel
theorem dX6_size_24 : decode cX6_size 24 = .ok (.iconst 0, 1) := by decide +kernel
theorem dX6_size_25 : decode cX6_size 25 = .ok (.goto 13, 3) := by decide +kernel
theorem dX6_size_28 : decode cX6_size 28 = .ok (.aload_n 0, 1) := by decide +kernel
theorem dX6_size_29 : decode cX6_size 29 = .ok (.aload_n 0, 1) := by decide +kernel
theorem dX6_size_30 : decode cX6_size 30 = .ok (.getfield 70, 3) := by decide +kernel
theorem dX6_size_33 : decode cX6_size 33 = .ok (.iload_n 1, 1) := by decide +kernel
theorem dX6_size_34 : decode cX6_size 34 = .ok (.iaload, 1) := by decide +kernel
theorem dX6_size_35 : decode cX6_size 35 = .ok (.invokevirtual 155, 3) := by decide +kernel
theorem dX6_size_38 : decode cX6_size 38 = .ok (.ireturn, 1) := by decide +kernel
theorem dX6_isInCareer_0 : decode cX6_isInCareer 0 = .ok (.aload_n 0, 1) := by decide +kernel
theorem dX6_isInCareer_1 : decode cX6_isInCareer 1 = .ok (.getfield 67, 3) := by decide +kernel
theorem dX6_isInCareer_4 : decode cX6_isInCareer 4 = .ok (.iload_n 1, 1) := by decide +kernel
theorem dX6_isInCareer_5 : decode cX6_isInCareer 5 = .ok (.iaload, 1) := by decide +kernel
theorem dX6_isInCareer_6 : decode cX6_isInCareer 6 = .ok (.iload_n 2, 1) := by decide +kernel
theorem dX6_isInCareer_7 : decode cX6_isInCareer 7 = .ok (.if_icmp .ne 17, 3) := by decide +kernel
theorem dX6_isInCareer_10 : decode cX6_isInCareer 10 = .ok (.aload_n 0, 1) := by decide +kernel
theorem dX6_isInCareer_11 : decode cX6_isInCareer 11 = .ok (.getfield 19, 3) := by decide +kernel
theorem dX6_isInCareer_14 : decode cX6_isInCareer 14 = .ok (.iload_n 1, 1) := by decide +kernel
theorem dX6_isInCareer_15 : decode cX6_isInCareer 15 = .ok (.iaload, 1) := by decide +kernel
theorem dX6_isInCareer_16 : decode cX6_isInCareer 16 = .ok (.iconst (-1), 1) := by decide +kernel
theorem dX6_isInCareer_17 : decode cX6_isInCareer 17 = .ok (.if_icmp .eq 7, 3) := by decide +kernel
theorem dX6_isInCareer_20 : decode cX6_isInCareer 20 = .ok (.iconst 1, 1) := by decide +kernel
theorem dX6_isInCareer_21 : decode cX6_isInCareer 21 = .ok (.goto 4, 3) := by decide +kernel
theorem dX6_isInCareer_24 : decode cX6_isInCareer 24 = .ok (.iconst 0, 1) := by decide +kernel
theorem dX6_isInCareer_25 : decode cX6_isInCareer 25 = .ok (.ireturn, 1) := by decide +kernel
theorem dX6_isEarlier_0 : decode cX6_isEarlier 0 = .ok (.aload_n 0, 1) := by decide +kernel
theorem dX6_isEarlier_1 : decode cX6_isEarlier 1 = .ok (.getfield 46, 3) := by decide +kernel
theorem dX6_isEarlier_4 : decode cX6_isEarlier 4 = .ok (.iload_n 1, 1) := by decide +kernel
theorem dX6_isEarlier_5 : decode cX6_isEarlier 5 = .ok (.iaload, 1) := by decide +kernel
theorem dX6_isEarlier_6 : decode cX6_isEarlier 6 = .ok (.aload_n 0, 1) := by decide +kernel
theorem dX6_isEarlier_7 : decode cX6_isEarlier 7 = .ok (.getfield 46, 3) := by decide +kernel
theorem dX6_isEarlier_10 : decode cX6_isEarlier 10 = .ok (.iload_n 2, 1) := by decide +kernel
theorem dX6_isEarlier_11 : decode cX6_isEarlier 11 = .ok (.iaload, 1) := by decide +kernel
theorem dX6_isEarlier_12 : decode cX6_isEarlier 12 = .ok (.if_icmp .lt 23, 3) := by decide +kernel
theorem dX6_isEarlier_15 : decode cX6_isEarlier 15 = .ok (.aload_n 0, 1) := by decide +kernel
theorem dX6_isEarlier_16 : decode cX6_isEarlier 16 = .ok (.getfield 46, 3) := by decide +kernel
theorem dX6_isEarlier_19 : decode cX6_isEarlier 19 = .ok (.iload_n 1, 1) := by decide +kernel
theorem dX6_isEarlier_20 : decode cX6_isEarlier 20 = .ok (.iaload, 1) := by decide +kernel
theorem dX6_isEarlier_21 : decode cX6_isEarlier 21 = .ok (.aload_n 0, 1) := by decide +kernel
theorem dX6_isEarlier_22 : decode cX6_isEarlier 22 = .ok (.getfield 46, 3) := by decide +kernel
theorem dX6_isEarlier_25 : decode cX6_isEarlier 25 = .ok (.iload_n 2, 1) := by decide +kernel
theorem dX6_isEarlier_26 : decode cX6_isEarlier 26 = .ok (.iaload, 1) := by decide +kernel
theorem dX6_isEarlier_27 : decode cX6_isEarlier 27 = .ok (.if_icmp .ne 12, 3) := by decide +kernel
theorem dX6_isEarlier_30 : decode cX6_isEarlier 30 = .ok (.iload_n 1, 1) := by decide +kernel
theorem dX6_isEarlier_31 : decode cX6_isEarlier 31 = .ok (.iload_n 2, 1) := by decide +kernel
theorem dX6_isEarlier_32 : decode cX6_isEarlier 32 = .ok (.if_icmp .ge 7, 3) := by decide +kernel
theorem dX6_isEarlier_35 : decode cX6_isEarlier 35 = .ok (.iconst 1, 1) := by decide +kernel
theorem dX6_isEarlier_36 : decode cX6_isEarlier 36 = .ok (.goto 4, 3) := by decide +kernel
theorem dX6_isEarlier_39 : decode cX6_isEarlier 39 = .ok (.iconst 0, 1) := by decide +kernel
theorem dX6_isEarlier_40 : decode cX6_isEarlier 40 = .ok (.ireturn, 1) := by decide +kernel
theorem dX6_inCareer_0 : decode cX6_inCareer 0 = .ok (.iconst (-1), 1) := by decide +kernel
theorem dX6_inCareer_1 : decode cX6_inCareer 1 = .ok (.istore_n 3, 1) := by decide +kernel
theorem dX6_inCareer_2 : decode cX6_inCareer 2 = .ok (.iconst 0, 1) := by decide +kernel
theorem dX6_inCareer_3 : decode cX6_inCareer 3 = .ok (.istore 4, 2) := by decide +kernel
theorem dX6_inCareer_5 : decode cX6_inCareer 5 = .ok (.iload 4, 2) := by decide +kernel
theorem dX6_inCareer_7 : decode cX6_inCareer 7 = .ok (.aload_n 0, 1) := by decide +kernel
theorem dX6_inCareer_8 : decode cX6_inCareer 8 = .ok (.getfield 86, 3) := by decide +kernel
theorem dX6_inCareer_11 : decode cX6_inCareer 11 = .ok (.if_icmp .ge 84, 3) := by decide +kernel
theorem dX6_inCareer_14 : decode cX6_inCareer 14 = .ok (.iconst 0, 1) := by decide +kernel
theorem dX6_inCareer_15 : decode cX6_inCareer 15 = .ok (.istore 5, 2) := by decide +kernel
theorem dX6_inCareer_17 : decode cX6_inCareer 17 = .ok (.iconst 0, 1) := by decide +kernel
theorem dX6_inCareer_18 : decode cX6_inCareer 18 = .ok (.istore 6, 2) := by decide +kernel
theorem dX6_inCareer_20 : decode cX6_inCareer 20 = .ok (.iload 6, 2) := by decide +kernel
theorem dX6_inCareer_22 : decode cX6_inCareer 22 = .ok (.aload_n 0, 1) := by decide +kernel
theorem dX6_inCareer_23 : decode cX6_inCareer 23 = .ok (.getfield 86, 3) := by decide +kernel
theorem dX6_inCareer_26 : decode cX6_inCareer 26 = .ok (.if_icmp .ge 40, 3) := by decide +kernel
theorem dX6_inCareer_29 : decode cX6_inCareer 29 = .ok (.iload 5, 2) := by decide +kernel
theorem dX6_inCareer_31 : decode cX6_inCareer 31 = .ok (.aload_n 0, 1) := by decide +kernel
theorem dX6_inCareer_32 : decode cX6_inCareer 32 = .ok (.iload 6, 2) := by decide +kernel
theorem dX6_inCareer_34 : decode cX6_inCareer 34 = .ok (.iload_n 1, 1) := by decide +kernel
theorem dX6_inCareer_35 : decode cX6_inCareer 35 = .ok (.invokevirtual 161, 3) := by decide +kernel
theorem dX6_inCareer_38 : decode cX6_inCareer 38 = .ok (.ifCond .eq 18, 3) := by decide +kernel
theorem dX6_inCareer_41 : decode cX6_inCareer 41 = .ok (.aload_n 0, 1) := by decide +kernel
theorem dX6_inCareer_42 : decode cX6_inCareer 42 = .ok (.iload 6, 2) := by decide +kernel
theorem dX6_inCareer_44 : decode cX6_inCareer 44 = .ok (.iload 4, 2) := by decide +kernel
theorem dX6_inCareer_46 : decode cX6_inCareer 46 = .ok (.invokevirtual 164, 3) := by decide +kernel
theorem dX6_inCareer_49 : decode cX6_inCareer 49 = .ok (.ifCond .eq 7, 3) := by decide +kernel
theorem dX6_inCareer_52 : decode cX6_inCareer 52 = .ok (.iconst 1, 1) := by decide +kernel
theorem dX6_inCareer_53 : decode cX6_inCareer 53 = .ok (.goto 4, 3) := by decide +kernel
theorem dX6_inCareer_56 : decode cX6_inCareer 56 = .ok (.iconst 0, 1) := by decide +kernel
theorem dX6_inCareer_57 : decode cX6_inCareer 57 = .ok (.iadd, 1) := by decide +kernel
theorem dX6_inCareer_58 : decode cX6_inCareer 58 = .ok (.istore 5, 2) := by decide +kernel
theorem dX6_inCareer_60 : decode cX6_inCareer 60 = .ok (.iinc 6 1, 3) := by decide +kernel
theorem dX6_inCareer_63 : decode cX6_inCareer 63 = .ok (.goto (-43), 3) := by decide +kernel
theorem dX6_inCareer_66 : decode cX6_inCareer 66 = .ok (.aload_n 0, 1) := by decide +kernel
theorem dX6_inCareer_67 : decode cX6_inCareer 67 = .ok (.iload 4, 2) := by decide +kernel
theorem dX6_inCareer_69 : decode cX6_inCareer 69 = .ok (.iload_n 1, 1) := by decide +kernel
theorem dX6_inCareer_70 : decode cX6_inCareer 70 = .ok (.invokevirtual 161, 3) := by decide +kernel
theorem dX6_inCareer_73 : decode cX6_inCareer 73 = .ok (.ifCond .eq 14, 3) := by decide +kernel
theorem dX6_inCareer_76 : decode cX6_inCareer 76 = .ok (.iload 5, 2) := by decide +kernel
theorem dX6_inCareer_78 : decode cX6_inCareer 78 = .ok (.iload_n 2, 1) := by decide +kernel
theorem dX6_inCareer_79 : decode cX6_inCareer 79 = .ok (.if_icmp .ne 8, 3) := by decide +kernel
theorem dX6_inCareer_82 : decode cX6_inCareer 82 = .ok (.iload 4, 2) := by decide +kernel
theorem dX6_inCareer_84 : decode cX6_inCareer 84 = .ok (.goto 4, 3) := by decide +kernel
theorem dX6_inCareer_87 : decode cX6_inCareer 87 = .ok (.iload_n 3, 1) := by decide +kernel
theorem dX6_inCareer_88 : decode cX6_inCareer 88 = .ok (.istore_n 3, 1) := by decide +kernel
theorem dX6_inCareer_89 : decode cX6_inCareer 89 = .ok (.iinc 4 1, 3) := by decide +kernel
theorem dX6_inCareer_92 : decode cX6_inCareer 92 = .ok (.goto (-87), 3) := by decide +kernel
theorem dX6_inCareer_95 : decode cX6_inCareer 95 = .ok (.iload_n 3, 1) := by decide +kernel
theorem dX6_inCareer_96 : decode cX6_inCareer 96 = .ok (.ireturn, 1) := by decide +kernel
theorem dX6_careerAt_0 : decode cX6_careerAt 0 = .ok (.aload_n 0, 1) := by decide +kernel
theorem dX6_careerAt_1 : decode cX6_careerAt 1 = .ok (.aload_n 0, 1) := by decide +kernel
theorem dX6_careerAt_2 : decode cX6_careerAt 2 = .ok (.iload_n 1, 1) := by decide +kernel
theorem dX6_careerAt_3 : decode cX6_careerAt 3 = .ok (.invokevirtual 158, 3) := by decide +kernel
theorem dX6_careerAt_6 : decode cX6_careerAt 6 = .ok (.ifCond .eq 11, 3) := by decide +kernel
theorem dX6_careerAt_9 : decode cX6_careerAt 9 = .ok (.iload_n 2, 1) := by decide +kernel
theorem dX6_careerAt_10 : decode cX6_careerAt 10 = .ok (.ifCond .lt 7, 3) := by decide +kernel
theorem dX6_careerAt_13 : decode cX6_careerAt 13 = .ok (.iconst 0, 1) := by decide +kernel
theorem dX6_careerAt_14 : decode cX6_careerAt 14 = .ok (.goto 4, 3) := by decide +kernel
theorem dX6_careerAt_17 : decode cX6_careerAt 17 = .ok (.iconst 1, 1) := by decide +kernel
theorem dX6_careerAt_18 : decode cX6_careerAt 18 = .ok (.putfield 82, 3) := by decide +kernel
theorem dX6_careerAt_21 : decode cX6_careerAt 21 = .ok (.aload_n 0, 1) := by decide +kernel
theorem dX6_careerAt_22 : decode cX6_careerAt 22 = .ok (.getfield 82, 3) := by decide +kernel
theorem dX6_careerAt_25 : decode cX6_careerAt 25 = .ok (.ifCond .le 7, 3) := by decide +kernel
theorem dX6_careerAt_28 : decode cX6_careerAt 28 = .ok (.iconst 0, 1) := by decide +kernel
theorem dX6_careerAt_29 : decode cX6_careerAt 29 = .ok (.goto 14, 3) := by decide +kernel
theorem dX6_careerAt_32 : decode cX6_careerAt 32 = .ok (.aload_n 0, 1) := by decide +kernel
theorem dX6_careerAt_33 : decode cX6_careerAt 33 = .ok (.aload_n 0, 1) := by decide +kernel
theorem dX6_careerAt_34 : decode cX6_careerAt 34 = .ok (.getfield 70, 3) := by decide +kernel
theorem dX6_careerAt_37 : decode cX6_careerAt 37 = .ok (.iload_n 1, 1) := by decide +kernel
theorem dX6_careerAt_38 : decode cX6_careerAt 38 = .ok (.iaload, 1) := by decide +kernel
theorem dX6_careerAt_39 : decode cX6_careerAt 39 = .ok (.iload_n 2, 1) := by decide +kernel
theorem dX6_careerAt_40 : decode cX6_careerAt 40 = .ok (.invokevirtual 167, 3) := by decide +kernel
theorem dX6_careerAt_43 : decode cX6_careerAt 43 = .ok (.ireturn, 1) := by decide +kernel
theorem dX6_breaches_0 : decode cX6_breaches 0 = .ok (.aload_n 0, 1) := by decide +kernel
theorem dX6_breaches_1 : decode cX6_breaches 1 = .ok (.aload_n 0, 1) := by decide +kernel
theorem dX6_breaches_2 : decode cX6_breaches 2 = .ok (.iload_n 1, 1) := by decide +kernel
theorem dX6_breaches_3 : decode cX6_breaches 3 = .ok (.invokevirtual 158, 3) := by decide +kernel
theorem dX6_breaches_6 : decode cX6_breaches 6 = .ok (.ifCond .eq 7, 3) := by decide +kernel
theorem dX6_breaches_9 : decode cX6_breaches 9 = .ok (.iconst 0, 1) := by decide +kernel
theorem dX6_breaches_10 : decode cX6_breaches 10 = .ok (.goto 4, 3) := by decide +kernel
theorem dX6_breaches_13 : decode cX6_breaches 13 = .ok (.iconst 1, 1) := by decide +kernel
theorem dX6_breaches_14 : decode cX6_breaches 14 = .ok (.putfield 82, 3) := by decide +kernel
theorem dX6_breaches_17 : decode cX6_breaches 17 = .ok (.aload_n 0, 1) := by decide +kernel
theorem dX6_breaches_18 : decode cX6_breaches 18 = .ok (.getfield 82, 3) := by decide +kernel
theorem dX6_breaches_21 : decode cX6_breaches 21 = .ok (.ifCond .le 5, 3) := by decide +kernel
theorem dX6_breaches_24 : decode cX6_breaches 24 = .ok (.iconst 0, 1) := by decide +kernel
theorem dX6_breaches_25 : decode cX6_breaches 25 = .ok (.ireturn, 1) := by decide +kernel
theorem dX6_breaches_26 : decode cX6_breaches 26 = .ok (.iconst 0, 1) := by decide +kernel
theorem dX6_breaches_27 : decode cX6_breaches 27 = .ok (.istore_n 2, 1) := by decide +kernel
theorem dX6_breaches_28 : decode cX6_breaches 28 = .ok (.aload_n 0, 1) := by decide +kernel
theorem dX6_breaches_29 : decode cX6_breaches 29 = .ok (.aload_n 0, 1) := by decide +kernel
theorem dX6_breaches_30 : decode cX6_breaches 30 = .ok (.getfield 70, 3) := by decide +kernel
theorem dX6_breaches_33 : decode cX6_breaches 33 = .ok (.iload_n 1, 1) := by decide +kernel
theorem dX6_breaches_34 : decode cX6_breaches 34 = .ok (.iaload, 1) := by decide +kernel
theorem dX6_breaches_35 : decode cX6_breaches 35 = .ok (.iconst 0, 1) := by decide +kernel
theorem dX6_breaches_36 : decode cX6_breaches 36 = .ok (.invokevirtual 167, 3) := by decide +kernel
theorem dX6_breaches_39 : decode cX6_breaches 39 = .ok (.istore_n 3, 1) := by decide +kernel
theorem dX6_breaches_40 : decode cX6_breaches 40 = .ok (.iconst 1, 1) := by decide +kernel
theorem dX6_breaches_41 : decode cX6_breaches 41 = .ok (.istore 4, 2) := by decide +kernel
theorem dX6_breaches_43 : decode cX6_breaches 43 = .ok (.iload 4, 2) := by decide +kernel
theorem dX6_breaches_45 : decode cX6_breaches 45 = .ok (.bipush 16, 2) := by decide +kernel
theorem dX6_breaches_47 : decode cX6_breaches 47 = .ok (.if_icmp .ge 71, 3) := by decide +kernel
theorem dX6_breaches_50 : decode cX6_breaches 50 = .ok (.iload_n 3, 1) := by decide +kernel
theorem dX6_breaches_51 : decode cX6_breaches 51 = .ok (.iconst (-1), 1) := by decide +kernel
theorem dX6_breaches_52 : decode cX6_breaches 52 = .ok (.if_icmp .eq 66, 3) := by decide +kernel
theorem dX6_breaches_55 : decode cX6_breaches 55 = .ok (.aload_n 0, 1) := by decide +kernel
theorem dX6_breaches_56 : decode cX6_breaches 56 = .ok (.aload_n 0, 1) := by decide +kernel
theorem dX6_breaches_57 : decode cX6_breaches 57 = .ok (.getfield 70, 3) := by decide +kernel
theorem dX6_breaches_60 : decode cX6_breaches 60 = .ok (.iload_n 1, 1) := by decide +kernel
theorem dX6_breaches_61 : decode cX6_breaches 61 = .ok (.iaload, 1) := by decide +kernel
theorem dX6_breaches_62 : decode cX6_breaches 62 = .ok (.iload 4, 2) := by decide +kernel
theorem dX6_breaches_64 : decode cX6_breaches 64 = .ok (.invokevirtual 167, 3) := by decide +kernel
theorem dX6_breaches_67 : decode cX6_breaches 67 = .ok (.istore 5, 2) := by decide +kernel
theorem dX6_breaches_69 : decode cX6_breaches 69 = .ok (.iload_n 2, 1) := by decide +kernel
theorem dX6_breaches_70 : decode cX6_breaches 70 = .ok (.iload 5, 2) := by decide +kernel
theorem dX6_breaches_72 : decode cX6_breaches 72 = .ok (.iconst (-1), 1) := by decide +kernel
theorem dX6_breaches_73 : decode cX6_breaches 73 = .ok (.if_icmp .eq 33, 3) := by decide +kernel
theorem dX6_breaches_76 : decode cX6_breaches 76 = .ok (.aload_n 0, 1) := by decide +kernel
theorem dX6_breaches_77 : decode cX6_breaches 77 = .ok (.getfield 22, 3) := by decide +kernel
theorem dX6_breaches_80 : decode cX6_breaches 80 = .ok (.aload_n 0, 1) := by decide +kernel
theorem dX6_breaches_81 : decode cX6_breaches 81 = .ok (.getfield 19, 3) := by decide +kernel
theorem dX6_breaches_84 : decode cX6_breaches 84 = .ok (.iload 5, 2) := by decide +kernel
theorem dX6_breaches_86 : decode cX6_breaches 86 = .ok (.iaload, 1) := by decide +kernel
theorem dX6_breaches_87 : decode cX6_breaches 87 = .ok (.iaload, 1) := by decide +kernel
theorem dX6_breaches_88 : decode cX6_breaches 88 = .ok (.aload_n 0, 1) := by decide +kernel
theorem dX6_breaches_89 : decode cX6_breaches 89 = .ok (.getfield 22, 3) := by decide +kernel
theorem dX6_breaches_92 : decode cX6_breaches 92 = .ok (.aload_n 0, 1) := by decide +kernel
theorem dX6_breaches_93 : decode cX6_breaches 93 = .ok (.getfield 19, 3) := by decide +kernel
theorem dX6_breaches_96 : decode cX6_breaches 96 = .ok (.iload_n 3, 1) := by decide +kernel
theorem dX6_breaches_97 : decode cX6_breaches 97 = .ok (.iaload, 1) := by decide +kernel
theorem dX6_breaches_98 : decode cX6_breaches 98 = .ok (.iaload, 1) := by decide +kernel
theorem dX6_breaches_99 : decode cX6_breaches 99 = .ok (.if_icmp .ge 7, 3) := by decide +kernel
theorem dX6_breaches_102 : decode cX6_breaches 102 = .ok (.iconst 1, 1) := by decide +kernel
theorem dX6_breaches_103 : decode cX6_breaches 103 = .ok (.goto 4, 3) := by decide +kernel
theorem dX6_breaches_106 : decode cX6_breaches 106 = .ok (.iconst 0, 1) := by decide +kernel
theorem dX6_breaches_107 : decode cX6_breaches 107 = .ok (.iadd, 1) := by decide +kernel
theorem dX6_breaches_108 : decode cX6_breaches 108 = .ok (.istore_n 2, 1) := by decide +kernel
theorem dX6_breaches_109 : decode cX6_breaches 109 = .ok (.iload 5, 2) := by decide +kernel
theorem dX6_breaches_111 : decode cX6_breaches 111 = .ok (.istore_n 3, 1) := by decide +kernel
theorem dX6_breaches_112 : decode cX6_breaches 112 = .ok (.iinc 4 1, 3) := by decide +kernel
theorem dX6_breaches_115 : decode cX6_breaches 115 = .ok (.goto (-72), 3) := by decide +kernel
theorem dX6_breaches_118 : decode cX6_breaches 118 = .ok (.iload_n 2, 1) := by decide +kernel
theorem dX6_breaches_119 : decode cX6_breaches 119 = .ok (.ireturn, 1) := by decide +kernel
theorem dX6_kin_0 : decode cX6_kin 0 = .ok (.aload_n 0, 1) := by decide +kernel
theorem dX6_kin_1 : decode cX6_kin 1 = .ok (.iload_n 1, 1) := by decide +kernel
theorem dX6_kin_2 : decode cX6_kin 2 = .ok (.iload_n 2, 1) := by decide +kernel
theorem dX6_kin_3 : decode cX6_kin 3 = .ok (.invokevirtual 136, 3) := by decide +kernel
theorem dX6_kin_6 : decode cX6_kin 6 = .ok (.ifCond .ne 5, 3) := by decide +kernel
theorem dX6_kin_9 : decode cX6_kin 9 = .ok (.iconst 0, 1) := by decide +kernel
theorem dX6_kin_10 : decode cX6_kin 10 = .ok (.ireturn, 1) := by decide +kernel
theorem dX6_kin_11 : decode cX6_kin 11 = .ok (.aload_n 0, 1) := by decide +kernel
theorem dX6_kin_12 : decode cX6_kin 12 = .ok (.getfield 34, 3) := by decide +kernel
theorem dX6_kin_15 : decode cX6_kin 15 = .ok (.iload_n 1, 1) := by decide +kernel
theorem dX6_kin_16 : decode cX6_kin 16 = .ok (.iaload, 1) := by decide +kernel
theorem dX6_kin_17 : decode cX6_kin 17 = .ok (.iload_n 2, 1) := by decide +kernel
theorem dX6_kin_18 : decode cX6_kin 18 = .ok (.invokestatic 104, 3) := by decide +kernel
theorem dX6_kin_21 : decode cX6_kin 21 = .ok (.istore_n 3, 1) := by decide +kernel
theorem dX6_kin_22 : decode cX6_kin 22 = .ok (.aload_n 0, 1) := by decide +kernel
theorem dX6_kin_23 : decode cX6_kin 23 = .ok (.getfield 34, 3) := by decide +kernel
theorem dX6_kin_26 : decode cX6_kin 26 = .ok (.iload_n 1, 1) := by decide +kernel
theorem dX6_kin_27 : decode cX6_kin 27 = .ok (.dup2, 1) := by decide +kernel
theorem dX6_kin_28 : decode cX6_kin 28 = .ok (.iaload, 1) := by decide +kernel
theorem dX6_kin_29 : decode cX6_kin 29 = .ok (.iconst 1, 1) := by decide +kernel
theorem dX6_kin_30 : decode cX6_kin 30 = .ok (.iload_n 2, 1) := by decide +kernel
theorem dX6_kin_31 : decode cX6_kin 31 = .ok (.ishl, 1) := by decide +kernel
theorem dX6_kin_32 : decode cX6_kin 32 = .ok (.ior, 1) := by decide +kernel
theorem dX6_kin_33 : decode cX6_kin 33 = .ok (.iastore, 1) := by decide +kernel
theorem dX6_kin_34 : decode cX6_kin 34 = .ok (.aload_n 0, 1) := by decide +kernel
theorem dX6_kin_35 : decode cX6_kin 35 = .ok (.getfield 34, 3) := by decide +kernel
theorem dX6_kin_38 : decode cX6_kin 38 = .ok (.iload_n 2, 1) := by decide +kernel
theorem dX6_kin_39 : decode cX6_kin 39 = .ok (.dup2, 1) := by decide +kernel
theorem dX6_kin_40 : decode cX6_kin 40 = .ok (.iaload, 1) := by decide +kernel
theorem dX6_kin_41 : decode cX6_kin 41 = .ok (.iconst 1, 1) := by decide +kernel
theorem dX6_kin_42 : decode cX6_kin 42 = .ok (.iload_n 1, 1) := by decide +kernel
theorem dX6_kin_43 : decode cX6_kin 43 = .ok (.ishl, 1) := by decide +kernel
theorem dX6_kin_44 : decode cX6_kin 44 = .ok (.ior, 1) := by decide +kernel
theorem dX6_kin_45 : decode cX6_kin 45 = .ok (.iastore, 1) := by decide +kernel
theorem dX6_kin_46 : decode cX6_kin 46 = .ok (.iload_n 3, 1) := by decide +kernel
theorem dX6_kin_47 : decode cX6_kin 47 = .ok (.ireturn, 1) := by decide +kernel
theorem dX6_degree_0 : decode cX6_degree 0 = .ok (.aload_n 0, 1) := by decide +kernel
theorem dX6_degree_1 : decode cX6_degree 1 = .ok (.aload_n 0, 1) := by decide +kernel
theorem dX6_degree_2 : decode cX6_degree 2 = .ok (.iload_n 1, 1) := by decide +kernel
theorem dX6_degree_3 : decode cX6_degree 3 = .ok (.invokevirtual 158, 3) := by decide +kernel
theorem dX6_degree_6 : decode cX6_degree 6 = .ok (.ifCond .eq 15, 3) := by decide +kernel
theorem dX6_degree_9 : decode cX6_degree 9 = .ok (.aload_n 0, 1) := by decide +kernel
theorem dX6_degree_10 : decode cX6_degree 10 = .ok (.iload_n 2, 1) := by decide +kernel
theorem dX6_degree_11 : decode cX6_degree 11 = .ok (.invokevirtual 158, 3) := by decide +kernel
theorem dX6_degree_14 : decode cX6_degree 14 = .ok (.ifCond .eq 7, 3) := by decide +kernel
theorem dX6_degree_17 : decode cX6_degree 17 = .ok (.iconst 0, 1) := by decide +kernel
theorem dX6_degree_18 : decode cX6_degree 18 = .ok (.goto 4, 3) := by decide +kernel
theorem dX6_degree_21 : decode cX6_degree 21 = .ok (.iconst 1, 1) := by decide +kernel
theorem dX6_degree_22 : decode cX6_degree 22 = .ok (.putfield 82, 3) := by decide +kernel
theorem dX6_degree_25 : decode cX6_degree 25 = .ok (.aload_n 0, 1) := by decide +kernel
theorem dX6_degree_26 : decode cX6_degree 26 = .ok (.getfield 82, 3) := by decide +kernel
theorem dX6_degree_29 : decode cX6_degree 29 = .ok (.ifCond .le 5, 3) := by decide +kernel
theorem dX6_degree_32 : decode cX6_degree 32 = .ok (.iconst 0, 1) := by decide +kernel
theorem dX6_degree_33 : decode cX6_degree 33 = .ok (.ireturn, 1) := by decide +kernel
theorem dX6_degree_34 : decode cX6_degree 34 = .ok (.iconst 0, 1) := by decide +kernel
theorem dX6_degree_35 : decode cX6_degree 35 = .ok (.istore_n 3, 1) := by decide +kernel
theorem dX6_degree_36 : decode cX6_degree 36 = .ok (.iload_n 3, 1) := by decide +kernel
theorem dX6_degree_37 : decode cX6_degree 37 = .ok (.bipush 40, 2) := by decide +kernel
theorem dX6_degree_39 : decode cX6_degree 39 = .ok (.if_icmp .ge 16, 3) := by decide +kernel
theorem dX6_degree_42 : decode cX6_degree 42 = .ok (.aload_n 0, 1) := by decide +kernel
theorem dX6_degree_43 : decode cX6_degree 43 = .ok (.getfield 73, 3) := by decide +kernel
theorem dX6_degree_46 : decode cX6_degree 46 = .ok (.iload_n 3, 1) := by decide +kernel
theorem dX6_degree_47 : decode cX6_degree 47 = .ok (.iconst (-1), 1) := by decide +kernel
theorem dX6_degree_48 : decode cX6_degree 48 = .ok (.iastore, 1) := by decide +kernel
theorem dX6_degree_49 : decode cX6_degree 49 = .ok (.iinc 3 1, 3) := by decide +kernel
theorem dX6_degree_52 : decode cX6_degree 52 = .ok (.goto (-16), 3) := by decide +kernel
theorem dX6_degree_55 : decode cX6_degree 55 = .ok (.aload_n 0, 1) := by decide +kernel
theorem dX6_degree_56 : decode cX6_degree 56 = .ok (.getfield 73, 3) := by decide +kernel
theorem dX6_degree_59 : decode cX6_degree 59 = .ok (.aload_n 0, 1) := by decide +kernel
theorem dX6_degree_60 : decode cX6_degree 60 = .ok (.getfield 70, 3) := by decide +kernel
theorem dX6_degree_63 : decode cX6_degree 63 = .ok (.iload_n 1, 1) := by decide +kernel
theorem dX6_degree_64 : decode cX6_degree 64 = .ok (.iaload, 1) := by decide +kernel
theorem dX6_degree_65 : decode cX6_degree 65 = .ok (.iconst 0, 1) := by decide +kernel
theorem dX6_degree_66 : decode cX6_degree 66 = .ok (.iastore, 1) := by decide +kernel
theorem dX6_degree_67 : decode cX6_degree 67 = .ok (.iconst 0, 1) := by decide +kernel
theorem dX6_degree_68 : decode cX6_degree 68 = .ok (.istore_n 3, 1) := by decide +kernel
theorem dX6_degree_69 : decode cX6_degree 69 = .ok (.iload_n 3, 1) := by decide +kernel
theorem dX6_degree_70 : decode cX6_degree 70 = .ok (.bipush 16, 2) := by decide +kernel
theorem dX6_degree_72 : decode cX6_degree 72 = .ok (.if_icmp .ge 107, 3) := by decide +kernel
theorem dX6_degree_75 : decode cX6_degree 75 = .ok (.iconst 0, 1) := by decide +kernel
theorem dX6_degree_76 : decode cX6_degree 76 = .ok (.istore 4, 2) := by decide +kernel
theorem dX6_degree_78 : decode cX6_degree 78 = .ok (.iload 4, 2) := by decide +kernel
theorem dX6_degree_80 : decode cX6_degree 80 = .ok (.aload_n 0, 1) := by decide +kernel
theorem dX6_degree_81 : decode cX6_degree 81 = .ok (.getfield 86, 3) := by decide +kernel
theorem dX6_degree_84 : decode cX6_degree 84 = .ok (.if_icmp .ge 89, 3) := by decide +kernel
theorem dX6_degree_87 : decode cX6_degree 87 = .ok (.iconst 0, 1) := by decide +kernel
theorem dX6_degree_88 : decode cX6_degree 88 = .ok (.istore 5, 2) := by decide +kernel
theorem dX6_degree_90 : decode cX6_degree 90 = .ok (.iload 5, 2) := by decide +kernel
theorem dX6_degree_92 : decode cX6_degree 92 = .ok (.aload_n 0, 1) := by decide +kernel
theorem dX6_degree_93 : decode cX6_degree 93 = .ok (.getfield 86, 3) := by decide +kernel
theorem dX6_degree_96 : decode cX6_degree 96 = .ok (.if_icmp .ge 71, 3) := by decide +kernel
theorem dX6_degree_99 : decode cX6_degree 99 = .ok (.aload_n 0, 1) := by decide +kernel
theorem dX6_degree_100 : decode cX6_degree 100 = .ok (.getfield 73, 3) := by decide +kernel
theorem dX6_degree_103 : decode cX6_degree 103 = .ok (.aload_n 0, 1) := by decide +kernel
theorem dX6_degree_104 : decode cX6_degree 104 = .ok (.getfield 67, 3) := by decide +kernel
theorem dX6_degree_107 : decode cX6_degree 107 = .ok (.iload 4, 2) := by decide +kernel
theorem dX6_degree_109 : decode cX6_degree 109 = .ok (.iaload, 1) := by decide +kernel
theorem dX6_degree_110 : decode cX6_degree 110 = .ok (.iaload, 1) := by decide +kernel
theorem dX6_degree_111 : decode cX6_degree 111 = .ok (.iload_n 3, 1) := by decide +kernel
theorem dX6_degree_112 : decode cX6_degree 112 = .ok (.if_icmp .ne 49, 3) := by decide +kernel
theorem dX6_degree_115 : decode cX6_degree 115 = .ok (.aload_n 0, 1) := by decide +kernel
theorem dX6_degree_116 : decode cX6_degree 116 = .ok (.getfield 34, 3) := by decide +kernel
theorem dX6_degree_119 : decode cX6_degree 119 = .ok (.iload 4, 2) := by decide +kernel
theorem dX6_degree_121 : decode cX6_degree 121 = .ok (.iaload, 1) := by decide +kernel
theorem dX6_degree_122 : decode cX6_degree 122 = .ok (.iload 5, 2) := by decide +kernel
theorem dX6_degree_124 : decode cX6_degree 124 = .ok (.invokestatic 104, 3) := by decide +kernel
theorem dX6_degree_127 : decode cX6_degree 127 = .ok (.ifCond .eq 34, 3) := by decide +kernel
theorem dX6_degree_130 : decode cX6_degree 130 = .ok (.aload_n 0, 1) := by decide +kernel
theorem dX6_degree_131 : decode cX6_degree 131 = .ok (.getfield 73, 3) := by decide +kernel
theorem dX6_degree_134 : decode cX6_degree 134 = .ok (.aload_n 0, 1) := by decide +kernel
theorem dX6_degree_135 : decode cX6_degree 135 = .ok (.getfield 67, 3) := by decide +kernel
theorem dX6_degree_138 : decode cX6_degree 138 = .ok (.iload 5, 2) := by decide +kernel
theorem dX6_degree_140 : decode cX6_degree 140 = .ok (.iaload, 1) := by decide +kernel
theorem dX6_degree_141 : decode cX6_degree 141 = .ok (.iaload, 1) := by decide +kernel
theorem dX6_degree_142 : decode cX6_degree 142 = .ok (.iconst (-1), 1) := by decide +kernel
theorem dX6_degree_143 : decode cX6_degree 143 = .ok (.if_icmp .ne 18, 3) := by decide +kernel
theorem dX6_degree_146 : decode cX6_degree 146 = .ok (.aload_n 0, 1) := by decide +kernel
theorem dX6_degree_147 : decode cX6_degree 147 = .ok (.getfield 73, 3) := by decide +kernel
theorem dX6_degree_150 : decode cX6_degree 150 = .ok (.aload_n 0, 1) := by decide +kernel
theorem dX6_degree_151 : decode cX6_degree 151 = .ok (.getfield 67, 3) := by decide +kernel
theorem dX6_degree_154 : decode cX6_degree 154 = .ok (.iload 5, 2) := by decide +kernel
theorem dX6_degree_156 : decode cX6_degree 156 = .ok (.iaload, 1) := by decide +kernel
theorem dX6_degree_157 : decode cX6_degree 157 = .ok (.iload_n 3, 1) := by decide +kernel
theorem dX6_degree_158 : decode cX6_degree 158 = .ok (.iconst 1, 1) := by decide +kernel
theorem dX6_degree_159 : decode cX6_degree 159 = .ok (.iadd, 1) := by decide +kernel
theorem dX6_degree_160 : decode cX6_degree 160 = .ok (.iastore, 1) := by decide +kernel
theorem dX6_degree_161 : decode cX6_degree 161 = .ok (.iinc 5 1, 3) := by decide +kernel
theorem dX6_degree_164 : decode cX6_degree 164 = .ok (.goto (-74), 3) := by decide +kernel
theorem dX6_degree_167 : decode cX6_degree 167 = .ok (.iinc 4 1, 3) := by decide +kernel
theorem dX6_degree_170 : decode cX6_degree 170 = .ok (.goto (-92), 3) := by decide +kernel
theorem dX6_degree_173 : decode cX6_degree 173 = .ok (.iinc 3 1, 3) := by decide +kernel
theorem dX6_degree_176 : decode cX6_degree 176 = .ok (.goto (-107), 3) := by decide +kernel
theorem dX6_degree_179 : decode cX6_degree 179 = .ok (.aload_n 0, 1) := by decide +kernel
theorem dX6_degree_180 : decode cX6_degree 180 = .ok (.getfield 73, 3) := by decide +kernel
theorem dX6_degree_183 : decode cX6_degree 183 = .ok (.aload_n 0, 1) := by decide +kernel
theorem dX6_degree_184 : decode cX6_degree 184 = .ok (.getfield 70, 3) := by decide +kernel
theorem dX6_degree_187 : decode cX6_degree 187 = .ok (.iload_n 2, 1) := by decide +kernel
theorem dX6_degree_188 : decode cX6_degree 188 = .ok (.iaload, 1) := by decide +kernel
theorem dX6_degree_189 : decode cX6_degree 189 = .ok (.iaload, 1) := by decide +kernel
theorem dX6_degree_190 : decode cX6_degree 190 = .ok (.ireturn, 1) := by decide +kernel
theorem dX6_worth_0 : decode cX6_worth 0 = .ok (.iconst 0, 1) := by decide +kernel
theorem dX6_worth_1 : decode cX6_worth 1 = .ok (.istore_n 2, 1) := by decide +kernel
theorem dX6_worth_2 : decode cX6_worth 2 = .ok (.iconst 0, 1) := by decide +kernel
theorem dX6_worth_3 : decode cX6_worth 3 = .ok (.istore_n 3, 1) := by decide +kernel
theorem dX6_worth_4 : decode cX6_worth 4 = .ok (.iload_n 3, 1) := by decide +kernel
theorem dX6_worth_5 : decode cX6_worth 5 = .ok (.bipush 6, 2) := by decide +kernel
theorem dX6_worth_7 : decode cX6_worth 7 = .ok (.if_icmp .ge 124, 3) := by decide +kernel
theorem dX6_worth_10 : decode cX6_worth 10 = .ok (.iconst 0, 1) := by decide +kernel
theorem dX6_worth_11 : decode cX6_worth 11 = .ok (.istore 4, 2) := by decide +kernel
theorem dX6_worth_13 : decode cX6_worth 13 = .ok (.iload 4, 2) := by decide +kernel
theorem dX6_worth_15 : decode cX6_worth 15 = .ok (.iload_n 3, 1) := by decide +kernel
theorem dX6_worth_16 : decode cX6_worth 16 = .ok (.if_icmp .ge 109, 3) := by decide +kernel
theorem dX6_worth_19 : decode cX6_worth 19 = .ok (.iload_n 1, 1) := by decide +kernel
theorem dX6_worth_20 : decode cX6_worth 20 = .ok (.iload_n 3, 1) := by decide +kernel
theorem dX6_worth_21 : decode cX6_worth 21 = .ok (.invokestatic 104, 3) := by decide +kernel
theorem dX6_worth_24 : decode cX6_worth 24 = .ok (.ifCond .eq 95, 3) := by decide +kernel
theorem dX6_worth_27 : decode cX6_worth 27 = .ok (.iload_n 1, 1) := by decide +kernel
theorem dX6_worth_28 : decode cX6_worth 28 = .ok (.iload 4, 2) := by decide +kernel
theorem dX6_worth_30 : decode cX6_worth 30 = .ok (.invokestatic 104, 3) := by decide +kernel
theorem dX6_worth_33 : decode cX6_worth 33 = .ok (.ifCond .eq 86, 3) := by decide +kernel
theorem dX6_worth_36 : decode cX6_worth 36 = .ok (.aload_n 0, 1) := by decide +kernel
theorem dX6_worth_37 : decode cX6_worth 37 = .ok (.aload_n 0, 1) := by decide +kernel
theorem dX6_worth_38 : decode cX6_worth 38 = .ok (.getfield 76, 3) := by decide +kernel
theorem dX6_worth_41 : decode cX6_worth 41 = .ok (.iload_n 3, 1) := by decide +kernel
theorem dX6_worth_42 : decode cX6_worth 42 = .ok (.iaload, 1) := by decide +kernel
theorem dX6_worth_43 : decode cX6_worth 43 = .ok (.aload_n 0, 1) := by decide +kernel
theorem dX6_worth_44 : decode cX6_worth 44 = .ok (.getfield 76, 3) := by decide +kernel
theorem dX6_worth_47 : decode cX6_worth 47 = .ok (.iload 4, 2) := by decide +kernel
theorem dX6_worth_49 : decode cX6_worth 49 = .ok (.iaload, 1) := by decide +kernel
theorem dX6_worth_50 : decode cX6_worth 50 = .ok (.invokevirtual 143, 3) := by decide +kernel
theorem dX6_worth_53 : decode cX6_worth 53 = .ok (.ifCond .ne 27, 3) := by decide +kernel
theorem dX6_worth_56 : decode cX6_worth 56 = .ok (.aload_n 0, 1) := by decide +kernel
theorem dX6_worth_57 : decode cX6_worth 57 = .ok (.getfield 31, 3) := by decide +kernel
theorem dX6_worth_60 : decode cX6_worth 60 = .ok (.aload_n 0, 1) := by decide +kernel
theorem dX6_worth_61 : decode cX6_worth 61 = .ok (.getfield 76, 3) := by decide +kernel
theorem dX6_worth_64 : decode cX6_worth 64 = .ok (.iload_n 3, 1) := by decide +kernel
theorem dX6_worth_65 : decode cX6_worth 65 = .ok (.iaload, 1) := by decide +kernel
theorem dX6_worth_66 : decode cX6_worth 66 = .ok (.iaload, 1) := by decide +kernel
theorem dX6_worth_67 : decode cX6_worth 67 = .ok (.aload_n 0, 1) := by decide +kernel
theorem dX6_worth_68 : decode cX6_worth 68 = .ok (.getfield 76, 3) := by decide +kernel
theorem dX6_worth_71 : decode cX6_worth 71 = .ok (.iload 4, 2) := by decide +kernel
theorem dX6_worth_73 : decode cX6_worth 73 = .ok (.iaload, 1) := by decide +kernel
theorem dX6_worth_74 : decode cX6_worth 74 = .ok (.invokestatic 104, 3) := by decide +kernel
theorem dX6_worth_77 : decode cX6_worth 77 = .ok (.ifCond .eq 7, 3) := by decide +kernel
theorem dX6_worth_80 : decode cX6_worth 80 = .ok (.iconst 1, 1) := by decide +kernel
theorem dX6_worth_81 : decode cX6_worth 81 = .ok (.goto 4, 3) := by decide +kernel
theorem dX6_worth_84 : decode cX6_worth 84 = .ok (.iconst 0, 1) := by decide +kernel
theorem dX6_worth_85 : decode cX6_worth 85 = .ok (.istore 5, 2) := by decide +kernel
theorem dX6_worth_87 : decode cX6_worth 87 = .ok (.iload_n 2, 1) := by decide +kernel
theorem dX6_worth_88 : decode cX6_worth 88 = .ok (.iload 5, 2) := by decide +kernel
theorem dX6_worth_90 : decode cX6_worth 90 = .ok (.ifCond .eq 8, 3) := by decide +kernel
theorem dX6_worth_93 : decode cX6_worth 93 = .ok (.ldc 170, 2) := by decide +kernel
theorem dX6_worth_95 : decode cX6_worth 95 = .ok (.goto 22, 3) := by decide +kernel
theorem dX6_worth_98 : decode cX6_worth 98 = .ok (.aload_n 0, 1) := by decide +kernel
theorem dX6_worth_99 : decode cX6_worth 99 = .ok (.aload_n 0, 1) := by decide +kernel
theorem dX6_worth_100 : decode cX6_worth 100 = .ok (.getfield 76, 3) := by decide +kernel
theorem dX6_worth_103 : decode cX6_worth 103 = .ok (.iload_n 3, 1) := by decide +kernel
theorem dX6_worth_104 : decode cX6_worth 104 = .ok (.iaload, 1) := by decide +kernel
theorem dX6_worth_105 : decode cX6_worth 105 = .ok (.aload_n 0, 1) := by decide +kernel
theorem dX6_worth_106 : decode cX6_worth 106 = .ok (.getfield 76, 3) := by decide +kernel
theorem dX6_worth_109 : decode cX6_worth 109 = .ok (.iload 4, 2) := by decide +kernel
theorem dX6_worth_111 : decode cX6_worth 111 = .ok (.iaload, 1) := by decide +kernel
theorem dX6_worth_112 : decode cX6_worth 112 = .ok (.invokevirtual 139, 3) := by decide +kernel
theorem dX6_worth_115 : decode cX6_worth 115 = .ok (.iconst 3, 1) := by decide +kernel
theorem dX6_worth_116 : decode cX6_worth 116 = .ok (.isub, 1) := by decide +kernel
theorem dX6_worth_117 : decode cX6_worth 117 = .ok (.iadd, 1) := by decide +kernel
theorem dX6_worth_118 : decode cX6_worth 118 = .ok (.istore_n 2, 1) := by decide +kernel
theorem dX6_worth_119 : decode cX6_worth 119 = .ok (.iinc 4 1, 3) := by decide +kernel
theorem dX6_worth_122 : decode cX6_worth 122 = .ok (.goto (-109), 3) := by decide +kernel
theorem dX6_worth_125 : decode cX6_worth 125 = .ok (.iinc 3 1, 3) := by decide +kernel
theorem dX6_worth_128 : decode cX6_worth 128 = .ok (.goto (-124), 3) := by decide +kernel
theorem dX6_worth_131 : decode cX6_worth 131 = .ok (.iload_n 2, 1) := by decide +kernel
theorem dX6_worth_132 : decode cX6_worth 132 = .ok (.ireturn, 1) := by decide +kernel
theorem dX6_tellsBest_0 : decode cX6_tellsBest 0 = .ok (.iconst 0, 1) := by decide +kernel
theorem dX6_tellsBest_1 : decode cX6_tellsBest 1 = .ok (.istore_n 2, 1) := by decide +kernel
theorem dX6_tellsBest_2 : decode cX6_tellsBest 2 = .ok (.iconst 0, 1) := by decide +kernel
theorem dX6_tellsBest_3 : decode cX6_tellsBest 3 = .ok (.istore_n 3, 1) := by decide +kernel
theorem dX6_tellsBest_4 : decode cX6_tellsBest 4 = .ok (.iload_n 3, 1) := by decide +kernel
theorem dX6_tellsBest_5 : decode cX6_tellsBest 5 = .ok (.bipush 16, 2) := by decide +kernel
theorem dX6_tellsBest_7 : decode cX6_tellsBest 7 = .ok (.if_icmp .ge 46, 3) := by decide +kernel
theorem dX6_tellsBest_10 : decode cX6_tellsBest 10 = .ok (.iload_n 1, 1) := by decide +kernel
theorem dX6_tellsBest_11 : decode cX6_tellsBest 11 = .ok (.iload_n 3, 1) := by decide +kernel
theorem dX6_tellsBest_12 : decode cX6_tellsBest 12 = .ok (.invokestatic 104, 3) := by decide +kernel
theorem dX6_tellsBest_15 : decode cX6_tellsBest 15 = .ok (.ifCond .eq 16, 3) := by decide +kernel
theorem dX6_tellsBest_18 : decode cX6_tellsBest 18 = .ok (.iload_n 2, 1) := by decide +kernel
theorem dX6_tellsBest_19 : decode cX6_tellsBest 19 = .ok (.bipush 6, 2) := by decide +kernel
theorem dX6_tellsBest_21 : decode cX6_tellsBest 21 = .ok (.if_icmp .ge 10, 3) := by decide +kernel
theorem dX6_tellsBest_24 : decode cX6_tellsBest 24 = .ok (.aload_n 0, 1) := by decide +kernel
theorem dX6_tellsBest_25 : decode cX6_tellsBest 25 = .ok (.getfield 76, 3) := by decide +kernel
theorem dX6_tellsBest_28 : decode cX6_tellsBest 28 = .ok (.iload_n 2, 1) := by decide +kernel
theorem dX6_tellsBest_29 : decode cX6_tellsBest 29 = .ok (.iload_n 3, 1) := by decide +kernel
theorem dX6_tellsBest_30 : decode cX6_tellsBest 30 = .ok (.iastore, 1) := by decide +kernel
theorem dX6_tellsBest_31 : decode cX6_tellsBest 31 = .ok (.iload_n 2, 1) := by decide +kernel
theorem dX6_tellsBest_32 : decode cX6_tellsBest 32 = .ok (.iload_n 1, 1) := by decide +kernel
theorem dX6_tellsBest_33 : decode cX6_tellsBest 33 = .ok (.iload_n 3, 1) := by decide +kernel
theorem dX6_tellsBest_34 : decode cX6_tellsBest 34 = .ok (.invokestatic 104, 3) := by decide +kernel
theorem dX6_tellsBest_37 : decode cX6_tellsBest 37 = .ok (.ifCond .eq 7, 3) := by decide +kernel
theorem dX6_tellsBest_40 : decode cX6_tellsBest 40 = .ok (.iconst 1, 1) := by decide +kernel
theorem dX6_tellsBest_41 : decode cX6_tellsBest 41 = .ok (.goto 4, 3) := by decide +kernel
theorem dX6_tellsBest_44 : decode cX6_tellsBest 44 = .ok (.iconst 0, 1) := by decide +kernel
theorem dX6_tellsBest_45 : decode cX6_tellsBest 45 = .ok (.iadd, 1) := by decide +kernel
theorem dX6_tellsBest_46 : decode cX6_tellsBest 46 = .ok (.istore_n 2, 1) := by decide +kernel
theorem dX6_tellsBest_47 : decode cX6_tellsBest 47 = .ok (.iinc 3 1, 3) := by decide +kernel
theorem dX6_tellsBest_50 : decode cX6_tellsBest 50 = .ok (.goto (-46), 3) := by decide +kernel
theorem dX6_tellsBest_53 : decode cX6_tellsBest 53 = .ok (.aload_n 0, 1) := by decide +kernel
theorem dX6_tellsBest_54 : decode cX6_tellsBest 54 = .ok (.iload_n 1, 1) := by decide +kernel
theorem dX6_tellsBest_55 : decode cX6_tellsBest 55 = .ok (.iconst 0, 1) := by decide +kernel
theorem dX6_tellsBest_56 : decode cX6_tellsBest 56 = .ok (.iconst 1, 1) := by decide +kernel
theorem dX6_tellsBest_57 : decode cX6_tellsBest 57 = .ok (.aload_n 0, 1) := by decide +kernel
theorem dX6_tellsBest_58 : decode cX6_tellsBest 58 = .ok (.getfield 86, 3) := by decide +kernel
theorem dX6_tellsBest_61 : decode cX6_tellsBest 61 = .ok (.ishl, 1) := by decide +kernel
theorem dX6_tellsBest_62 : decode cX6_tellsBest 62 = .ok (.iconst 1, 1) := by decide +kernel
theorem dX6_tellsBest_63 : decode cX6_tellsBest 63 = .ok (.isub, 1) := by decide +kernel
theorem dX6_tellsBest_64 : decode cX6_tellsBest 64 = .ok (.invokestatic 89, 3) := by decide +kernel
theorem dX6_tellsBest_67 : decode cX6_tellsBest 67 = .ok (.ifCond .eq 9, 3) := by decide +kernel
theorem dX6_tellsBest_70 : decode cX6_tellsBest 70 = .ok (.iload_n 2, 1) := by decide +kernel
theorem dX6_tellsBest_71 : decode cX6_tellsBest 71 = .ok (.bipush 6, 2) := by decide +kernel
theorem dX6_tellsBest_73 : decode cX6_tellsBest 73 = .ok (.if_icmp .le 7, 3) := by decide +kernel
theorem dX6_tellsBest_76 : decode cX6_tellsBest 76 = .ok (.iconst 1, 1) := by decide +kernel
theorem dX6_tellsBest_77 : decode cX6_tellsBest 77 = .ok (.goto 4, 3) := by decide +kernel
theorem dX6_tellsBest_80 : decode cX6_tellsBest 80 = .ok (.iconst 0, 1) := by decide +kernel
theorem dX6_tellsBest_81 : decode cX6_tellsBest 81 = .ok (.putfield 82, 3) := by decide +kernel
theorem dX6_tellsBest_84 : decode cX6_tellsBest 84 = .ok (.aload_n 0, 1) := by decide +kernel
theorem dX6_tellsBest_85 : decode cX6_tellsBest 85 = .ok (.getfield 82, 3) := by decide +kernel
theorem dX6_tellsBest_88 : decode cX6_tellsBest 88 = .ok (.ifCond .le 5, 3) := by decide +kernel
theorem dX6_tellsBest_91 : decode cX6_tellsBest 91 = .ok (.iconst 0, 1) := by decide +kernel
theorem dX6_tellsBest_92 : decode cX6_tellsBest 92 = .ok (.ireturn, 1) := by decide +kernel
theorem dX6_tellsBest_93 : decode cX6_tellsBest 93 = .ok (.aload_n 0, 1) := by decide +kernel
theorem dX6_tellsBest_94 : decode cX6_tellsBest 94 = .ok (.getfield 79, 3) := by decide +kernel
theorem dX6_tellsBest_97 : decode cX6_tellsBest 97 = .ok (.iconst 0, 1) := by decide +kernel
theorem dX6_tellsBest_98 : decode cX6_tellsBest 98 = .ok (.iconst 0, 1) := by decide +kernel
theorem dX6_tellsBest_99 : decode cX6_tellsBest 99 = .ok (.iastore, 1) := by decide +kernel
theorem dX6_tellsBest_100 : decode cX6_tellsBest 100 = .ok (.iconst 1, 1) := by decide +kernel
theorem dX6_tellsBest_101 : decode cX6_tellsBest 101 = .ok (.istore_n 3, 1) := by decide +kernel
theorem dX6_tellsBest_102 : decode cX6_tellsBest 102 = .ok (.iload_n 3, 1) := by decide +kernel
theorem dX6_tellsBest_103 : decode cX6_tellsBest 103 = .ok (.iconst 1, 1) := by decide +kernel
theorem dX6_tellsBest_104 : decode cX6_tellsBest 104 = .ok (.iload_n 2, 1) := by decide +kernel
theorem dX6_tellsBest_105 : decode cX6_tellsBest 105 = .ok (.ishl, 1) := by decide +kernel
theorem dX6_tellsBest_106 : decode cX6_tellsBest 106 = .ok (.if_icmp .ge 90, 3) := by decide +kernel
theorem dX6_tellsBest_109 : decode cX6_tellsBest 109 = .ok (.iload_n 3, 1) := by decide +kernel
theorem dX6_tellsBest_110 : decode cX6_tellsBest 110 = .ok (.iload_n 3, 1) := by decide +kernel
theorem dX6_tellsBest_111 : decode cX6_tellsBest 111 = .ok (.ineg, 1) := by decide +kernel
theorem dX6_tellsBest_112 : decode cX6_tellsBest 112 = .ok (.iand, 1) := by decide +kernel
theorem dX6_tellsBest_113 : decode cX6_tellsBest 113 = .ok (.istore 4, 2) := by decide +kernel
theorem dX6_tellsBest_115 : decode cX6_tellsBest 115 = .ok (.ldc 170, 2) := by decide +kernel
theorem dX6_tellsBest_117 : decode cX6_tellsBest 117 = .ok (.istore 5, 2) := by decide +kernel
theorem dX6_tellsBest_119 : decode cX6_tellsBest 119 = .ok (.iload_n 3, 1) := by decide +kernel
theorem dX6_tellsBest_120 : decode cX6_tellsBest 120 = .ok (.istore 6, 2) := by decide +kernel
theorem dX6_tellsBest_122 : decode cX6_tellsBest 122 = .ok (.iload 6, 2) := by decide +kernel
theorem dX6_tellsBest_124 : decode cX6_tellsBest 124 = .ok (.ifCond .le 58, 3) := by decide +kernel
theorem dX6_tellsBest_127 : decode cX6_tellsBest 127 = .ok (.iload 6, 2) := by decide +kernel
theorem dX6_tellsBest_129 : decode cX6_tellsBest 129 = .ok (.iload 4, 2) := by decide +kernel
theorem dX6_tellsBest_131 : decode cX6_tellsBest 131 = .ok (.iand, 1) := by decide +kernel
theorem dX6_tellsBest_132 : decode cX6_tellsBest 132 = .ok (.ifCond .le 39, 3) := by decide +kernel
theorem dX6_tellsBest_135 : decode cX6_tellsBest 135 = .ok (.aload_n 0, 1) := by decide +kernel
theorem dX6_tellsBest_136 : decode cX6_tellsBest 136 = .ok (.iload 6, 2) := by decide +kernel
theorem dX6_tellsBest_138 : decode cX6_tellsBest 138 = .ok (.invokevirtual 171, 3) := by decide +kernel
theorem dX6_tellsBest_141 : decode cX6_tellsBest 141 = .ok (.aload_n 0, 1) := by decide +kernel
theorem dX6_tellsBest_142 : decode cX6_tellsBest 142 = .ok (.getfield 79, 3) := by decide +kernel
theorem dX6_tellsBest_145 : decode cX6_tellsBest 145 = .ok (.iload_n 3, 1) := by decide +kernel
theorem dX6_tellsBest_146 : decode cX6_tellsBest 146 = .ok (.iload 6, 2) := by decide +kernel
theorem dX6_tellsBest_148 : decode cX6_tellsBest 148 = .ok (.iconst (-1), 1) := by decide +kernel
theorem dX6_tellsBest_149 : decode cX6_tellsBest 149 = .ok (.ixor, 1) := by decide +kernel
theorem dX6_tellsBest_150 : decode cX6_tellsBest 150 = .ok (.iand, 1) := by decide +kernel
theorem dX6_tellsBest_151 : decode cX6_tellsBest 151 = .ok (.iaload, 1) := by decide +kernel
theorem dX6_tellsBest_152 : decode cX6_tellsBest 152 = .ok (.iadd, 1) := by decide +kernel
theorem dX6_tellsBest_153 : decode cX6_tellsBest 153 = .ok (.istore 7, 2) := by decide +kernel
theorem dX6_tellsBest_155 : decode cX6_tellsBest 155 = .ok (.iload 7, 2) := by decide +kernel
theorem dX6_tellsBest_157 : decode cX6_tellsBest 157 = .ok (.iload 5, 2) := by decide +kernel
theorem dX6_tellsBest_159 : decode cX6_tellsBest 159 = .ok (.if_icmp .le 8, 3) := by decide +kernel
theorem dX6_tellsBest_162 : decode cX6_tellsBest 162 = .ok (.iload 7, 2) := by decide +kernel
theorem dX6_tellsBest_164 : decode cX6_tellsBest 164 = .ok (.goto 5, 3) := by decide +kernel
theorem dX6_tellsBest_167 : decode cX6_tellsBest 167 = .ok (.iload 5, 2) := by decide +kernel
theorem dX6_tellsBest_169 : decode cX6_tellsBest 169 = .ok (.istore 5, 2) := by decide +kernel
theorem dX6_tellsBest_171 : decode cX6_tellsBest 171 = .ok (.iload 6, 2) := by decide +kernel
theorem dX6_tellsBest_173 : decode cX6_tellsBest 173 = .ok (.iconst 1, 1) := by decide +kernel
theorem dX6_tellsBest_174 : decode cX6_tellsBest 174 = .ok (.isub, 1) := by decide +kernel
theorem dX6_tellsBest_175 : decode cX6_tellsBest 175 = .ok (.iload_n 3, 1) := by decide +kernel
theorem dX6_tellsBest_176 : decode cX6_tellsBest 176 = .ok (.iand, 1) := by decide +kernel
theorem dX6_tellsBest_177 : decode cX6_tellsBest 177 = .ok (.istore 6, 2) := by decide +kernel
theorem dX6_tellsBest_179 : decode cX6_tellsBest 179 = .ok (.goto (-57), 3) := by decide +kernel
theorem dX6_tellsBest_182 : decode cX6_tellsBest 182 = .ok (.aload_n 0, 1) := by decide +kernel
theorem dX6_tellsBest_183 : decode cX6_tellsBest 183 = .ok (.getfield 79, 3) := by decide +kernel
theorem dX6_tellsBest_186 : decode cX6_tellsBest 186 = .ok (.iload_n 3, 1) := by decide +kernel
theorem dX6_tellsBest_187 : decode cX6_tellsBest 187 = .ok (.iload 5, 2) := by decide +kernel
theorem dX6_tellsBest_189 : decode cX6_tellsBest 189 = .ok (.iastore, 1) := by decide +kernel
theorem dX6_tellsBest_190 : decode cX6_tellsBest 190 = .ok (.iinc 3 1, 3) := by decide +kernel
theorem dX6_tellsBest_193 : decode cX6_tellsBest 193 = .ok (.goto (-91), 3) := by decide +kernel
theorem dX6_tellsBest_196 : decode cX6_tellsBest 196 = .ok (.aload_n 0, 1) := by decide +kernel
theorem dX6_tellsBest_197 : decode cX6_tellsBest 197 = .ok (.getfield 79, 3) := by decide +kernel
theorem dX6_tellsBest_200 : decode cX6_tellsBest 200 = .ok (.iconst 1, 1) := by decide +kernel
theorem dX6_tellsBest_201 : decode cX6_tellsBest 201 = .ok (.iload_n 2, 1) := by decide +kernel
theorem dX6_tellsBest_202 : decode cX6_tellsBest 202 = .ok (.ishl, 1) := by decide +kernel
theorem dX6_tellsBest_203 : decode cX6_tellsBest 203 = .ok (.iconst 1, 1) := by decide +kernel
theorem dX6_tellsBest_204 : decode cX6_tellsBest 204 = .ok (.isub, 1) := by decide +kernel
theorem dX6_tellsBest_205 : decode cX6_tellsBest 205 = .ok (.iaload, 1) := by decide +kernel
theorem dX6_tellsBest_206 : decode cX6_tellsBest 206 = .ok (.ireturn, 1) := by decide +kernel
theorem dX6_best_0 : decode cX6_best 0 = .ok (.aload_n 0, 1) := by decide +kernel
theorem dX6_best_1 : decode cX6_best 1 = .ok (.iload_n 1, 1) := by decide +kernel
theorem dX6_best_2 : decode cX6_best 2 = .ok (.invokevirtual 174, 3) := by decide +kernel
theorem dX6_best_5 : decode cX6_best 5 = .ok (.ireturn, 1) := by decide +kernel
theorem dX6_bestAnew_0 : decode cX6_bestAnew 0 = .ok (.aload_n 0, 1) := by decide +kernel
theorem dX6_bestAnew_1 : decode cX6_bestAnew 1 = .ok (.iload_n 1, 1) := by decide +kernel
theorem dX6_bestAnew_2 : decode cX6_bestAnew 2 = .ok (.invokevirtual 174, 3) := by decide +kernel
theorem dX6_bestAnew_5 : decode cX6_bestAnew 5 = .ok (.ireturn, 1) := by decide +kernel
theorem dX6_rival_0 : decode cX6_rival 0 = .ok (.aload_n 0, 1) := by decide +kernel
theorem dX6_rival_1 : decode cX6_rival 1 = .ok (.aload_n 0, 1) := by decide +kernel
theorem dX6_rival_2 : decode cX6_rival 2 = .ok (.iload_n 1, 1) := by decide +kernel
theorem dX6_rival_3 : decode cX6_rival 3 = .ok (.invokevirtual 111, 3) := by decide +kernel
theorem dX6_rival_6 : decode cX6_rival 6 = .ok (.ifCond .ne 7, 3) := by decide +kernel
theorem dX6_rival_9 : decode cX6_rival 9 = .ok (.iconst 1, 1) := by decide +kernel
theorem dX6_rival_10 : decode cX6_rival 10 = .ok (.goto 18, 3) := by decide +kernel
theorem dX6_rival_13 : decode cX6_rival 13 = .ok (.iload_n 2, 1) := by decide +kernel
theorem dX6_rival_14 : decode cX6_rival 14 = .ok (.iconst (-1), 1) := by decide +kernel
theorem dX6_rival_15 : decode cX6_rival 15 = .ok (.bipush 15, 2) := by decide +kernel
theorem dX6_rival_17 : decode cX6_rival 17 = .ok (.invokestatic 89, 3) := by decide +kernel
theorem dX6_rival_20 : decode cX6_rival 20 = .ok (.ifCond .ne 7, 3) := by decide +kernel
theorem dX6_rival_23 : decode cX6_rival 23 = .ok (.iconst 2, 1) := by decide +kernel
theorem dX6_rival_24 : decode cX6_rival 24 = .ok (.goto 4, 3) := by decide +kernel
theorem dX6_rival_27 : decode cX6_rival 27 = .ok (.iconst 0, 1) := by decide +kernel
theorem dX6_rival_28 : decode cX6_rival 28 = .ok (.putfield 82, 3) := by decide +kernel
theorem dX6_rival_31 : decode cX6_rival 31 = .ok (.aload_n 0, 1) := by decide +kernel
theorem dX6_rival_32 : decode cX6_rival 32 = .ok (.getfield 82, 3) := by decide +kernel
theorem dX6_rival_35 : decode cX6_rival 35 = .ok (.ifCond .le 5, 3) := by decide +kernel
theorem dX6_rival_38 : decode cX6_rival 38 = .ok (.iconst 0, 1) := by decide +kernel
theorem dX6_rival_39 : decode cX6_rival 39 = .ok (.ireturn, 1) := by decide +kernel
theorem dX6_rival_40 : decode cX6_rival 40 = .ok (.aload_n 0, 1) := by decide +kernel
theorem dX6_rival_41 : decode cX6_rival 41 = .ok (.getfield 37, 3) := by decide +kernel
theorem dX6_rival_44 : decode cX6_rival 44 = .ok (.iload_n 1, 1) := by decide +kernel
theorem dX6_rival_45 : decode cX6_rival 45 = .ok (.iaload, 1) := by decide +kernel
theorem dX6_rival_46 : decode cX6_rival 46 = .ok (.istore_n 3, 1) := by decide +kernel
theorem dX6_rival_47 : decode cX6_rival 47 = .ok (.aload_n 0, 1) := by decide +kernel
theorem dX6_rival_48 : decode cX6_rival 48 = .ok (.getfield 37, 3) := by decide +kernel
theorem dX6_rival_51 : decode cX6_rival 51 = .ok (.iload_n 1, 1) := by decide +kernel
theorem dX6_rival_52 : decode cX6_rival 52 = .ok (.iload_n 2, 1) := by decide +kernel
theorem dX6_rival_53 : decode cX6_rival 53 = .ok (.iastore, 1) := by decide +kernel
theorem dX6_rival_54 : decode cX6_rival 54 = .ok (.iload_n 3, 1) := by decide +kernel
theorem dX6_rival_55 : decode cX6_rival 55 = .ok (.ireturn, 1) := by decide +kernel
theorem dX6_differ_0 : decode cX6_differ 0 = .ok (.aload_n 0, 1) := by decide +kernel
theorem dX6_differ_1 : decode cX6_differ 1 = .ok (.iconst 0, 1) := by decide +kernel
theorem dX6_differ_2 : decode cX6_differ 2 = .ok (.putfield 82, 3) := by decide +kernel
theorem dX6_differ_5 : decode cX6_differ 5 = .ok (.iconst 0, 1) := by decide +kernel
theorem dX6_differ_6 : decode cX6_differ 6 = .ok (.istore_n 1, 1) := by decide +kernel
theorem dX6_differ_7 : decode cX6_differ 7 = .ok (.iconst 0, 1) := by decide +kernel
theorem dX6_differ_8 : decode cX6_differ 8 = .ok (.istore_n 2, 1) := by decide +kernel
theorem dX6_differ_9 : decode cX6_differ 9 = .ok (.iload_n 2, 1) := by decide +kernel
theorem dX6_differ_10 : decode cX6_differ 10 = .ok (.aload_n 0, 1) := by decide +kernel
theorem dX6_differ_11 : decode cX6_differ 11 = .ok (.getfield 86, 3) := by decide +kernel
theorem dX6_differ_14 : decode cX6_differ 14 = .ok (.if_icmp .ge 87, 3) := by decide +kernel
theorem dX6_differ_17 : decode cX6_differ 17 = .ok (.iconst 0, 1) := by decide +kernel
theorem dX6_differ_18 : decode cX6_differ 18 = .ok (.istore_n 3, 1) := by decide +kernel
theorem dX6_differ_19 : decode cX6_differ 19 = .ok (.iload_n 3, 1) := by decide +kernel
theorem dX6_differ_20 : decode cX6_differ 20 = .ok (.iload_n 2, 1) := by decide +kernel
theorem dX6_differ_21 : decode cX6_differ 21 = .ok (.if_icmp .ge 74, 3) := by decide +kernel
theorem dX6_differ_24 : decode cX6_differ 24 = .ok (.aload_n 0, 1) := by decide +kernel
theorem dX6_differ_25 : decode cX6_differ 25 = .ok (.getfield 37, 3) := by decide +kernel
theorem dX6_differ_28 : decode cX6_differ 28 = .ok (.iload_n 2, 1) := by decide +kernel
theorem dX6_differ_29 : decode cX6_differ 29 = .ok (.iaload, 1) := by decide +kernel
theorem dX6_differ_30 : decode cX6_differ 30 = .ok (.iconst (-1), 1) := by decide +kernel
theorem dX6_differ_31 : decode cX6_differ 31 = .ok (.if_icmp .eq 22, 3) := by decide +kernel
theorem dX6_differ_34 : decode cX6_differ 34 = .ok (.aload_n 0, 1) := by decide +kernel
theorem dX6_differ_35 : decode cX6_differ 35 = .ok (.getfield 37, 3) := by decide +kernel
theorem dX6_differ_38 : decode cX6_differ 38 = .ok (.iload_n 2, 1) := by decide +kernel
theorem dX6_differ_39 : decode cX6_differ 39 = .ok (.iaload, 1) := by decide +kernel
theorem dX6_differ_40 : decode cX6_differ 40 = .ok (.aload_n 0, 1) := by decide +kernel
theorem dX6_differ_41 : decode cX6_differ 41 = .ok (.getfield 37, 3) := by decide +kernel
theorem dX6_differ_44 : decode cX6_differ 44 = .ok (.iload_n 3, 1) := by decide +kernel
theorem dX6_differ_45 : decode cX6_differ 45 = .ok (.iaload, 1) := by decide +kernel
theorem dX6_differ_46 : decode cX6_differ 46 = .ok (.if_icmp .ne 7, 3) := by decide +kernel
theorem dX6_differ_49 : decode cX6_differ 49 = .ok (.iconst 1, 1) := by decide +kernel
theorem dX6_differ_50 : decode cX6_differ 50 = .ok (.goto 4, 3) := by decide +kernel
theorem dX6_differ_53 : decode cX6_differ 53 = .ok (.iconst 0, 1) := by decide +kernel
theorem dX6_differ_54 : decode cX6_differ 54 = .ok (.istore 4, 2) := by decide +kernel
theorem dX6_differ_56 : decode cX6_differ 56 = .ok (.iload_n 1, 1) := by decide +kernel
theorem dX6_differ_57 : decode cX6_differ 57 = .ok (.iload 4, 2) := by decide +kernel
theorem dX6_differ_59 : decode cX6_differ 59 = .ok (.aload_n 0, 1) := by decide +kernel
theorem dX6_differ_60 : decode cX6_differ 60 = .ok (.getfield 67, 3) := by decide +kernel
theorem dX6_differ_63 : decode cX6_differ 63 = .ok (.iload_n 2, 1) := by decide +kernel
theorem dX6_differ_64 : decode cX6_differ 64 = .ok (.iaload, 1) := by decide +kernel
theorem dX6_differ_65 : decode cX6_differ 65 = .ok (.aload_n 0, 1) := by decide +kernel
theorem dX6_differ_66 : decode cX6_differ 66 = .ok (.getfield 67, 3) := by decide +kernel
theorem dX6_differ_69 : decode cX6_differ 69 = .ok (.iload_n 3, 1) := by decide +kernel
theorem dX6_differ_70 : decode cX6_differ 70 = .ok (.iaload, 1) := by decide +kernel
theorem dX6_differ_71 : decode cX6_differ 71 = .ok (.if_icmp .ne 7, 3) := by decide +kernel
theorem dX6_differ_74 : decode cX6_differ 74 = .ok (.iconst 1, 1) := by decide +kernel
theorem dX6_differ_75 : decode cX6_differ 75 = .ok (.goto 4, 3) := by decide +kernel
theorem dX6_differ_78 : decode cX6_differ 78 = .ok (.iconst 0, 1) := by decide +kernel
theorem dX6_differ_79 : decode cX6_differ 79 = .ok (.if_icmp .eq 7, 3) := by decide +kernel
theorem dX6_differ_82 : decode cX6_differ 82 = .ok (.iconst 1, 1) := by decide +kernel
theorem dX6_differ_83 : decode cX6_differ 83 = .ok (.goto 4, 3) := by decide +kernel
theorem dX6_differ_86 : decode cX6_differ 86 = .ok (.iconst 0, 1) := by decide +kernel
theorem dX6_differ_87 : decode cX6_differ 87 = .ok (.iadd, 1) := by decide +kernel
theorem dX6_differ_88 : decode cX6_differ 88 = .ok (.istore_n 1, 1) := by decide +kernel
theorem dX6_differ_89 : decode cX6_differ 89 = .ok (.iinc 3 1, 3) := by decide +kernel
theorem dX6_differ_92 : decode cX6_differ 92 = .ok (.goto (-73), 3) := by decide +kernel
theorem dX6_differ_95 : decode cX6_differ 95 = .ok (.iinc 2 1, 3) := by decide +kernel
theorem dX6_differ_98 : decode cX6_differ 98 = .ok (.goto (-89), 3) := by decide +kernel
theorem dX6_differ_101 : decode cX6_differ 101 = .ok (.iload_n 1, 1) := by decide +kernel
theorem dX6_differ_102 : decode cX6_differ 102 = .ok (.ireturn, 1) := by decide +kernel
