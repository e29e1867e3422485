theorem dX0_init_0 : decode cX0_init 0 = .ok (.aload_n 0, 1) := by decide +kernel
theorem dX0_init_1 : decode cX0_init 1 = .ok (.invokespecial 3, 3) := by decide +kernel
theorem dX0_init_4 : decode cX0_init 4 = .ok (.aload_n 0, 1) := by decide +kernel
theorem dX0_init_5 : decode cX0_init 5 = .ok (.bipush 16, 2) := by decide +kernel
theorem dX0_init_7 : decode cX0_init 7 = .ok (.newarray .int, 2) := by decide +kernel
theorem dX0_init_9 : decode cX0_init 9 = .ok (.putfield 11, 3) := by decide +kernel
theorem dX0_init_12 : decode cX0_init 12 = .ok (.aload_n 0, 1) := by decide +kernel
theorem dX0_init_13 : decode cX0_init 13 = .ok (.iconst 0, 1) := by decide +kernel
theorem dX0_init_14 : decode cX0_init 14 = .ok (.putfield 15, 3) := by decide +kernel
theorem dX0_init_17 : decode cX0_init 17 = .ok (.return_, 1) := by decide +kernel
theorem dX0_hasKind_0 : decode cX0_hasKind 0 = .ok (.iload_n 0, 1) := by decide +kernel
theorem dX0_hasKind_1 : decode cX0_hasKind 1 = .ok (.ifCond .lt 13, 3) := by decide +kernel
theorem dX0_hasKind_4 : decode cX0_hasKind 4 = .ok (.iload_n 0, 1) := by decide +kernel
theorem dX0_hasKind_5 : decode cX0_hasKind 5 = .ok (.bipush 8, 2) := by decide +kernel
theorem dX0_hasKind_7 : decode cX0_hasKind 7 = .ok (.if_icmp .ge 7, 3) := by decide +kernel
theorem dX0_hasKind_10 : decode cX0_hasKind 10 = .ok (.iconst 1, 1) := by decide +kernel
theorem dX0_hasKind_11 : decode cX0_hasKind 11 = .ok (.goto 4, 3) := by decide +kernel
theorem dX0_hasKind_14 : decode cX0_hasKind 14 = .ok (.iconst 0, 1) := by decide +kernel
theorem dX0_hasKind_15 : decode cX0_hasKind 15 = .ok (.ireturn, 1) := by decide +kernel
theorem dX0_isOfKind_0 : decode cX0_isOfKind 0 = .ok (.iload_n 0, 1) := by decide +kernel
theorem dX0_isOfKind_1 : decode cX0_isOfKind 1 = .ok (.istore_n 2, 1) := by decide +kernel
theorem dX0_isOfKind_2 : decode cX0_isOfKind 2 = .ok (.iconst 0, 1) := by decide +kernel
theorem dX0_isOfKind_3 : decode cX0_isOfKind 3 = .ok (.istore_n 3, 1) := by decide +kernel
theorem dX0_isOfKind_4 : decode cX0_isOfKind 4 = .ok (.iload_n 3, 1) := by decide +kernel
theorem dX0_isOfKind_5 : decode cX0_isOfKind 5 = .ok (.bipush 8, 2) := by decide +kernel
theorem dX0_isOfKind_7 : decode cX0_isOfKind 7 = .ok (.if_icmp .ge 31, 3) := by decide +kernel
theorem dX0_isOfKind_10 : decode cX0_isOfKind 10 = .ok (.iload_n 2, 1) := by decide +kernel
theorem dX0_isOfKind_11 : decode cX0_isOfKind 11 = .ok (.invokestatic 19, 3) := by decide +kernel
theorem dX0_isOfKind_14 : decode cX0_isOfKind 14 = .ok (.ifCond .eq 24, 3) := by decide +kernel
theorem dX0_isOfKind_17 : decode cX0_isOfKind 17 = .ok (.iload_n 2, 1) := by decide +kernel
theorem dX0_isOfKind_18 : decode cX0_isOfKind 18 = .ok (.ifCond .eq 20, 3) := by decide +kernel
theorem dX0_isOfKind_21 : decode cX0_isOfKind 21 = .ok (.iload_n 2, 1) := by decide +kernel
theorem dX0_isOfKind_22 : decode cX0_isOfKind 22 = .ok (.iload_n 1, 1) := by decide +kernel
theorem dX0_isOfKind_23 : decode cX0_isOfKind 23 = .ok (.if_icmp .eq 15, 3) := by decide +kernel
theorem dX0_isOfKind_26 : decode cX0_isOfKind 26 = .ok (.getstatic 23, 3) := by decide +kernel
theorem dX0_isOfKind_29 : decode cX0_isOfKind 29 = .ok (.iload_n 2, 1) := by decide +kernel
theorem dX0_isOfKind_30 : decode cX0_isOfKind 30 = .ok (.iaload, 1) := by decide +kernel
theorem dX0_isOfKind_31 : decode cX0_isOfKind 31 = .ok (.istore_n 2, 1) := by decide +kernel
theorem dX0_isOfKind_32 : decode cX0_isOfKind 32 = .ok (.iinc 3 1, 3) := by decide +kernel
theorem dX0_isOfKind_35 : decode cX0_isOfKind 35 = .ok (.goto (-31), 3) := by decide +kernel
theorem dX0_isOfKind_38 : decode cX0_isOfKind 38 = .ok (.iload_n 2, 1) := by decide +kernel
theorem dX0_isOfKind_39 : decode cX0_isOfKind 39 = .ok (.iload_n 1, 1) := by decide +kernel
theorem dX0_isOfKind_40 : decode cX0_isOfKind 40 = .ok (.if_icmp .ne 7, 3) := by decide +kernel
theorem dX0_isOfKind_43 : decode cX0_isOfKind 43 = .ok (.iconst 1, 1) := by decide +kernel
theorem dX0_isOfKind_44 : decode cX0_isOfKind 44 = .ok (.goto 4, 3) := by decide +kernel
theorem dX0_isOfKind_47 : decode cX0_isOfKind 47 = .ok (.iconst 0, 1) := by decide +kernel
theorem dX0_isOfKind_48 : decode cX0_isOfKind 48 = .ok (.ireturn, 1) := by decide +kernel
theorem dX0_bodyFor_0 : decode cX0_bodyFor 0 = .ok (.iload_n 0, 1) := by decide +kernel
theorem dX0_bodyFor_1 : decode cX0_bodyFor 1 = .ok (.istore_n 2, 1) := by decide +kernel
theorem dX0_bodyFor_2 : decode cX0_bodyFor 2 = .ok (.iconst 0, 1) := by decide +kernel
theorem dX0_bodyFor_3 : decode cX0_bodyFor 3 = .ok (.istore_n 3, 1) := by decide +kernel
theorem dX0_bodyFor_4 : decode cX0_bodyFor 4 = .ok (.iload_n 3, 1) := by decide +kernel
theorem dX0_bodyFor_5 : decode cX0_bodyFor 5 = .ok (.bipush 8, 2) := by decide +kernel
theorem dX0_bodyFor_7 : decode cX0_bodyFor 7 = .ok (.if_icmp .ge 53, 3) := by decide +kernel
theorem dX0_bodyFor_10 : decode cX0_bodyFor 10 = .ok (.iload_n 2, 1) := by decide +kernel
theorem dX0_bodyFor_11 : decode cX0_bodyFor 11 = .ok (.invokestatic 19, 3) := by decide +kernel
theorem dX0_bodyFor_14 : decode cX0_bodyFor 14 = .ok (.ifCond .eq 46, 3) := by decide +kernel
theorem dX0_bodyFor_17 : decode cX0_bodyFor 17 = .ok (.iload_n 2, 1) := by decide +kernel
theorem dX0_bodyFor_18 : decode cX0_bodyFor 18 = .ok (.ifCond .eq 42, 3) := by decide +kernel
theorem dX0_bodyFor_21 : decode cX0_bodyFor 21 = .ok (.iload_n 1, 1) := by decide +kernel
theorem dX0_bodyFor_22 : decode cX0_bodyFor 22 = .ok (.ifCond .ne 11, 3) := by decide +kernel
theorem dX0_bodyFor_25 : decode cX0_bodyFor 25 = .ok (.getstatic 26, 3) := by decide +kernel
theorem dX0_bodyFor_28 : decode cX0_bodyFor 28 = .ok (.iload_n 2, 1) := by decide +kernel
theorem dX0_bodyFor_29 : decode cX0_bodyFor 29 = .ok (.iaload, 1) := by decide +kernel
theorem dX0_bodyFor_30 : decode cX0_bodyFor 30 = .ok (.goto 8, 3) := by decide +kernel
theorem dX0_bodyFor_33 : decode cX0_bodyFor 33 = .ok (.getstatic 29, 3) := by decide +kernel
theorem dX0_bodyFor_36 : decode cX0_bodyFor 36 = .ok (.iload_n 2, 1) := by decide +kernel
theorem dX0_bodyFor_37 : decode cX0_bodyFor 37 = .ok (.iaload, 1) := by decide +kernel
theorem dX0_bodyFor_38 : decode cX0_bodyFor 38 = .ok (.istore 4, 2) := by decide +kernel
theorem dX0_bodyFor_40 : decode cX0_bodyFor 40 = .ok (.iload 4, 2) := by decide +kernel
theorem dX0_bodyFor_42 : decode cX0_bodyFor 42 = .ok (.ifCond .eq 6, 3) := by decide +kernel
theorem dX0_bodyFor_45 : decode cX0_bodyFor 45 = .ok (.iload 4, 2) := by decide +kernel
theorem dX0_bodyFor_47 : decode cX0_bodyFor 47 = .ok (.ireturn, 1) := by decide +kernel
theorem dX0_bodyFor_48 : decode cX0_bodyFor 48 = .ok (.getstatic 23, 3) := by decide +kernel
theorem dX0_bodyFor_51 : decode cX0_bodyFor 51 = .ok (.iload_n 2, 1) := by decide +kernel
theorem dX0_bodyFor_52 : decode cX0_bodyFor 52 = .ok (.iaload, 1) := by decide +kernel
theorem dX0_bodyFor_53 : decode cX0_bodyFor 53 = .ok (.istore_n 2, 1) := by decide +kernel
theorem dX0_bodyFor_54 : decode cX0_bodyFor 54 = .ok (.iinc 3 1, 3) := by decide +kernel
theorem dX0_bodyFor_57 : decode cX0_bodyFor 57 = .ok (.goto (-53), 3) := by decide +kernel
theorem dX0_bodyFor_60 : decode cX0_bodyFor 60 = .ok (.iload_n 1, 1) := by decide +kernel
theorem dX0_bodyFor_61 : decode cX0_bodyFor 61 = .ok (.ifCond .ne 8, 3) := by decide +kernel
theorem dX0_bodyFor_64 : decode cX0_bodyFor 64 = .ok (.bipush 10, 2) := by decide +kernel
theorem dX0_bodyFor_66 : decode cX0_bodyFor 66 = .ok (.goto 5, 3) := by decide +kernel
theorem dX0_bodyFor_69 : decode cX0_bodyFor 69 = .ok (.bipush 20, 2) := by decide +kernel
theorem dX0_bodyFor_71 : decode cX0_bodyFor 71 = .ok (.ireturn, 1) := by decide +kernel
theorem dX0_answerOf_0 : decode cX0_answerOf 0 = .ok (.aload_n 0, 1) := by decide +kernel
theorem dX0_answerOf_1 : decode cX0_answerOf 1 = .ok (.iconst 0, 1) := by decide +kernel
theorem dX0_answerOf_2 : decode cX0_answerOf 2 = .ok (.putfield 15, 3) := by decide +kernel
theorem dX0_answerOf_5 : decode cX0_answerOf 5 = .ok (.aload_n 0, 1) := by decide +kernel
theorem dX0_answerOf_6 : decode cX0_answerOf 6 = .ok (.aload_n 1, 1) := by decide +kernel
theorem dX0_answerOf_7 : decode cX0_answerOf 7 = .ok (.iload_n 2, 1) := by decide +kernel
theorem dX0_answerOf_8 : decode cX0_answerOf 8 = .ok (.iload_n 3, 1) := by decide +kernel
theorem dX0_answerOf_9 : decode cX0_answerOf 9 = .ok (.iconst 0, 1) := by decide +kernel
theorem dX0_answerOf_10 : decode cX0_answerOf 10 = .ok (.invokevirtual 32, 3) := by decide +kernel
theorem dX0_answerOf_13 : decode cX0_answerOf 13 = .ok (.ireturn, 1) := by decide +kernel
theorem dX0_asked_0 : decode cX0_asked 0 = .ok (.aload_n 0, 1) := by decide +kernel
theorem dX0_asked_1 : decode cX0_asked 1 = .ok (.aload_n 1, 1) := by decide +kernel
theorem dX0_asked_2 : decode cX0_asked 2 = .ok (.iload_n 2, 1) := by decide +kernel
theorem dX0_asked_3 : decode cX0_asked 3 = .ok (.aload_n 1, 1) := by decide +kernel
theorem dX0_asked_4 : decode cX0_asked 4 = .ok (.iload_n 2, 1) := by decide +kernel
theorem dX0_asked_5 : decode cX0_asked 5 = .ok (.invokevirtual 36, 3) := by decide +kernel
theorem dX0_asked_8 : decode cX0_asked 8 = .ok (.iload_n 3, 1) := by decide +kernel
theorem dX0_asked_9 : decode cX0_asked 9 = .ok (.invokestatic 42, 3) := by decide +kernel
theorem dX0_asked_12 : decode cX0_asked 12 = .ok (.iload 4, 2) := by decide +kernel
theorem dX0_asked_14 : decode cX0_asked 14 = .ok (.iconst 1, 1) := by decide +kernel
theorem dX0_asked_15 : decode cX0_asked 15 = .ok (.iadd, 1) := by decide +kernel
theorem dX0_asked_16 : decode cX0_asked 16 = .ok (.invokevirtual 46, 3) := by decide +kernel
theorem dX0_asked_19 : decode cX0_asked 19 = .ok (.ireturn, 1) := by decide +kernel
theorem dX0_given_0 : decode cX0_given 0 = .ok (.iload 4, 2) := by decide +kernel
theorem dX0_given_2 : decode cX0_given 2 = .ok (.bipush 16, 2) := by decide +kernel
theorem dX0_given_4 : decode cX0_given 4 = .ok (.if_icmp .le 5, 3) := by decide +kernel
theorem dX0_given_7 : decode cX0_given 7 = .ok (.iconst 0, 1) := by decide +kernel
theorem dX0_given_8 : decode cX0_given 8 = .ok (.ireturn, 1) := by decide +kernel
theorem dX0_given_9 : decode cX0_given 9 = .ok (.aload_n 0, 1) := by decide +kernel
theorem dX0_given_10 : decode cX0_given 10 = .ok (.iload_n 3, 1) := by decide +kernel
theorem dX0_given_11 : decode cX0_given 11 = .ok (.invokevirtual 49, 3) := by decide +kernel
theorem dX0_given_14 : decode cX0_given 14 = .ok (.iload_n 3, 1) := by decide +kernel
theorem dX0_given_15 : decode cX0_given 15 = .ok (.tableswitch 202 10 23 #[69, 76, 101, 116, 131, 202, 202, 202, 202, 202, 145, 147, 163, 177], 69) := by decide +kernel
theorem dX0_given_84 : decode cX0_given 84 = .ok (.aload_n 1, 1) := by decide +kernel
theorem dX0_given_85 : decode cX0_given 85 = .ok (.getfield 53, 3) := by decide +kernel
theorem dX0_given_88 : decode cX0_given 88 = .ok (.iload_n 2, 1) := by decide +kernel
theorem dX0_given_89 : decode cX0_given 89 = .ok (.iaload, 1) := by decide +kernel
theorem dX0_given_90 : decode cX0_given 90 = .ok (.ireturn, 1) := by decide +kernel
theorem dX0_given_91 : decode cX0_given 91 = .ok (.aload_n 0, 1) := by decide +kernel
theorem dX0_given_92 : decode cX0_given 92 = .ok (.aload_n 1, 1) := by decide +kernel
theorem dX0_given_93 : decode cX0_given 93 = .ok (.iload_n 2, 1) := by decide +kernel
theorem dX0_given_94 : decode cX0_given 94 = .ok (.bipush 10, 2) := by decide +kernel
theorem dX0_given_96 : decode cX0_given 96 = .ok (.iload 4, 2) := by decide +kernel
theorem dX0_given_98 : decode cX0_given 98 = .ok (.iconst 1, 1) := by decide +kernel
theorem dX0_given_99 : decode cX0_given 99 = .ok (.iadd, 1) := by decide +kernel
theorem dX0_given_100 : decode cX0_given 100 = .ok (.invokevirtual 46, 3) := by decide +kernel
theorem dX0_given_103 : decode cX0_given 103 = .ok (.aload_n 0, 1) := by decide +kernel
theorem dX0_given_104 : decode cX0_given 104 = .ok (.aload_n 1, 1) := by decide +kernel
theorem dX0_given_105 : decode cX0_given 105 = .ok (.iload_n 2, 1) := by decide +kernel
theorem dX0_given_106 : decode cX0_given 106 = .ok (.iconst 1, 1) := by decide +kernel
theorem dX0_given_107 : decode cX0_given 107 = .ok (.iload 4, 2) := by decide +kernel
theorem dX0_given_109 : decode cX0_given 109 = .ok (.iconst 1, 1) := by decide +kernel
theorem dX0_given_110 : decode cX0_given 110 = .ok (.iadd, 1) := by decide +kernel
theorem dX0_given_111 : decode cX0_given 111 = .ok (.invokevirtual 32, 3) := by decide +kernel
theorem dX0_given_114 : decode cX0_given 114 = .ok (.iadd, 1) := by decide +kernel
theorem dX0_given_115 : decode cX0_given 115 = .ok (.ireturn, 1) := by decide +kernel
theorem dX0_given_116 : decode cX0_given 116 = .ok (.aload_n 0, 1) := by decide +kernel
theorem dX0_given_117 : decode cX0_given 117 = .ok (.aload_n 1, 1) := by decide +kernel
theorem dX0_given_118 : decode cX0_given 118 = .ok (.iload_n 2, 1) := by decide +kernel
theorem dX0_given_119 : decode cX0_given 119 = .ok (.bipush 11, 2) := by decide +kernel
theorem dX0_given_121 : decode cX0_given 121 = .ok (.iload 4, 2) := by decide +kernel
theorem dX0_given_123 : decode cX0_given 123 = .ok (.iconst 1, 1) := by decide +kernel
theorem dX0_given_124 : decode cX0_given 124 = .ok (.iadd, 1) := by decide +kernel
theorem dX0_given_125 : decode cX0_given 125 = .ok (.invokevirtual 46, 3) := by decide +kernel
theorem dX0_given_128 : decode cX0_given 128 = .ok (.iconst 1, 1) := by decide +kernel
theorem dX0_given_129 : decode cX0_given 129 = .ok (.isub, 1) := by decide +kernel
theorem dX0_given_130 : decode cX0_given 130 = .ok (.ireturn, 1) := by decide +kernel
theorem dX0_given_131 : decode cX0_given 131 = .ok (.iconst 2, 1) := by decide +kernel
theorem dX0_given_132 : decode cX0_given 132 = .ok (.aload_n 0, 1) := by decide +kernel
theorem dX0_given_133 : decode cX0_given 133 = .ok (.aload_n 1, 1) := by decide +kernel
theorem dX0_given_134 : decode cX0_given 134 = .ok (.iload_n 2, 1) := by decide +kernel
theorem dX0_given_135 : decode cX0_given 135 = .ok (.bipush 12, 2) := by decide +kernel
theorem dX0_given_137 : decode cX0_given 137 = .ok (.iload 4, 2) := by decide +kernel
theorem dX0_given_139 : decode cX0_given 139 = .ok (.iconst 1, 1) := by decide +kernel
theorem dX0_given_140 : decode cX0_given 140 = .ok (.iadd, 1) := by decide +kernel
theorem dX0_given_141 : decode cX0_given 141 = .ok (.invokevirtual 46, 3) := by decide +kernel
theorem dX0_given_144 : decode cX0_given 144 = .ok (.imul, 1) := by decide +kernel
theorem dX0_given_145 : decode cX0_given 145 = .ok (.ireturn, 1) := by decide +kernel
theorem dX0_given_146 : decode cX0_given 146 = .ok (.aload_n 0, 1) := by decide +kernel
theorem dX0_given_147 : decode cX0_given 147 = .ok (.aload_n 1, 1) := by decide +kernel
theorem dX0_given_148 : decode cX0_given 148 = .ok (.iload_n 2, 1) := by decide +kernel
theorem dX0_given_149 : decode cX0_given 149 = .ok (.bipush 10, 2) := by decide +kernel
theorem dX0_given_151 : decode cX0_given 151 = .ok (.iload 4, 2) := by decide +kernel
theorem dX0_given_153 : decode cX0_given 153 = .ok (.iconst 1, 1) := by decide +kernel
theorem dX0_given_154 : decode cX0_given 154 = .ok (.iadd, 1) := by decide +kernel
theorem dX0_given_155 : decode cX0_given 155 = .ok (.invokevirtual 46, 3) := by decide +kernel
theorem dX0_given_158 : decode cX0_given 158 = .ok (.ineg, 1) := by decide +kernel
theorem dX0_given_159 : decode cX0_given 159 = .ok (.ireturn, 1) := by decide +kernel
theorem dX0_given_160 : decode cX0_given 160 = .ok (.iload_n 2, 1) := by decide +kernel
theorem dX0_given_161 : decode cX0_given 161 = .ok (.ireturn, 1) := by decide +kernel
theorem dX0_given_162 : decode cX0_given 162 = .ok (.aload_n 0, 1) := by decide +kernel
theorem dX0_given_163 : decode cX0_given 163 = .ok (.aload_n 1, 1) := by decide +kernel
theorem dX0_given_164 : decode cX0_given 164 = .ok (.iload_n 2, 1) := by decide +kernel
theorem dX0_given_165 : decode cX0_given 165 = .ok (.bipush 20, 2) := by decide +kernel
theorem dX0_given_167 : decode cX0_given 167 = .ok (.iload 4, 2) := by decide +kernel
theorem dX0_given_169 : decode cX0_given 169 = .ok (.iconst 1, 1) := by decide +kernel
theorem dX0_given_170 : decode cX0_given 170 = .ok (.iadd, 1) := by decide +kernel
theorem dX0_given_171 : decode cX0_given 171 = .ok (.invokevirtual 46, 3) := by decide +kernel
theorem dX0_given_174 : decode cX0_given 174 = .ok (.bipush 100, 2) := by decide +kernel
theorem dX0_given_176 : decode cX0_given 176 = .ok (.iadd, 1) := by decide +kernel
theorem dX0_given_177 : decode cX0_given 177 = .ok (.ireturn, 1) := by decide +kernel
theorem dX0_given_178 : decode cX0_given 178 = .ok (.aload_n 0, 1) := by decide +kernel
theorem dX0_given_179 : decode cX0_given 179 = .ok (.aload_n 1, 1) := by decide +kernel
theorem dX0_given_180 : decode cX0_given 180 = .ok (.iload_n 2, 1) := by decide +kernel
theorem dX0_given_181 : decode cX0_given 181 = .ok (.bipush 20, 2) := by decide +kernel
theorem dX0_given_183 : decode cX0_given 183 = .ok (.iload 4, 2) := by decide +kernel
theorem dX0_given_185 : decode cX0_given 185 = .ok (.iconst 1, 1) := by decide +kernel
theorem dX0_given_186 : decode cX0_given 186 = .ok (.iadd, 1) := by decide +kernel
theorem dX0_given_187 : decode cX0_given 187 = .ok (.invokevirtual 46, 3) := by decide +kernel
theorem dX0_given_190 : decode cX0_given 190 = .ok (.ineg, 1) := by decide +kernel
theorem dX0_given_191 : decode cX0_given 191 = .ok (.ireturn, 1) := by decide +kernel
theorem dX0_given_192 : decode cX0_given 192 = .ok (.aload_n 0, 1) := by decide +kernel
theorem dX0_given_193 : decode cX0_given 193 = .ok (.aload_n 1, 1) := by decide +kernel
theorem dX0_given_194 : decode cX0_given 194 = .ok (.iload_n 2, 1) := by decide +kernel
theorem dX0_given_195 : decode cX0_given 195 = .ok (.bipush 20, 2) := by decide +kernel
theorem dX0_given_197 : decode cX0_given 197 = .ok (.iload 4, 2) := by decide +kernel
theorem dX0_given_199 : decode cX0_given 199 = .ok (.iconst 1, 1) := by decide +kernel
theorem dX0_given_200 : decode cX0_given 200 = .ok (.iadd, 1) := by decide +kernel
theorem dX0_given_201 : decode cX0_given 201 = .ok (.invokevirtual 46, 3) := by decide +kernel
theorem dX0_given_204 : decode cX0_given 204 = .ok (.aload_n 0, 1) := by decide +kernel
theorem dX0_given_205 : decode cX0_given 205 = .ok (.aload_n 1, 1) := by decide +kernel
theorem dX0_given_206 : decode cX0_given 206 = .ok (.iload_n 2, 1) := by decide +kernel
theorem dX0_given_207 : decode cX0_given 207 = .ok (.iconst 0, 1) := by decide +kernel
theorem dX0_given_208 : decode cX0_given 208 = .ok (.iload 4, 2) := by decide +kernel
theorem dX0_given_210 : decode cX0_given 210 = .ok (.iconst 1, 1) := by decide +kernel
theorem dX0_given_211 : decode cX0_given 211 = .ok (.iadd, 1) := by decide +kernel
theorem dX0_given_212 : decode cX0_given 212 = .ok (.invokevirtual 32, 3) := by decide +kernel
theorem dX0_given_215 : decode cX0_given 215 = .ok (.iadd, 1) := by decide +kernel
theorem dX0_given_216 : decode cX0_given 216 = .ok (.ireturn, 1) := by decide +kernel
theorem dX0_given_217 : decode cX0_given 217 = .ok (.iconst 0, 1) := by decide +kernel
theorem dX0_given_218 : decode cX0_given 218 = .ok (.ireturn, 1) := by decide +kernel
theorem dX0_leave_0 : decode cX0_leave 0 = .ok (.aload_n 0, 1) := by decide +kernel
theorem dX0_leave_1 : decode cX0_leave 1 = .ok (.getfield 15, 3) := by decide +kernel
theorem dX0_leave_4 : decode cX0_leave 4 = .ok (.bipush 16, 2) := by decide +kernel
theorem dX0_leave_6 : decode cX0_leave 6 = .ok (.if_icmp .ge 23, 3) := by decide +kernel
theorem dX0_leave_9 : decode cX0_leave 9 = .ok (.aload_n 0, 1) := by decide +kernel
theorem dX0_leave_10 : decode cX0_leave 10 = .ok (.getfield 11, 3) := by decide +kernel
theorem dX0_leave_13 : decode cX0_leave 13 = .ok (.aload_n 0, 1) := by decide +kernel
theorem dX0_leave_14 : decode cX0_leave 14 = .ok (.getfield 15, 3) := by decide +kernel
theorem dX0_leave_17 : decode cX0_leave 17 = .ok (.iload_n 1, 1) := by decide +kernel
theorem dX0_leave_18 : decode cX0_leave 18 = .ok (.iastore, 1) := by decide +kernel
theorem dX0_leave_19 : decode cX0_leave 19 = .ok (.aload_n 0, 1) := by decide +kernel
theorem dX0_leave_20 : decode cX0_leave 20 = .ok (.dup, 1) := by decide +kernel
theorem dX0_leave_21 : decode cX0_leave 21 = .ok (.getfield 15, 3) := by decide +kernel
theorem dX0_leave_24 : decode cX0_leave 24 = .ok (.iconst 1, 1) := by decide +kernel
theorem dX0_leave_25 : decode cX0_leave 25 = .ok (.iadd, 1) := by decide +kernel
theorem dX0_leave_26 : decode cX0_leave 26 = .ok (.putfield 15, 3) := by decide +kernel
theorem dX0_leave_29 : decode cX0_leave 29 = .ok (.return_, 1) := by decide +kernel
theorem dX0_traced_0 : decode cX0_traced 0 = .ok (.iload_n 1, 1) := by decide +kernel
theorem dX0_traced_1 : decode cX0_traced 1 = .ok (.ifCond .lt 20, 3) := by decide +kernel
theorem dX0_traced_4 : decode cX0_traced 4 = .ok (.iload_n 1, 1) := by decide +kernel
theorem dX0_traced_5 : decode cX0_traced 5 = .ok (.aload_n 0, 1) := by decide +kernel
theorem dX0_traced_6 : decode cX0_traced 6 = .ok (.getfield 15, 3) := by decide +kernel
theorem dX0_traced_9 : decode cX0_traced 9 = .ok (.if_icmp .ge 12, 3) := by decide +kernel
theorem dX0_traced_12 : decode cX0_traced 12 = .ok (.aload_n 0, 1) := by decide +kernel
theorem dX0_traced_13 : decode cX0_traced 13 = .ok (.getfield 11, 3) := by decide +kernel
theorem dX0_traced_16 : decode cX0_traced 16 = .ok (.iload_n 1, 1) := by decide +kernel
theorem dX0_traced_17 : decode cX0_traced 17 = .ok (.iaload, 1) := by decide +kernel
theorem dX0_traced_18 : decode cX0_traced 18 = .ok (.goto 5, 3) := by decide +kernel
theorem dX0_traced_21 : decode cX0_traced 21 = .ok (.ldc 56, 2) := by decide +kernel
theorem dX0_traced_23 : decode cX0_traced 23 = .ok (.ireturn, 1) := by decide +kernel
theorem dX1_init_0 : decode cX1_init 0 = .ok (.aload_n 0, 1) := by decide +kernel
theorem dX1_init_1 : decode cX1_init 1 = .ok (.invokespecial 3, 3) := by decide +kernel
theorem dX1_init_4 : decode cX1_init 4 = .ok (.aload_n 0, 1) := by decide +kernel
theorem dX1_init_5 : decode cX1_init 5 = .ok (.bipush 12, 2) := by decide +kernel
theorem dX1_init_7 : decode cX1_init 7 = .ok (.newarray .int, 2) := by decide +kernel
theorem dX1_init_9 : decode cX1_init 9 = .ok (.putfield 9, 3) := by decide +kernel
theorem dX1_init_12 : decode cX1_init 12 = .ok (.aload_n 0, 1) := by decide +kernel
theorem dX1_init_13 : decode cX1_init 13 = .ok (.bipush 12, 2) := by decide +kernel
theorem dX1_init_15 : decode cX1_init 15 = .ok (.newarray .int, 2) := by decide +kernel
theorem dX1_init_17 : decode cX1_init 17 = .ok (.putfield 15, 3) := by decide +kernel
theorem dX1_init_20 : decode cX1_init 20 = .ok (.aload_n 0, 1) := by decide +kernel
theorem dX1_init_21 : decode cX1_init 21 = .ok (.iconst 0, 1) := by decide +kernel
theorem dX1_init_22 : decode cX1_init 22 = .ok (.putfield 18, 3) := by decide +kernel
theorem dX1_init_25 : decode cX1_init 25 = .ok (.return_, 1) := by decide +kernel
theorem dX1_forget_0 : decode cX1_forget 0 = .ok (.aload_n 0, 1) := by decide +kernel
theorem dX1_forget_1 : decode cX1_forget 1 = .ok (.iconst 0, 1) := by decide +kernel
theorem dX1_forget_2 : decode cX1_forget 2 = .ok (.putfield 18, 3) := by decide +kernel
theorem dX1_forget_5 : decode cX1_forget 5 = .ok (.return_, 1) := by decide +kernel
theorem dX1_look_0 : decode cX1_look 0 = .ok (.aload_n 0, 1) := by decide +kernel
theorem dX1_look_1 : decode cX1_look 1 = .ok (.getfield 18, 3) := by decide +kernel
theorem dX1_look_4 : decode cX1_look 4 = .ok (.ifCond .eq 4, 3) := by decide +kernel
theorem dX1_look_7 : decode cX1_look 7 = .ok (.return_, 1) := by decide +kernel
theorem dX1_look_8 : decode cX1_look 8 = .ok (.aload_n 0, 1) := by decide +kernel
theorem dX1_look_9 : decode cX1_look 9 = .ok (.iconst 1, 1) := by decide +kernel
theorem dX1_look_10 : decode cX1_look 10 = .ok (.putfield 18, 3) := by decide +kernel
theorem dX1_look_13 : decode cX1_look 13 = .ok (.aload_n 0, 1) := by decide +kernel
theorem dX1_look_14 : decode cX1_look 14 = .ok (.getfield 9, 3) := by decide +kernel
theorem dX1_look_17 : decode cX1_look 17 = .ok (.ldc 22, 2) := by decide +kernel
theorem dX1_look_19 : decode cX1_look 19 = .ok (.invokestatic 23, 3) := by decide +kernel
theorem dX1_look_22 : decode cX1_look 22 = .ok (.iconst 0, 1) := by decide +kernel
theorem dX1_look_23 : decode cX1_look 23 = .ok (.istore_n 3, 1) := by decide +kernel
theorem dX1_look_24 : decode cX1_look 24 = .ok (.iload_n 3, 1) := by decide +kernel
theorem dX1_look_25 : decode cX1_look 25 = .ok (.bipush 80, 2) := by decide +kernel
theorem dX1_look_27 : decode cX1_look 27 = .ok (.if_icmp .gt 59, 3) := by decide +kernel
theorem dX1_look_30 : decode cX1_look 30 = .ok (.iload_n 3, 1) := by decide +kernel
theorem dX1_look_31 : decode cX1_look 31 = .ok (.iconst 2, 1) := by decide +kernel
theorem dX1_look_32 : decode cX1_look 32 = .ok (.irem, 1) := by decide +kernel
theorem dX1_look_33 : decode cX1_look 33 = .ok (.iconst 1, 1) := by decide +kernel
theorem dX1_look_34 : decode cX1_look 34 = .ok (.if_icmp .ne 12, 3) := by decide +kernel
theorem dX1_look_37 : decode cX1_look 37 = .ok (.iload_n 3, 1) := by decide +kernel
theorem dX1_look_38 : decode cX1_look 38 = .ok (.iconst 2, 1) := by decide +kernel
theorem dX1_look_39 : decode cX1_look 39 = .ok (.idiv, 1) := by decide +kernel
theorem dX1_look_40 : decode cX1_look 40 = .ok (.ineg, 1) := by decide +kernel
theorem dX1_look_41 : decode cX1_look 41 = .ok (.iconst 1, 1) := by decide +kernel
theorem dX1_look_42 : decode cX1_look 42 = .ok (.isub, 1) := by decide +kernel
theorem dX1_look_43 : decode cX1_look 43 = .ok (.goto 6, 3) := by decide +kernel
theorem dX1_look_46 : decode cX1_look 46 = .ok (.iload_n 3, 1) := by decide +kernel
theorem dX1_look_47 : decode cX1_look 47 = .ok (.iconst 2, 1) := by decide +kernel
theorem dX1_look_48 : decode cX1_look 48 = .ok (.idiv, 1) := by decide +kernel
theorem dX1_look_49 : decode cX1_look 49 = .ok (.istore 4, 2) := by decide +kernel
theorem dX1_look_51 : decode cX1_look 51 = .ok (.aload_n 0, 1) := by decide +kernel
theorem dX1_look_52 : decode cX1_look 52 = .ok (.getfield 15, 3) := by decide +kernel
theorem dX1_look_55 : decode cX1_look 55 = .ok (.iload 4, 2) := by decide +kernel
theorem dX1_look_57 : decode cX1_look 57 = .ok (.invokestatic 23, 3) := by decide +kernel
theorem dX1_look_60 : decode cX1_look 60 = .ok (.aload_n 2, 1) := by decide +kernel
theorem dX1_look_61 : decode cX1_look 61 = .ok (.aload_n 1, 1) := by decide +kernel
theorem dX1_look_62 : decode cX1_look 62 = .ok (.aload_n 0, 1) := by decide +kernel
theorem dX1_look_63 : decode cX1_look 63 = .ok (.getfield 15, 3) := by decide +kernel
theorem dX1_look_66 : decode cX1_look 66 = .ok (.getstatic 29, 3) := by decide +kernel
theorem dX1_look_69 : decode cX1_look 69 = .ok (.iconst (-1), 1) := by decide +kernel
theorem dX1_look_70 : decode cX1_look 70 = .ok (.invokevirtual 32, 3) := by decide +kernel
theorem dX1_look_73 : decode cX1_look 73 = .ok (.aload_n 0, 1) := by decide +kernel
theorem dX1_look_74 : decode cX1_look 74 = .ok (.aload_n 2, 1) := by decide +kernel
theorem dX1_look_75 : decode cX1_look 75 = .ok (.iload 4, 2) := by decide +kernel
theorem dX1_look_77 : decode cX1_look 77 = .ok (.invokevirtual 38, 3) := by decide +kernel
theorem dX1_look_80 : decode cX1_look 80 = .ok (.iinc 3 1, 3) := by decide +kernel
theorem dX1_look_83 : decode cX1_look 83 = .ok (.goto (-59), 3) := by decide +kernel
theorem dX1_look_86 : decode cX1_look 86 = .ok (.iconst 1, 1) := by decide +kernel
theorem dX1_look_87 : decode cX1_look 87 = .ok (.istore_n 3, 1) := by decide +kernel
theorem dX1_look_88 : decode cX1_look 88 = .ok (.iload_n 3, 1) := by decide +kernel
theorem dX1_look_89 : decode cX1_look 89 = .ok (.bipush 12, 2) := by decide +kernel
theorem dX1_look_91 : decode cX1_look 91 = .ok (.if_icmp .ge 30, 3) := by decide +kernel
theorem dX1_look_94 : decode cX1_look 94 = .ok (.aload_n 0, 1) := by decide +kernel
theorem dX1_look_95 : decode cX1_look 95 = .ok (.getfield 9, 3) := by decide +kernel
theorem dX1_look_98 : decode cX1_look 98 = .ok (.iload_n 3, 1) := by decide +kernel
theorem dX1_look_99 : decode cX1_look 99 = .ok (.iconst 1, 1) := by decide +kernel
theorem dX1_look_100 : decode cX1_look 100 = .ok (.isub, 1) := by decide +kernel
theorem dX1_look_101 : decode cX1_look 101 = .ok (.iaload, 1) := by decide +kernel
theorem dX1_look_102 : decode cX1_look 102 = .ok (.ldc 22, 2) := by decide +kernel
theorem dX1_look_104 : decode cX1_look 104 = .ok (.if_icmp .ne 11, 3) := by decide +kernel
theorem dX1_look_107 : decode cX1_look 107 = .ok (.aload_n 0, 1) := by decide +kernel
theorem dX1_look_108 : decode cX1_look 108 = .ok (.getfield 9, 3) := by decide +kernel
theorem dX1_look_111 : decode cX1_look 111 = .ok (.iload_n 3, 1) := by decide +kernel
theorem dX1_look_112 : decode cX1_look 112 = .ok (.ldc 22, 2) := by decide +kernel
theorem dX1_look_114 : decode cX1_look 114 = .ok (.iastore, 1) := by decide +kernel
theorem dX1_look_115 : decode cX1_look 115 = .ok (.iinc 3 1, 3) := by decide +kernel
theorem dX1_look_118 : decode cX1_look 118 = .ok (.goto (-30), 3) := by decide +kernel
theorem dX1_look_121 : decode cX1_look 121 = .ok (.return_, 1) := by decide +kernel
theorem dX1_keepWhereFlat_0 : decode cX1_keepWhereFlat 0 = .ok (.iconst 0, 1) := by decide +kernel
theorem dX1_keepWhereFlat_1 : decode cX1_keepWhereFlat 1 = .ok (.istore_n 3, 1) := by decide +kernel
theorem dX1_keepWhereFlat_2 : decode cX1_keepWhereFlat 2 = .ok (.iload_n 3, 1) := by decide +kernel
theorem dX1_keepWhereFlat_3 : decode cX1_keepWhereFlat 3 = .ok (.aload_n 1, 1) := by decide +kernel
theorem dX1_keepWhereFlat_4 : decode cX1_keepWhereFlat 4 = .ok (.getfield 42, 3) := by decide +kernel
theorem dX1_keepWhereFlat_7 : decode cX1_keepWhereFlat 7 = .ok (.if_icmp .ge 36, 3) := by decide +kernel
theorem dX1_keepWhereFlat_10 : decode cX1_keepWhereFlat 10 = .ok (.aload_n 0, 1) := by decide +kernel
theorem dX1_keepWhereFlat_11 : decode cX1_keepWhereFlat 11 = .ok (.getfield 9, 3) := by decide +kernel
theorem dX1_keepWhereFlat_14 : decode cX1_keepWhereFlat 14 = .ok (.iload_n 3, 1) := by decide +kernel
theorem dX1_keepWhereFlat_15 : decode cX1_keepWhereFlat 15 = .ok (.iaload, 1) := by decide +kernel
theorem dX1_keepWhereFlat_16 : decode cX1_keepWhereFlat 16 = .ok (.ldc 22, 2) := by decide +kernel
theorem dX1_keepWhereFlat_18 : decode cX1_keepWhereFlat 18 = .ok (.if_icmp .ne 19, 3) := by decide +kernel
theorem dX1_keepWhereFlat_21 : decode cX1_keepWhereFlat 21 = .ok (.aload_n 1, 1) := by decide +kernel
theorem dX1_keepWhereFlat_22 : decode cX1_keepWhereFlat 22 = .ok (.getfield 46, 3) := by decide +kernel
theorem dX1_keepWhereFlat_25 : decode cX1_keepWhereFlat 25 = .ok (.iload_n 3, 1) := by decide +kernel
theorem dX1_keepWhereFlat_26 : decode cX1_keepWhereFlat 26 = .ok (.iaload, 1) := by decide +kernel
theorem dX1_keepWhereFlat_27 : decode cX1_keepWhereFlat 27 = .ok (.ifCond .ne 10, 3) := by decide +kernel
theorem dX1_keepWhereFlat_30 : decode cX1_keepWhereFlat 30 = .ok (.aload_n 0, 1) := by decide +kernel
theorem dX1_keepWhereFlat_31 : decode cX1_keepWhereFlat 31 = .ok (.getfield 9, 3) := by decide +kernel
theorem dX1_keepWhereFlat_34 : decode cX1_keepWhereFlat 34 = .ok (.iload_n 3, 1) := by decide +kernel
theorem dX1_keepWhereFlat_35 : decode cX1_keepWhereFlat 35 = .ok (.iload_n 2, 1) := by decide +kernel
theorem dX1_keepWhereFlat_36 : decode cX1_keepWhereFlat 36 = .ok (.iastore, 1) := by decide +kernel
theorem dX1_keepWhereFlat_37 : decode cX1_keepWhereFlat 37 = .ok (.iinc 3 1, 3) := by decide +kernel
theorem dX1_keepWhereFlat_40 : decode cX1_keepWhereFlat 40 = .ok (.goto (-38), 3) := by decide +kernel
theorem dX1_keepWhereFlat_43 : decode cX1_keepWhereFlat 43 = .ok (.return_, 1) := by decide +kernel
theorem dX2_init_0 : decode cX2_init 0 = .ok (.aload_n 0, 1) := by decide +kernel
theorem dX2_init_1 : decode cX2_init 1 = .ok (.invokespecial 3, 3) := by decide +kernel
theorem dX2_init_4 : decode cX2_init 4 = .ok (.aload_n 0, 1) := by decide +kernel
theorem dX2_init_5 : decode cX2_init 5 = .ok (.bipush 12, 2) := by decide +kernel
theorem dX2_init_7 : decode cX2_init 7 = .ok (.newarray .int, 2) := by decide +kernel
theorem dX2_init_9 : decode cX2_init 9 = .ok (.putfield 9, 3) := by decide +kernel
theorem dX2_init_12 : decode cX2_init 12 = .ok (.aload_n 0, 1) := by decide +kernel
theorem dX2_init_13 : decode cX2_init 13 = .ok (.bipush 12, 2) := by decide +kernel
theorem dX2_init_15 : decode cX2_init 15 = .ok (.newarray .int, 2) := by decide +kernel
theorem dX2_init_17 : decode cX2_init 17 = .ok (.putfield 15, 3) := by decide +kernel
theorem dX2_init_20 : decode cX2_init 20 = .ok (.aload_n 0, 1) := by decide +kernel
theorem dX2_init_21 : decode cX2_init 21 = .ok (.bipush 12, 2) := by decide +kernel
theorem dX2_init_23 : decode cX2_init 23 = .ok (.newarray .int, 2) := by decide +kernel
theorem dX2_init_25 : decode cX2_init 25 = .ok (.putfield 18, 3) := by decide +kernel
theorem dX2_init_28 : decode cX2_init 28 = .ok (.aload_n 0, 1) := by decide +kernel
theorem dX2_init_29 : decode cX2_init 29 = .ok (.bipush 12, 2) := by decide +kernel
theorem dX2_init_31 : decode cX2_init 31 = .ok (.newarray .int, 2) := by decide +kernel
theorem dX2_init_33 : decode cX2_init 33 = .ok (.putfield 21, 3) := by decide +kernel
theorem dX2_init_36 : decode cX2_init 36 = .ok (.aload_n 0, 1) := by decide +kernel
theorem dX2_init_37 : decode cX2_init 37 = .ok (.bipush 12, 2) := by decide +kernel
theorem dX2_init_39 : decode cX2_init 39 = .ok (.newarray .int, 2) := by decide +kernel
theorem dX2_init_41 : decode cX2_init 41 = .ok (.putfield 24, 3) := by decide +kernel
theorem dX2_init_44 : decode cX2_init 44 = .ok (.aload_n 0, 1) := by decide +kernel
theorem dX2_init_45 : decode cX2_init 45 = .ok (.bipush 12, 2) := by decide +kernel
theorem dX2_init_47 : decode cX2_init 47 = .ok (.newarray .int, 2) := by decide +kernel
theorem dX2_init_49 : decode cX2_init 49 = .ok (.putfield 27, 3) := by decide +kernel
theorem dX2_init_52 : decode cX2_init 52 = .ok (.aload_n 0, 1) := by decide +kernel
theorem dX2_init_53 : decode cX2_init 53 = .ok (.iconst 0, 1) := by decide +kernel
theorem dX2_init_54 : decode cX2_init 54 = .ok (.putfield 30, 3) := by decide +kernel
theorem dX2_init_57 : decode cX2_init 57 = .ok (.aload_n 0, 1) := by decide +kernel
theorem dX2_init_58 : decode cX2_init 58 = .ok (.iconst 0, 1) := by decide +kernel
theorem dX2_init_59 : decode cX2_init 59 = .ok (.putfield 34, 3) := by decide +kernel
theorem dX2_init_62 : decode cX2_init 62 = .ok (.aload_n 0, 1) := by decide +kernel
theorem dX2_init_63 : decode cX2_init 63 = .ok (.iconst 0, 1) := by decide +kernel
theorem dX2_init_64 : decode cX2_init 64 = .ok (.putfield 37, 3) := by decide +kernel
theorem dX2_init_67 : decode cX2_init 67 = .ok (.aload_n 0, 1) := by decide +kernel
theorem dX2_init_68 : decode cX2_init 68 = .ok (.iconst 0, 1) := by decide +kernel
theorem dX2_init_69 : decode cX2_init 69 = .ok (.putfield 40, 3) := by decide +kernel
theorem dX2_init_72 : decode cX2_init 72 = .ok (.return_, 1) := by decide +kernel
theorem dX2_begin_0 : decode cX2_begin 0 = .ok (.aload_n 0, 1) := by decide +kernel
theorem dX2_begin_1 : decode cX2_begin 1 = .ok (.iload_n 1, 1) := by decide +kernel
theorem dX2_begin_2 : decode cX2_begin 2 = .ok (.bipush 12, 2) := by decide +kernel
theorem dX2_begin_4 : decode cX2_begin 4 = .ok (.invokestatic 43, 3) := by decide +kernel
theorem dX2_begin_7 : decode cX2_begin 7 = .ok (.putfield 34, 3) := by decide +kernel
theorem dX2_begin_10 : decode cX2_begin 10 = .ok (.aload_n 0, 1) := by decide +kernel
theorem dX2_begin_11 : decode cX2_begin 11 = .ok (.iconst 0, 1) := by decide +kernel
theorem dX2_begin_12 : decode cX2_begin 12 = .ok (.putfield 37, 3) := by decide +kernel
theorem dX2_begin_15 : decode cX2_begin 15 = .ok (.aload_n 0, 1) := by decide +kernel
theorem dX2_begin_16 : decode cX2_begin 16 = .ok (.iconst 0, 1) := by decide +kernel
theorem dX2_begin_17 : decode cX2_begin 17 = .ok (.putfield 40, 3) := by decide +kernel
theorem dX2_begin_20 : decode cX2_begin 20 = .ok (.aload_n 0, 1) := by decide +kernel
theorem dX2_begin_21 : decode cX2_begin 21 = .ok (.iconst 0, 1) := by decide +kernel
theorem dX2_begin_22 : decode cX2_begin 22 = .ok (.putfield 30, 3) := by decide +kernel
theorem dX2_begin_25 : decode cX2_begin 25 = .ok (.aload_n 0, 1) := by decide +kernel
theorem dX2_begin_26 : decode cX2_begin 26 = .ok (.getfield 9, 3) := by decide +kernel
theorem dX2_begin_29 : decode cX2_begin 29 = .ok (.iconst 0, 1) := by decide +kernel
theorem dX2_begin_30 : decode cX2_begin 30 = .ok (.invokestatic 49, 3) := by decide +kernel
theorem dX2_begin_33 : decode cX2_begin 33 = .ok (.aload_n 0, 1) := by decide +kernel
theorem dX2_begin_34 : decode cX2_begin 34 = .ok (.getfield 15, 3) := by decide +kernel
theorem dX2_begin_37 : decode cX2_begin 37 = .ok (.iconst 0, 1) := by decide +kernel
theorem dX2_begin_38 : decode cX2_begin 38 = .ok (.invokestatic 49, 3) := by decide +kernel
theorem dX2_begin_41 : decode cX2_begin 41 = .ok (.aload_n 0, 1) := by decide +kernel
theorem dX2_begin_42 : decode cX2_begin 42 = .ok (.getfield 18, 3) := by decide +kernel
theorem dX2_begin_45 : decode cX2_begin 45 = .ok (.iconst 0, 1) := by decide +kernel
theorem dX2_begin_46 : decode cX2_begin 46 = .ok (.invokestatic 49, 3) := by decide +kernel
theorem dX2_begin_49 : decode cX2_begin 49 = .ok (.aload_n 0, 1) := by decide +kernel
theorem dX2_begin_50 : decode cX2_begin 50 = .ok (.getfield 24, 3) := by decide +kernel
theorem dX2_begin_53 : decode cX2_begin 53 = .ok (.iconst 0, 1) := by decide +kernel
theorem dX2_begin_54 : decode cX2_begin 54 = .ok (.invokestatic 49, 3) := by decide +kernel
theorem dX2_begin_57 : decode cX2_begin 57 = .ok (.aload_n 0, 1) := by decide +kernel
theorem dX2_begin_58 : decode cX2_begin 58 = .ok (.getfield 27, 3) := by decide +kernel
theorem dX2_begin_61 : decode cX2_begin 61 = .ok (.iconst 0, 1) := by decide +kernel
theorem dX2_begin_62 : decode cX2_begin 62 = .ok (.invokestatic 49, 3) := by decide +kernel
theorem dX2_begin_65 : decode cX2_begin 65 = .ok (.aload_n 2, 1) := by decide +kernel
theorem dX2_begin_66 : decode cX2_begin 66 = .ok (.iconst 0, 1) := by decide +kernel
theorem dX2_begin_67 : decode cX2_begin 67 = .ok (.aload_n 0, 1) := by decide +kernel
theorem dX2_begin_68 : decode cX2_begin 68 = .ok (.getfield 21, 3) := by decide +kernel
theorem dX2_begin_71 : decode cX2_begin 71 = .ok (.iconst 0, 1) := by decide +kernel
theorem dX2_begin_72 : decode cX2_begin 72 = .ok (.bipush 12, 2) := by decide +kernel
theorem dX2_begin_74 : decode cX2_begin 74 = .ok (.invokestatic 55, 3) := by decide +kernel
theorem dX2_begin_77 : decode cX2_begin 77 = .ok (.return_, 1) := by decide +kernel
theorem dX2_becomeAs_0 : decode cX2_becomeAs 0 = .ok (.aload_n 0, 1) := by decide +kernel
theorem dX2_becomeAs_1 : decode cX2_becomeAs 1 = .ok (.aload_n 1, 1) := by decide +kernel
theorem dX2_becomeAs_2 : decode cX2_becomeAs 2 = .ok (.getfield 34, 3) := by decide +kernel
theorem dX2_becomeAs_5 : decode cX2_becomeAs 5 = .ok (.putfield 34, 3) := by decide +kernel
theorem dX2_becomeAs_8 : decode cX2_becomeAs 8 = .ok (.aload_n 0, 1) := by decide +kernel
theorem dX2_becomeAs_9 : decode cX2_becomeAs 9 = .ok (.aload_n 1, 1) := by decide +kernel
theorem dX2_becomeAs_10 : decode cX2_becomeAs 10 = .ok (.getfield 37, 3) := by decide +kernel
theorem dX2_becomeAs_13 : decode cX2_becomeAs 13 = .ok (.putfield 37, 3) := by decide +kernel
theorem dX2_becomeAs_16 : decode cX2_becomeAs 16 = .ok (.aload_n 0, 1) := by decide +kernel
theorem dX2_becomeAs_17 : decode cX2_becomeAs 17 = .ok (.aload_n 1, 1) := by decide +kernel
theorem dX2_becomeAs_18 : decode cX2_becomeAs 18 = .ok (.getfield 40, 3) := by decide +kernel
theorem dX2_becomeAs_21 : decode cX2_becomeAs 21 = .ok (.putfield 40, 3) := by decide +kernel
theorem dX2_becomeAs_24 : decode cX2_becomeAs 24 = .ok (.aload_n 0, 1) := by decide +kernel
theorem dX2_becomeAs_25 : decode cX2_becomeAs 25 = .ok (.aload_n 1, 1) := by decide +kernel
theorem dX2_becomeAs_26 : decode cX2_becomeAs 26 = .ok (.getfield 30, 3) := by decide +kernel
theorem dX2_becomeAs_29 : decode cX2_becomeAs 29 = .ok (.putfield 30, 3) := by decide +kernel
theorem dX2_becomeAs_32 : decode cX2_becomeAs 32 = .ok (.aload_n 1, 1) := by decide +kernel
theorem dX2_becomeAs_33 : decode cX2_becomeAs 33 = .ok (.getfield 9, 3) := by decide +kernel
theorem dX2_becomeAs_36 : decode cX2_becomeAs 36 = .ok (.iconst 0, 1) := by decide +kernel
theorem dX2_becomeAs_37 : decode cX2_becomeAs 37 = .ok (.aload_n 0, 1) := by decide +kernel
theorem dX2_becomeAs_38 : decode cX2_becomeAs 38 = .ok (.getfield 9, 3) := by decide +kernel
theorem dX2_becomeAs_41 : decode cX2_becomeAs 41 = .ok (.iconst 0, 1) := by decide +kernel
theorem dX2_becomeAs_42 : decode cX2_becomeAs 42 = .ok (.bipush 12, 2) := by decide +kernel
theorem dX2_becomeAs_44 : decode cX2_becomeAs 44 = .ok (.invokestatic 55, 3) := by decide +kernel
theorem dX2_becomeAs_47 : decode cX2_becomeAs 47 = .ok (.aload_n 1, 1) := by decide +kernel
theorem dX2_becomeAs_48 : decode cX2_becomeAs 48 = .ok (.getfield 15, 3) := by decide +kernel
theorem dX2_becomeAs_51 : decode cX2_becomeAs 51 = .ok (.iconst 0, 1) := by decide +kernel
theorem dX2_becomeAs_52 : decode cX2_becomeAs 52 = .ok (.aload_n 0, 1) := by decide +kernel
theorem dX2_becomeAs_53 : decode cX2_becomeAs 53 = .ok (.getfield 15, 3) := by decide +kernel
theorem dX2_becomeAs_56 : decode cX2_becomeAs 56 = .ok (.iconst 0, 1) := by decide +kernel
theorem dX2_becomeAs_57 : decode cX2_becomeAs 57 = .ok (.bipush 12, 2) := by decide +kernel
theorem dX2_becomeAs_59 : decode cX2_becomeAs 59 = .ok (.invokestatic 55, 3) := by decide +kernel
theorem dX2_becomeAs_62 : decode cX2_becomeAs 62 = .ok (.aload_n 1, 1) := by decide +kernel
theorem dX2_becomeAs_63 : decode cX2_becomeAs 63 = .ok (.getfield 18, 3) := by decide +kernel
theorem dX2_becomeAs_66 : decode cX2_becomeAs 66 = .ok (.iconst 0, 1) := by decide +kernel
theorem dX2_becomeAs_67 : decode cX2_becomeAs 67 = .ok (.aload_n 0, 1) := by decide +kernel
theorem dX2_becomeAs_68 : decode cX2_becomeAs 68 = .ok (.getfield 18, 3) := by decide +kernel
theorem dX2_becomeAs_71 : decode cX2_becomeAs 71 = .ok (.iconst 0, 1) := by decide +kernel
theorem dX2_becomeAs_72 : decode cX2_becomeAs 72 = .ok (.bipush 12, 2) := by decide +kernel
theorem dX2_becomeAs_74 : decode cX2_becomeAs 74 = .ok (.invokestatic 55, 3) := by decide +kernel
theorem dX2_becomeAs_77 : decode cX2_becomeAs 77 = .ok (.aload_n 1, 1) := by decide +kernel
theorem dX2_becomeAs_78 : decode cX2_becomeAs 78 = .ok (.getfield 21, 3) := by decide +kernel
theorem dX2_becomeAs_81 : decode cX2_becomeAs 81 = .ok (.iconst 0, 1) := by decide +kernel
theorem dX2_becomeAs_82 : decode cX2_becomeAs 82 = .ok (.aload_n 0, 1) := by decide +kernel
theorem dX2_becomeAs_83 : decode cX2_becomeAs 83 = .ok (.getfield 21, 3) := by decide +kernel
theorem dX2_becomeAs_86 : decode cX2_becomeAs 86 = .ok (.iconst 0, 1) := by decide +kernel
theorem dX2_becomeAs_87 : decode cX2_becomeAs 87 = .ok (.bipush 12, 2) := by decide +kernel
theorem dX2_becomeAs_89 : decode cX2_becomeAs 89 = .ok (.invokestatic 55, 3) := by decide +kernel
theorem dX2_becomeAs_92 : decode cX2_becomeAs 92 = .ok (.aload_n 1, 1) := by decide +kernel
theorem dX2_becomeAs_93 : decode cX2_becomeAs 93 = .ok (.getfield 24, 3) := by decide +kernel
theorem dX2_becomeAs_96 : decode cX2_becomeAs 96 = .ok (.iconst 0, 1) := by decide +kernel
theorem dX2_becomeAs_97 : decode cX2_becomeAs 97 = .ok (.aload_n 0, 1) := by decide +kernel
theorem dX2_becomeAs_98 : decode cX2_becomeAs 98 = .ok (.getfield 24, 3) := by decide +kernel
theorem dX2_becomeAs_101 : decode cX2_becomeAs 101 = .ok (.iconst 0, 1) := by decide +kernel
theorem dX2_becomeAs_102 : decode cX2_becomeAs 102 = .ok (.bipush 12, 2) := by decide +kernel
theorem dX2_becomeAs_104 : decode cX2_becomeAs 104 = .ok (.invokestatic 55, 3) := by decide +kernel
theorem dX2_becomeAs_107 : decode cX2_becomeAs 107 = .ok (.aload_n 1, 1) := by decide +kernel
theorem dX2_becomeAs_108 : decode cX2_becomeAs 108 = .ok (.getfield 27, 3) := by decide +kernel
theorem dX2_becomeAs_111 : decode cX2_becomeAs 111 = .ok (.iconst 0, 1) := by decide +kernel
theorem dX2_becomeAs_112 : decode cX2_becomeAs 112 = .ok (.aload_n 0, 1) := by decide +kernel
theorem dX2_becomeAs_113 : decode cX2_becomeAs 113 = .ok (.getfield 27, 3) := by decide +kernel
theorem dX2_becomeAs_116 : decode cX2_becomeAs 116 = .ok (.iconst 0, 1) := by decide +kernel
theorem dX2_becomeAs_117 : decode cX2_becomeAs 117 = .ok (.bipush 12, 2) := by decide +kernel
theorem dX2_becomeAs_119 : decode cX2_becomeAs 119 = .ok (.invokestatic 55, 3) := by decide +kernel
theorem dX2_becomeAs_122 : decode cX2_becomeAs 122 = .ok (.return_, 1) := by decide +kernel
theorem dX2_go_0 : decode cX2_go 0 = .ok (.aload_n 0, 1) := by decide +kernel
theorem dX2_go_1 : decode cX2_go 1 = .ok (.aload_n 1, 1) := by decide +kernel
theorem dX2_go_2 : decode cX2_go 2 = .ok (.getfield 61, 3) := by decide +kernel
theorem dX2_go_5 : decode cX2_go 5 = .ok (.aload_n 2, 1) := by decide +kernel
theorem dX2_go_6 : decode cX2_go 6 = .ok (.invokevirtual 64, 3) := by decide +kernel
theorem dX2_go_9 : decode cX2_go 9 = .ok (.iconst 0, 1) := by decide +kernel
theorem dX2_go_10 : decode cX2_go 10 = .ok (.istore 5, 2) := by decide +kernel
theorem dX2_go_12 : decode cX2_go 12 = .ok (.iload 5, 2) := by decide +kernel
theorem dX2_go_14 : decode cX2_go 14 = .ok (.aload_n 1, 1) := by decide +kernel
theorem dX2_go_15 : decode cX2_go 15 = .ok (.getfield 68, 3) := by decide +kernel
theorem dX2_go_18 : decode cX2_go 18 = .ok (.if_icmp .ge 34, 3) := by decide +kernel
theorem dX2_go_21 : decode cX2_go 21 = .ok (.iload 5, 2) := by decide +kernel
theorem dX2_go_23 : decode cX2_go 23 = .ok (.aload_n 3, 1) := by decide +kernel
theorem dX2_go_24 : decode cX2_go 24 = .ok (.arraylength, 1) := by decide +kernel
theorem dX2_go_25 : decode cX2_go 25 = .ok (.if_icmp .ge 27, 3) := by decide +kernel
theorem dX2_go_28 : decode cX2_go 28 = .ok (.aload_n 3, 1) := by decide +kernel
theorem dX2_go_29 : decode cX2_go 29 = .ok (.iload 5, 2) := by decide +kernel
theorem dX2_go_31 : decode cX2_go 31 = .ok (.iaload, 1) := by decide +kernel
theorem dX2_go_32 : decode cX2_go 32 = .ok (.iload 4, 2) := by decide +kernel
theorem dX2_go_34 : decode cX2_go 34 = .ok (.if_icmp .eq 12, 3) := by decide +kernel
theorem dX2_go_37 : decode cX2_go 37 = .ok (.aload_n 0, 1) := by decide +kernel
theorem dX2_go_38 : decode cX2_go 38 = .ok (.aload_n 1, 1) := by decide +kernel
theorem dX2_go_39 : decode cX2_go 39 = .ok (.aload_n 3, 1) := by decide +kernel
theorem dX2_go_40 : decode cX2_go 40 = .ok (.iload 5, 2) := by decide +kernel
theorem dX2_go_42 : decode cX2_go 42 = .ok (.iaload, 1) := by decide +kernel
theorem dX2_go_43 : decode cX2_go 43 = .ok (.invokevirtual 71, 3) := by decide +kernel
theorem dX2_go_46 : decode cX2_go 46 = .ok (.iinc 5 1, 3) := by decide +kernel
theorem dX2_go_49 : decode cX2_go 49 = .ok (.goto (-37), 3) := by decide +kernel
theorem dX2_go_52 : decode cX2_go 52 = .ok (.aload_n 0, 1) := by decide +kernel
theorem dX2_go_53 : decode cX2_go 53 = .ok (.invokevirtual 75, 3) := by decide +kernel
theorem dX2_go_56 : decode cX2_go 56 = .ok (.return_, 1) := by decide +kernel
theorem dX2_doSeam_0 : decode cX2_doSeam 0 = .ok (.aload_n 1, 1) := by decide +kernel
theorem dX2_doSeam_1 : decode cX2_doSeam 1 = .ok (.iload_n 2, 1) := by decide +kernel
theorem dX2_doSeam_2 : decode cX2_doSeam 2 = .ok (.invokevirtual 78, 3) := by decide +kernel
theorem dX2_doSeam_5 : decode cX2_doSeam 5 = .ok (.istore_n 3, 1) := by decide +kernel
theorem dX2_doSeam_6 : decode cX2_doSeam 6 = .ok (.iload_n 3, 1) := by decide +kernel
theorem dX2_doSeam_7 : decode cX2_doSeam 7 = .ok (.aload_n 1, 1) := by decide +kernel
theorem dX2_doSeam_8 : decode cX2_doSeam 8 = .ok (.iload_n 2, 1) := by decide +kernel
theorem dX2_doSeam_9 : decode cX2_doSeam 9 = .ok (.invokevirtual 82, 3) := by decide +kernel
theorem dX2_doSeam_12 : decode cX2_doSeam 12 = .ok (.if_icmp .ge 107, 3) := by decide +kernel
theorem dX2_doSeam_15 : decode cX2_doSeam 15 = .ok (.aload_n 1, 1) := by decide +kernel
theorem dX2_doSeam_16 : decode cX2_doSeam 16 = .ok (.getfield 85, 3) := by decide +kernel
theorem dX2_doSeam_19 : decode cX2_doSeam 19 = .ok (.iload_n 3, 1) := by decide +kernel
theorem dX2_doSeam_20 : decode cX2_doSeam 20 = .ok (.iaload, 1) := by decide +kernel
theorem dX2_doSeam_21 : decode cX2_doSeam 21 = .ok (.istore 4, 2) := by decide +kernel
theorem dX2_doSeam_23 : decode cX2_doSeam 23 = .ok (.aload_n 1, 1) := by decide +kernel
theorem dX2_doSeam_24 : decode cX2_doSeam 24 = .ok (.getfield 88, 3) := by decide +kernel
theorem dX2_doSeam_27 : decode cX2_doSeam 27 = .ok (.iload_n 3, 1) := by decide +kernel
theorem dX2_doSeam_28 : decode cX2_doSeam 28 = .ok (.iaload, 1) := by decide +kernel
theorem dX2_doSeam_29 : decode cX2_doSeam 29 = .ok (.tableswitch 66 7 9 #[27, 41, 57], 27) := by decide +kernel
theorem dX2_doSeam_56 : decode cX2_doSeam 56 = .ok (.aload_n 0, 1) := by decide +kernel
theorem dX2_doSeam_57 : decode cX2_doSeam 57 = .ok (.dup, 1) := by decide +kernel
theorem dX2_doSeam_58 : decode cX2_doSeam 58 = .ok (.getfield 37, 3) := by decide +kernel
theorem dX2_doSeam_61 : decode cX2_doSeam 61 = .ok (.iload 4, 2) := by decide +kernel
theorem dX2_doSeam_63 : decode cX2_doSeam 63 = .ok (.iadd, 1) := by decide +kernel
theorem dX2_doSeam_64 : decode cX2_doSeam 64 = .ok (.putfield 37, 3) := by decide +kernel
theorem dX2_doSeam_67 : decode cX2_doSeam 67 = .ok (.goto 46, 3) := by decide +kernel
theorem dX2_doSeam_70 : decode cX2_doSeam 70 = .ok (.aload_n 0, 1) := by decide +kernel
theorem dX2_doSeam_71 : decode cX2_doSeam 71 = .ok (.dup, 1) := by decide +kernel
theorem dX2_doSeam_72 : decode cX2_doSeam 72 = .ok (.getfield 30, 3) := by decide +kernel
theorem dX2_doSeam_75 : decode cX2_doSeam 75 = .ok (.iconst 1, 1) := by decide +kernel
theorem dX2_doSeam_76 : decode cX2_doSeam 76 = .ok (.iload 4, 2) := by decide +kernel
theorem dX2_doSeam_78 : decode cX2_doSeam 78 = .ok (.ishl, 1) := by decide +kernel
theorem dX2_doSeam_79 : decode cX2_doSeam 79 = .ok (.ior, 1) := by decide +kernel
theorem dX2_doSeam_80 : decode cX2_doSeam 80 = .ok (.putfield 30, 3) := by decide +kernel
theorem dX2_doSeam_83 : decode cX2_doSeam 83 = .ok (.goto 30, 3) := by decide +kernel
theorem dX2_doSeam_86 : decode cX2_doSeam 86 = .ok (.aload_n 0, 1) := by decide +kernel
theorem dX2_doSeam_87 : decode cX2_doSeam 87 = .ok (.iload 4, 2) := by decide +kernel
theorem dX2_doSeam_89 : decode cX2_doSeam 89 = .ok (.invokevirtual 91, 3) := by decide +kernel
theorem dX2_doSeam_92 : decode cX2_doSeam 92 = .ok (.goto 21, 3) := by decide +kernel
theorem dX2_doSeam_95 : decode cX2_doSeam 95 = .ok (.aload_n 0, 1) := by decide +kernel
theorem dX2_doSeam_96 : decode cX2_doSeam 96 = .ok (.aload_n 1, 1) := by decide +kernel
theorem dX2_doSeam_97 : decode cX2_doSeam 97 = .ok (.getfield 88, 3) := by decide +kernel
theorem dX2_doSeam_100 : decode cX2_doSeam 100 = .ok (.iload_n 3, 1) := by decide +kernel
theorem dX2_doSeam_101 : decode cX2_doSeam 101 = .ok (.iaload, 1) := by decide +kernel
theorem dX2_doSeam_102 : decode cX2_doSeam 102 = .ok (.iload 4, 2) := by decide +kernel
theorem dX2_doSeam_104 : decode cX2_doSeam 104 = .ok (.aload_n 1, 1) := by decide +kernel
theorem dX2_doSeam_105 : decode cX2_doSeam 105 = .ok (.getfield 95, 3) := by decide +kernel
theorem dX2_doSeam_108 : decode cX2_doSeam 108 = .ok (.iload_n 3, 1) := by decide +kernel
theorem dX2_doSeam_109 : decode cX2_doSeam 109 = .ok (.iaload, 1) := by decide +kernel
theorem dX2_doSeam_110 : decode cX2_doSeam 110 = .ok (.invokevirtual 98, 3) := by decide +kernel
theorem dX2_doSeam_113 : decode cX2_doSeam 113 = .ok (.iinc 3 1, 3) := by decide +kernel
theorem dX2_doSeam_116 : decode cX2_doSeam 116 = .ok (.goto (-110), 3) := by decide +kernel
theorem dX2_doSeam_119 : decode cX2_doSeam 119 = .ok (.return_, 1) := by decide +kernel
theorem dX2_doStep_0 : decode cX2_doStep 0 = .ok (.aload_n 0, 1) := by decide +kernel
theorem dX2_doStep_1 : decode cX2_doStep 1 = .ok (.iload_n 2, 1) := by decide +kernel
theorem dX2_doStep_2 : decode cX2_doStep 2 = .ok (.invokevirtual 102, 3) := by decide +kernel
theorem dX2_doStep_5 : decode cX2_doStep 5 = .ok (.ifCond .ne 4, 3) := by decide +kernel
theorem dX2_doStep_8 : decode cX2_doStep 8 = .ok (.return_, 1) := by decide +kernel
theorem dX2_doStep_9 : decode cX2_doStep 9 = .ok (.aload_n 0, 1) := by decide +kernel
theorem dX2_doStep_10 : decode cX2_doStep 10 = .ok (.iload_n 2, 1) := by decide +kernel
theorem dX2_doStep_11 : decode cX2_doStep 11 = .ok (.invokevirtual 106, 3) := by decide +kernel
theorem dX2_doStep_14 : decode cX2_doStep 14 = .ok (.aload_n 0, 1) := by decide +kernel
theorem dX2_doStep_15 : decode cX2_doStep 15 = .ok (.aload_n 0, 1) := by decide +kernel
theorem dX2_doStep_16 : decode cX2_doStep 16 = .ok (.iload_n 1, 1) := by decide +kernel
theorem dX2_doStep_17 : decode cX2_doStep 17 = .ok (.iload_n 2, 1) := by decide +kernel
theorem dX2_doStep_18 : decode cX2_doStep 18 = .ok (.iload_n 3, 1) := by decide +kernel
theorem dX2_doStep_19 : decode cX2_doStep 19 = .ok (.invokevirtual 109, 3) := by decide +kernel
theorem dX2_doStep_22 : decode cX2_doStep 22 = .ok (.iload_n 2, 1) := by decide +kernel
theorem dX2_doStep_23 : decode cX2_doStep 23 = .ok (.invokevirtual 113, 3) := by decide +kernel
theorem dX2_doStep_26 : decode cX2_doStep 26 = .ok (.istore 4, 2) := by decide +kernel
theorem dX2_doStep_28 : decode cX2_doStep 28 = .ok (.aload_n 0, 1) := by decide +kernel
theorem dX2_doStep_29 : decode cX2_doStep 29 = .ok (.iload_n 2, 1) := by decide +kernel
theorem dX2_doStep_30 : decode cX2_doStep 30 = .ok (.invokevirtual 116, 3) := by decide +kernel
theorem dX2_doStep_33 : decode cX2_doStep 33 = .ok (.ifCond .eq 17, 3) := by decide +kernel
theorem dX2_doStep_36 : decode cX2_doStep 36 = .ok (.aload_n 0, 1) := by decide +kernel
theorem dX2_doStep_37 : decode cX2_doStep 37 = .ok (.getfield 24, 3) := by decide +kernel
theorem dX2_doStep_40 : decode cX2_doStep 40 = .ok (.iload_n 2, 1) := by decide +kernel
theorem dX2_doStep_41 : decode cX2_doStep 41 = .ok (.dup2, 1) := by decide +kernel
theorem dX2_doStep_42 : decode cX2_doStep 42 = .ok (.iaload, 1) := by decide +kernel
theorem dX2_doStep_43 : decode cX2_doStep 43 = .ok (.iload 4, 2) := by decide +kernel
theorem dX2_doStep_45 : decode cX2_doStep 45 = .ok (.iadd, 1) := by decide +kernel
theorem dX2_doStep_46 : decode cX2_doStep 46 = .ok (.iastore, 1) := by decide +kernel
theorem dX2_doStep_47 : decode cX2_doStep 47 = .ok (.goto 14, 3) := by decide +kernel
theorem dX2_doStep_50 : decode cX2_doStep 50 = .ok (.aload_n 0, 1) := by decide +kernel
theorem dX2_doStep_51 : decode cX2_doStep 51 = .ok (.getfield 21, 3) := by decide +kernel
theorem dX2_doStep_54 : decode cX2_doStep 54 = .ok (.iload_n 2, 1) := by decide +kernel
theorem dX2_doStep_55 : decode cX2_doStep 55 = .ok (.dup2, 1) := by decide +kernel
theorem dX2_doStep_56 : decode cX2_doStep 56 = .ok (.iaload, 1) := by decide +kernel
theorem dX2_doStep_57 : decode cX2_doStep 57 = .ok (.iload 4, 2) := by decide +kernel
theorem dX2_doStep_59 : decode cX2_doStep 59 = .ok (.iadd, 1) := by decide +kernel
theorem dX2_doStep_60 : decode cX2_doStep 60 = .ok (.iastore, 1) := by decide +kernel
theorem dX2_doStep_61 : decode cX2_doStep 61 = .ok (.aload_n 0, 1) := by decide +kernel
theorem dX2_doStep_62 : decode cX2_doStep 62 = .ok (.getfield 27, 3) := by decide +kernel
theorem dX2_doStep_65 : decode cX2_doStep 65 = .ok (.iload_n 2, 1) := by decide +kernel
theorem dX2_doStep_66 : decode cX2_doStep 66 = .ok (.dup2, 1) := by decide +kernel
theorem dX2_doStep_67 : decode cX2_doStep 67 = .ok (.iaload, 1) := by decide +kernel
theorem dX2_doStep_68 : decode cX2_doStep 68 = .ok (.iload 4, 2) := by decide +kernel
theorem dX2_doStep_70 : decode cX2_doStep 70 = .ok (.iadd, 1) := by decide +kernel
theorem dX2_doStep_71 : decode cX2_doStep 71 = .ok (.iastore, 1) := by decide +kernel
theorem dX2_doStep_72 : decode cX2_doStep 72 = .ok (.aload_n 0, 1) := by decide +kernel
theorem dX2_doStep_73 : decode cX2_doStep 73 = .ok (.dup, 1) := by decide +kernel
theorem dX2_doStep_74 : decode cX2_doStep 74 = .ok (.getfield 40, 3) := by decide +kernel
theorem dX2_doStep_77 : decode cX2_doStep 77 = .ok (.iload 4, 2) := by decide +kernel
theorem dX2_doStep_79 : decode cX2_doStep 79 = .ok (.iadd, 1) := by decide +kernel
theorem dX2_doStep_80 : decode cX2_doStep 80 = .ok (.putfield 40, 3) := by decide +kernel
theorem dX2_doStep_83 : decode cX2_doStep 83 = .ok (.aload_n 0, 1) := by decide +kernel
theorem dX2_doStep_84 : decode cX2_doStep 84 = .ok (.getfield 9, 3) := by decide +kernel
theorem dX2_doStep_87 : decode cX2_doStep 87 = .ok (.iload_n 2, 1) := by decide +kernel
theorem dX2_doStep_88 : decode cX2_doStep 88 = .ok (.dup2, 1) := by decide +kernel
theorem dX2_doStep_89 : decode cX2_doStep 89 = .ok (.iaload, 1) := by decide +kernel
theorem dX2_doStep_90 : decode cX2_doStep 90 = .ok (.iload_n 1, 1) := by decide +kernel
theorem dX2_doStep_91 : decode cX2_doStep 91 = .ok (.iload_n 3, 1) := by decide +kernel
theorem dX2_doStep_92 : decode cX2_doStep 92 = .ok (.invokestatic 119, 3) := by decide +kernel
theorem dX2_doStep_95 : decode cX2_doStep 95 = .ok (.iadd, 1) := by decide +kernel
theorem dX2_doStep_96 : decode cX2_doStep 96 = .ok (.iastore, 1) := by decide +kernel
theorem dX2_doStep_97 : decode cX2_doStep 97 = .ok (.aload_n 0, 1) := by decide +kernel
theorem dX2_doStep_98 : decode cX2_doStep 98 = .ok (.getfield 18, 3) := by decide +kernel
theorem dX2_doStep_101 : decode cX2_doStep 101 = .ok (.iload_n 2, 1) := by decide +kernel
theorem dX2_doStep_102 : decode cX2_doStep 102 = .ok (.dup2, 1) := by decide +kernel
theorem dX2_doStep_103 : decode cX2_doStep 103 = .ok (.iaload, 1) := by decide +kernel
theorem dX2_doStep_104 : decode cX2_doStep 104 = .ok (.iload_n 1, 1) := by decide +kernel
theorem dX2_doStep_105 : decode cX2_doStep 105 = .ok (.invokestatic 122, 3) := by decide +kernel
theorem dX2_doStep_108 : decode cX2_doStep 108 = .ok (.iadd, 1) := by decide +kernel
theorem dX2_doStep_109 : decode cX2_doStep 109 = .ok (.iastore, 1) := by decide +kernel
theorem dX2_doStep_110 : decode cX2_doStep 110 = .ok (.aload_n 0, 1) := by decide +kernel
theorem dX2_doStep_111 : decode cX2_doStep 111 = .ok (.dup, 1) := by decide +kernel
theorem dX2_doStep_112 : decode cX2_doStep 112 = .ok (.getfield 37, 3) := by decide +kernel
theorem dX2_doStep_115 : decode cX2_doStep 115 = .ok (.iconst 1, 1) := by decide +kernel
theorem dX2_doStep_116 : decode cX2_doStep 116 = .ok (.iadd, 1) := by decide +kernel
theorem dX2_doStep_117 : decode cX2_doStep 117 = .ok (.putfield 37, 3) := by decide +kernel
theorem dX2_doStep_120 : decode cX2_doStep 120 = .ok (.return_, 1) := by decide +kernel
theorem dX2_effectOf_0 : decode cX2_effectOf 0 = .ok (.bipush 8, 2) := by decide +kernel
theorem dX2_effectOf_2 : decode cX2_effectOf 2 = .ok (.aload_n 0, 1) := by decide +kernel
theorem dX2_effectOf_3 : decode cX2_effectOf 3 = .ok (.getfield 18, 3) := by decide +kernel
theorem dX2_effectOf_6 : decode cX2_effectOf 6 = .ok (.iload_n 2, 1) := by decide +kernel
theorem dX2_effectOf_7 : decode cX2_effectOf 7 = .ok (.iaload, 1) := by decide +kernel
theorem dX2_effectOf_8 : decode cX2_effectOf 8 = .ok (.iadd, 1) := by decide +kernel
theorem dX2_effectOf_9 : decode cX2_effectOf 9 = .ok (.istore_n 3, 1) := by decide +kernel
theorem dX2_effectOf_10 : decode cX2_effectOf 10 = .ok (.iload_n 3, 1) := by decide +kernel
theorem dX2_effectOf_11 : decode cX2_effectOf 11 = .ok (.ifCond .le 12, 3) := by decide +kernel
theorem dX2_effectOf_14 : decode cX2_effectOf 14 = .ok (.bipush 8, 2) := by decide +kernel
theorem dX2_effectOf_16 : decode cX2_effectOf 16 = .ok (.iload_n 1, 1) := by decide +kernel
theorem dX2_effectOf_17 : decode cX2_effectOf 17 = .ok (.imul, 1) := by decide +kernel
theorem dX2_effectOf_18 : decode cX2_effectOf 18 = .ok (.iload_n 3, 1) := by decide +kernel
theorem dX2_effectOf_19 : decode cX2_effectOf 19 = .ok (.idiv, 1) := by decide +kernel
theorem dX2_effectOf_20 : decode cX2_effectOf 20 = .ok (.goto 4, 3) := by decide +kernel
theorem dX2_effectOf_23 : decode cX2_effectOf 23 = .ok (.iconst 0, 1) := by decide +kernel
theorem dX2_effectOf_24 : decode cX2_effectOf 24 = .ok (.istore 4, 2) := by decide +kernel
theorem dX2_effectOf_26 : decode cX2_effectOf 26 = .ok (.aload_n 0, 1) := by decide +kernel
theorem dX2_effectOf_27 : decode cX2_effectOf 27 = .ok (.getfield 9, 3) := by decide +kernel
theorem dX2_effectOf_30 : decode cX2_effectOf 30 = .ok (.iload_n 2, 1) := by decide +kernel
theorem dX2_effectOf_31 : decode cX2_effectOf 31 = .ok (.iaload, 1) := by decide +kernel
theorem dX2_effectOf_32 : decode cX2_effectOf 32 = .ok (.bipush 100, 2) := by decide +kernel
theorem dX2_effectOf_34 : decode cX2_effectOf 34 = .ok (.if_icmp .lt 10, 3) := by decide +kernel
theorem dX2_effectOf_37 : decode cX2_effectOf 37 = .ok (.iload 4, 2) := by decide +kernel
theorem dX2_effectOf_39 : decode cX2_effectOf 39 = .ok (.iconst 2, 1) := by decide +kernel
theorem dX2_effectOf_40 : decode cX2_effectOf 40 = .ok (.idiv, 1) := by decide +kernel
theorem dX2_effectOf_41 : decode cX2_effectOf 41 = .ok (.goto 5, 3) := by decide +kernel
theorem dX2_effectOf_44 : decode cX2_effectOf 44 = .ok (.iload 4, 2) := by decide +kernel
theorem dX2_effectOf_46 : decode cX2_effectOf 46 = .ok (.ireturn, 1) := by decide +kernel
theorem dX2_shrinkageOf_0 : decode cX2_shrinkageOf 0 = .ok (.aload_n 0, 1) := by decide +kernel
theorem dX2_shrinkageOf_1 : decode cX2_shrinkageOf 1 = .ok (.iload_n 2, 1) := by decide +kernel
theorem dX2_shrinkageOf_2 : decode cX2_shrinkageOf 2 = .ok (.iconst 1, 1) := by decide +kernel
theorem dX2_shrinkageOf_3 : decode cX2_shrinkageOf 3 = .ok (.iadd, 1) := by decide +kernel
theorem dX2_shrinkageOf_4 : decode cX2_shrinkageOf 4 = .ok (.invokevirtual 125, 3) := by decide +kernel
theorem dX2_shrinkageOf_7 : decode cX2_shrinkageOf 7 = .ok (.ifCond .eq 9, 3) := by decide +kernel
theorem dX2_shrinkageOf_10 : decode cX2_shrinkageOf 10 = .ok (.iload_n 3, 1) := by decide +kernel
theorem dX2_shrinkageOf_11 : decode cX2_shrinkageOf 11 = .ok (.iconst 1, 1) := by decide +kernel
theorem dX2_shrinkageOf_12 : decode cX2_shrinkageOf 12 = .ok (.isub, 1) := by decide +kernel
theorem dX2_shrinkageOf_13 : decode cX2_shrinkageOf 13 = .ok (.goto 4, 3) := by decide +kernel
theorem dX2_shrinkageOf_16 : decode cX2_shrinkageOf 16 = .ok (.iload_n 3, 1) := by decide +kernel
theorem dX2_shrinkageOf_17 : decode cX2_shrinkageOf 17 = .ok (.istore 4, 2) := by decide +kernel
theorem dX2_shrinkageOf_19 : decode cX2_shrinkageOf 19 = .ok (.iload_n 1, 1) := by decide +kernel
theorem dX2_shrinkageOf_20 : decode cX2_shrinkageOf 20 = .ok (.tableswitch 114 0 6 #[44, 114, 46, 49, 79, 95, 98], 44) := by decide +kernel
theorem dX2_shrinkageOf_64 : decode cX2_shrinkageOf 64 = .ok (.iconst 1, 1) := by decide +kernel
theorem dX2_shrinkageOf_65 : decode cX2_shrinkageOf 65 = .ok (.ireturn, 1) := by decide +kernel
theorem dX2_shrinkageOf_66 : decode cX2_shrinkageOf 66 = .ok (.iload 4, 2) := by decide +kernel
theorem dX2_shrinkageOf_68 : decode cX2_shrinkageOf 68 = .ok (.ireturn, 1) := by decide +kernel
theorem dX2_shrinkageOf_69 : decode cX2_shrinkageOf 69 = .ok (.aload_n 0, 1) := by decide +kernel
theorem dX2_shrinkageOf_70 : decode cX2_shrinkageOf 70 = .ok (.iload_n 2, 1) := by decide +kernel
theorem dX2_shrinkageOf_71 : decode cX2_shrinkageOf 71 = .ok (.iconst 1, 1) := by decide +kernel
theorem dX2_shrinkageOf_72 : decode cX2_shrinkageOf 72 = .ok (.isub, 1) := by decide +kernel
theorem dX2_shrinkageOf_73 : decode cX2_shrinkageOf 73 = .ok (.invokevirtual 125, 3) := by decide +kernel
theorem dX2_shrinkageOf_76 : decode cX2_shrinkageOf 76 = .ok (.ifCond .ne 13, 3) := by decide +kernel
theorem dX2_shrinkageOf_79 : decode cX2_shrinkageOf 79 = .ok (.aload_n 0, 1) := by decide +kernel
theorem dX2_shrinkageOf_80 : decode cX2_shrinkageOf 80 = .ok (.iload_n 2, 1) := by decide +kernel
theorem dX2_shrinkageOf_81 : decode cX2_shrinkageOf 81 = .ok (.iconst 1, 1) := by decide +kernel
theorem dX2_shrinkageOf_82 : decode cX2_shrinkageOf 82 = .ok (.iadd, 1) := by decide +kernel
theorem dX2_shrinkageOf_83 : decode cX2_shrinkageOf 83 = .ok (.invokevirtual 125, 3) := by decide +kernel
theorem dX2_shrinkageOf_86 : decode cX2_shrinkageOf 86 = .ok (.ifCond .eq 8, 3) := by decide +kernel
theorem dX2_shrinkageOf_89 : decode cX2_shrinkageOf 89 = .ok (.iload 4, 2) := by decide +kernel
theorem dX2_shrinkageOf_91 : decode cX2_shrinkageOf 91 = .ok (.goto 7, 3) := by decide +kernel
theorem dX2_shrinkageOf_94 : decode cX2_shrinkageOf 94 = .ok (.iload 4, 2) := by decide +kernel
theorem dX2_shrinkageOf_96 : decode cX2_shrinkageOf 96 = .ok (.iconst 1, 1) := by decide +kernel
theorem dX2_shrinkageOf_97 : decode cX2_shrinkageOf 97 = .ok (.isub, 1) := by decide +kernel
theorem dX2_shrinkageOf_98 : decode cX2_shrinkageOf 98 = .ok (.ireturn, 1) := by decide +kernel
theorem dX2_shrinkageOf_99 : decode cX2_shrinkageOf 99 = .ok (.aload_n 0, 1) := by decide +kernel
theorem dX2_shrinkageOf_100 : decode cX2_shrinkageOf 100 = .ok (.iload_n 2, 1) := by decide +kernel
theorem dX2_shrinkageOf_101 : decode cX2_shrinkageOf 101 = .ok (.invokevirtual 125, 3) := by decide +kernel
theorem dX2_shrinkageOf_104 : decode cX2_shrinkageOf 104 = .ok (.ifCond .eq 9, 3) := by decide +kernel
theorem dX2_shrinkageOf_107 : decode cX2_shrinkageOf 107 = .ok (.iload_n 3, 1) := by decide +kernel
theorem dX2_shrinkageOf_108 : decode cX2_shrinkageOf 108 = .ok (.iconst 2, 1) := by decide +kernel
theorem dX2_shrinkageOf_109 : decode cX2_shrinkageOf 109 = .ok (.idiv, 1) := by decide +kernel
theorem dX2_shrinkageOf_110 : decode cX2_shrinkageOf 110 = .ok (.goto 4, 3) := by decide +kernel
theorem dX2_shrinkageOf_113 : decode cX2_shrinkageOf 113 = .ok (.iload_n 3, 1) := by decide +kernel
theorem dX2_shrinkageOf_114 : decode cX2_shrinkageOf 114 = .ok (.ireturn, 1) := by decide +kernel
theorem dX2_shrinkageOf_115 : decode cX2_shrinkageOf 115 = .ok (.iload_n 3, 1) := by decide +kernel
theorem dX2_shrinkageOf_116 : decode cX2_shrinkageOf 116 = .ok (.ineg, 1) := by decide +kernel
theorem dX2_shrinkageOf_117 : decode cX2_shrinkageOf 117 = .ok (.ireturn, 1) := by decide +kernel
theorem dX2_shrinkageOf_118 : decode cX2_shrinkageOf 118 = .ok (.aload_n 0, 1) := by decide +kernel
theorem dX2_shrinkageOf_119 : decode cX2_shrinkageOf 119 = .ok (.getfield 21, 3) := by decide +kernel
theorem dX2_shrinkageOf_122 : decode cX2_shrinkageOf 122 = .ok (.iload_n 2, 1) := by decide +kernel
theorem dX2_shrinkageOf_123 : decode cX2_shrinkageOf 123 = .ok (.iaload, 1) := by decide +kernel
theorem dX2_shrinkageOf_124 : decode cX2_shrinkageOf 124 = .ok (.ifCond .le 8, 3) := by decide +kernel
theorem dX2_shrinkageOf_127 : decode cX2_shrinkageOf 127 = .ok (.iload_n 3, 1) := by decide +kernel
theorem dX2_shrinkageOf_128 : decode cX2_shrinkageOf 128 = .ok (.ineg, 1) := by decide +kernel
theorem dX2_shrinkageOf_129 : decode cX2_shrinkageOf 129 = .ok (.goto 4, 3) := by decide +kernel
theorem dX2_shrinkageOf_132 : decode cX2_shrinkageOf 132 = .ok (.iload_n 3, 1) := by decide +kernel
theorem dX2_shrinkageOf_133 : decode cX2_shrinkageOf 133 = .ok (.ireturn, 1) := by decide +kernel
theorem dX2_shrinkageOf_134 : decode cX2_shrinkageOf 134 = .ok (.iload_n 3, 1) := by decide +kernel
theorem dX2_shrinkageOf_135 : decode cX2_shrinkageOf 135 = .ok (.ireturn, 1) := by decide +kernel
theorem dX2_heatOfStep_0 : decode cX2_heatOfStep 0 = .ok (.iload_n 0, 1) := by decide +kernel
theorem dX2_heatOfStep_1 : decode cX2_heatOfStep 1 = .ok (.lookupswitch 34 #[(0, 27), (6, 29)], 27) := by decide +kernel
theorem dX2_heatOfStep_28 : decode cX2_heatOfStep 28 = .ok (.iload_n 1, 1) := by decide +kernel
theorem dX2_heatOfStep_29 : decode cX2_heatOfStep 29 = .ok (.ireturn, 1) := by decide +kernel
theorem dX2_heatOfStep_30 : decode cX2_heatOfStep 30 = .ok (.bipush 6, 2) := by decide +kernel
theorem dX2_heatOfStep_32 : decode cX2_heatOfStep 32 = .ok (.iload_n 1, 1) := by decide +kernel
theorem dX2_heatOfStep_33 : decode cX2_heatOfStep 33 = .ok (.imul, 1) := by decide +kernel
theorem dX2_heatOfStep_34 : decode cX2_heatOfStep 34 = .ok (.ireturn, 1) := by decide +kernel
theorem dX2_heatOfStep_35 : decode cX2_heatOfStep 35 = .ok (.iconst 4, 1) := by decide +kernel
theorem dX2_heatOfStep_36 : decode cX2_heatOfStep 36 = .ok (.iload_n 1, 1) := by decide +kernel
theorem dX2_heatOfStep_37 : decode cX2_heatOfStep 37 = .ok (.imul, 1) := by decide +kernel
theorem dX2_heatOfStep_38 : decode cX2_heatOfStep 38 = .ok (.ireturn, 1) := by decide +kernel
theorem dX2_holdOfStep_0 : decode cX2_holdOfStep 0 = .ok (.iload_n 0, 1) := by decide +kernel
theorem dX2_holdOfStep_1 : decode cX2_holdOfStep 1 = .ok (.lookupswitch 39 #[(0, 35), (4, 35), (6, 37)], 35) := by decide +kernel
theorem dX2_holdOfStep_36 : decode cX2_holdOfStep 36 = .ok (.iconst 1, 1) := by decide +kernel
theorem dX2_holdOfStep_37 : decode cX2_holdOfStep 37 = .ok (.ireturn, 1) := by decide +kernel
theorem dX2_holdOfStep_38 : decode cX2_holdOfStep 38 = .ok (.iconst 0, 1) := by decide +kernel
theorem dX2_holdOfStep_39 : decode cX2_holdOfStep 39 = .ok (.ireturn, 1) := by decide +kernel
theorem dX2_holdOfStep_40 : decode cX2_holdOfStep 40 = .ok (.iconst 2, 1) := by decide +kernel
theorem dX2_holdOfStep_41 : decode cX2_holdOfStep 41 = .ok (.ireturn, 1) := by decide +kernel
theorem dX2_freeOne_0 : decode cX2_freeOne 0 = .ok (.aload_n 0, 1) := by decide +kernel
theorem dX2_freeOne_1 : decode cX2_freeOne 1 = .ok (.iload_n 1, 1) := by decide +kernel
theorem dX2_freeOne_2 : decode cX2_freeOne 2 = .ok (.invokevirtual 102, 3) := by decide +kernel
theorem dX2_freeOne_5 : decode cX2_freeOne 5 = .ok (.ifCond .eq 49, 3) := by decide +kernel
theorem dX2_freeOne_8 : decode cX2_freeOne 8 = .ok (.aload_n 0, 1) := by decide +kernel
theorem dX2_freeOne_9 : decode cX2_freeOne 9 = .ok (.iload_n 1, 1) := by decide +kernel
theorem dX2_freeOne_10 : decode cX2_freeOne 10 = .ok (.invokevirtual 116, 3) := by decide +kernel
theorem dX2_freeOne_13 : decode cX2_freeOne 13 = .ok (.ifCond .eq 41, 3) := by decide +kernel
theorem dX2_freeOne_16 : decode cX2_freeOne 16 = .ok (.aload_n 0, 1) := by decide +kernel
theorem dX2_freeOne_17 : decode cX2_freeOne 17 = .ok (.dup, 1) := by decide +kernel
theorem dX2_freeOne_18 : decode cX2_freeOne 18 = .ok (.getfield 30, 3) := by decide +kernel
theorem dX2_freeOne_21 : decode cX2_freeOne 21 = .ok (.iconst 1, 1) := by decide +kernel
theorem dX2_freeOne_22 : decode cX2_freeOne 22 = .ok (.iload_n 1, 1) := by decide +kernel
theorem dX2_freeOne_23 : decode cX2_freeOne 23 = .ok (.ishl, 1) := by decide +kernel
theorem dX2_freeOne_24 : decode cX2_freeOne 24 = .ok (.iconst (-1), 1) := by decide +kernel
theorem dX2_freeOne_25 : decode cX2_freeOne 25 = .ok (.ixor, 1) := by decide +kernel
theorem dX2_freeOne_26 : decode cX2_freeOne 26 = .ok (.iand, 1) := by decide +kernel
theorem dX2_freeOne_27 : decode cX2_freeOne 27 = .ok (.putfield 30, 3) := by decide +kernel
theorem dX2_freeOne_30 : decode cX2_freeOne 30 = .ok (.aload_n 0, 1) := by decide +kernel
theorem dX2_freeOne_31 : decode cX2_freeOne 31 = .ok (.getfield 21, 3) := by decide +kernel
theorem dX2_freeOne_34 : decode cX2_freeOne 34 = .ok (.iload_n 1, 1) := by decide +kernel
theorem dX2_freeOne_35 : decode cX2_freeOne 35 = .ok (.dup2, 1) := by decide +kernel
theorem dX2_freeOne_36 : decode cX2_freeOne 36 = .ok (.iaload, 1) := by decide +kernel
theorem dX2_freeOne_37 : decode cX2_freeOne 37 = .ok (.aload_n 0, 1) := by decide +kernel
theorem dX2_freeOne_38 : decode cX2_freeOne 38 = .ok (.getfield 24, 3) := by decide +kernel
theorem dX2_freeOne_41 : decode cX2_freeOne 41 = .ok (.iload_n 1, 1) := by decide +kernel
theorem dX2_freeOne_42 : decode cX2_freeOne 42 = .ok (.iaload, 1) := by decide +kernel
theorem dX2_freeOne_43 : decode cX2_freeOne 43 = .ok (.iconst 2, 1) := by decide +kernel
theorem dX2_freeOne_44 : decode cX2_freeOne 44 = .ok (.idiv, 1) := by decide +kernel
theorem dX2_freeOne_45 : decode cX2_freeOne 45 = .ok (.iadd, 1) := by decide +kernel
theorem dX2_freeOne_46 : decode cX2_freeOne 46 = .ok (.iastore, 1) := by decide +kernel
theorem dX2_freeOne_47 : decode cX2_freeOne 47 = .ok (.aload_n 0, 1) := by decide +kernel
theorem dX2_freeOne_48 : decode cX2_freeOne 48 = .ok (.getfield 24, 3) := by decide +kernel
theorem dX2_freeOne_51 : decode cX2_freeOne 51 = .ok (.iload_n 1, 1) := by decide +kernel
theorem dX2_freeOne_52 : decode cX2_freeOne 52 = .ok (.iconst 0, 1) := by decide +kernel
theorem dX2_freeOne_53 : decode cX2_freeOne 53 = .ok (.iastore, 1) := by decide +kernel
theorem dX2_freeOne_54 : decode cX2_freeOne 54 = .ok (.return_, 1) := by decide +kernel
theorem dX2_freeAll_0 : decode cX2_freeAll 0 = .ok (.iconst 0, 1) := by decide +kernel
theorem dX2_freeAll_1 : decode cX2_freeAll 1 = .ok (.istore_n 1, 1) := by decide +kernel
theorem dX2_freeAll_2 : decode cX2_freeAll 2 = .ok (.iload_n 1, 1) := by decide +kernel
theorem dX2_freeAll_3 : decode cX2_freeAll 3 = .ok (.aload_n 0, 1) := by decide +kernel
theorem dX2_freeAll_4 : decode cX2_freeAll 4 = .ok (.getfield 34, 3) := by decide +kernel
theorem dX2_freeAll_7 : decode cX2_freeAll 7 = .ok (.if_icmp .ge 14, 3) := by decide +kernel
theorem dX2_freeAll_10 : decode cX2_freeAll 10 = .ok (.aload_n 0, 1) := by decide +kernel
theorem dX2_freeAll_11 : decode cX2_freeAll 11 = .ok (.iload_n 1, 1) := by decide +kernel
theorem dX2_freeAll_12 : decode cX2_freeAll 12 = .ok (.invokevirtual 91, 3) := by decide +kernel
theorem dX2_freeAll_15 : decode cX2_freeAll 15 = .ok (.iinc 1 1, 3) := by decide +kernel
theorem dX2_freeAll_18 : decode cX2_freeAll 18 = .ok (.goto (-16), 3) := by decide +kernel
theorem dX2_freeAll_21 : decode cX2_freeAll 21 = .ok (.return_, 1) := by decide +kernel
theorem dX2_has_0 : decode cX2_has 0 = .ok (.iload_n 1, 1) := by decide +kernel
theorem dX2_has_1 : decode cX2_has 1 = .ok (.ifCond .lt 15, 3) := by decide +kernel
theorem dX2_has_4 : decode cX2_has 4 = .ok (.iload_n 1, 1) := by decide +kernel
theorem dX2_has_5 : decode cX2_has 5 = .ok (.aload_n 0, 1) := by decide +kernel
theorem dX2_has_6 : decode cX2_has 6 = .ok (.getfield 34, 3) := by decide +kernel
theorem dX2_has_9 : decode cX2_has 9 = .ok (.if_icmp .ge 7, 3) := by decide +kernel
theorem dX2_has_12 : decode cX2_has 12 = .ok (.iconst 1, 1) := by decide +kernel
theorem dX2_has_13 : decode cX2_has 13 = .ok (.goto 4, 3) := by decide +kernel
theorem dX2_has_16 : decode cX2_has 16 = .ok (.iconst 0, 1) := by decide +kernel
theorem dX2_has_17 : decode cX2_has 17 = .ok (.ireturn, 1) := by decide +kernel
theorem dX2_holds_0 : decode cX2_holds 0 = .ok (.iload_n 1, 1) := by decide +kernel
theorem dX2_holds_1 : decode cX2_holds 1 = .ok (.ifCond .lt 24, 3) := by decide +kernel
theorem dX2_holds_4 : decode cX2_holds 4 = .ok (.iload_n 1, 1) := by decide +kernel
theorem dX2_holds_5 : decode cX2_holds 5 = .ok (.aload_n 0, 1) := by decide +kernel
theorem dX2_holds_6 : decode cX2_holds 6 = .ok (.getfield 34, 3) := by decide +kernel
theorem dX2_holds_9 : decode cX2_holds 9 = .ok (.if_icmp .ge 16, 3) := by decide +kernel
theorem dX2_holds_12 : decode cX2_holds 12 = .ok (.aload_n 0, 1) := by decide +kernel
theorem dX2_holds_13 : decode cX2_holds 13 = .ok (.getfield 18, 3) := by decide +kernel
theorem dX2_holds_16 : decode cX2_holds 16 = .ok (.iload_n 1, 1) := by decide +kernel
theorem dX2_holds_17 : decode cX2_holds 17 = .ok (.iaload, 1) := by decide +kernel
theorem dX2_holds_18 : decode cX2_holds 18 = .ok (.ifCond .le 7, 3) := by decide +kernel
theorem dX2_holds_21 : decode cX2_holds 21 = .ok (.iconst 1, 1) := by decide +kernel
theorem dX2_holds_22 : decode cX2_holds 22 = .ok (.goto 4, 3) := by decide +kernel
theorem dX2_holds_25 : decode cX2_holds 25 = .ok (.iconst 0, 1) := by decide +kernel
theorem dX2_holds_26 : decode cX2_holds 26 = .ok (.ireturn, 1) := by decide +kernel
theorem dX2_isClamped_0 : decode cX2_isClamped 0 = .ok (.aload_n 0, 1) := by decide +kernel
theorem dX2_isClamped_1 : decode cX2_isClamped 1 = .ok (.getfield 30, 3) := by decide +kernel
theorem dX2_isClamped_4 : decode cX2_isClamped 4 = .ok (.iload_n 1, 1) := by decide +kernel
theorem dX2_isClamped_5 : decode cX2_isClamped 5 = .ok (.ishr, 1) := by decide +kernel
theorem dX2_isClamped_6 : decode cX2_isClamped 6 = .ok (.iconst 1, 1) := by decide +kernel
theorem dX2_isClamped_7 : decode cX2_isClamped 7 = .ok (.iand, 1) := by decide +kernel
theorem dX2_isClamped_8 : decode cX2_isClamped 8 = .ok (.iconst 1, 1) := by decide +kernel
theorem dX2_isClamped_9 : decode cX2_isClamped 9 = .ok (.if_icmp .ne 7, 3) := by decide +kernel
theorem dX2_isClamped_12 : decode cX2_isClamped 12 = .ok (.iconst 1, 1) := by decide +kernel
theorem dX2_isClamped_13 : decode cX2_isClamped 13 = .ok (.goto 4, 3) := by decide +kernel
theorem dX2_isClamped_16 : decode cX2_isClamped 16 = .ok (.iconst 0, 1) := by decide +kernel
theorem dX2_isClamped_17 : decode cX2_isClamped 17 = .ok (.ireturn, 1) := by decide +kernel
theorem dX2_cool_0 : decode cX2_cool 0 = .ok (.aload_n 0, 1) := by decide +kernel
theorem dX2_cool_1 : decode cX2_cool 1 = .ok (.getfield 15, 3) := by decide +kernel
theorem dX2_cool_4 : decode cX2_cool 4 = .ok (.iload_n 1, 1) := by decide +kernel
theorem dX2_cool_5 : decode cX2_cool 5 = .ok (.iaload, 1) := by decide +kernel
theorem dX2_cool_6 : decode cX2_cool 6 = .ok (.istore_n 2, 1) := by decide +kernel
theorem dX2_cool_7 : decode cX2_cool 7 = .ok (.iload_n 2, 1) := by decide +kernel
theorem dX2_cool_8 : decode cX2_cool 8 = .ok (.aload_n 0, 1) := by decide +kernel
theorem dX2_cool_9 : decode cX2_cool 9 = .ok (.getfield 37, 3) := by decide +kernel
theorem dX2_cool_12 : decode cX2_cool 12 = .ok (.if_icmp .ge 34, 3) := by decide +kernel
theorem dX2_cool_15 : decode cX2_cool 15 = .ok (.aload_n 0, 1) := by decide +kernel
theorem dX2_cool_16 : decode cX2_cool 16 = .ok (.getfield 9, 3) := by decide +kernel
theorem dX2_cool_19 : decode cX2_cool 19 = .ok (.iload_n 1, 1) := by decide +kernel
theorem dX2_cool_20 : decode cX2_cool 20 = .ok (.iaload, 1) := by decide +kernel
theorem dX2_cool_21 : decode cX2_cool 21 = .ok (.ifCond .le 25, 3) := by decide +kernel
theorem dX2_cool_24 : decode cX2_cool 24 = .ok (.aload_n 0, 1) := by decide +kernel
theorem dX2_cool_25 : decode cX2_cool 25 = .ok (.getfield 9, 3) := by decide +kernel
theorem dX2_cool_28 : decode cX2_cool 28 = .ok (.iload_n 1, 1) := by decide +kernel
theorem dX2_cool_29 : decode cX2_cool 29 = .ok (.aload_n 0, 1) := by decide +kernel
theorem dX2_cool_30 : decode cX2_cool 30 = .ok (.getfield 9, 3) := by decide +kernel
theorem dX2_cool_33 : decode cX2_cool 33 = .ok (.iload_n 1, 1) := by decide +kernel
theorem dX2_cool_34 : decode cX2_cool 34 = .ok (.iaload, 1) := by decide +kernel
theorem dX2_cool_35 : decode cX2_cool 35 = .ok (.iconst 3, 1) := by decide +kernel
theorem dX2_cool_36 : decode cX2_cool 36 = .ok (.imul, 1) := by decide +kernel
theorem dX2_cool_37 : decode cX2_cool 37 = .ok (.iconst 4, 1) := by decide +kernel
theorem dX2_cool_38 : decode cX2_cool 38 = .ok (.idiv, 1) := by decide +kernel
theorem dX2_cool_39 : decode cX2_cool 39 = .ok (.iastore, 1) := by decide +kernel
theorem dX2_cool_40 : decode cX2_cool 40 = .ok (.iinc 2 1, 3) := by decide +kernel
theorem dX2_cool_43 : decode cX2_cool 43 = .ok (.goto (-36), 3) := by decide +kernel
theorem dX2_cool_46 : decode cX2_cool 46 = .ok (.aload_n 0, 1) := by decide +kernel
theorem dX2_cool_47 : decode cX2_cool 47 = .ok (.getfield 15, 3) := by decide +kernel
theorem dX2_cool_50 : decode cX2_cool 50 = .ok (.iload_n 1, 1) := by decide +kernel
theorem dX2_cool_51 : decode cX2_cool 51 = .ok (.aload_n 0, 1) := by decide +kernel
theorem dX2_cool_52 : decode cX2_cool 52 = .ok (.getfield 37, 3) := by decide +kernel
theorem dX2_cool_55 : decode cX2_cool 55 = .ok (.iastore, 1) := by decide +kernel
theorem dX2_cool_56 : decode cX2_cool 56 = .ok (.return_, 1) := by decide +kernel
theorem dX2_heatOf_0 : decode cX2_heatOf 0 = .ok (.aload_n 0, 1) := by decide +kernel
theorem dX2_heatOf_1 : decode cX2_heatOf 1 = .ok (.iload_n 1, 1) := by decide +kernel
theorem dX2_heatOf_2 : decode cX2_heatOf 2 = .ok (.invokevirtual 102, 3) := by decide +kernel
theorem dX2_heatOf_5 : decode cX2_heatOf 5 = .ok (.ifCond .ne 5, 3) := by decide +kernel
theorem dX2_heatOf_8 : decode cX2_heatOf 8 = .ok (.iconst 0, 1) := by decide +kernel
theorem dX2_heatOf_9 : decode cX2_heatOf 9 = .ok (.ireturn, 1) := by decide +kernel
theorem dX2_heatOf_10 : decode cX2_heatOf 10 = .ok (.aload_n 0, 1) := by decide +kernel
theorem dX2_heatOf_11 : decode cX2_heatOf 11 = .ok (.iload_n 1, 1) := by decide +kernel
theorem dX2_heatOf_12 : decode cX2_heatOf 12 = .ok (.invokevirtual 106, 3) := by decide +kernel
theorem dX2_heatOf_15 : decode cX2_heatOf 15 = .ok (.aload_n 0, 1) := by decide +kernel
theorem dX2_heatOf_16 : decode cX2_heatOf 16 = .ok (.getfield 9, 3) := by decide +kernel
theorem dX2_heatOf_19 : decode cX2_heatOf 19 = .ok (.iload_n 1, 1) := by decide +kernel
theorem dX2_heatOf_20 : decode cX2_heatOf 20 = .ok (.iaload, 1) := by decide +kernel
theorem dX2_heatOf_21 : decode cX2_heatOf 21 = .ok (.ireturn, 1) := by decide +kernel
theorem dX2_pullOf_0 : decode cX2_pullOf 0 = .ok (.aload_n 0, 1) := by decide +kernel
theorem dX2_pullOf_1 : decode cX2_pullOf 1 = .ok (.iload_n 1, 1) := by decide +kernel
theorem dX2_pullOf_2 : decode cX2_pullOf 2 = .ok (.invokevirtual 102, 3) := by decide +kernel
theorem dX2_pullOf_5 : decode cX2_pullOf 5 = .ok (.ifCond .eq 22, 3) := by decide +kernel
theorem dX2_pullOf_8 : decode cX2_pullOf 8 = .ok (.aload_n 0, 1) := by decide +kernel
theorem dX2_pullOf_9 : decode cX2_pullOf 9 = .ok (.getfield 34, 3) := by decide +kernel
theorem dX2_pullOf_12 : decode cX2_pullOf 12 = .ok (.aload_n 0, 1) := by decide +kernel
theorem dX2_pullOf_13 : decode cX2_pullOf 13 = .ok (.getfield 27, 3) := by decide +kernel
theorem dX2_pullOf_16 : decode cX2_pullOf 16 = .ok (.iload_n 1, 1) := by decide +kernel
theorem dX2_pullOf_17 : decode cX2_pullOf 17 = .ok (.iaload, 1) := by decide +kernel
theorem dX2_pullOf_18 : decode cX2_pullOf 18 = .ok (.imul, 1) := by decide +kernel
theorem dX2_pullOf_19 : decode cX2_pullOf 19 = .ok (.aload_n 0, 1) := by decide +kernel
theorem dX2_pullOf_20 : decode cX2_pullOf 20 = .ok (.getfield 40, 3) := by decide +kernel
theorem dX2_pullOf_23 : decode cX2_pullOf 23 = .ok (.isub, 1) := by decide +kernel
theorem dX2_pullOf_24 : decode cX2_pullOf 24 = .ok (.goto 4, 3) := by decide +kernel
theorem dX2_pullOf_27 : decode cX2_pullOf 27 = .ok (.iconst 0, 1) := by decide +kernel
theorem dX2_pullOf_28 : decode cX2_pullOf 28 = .ok (.ireturn, 1) := by decide +kernel
theorem dX2_firstAbove_0 : decode cX2_firstAbove 0 = .ok (.iconst 0, 1) := by decide +kernel
theorem dX2_firstAbove_1 : decode cX2_firstAbove 1 = .ok (.istore_n 2, 1) := by decide +kernel
theorem dX2_firstAbove_2 : decode cX2_firstAbove 2 = .ok (.iload_n 2, 1) := by decide +kernel
theorem dX2_firstAbove_3 : decode cX2_firstAbove 3 = .ok (.aload_n 0, 1) := by decide +kernel
theorem dX2_firstAbove_4 : decode cX2_firstAbove 4 = .ok (.getfield 34, 3) := by decide +kernel
theorem dX2_firstAbove_7 : decode cX2_firstAbove 7 = .ok (.if_icmp .ge 20, 3) := by decide +kernel
theorem dX2_firstAbove_10 : decode cX2_firstAbove 10 = .ok (.aload_n 0, 1) := by decide +kernel
theorem dX2_firstAbove_11 : decode cX2_firstAbove 11 = .ok (.iload_n 2, 1) := by decide +kernel
theorem dX2_firstAbove_12 : decode cX2_firstAbove 12 = .ok (.invokevirtual 128, 3) := by decide +kernel
theorem dX2_firstAbove_15 : decode cX2_firstAbove 15 = .ok (.iload_n 1, 1) := by decide +kernel
theorem dX2_firstAbove_16 : decode cX2_firstAbove 16 = .ok (.if_icmp .le 5, 3) := by decide +kernel
theorem dX2_firstAbove_19 : decode cX2_firstAbove 19 = .ok (.iload_n 2, 1) := by decide +kernel
theorem dX2_firstAbove_20 : decode cX2_firstAbove 20 = .ok (.ireturn, 1) := by decide +kernel
theorem dX2_firstAbove_21 : decode cX2_firstAbove 21 = .ok (.iinc 2 1, 3) := by decide +kernel
theorem dX2_firstAbove_24 : decode cX2_firstAbove 24 = .ok (.goto (-22), 3) := by decide +kernel
theorem dX2_firstAbove_27 : decode cX2_firstAbove 27 = .ok (.ldc 131, 2) := by decide +kernel
theorem dX2_firstAbove_29 : decode cX2_firstAbove 29 = .ok (.ireturn, 1) := by decide +kernel
theorem dX2_heightAt_0 : decode cX2_heightAt 0 = .ok (.iconst 0, 1) := by decide +kernel
theorem dX2_heightAt_1 : decode cX2_heightAt 1 = .ok (.istore_n 2, 1) := by decide +kernel
theorem dX2_heightAt_2 : decode cX2_heightAt 2 = .ok (.iconst 0, 1) := by decide +kernel
theorem dX2_heightAt_3 : decode cX2_heightAt 3 = .ok (.istore_n 3, 1) := by decide +kernel
theorem dX2_heightAt_4 : decode cX2_heightAt 4 = .ok (.iconst 0, 1) := by decide +kernel
theorem dX2_heightAt_5 : decode cX2_heightAt 5 = .ok (.istore 4, 2) := by decide +kernel
theorem dX2_heightAt_7 : decode cX2_heightAt 7 = .ok (.iload 4, 2) := by decide +kernel
theorem dX2_heightAt_9 : decode cX2_heightAt 9 = .ok (.iload_n 1, 1) := by decide +kernel
theorem dX2_heightAt_10 : decode cX2_heightAt 10 = .ok (.if_icmp .ge 32, 3) := by decide +kernel
theorem dX2_heightAt_13 : decode cX2_heightAt 13 = .ok (.iload 4, 2) := by decide +kernel
theorem dX2_heightAt_15 : decode cX2_heightAt 15 = .ok (.aload_n 0, 1) := by decide +kernel
theorem dX2_heightAt_16 : decode cX2_heightAt 16 = .ok (.getfield 34, 3) := by decide +kernel
theorem dX2_heightAt_19 : decode cX2_heightAt 19 = .ok (.if_icmp .ge 23, 3) := by decide +kernel
theorem dX2_heightAt_22 : decode cX2_heightAt 22 = .ok (.iload_n 2, 1) := by decide +kernel
theorem dX2_heightAt_23 : decode cX2_heightAt 23 = .ok (.aload_n 0, 1) := by decide +kernel
theorem dX2_heightAt_24 : decode cX2_heightAt 24 = .ok (.getfield 21, 3) := by decide +kernel
theorem dX2_heightAt_27 : decode cX2_heightAt 27 = .ok (.iload 4, 2) := by decide +kernel
theorem dX2_heightAt_29 : decode cX2_heightAt 29 = .ok (.iaload, 1) := by decide +kernel
theorem dX2_heightAt_30 : decode cX2_heightAt 30 = .ok (.iadd, 1) := by decide +kernel
theorem dX2_heightAt_31 : decode cX2_heightAt 31 = .ok (.istore_n 2, 1) := by decide +kernel
theorem dX2_heightAt_32 : decode cX2_heightAt 32 = .ok (.iload_n 3, 1) := by decide +kernel
theorem dX2_heightAt_33 : decode cX2_heightAt 33 = .ok (.iload_n 2, 1) := by decide +kernel
theorem dX2_heightAt_34 : decode cX2_heightAt 34 = .ok (.iadd, 1) := by decide +kernel
theorem dX2_heightAt_35 : decode cX2_heightAt 35 = .ok (.istore_n 3, 1) := by decide +kernel
theorem dX2_heightAt_36 : decode cX2_heightAt 36 = .ok (.iinc 4 1, 3) := by decide +kernel
theorem dX2_heightAt_39 : decode cX2_heightAt 39 = .ok (.goto (-32), 3) := by decide +kernel
theorem dX2_heightAt_42 : decode cX2_heightAt 42 = .ok (.iload_n 3, 1) := by decide +kernel
theorem dX2_heightAt_43 : decode cX2_heightAt 43 = .ok (.ireturn, 1) := by decide +kernel
theorem dX2_off_0 : decode cX2_off 0 = .ok (.aload_n 0, 1) := by decide +kernel
theorem dX2_off_1 : decode cX2_off 1 = .ok (.aload_n 0, 1) := by decide +kernel
theorem dX2_off_2 : decode cX2_off 2 = .ok (.getfield 34, 3) := by decide +kernel
theorem dX2_off_5 : decode cX2_off 5 = .ok (.invokevirtual 132, 3) := by decide +kernel
theorem dX2_off_8 : decode cX2_off 8 = .ok (.istore_n 1, 1) := by decide +kernel
theorem dX2_off_9 : decode cX2_off 9 = .ok (.iconst 0, 1) := by decide +kernel
theorem dX2_off_10 : decode cX2_off 10 = .ok (.istore_n 2, 1) := by decide +kernel
theorem dX2_off_11 : decode cX2_off 11 = .ok (.iconst 0, 1) := by decide +kernel
theorem dX2_off_12 : decode cX2_off 12 = .ok (.istore_n 3, 1) := by decide +kernel
theorem dX2_off_13 : decode cX2_off 13 = .ok (.iconst 0, 1) := by decide +kernel
theorem dX2_off_14 : decode cX2_off 14 = .ok (.istore 4, 2) := by decide +kernel
theorem dX2_off_16 : decode cX2_off 16 = .ok (.iconst 0, 1) := by decide +kernel
theorem dX2_off_17 : decode cX2_off 17 = .ok (.istore 5, 2) := by decide +kernel
theorem dX2_off_19 : decode cX2_off 19 = .ok (.iload 5, 2) := by decide +kernel
theorem dX2_off_21 : decode cX2_off 21 = .ok (.aload_n 0, 1) := by decide +kernel
theorem dX2_off_22 : decode cX2_off 22 = .ok (.getfield 34, 3) := by decide +kernel
theorem dX2_off_25 : decode cX2_off 25 = .ok (.if_icmp .ge 46, 3) := by decide +kernel
theorem dX2_off_28 : decode cX2_off 28 = .ok (.iload_n 2, 1) := by decide +kernel
theorem dX2_off_29 : decode cX2_off 29 = .ok (.aload_n 0, 1) := by decide +kernel
theorem dX2_off_30 : decode cX2_off 30 = .ok (.getfield 21, 3) := by decide +kernel
theorem dX2_off_33 : decode cX2_off 33 = .ok (.iload 5, 2) := by decide +kernel
theorem dX2_off_35 : decode cX2_off 35 = .ok (.iaload, 1) := by decide +kernel
theorem dX2_off_36 : decode cX2_off 36 = .ok (.iadd, 1) := by decide +kernel
theorem dX2_off_37 : decode cX2_off 37 = .ok (.istore_n 2, 1) := by decide +kernel
theorem dX2_off_38 : decode cX2_off 38 = .ok (.iload_n 3, 1) := by decide +kernel
theorem dX2_off_39 : decode cX2_off 39 = .ok (.iload_n 2, 1) := by decide +kernel
theorem dX2_off_40 : decode cX2_off 40 = .ok (.iadd, 1) := by decide +kernel
theorem dX2_off_41 : decode cX2_off 41 = .ok (.istore_n 3, 1) := by decide +kernel
theorem dX2_off_42 : decode cX2_off 42 = .ok (.iload 4, 2) := by decide +kernel
theorem dX2_off_44 : decode cX2_off 44 = .ok (.aload_n 0, 1) := by decide +kernel
theorem dX2_off_45 : decode cX2_off 45 = .ok (.getfield 34, 3) := by decide +kernel
theorem dX2_off_48 : decode cX2_off 48 = .ok (.iload_n 3, 1) := by decide +kernel
theorem dX2_off_49 : decode cX2_off 49 = .ok (.imul, 1) := by decide +kernel
theorem dX2_off_50 : decode cX2_off 50 = .ok (.iload 5, 2) := by decide +kernel
theorem dX2_off_52 : decode cX2_off 52 = .ok (.iconst 1, 1) := by decide +kernel
theorem dX2_off_53 : decode cX2_off 53 = .ok (.iadd, 1) := by decide +kernel
theorem dX2_off_54 : decode cX2_off 54 = .ok (.iload_n 1, 1) := by decide +kernel
theorem dX2_off_55 : decode cX2_off 55 = .ok (.imul, 1) := by decide +kernel
theorem dX2_off_56 : decode cX2_off 56 = .ok (.isub, 1) := by decide +kernel
theorem dX2_off_57 : decode cX2_off 57 = .ok (.invokestatic 135, 3) := by decide +kernel
theorem dX2_off_60 : decode cX2_off 60 = .ok (.invokestatic 138, 3) := by decide +kernel
theorem dX2_off_63 : decode cX2_off 63 = .ok (.istore 4, 2) := by decide +kernel
theorem dX2_off_65 : decode cX2_off 65 = .ok (.iinc 5 1, 3) := by decide +kernel
theorem dX2_off_68 : decode cX2_off 68 = .ok (.goto (-49), 3) := by decide +kernel
theorem dX2_off_71 : decode cX2_off 71 = .ok (.aload_n 0, 1) := by decide +kernel
theorem dX2_off_72 : decode cX2_off 72 = .ok (.getfield 34, 3) := by decide +kernel
theorem dX2_off_75 : decode cX2_off 75 = .ok (.ifCond .le 13, 3) := by decide +kernel
theorem dX2_off_78 : decode cX2_off 78 = .ok (.iload 4, 2) := by decide +kernel
theorem dX2_off_80 : decode cX2_off 80 = .ok (.aload_n 0, 1) := by decide +kernel
theorem dX2_off_81 : decode cX2_off 81 = .ok (.getfield 34, 3) := by decide +kernel
theorem dX2_off_84 : decode cX2_off 84 = .ok (.idiv, 1) := by decide +kernel
theorem dX2_off_85 : decode cX2_off 85 = .ok (.goto 4, 3) := by decide +kernel
theorem dX2_off_88 : decode cX2_off 88 = .ok (.iconst 0, 1) := by decide +kernel
theorem dX2_off_89 : decode cX2_off 89 = .ok (.ireturn, 1) := by decide +kernel
theorem dX3_init_0 : decode cX3_init 0 = .ok (.aload_n 0, 1) := by decide +kernel
theorem dX3_init_1 : decode cX3_init 1 = .ok (.invokespecial 3, 3) := by decide +kernel
theorem dX3_init_4 : decode cX3_init 4 = .ok (.aload_n 0, 1) := by decide +kernel
theorem dX3_init_5 : decode cX3_init 5 = .ok (.iconst 0, 1) := by decide +kernel
theorem dX3_init_6 : decode cX3_init 6 = .ok (.putfield 9, 3) := by decide +kernel
theorem dX3_init_9 : decode cX3_init 9 = .ok (.aload_n 0, 1) := by decide +kernel
theorem dX3_init_10 : decode cX3_init 10 = .ok (.iconst 0, 1) := by decide +kernel
theorem dX3_init_11 : decode cX3_init 11 = .ok (.putfield 15, 3) := by decide +kernel
theorem dX3_init_14 : decode cX3_init 14 = .ok (.aload_n 0, 1) := by decide +kernel
theorem dX3_init_15 : decode cX3_init 15 = .ok (.iconst 0, 1) := by decide +kernel
theorem dX3_init_16 : decode cX3_init 16 = .ok (.putfield 18, 3) := by decide +kernel
theorem dX3_init_19 : decode cX3_init 19 = .ok (.aload_n 0, 1) := by decide +kernel
theorem dX3_init_20 : decode cX3_init 20 = .ok (.iconst 0, 1) := by decide +kernel
theorem dX3_init_21 : decode cX3_init 21 = .ok (.putfield 21, 3) := by decide +kernel
theorem dX3_init_24 : decode cX3_init 24 = .ok (.aload_n 0, 1) := by decide +kernel
theorem dX3_init_25 : decode cX3_init 25 = .ok (.bipush 40, 2) := by decide +kernel
theorem dX3_init_27 : decode cX3_init 27 = .ok (.newarray .int, 2) := by decide +kernel
theorem dX3_init_29 : decode cX3_init 29 = .ok (.putfield 24, 3) := by decide +kernel
theorem dX3_init_32 : decode cX3_init 32 = .ok (.aload_n 0, 1) := by decide +kernel
theorem dX3_init_33 : decode cX3_init 33 = .ok (.bipush 40, 2) := by decide +kernel
theorem dX3_init_35 : decode cX3_init 35 = .ok (.newarray .int, 2) := by decide +kernel
theorem dX3_init_37 : decode cX3_init 37 = .ok (.putfield 28, 3) := by decide +kernel
theorem dX3_init_40 : decode cX3_init 40 = .ok (.aload_n 0, 1) := by decide +kernel
theorem dX3_init_41 : decode cX3_init 41 = .ok (.bipush 40, 2) := by decide +kernel
theorem dX3_init_43 : decode cX3_init 43 = .ok (.newarray .int, 2) := by decide +kernel
theorem dX3_init_45 : decode cX3_init 45 = .ok (.putfield 31, 3) := by decide +kernel
theorem dX3_init_48 : decode cX3_init 48 = .ok (.aload_n 0, 1) := by decide +kernel
theorem dX3_init_49 : decode cX3_init 49 = .ok (.bipush 40, 2) := by decide +kernel
theorem dX3_init_51 : decode cX3_init 51 = .ok (.newarray .int, 2) := by decide +kernel
theorem dX3_init_53 : decode cX3_init 53 = .ok (.putfield 34, 3) := by decide +kernel
theorem dX3_init_56 : decode cX3_init 56 = .ok (.aload_n 0, 1) := by decide +kernel
theorem dX3_init_57 : decode cX3_init 57 = .ok (.bipush 6, 2) := by decide +kernel
theorem dX3_init_59 : decode cX3_init 59 = .ok (.newarray .int, 2) := by decide +kernel
theorem dX3_init_61 : decode cX3_init 61 = .ok (.putfield 37, 3) := by decide +kernel
theorem dX3_init_64 : decode cX3_init 64 = .ok (.aload_n 0, 1) := by decide +kernel
theorem dX3_init_65 : decode cX3_init 65 = .ok (.bipush 6, 2) := by decide +kernel
theorem dX3_init_67 : decode cX3_init 67 = .ok (.newarray .int, 2) := by decide +kernel
theorem dX3_init_69 : decode cX3_init 69 = .ok (.putfield 40, 3) := by decide +kernel
theorem dX3_init_72 : decode cX3_init 72 = .ok (.return_, 1) := by decide +kernel
theorem dX3_clear_0 : decode cX3_clear 0 = .ok (.aload_n 0, 1) := by decide +kernel
theorem dX3_clear_1 : decode cX3_clear 1 = .ok (.iconst 0, 1) := by decide +kernel
theorem dX3_clear_2 : decode cX3_clear 2 = .ok (.putfield 9, 3) := by decide +kernel
theorem dX3_clear_5 : decode cX3_clear 5 = .ok (.aload_n 0, 1) := by decide +kernel
theorem dX3_clear_6 : decode cX3_clear 6 = .ok (.iconst 0, 1) := by decide +kernel
theorem dX3_clear_7 : decode cX3_clear 7 = .ok (.putfield 15, 3) := by decide +kernel
theorem dX3_clear_10 : decode cX3_clear 10 = .ok (.aload_n 0, 1) := by decide +kernel
theorem dX3_clear_11 : decode cX3_clear 11 = .ok (.iconst 0, 1) := by decide +kernel
theorem dX3_clear_12 : decode cX3_clear 12 = .ok (.putfield 18, 3) := by decide +kernel
theorem dX3_clear_15 : decode cX3_clear 15 = .ok (.aload_n 0, 1) := by decide +kernel
theorem dX3_clear_16 : decode cX3_clear 16 = .ok (.iconst 0, 1) := by decide +kernel
theorem dX3_clear_17 : decode cX3_clear 17 = .ok (.putfield 21, 3) := by decide +kernel
theorem dX3_clear_20 : decode cX3_clear 20 = .ok (.aload_n 0, 1) := by decide +kernel
theorem dX3_clear_21 : decode cX3_clear 21 = .ok (.getfield 40, 3) := by decide +kernel
theorem dX3_clear_24 : decode cX3_clear 24 = .ok (.iconst 0, 1) := by decide +kernel
theorem dX3_clear_25 : decode cX3_clear 25 = .ok (.invokestatic 43, 3) := by decide +kernel
theorem dX3_clear_28 : decode cX3_clear 28 = .ok (.return_, 1) := by decide +kernel
theorem dX3_isNone_0 : decode cX3_isNone 0 = .ok (.aload_n 0, 1) := by decide +kernel
theorem dX3_isNone_1 : decode cX3_isNone 1 = .ok (.getfield 9, 3) := by decide +kernel
theorem dX3_isNone_4 : decode cX3_isNone 4 = .ok (.ifCond .ne 7, 3) := by decide +kernel
theorem dX3_isNone_7 : decode cX3_isNone 7 = .ok (.iconst 1, 1) := by decide +kernel
theorem dX3_isNone_8 : decode cX3_isNone 8 = .ok (.goto 4, 3) := by decide +kernel
theorem dX3_isNone_11 : decode cX3_isNone 11 = .ok (.iconst 0, 1) := by decide +kernel
theorem dX3_isNone_12 : decode cX3_isNone 12 = .ok (.ireturn, 1) := by decide +kernel
theorem dX3_hasCell_0 : decode cX3_hasCell 0 = .ok (.iload_n 1, 1) := by decide +kernel
theorem dX3_hasCell_1 : decode cX3_hasCell 1 = .ok (.ifCond .lt 15, 3) := by decide +kernel
theorem dX3_hasCell_4 : decode cX3_hasCell 4 = .ok (.iload_n 1, 1) := by decide +kernel
theorem dX3_hasCell_5 : decode cX3_hasCell 5 = .ok (.aload_n 0, 1) := by decide +kernel
theorem dX3_hasCell_6 : decode cX3_hasCell 6 = .ok (.getfield 9, 3) := by decide +kernel
theorem dX3_hasCell_9 : decode cX3_hasCell 9 = .ok (.if_icmp .ge 7, 3) := by decide +kernel
theorem dX3_hasCell_12 : decode cX3_hasCell 12 = .ok (.iconst 1, 1) := by decide +kernel
theorem dX3_hasCell_13 : decode cX3_hasCell 13 = .ok (.goto 4, 3) := by decide +kernel
theorem dX3_hasCell_16 : decode cX3_hasCell 16 = .ok (.iconst 0, 1) := by decide +kernel
theorem dX3_hasCell_17 : decode cX3_hasCell 17 = .ok (.ireturn, 1) := by decide +kernel
theorem dX3_hasSeam_0 : decode cX3_hasSeam 0 = .ok (.iload_n 1, 1) := by decide +kernel
theorem dX3_hasSeam_1 : decode cX3_hasSeam 1 = .ok (.ifCond .lt 15, 3) := by decide +kernel
theorem dX3_hasSeam_4 : decode cX3_hasSeam 4 = .ok (.iload_n 1, 1) := by decide +kernel
theorem dX3_hasSeam_5 : decode cX3_hasSeam 5 = .ok (.aload_n 0, 1) := by decide +kernel
theorem dX3_hasSeam_6 : decode cX3_hasSeam 6 = .ok (.getfield 15, 3) := by decide +kernel
theorem dX3_hasSeam_9 : decode cX3_hasSeam 9 = .ok (.if_icmp .ge 7, 3) := by decide +kernel
theorem dX3_hasSeam_12 : decode cX3_hasSeam 12 = .ok (.iconst 1, 1) := by decide +kernel
theorem dX3_hasSeam_13 : decode cX3_hasSeam 13 = .ok (.goto 4, 3) := by decide +kernel
theorem dX3_hasSeam_16 : decode cX3_hasSeam 16 = .ok (.iconst 0, 1) := by decide +kernel
theorem dX3_hasSeam_17 : decode cX3_hasSeam 17 = .ok (.ireturn, 1) := by decide +kernel
theorem dX3_hasAct_0 : decode cX3_hasAct 0 = .ok (.iload_n 1, 1) := by decide +kernel
theorem dX3_hasAct_1 : decode cX3_hasAct 1 = .ok (.ifCond .lt 15, 3) := by decide +kernel
theorem dX3_hasAct_4 : decode cX3_hasAct 4 = .ok (.iload_n 1, 1) := by decide +kernel
theorem dX3_hasAct_5 : decode cX3_hasAct 5 = .ok (.aload_n 0, 1) := by decide +kernel
theorem dX3_hasAct_6 : decode cX3_hasAct 6 = .ok (.getfield 18, 3) := by decide +kernel
theorem dX3_hasAct_9 : decode cX3_hasAct 9 = .ok (.if_icmp .ge 7, 3) := by decide +kernel
theorem dX3_hasAct_12 : decode cX3_hasAct 12 = .ok (.iconst 1, 1) := by decide +kernel
theorem dX3_hasAct_13 : decode cX3_hasAct 13 = .ok (.goto 4, 3) := by decide +kernel
theorem dX3_hasAct_16 : decode cX3_hasAct 16 = .ok (.iconst 0, 1) := by decide +kernel
theorem dX3_hasAct_17 : decode cX3_hasAct 17 = .ok (.ireturn, 1) := by decide +kernel
theorem dX3_isStep_0 : decode cX3_isStep 0 = .ok (.aload_n 0, 1) := by decide +kernel
theorem dX3_isStep_1 : decode cX3_isStep 1 = .ok (.iload_n 1, 1) := by decide +kernel
theorem dX3_isStep_2 : decode cX3_isStep 2 = .ok (.invokevirtual 49, 3) := by decide +kernel
theorem dX3_isStep_5 : decode cX3_isStep 5 = .ok (.ifCond .eq 18, 3) := by decide +kernel
theorem dX3_isStep_8 : decode cX3_isStep 8 = .ok (.aload_n 0, 1) := by decide +kernel
theorem dX3_isStep_9 : decode cX3_isStep 9 = .ok (.getfield 24, 3) := by decide +kernel
theorem dX3_isStep_12 : decode cX3_isStep 12 = .ok (.iload_n 1, 1) := by decide +kernel
theorem dX3_isStep_13 : decode cX3_isStep 13 = .ok (.iaload, 1) := by decide +kernel
theorem dX3_isStep_14 : decode cX3_isStep 14 = .ok (.bipush 6, 2) := by decide +kernel
theorem dX3_isStep_16 : decode cX3_isStep 16 = .ok (.if_icmp .gt 7, 3) := by decide +kernel
theorem dX3_isStep_19 : decode cX3_isStep 19 = .ok (.iconst 1, 1) := by decide +kernel
theorem dX3_isStep_20 : decode cX3_isStep 20 = .ok (.goto 4, 3) := by decide +kernel
theorem dX3_isStep_23 : decode cX3_isStep 23 = .ok (.iconst 0, 1) := by decide +kernel
theorem dX3_isStep_24 : decode cX3_isStep 24 = .ok (.ireturn, 1) := by decide +kernel
theorem dX3_stepKind_0 : decode cX3_stepKind 0 = .ok (.aload_n 0, 1) := by decide +kernel
theorem dX3_stepKind_1 : decode cX3_stepKind 1 = .ok (.getfield 24, 3) := by decide +kernel
theorem dX3_stepKind_4 : decode cX3_stepKind 4 = .ok (.iload_n 1, 1) := by decide +kernel
theorem dX3_stepKind_5 : decode cX3_stepKind 5 = .ok (.iaload, 1) := by decide +kernel
theorem dX3_stepKind_6 : decode cX3_stepKind 6 = .ok (.iconst 1, 1) := by decide +kernel
theorem dX3_stepKind_7 : decode cX3_stepKind 7 = .ok (.iadd, 1) := by decide +kernel
theorem dX3_stepKind_8 : decode cX3_stepKind 8 = .ok (.ireturn, 1) := by decide +kernel
theorem dX3_addAct_0 : decode cX3_addAct 0 = .ok (.aload_n 0, 1) := by decide +kernel
theorem dX3_addAct_1 : decode cX3_addAct 1 = .ok (.getfield 18, 3) := by decide +kernel
theorem dX3_addAct_4 : decode cX3_addAct 4 = .ok (.bipush 40, 2) := by decide +kernel
theorem dX3_addAct_6 : decode cX3_addAct 6 = .ok (.if_icmp .ge 56, 3) := by decide +kernel
theorem dX3_addAct_9 : decode cX3_addAct 9 = .ok (.aload_n 0, 1) := by decide +kernel
theorem dX3_addAct_10 : decode cX3_addAct 10 = .ok (.getfield 24, 3) := by decide +kernel
theorem dX3_addAct_13 : decode cX3_addAct 13 = .ok (.aload_n 0, 1) := by decide +kernel
theorem dX3_addAct_14 : decode cX3_addAct 14 = .ok (.getfield 18, 3) := by decide +kernel
theorem dX3_addAct_17 : decode cX3_addAct 17 = .ok (.iload_n 1, 1) := by decide +kernel
theorem dX3_addAct_18 : decode cX3_addAct 18 = .ok (.iastore, 1) := by decide +kernel
theorem dX3_addAct_19 : decode cX3_addAct 19 = .ok (.aload_n 0, 1) := by decide +kernel
theorem dX3_addAct_20 : decode cX3_addAct 20 = .ok (.getfield 28, 3) := by decide +kernel
theorem dX3_addAct_23 : decode cX3_addAct 23 = .ok (.aload_n 0, 1) := by decide +kernel
theorem dX3_addAct_24 : decode cX3_addAct 24 = .ok (.getfield 18, 3) := by decide +kernel
theorem dX3_addAct_27 : decode cX3_addAct 27 = .ok (.iload_n 2, 1) := by decide +kernel
theorem dX3_addAct_28 : decode cX3_addAct 28 = .ok (.iastore, 1) := by decide +kernel
theorem dX3_addAct_29 : decode cX3_addAct 29 = .ok (.aload_n 0, 1) := by decide +kernel
theorem dX3_addAct_30 : decode cX3_addAct 30 = .ok (.getfield 31, 3) := by decide +kernel
theorem dX3_addAct_33 : decode cX3_addAct 33 = .ok (.aload_n 0, 1) := by decide +kernel
theorem dX3_addAct_34 : decode cX3_addAct 34 = .ok (.getfield 18, 3) := by decide +kernel
theorem dX3_addAct_37 : decode cX3_addAct 37 = .ok (.iload_n 3, 1) := by decide +kernel
theorem dX3_addAct_38 : decode cX3_addAct 38 = .ok (.iastore, 1) := by decide +kernel
theorem dX3_addAct_39 : decode cX3_addAct 39 = .ok (.aload_n 0, 1) := by decide +kernel
theorem dX3_addAct_40 : decode cX3_addAct 40 = .ok (.getfield 34, 3) := by decide +kernel
theorem dX3_addAct_43 : decode cX3_addAct 43 = .ok (.aload_n 0, 1) := by decide +kernel
theorem dX3_addAct_44 : decode cX3_addAct 44 = .ok (.getfield 18, 3) := by decide +kernel
theorem dX3_addAct_47 : decode cX3_addAct 47 = .ok (.aload_n 0, 1) := by decide +kernel
theorem dX3_addAct_48 : decode cX3_addAct 48 = .ok (.getfield 15, 3) := by decide +kernel
theorem dX3_addAct_51 : decode cX3_addAct 51 = .ok (.iastore, 1) := by decide +kernel
theorem dX3_addAct_52 : decode cX3_addAct 52 = .ok (.aload_n 0, 1) := by decide +kernel
theorem dX3_addAct_53 : decode cX3_addAct 53 = .ok (.dup, 1) := by decide +kernel
theorem dX3_addAct_54 : decode cX3_addAct 54 = .ok (.getfield 18, 3) := by decide +kernel
theorem dX3_addAct_57 : decode cX3_addAct 57 = .ok (.iconst 1, 1) := by decide +kernel
theorem dX3_addAct_58 : decode cX3_addAct 58 = .ok (.iadd, 1) := by decide +kernel
theorem dX3_addAct_59 : decode cX3_addAct 59 = .ok (.putfield 18, 3) := by decide +kernel
theorem dX3_addAct_62 : decode cX3_addAct 62 = .ok (.return_, 1) := by decide +kernel
theorem dX3_endSeam_0 : decode cX3_endSeam 0 = .ok (.aload_n 0, 1) := by decide +kernel
theorem dX3_endSeam_1 : decode cX3_endSeam 1 = .ok (.getfield 15, 3) := by decide +kernel
theorem dX3_endSeam_4 : decode cX3_endSeam 4 = .ok (.bipush 6, 2) := by decide +kernel
theorem dX3_endSeam_6 : decode cX3_endSeam 6 = .ok (.if_icmp .ge 26, 3) := by decide +kernel
theorem dX3_endSeam_9 : decode cX3_endSeam 9 = .ok (.aload_n 0, 1) := by decide +kernel
theorem dX3_endSeam_10 : decode cX3_endSeam 10 = .ok (.getfield 37, 3) := by decide +kernel
theorem dX3_endSeam_13 : decode cX3_endSeam 13 = .ok (.aload_n 0, 1) := by decide +kernel
theorem dX3_endSeam_14 : decode cX3_endSeam 14 = .ok (.getfield 15, 3) := by decide +kernel
theorem dX3_endSeam_17 : decode cX3_endSeam 17 = .ok (.aload_n 0, 1) := by decide +kernel
theorem dX3_endSeam_18 : decode cX3_endSeam 18 = .ok (.getfield 18, 3) := by decide +kernel
theorem dX3_endSeam_21 : decode cX3_endSeam 21 = .ok (.iastore, 1) := by decide +kernel
theorem dX3_endSeam_22 : decode cX3_endSeam 22 = .ok (.aload_n 0, 1) := by decide +kernel
theorem dX3_endSeam_23 : decode cX3_endSeam 23 = .ok (.dup, 1) := by decide +kernel
theorem dX3_endSeam_24 : decode cX3_endSeam 24 = .ok (.getfield 15, 3) := by decide +kernel
theorem dX3_endSeam_27 : decode cX3_endSeam 27 = .ok (.iconst 1, 1) := by decide +kernel
theorem dX3_endSeam_28 : decode cX3_endSeam 28 = .ok (.iadd, 1) := by decide +kernel
theorem dX3_endSeam_29 : decode cX3_endSeam 29 = .ok (.putfield 15, 3) := by decide +kernel
theorem dX3_endSeam_32 : decode cX3_endSeam 32 = .ok (.return_, 1) := by decide +kernel
theorem dX3_addBefore_0 : decode cX3_addBefore 0 = .ok (.aload_n 0, 1) := by decide +kernel
theorem dX3_addBefore_1 : decode cX3_addBefore 1 = .ok (.iload_n 1, 1) := by decide +kernel
theorem dX3_addBefore_2 : decode cX3_addBefore 2 = .ok (.invokevirtual 53, 3) := by decide +kernel
theorem dX3_addBefore_5 : decode cX3_addBefore 5 = .ok (.ifCond .eq 33, 3) := by decide +kernel
theorem dX3_addBefore_8 : decode cX3_addBefore 8 = .ok (.aload_n 0, 1) := by decide +kernel
theorem dX3_addBefore_9 : decode cX3_addBefore 9 = .ok (.iload_n 2, 1) := by decide +kernel
theorem dX3_addBefore_10 : decode cX3_addBefore 10 = .ok (.invokevirtual 53, 3) := by decide +kernel
theorem dX3_addBefore_13 : decode cX3_addBefore 13 = .ok (.ifCond .eq 25, 3) := by decide +kernel
theorem dX3_addBefore_16 : decode cX3_addBefore 16 = .ok (.aload_n 0, 1) := by decide +kernel
theorem dX3_addBefore_17 : decode cX3_addBefore 17 = .ok (.getfield 40, 3) := by decide +kernel
theorem dX3_addBefore_20 : decode cX3_addBefore 20 = .ok (.iload_n 2, 1) := by decide +kernel
theorem dX3_addBefore_21 : decode cX3_addBefore 21 = .ok (.dup2, 1) := by decide +kernel
theorem dX3_addBefore_22 : decode cX3_addBefore 22 = .ok (.iaload, 1) := by decide +kernel
theorem dX3_addBefore_23 : decode cX3_addBefore 23 = .ok (.iconst 1, 1) := by decide +kernel
theorem dX3_addBefore_24 : decode cX3_addBefore 24 = .ok (.iload_n 1, 1) := by decide +kernel
theorem dX3_addBefore_25 : decode cX3_addBefore 25 = .ok (.ishl, 1) := by decide +kernel
theorem dX3_addBefore_26 : decode cX3_addBefore 26 = .ok (.ior, 1) := by decide +kernel
theorem dX3_addBefore_27 : decode cX3_addBefore 27 = .ok (.iastore, 1) := by decide +kernel
theorem dX3_addBefore_28 : decode cX3_addBefore 28 = .ok (.aload_n 0, 1) := by decide +kernel
theorem dX3_addBefore_29 : decode cX3_addBefore 29 = .ok (.dup, 1) := by decide +kernel
theorem dX3_addBefore_30 : decode cX3_addBefore 30 = .ok (.getfield 21, 3) := by decide +kernel
theorem dX3_addBefore_33 : decode cX3_addBefore 33 = .ok (.iconst 1, 1) := by decide +kernel
theorem dX3_addBefore_34 : decode cX3_addBefore 34 = .ok (.iadd, 1) := by decide +kernel
theorem dX3_addBefore_35 : decode cX3_addBefore 35 = .ok (.putfield 21, 3) := by decide +kernel
theorem dX3_addBefore_38 : decode cX3_addBefore 38 = .ok (.return_, 1) := by decide +kernel
theorem dX3_firstAct_0 : decode cX3_firstAct 0 = .ok (.iload_n 1, 1) := by decide +kernel
theorem dX3_firstAct_1 : decode cX3_firstAct 1 = .ok (.ifCond .le 22, 3) := by decide +kernel
theorem dX3_firstAct_4 : decode cX3_firstAct 4 = .ok (.iload_n 1, 1) := by decide +kernel
theorem dX3_firstAct_5 : decode cX3_firstAct 5 = .ok (.aload_n 0, 1) := by decide +kernel
theorem dX3_firstAct_6 : decode cX3_firstAct 6 = .ok (.getfield 15, 3) := by decide +kernel
theorem dX3_firstAct_9 : decode cX3_firstAct 9 = .ok (.if_icmp .ge 14, 3) := by decide +kernel
theorem dX3_firstAct_12 : decode cX3_firstAct 12 = .ok (.aload_n 0, 1) := by decide +kernel
theorem dX3_firstAct_13 : decode cX3_firstAct 13 = .ok (.getfield 37, 3) := by decide +kernel
theorem dX3_firstAct_16 : decode cX3_firstAct 16 = .ok (.iload_n 1, 1) := by decide +kernel
theorem dX3_firstAct_17 : decode cX3_firstAct 17 = .ok (.iconst 1, 1) := by decide +kernel
theorem dX3_firstAct_18 : decode cX3_firstAct 18 = .ok (.isub, 1) := by decide +kernel
theorem dX3_firstAct_19 : decode cX3_firstAct 19 = .ok (.iaload, 1) := by decide +kernel
theorem dX3_firstAct_20 : decode cX3_firstAct 20 = .ok (.goto 4, 3) := by decide +kernel
theorem dX3_firstAct_23 : decode cX3_firstAct 23 = .ok (.iconst 0, 1) := by decide +kernel
theorem dX3_firstAct_24 : decode cX3_firstAct 24 = .ok (.ireturn, 1) := by decide +kernel
theorem dX3_endOfActs_0 : decode cX3_endOfActs 0 = .ok (.aload_n 0, 1) := by decide +kernel
theorem dX3_endOfActs_1 : decode cX3_endOfActs 1 = .ok (.iload_n 1, 1) := by decide +kernel
theorem dX3_endOfActs_2 : decode cX3_endOfActs 2 = .ok (.invokevirtual 53, 3) := by decide +kernel
theorem dX3_endOfActs_5 : decode cX3_endOfActs 5 = .ok (.ifCond .eq 12, 3) := by decide +kernel
theorem dX3_endOfActs_8 : decode cX3_endOfActs 8 = .ok (.aload_n 0, 1) := by decide +kernel
theorem dX3_endOfActs_9 : decode cX3_endOfActs 9 = .ok (.getfield 37, 3) := by decide +kernel
theorem dX3_endOfActs_12 : decode cX3_endOfActs 12 = .ok (.iload_n 1, 1) := by decide +kernel
theorem dX3_endOfActs_13 : decode cX3_endOfActs 13 = .ok (.iaload, 1) := by decide +kernel
theorem dX3_endOfActs_14 : decode cX3_endOfActs 14 = .ok (.goto 4, 3) := by decide +kernel
theorem dX3_endOfActs_17 : decode cX3_endOfActs 17 = .ok (.iconst 0, 1) := by decide +kernel
theorem dX3_endOfActs_18 : decode cX3_endOfActs 18 = .ok (.ireturn, 1) := by decide +kernel
theorem dX3_mayFollow_0 : decode cX3_mayFollow 0 = .ok (.aload_n 0, 1) := by decide +kernel
theorem dX3_mayFollow_1 : decode cX3_mayFollow 1 = .ok (.iload_n 1, 1) := by decide +kernel
theorem dX3_mayFollow_2 : decode cX3_mayFollow 2 = .ok (.invokevirtual 53, 3) := by decide +kernel
theorem dX3_mayFollow_5 : decode cX3_mayFollow 5 = .ok (.ifCond .eq 28, 3) := by decide +kernel
theorem dX3_mayFollow_8 : decode cX3_mayFollow 8 = .ok (.iload_n 2, 1) := by decide +kernel
