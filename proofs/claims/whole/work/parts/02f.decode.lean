theorem dX9_copy_12 : decode cX9_copy 12 = .ok (.iload_n 3, 1) := by decide +kernel
theorem dX9_copy_13 : decode cX9_copy 13 = .ok (.invokestatic 85, 3) := by decide +kernel
theorem dX9_copy_16 : decode cX9_copy 16 = .ok (.ifCond .ne 6, 3) := by decide +kernel
theorem dX9_copy_19 : decode cX9_copy 19 = .ok (.ldc 91, 2) := by decide +kernel
theorem dX9_copy_21 : decode cX9_copy 21 = .ok (.ireturn, 1) := by decide +kernel
theorem dX9_copy_22 : decode cX9_copy 22 = .ok (.aload_n 0, 1) := by decide +kernel
theorem dX9_copy_23 : decode cX9_copy 23 = .ok (.iconst 0, 1) := by decide +kernel
theorem dX9_copy_24 : decode cX9_copy 24 = .ok (.putfield 75, 3) := by decide +kernel
theorem dX9_copy_27 : decode cX9_copy 27 = .ok (.aload_n 0, 1) := by decide +kernel
theorem dX9_copy_28 : decode cX9_copy 28 = .ok (.getfield 7, 3) := by decide +kernel
theorem dX9_copy_31 : decode cX9_copy 31 = .ok (.iload_n 1, 1) := by decide +kernel
theorem dX9_copy_32 : decode cX9_copy 32 = .ok (.iaload, 1) := by decide +kernel
theorem dX9_copy_33 : decode cX9_copy 33 = .ok (.ifCond .lt 12, 3) := by decide +kernel
theorem dX9_copy_36 : decode cX9_copy 36 = .ok (.aload_n 0, 1) := by decide +kernel
theorem dX9_copy_37 : decode cX9_copy 37 = .ok (.getfield 7, 3) := by decide +kernel
theorem dX9_copy_40 : decode cX9_copy 40 = .ok (.iload_n 3, 1) := by decide +kernel
theorem dX9_copy_41 : decode cX9_copy 41 = .ok (.iaload, 1) := by decide +kernel
theorem dX9_copy_42 : decode cX9_copy 42 = .ok (.ifCond .ge 9, 3) := by decide +kernel
theorem dX9_copy_45 : decode cX9_copy 45 = .ok (.aload_n 0, 1) := by decide +kernel
theorem dX9_copy_46 : decode cX9_copy 46 = .ok (.iconst 1, 1) := by decide +kernel
theorem dX9_copy_47 : decode cX9_copy 47 = .ok (.invokevirtual 92, 3) := by decide +kernel
theorem dX9_copy_50 : decode cX9_copy 50 = .ok (.ireturn, 1) := by decide +kernel
theorem dX9_copy_51 : decode cX9_copy 51 = .ok (.aload_n 0, 1) := by decide +kernel
theorem dX9_copy_52 : decode cX9_copy 52 = .ok (.getfield 7, 3) := by decide +kernel
theorem dX9_copy_55 : decode cX9_copy 55 = .ok (.iload_n 1, 1) := by decide +kernel
theorem dX9_copy_56 : decode cX9_copy 56 = .ok (.iaload, 1) := by decide +kernel
theorem dX9_copy_57 : decode cX9_copy 57 = .ok (.aload_n 0, 1) := by decide +kernel
theorem dX9_copy_58 : decode cX9_copy 58 = .ok (.getfield 7, 3) := by decide +kernel
theorem dX9_copy_61 : decode cX9_copy 61 = .ok (.iload_n 3, 1) := by decide +kernel
theorem dX9_copy_62 : decode cX9_copy 62 = .ok (.iaload, 1) := by decide +kernel
theorem dX9_copy_63 : decode cX9_copy 63 = .ok (.if_icmp .eq 9, 3) := by decide +kernel
theorem dX9_copy_66 : decode cX9_copy 66 = .ok (.aload_n 0, 1) := by decide +kernel
theorem dX9_copy_67 : decode cX9_copy 67 = .ok (.iconst 5, 1) := by decide +kernel
theorem dX9_copy_68 : decode cX9_copy 68 = .ok (.invokevirtual 92, 3) := by decide +kernel
theorem dX9_copy_71 : decode cX9_copy 71 = .ok (.ireturn, 1) := by decide +kernel
theorem dX9_copy_72 : decode cX9_copy 72 = .ok (.iload_n 2, 1) := by decide +kernel
theorem dX9_copy_73 : decode cX9_copy 73 = .ok (.ifCond .lt 48, 3) := by decide +kernel
theorem dX9_copy_76 : decode cX9_copy 76 = .ok (.iload 4, 2) := by decide +kernel
theorem dX9_copy_78 : decode cX9_copy 78 = .ok (.ifCond .lt 43, 3) := by decide +kernel
theorem dX9_copy_81 : decode cX9_copy 81 = .ok (.iload 5, 2) := by decide +kernel
theorem dX9_copy_83 : decode cX9_copy 83 = .ok (.ifCond .lt 38, 3) := by decide +kernel
theorem dX9_copy_86 : decode cX9_copy 86 = .ok (.iload_n 2, 1) := by decide +kernel
theorem dX9_copy_87 : decode cX9_copy 87 = .ok (.i2l, 1) := by decide +kernel
theorem dX9_copy_88 : decode cX9_copy 88 = .ok (.iload 5, 2) := by decide +kernel
theorem dX9_copy_90 : decode cX9_copy 90 = .ok (.i2l, 1) := by decide +kernel
theorem dX9_copy_91 : decode cX9_copy 91 = .ok (.ladd, 1) := by decide +kernel
theorem dX9_copy_92 : decode cX9_copy 92 = .ok (.aload_n 0, 1) := by decide +kernel
theorem dX9_copy_93 : decode cX9_copy 93 = .ok (.getfield 13, 3) := by decide +kernel
theorem dX9_copy_96 : decode cX9_copy 96 = .ok (.iload_n 1, 1) := by decide +kernel
theorem dX9_copy_97 : decode cX9_copy 97 = .ok (.iaload, 1) := by decide +kernel
theorem dX9_copy_98 : decode cX9_copy 98 = .ok (.i2l, 1) := by decide +kernel
theorem dX9_copy_99 : decode cX9_copy 99 = .ok (.lcmp, 1) := by decide +kernel
theorem dX9_copy_100 : decode cX9_copy 100 = .ok (.ifCond .gt 21, 3) := by decide +kernel
theorem dX9_copy_103 : decode cX9_copy 103 = .ok (.iload 4, 2) := by decide +kernel
theorem dX9_copy_105 : decode cX9_copy 105 = .ok (.i2l, 1) := by decide +kernel
theorem dX9_copy_106 : decode cX9_copy 106 = .ok (.iload 5, 2) := by decide +kernel
theorem dX9_copy_108 : decode cX9_copy 108 = .ok (.i2l, 1) := by decide +kernel
theorem dX9_copy_109 : decode cX9_copy 109 = .ok (.ladd, 1) := by decide +kernel
theorem dX9_copy_110 : decode cX9_copy 110 = .ok (.aload_n 0, 1) := by decide +kernel
theorem dX9_copy_111 : decode cX9_copy 111 = .ok (.getfield 13, 3) := by decide +kernel
theorem dX9_copy_114 : decode cX9_copy 114 = .ok (.iload_n 3, 1) := by decide +kernel
theorem dX9_copy_115 : decode cX9_copy 115 = .ok (.iaload, 1) := by decide +kernel
theorem dX9_copy_116 : decode cX9_copy 116 = .ok (.i2l, 1) := by decide +kernel
theorem dX9_copy_117 : decode cX9_copy 117 = .ok (.lcmp, 1) := by decide +kernel
theorem dX9_copy_118 : decode cX9_copy 118 = .ok (.ifCond .le 9, 3) := by decide +kernel
theorem dX9_copy_121 : decode cX9_copy 121 = .ok (.aload_n 0, 1) := by decide +kernel
theorem dX9_copy_122 : decode cX9_copy 122 = .ok (.iconst 2, 1) := by decide +kernel
theorem dX9_copy_123 : decode cX9_copy 123 = .ok (.invokevirtual 92, 3) := by decide +kernel
theorem dX9_copy_126 : decode cX9_copy 126 = .ok (.ireturn, 1) := by decide +kernel
theorem dX9_copy_127 : decode cX9_copy 127 = .ok (.iload_n 2, 1) := by decide +kernel
theorem dX9_copy_128 : decode cX9_copy 128 = .ok (.iload 4, 2) := by decide +kernel
theorem dX9_copy_130 : decode cX9_copy 130 = .ok (.if_icmp .lt 7, 3) := by decide +kernel
theorem dX9_copy_133 : decode cX9_copy 133 = .ok (.iconst 1, 1) := by decide +kernel
theorem dX9_copy_134 : decode cX9_copy 134 = .ok (.goto 4, 3) := by decide +kernel
theorem dX9_copy_137 : decode cX9_copy 137 = .ok (.iconst 0, 1) := by decide +kernel
theorem dX9_copy_138 : decode cX9_copy 138 = .ok (.istore 6, 2) := by decide +kernel
theorem dX9_copy_140 : decode cX9_copy 140 = .ok (.iconst 0, 1) := by decide +kernel
theorem dX9_copy_141 : decode cX9_copy 141 = .ok (.istore 7, 2) := by decide +kernel
theorem dX9_copy_143 : decode cX9_copy 143 = .ok (.iload 7, 2) := by decide +kernel
theorem dX9_copy_145 : decode cX9_copy 145 = .ok (.iload 5, 2) := by decide +kernel
theorem dX9_copy_147 : decode cX9_copy 147 = .ok (.if_icmp .ge 57, 3) := by decide +kernel
theorem dX9_copy_150 : decode cX9_copy 150 = .ok (.iload 6, 2) := by decide +kernel
theorem dX9_copy_152 : decode cX9_copy 152 = .ok (.ifCond .eq 8, 3) := by decide +kernel
theorem dX9_copy_155 : decode cX9_copy 155 = .ok (.iload 7, 2) := by decide +kernel
theorem dX9_copy_157 : decode cX9_copy 157 = .ok (.goto 10, 3) := by decide +kernel
theorem dX9_copy_160 : decode cX9_copy 160 = .ok (.iload 5, 2) := by decide +kernel
theorem dX9_copy_162 : decode cX9_copy 162 = .ok (.iconst 1, 1) := by decide +kernel
theorem dX9_copy_163 : decode cX9_copy 163 = .ok (.isub, 1) := by decide +kernel
theorem dX9_copy_164 : decode cX9_copy 164 = .ok (.iload 7, 2) := by decide +kernel
theorem dX9_copy_166 : decode cX9_copy 166 = .ok (.isub, 1) := by decide +kernel
theorem dX9_copy_167 : decode cX9_copy 167 = .ok (.istore 8, 2) := by decide +kernel
theorem dX9_copy_169 : decode cX9_copy 169 = .ok (.aload_n 0, 1) := by decide +kernel
theorem dX9_copy_170 : decode cX9_copy 170 = .ok (.getfield 16, 3) := by decide +kernel
theorem dX9_copy_173 : decode cX9_copy 173 = .ok (.bipush 40, 2) := by decide +kernel
theorem dX9_copy_175 : decode cX9_copy 175 = .ok (.iload_n 3, 1) := by decide +kernel
theorem dX9_copy_176 : decode cX9_copy 176 = .ok (.imul, 1) := by decide +kernel
theorem dX9_copy_177 : decode cX9_copy 177 = .ok (.iload 4, 2) := by decide +kernel
theorem dX9_copy_179 : decode cX9_copy 179 = .ok (.iadd, 1) := by decide +kernel
theorem dX9_copy_180 : decode cX9_copy 180 = .ok (.iload 8, 2) := by decide +kernel
theorem dX9_copy_182 : decode cX9_copy 182 = .ok (.iadd, 1) := by decide +kernel
theorem dX9_copy_183 : decode cX9_copy 183 = .ok (.aload_n 0, 1) := by decide +kernel
theorem dX9_copy_184 : decode cX9_copy 184 = .ok (.getfield 16, 3) := by decide +kernel
theorem dX9_copy_187 : decode cX9_copy 187 = .ok (.bipush 40, 2) := by decide +kernel
theorem dX9_copy_189 : decode cX9_copy 189 = .ok (.iload_n 1, 1) := by decide +kernel
theorem dX9_copy_190 : decode cX9_copy 190 = .ok (.imul, 1) := by decide +kernel
theorem dX9_copy_191 : decode cX9_copy 191 = .ok (.iload_n 2, 1) := by decide +kernel
theorem dX9_copy_192 : decode cX9_copy 192 = .ok (.iadd, 1) := by decide +kernel
theorem dX9_copy_193 : decode cX9_copy 193 = .ok (.iload 8, 2) := by decide +kernel
theorem dX9_copy_195 : decode cX9_copy 195 = .ok (.iadd, 1) := by decide +kernel
theorem dX9_copy_196 : decode cX9_copy 196 = .ok (.iaload, 1) := by decide +kernel
theorem dX9_copy_197 : decode cX9_copy 197 = .ok (.iastore, 1) := by decide +kernel
theorem dX9_copy_198 : decode cX9_copy 198 = .ok (.iinc 7 1, 3) := by decide +kernel
theorem dX9_copy_201 : decode cX9_copy 201 = .ok (.goto (-58), 3) := by decide +kernel
theorem dX9_copy_204 : decode cX9_copy 204 = .ok (.iload 5, 2) := by decide +kernel
theorem dX9_copy_206 : decode cX9_copy 206 = .ok (.ireturn, 1) := by decide +kernel
theorem dX9_drop_0 : decode cX9_drop 0 = .ok (.aload_n 0, 1) := by decide +kernel
theorem dX9_drop_1 : decode cX9_drop 1 = .ok (.iconst 0, 1) := by decide +kernel
theorem dX9_drop_2 : decode cX9_drop 2 = .ok (.putfield 71, 3) := by decide +kernel
theorem dX9_drop_5 : decode cX9_drop 5 = .ok (.iload_n 1, 1) := by decide +kernel
theorem dX9_drop_6 : decode cX9_drop 6 = .ok (.invokestatic 85, 3) := by decide +kernel
theorem dX9_drop_9 : decode cX9_drop 9 = .ok (.ifCond .ne 6, 3) := by decide +kernel
theorem dX9_drop_12 : decode cX9_drop 12 = .ok (.ldc 91, 2) := by decide +kernel
theorem dX9_drop_14 : decode cX9_drop 14 = .ok (.ireturn, 1) := by decide +kernel
theorem dX9_drop_15 : decode cX9_drop 15 = .ok (.aload_n 0, 1) := by decide +kernel
theorem dX9_drop_16 : decode cX9_drop 16 = .ok (.iconst 0, 1) := by decide +kernel
theorem dX9_drop_17 : decode cX9_drop 17 = .ok (.putfield 75, 3) := by decide +kernel
theorem dX9_drop_20 : decode cX9_drop 20 = .ok (.aload_n 0, 1) := by decide +kernel
theorem dX9_drop_21 : decode cX9_drop 21 = .ok (.getfield 7, 3) := by decide +kernel
theorem dX9_drop_24 : decode cX9_drop 24 = .ok (.iload_n 1, 1) := by decide +kernel
theorem dX9_drop_25 : decode cX9_drop 25 = .ok (.iaload, 1) := by decide +kernel
theorem dX9_drop_26 : decode cX9_drop 26 = .ok (.ifCond .ge 9, 3) := by decide +kernel
theorem dX9_drop_29 : decode cX9_drop 29 = .ok (.aload_n 0, 1) := by decide +kernel
theorem dX9_drop_30 : decode cX9_drop 30 = .ok (.iconst 1, 1) := by decide +kernel
theorem dX9_drop_31 : decode cX9_drop 31 = .ok (.invokevirtual 92, 3) := by decide +kernel
theorem dX9_drop_34 : decode cX9_drop 34 = .ok (.ireturn, 1) := by decide +kernel
theorem dX9_drop_35 : decode cX9_drop 35 = .ok (.aload_n 0, 1) := by decide +kernel
theorem dX9_drop_36 : decode cX9_drop 36 = .ok (.getfield 7, 3) := by decide +kernel
theorem dX9_drop_39 : decode cX9_drop 39 = .ok (.iload_n 1, 1) := by decide +kernel
theorem dX9_drop_40 : decode cX9_drop 40 = .ok (.iconst (-1), 1) := by decide +kernel
theorem dX9_drop_41 : decode cX9_drop 41 = .ok (.iastore, 1) := by decide +kernel
theorem dX9_drop_42 : decode cX9_drop 42 = .ok (.aload_n 0, 1) := by decide +kernel
theorem dX9_drop_43 : decode cX9_drop 43 = .ok (.getfield 13, 3) := by decide +kernel
theorem dX9_drop_46 : decode cX9_drop 46 = .ok (.iload_n 1, 1) := by decide +kernel
theorem dX9_drop_47 : decode cX9_drop 47 = .ok (.iaload, 1) := by decide +kernel
theorem dX9_drop_48 : decode cX9_drop 48 = .ok (.ireturn, 1) := by decide +kernel
theorem dX9_feed_0 : decode cX9_feed 0 = .ok (.aload_n 0, 1) := by decide +kernel
theorem dX9_feed_1 : decode cX9_feed 1 = .ok (.iconst 0, 1) := by decide +kernel
theorem dX9_feed_2 : decode cX9_feed 2 = .ok (.putfield 71, 3) := by decide +kernel
theorem dX9_feed_5 : decode cX9_feed 5 = .ok (.iload_n 3, 1) := by decide +kernel
theorem dX9_feed_6 : decode cX9_feed 6 = .ok (.i2l, 1) := by decide +kernel
theorem dX9_feed_7 : decode cX9_feed 7 = .ok (.lconst 1, 1) := by decide +kernel
theorem dX9_feed_8 : decode cX9_feed 8 = .ok (.ldc2_w 96, 3) := by decide +kernel
theorem dX9_feed_11 : decode cX9_feed 11 = .ok (.invokestatic 81, 3) := by decide +kernel
theorem dX9_feed_14 : decode cX9_feed 14 = .ok (.ifCond .ne 6, 3) := by decide +kernel
theorem dX9_feed_17 : decode cX9_feed 17 = .ok (.ldc 91, 2) := by decide +kernel
theorem dX9_feed_19 : decode cX9_feed 19 = .ok (.ireturn, 1) := by decide +kernel
theorem dX9_feed_20 : decode cX9_feed 20 = .ok (.aload_n 0, 1) := by decide +kernel
theorem dX9_feed_21 : decode cX9_feed 21 = .ok (.getfield 98, 3) := by decide +kernel
theorem dX9_feed_24 : decode cX9_feed 24 = .ok (.iload_n 3, 1) := by decide +kernel
theorem dX9_feed_25 : decode cX9_feed 25 = .ok (.iadd, 1) := by decide +kernel
theorem dX9_feed_26 : decode cX9_feed 26 = .ok (.sipush 500, 3) := by decide +kernel
theorem dX9_feed_29 : decode cX9_feed 29 = .ok (.if_icmp .le 6, 3) := by decide +kernel
theorem dX9_feed_32 : decode cX9_feed 32 = .ok (.ldc 101, 2) := by decide +kernel
theorem dX9_feed_34 : decode cX9_feed 34 = .ok (.ireturn, 1) := by decide +kernel
theorem dX9_feed_35 : decode cX9_feed 35 = .ok (.iload_n 3, 1) := by decide +kernel
theorem dX9_feed_36 : decode cX9_feed 36 = .ok (.iconst 1, 1) := by decide +kernel
theorem dX9_feed_37 : decode cX9_feed 37 = .ok (.isub, 1) := by decide +kernel
theorem dX9_feed_38 : decode cX9_feed 38 = .ok (.istore 4, 2) := by decide +kernel
theorem dX9_feed_40 : decode cX9_feed 40 = .ok (.iload 4, 2) := by decide +kernel
theorem dX9_feed_42 : decode cX9_feed 42 = .ok (.ifCond .lt 40, 3) := by decide +kernel
theorem dX9_feed_45 : decode cX9_feed 45 = .ok (.aload_n 0, 1) := by decide +kernel
theorem dX9_feed_46 : decode cX9_feed 46 = .ok (.getfield 37, 3) := by decide +kernel
theorem dX9_feed_49 : decode cX9_feed 49 = .ok (.aload_n 0, 1) := by decide +kernel
theorem dX9_feed_50 : decode cX9_feed 50 = .ok (.getfield 98, 3) := by decide +kernel
theorem dX9_feed_53 : decode cX9_feed 53 = .ok (.lload_n 1, 1) := by decide +kernel
theorem dX9_feed_54 : decode cX9_feed 54 = .ok (.bipush 8, 2) := by decide +kernel
theorem dX9_feed_56 : decode cX9_feed 56 = .ok (.iload 4, 2) := by decide +kernel
theorem dX9_feed_58 : decode cX9_feed 58 = .ok (.imul, 1) := by decide +kernel
theorem dX9_feed_59 : decode cX9_feed 59 = .ok (.lshr, 1) := by decide +kernel
theorem dX9_feed_60 : decode cX9_feed 60 = .ok (.ldc2_w 102, 3) := by decide +kernel
theorem dX9_feed_63 : decode cX9_feed 63 = .ok (.land, 1) := by decide +kernel
theorem dX9_feed_64 : decode cX9_feed 64 = .ok (.l2i, 1) := by decide +kernel
theorem dX9_feed_65 : decode cX9_feed 65 = .ok (.iastore, 1) := by decide +kernel
theorem dX9_feed_66 : decode cX9_feed 66 = .ok (.aload_n 0, 1) := by decide +kernel
theorem dX9_feed_67 : decode cX9_feed 67 = .ok (.dup, 1) := by decide +kernel
theorem dX9_feed_68 : decode cX9_feed 68 = .ok (.getfield 98, 3) := by decide +kernel
theorem dX9_feed_71 : decode cX9_feed 71 = .ok (.iconst 1, 1) := by decide +kernel
theorem dX9_feed_72 : decode cX9_feed 72 = .ok (.iadd, 1) := by decide +kernel
theorem dX9_feed_73 : decode cX9_feed 73 = .ok (.putfield 98, 3) := by decide +kernel
theorem dX9_feed_76 : decode cX9_feed 76 = .ok (.iinc 4 (-1), 3) := by decide +kernel
theorem dX9_feed_79 : decode cX9_feed 79 = .ok (.goto (-39), 3) := by decide +kernel
theorem dX9_feed_82 : decode cX9_feed 82 = .ok (.aload_n 0, 1) := by decide +kernel
theorem dX9_feed_83 : decode cX9_feed 83 = .ok (.getfield 98, 3) := by decide +kernel
theorem dX9_feed_86 : decode cX9_feed 86 = .ok (.ireturn, 1) := by decide +kernel
theorem dX9_byteAt_0 : decode cX9_byteAt 0 = .ok (.iload_n 1, 1) := by decide +kernel
theorem dX9_byteAt_1 : decode cX9_byteAt 1 = .ok (.aload_n 0, 1) := by decide +kernel
theorem dX9_byteAt_2 : decode cX9_byteAt 2 = .ok (.getfield 104, 3) := by decide +kernel
theorem dX9_byteAt_5 : decode cX9_byteAt 5 = .ok (.if_icmp .ge 12, 3) := by decide +kernel
theorem dX9_byteAt_8 : decode cX9_byteAt 8 = .ok (.aload_n 0, 1) := by decide +kernel
theorem dX9_byteAt_9 : decode cX9_byteAt 9 = .ok (.getfield 37, 3) := by decide +kernel
theorem dX9_byteAt_12 : decode cX9_byteAt 12 = .ok (.iload_n 1, 1) := by decide +kernel
theorem dX9_byteAt_13 : decode cX9_byteAt 13 = .ok (.iaload, 1) := by decide +kernel
theorem dX9_byteAt_14 : decode cX9_byteAt 14 = .ok (.goto 5, 3) := by decide +kernel
theorem dX9_byteAt_17 : decode cX9_byteAt 17 = .ok (.ldc 107, 2) := by decide +kernel
theorem dX9_byteAt_19 : decode cX9_byteAt 19 = .ok (.ireturn, 1) := by decide +kernel
theorem dX9_isLetter_0 : decode cX9_isLetter 0 = .ok (.iload_n 0, 1) := by decide +kernel
theorem dX9_isLetter_1 : decode cX9_isLetter 1 = .ok (.bipush 97, 2) := by decide +kernel
theorem dX9_isLetter_3 : decode cX9_isLetter 3 = .ok (.if_icmp .lt 13, 3) := by decide +kernel
theorem dX9_isLetter_6 : decode cX9_isLetter 6 = .ok (.iload_n 0, 1) := by decide +kernel
theorem dX9_isLetter_7 : decode cX9_isLetter 7 = .ok (.bipush 122, 2) := by decide +kernel
theorem dX9_isLetter_9 : decode cX9_isLetter 9 = .ok (.if_icmp .gt 7, 3) := by decide +kernel
theorem dX9_isLetter_12 : decode cX9_isLetter 12 = .ok (.iconst 1, 1) := by decide +kernel
theorem dX9_isLetter_13 : decode cX9_isLetter 13 = .ok (.goto 4, 3) := by decide +kernel
theorem dX9_isLetter_16 : decode cX9_isLetter 16 = .ok (.iconst 0, 1) := by decide +kernel
theorem dX9_isLetter_17 : decode cX9_isLetter 17 = .ok (.ireturn, 1) := by decide +kernel
theorem dX9_isFigure_0 : decode cX9_isFigure 0 = .ok (.iload_n 0, 1) := by decide +kernel
theorem dX9_isFigure_1 : decode cX9_isFigure 1 = .ok (.bipush 48, 2) := by decide +kernel
theorem dX9_isFigure_3 : decode cX9_isFigure 3 = .ok (.if_icmp .lt 13, 3) := by decide +kernel
theorem dX9_isFigure_6 : decode cX9_isFigure 6 = .ok (.iload_n 0, 1) := by decide +kernel
theorem dX9_isFigure_7 : decode cX9_isFigure 7 = .ok (.bipush 57, 2) := by decide +kernel
theorem dX9_isFigure_9 : decode cX9_isFigure 9 = .ok (.if_icmp .gt 7, 3) := by decide +kernel
theorem dX9_isFigure_12 : decode cX9_isFigure 12 = .ok (.iconst 1, 1) := by decide +kernel
theorem dX9_isFigure_13 : decode cX9_isFigure 13 = .ok (.goto 4, 3) := by decide +kernel
theorem dX9_isFigure_16 : decode cX9_isFigure 16 = .ok (.iconst 0, 1) := by decide +kernel
theorem dX9_isFigure_17 : decode cX9_isFigure 17 = .ok (.ireturn, 1) := by decide +kernel
theorem dX9_next_0 : decode cX9_next 0 = .ok (.aload_n 0, 1) := by decide +kernel
theorem dX9_next_1 : decode cX9_next 1 = .ok (.aload_n 0, 1) := by decide +kernel
theorem dX9_next_2 : decode cX9_next 2 = .ok (.getfield 108, 3) := by decide +kernel
theorem dX9_next_5 : decode cX9_next 5 = .ok (.invokevirtual 111, 3) := by decide +kernel
theorem dX9_next_8 : decode cX9_next 8 = .ok (.bipush 32, 2) := by decide +kernel
theorem dX9_next_10 : decode cX9_next 10 = .ok (.if_icmp .eq 16, 3) := by decide +kernel
theorem dX9_next_13 : decode cX9_next 13 = .ok (.aload_n 0, 1) := by decide +kernel
theorem dX9_next_14 : decode cX9_next 14 = .ok (.aload_n 0, 1) := by decide +kernel
theorem dX9_next_15 : decode cX9_next 15 = .ok (.getfield 108, 3) := by decide +kernel
theorem dX9_next_18 : decode cX9_next 18 = .ok (.invokevirtual 111, 3) := by decide +kernel
theorem dX9_next_21 : decode cX9_next 21 = .ok (.bipush 10, 2) := by decide +kernel
theorem dX9_next_23 : decode cX9_next 23 = .ok (.if_icmp .ne 16, 3) := by decide +kernel
theorem dX9_next_26 : decode cX9_next 26 = .ok (.aload_n 0, 1) := by decide +kernel
theorem dX9_next_27 : decode cX9_next 27 = .ok (.dup, 1) := by decide +kernel
theorem dX9_next_28 : decode cX9_next 28 = .ok (.getfield 108, 3) := by decide +kernel
theorem dX9_next_31 : decode cX9_next 31 = .ok (.iconst 1, 1) := by decide +kernel
theorem dX9_next_32 : decode cX9_next 32 = .ok (.iadd, 1) := by decide +kernel
theorem dX9_next_33 : decode cX9_next 33 = .ok (.putfield 108, 3) := by decide +kernel
theorem dX9_next_36 : decode cX9_next 36 = .ok (.goto (-36), 3) := by decide +kernel
theorem dX9_next_39 : decode cX9_next 39 = .ok (.aload_n 0, 1) := by decide +kernel
theorem dX9_next_40 : decode cX9_next 40 = .ok (.aload_n 0, 1) := by decide +kernel
theorem dX9_next_41 : decode cX9_next 41 = .ok (.getfield 108, 3) := by decide +kernel
theorem dX9_next_44 : decode cX9_next 44 = .ok (.putfield 114, 3) := by decide +kernel
theorem dX9_next_47 : decode cX9_next 47 = .ok (.aload_n 0, 1) := by decide +kernel
theorem dX9_next_48 : decode cX9_next 48 = .ok (.aload_n 0, 1) := by decide +kernel
theorem dX9_next_49 : decode cX9_next 49 = .ok (.getfield 108, 3) := by decide +kernel
theorem dX9_next_52 : decode cX9_next 52 = .ok (.invokevirtual 111, 3) := by decide +kernel
theorem dX9_next_55 : decode cX9_next 55 = .ok (.istore_n 1, 1) := by decide +kernel
theorem dX9_next_56 : decode cX9_next 56 = .ok (.iload_n 1, 1) := by decide +kernel
theorem dX9_next_57 : decode cX9_next 57 = .ok (.ldc 107, 2) := by decide +kernel
theorem dX9_next_59 : decode cX9_next 59 = .ok (.if_icmp .ne 11, 3) := by decide +kernel
theorem dX9_next_62 : decode cX9_next 62 = .ok (.aload_n 0, 1) := by decide +kernel
theorem dX9_next_63 : decode cX9_next 63 = .ok (.iconst 1, 1) := by decide +kernel
theorem dX9_next_64 : decode cX9_next 64 = .ok (.putfield 117, 3) := by decide +kernel
theorem dX9_next_67 : decode cX9_next 67 = .ok (.goto 129, 3) := by decide +kernel
theorem dX9_next_70 : decode cX9_next 70 = .ok (.iload_n 1, 1) := by decide +kernel
theorem dX9_next_71 : decode cX9_next 71 = .ok (.invokestatic 120, 3) := by decide +kernel
theorem dX9_next_74 : decode cX9_next 74 = .ok (.ifCond .eq 38, 3) := by decide +kernel
theorem dX9_next_77 : decode cX9_next 77 = .ok (.aload_n 0, 1) := by decide +kernel
theorem dX9_next_78 : decode cX9_next 78 = .ok (.aload_n 0, 1) := by decide +kernel
theorem dX9_next_79 : decode cX9_next 79 = .ok (.getfield 108, 3) := by decide +kernel
theorem dX9_next_82 : decode cX9_next 82 = .ok (.invokevirtual 111, 3) := by decide +kernel
theorem dX9_next_85 : decode cX9_next 85 = .ok (.invokestatic 120, 3) := by decide +kernel
theorem dX9_next_88 : decode cX9_next 88 = .ok (.ifCond .eq 16, 3) := by decide +kernel
theorem dX9_next_91 : decode cX9_next 91 = .ok (.aload_n 0, 1) := by decide +kernel
theorem dX9_next_92 : decode cX9_next 92 = .ok (.dup, 1) := by decide +kernel
theorem dX9_next_93 : decode cX9_next 93 = .ok (.getfield 108, 3) := by decide +kernel
theorem dX9_next_96 : decode cX9_next 96 = .ok (.iconst 1, 1) := by decide +kernel
theorem dX9_next_97 : decode cX9_next 97 = .ok (.iadd, 1) := by decide +kernel
theorem dX9_next_98 : decode cX9_next 98 = .ok (.putfield 108, 3) := by decide +kernel
theorem dX9_next_101 : decode cX9_next 101 = .ok (.goto (-24), 3) := by decide +kernel
theorem dX9_next_104 : decode cX9_next 104 = .ok (.aload_n 0, 1) := by decide +kernel
theorem dX9_next_105 : decode cX9_next 105 = .ok (.iconst 2, 1) := by decide +kernel
theorem dX9_next_106 : decode cX9_next 106 = .ok (.putfield 117, 3) := by decide +kernel
theorem dX9_next_109 : decode cX9_next 109 = .ok (.goto 87, 3) := by decide +kernel
theorem dX9_next_112 : decode cX9_next 112 = .ok (.iload_n 1, 1) := by decide +kernel
theorem dX9_next_113 : decode cX9_next 113 = .ok (.invokestatic 123, 3) := by decide +kernel
theorem dX9_next_116 : decode cX9_next 116 = .ok (.ifCond .eq 55, 3) := by decide +kernel
theorem dX9_next_119 : decode cX9_next 119 = .ok (.aload_n 0, 1) := by decide +kernel
theorem dX9_next_120 : decode cX9_next 120 = .ok (.aload_n 0, 1) := by decide +kernel
theorem dX9_next_121 : decode cX9_next 121 = .ok (.getfield 108, 3) := by decide +kernel
theorem dX9_next_124 : decode cX9_next 124 = .ok (.invokevirtual 111, 3) := by decide +kernel
theorem dX9_next_127 : decode cX9_next 127 = .ok (.invokestatic 123, 3) := by decide +kernel
theorem dX9_next_130 : decode cX9_next 130 = .ok (.ifCond .eq 16, 3) := by decide +kernel
theorem dX9_next_133 : decode cX9_next 133 = .ok (.aload_n 0, 1) := by decide +kernel
theorem dX9_next_134 : decode cX9_next 134 = .ok (.dup, 1) := by decide +kernel
theorem dX9_next_135 : decode cX9_next 135 = .ok (.getfield 108, 3) := by decide +kernel
theorem dX9_next_138 : decode cX9_next 138 = .ok (.iconst 1, 1) := by decide +kernel
theorem dX9_next_139 : decode cX9_next 139 = .ok (.iadd, 1) := by decide +kernel
theorem dX9_next_140 : decode cX9_next 140 = .ok (.putfield 108, 3) := by decide +kernel
theorem dX9_next_143 : decode cX9_next 143 = .ok (.goto (-24), 3) := by decide +kernel
theorem dX9_next_146 : decode cX9_next 146 = .ok (.aload_n 0, 1) := by decide +kernel
theorem dX9_next_147 : decode cX9_next 147 = .ok (.aload_n 0, 1) := by decide +kernel
theorem dX9_next_148 : decode cX9_next 148 = .ok (.getfield 108, 3) := by decide +kernel
theorem dX9_next_151 : decode cX9_next 151 = .ok (.aload_n 0, 1) := by decide +kernel
theorem dX9_next_152 : decode cX9_next 152 = .ok (.getfield 114, 3) := by decide +kernel
theorem dX9_next_155 : decode cX9_next 155 = .ok (.isub, 1) := by decide +kernel
theorem dX9_next_156 : decode cX9_next 156 = .ok (.iconst 2, 1) := by decide +kernel
theorem dX9_next_157 : decode cX9_next 157 = .ok (.if_icmp .le 7, 3) := by decide +kernel
theorem dX9_next_160 : decode cX9_next 160 = .ok (.iconst 0, 1) := by decide +kernel
theorem dX9_next_161 : decode cX9_next 161 = .ok (.goto 4, 3) := by decide +kernel
theorem dX9_next_164 : decode cX9_next 164 = .ok (.iconst 3, 1) := by decide +kernel
theorem dX9_next_165 : decode cX9_next 165 = .ok (.putfield 117, 3) := by decide +kernel
theorem dX9_next_168 : decode cX9_next 168 = .ok (.goto 28, 3) := by decide +kernel
theorem dX9_next_171 : decode cX9_next 171 = .ok (.aload_n 0, 1) := by decide +kernel
theorem dX9_next_172 : decode cX9_next 172 = .ok (.dup, 1) := by decide +kernel
theorem dX9_next_173 : decode cX9_next 173 = .ok (.getfield 108, 3) := by decide +kernel
theorem dX9_next_176 : decode cX9_next 176 = .ok (.iconst 1, 1) := by decide +kernel
theorem dX9_next_177 : decode cX9_next 177 = .ok (.iadd, 1) := by decide +kernel
theorem dX9_next_178 : decode cX9_next 178 = .ok (.putfield 108, 3) := by decide +kernel
theorem dX9_next_181 : decode cX9_next 181 = .ok (.aload_n 0, 1) := by decide +kernel
theorem dX9_next_182 : decode cX9_next 182 = .ok (.iload_n 1, 1) := by decide +kernel
theorem dX9_next_183 : decode cX9_next 183 = .ok (.bipush 59, 2) := by decide +kernel
theorem dX9_next_185 : decode cX9_next 185 = .ok (.if_icmp .ne 7, 3) := by decide +kernel
theorem dX9_next_188 : decode cX9_next 188 = .ok (.iconst 4, 1) := by decide +kernel
theorem dX9_next_189 : decode cX9_next 189 = .ok (.goto 4, 3) := by decide +kernel
theorem dX9_next_192 : decode cX9_next 192 = .ok (.iconst 0, 1) := by decide +kernel
theorem dX9_next_193 : decode cX9_next 193 = .ok (.putfield 117, 3) := by decide +kernel
theorem dX9_next_196 : decode cX9_next 196 = .ok (.aload_n 0, 1) := by decide +kernel
theorem dX9_next_197 : decode cX9_next 197 = .ok (.aload_n 0, 1) := by decide +kernel
theorem dX9_next_198 : decode cX9_next 198 = .ok (.getfield 108, 3) := by decide +kernel
theorem dX9_next_201 : decode cX9_next 201 = .ok (.putfield 126, 3) := by decide +kernel
theorem dX9_next_204 : decode cX9_next 204 = .ok (.return_, 1) := by decide +kernel
theorem dX9_bad_0 : decode cX9_bad 0 = .ok (.aload_n 0, 1) := by decide +kernel
theorem dX9_bad_1 : decode cX9_bad 1 = .ok (.getfield 129, 3) := by decide +kernel
theorem dX9_bad_4 : decode cX9_bad 4 = .ok (.ifCond .ne 16, 3) := by decide +kernel
theorem dX9_bad_7 : decode cX9_bad 7 = .ok (.aload_n 0, 1) := by decide +kernel
theorem dX9_bad_8 : decode cX9_bad 8 = .ok (.iload_n 1, 1) := by decide +kernel
theorem dX9_bad_9 : decode cX9_bad 9 = .ok (.putfield 129, 3) := by decide +kernel
theorem dX9_bad_12 : decode cX9_bad 12 = .ok (.aload_n 0, 1) := by decide +kernel
theorem dX9_bad_13 : decode cX9_bad 13 = .ok (.aload_n 0, 1) := by decide +kernel
theorem dX9_bad_14 : decode cX9_bad 14 = .ok (.getfield 114, 3) := by decide +kernel
theorem dX9_bad_17 : decode cX9_bad 17 = .ok (.putfield 132, 3) := by decide +kernel
theorem dX9_bad_20 : decode cX9_bad 20 = .ok (.return_, 1) := by decide +kernel
theorem dX9_must_0 : decode cX9_must 0 = .ok (.iload_n 1, 1) := by decide +kernel
theorem dX9_must_1 : decode cX9_must 1 = .ok (.ifCond .ne 8, 3) := by decide +kernel
theorem dX9_must_4 : decode cX9_must 4 = .ok (.aload_n 0, 1) := by decide +kernel
theorem dX9_must_5 : decode cX9_must 5 = .ok (.iconst 1, 1) := by decide +kernel
theorem dX9_must_6 : decode cX9_must 6 = .ok (.invokevirtual 135, 3) := by decide +kernel
theorem dX9_must_9 : decode cX9_must 9 = .ok (.aload_n 0, 1) := by decide +kernel
theorem dX9_must_10 : decode cX9_must 10 = .ok (.getfield 129, 3) := by decide +kernel
theorem dX9_must_13 : decode cX9_must 13 = .ok (.ifCond .ne 7, 3) := by decide +kernel
theorem dX9_must_16 : decode cX9_must 16 = .ok (.aload_n 0, 1) := by decide +kernel
theorem dX9_must_17 : decode cX9_must 17 = .ok (.invokevirtual 139, 3) := by decide +kernel
theorem dX9_must_20 : decode cX9_must 20 = .ok (.return_, 1) := by decide +kernel
theorem dX9_word_0 : decode cX9_word 0 = .ok (.lconst 0, 1) := by decide +kernel
theorem dX9_word_1 : decode cX9_word 1 = .ok (.lstore_n 1, 1) := by decide +kernel
theorem dX9_word_2 : decode cX9_word 2 = .ok (.aload_n 0, 1) := by decide +kernel
theorem dX9_word_3 : decode cX9_word 3 = .ok (.getfield 114, 3) := by decide +kernel
theorem dX9_word_6 : decode cX9_word 6 = .ok (.istore_n 3, 1) := by decide +kernel
theorem dX9_word_7 : decode cX9_word 7 = .ok (.iload_n 3, 1) := by decide +kernel
theorem dX9_word_8 : decode cX9_word 8 = .ok (.aload_n 0, 1) := by decide +kernel
theorem dX9_word_9 : decode cX9_word 9 = .ok (.getfield 126, 3) := by decide +kernel
theorem dX9_word_12 : decode cX9_word 12 = .ok (.if_icmp .ge 44, 3) := by decide +kernel
theorem dX9_word_15 : decode cX9_word 15 = .ok (.aload_n 0, 1) := by decide +kernel
theorem dX9_word_16 : decode cX9_word 16 = .ok (.getfield 117, 3) := by decide +kernel
theorem dX9_word_19 : decode cX9_word 19 = .ok (.iconst 2, 1) := by decide +kernel
theorem dX9_word_20 : decode cX9_word 20 = .ok (.if_icmp .ne 36, 3) := by decide +kernel
theorem dX9_word_23 : decode cX9_word 23 = .ok (.aload_n 0, 1) := by decide +kernel
theorem dX9_word_24 : decode cX9_word 24 = .ok (.getfield 126, 3) := by decide +kernel
theorem dX9_word_27 : decode cX9_word 27 = .ok (.aload_n 0, 1) := by decide +kernel
theorem dX9_word_28 : decode cX9_word 28 = .ok (.getfield 114, 3) := by decide +kernel
theorem dX9_word_31 : decode cX9_word 31 = .ok (.isub, 1) := by decide +kernel
theorem dX9_word_32 : decode cX9_word 32 = .ok (.bipush 8, 2) := by decide +kernel
theorem dX9_word_34 : decode cX9_word 34 = .ok (.if_icmp .ge 22, 3) := by decide +kernel
theorem dX9_word_37 : decode cX9_word 37 = .ok (.lload_n 1, 1) := by decide +kernel
theorem dX9_word_38 : decode cX9_word 38 = .ok (.bipush 8, 2) := by decide +kernel
theorem dX9_word_40 : decode cX9_word 40 = .ok (.lshl, 1) := by decide +kernel
theorem dX9_word_41 : decode cX9_word 41 = .ok (.aload_n 0, 1) := by decide +kernel
theorem dX9_word_42 : decode cX9_word 42 = .ok (.getfield 37, 3) := by decide +kernel
theorem dX9_word_45 : decode cX9_word 45 = .ok (.iload_n 3, 1) := by decide +kernel
theorem dX9_word_46 : decode cX9_word 46 = .ok (.iaload, 1) := by decide +kernel
theorem dX9_word_47 : decode cX9_word 47 = .ok (.i2l, 1) := by decide +kernel
theorem dX9_word_48 : decode cX9_word 48 = .ok (.lor, 1) := by decide +kernel
theorem dX9_word_49 : decode cX9_word 49 = .ok (.lstore_n 1, 1) := by decide +kernel
theorem dX9_word_50 : decode cX9_word 50 = .ok (.iinc 3 1, 3) := by decide +kernel
theorem dX9_word_53 : decode cX9_word 53 = .ok (.goto (-46), 3) := by decide +kernel
theorem dX9_word_56 : decode cX9_word 56 = .ok (.aload_n 0, 1) := by decide +kernel
theorem dX9_word_57 : decode cX9_word 57 = .ok (.getfield 129, 3) := by decide +kernel
theorem dX9_word_60 : decode cX9_word 60 = .ok (.ifCond .ne 7, 3) := by decide +kernel
theorem dX9_word_63 : decode cX9_word 63 = .ok (.lload_n 1, 1) := by decide +kernel
theorem dX9_word_64 : decode cX9_word 64 = .ok (.goto 4, 3) := by decide +kernel
theorem dX9_word_67 : decode cX9_word 67 = .ok (.lconst 0, 1) := by decide +kernel
theorem dX9_word_68 : decode cX9_word 68 = .ok (.lreturn, 1) := by decide +kernel
theorem dX9_numberIn_0 : decode cX9_numberIn 0 = .ok (.aload_n 0, 1) := by decide +kernel
theorem dX9_numberIn_1 : decode cX9_numberIn 1 = .ok (.getfield 129, 3) := by decide +kernel
theorem dX9_numberIn_4 : decode cX9_numberIn 4 = .ok (.ifCond .le 5, 3) := by decide +kernel
theorem dX9_numberIn_7 : decode cX9_numberIn 7 = .ok (.iconst 0, 1) := by decide +kernel
theorem dX9_numberIn_8 : decode cX9_numberIn 8 = .ok (.ireturn, 1) := by decide +kernel
theorem dX9_numberIn_9 : decode cX9_numberIn 9 = .ok (.iconst 0, 1) := by decide +kernel
theorem dX9_numberIn_10 : decode cX9_numberIn 10 = .ok (.istore 4, 2) := by decide +kernel
theorem dX9_numberIn_12 : decode cX9_numberIn 12 = .ok (.aload_n 0, 1) := by decide +kernel
theorem dX9_numberIn_13 : decode cX9_numberIn 13 = .ok (.getfield 114, 3) := by decide +kernel
theorem dX9_numberIn_16 : decode cX9_numberIn 16 = .ok (.istore 5, 2) := by decide +kernel
theorem dX9_numberIn_18 : decode cX9_numberIn 18 = .ok (.iload 5, 2) := by decide +kernel
theorem dX9_numberIn_20 : decode cX9_numberIn 20 = .ok (.aload_n 0, 1) := by decide +kernel
theorem dX9_numberIn_21 : decode cX9_numberIn 21 = .ok (.getfield 126, 3) := by decide +kernel
theorem dX9_numberIn_24 : decode cX9_numberIn 24 = .ok (.if_icmp .ge 35, 3) := by decide +kernel
theorem dX9_numberIn_27 : decode cX9_numberIn 27 = .ok (.aload_n 0, 1) := by decide +kernel
theorem dX9_numberIn_28 : decode cX9_numberIn 28 = .ok (.getfield 117, 3) := by decide +kernel
theorem dX9_numberIn_31 : decode cX9_numberIn 31 = .ok (.iconst 3, 1) := by decide +kernel
theorem dX9_numberIn_32 : decode cX9_numberIn 32 = .ok (.if_icmp .ne 27, 3) := by decide +kernel
theorem dX9_numberIn_35 : decode cX9_numberIn 35 = .ok (.bipush 10, 2) := by decide +kernel
theorem dX9_numberIn_37 : decode cX9_numberIn 37 = .ok (.iload 4, 2) := by decide +kernel
theorem dX9_numberIn_39 : decode cX9_numberIn 39 = .ok (.imul, 1) := by decide +kernel
theorem dX9_numberIn_40 : decode cX9_numberIn 40 = .ok (.aload_n 0, 1) := by decide +kernel
theorem dX9_numberIn_41 : decode cX9_numberIn 41 = .ok (.getfield 37, 3) := by decide +kernel
theorem dX9_numberIn_44 : decode cX9_numberIn 44 = .ok (.iload 5, 2) := by decide +kernel
theorem dX9_numberIn_46 : decode cX9_numberIn 46 = .ok (.iaload, 1) := by decide +kernel
theorem dX9_numberIn_47 : decode cX9_numberIn 47 = .ok (.iadd, 1) := by decide +kernel
theorem dX9_numberIn_48 : decode cX9_numberIn 48 = .ok (.bipush 48, 2) := by decide +kernel
theorem dX9_numberIn_50 : decode cX9_numberIn 50 = .ok (.isub, 1) := by decide +kernel
theorem dX9_numberIn_51 : decode cX9_numberIn 51 = .ok (.istore 4, 2) := by decide +kernel
theorem dX9_numberIn_53 : decode cX9_numberIn 53 = .ok (.iinc 5 1, 3) := by decide +kernel
theorem dX9_numberIn_56 : decode cX9_numberIn 56 = .ok (.goto (-38), 3) := by decide +kernel
theorem dX9_numberIn_59 : decode cX9_numberIn 59 = .ok (.aload_n 0, 1) := by decide +kernel
theorem dX9_numberIn_60 : decode cX9_numberIn 60 = .ok (.getfield 117, 3) := by decide +kernel
theorem dX9_numberIn_63 : decode cX9_numberIn 63 = .ok (.iconst 3, 1) := by decide +kernel
theorem dX9_numberIn_64 : decode cX9_numberIn 64 = .ok (.if_icmp .ne 27, 3) := by decide +kernel
theorem dX9_numberIn_67 : decode cX9_numberIn 67 = .ok (.iload 4, 2) := by decide +kernel
theorem dX9_numberIn_69 : decode cX9_numberIn 69 = .ok (.i2l, 1) := by decide +kernel
theorem dX9_numberIn_70 : decode cX9_numberIn 70 = .ok (.iload_n 1, 1) := by decide +kernel
theorem dX9_numberIn_71 : decode cX9_numberIn 71 = .ok (.i2l, 1) := by decide +kernel
theorem dX9_numberIn_72 : decode cX9_numberIn 72 = .ok (.iload_n 2, 1) := by decide +kernel
theorem dX9_numberIn_73 : decode cX9_numberIn 73 = .ok (.i2l, 1) := by decide +kernel
theorem dX9_numberIn_74 : decode cX9_numberIn 74 = .ok (.invokestatic 81, 3) := by decide +kernel
theorem dX9_numberIn_77 : decode cX9_numberIn 77 = .ok (.ifCond .eq 9, 3) := by decide +kernel
theorem dX9_numberIn_80 : decode cX9_numberIn 80 = .ok (.iload 4, 2) := by decide +kernel
theorem dX9_numberIn_82 : decode cX9_numberIn 82 = .ok (.iload_n 3, 1) := by decide +kernel
theorem dX9_numberIn_83 : decode cX9_numberIn 83 = .ok (.if_icmp .ne 8, 3) := by decide +kernel
theorem dX9_numberIn_86 : decode cX9_numberIn 86 = .ok (.aload_n 0, 1) := by decide +kernel
theorem dX9_numberIn_87 : decode cX9_numberIn 87 = .ok (.iconst 2, 1) := by decide +kernel
theorem dX9_numberIn_88 : decode cX9_numberIn 88 = .ok (.invokevirtual 135, 3) := by decide +kernel
theorem dX9_numberIn_91 : decode cX9_numberIn 91 = .ok (.aload_n 0, 1) := by decide +kernel
theorem dX9_numberIn_92 : decode cX9_numberIn 92 = .ok (.aload_n 0, 1) := by decide +kernel
theorem dX9_numberIn_93 : decode cX9_numberIn 93 = .ok (.getfield 117, 3) := by decide +kernel
theorem dX9_numberIn_96 : decode cX9_numberIn 96 = .ok (.iconst 3, 1) := by decide +kernel
theorem dX9_numberIn_97 : decode cX9_numberIn 97 = .ok (.if_icmp .ne 7, 3) := by decide +kernel
theorem dX9_numberIn_100 : decode cX9_numberIn 100 = .ok (.iconst 1, 1) := by decide +kernel
theorem dX9_numberIn_101 : decode cX9_numberIn 101 = .ok (.goto 4, 3) := by decide +kernel
theorem dX9_numberIn_104 : decode cX9_numberIn 104 = .ok (.iconst 0, 1) := by decide +kernel
theorem dX9_numberIn_105 : decode cX9_numberIn 105 = .ok (.invokevirtual 142, 3) := by decide +kernel
theorem dX9_numberIn_108 : decode cX9_numberIn 108 = .ok (.iload 4, 2) := by decide +kernel
theorem dX9_numberIn_110 : decode cX9_numberIn 110 = .ok (.ireturn, 1) := by decide +kernel
theorem dX9_kindOfWord_0 : decode cX9_kindOfWord 0 = .ok (.aload_n 0, 1) := by decide +kernel
theorem dX9_kindOfWord_1 : decode cX9_kindOfWord 1 = .ok (.invokevirtual 146, 3) := by decide +kernel
theorem dX9_kindOfWord_4 : decode cX9_kindOfWord 4 = .ok (.lstore_n 1, 1) := by decide +kernel
theorem dX9_kindOfWord_5 : decode cX9_kindOfWord 5 = .ok (.lload_n 1, 1) := by decide +kernel
theorem dX9_kindOfWord_6 : decode cX9_kindOfWord 6 = .ok (.ldc2_w 150, 3) := by decide +kernel
theorem dX9_kindOfWord_9 : decode cX9_kindOfWord 9 = .ok (.lcmp, 1) := by decide +kernel
theorem dX9_kindOfWord_10 : decode cX9_kindOfWord 10 = .ok (.ifCond .ne 7, 3) := by decide +kernel
theorem dX9_kindOfWord_13 : decode cX9_kindOfWord 13 = .ok (.iconst 1, 1) := by decide +kernel
theorem dX9_kindOfWord_14 : decode cX9_kindOfWord 14 = .ok (.goto 118, 3) := by decide +kernel
theorem dX9_kindOfWord_17 : decode cX9_kindOfWord 17 = .ok (.lload_n 1, 1) := by decide +kernel
theorem dX9_kindOfWord_18 : decode cX9_kindOfWord 18 = .ok (.ldc2_w 152, 3) := by decide +kernel
theorem dX9_kindOfWord_21 : decode cX9_kindOfWord 21 = .ok (.lcmp, 1) := by decide +kernel
theorem dX9_kindOfWord_22 : decode cX9_kindOfWord 22 = .ok (.ifCond .ne 7, 3) := by decide +kernel
theorem dX9_kindOfWord_25 : decode cX9_kindOfWord 25 = .ok (.iconst 2, 1) := by decide +kernel
theorem dX9_kindOfWord_26 : decode cX9_kindOfWord 26 = .ok (.goto 106, 3) := by decide +kernel
theorem dX9_kindOfWord_29 : decode cX9_kindOfWord 29 = .ok (.lload_n 1, 1) := by decide +kernel
theorem dX9_kindOfWord_30 : decode cX9_kindOfWord 30 = .ok (.ldc2_w 154, 3) := by decide +kernel
theorem dX9_kindOfWord_33 : decode cX9_kindOfWord 33 = .ok (.lcmp, 1) := by decide +kernel
theorem dX9_kindOfWord_34 : decode cX9_kindOfWord 34 = .ok (.ifCond .ne 7, 3) := by decide +kernel
theorem dX9_kindOfWord_37 : decode cX9_kindOfWord 37 = .ok (.iconst 3, 1) := by decide +kernel
theorem dX9_kindOfWord_38 : decode cX9_kindOfWord 38 = .ok (.goto 94, 3) := by decide +kernel
theorem dX9_kindOfWord_41 : decode cX9_kindOfWord 41 = .ok (.lload_n 1, 1) := by decide +kernel
theorem dX9_kindOfWord_42 : decode cX9_kindOfWord 42 = .ok (.ldc2_w 156, 3) := by decide +kernel
theorem dX9_kindOfWord_45 : decode cX9_kindOfWord 45 = .ok (.lcmp, 1) := by decide +kernel
theorem dX9_kindOfWord_46 : decode cX9_kindOfWord 46 = .ok (.ifCond .ne 7, 3) := by decide +kernel
theorem dX9_kindOfWord_49 : decode cX9_kindOfWord 49 = .ok (.iconst 4, 1) := by decide +kernel
theorem dX9_kindOfWord_50 : decode cX9_kindOfWord 50 = .ok (.goto 82, 3) := by decide +kernel
theorem dX9_kindOfWord_53 : decode cX9_kindOfWord 53 = .ok (.lload_n 1, 1) := by decide +kernel
theorem dX9_kindOfWord_54 : decode cX9_kindOfWord 54 = .ok (.ldc2_w 158, 3) := by decide +kernel
theorem dX9_kindOfWord_57 : decode cX9_kindOfWord 57 = .ok (.lcmp, 1) := by decide +kernel
theorem dX9_kindOfWord_58 : decode cX9_kindOfWord 58 = .ok (.ifCond .ne 7, 3) := by decide +kernel
theorem dX9_kindOfWord_61 : decode cX9_kindOfWord 61 = .ok (.iconst 5, 1) := by decide +kernel
theorem dX9_kindOfWord_62 : decode cX9_kindOfWord 62 = .ok (.goto 70, 3) := by decide +kernel
theorem dX9_kindOfWord_65 : decode cX9_kindOfWord 65 = .ok (.lload_n 1, 1) := by decide +kernel
theorem dX9_kindOfWord_66 : decode cX9_kindOfWord 66 = .ok (.ldc2_w 160, 3) := by decide +kernel
theorem dX9_kindOfWord_69 : decode cX9_kindOfWord 69 = .ok (.lcmp, 1) := by decide +kernel
theorem dX9_kindOfWord_70 : decode cX9_kindOfWord 70 = .ok (.ifCond .ne 8, 3) := by decide +kernel
theorem dX9_kindOfWord_73 : decode cX9_kindOfWord 73 = .ok (.bipush 6, 2) := by decide +kernel
theorem dX9_kindOfWord_75 : decode cX9_kindOfWord 75 = .ok (.goto 57, 3) := by decide +kernel
theorem dX9_kindOfWord_78 : decode cX9_kindOfWord 78 = .ok (.lload_n 1, 1) := by decide +kernel
theorem dX9_kindOfWord_79 : decode cX9_kindOfWord 79 = .ok (.ldc2_w 162, 3) := by decide +kernel
theorem dX9_kindOfWord_82 : decode cX9_kindOfWord 82 = .ok (.lcmp, 1) := by decide +kernel
theorem dX9_kindOfWord_83 : decode cX9_kindOfWord 83 = .ok (.ifCond .ne 8, 3) := by decide +kernel
theorem dX9_kindOfWord_86 : decode cX9_kindOfWord 86 = .ok (.bipush 7, 2) := by decide +kernel
theorem dX9_kindOfWord_88 : decode cX9_kindOfWord 88 = .ok (.goto 44, 3) := by decide +kernel
theorem dX9_kindOfWord_91 : decode cX9_kindOfWord 91 = .ok (.lload_n 1, 1) := by decide +kernel
theorem dX9_kindOfWord_92 : decode cX9_kindOfWord 92 = .ok (.ldc2_w 164, 3) := by decide +kernel
theorem dX9_kindOfWord_95 : decode cX9_kindOfWord 95 = .ok (.lcmp, 1) := by decide +kernel
theorem dX9_kindOfWord_96 : decode cX9_kindOfWord 96 = .ok (.ifCond .ne 8, 3) := by decide +kernel
theorem dX9_kindOfWord_99 : decode cX9_kindOfWord 99 = .ok (.bipush 8, 2) := by decide +kernel
theorem dX9_kindOfWord_101 : decode cX9_kindOfWord 101 = .ok (.goto 31, 3) := by decide +kernel
theorem dX9_kindOfWord_104 : decode cX9_kindOfWord 104 = .ok (.lload_n 1, 1) := by decide +kernel
theorem dX9_kindOfWord_105 : decode cX9_kindOfWord 105 = .ok (.ldc2_w 166, 3) := by decide +kernel
theorem dX9_kindOfWord_108 : decode cX9_kindOfWord 108 = .ok (.lcmp, 1) := by decide +kernel
theorem dX9_kindOfWord_109 : decode cX9_kindOfWord 109 = .ok (.ifCond .ne 8, 3) := by decide +kernel
theorem dX9_kindOfWord_112 : decode cX9_kindOfWord 112 = .ok (.bipush 9, 2) := by decide +kernel
theorem dX9_kindOfWord_114 : decode cX9_kindOfWord 114 = .ok (.goto 18, 3) := by decide +kernel
theorem dX9_kindOfWord_117 : decode cX9_kindOfWord 117 = .ok (.lload_n 1, 1) := by decide +kernel
theorem dX9_kindOfWord_118 : decode cX9_kindOfWord 118 = .ok (.ldc2_w 168, 3) := by decide +kernel
theorem dX9_kindOfWord_121 : decode cX9_kindOfWord 121 = .ok (.lcmp, 1) := by decide +kernel
theorem dX9_kindOfWord_122 : decode cX9_kindOfWord 122 = .ok (.ifCond .ne 8, 3) := by decide +kernel
theorem dX9_kindOfWord_125 : decode cX9_kindOfWord 125 = .ok (.bipush 10, 2) := by decide +kernel
theorem dX9_kindOfWord_127 : decode cX9_kindOfWord 127 = .ok (.goto 5, 3) := by decide +kernel
theorem dX9_kindOfWord_130 : decode cX9_kindOfWord 130 = .ok (.ldc 107, 2) := by decide +kernel
theorem dX9_kindOfWord_132 : decode cX9_kindOfWord 132 = .ok (.ireturn, 1) := by decide +kernel
theorem dX9_mustEnd_0 : decode cX9_mustEnd 0 = .ok (.aload_n 0, 1) := by decide +kernel
theorem dX9_mustEnd_1 : decode cX9_mustEnd 1 = .ok (.getfield 129, 3) := by decide +kernel
theorem dX9_mustEnd_4 : decode cX9_mustEnd 4 = .ok (.ifCond .ne 20, 3) := by decide +kernel
theorem dX9_mustEnd_7 : decode cX9_mustEnd 7 = .ok (.aload_n 0, 1) := by decide +kernel
theorem dX9_mustEnd_8 : decode cX9_mustEnd 8 = .ok (.aload_n 0, 1) := by decide +kernel
theorem dX9_mustEnd_9 : decode cX9_mustEnd 9 = .ok (.getfield 117, 3) := by decide +kernel
theorem dX9_mustEnd_12 : decode cX9_mustEnd 12 = .ok (.iconst 4, 1) := by decide +kernel
theorem dX9_mustEnd_13 : decode cX9_mustEnd 13 = .ok (.if_icmp .ne 7, 3) := by decide +kernel
theorem dX9_mustEnd_16 : decode cX9_mustEnd 16 = .ok (.iconst 1, 1) := by decide +kernel
theorem dX9_mustEnd_17 : decode cX9_mustEnd 17 = .ok (.goto 4, 3) := by decide +kernel
theorem dX9_mustEnd_20 : decode cX9_mustEnd 20 = .ok (.iconst 0, 1) := by decide +kernel
theorem dX9_mustEnd_21 : decode cX9_mustEnd 21 = .ok (.invokevirtual 142, 3) := by decide +kernel
theorem dX9_mustEnd_24 : decode cX9_mustEnd 24 = .ok (.return_, 1) := by decide +kernel
theorem dX9_readAct_0 : decode cX9_readAct 0 = .ok (.aload_n 0, 1) := by decide +kernel
theorem dX9_readAct_1 : decode cX9_readAct 1 = .ok (.getfield 170, 3) := by decide +kernel
theorem dX9_readAct_4 : decode cX9_readAct 4 = .ok (.bipush 40, 2) := by decide +kernel
theorem dX9_readAct_6 : decode cX9_readAct 6 = .ok (.if_icmp .ne 8, 3) := by decide +kernel
theorem dX9_readAct_9 : decode cX9_readAct 9 = .ok (.aload_n 0, 1) := by decide +kernel
theorem dX9_readAct_10 : decode cX9_readAct 10 = .ok (.iconst 3, 1) := by decide +kernel
theorem dX9_readAct_11 : decode cX9_readAct 11 = .ok (.invokevirtual 135, 3) := by decide +kernel
theorem dX9_readAct_14 : decode cX9_readAct 14 = .ok (.aload_n 0, 1) := by decide +kernel
theorem dX9_readAct_15 : decode cX9_readAct 15 = .ok (.iconst 1, 1) := by decide +kernel
theorem dX9_readAct_16 : decode cX9_readAct 16 = .ok (.invokevirtual 142, 3) := by decide +kernel
theorem dX9_readAct_19 : decode cX9_readAct 19 = .ok (.iload_n 1, 1) := by decide +kernel
theorem dX9_readAct_20 : decode cX9_readAct 20 = .ok (.bipush 8, 2) := by decide +kernel
theorem dX9_readAct_22 : decode cX9_readAct 22 = .ok (.if_icmp .ne 15, 3) := by decide +kernel
theorem dX9_readAct_25 : decode cX9_readAct 25 = .ok (.aload_n 0, 1) := by decide +kernel
theorem dX9_readAct_26 : decode cX9_readAct 26 = .ok (.iconst 1, 1) := by decide +kernel
theorem dX9_readAct_27 : decode cX9_readAct 27 = .ok (.bipush 30, 2) := by decide +kernel
theorem dX9_readAct_29 : decode cX9_readAct 29 = .ok (.ldc 107, 2) := by decide +kernel
theorem dX9_readAct_31 : decode cX9_readAct 31 = .ok (.invokevirtual 173, 3) := by decide +kernel
theorem dX9_readAct_34 : decode cX9_readAct 34 = .ok (.goto 16, 3) := by decide +kernel
theorem dX9_readAct_37 : decode cX9_readAct 37 = .ok (.aload_n 0, 1) := by decide +kernel
theorem dX9_readAct_38 : decode cX9_readAct 38 = .ok (.iconst 0, 1) := by decide +kernel
theorem dX9_readAct_39 : decode cX9_readAct 39 = .ok (.aload_n 0, 1) := by decide +kernel
theorem dX9_readAct_40 : decode cX9_readAct 40 = .ok (.getfield 177, 3) := by decide +kernel
theorem dX9_readAct_43 : decode cX9_readAct 43 = .ok (.iconst 1, 1) := by decide +kernel
theorem dX9_readAct_44 : decode cX9_readAct 44 = .ok (.isub, 1) := by decide +kernel
theorem dX9_readAct_45 : decode cX9_readAct 45 = .ok (.ldc 107, 2) := by decide +kernel
theorem dX9_readAct_47 : decode cX9_readAct 47 = .ok (.invokevirtual 173, 3) := by decide +kernel
theorem dX9_readAct_50 : decode cX9_readAct 50 = .ok (.istore_n 2, 1) := by decide +kernel
theorem dX9_readAct_51 : decode cX9_readAct 51 = .ok (.iload_n 1, 1) := by decide +kernel
theorem dX9_readAct_52 : decode cX9_readAct 52 = .ok (.bipush 8, 2) := by decide +kernel
theorem dX9_readAct_54 : decode cX9_readAct 54 = .ok (.if_icmp .ge 15, 3) := by decide +kernel
theorem dX9_readAct_57 : decode cX9_readAct 57 = .ok (.aload_n 0, 1) := by decide +kernel
theorem dX9_readAct_58 : decode cX9_readAct 58 = .ok (.iconst 1, 1) := by decide +kernel
theorem dX9_readAct_59 : decode cX9_readAct 59 = .ok (.bipush 20, 2) := by decide +kernel
theorem dX9_readAct_61 : decode cX9_readAct 61 = .ok (.ldc 107, 2) := by decide +kernel
theorem dX9_readAct_63 : decode cX9_readAct 63 = .ok (.invokevirtual 173, 3) := by decide +kernel
theorem dX9_readAct_66 : decode cX9_readAct 66 = .ok (.goto 5, 3) := by decide +kernel
theorem dX9_readAct_69 : decode cX9_readAct 69 = .ok (.ldc 107, 2) := by decide +kernel
theorem dX9_readAct_71 : decode cX9_readAct 71 = .ok (.istore_n 3, 1) := by decide +kernel
theorem dX9_readAct_72 : decode cX9_readAct 72 = .ok (.aload_n 0, 1) := by decide +kernel
theorem dX9_readAct_73 : decode cX9_readAct 73 = .ok (.getfield 129, 3) := by decide +kernel
theorem dX9_readAct_76 : decode cX9_readAct 76 = .ok (.ifCond .ne 70, 3) := by decide +kernel
theorem dX9_readAct_79 : decode cX9_readAct 79 = .ok (.aload_n 0, 1) := by decide +kernel
theorem dX9_readAct_80 : decode cX9_readAct 80 = .ok (.getfield 28, 3) := by decide +kernel
theorem dX9_readAct_83 : decode cX9_readAct 83 = .ok (.iconst 4, 1) := by decide +kernel
theorem dX9_readAct_84 : decode cX9_readAct 84 = .ok (.aload_n 0, 1) := by decide +kernel
theorem dX9_readAct_85 : decode cX9_readAct 85 = .ok (.getfield 170, 3) := by decide +kernel
theorem dX9_readAct_88 : decode cX9_readAct 88 = .ok (.imul, 1) := by decide +kernel
theorem dX9_readAct_89 : decode cX9_readAct 89 = .ok (.iload_n 1, 1) := by decide +kernel
theorem dX9_readAct_90 : decode cX9_readAct 90 = .ok (.iastore, 1) := by decide +kernel
theorem dX9_readAct_91 : decode cX9_readAct 91 = .ok (.aload_n 0, 1) := by decide +kernel
theorem dX9_readAct_92 : decode cX9_readAct 92 = .ok (.getfield 28, 3) := by decide +kernel
theorem dX9_readAct_95 : decode cX9_readAct 95 = .ok (.iconst 4, 1) := by decide +kernel
theorem dX9_readAct_96 : decode cX9_readAct 96 = .ok (.aload_n 0, 1) := by decide +kernel
theorem dX9_readAct_97 : decode cX9_readAct 97 = .ok (.getfield 170, 3) := by decide +kernel
theorem dX9_readAct_100 : decode cX9_readAct 100 = .ok (.imul, 1) := by decide +kernel
theorem dX9_readAct_101 : decode cX9_readAct 101 = .ok (.iconst 1, 1) := by decide +kernel
theorem dX9_readAct_102 : decode cX9_readAct 102 = .ok (.iadd, 1) := by decide +kernel
theorem dX9_readAct_103 : decode cX9_readAct 103 = .ok (.iload_n 2, 1) := by decide +kernel
theorem dX9_readAct_104 : decode cX9_readAct 104 = .ok (.iastore, 1) := by decide +kernel
theorem dX9_readAct_105 : decode cX9_readAct 105 = .ok (.aload_n 0, 1) := by decide +kernel
theorem dX9_readAct_106 : decode cX9_readAct 106 = .ok (.getfield 28, 3) := by decide +kernel
theorem dX9_readAct_109 : decode cX9_readAct 109 = .ok (.iconst 4, 1) := by decide +kernel
theorem dX9_readAct_110 : decode cX9_readAct 110 = .ok (.aload_n 0, 1) := by decide +kernel
theorem dX9_readAct_111 : decode cX9_readAct 111 = .ok (.getfield 170, 3) := by decide +kernel
theorem dX9_readAct_114 : decode cX9_readAct 114 = .ok (.imul, 1) := by decide +kernel
theorem dX9_readAct_115 : decode cX9_readAct 115 = .ok (.iconst 2, 1) := by decide +kernel
theorem dX9_readAct_116 : decode cX9_readAct 116 = .ok (.iadd, 1) := by decide +kernel
theorem dX9_readAct_117 : decode cX9_readAct 117 = .ok (.iload_n 3, 1) := by decide +kernel
theorem dX9_readAct_118 : decode cX9_readAct 118 = .ok (.iastore, 1) := by decide +kernel
theorem dX9_readAct_119 : decode cX9_readAct 119 = .ok (.aload_n 0, 1) := by decide +kernel
theorem dX9_readAct_120 : decode cX9_readAct 120 = .ok (.getfield 28, 3) := by decide +kernel
theorem dX9_readAct_123 : decode cX9_readAct 123 = .ok (.iconst 4, 1) := by decide +kernel
theorem dX9_readAct_124 : decode cX9_readAct 124 = .ok (.aload_n 0, 1) := by decide +kernel
theorem dX9_readAct_125 : decode cX9_readAct 125 = .ok (.getfield 170, 3) := by decide +kernel
theorem dX9_readAct_128 : decode cX9_readAct 128 = .ok (.imul, 1) := by decide +kernel
theorem dX9_readAct_129 : decode cX9_readAct 129 = .ok (.iconst 3, 1) := by decide +kernel
theorem dX9_readAct_130 : decode cX9_readAct 130 = .ok (.iadd, 1) := by decide +kernel
theorem dX9_readAct_131 : decode cX9_readAct 131 = .ok (.aload_n 0, 1) := by decide +kernel
theorem dX9_readAct_132 : decode cX9_readAct 132 = .ok (.getfield 180, 3) := by decide +kernel
theorem dX9_readAct_135 : decode cX9_readAct 135 = .ok (.iastore, 1) := by decide +kernel
theorem dX9_readAct_136 : decode cX9_readAct 136 = .ok (.aload_n 0, 1) := by decide +kernel
theorem dX9_readAct_137 : decode cX9_readAct 137 = .ok (.dup, 1) := by decide +kernel
theorem dX9_readAct_138 : decode cX9_readAct 138 = .ok (.getfield 170, 3) := by decide +kernel
theorem dX9_readAct_141 : decode cX9_readAct 141 = .ok (.iconst 1, 1) := by decide +kernel
theorem dX9_readAct_142 : decode cX9_readAct 142 = .ok (.iadd, 1) := by decide +kernel
theorem dX9_readAct_143 : decode cX9_readAct 143 = .ok (.putfield 170, 3) := by decide +kernel
theorem dX9_readAct_146 : decode cX9_readAct 146 = .ok (.return_, 1) := by decide +kernel
theorem dX9_readSeam_0 : decode cX9_readSeam 0 = .ok (.aload_n 0, 1) := by decide +kernel
theorem dX9_readSeam_1 : decode cX9_readSeam 1 = .ok (.getfield 180, 3) := by decide +kernel
theorem dX9_readSeam_4 : decode cX9_readSeam 4 = .ok (.bipush 6, 2) := by decide +kernel
theorem dX9_readSeam_6 : decode cX9_readSeam 6 = .ok (.if_icmp .ne 8, 3) := by decide +kernel
theorem dX9_readSeam_9 : decode cX9_readSeam 9 = .ok (.aload_n 0, 1) := by decide +kernel
theorem dX9_readSeam_10 : decode cX9_readSeam 10 = .ok (.iconst 3, 1) := by decide +kernel
theorem dX9_readSeam_11 : decode cX9_readSeam 11 = .ok (.invokevirtual 135, 3) := by decide +kernel
theorem dX9_readSeam_14 : decode cX9_readSeam 14 = .ok (.aload_n 0, 1) := by decide +kernel
theorem dX9_readSeam_15 : decode cX9_readSeam 15 = .ok (.iconst 1, 1) := by decide +kernel
theorem dX9_readSeam_16 : decode cX9_readSeam 16 = .ok (.invokevirtual 142, 3) := by decide +kernel
theorem dX9_readSeam_19 : decode cX9_readSeam 19 = .ok (.aload_n 0, 1) := by decide +kernel
theorem dX9_readSeam_20 : decode cX9_readSeam 20 = .ok (.invokevirtual 183, 3) := by decide +kernel
theorem dX9_readSeam_23 : decode cX9_readSeam 23 = .ok (.istore_n 1, 1) := by decide +kernel
theorem dX9_readSeam_24 : decode cX9_readSeam 24 = .ok (.aload_n 0, 1) := by decide +kernel
theorem dX9_readSeam_25 : decode cX9_readSeam 25 = .ok (.getfield 129, 3) := by decide +kernel
theorem dX9_readSeam_28 : decode cX9_readSeam 28 = .ok (.ifCond .ne 22, 3) := by decide +kernel
theorem dX9_readSeam_31 : decode cX9_readSeam 31 = .ok (.iload_n 1, 1) := by decide +kernel
theorem dX9_readSeam_32 : decode cX9_readSeam 32 = .ok (.ldc 107, 2) := by decide +kernel
theorem dX9_readSeam_34 : decode cX9_readSeam 34 = .ok (.if_icmp .eq 16, 3) := by decide +kernel
theorem dX9_readSeam_37 : decode cX9_readSeam 37 = .ok (.aload_n 0, 1) := by decide +kernel
theorem dX9_readSeam_38 : decode cX9_readSeam 38 = .ok (.iload_n 1, 1) := by decide +kernel
theorem dX9_readSeam_39 : decode cX9_readSeam 39 = .ok (.invokevirtual 187, 3) := by decide +kernel
theorem dX9_readSeam_42 : decode cX9_readSeam 42 = .ok (.aload_n 0, 1) := by decide +kernel
theorem dX9_readSeam_43 : decode cX9_readSeam 43 = .ok (.invokevirtual 183, 3) := by decide +kernel
theorem dX9_readSeam_46 : decode cX9_readSeam 46 = .ok (.istore_n 1, 1) := by decide +kernel
theorem dX9_readSeam_47 : decode cX9_readSeam 47 = .ok (.goto (-23), 3) := by decide +kernel
theorem dX9_readSeam_50 : decode cX9_readSeam 50 = .ok (.aload_n 0, 1) := by decide +kernel
theorem dX9_readSeam_51 : decode cX9_readSeam 51 = .ok (.invokevirtual 190, 3) := by decide +kernel
theorem dX9_readSeam_54 : decode cX9_readSeam 54 = .ok (.aload_n 0, 1) := by decide +kernel
theorem dX9_readSeam_55 : decode cX9_readSeam 55 = .ok (.dup, 1) := by decide +kernel
theorem dX9_readSeam_56 : decode cX9_readSeam 56 = .ok (.getfield 180, 3) := by decide +kernel
theorem dX9_readSeam_59 : decode cX9_readSeam 59 = .ok (.iconst 1, 1) := by decide +kernel
theorem dX9_readSeam_60 : decode cX9_readSeam 60 = .ok (.iadd, 1) := by decide +kernel
theorem dX9_readSeam_61 : decode cX9_readSeam 61 = .ok (.putfield 180, 3) := by decide +kernel
theorem dX9_readSeam_64 : decode cX9_readSeam 64 = .ok (.return_, 1) := by decide +kernel
theorem dX9_readBefore_0 : decode cX9_readBefore 0 = .ok (.aload_n 0, 1) := by decide +kernel
theorem dX9_readBefore_1 : decode cX9_readBefore 1 = .ok (.getfield 193, 3) := by decide +kernel
theorem dX9_readBefore_4 : decode cX9_readBefore 4 = .ok (.bipush 10, 2) := by decide +kernel
theorem dX9_readBefore_6 : decode cX9_readBefore 6 = .ok (.if_icmp .ne 8, 3) := by decide +kernel
theorem dX9_readBefore_9 : decode cX9_readBefore 9 = .ok (.aload_n 0, 1) := by decide +kernel
theorem dX9_readBefore_10 : decode cX9_readBefore 10 = .ok (.iconst 3, 1) := by decide +kernel
theorem dX9_readBefore_11 : decode cX9_readBefore 11 = .ok (.invokevirtual 135, 3) := by decide +kernel
theorem dX9_readBefore_14 : decode cX9_readBefore 14 = .ok (.aload_n 0, 1) := by decide +kernel
theorem dX9_readBefore_15 : decode cX9_readBefore 15 = .ok (.aload_n 0, 1) := by decide +kernel
theorem dX9_readBefore_16 : decode cX9_readBefore 16 = .ok (.invokevirtual 146, 3) := by decide +kernel
theorem dX9_readBefore_19 : decode cX9_readBefore 19 = .ok (.ldc2_w 196, 3) := by decide +kernel
theorem dX9_readBefore_22 : decode cX9_readBefore 22 = .ok (.lcmp, 1) := by decide +kernel
theorem dX9_readBefore_23 : decode cX9_readBefore 23 = .ok (.ifCond .ne 7, 3) := by decide +kernel
theorem dX9_readBefore_26 : decode cX9_readBefore 26 = .ok (.iconst 1, 1) := by decide +kernel
theorem dX9_readBefore_27 : decode cX9_readBefore 27 = .ok (.goto 4, 3) := by decide +kernel
theorem dX9_readBefore_30 : decode cX9_readBefore 30 = .ok (.iconst 0, 1) := by decide +kernel
theorem dX9_readBefore_31 : decode cX9_readBefore 31 = .ok (.invokevirtual 142, 3) := by decide +kernel
theorem dX9_readBefore_34 : decode cX9_readBefore 34 = .ok (.aload_n 0, 1) := by decide +kernel
theorem dX9_readBefore_35 : decode cX9_readBefore 35 = .ok (.iconst 0, 1) := by decide +kernel
theorem dX9_readBefore_36 : decode cX9_readBefore 36 = .ok (.aload_n 0, 1) := by decide +kernel
theorem dX9_readBefore_37 : decode cX9_readBefore 37 = .ok (.getfield 180, 3) := by decide +kernel
theorem dX9_readBefore_40 : decode cX9_readBefore 40 = .ok (.iconst 1, 1) := by decide +kernel
theorem dX9_readBefore_41 : decode cX9_readBefore 41 = .ok (.isub, 1) := by decide +kernel
theorem dX9_readBefore_42 : decode cX9_readBefore 42 = .ok (.ldc 107, 2) := by decide +kernel
theorem dX9_readBefore_44 : decode cX9_readBefore 44 = .ok (.invokevirtual 173, 3) := by decide +kernel
theorem dX9_readBefore_47 : decode cX9_readBefore 47 = .ok (.istore_n 1, 1) := by decide +kernel
theorem dX9_readBefore_48 : decode cX9_readBefore 48 = .ok (.aload_n 0, 1) := by decide +kernel
theorem dX9_readBefore_49 : decode cX9_readBefore 49 = .ok (.iconst 0, 1) := by decide +kernel
theorem dX9_readBefore_50 : decode cX9_readBefore 50 = .ok (.aload_n 0, 1) := by decide +kernel
theorem dX9_readBefore_51 : decode cX9_readBefore 51 = .ok (.getfield 180, 3) := by decide +kernel
theorem dX9_readBefore_54 : decode cX9_readBefore 54 = .ok (.iconst 1, 1) := by decide +kernel
theorem dX9_readBefore_55 : decode cX9_readBefore 55 = .ok (.isub, 1) := by decide +kernel
theorem dX9_readBefore_56 : decode cX9_readBefore 56 = .ok (.iload_n 1, 1) := by decide +kernel
theorem dX9_readBefore_57 : decode cX9_readBefore 57 = .ok (.invokevirtual 173, 3) := by decide +kernel
theorem dX9_readBefore_60 : decode cX9_readBefore 60 = .ok (.istore_n 2, 1) := by decide +kernel
theorem dX9_readBefore_61 : decode cX9_readBefore 61 = .ok (.aload_n 0, 1) := by decide +kernel
theorem dX9_readBefore_62 : decode cX9_readBefore 62 = .ok (.invokevirtual 190, 3) := by decide +kernel
theorem dX9_readBefore_65 : decode cX9_readBefore 65 = .ok (.aload_n 0, 1) := by decide +kernel
theorem dX9_readBefore_66 : decode cX9_readBefore 66 = .ok (.getfield 129, 3) := by decide +kernel
theorem dX9_readBefore_69 : decode cX9_readBefore 69 = .ok (.ifCond .ne 33, 3) := by decide +kernel
theorem dX9_readBefore_72 : decode cX9_readBefore 72 = .ok (.aload_n 0, 1) := by decide +kernel
theorem dX9_readBefore_73 : decode cX9_readBefore 73 = .ok (.getfield 31, 3) := by decide +kernel
theorem dX9_readBefore_76 : decode cX9_readBefore 76 = .ok (.aload_n 0, 1) := by decide +kernel
theorem dX9_readBefore_77 : decode cX9_readBefore 77 = .ok (.getfield 193, 3) := by decide +kernel
theorem dX9_readBefore_80 : decode cX9_readBefore 80 = .ok (.iload_n 1, 1) := by decide +kernel
theorem dX9_readBefore_81 : decode cX9_readBefore 81 = .ok (.iastore, 1) := by decide +kernel
theorem dX9_readBefore_82 : decode cX9_readBefore 82 = .ok (.aload_n 0, 1) := by decide +kernel
theorem dX9_readBefore_83 : decode cX9_readBefore 83 = .ok (.getfield 34, 3) := by decide +kernel
theorem dX9_readBefore_86 : decode cX9_readBefore 86 = .ok (.aload_n 0, 1) := by decide +kernel
theorem dX9_readBefore_87 : decode cX9_readBefore 87 = .ok (.getfield 193, 3) := by decide +kernel
theorem dX9_readBefore_90 : decode cX9_readBefore 90 = .ok (.iload_n 2, 1) := by decide +kernel
theorem dX9_readBefore_91 : decode cX9_readBefore 91 = .ok (.iastore, 1) := by decide +kernel
theorem dX9_readBefore_92 : decode cX9_readBefore 92 = .ok (.aload_n 0, 1) := by decide +kernel
theorem dX9_readBefore_93 : decode cX9_readBefore 93 = .ok (.dup, 1) := by decide +kernel
theorem dX9_readBefore_94 : decode cX9_readBefore 94 = .ok (.getfield 193, 3) := by decide +kernel
theorem dX9_readBefore_97 : decode cX9_readBefore 97 = .ok (.iconst 1, 1) := by decide +kernel
theorem dX9_readBefore_98 : decode cX9_readBefore 98 = .ok (.iadd, 1) := by decide +kernel
theorem dX9_readBefore_99 : decode cX9_readBefore 99 = .ok (.putfield 193, 3) := by decide +kernel
theorem dX9_readBefore_102 : decode cX9_readBefore 102 = .ok (.return_, 1) := by decide +kernel
theorem dX9_plan_0 : decode cX9_plan 0 = .ok (.aload_n 0, 1) := by decide +kernel
theorem dX9_plan_1 : decode cX9_plan 1 = .ok (.iconst 0, 1) := by decide +kernel
theorem dX9_plan_2 : decode cX9_plan 2 = .ok (.putfield 71, 3) := by decide +kernel
theorem dX9_plan_5 : decode cX9_plan 5 = .ok (.aload_n 0, 1) := by decide +kernel
theorem dX9_plan_6 : decode cX9_plan 6 = .ok (.aload_n 0, 1) := by decide +kernel
theorem dX9_plan_7 : decode cX9_plan 7 = .ok (.getfield 98, 3) := by decide +kernel
theorem dX9_plan_10 : decode cX9_plan 10 = .ok (.putfield 104, 3) := by decide +kernel
theorem dX9_plan_13 : decode cX9_plan 13 = .ok (.aload_n 0, 1) := by decide +kernel
theorem dX9_plan_14 : decode cX9_plan 14 = .ok (.iconst 0, 1) := by decide +kernel
theorem dX9_plan_15 : decode cX9_plan 15 = .ok (.putfield 98, 3) := by decide +kernel
theorem dX9_plan_18 : decode cX9_plan 18 = .ok (.aload_n 0, 1) := by decide +kernel
theorem dX9_plan_19 : decode cX9_plan 19 = .ok (.iconst 0, 1) := by decide +kernel
theorem dX9_plan_20 : decode cX9_plan 20 = .ok (.putfield 108, 3) := by decide +kernel
theorem dX9_plan_23 : decode cX9_plan 23 = .ok (.aload_n 0, 1) := by decide +kernel
theorem dX9_plan_24 : decode cX9_plan 24 = .ok (.iconst 0, 1) := by decide +kernel
theorem dX9_plan_25 : decode cX9_plan 25 = .ok (.putfield 129, 3) := by decide +kernel
theorem dX9_plan_28 : decode cX9_plan 28 = .ok (.aload_n 0, 1) := by decide +kernel
theorem dX9_plan_29 : decode cX9_plan 29 = .ok (.iconst 0, 1) := by decide +kernel
theorem dX9_plan_30 : decode cX9_plan 30 = .ok (.putfield 180, 3) := by decide +kernel
theorem dX9_plan_33 : decode cX9_plan 33 = .ok (.aload_n 0, 1) := by decide +kernel
theorem dX9_plan_34 : decode cX9_plan 34 = .ok (.iconst 0, 1) := by decide +kernel
theorem dX9_plan_35 : decode cX9_plan 35 = .ok (.putfield 170, 3) := by decide +kernel
theorem dX9_plan_38 : decode cX9_plan 38 = .ok (.aload_n 0, 1) := by decide +kernel
theorem dX9_plan_39 : decode cX9_plan 39 = .ok (.iconst 0, 1) := by decide +kernel
theorem dX9_plan_40 : decode cX9_plan 40 = .ok (.putfield 193, 3) := by decide +kernel
theorem dX9_plan_43 : decode cX9_plan 43 = .ok (.aload_n 0, 1) := by decide +kernel
theorem dX9_plan_44 : decode cX9_plan 44 = .ok (.invokevirtual 139, 3) := by decide +kernel
theorem dX9_plan_47 : decode cX9_plan 47 = .ok (.aload_n 0, 1) := by decide +kernel
theorem dX9_plan_48 : decode cX9_plan 48 = .ok (.aload_n 0, 1) := by decide +kernel
theorem dX9_plan_49 : decode cX9_plan 49 = .ok (.invokevirtual 146, 3) := by decide +kernel
theorem dX9_plan_52 : decode cX9_plan 52 = .ok (.ldc2_w 198, 3) := by decide +kernel
theorem dX9_plan_55 : decode cX9_plan 55 = .ok (.lcmp, 1) := by decide +kernel
theorem dX9_plan_56 : decode cX9_plan 56 = .ok (.ifCond .ne 7, 3) := by decide +kernel
theorem dX9_plan_59 : decode cX9_plan 59 = .ok (.iconst 1, 1) := by decide +kernel
theorem dX9_plan_60 : decode cX9_plan 60 = .ok (.goto 4, 3) := by decide +kernel
theorem dX9_plan_63 : decode cX9_plan 63 = .ok (.iconst 0, 1) := by decide +kernel
theorem dX9_plan_64 : decode cX9_plan 64 = .ok (.invokevirtual 142, 3) := by decide +kernel
theorem dX9_plan_67 : decode cX9_plan 67 = .ok (.aload_n 0, 1) := by decide +kernel
theorem dX9_plan_68 : decode cX9_plan 68 = .ok (.aload_n 0, 1) := by decide +kernel
theorem dX9_plan_69 : decode cX9_plan 69 = .ok (.iconst 4, 1) := by decide +kernel
theorem dX9_plan_70 : decode cX9_plan 70 = .ok (.bipush 12, 2) := by decide +kernel
theorem dX9_plan_72 : decode cX9_plan 72 = .ok (.ldc 107, 2) := by decide +kernel
theorem dX9_plan_74 : decode cX9_plan 74 = .ok (.invokevirtual 173, 3) := by decide +kernel
theorem dX9_plan_77 : decode cX9_plan 77 = .ok (.putfield 177, 3) := by decide +kernel
theorem dX9_plan_80 : decode cX9_plan 80 = .ok (.aload_n 0, 1) := by decide +kernel
theorem dX9_plan_81 : decode cX9_plan 81 = .ok (.invokevirtual 190, 3) := by decide +kernel
theorem dX9_plan_84 : decode cX9_plan 84 = .ok (.aload_n 0, 1) := by decide +kernel
theorem dX9_plan_85 : decode cX9_plan 85 = .ok (.invokevirtual 146, 3) := by decide +kernel
theorem dX9_plan_88 : decode cX9_plan 88 = .ok (.ldc2_w 200, 3) := by decide +kernel
theorem dX9_plan_91 : decode cX9_plan 91 = .ok (.lcmp, 1) := by decide +kernel
theorem dX9_plan_92 : decode cX9_plan 92 = .ok (.ifCond .ne 10, 3) := by decide +kernel
theorem dX9_plan_95 : decode cX9_plan 95 = .ok (.aload_n 0, 1) := by decide +kernel
theorem dX9_plan_96 : decode cX9_plan 96 = .ok (.invokevirtual 202, 3) := by decide +kernel
theorem dX9_plan_99 : decode cX9_plan 99 = .ok (.goto (-15), 3) := by decide +kernel
theorem dX9_plan_102 : decode cX9_plan 102 = .ok (.aload_n 0, 1) := by decide +kernel
theorem dX9_plan_103 : decode cX9_plan 103 = .ok (.getfield 129, 3) := by decide +kernel
theorem dX9_plan_106 : decode cX9_plan 106 = .ok (.ifCond .ne 37, 3) := by decide +kernel
theorem dX9_plan_109 : decode cX9_plan 109 = .ok (.aload_n 0, 1) := by decide +kernel
theorem dX9_plan_110 : decode cX9_plan 110 = .ok (.getfield 117, 3) := by decide +kernel
theorem dX9_plan_113 : decode cX9_plan 113 = .ok (.iconst 1, 1) := by decide +kernel
theorem dX9_plan_114 : decode cX9_plan 114 = .ok (.if_icmp .eq 29, 3) := by decide +kernel
theorem dX9_plan_117 : decode cX9_plan 117 = .ok (.aload_n 0, 1) := by decide +kernel
theorem dX9_plan_118 : decode cX9_plan 118 = .ok (.invokevirtual 146, 3) := by decide +kernel
theorem dX9_plan_121 : decode cX9_plan 121 = .ok (.ldc2_w 196, 3) := by decide +kernel
theorem dX9_plan_124 : decode cX9_plan 124 = .ok (.lcmp, 1) := by decide +kernel
theorem dX9_plan_125 : decode cX9_plan 125 = .ok (.ifCond .eq 11, 3) := by decide +kernel
theorem dX9_plan_128 : decode cX9_plan 128 = .ok (.aload_n 0, 1) := by decide +kernel
theorem dX9_plan_129 : decode cX9_plan 129 = .ok (.iconst 1, 1) := by decide +kernel
theorem dX9_plan_130 : decode cX9_plan 130 = .ok (.invokevirtual 135, 3) := by decide +kernel
theorem dX9_plan_133 : decode cX9_plan 133 = .ok (.goto (-31), 3) := by decide +kernel
theorem dX9_plan_136 : decode cX9_plan 136 = .ok (.aload_n 0, 1) := by decide +kernel
theorem dX9_plan_137 : decode cX9_plan 137 = .ok (.invokevirtual 205, 3) := by decide +kernel
theorem dX9_plan_140 : decode cX9_plan 140 = .ok (.goto (-38), 3) := by decide +kernel
theorem dX9_plan_143 : decode cX9_plan 143 = .ok (.aload_n 0, 1) := by decide +kernel
theorem dX9_plan_144 : decode cX9_plan 144 = .ok (.getfield 129, 3) := by decide +kernel
theorem dX9_plan_147 : decode cX9_plan 147 = .ok (.ifCond .le 19, 3) := by decide +kernel
theorem dX9_plan_150 : decode cX9_plan 150 = .ok (.aload_n 0, 1) := by decide +kernel
theorem dX9_plan_151 : decode cX9_plan 151 = .ok (.aload_n 0, 1) := by decide +kernel
theorem dX9_plan_152 : decode cX9_plan 152 = .ok (.getfield 129, 3) := by decide +kernel
theorem dX9_plan_155 : decode cX9_plan 155 = .ok (.putfield 208, 3) := by decide +kernel
theorem dX9_plan_158 : decode cX9_plan 158 = .ok (.ldc 211, 2) := by decide +kernel
theorem dX9_plan_160 : decode cX9_plan 160 = .ok (.aload_n 0, 1) := by decide +kernel
theorem dX9_plan_161 : decode cX9_plan 161 = .ok (.getfield 132, 3) := by decide +kernel
theorem dX9_plan_164 : decode cX9_plan 164 = .ok (.isub, 1) := by decide +kernel
theorem dX9_plan_165 : decode cX9_plan 165 = .ok (.ireturn, 1) := by decide +kernel
theorem dX9_plan_166 : decode cX9_plan 166 = .ok (.aload_n 0, 1) := by decide +kernel
theorem dX9_plan_167 : decode cX9_plan 167 = .ok (.aload_n 0, 1) := by decide +kernel
theorem dX9_plan_168 : decode cX9_plan 168 = .ok (.getfield 177, 3) := by decide +kernel
theorem dX9_plan_171 : decode cX9_plan 171 = .ok (.putfield 212, 3) := by decide +kernel
theorem dX9_plan_174 : decode cX9_plan 174 = .ok (.aload_n 0, 1) := by decide +kernel
theorem dX9_plan_175 : decode cX9_plan 175 = .ok (.aload_n 0, 1) := by decide +kernel
theorem dX9_plan_176 : decode cX9_plan 176 = .ok (.getfield 180, 3) := by decide +kernel
theorem dX9_plan_179 : decode cX9_plan 179 = .ok (.putfield 215, 3) := by decide +kernel
theorem dX9_plan_182 : decode cX9_plan 182 = .ok (.aload_n 0, 1) := by decide +kernel
theorem dX9_plan_183 : decode cX9_plan 183 = .ok (.aload_n 0, 1) := by decide +kernel
theorem dX9_plan_184 : decode cX9_plan 184 = .ok (.getfield 170, 3) := by decide +kernel
theorem dX9_plan_187 : decode cX9_plan 187 = .ok (.putfield 218, 3) := by decide +kernel
theorem dX9_plan_190 : decode cX9_plan 190 = .ok (.aload_n 0, 1) := by decide +kernel
theorem dX9_plan_191 : decode cX9_plan 191 = .ok (.aload_n 0, 1) := by decide +kernel
theorem dX9_plan_192 : decode cX9_plan 192 = .ok (.getfield 193, 3) := by decide +kernel
theorem dX9_plan_195 : decode cX9_plan 195 = .ok (.putfield 221, 3) := by decide +kernel
theorem dX9_plan_198 : decode cX9_plan 198 = .ok (.iconst 0, 1) := by decide +kernel
theorem dX9_plan_199 : decode cX9_plan 199 = .ok (.istore_n 1, 1) := by decide +kernel
theorem dX9_plan_200 : decode cX9_plan 200 = .ok (.iload_n 1, 1) := by decide +kernel
theorem dX9_plan_201 : decode cX9_plan 201 = .ok (.sipush 160, 3) := by decide +kernel
theorem dX9_plan_204 : decode cX9_plan 204 = .ok (.if_icmp .ge 21, 3) := by decide +kernel
theorem dX9_plan_207 : decode cX9_plan 207 = .ok (.aload_n 0, 1) := by decide +kernel
theorem dX9_plan_208 : decode cX9_plan 208 = .ok (.getfield 19, 3) := by decide +kernel
theorem dX9_plan_211 : decode cX9_plan 211 = .ok (.iload_n 1, 1) := by decide +kernel
theorem dX9_plan_212 : decode cX9_plan 212 = .ok (.aload_n 0, 1) := by decide +kernel
theorem dX9_plan_213 : decode cX9_plan 213 = .ok (.getfield 28, 3) := by decide +kernel
theorem dX9_plan_216 : decode cX9_plan 216 = .ok (.iload_n 1, 1) := by decide +kernel
theorem dX9_plan_217 : decode cX9_plan 217 = .ok (.iaload, 1) := by decide +kernel
theorem dX9_plan_218 : decode cX9_plan 218 = .ok (.iastore, 1) := by decide +kernel
theorem dX9_plan_219 : decode cX9_plan 219 = .ok (.iinc 1 1, 3) := by decide +kernel
theorem dX9_plan_222 : decode cX9_plan 222 = .ok (.goto (-22), 3) := by decide +kernel
theorem dX9_plan_225 : decode cX9_plan 225 = .ok (.iconst 0, 1) := by decide +kernel
theorem dX9_plan_226 : decode cX9_plan 226 = .ok (.istore_n 1, 1) := by decide +kernel
theorem dX9_plan_227 : decode cX9_plan 227 = .ok (.iload_n 1, 1) := by decide +kernel
theorem dX9_plan_228 : decode cX9_plan 228 = .ok (.bipush 10, 2) := by decide +kernel
theorem dX9_plan_230 : decode cX9_plan 230 = .ok (.if_icmp .ge 33, 3) := by decide +kernel
theorem dX9_plan_233 : decode cX9_plan 233 = .ok (.aload_n 0, 1) := by decide +kernel
theorem dX9_plan_234 : decode cX9_plan 234 = .ok (.getfield 22, 3) := by decide +kernel
theorem dX9_plan_237 : decode cX9_plan 237 = .ok (.iload_n 1, 1) := by decide +kernel
theorem dX9_plan_238 : decode cX9_plan 238 = .ok (.aload_n 0, 1) := by decide +kernel
theorem dX9_plan_239 : decode cX9_plan 239 = .ok (.getfield 31, 3) := by decide +kernel
theorem dX9_plan_242 : decode cX9_plan 242 = .ok (.iload_n 1, 1) := by decide +kernel
theorem dX9_plan_243 : decode cX9_plan 243 = .ok (.iaload, 1) := by decide +kernel
theorem dX9_plan_244 : decode cX9_plan 244 = .ok (.iastore, 1) := by decide +kernel
theorem dX9_plan_245 : decode cX9_plan 245 = .ok (.aload_n 0, 1) := by decide +kernel
theorem dX9_plan_246 : decode cX9_plan 246 = .ok (.getfield 25, 3) := by decide +kernel
theorem dX9_plan_249 : decode cX9_plan 249 = .ok (.iload_n 1, 1) := by decide +kernel
theorem dX9_plan_250 : decode cX9_plan 250 = .ok (.aload_n 0, 1) := by decide +kernel
theorem dX9_plan_251 : decode cX9_plan 251 = .ok (.getfield 34, 3) := by decide +kernel
theorem dX9_plan_254 : decode cX9_plan 254 = .ok (.iload_n 1, 1) := by decide +kernel
theorem dX9_plan_255 : decode cX9_plan 255 = .ok (.iaload, 1) := by decide +kernel
theorem dX9_plan_256 : decode cX9_plan 256 = .ok (.iastore, 1) := by decide +kernel
theorem dX9_plan_257 : decode cX9_plan 257 = .ok (.iinc 1 1, 3) := by decide +kernel
theorem dX9_plan_260 : decode cX9_plan 260 = .ok (.goto (-33), 3) := by decide +kernel
theorem dX9_plan_263 : decode cX9_plan 263 = .ok (.iconst 0, 1) := by decide +kernel
theorem dX9_plan_264 : decode cX9_plan 264 = .ok (.istore_n 1, 1) := by decide +kernel
theorem dX9_plan_265 : decode cX9_plan 265 = .ok (.iload_n 1, 1) := by decide +kernel
theorem dX9_plan_266 : decode cX9_plan 266 = .ok (.bipush 12, 2) := by decide +kernel
theorem dX9_plan_268 : decode cX9_plan 268 = .ok (.if_icmp .ge 16, 3) := by decide +kernel
theorem dX9_plan_271 : decode cX9_plan 271 = .ok (.aload_n 0, 1) := by decide +kernel
theorem dX9_plan_272 : decode cX9_plan 272 = .ok (.getfield 40, 3) := by decide +kernel
theorem dX9_plan_275 : decode cX9_plan 275 = .ok (.iload_n 1, 1) := by decide +kernel
theorem dX9_plan_276 : decode cX9_plan 276 = .ok (.iconst 0, 1) := by decide +kernel
theorem dX9_plan_277 : decode cX9_plan 277 = .ok (.iastore, 1) := by decide +kernel
theorem dX9_plan_278 : decode cX9_plan 278 = .ok (.iinc 1 1, 3) := by decide +kernel
theorem dX9_plan_281 : decode cX9_plan 281 = .ok (.goto (-16), 3) := by decide +kernel
theorem dX9_plan_284 : decode cX9_plan 284 = .ok (.aload_n 0, 1) := by decide +kernel
theorem dX9_plan_285 : decode cX9_plan 285 = .ok (.iconst 0, 1) := by decide +kernel
theorem dX9_plan_286 : decode cX9_plan 286 = .ok (.putfield 224, 3) := by decide +kernel
theorem dX9_plan_289 : decode cX9_plan 289 = .ok (.iconst 0, 1) := by decide +kernel
theorem dX9_plan_290 : decode cX9_plan 290 = .ok (.istore_n 1, 1) := by decide +kernel
theorem dX9_plan_291 : decode cX9_plan 291 = .ok (.iload_n 1, 1) := by decide +kernel
theorem dX9_plan_292 : decode cX9_plan 292 = .ok (.bipush 6, 2) := by decide +kernel
theorem dX9_plan_294 : decode cX9_plan 294 = .ok (.if_icmp .ge 16, 3) := by decide +kernel
theorem dX9_plan_297 : decode cX9_plan 297 = .ok (.aload_n 0, 1) := by decide +kernel
theorem dX9_plan_298 : decode cX9_plan 298 = .ok (.getfield 43, 3) := by decide +kernel
theorem dX9_plan_301 : decode cX9_plan 301 = .ok (.iload_n 1, 1) := by decide +kernel
theorem dX9_plan_302 : decode cX9_plan 302 = .ok (.iload_n 1, 1) := by decide +kernel
theorem dX9_plan_303 : decode cX9_plan 303 = .ok (.iastore, 1) := by decide +kernel
theorem dX9_plan_304 : decode cX9_plan 304 = .ok (.iinc 1 1, 3) := by decide +kernel
theorem dX9_plan_307 : decode cX9_plan 307 = .ok (.goto (-16), 3) := by decide +kernel
theorem dX9_plan_310 : decode cX9_plan 310 = .ok (.aload_n 0, 1) := by decide +kernel
theorem dX9_plan_311 : decode cX9_plan 311 = .ok (.getfield 218, 3) := by decide +kernel
theorem dX9_plan_314 : decode cX9_plan 314 = .ok (.ireturn, 1) := by decide +kernel
theorem dX9_fault_0 : decode cX9_fault 0 = .ok (.aload_n 0, 1) := by decide +kernel
theorem dX9_fault_1 : decode cX9_fault 1 = .ok (.iconst 0, 1) := by decide +kernel
theorem dX9_fault_2 : decode cX9_fault 2 = .ok (.putfield 71, 3) := by decide +kernel
theorem dX9_fault_5 : decode cX9_fault 5 = .ok (.aload_n 0, 1) := by decide +kernel
theorem dX9_fault_6 : decode cX9_fault 6 = .ok (.getfield 208, 3) := by decide +kernel
theorem dX9_fault_9 : decode cX9_fault 9 = .ok (.ireturn, 1) := by decide +kernel
theorem dX9_isAct_0 : decode cX9_isAct 0 = .ok (.iload_n 1, 1) := by decide +kernel
theorem dX9_isAct_1 : decode cX9_isAct 1 = .ok (.i2l, 1) := by decide +kernel
theorem dX9_isAct_2 : decode cX9_isAct 2 = .ok (.lconst 0, 1) := by decide +kernel
theorem dX9_isAct_3 : decode cX9_isAct 3 = .ok (.aload_n 0, 1) := by decide +kernel
theorem dX9_isAct_4 : decode cX9_isAct 4 = .ok (.getfield 218, 3) := by decide +kernel
theorem dX9_isAct_7 : decode cX9_isAct 7 = .ok (.iconst 1, 1) := by decide +kernel
theorem dX9_isAct_8 : decode cX9_isAct 8 = .ok (.isub, 1) := by decide +kernel
theorem dX9_isAct_9 : decode cX9_isAct 9 = .ok (.i2l, 1) := by decide +kernel
theorem dX9_isAct_10 : decode cX9_isAct 10 = .ok (.invokestatic 81, 3) := by decide +kernel
theorem dX9_isAct_13 : decode cX9_isAct 13 = .ok (.ireturn, 1) := by decide +kernel
theorem dX9_isCell_0 : decode cX9_isCell 0 = .ok (.iload_n 1, 1) := by decide +kernel
theorem dX9_isCell_1 : decode cX9_isCell 1 = .ok (.i2l, 1) := by decide +kernel
theorem dX9_isCell_2 : decode cX9_isCell 2 = .ok (.lconst 0, 1) := by decide +kernel
theorem dX9_isCell_3 : decode cX9_isCell 3 = .ok (.aload_n 0, 1) := by decide +kernel
theorem dX9_isCell_4 : decode cX9_isCell 4 = .ok (.getfield 212, 3) := by decide +kernel
theorem dX9_isCell_7 : decode cX9_isCell 7 = .ok (.iconst 1, 1) := by decide +kernel
theorem dX9_isCell_8 : decode cX9_isCell 8 = .ok (.isub, 1) := by decide +kernel
theorem dX9_isCell_9 : decode cX9_isCell 9 = .ok (.i2l, 1) := by decide +kernel
theorem dX9_isCell_10 : decode cX9_isCell 10 = .ok (.invokestatic 81, 3) := by decide +kernel
theorem dX9_isCell_13 : decode cX9_isCell 13 = .ok (.ireturn, 1) := by decide +kernel
theorem dX9_act_0 : decode cX9_act 0 = .ok (.aload_n 0, 1) := by decide +kernel
theorem dX9_act_1 : decode cX9_act 1 = .ok (.iconst 0, 1) := by decide +kernel
theorem dX9_act_2 : decode cX9_act 2 = .ok (.putfield 71, 3) := by decide +kernel
theorem dX9_act_5 : decode cX9_act 5 = .ok (.aload_n 0, 1) := by decide +kernel
theorem dX9_act_6 : decode cX9_act 6 = .ok (.iload_n 1, 1) := by decide +kernel
theorem dX9_act_7 : decode cX9_act 7 = .ok (.invokevirtual 228, 3) := by decide +kernel
theorem dX9_act_10 : decode cX9_act 10 = .ok (.ifCond .eq 15, 3) := by decide +kernel
theorem dX9_act_13 : decode cX9_act 13 = .ok (.iload_n 2, 1) := by decide +kernel
theorem dX9_act_14 : decode cX9_act 14 = .ok (.i2l, 1) := by decide +kernel
theorem dX9_act_15 : decode cX9_act 15 = .ok (.lconst 0, 1) := by decide +kernel
theorem dX9_act_16 : decode cX9_act 16 = .ok (.ldc2_w 231, 3) := by decide +kernel
theorem dX9_act_19 : decode cX9_act 19 = .ok (.invokestatic 81, 3) := by decide +kernel
theorem dX9_act_22 : decode cX9_act 22 = .ok (.ifCond .ne 8, 3) := by decide +kernel
theorem dX9_act_25 : decode cX9_act 25 = .ok (.ldc 91, 2) := by decide +kernel
theorem dX9_act_27 : decode cX9_act 27 = .ok (.goto 23, 3) := by decide +kernel
theorem dX9_act_30 : decode cX9_act 30 = .ok (.aload_n 0, 1) := by decide +kernel
theorem dX9_act_31 : decode cX9_act 31 = .ok (.getfield 19, 3) := by decide +kernel
theorem dX9_act_34 : decode cX9_act 34 = .ok (.iconst 4, 1) := by decide +kernel
theorem dX9_act_35 : decode cX9_act 35 = .ok (.iload_n 1, 1) := by decide +kernel
theorem dX9_act_36 : decode cX9_act 36 = .ok (.imul, 1) := by decide +kernel
theorem dX9_act_37 : decode cX9_act 37 = .ok (.iload_n 2, 1) := by decide +kernel
theorem dX9_act_38 : decode cX9_act 38 = .ok (.iadd, 1) := by decide +kernel
theorem dX9_act_39 : decode cX9_act 39 = .ok (.iaload, 1) := by decide +kernel
theorem dX9_act_40 : decode cX9_act 40 = .ok (.iload_n 2, 1) := by decide +kernel
theorem dX9_act_41 : decode cX9_act 41 = .ok (.ifCond .ne 7, 3) := by decide +kernel
theorem dX9_act_44 : decode cX9_act 44 = .ok (.iconst 1, 1) := by decide +kernel
theorem dX9_act_45 : decode cX9_act 45 = .ok (.goto 4, 3) := by decide +kernel
theorem dX9_act_48 : decode cX9_act 48 = .ok (.iconst 0, 1) := by decide +kernel
theorem dX9_act_49 : decode cX9_act 49 = .ok (.isub, 1) := by decide +kernel
theorem dX9_act_50 : decode cX9_act 50 = .ok (.ireturn, 1) := by decide +kernel
theorem dX9_open_0 : decode cX9_open 0 = .ok (.aload_n 0, 1) := by decide +kernel
theorem dX9_open_1 : decode cX9_open 1 = .ok (.iconst 0, 1) := by decide +kernel
theorem dX9_open_2 : decode cX9_open 2 = .ok (.putfield 71, 3) := by decide +kernel
theorem dX9_open_5 : decode cX9_open 5 = .ok (.aload_n 0, 1) := by decide +kernel
theorem dX9_open_6 : decode cX9_open 6 = .ok (.iload_n 1, 1) := by decide +kernel
theorem dX9_open_7 : decode cX9_open 7 = .ok (.invokevirtual 233, 3) := by decide +kernel
theorem dX9_open_10 : decode cX9_open 10 = .ok (.ifCond .eq 17, 3) := by decide +kernel
theorem dX9_open_13 : decode cX9_open 13 = .ok (.iload_n 2, 1) := by decide +kernel
theorem dX9_open_14 : decode cX9_open 14 = .ok (.i2l, 1) := by decide +kernel
theorem dX9_open_15 : decode cX9_open 15 = .ok (.ldc2_w 236, 3) := by decide +kernel
theorem dX9_open_18 : decode cX9_open 18 = .ok (.ldc2_w 238, 3) := by decide +kernel
theorem dX9_open_21 : decode cX9_open 21 = .ok (.invokestatic 81, 3) := by decide +kernel
theorem dX9_open_24 : decode cX9_open 24 = .ok (.ifCond .ne 6, 3) := by decide +kernel
theorem dX9_open_27 : decode cX9_open 27 = .ok (.ldc 91, 2) := by decide +kernel
theorem dX9_open_29 : decode cX9_open 29 = .ok (.ireturn, 1) := by decide +kernel
theorem dX9_open_30 : decode cX9_open 30 = .ok (.aload_n 0, 1) := by decide +kernel
theorem dX9_open_31 : decode cX9_open 31 = .ok (.getfield 40, 3) := by decide +kernel
theorem dX9_open_34 : decode cX9_open 34 = .ok (.iload_n 1, 1) := by decide +kernel
theorem dX9_open_35 : decode cX9_open 35 = .ok (.iaload, 1) := by decide +kernel
theorem dX9_open_36 : decode cX9_open 36 = .ok (.istore_n 3, 1) := by decide +kernel
theorem dX9_open_37 : decode cX9_open 37 = .ok (.aload_n 0, 1) := by decide +kernel
theorem dX9_open_38 : decode cX9_open 38 = .ok (.getfield 40, 3) := by decide +kernel
theorem dX9_open_41 : decode cX9_open 41 = .ok (.iload_n 1, 1) := by decide +kernel
theorem dX9_open_42 : decode cX9_open 42 = .ok (.iload_n 2, 1) := by decide +kernel
theorem dX9_open_43 : decode cX9_open 43 = .ok (.iastore, 1) := by decide +kernel
theorem dX9_open_44 : decode cX9_open 44 = .ok (.iload_n 3, 1) := by decide +kernel
theorem dX9_open_45 : decode cX9_open 45 = .ok (.ireturn, 1) := by decide +kernel
theorem dX9_minute_0 : decode cX9_minute 0 = .ok (.iconst 0, 1) := by decide +kernel
theorem dX9_minute_1 : decode cX9_minute 1 = .ok (.istore_n 1, 1) := by decide +kernel
theorem dX9_minute_2 : decode cX9_minute 2 = .ok (.iload_n 1, 1) := by decide +kernel
theorem dX9_minute_3 : decode cX9_minute 3 = .ok (.aload_n 0, 1) := by decide +kernel
theorem dX9_minute_4 : decode cX9_minute 4 = .ok (.getfield 212, 3) := by decide +kernel
theorem dX9_minute_7 : decode cX9_minute 7 = .ok (.if_icmp .ge 29, 3) := by decide +kernel
theorem dX9_minute_10 : decode cX9_minute 10 = .ok (.aload_n 0, 1) := by decide +kernel
theorem dX9_minute_11 : decode cX9_minute 11 = .ok (.getfield 46, 3) := by decide +kernel
theorem dX9_minute_14 : decode cX9_minute 14 = .ok (.iconst 0, 1) := by decide +kernel
theorem dX9_minute_15 : decode cX9_minute 15 = .ok (.iload_n 1, 1) := by decide +kernel
theorem dX9_minute_16 : decode cX9_minute 16 = .ok (.iadd, 1) := by decide +kernel
theorem dX9_minute_17 : decode cX9_minute 17 = .ok (.iconst 3, 1) := by decide +kernel
theorem dX9_minute_18 : decode cX9_minute 18 = .ok (.aload_n 0, 1) := by decide +kernel
theorem dX9_minute_19 : decode cX9_minute 19 = .ok (.getfield 46, 3) := by decide +kernel
theorem dX9_minute_22 : decode cX9_minute 22 = .ok (.iconst 0, 1) := by decide +kernel
theorem dX9_minute_23 : decode cX9_minute 23 = .ok (.iload_n 1, 1) := by decide +kernel
theorem dX9_minute_24 : decode cX9_minute 24 = .ok (.iadd, 1) := by decide +kernel
theorem dX9_minute_25 : decode cX9_minute 25 = .ok (.iaload, 1) := by decide +kernel
theorem dX9_minute_26 : decode cX9_minute 26 = .ok (.imul, 1) := by decide +kernel
theorem dX9_minute_27 : decode cX9_minute 27 = .ok (.iconst 4, 1) := by decide +kernel
theorem dX9_minute_28 : decode cX9_minute 28 = .ok (.idiv, 1) := by decide +kernel
theorem dX9_minute_29 : decode cX9_minute 29 = .ok (.iastore, 1) := by decide +kernel
theorem dX9_minute_30 : decode cX9_minute 30 = .ok (.iinc 1 1, 3) := by decide +kernel
theorem dX9_minute_33 : decode cX9_minute 33 = .ok (.goto (-31), 3) := by decide +kernel
theorem dX9_minute_36 : decode cX9_minute 36 = .ok (.aload_n 0, 1) := by decide +kernel
theorem dX9_minute_37 : decode cX9_minute 37 = .ok (.dup, 1) := by decide +kernel
theorem dX9_minute_38 : decode cX9_minute 38 = .ok (.getfield 240, 3) := by decide +kernel
theorem dX9_minute_41 : decode cX9_minute 41 = .ok (.iconst 1, 1) := by decide +kernel
theorem dX9_minute_42 : decode cX9_minute 42 = .ok (.iadd, 1) := by decide +kernel
theorem dX9_minute_43 : decode cX9_minute 43 = .ok (.putfield 240, 3) := by decide +kernel
theorem dX9_minute_46 : decode cX9_minute 46 = .ok (.return_, 1) := by decide +kernel
theorem dX9_holds_0 : decode cX9_holds 0 = .ok (.aload_n 0, 1) := by decide +kernel
theorem dX9_holds_1 : decode cX9_holds 1 = .ok (.iload_n 1, 1) := by decide +kernel
theorem dX9_holds_2 : decode cX9_holds 2 = .ok (.invokevirtual 233, 3) := by decide +kernel
theorem dX9_holds_5 : decode cX9_holds 5 = .ok (.ifCond .eq 19, 3) := by decide +kernel
theorem dX9_holds_8 : decode cX9_holds 8 = .ok (.aload_n 0, 1) := by decide +kernel
theorem dX9_holds_9 : decode cX9_holds 9 = .ok (.getfield 46, 3) := by decide +kernel
theorem dX9_holds_12 : decode cX9_holds 12 = .ok (.bipush 12, 2) := by decide +kernel
theorem dX9_holds_14 : decode cX9_holds 14 = .ok (.iload_n 1, 1) := by decide +kernel
theorem dX9_holds_15 : decode cX9_holds 15 = .ok (.iadd, 1) := by decide +kernel
theorem dX9_holds_16 : decode cX9_holds 16 = .ok (.iaload, 1) := by decide +kernel
theorem dX9_holds_17 : decode cX9_holds 17 = .ok (.ifCond .le 7, 3) := by decide +kernel
theorem dX9_holds_20 : decode cX9_holds 20 = .ok (.iconst 1, 1) := by decide +kernel
theorem dX9_holds_21 : decode cX9_holds 21 = .ok (.goto 4, 3) := by decide +kernel
theorem dX9_holds_24 : decode cX9_holds 24 = .ok (.iconst 0, 1) := by decide +kernel
theorem dX9_holds_25 : decode cX9_holds 25 = .ok (.ireturn, 1) := by decide +kernel
theorem dX9_shrinks_0 : decode cX9_shrinks 0 = .ok (.iload_n 3, 1) := by decide +kernel
theorem dX9_shrinks_1 : decode cX9_shrinks 1 = .ok (.aload_n 0, 1) := by decide +kernel
theorem dX9_shrinks_2 : decode cX9_shrinks 2 = .ok (.iload_n 2, 1) := by decide +kernel
theorem dX9_shrinks_3 : decode cX9_shrinks 3 = .ok (.iconst 1, 1) := by decide +kernel
theorem dX9_shrinks_4 : decode cX9_shrinks 4 = .ok (.iadd, 1) := by decide +kernel
theorem dX9_shrinks_5 : decode cX9_shrinks 5 = .ok (.invokevirtual 243, 3) := by decide +kernel
theorem dX9_shrinks_8 : decode cX9_shrinks 8 = .ok (.ifCond .eq 7, 3) := by decide +kernel
theorem dX9_shrinks_11 : decode cX9_shrinks 11 = .ok (.iconst 1, 1) := by decide +kernel
theorem dX9_shrinks_12 : decode cX9_shrinks 12 = .ok (.goto 4, 3) := by decide +kernel
theorem dX9_shrinks_15 : decode cX9_shrinks 15 = .ok (.iconst 0, 1) := by decide +kernel
theorem dX9_shrinks_16 : decode cX9_shrinks 16 = .ok (.isub, 1) := by decide +kernel
theorem dX9_shrinks_17 : decode cX9_shrinks 17 = .ok (.istore 4, 2) := by decide +kernel
theorem dX9_shrinks_19 : decode cX9_shrinks 19 = .ok (.iload_n 1, 1) := by decide +kernel
theorem dX9_shrinks_20 : decode cX9_shrinks 20 = .ok (.tableswitch 116 1 7 #[44, 116, 46, 49, 78, 94, 97], 44) := by decide +kernel
theorem dX9_shrinks_64 : decode cX9_shrinks 64 = .ok (.iconst 1, 1) := by decide +kernel
theorem dX9_shrinks_65 : decode cX9_shrinks 65 = .ok (.ireturn, 1) := by decide +kernel
theorem dX9_shrinks_66 : decode cX9_shrinks 66 = .ok (.iload 4, 2) := by decide +kernel
theorem dX9_shrinks_68 : decode cX9_shrinks 68 = .ok (.ireturn, 1) := by decide +kernel
theorem dX9_shrinks_69 : decode cX9_shrinks 69 = .ok (.iload 4, 2) := by decide +kernel
theorem dX9_shrinks_71 : decode cX9_shrinks 71 = .ok (.aload_n 0, 1) := by decide +kernel
theorem dX9_shrinks_72 : decode cX9_shrinks 72 = .ok (.iload_n 2, 1) := by decide +kernel
theorem dX9_shrinks_73 : decode cX9_shrinks 73 = .ok (.iconst 1, 1) := by decide +kernel
theorem dX9_shrinks_74 : decode cX9_shrinks 74 = .ok (.isub, 1) := by decide +kernel
theorem dX9_shrinks_75 : decode cX9_shrinks 75 = .ok (.invokevirtual 243, 3) := by decide +kernel
theorem dX9_shrinks_78 : decode cX9_shrinks 78 = .ok (.ifCond .ne 13, 3) := by decide +kernel
theorem dX9_shrinks_81 : decode cX9_shrinks 81 = .ok (.aload_n 0, 1) := by decide +kernel
theorem dX9_shrinks_82 : decode cX9_shrinks 82 = .ok (.iload_n 2, 1) := by decide +kernel
theorem dX9_shrinks_83 : decode cX9_shrinks 83 = .ok (.iconst 1, 1) := by decide +kernel
theorem dX9_shrinks_84 : decode cX9_shrinks 84 = .ok (.iadd, 1) := by decide +kernel
theorem dX9_shrinks_85 : decode cX9_shrinks 85 = .ok (.invokevirtual 243, 3) := by decide +kernel
theorem dX9_shrinks_88 : decode cX9_shrinks 88 = .ok (.ifCond .eq 7, 3) := by decide +kernel
theorem dX9_shrinks_91 : decode cX9_shrinks 91 = .ok (.iconst 0, 1) := by decide +kernel
theorem dX9_shrinks_92 : decode cX9_shrinks 92 = .ok (.goto 4, 3) := by decide +kernel
theorem dX9_shrinks_95 : decode cX9_shrinks 95 = .ok (.iconst 1, 1) := by decide +kernel
theorem dX9_shrinks_96 : decode cX9_shrinks 96 = .ok (.isub, 1) := by decide +kernel
theorem dX9_shrinks_97 : decode cX9_shrinks 97 = .ok (.ireturn, 1) := by decide +kernel
theorem dX9_shrinks_98 : decode cX9_shrinks 98 = .ok (.aload_n 0, 1) := by decide +kernel
theorem dX9_shrinks_99 : decode cX9_shrinks 99 = .ok (.iload_n 2, 1) := by decide +kernel
theorem dX9_shrinks_100 : decode cX9_shrinks 100 = .ok (.invokevirtual 243, 3) := by decide +kernel
theorem dX9_shrinks_103 : decode cX9_shrinks 103 = .ok (.ifCond .eq 9, 3) := by decide +kernel
theorem dX9_shrinks_106 : decode cX9_shrinks 106 = .ok (.iload_n 3, 1) := by decide +kernel
theorem dX9_shrinks_107 : decode cX9_shrinks 107 = .ok (.iconst 2, 1) := by decide +kernel
theorem dX9_shrinks_108 : decode cX9_shrinks 108 = .ok (.idiv, 1) := by decide +kernel
theorem dX9_shrinks_109 : decode cX9_shrinks 109 = .ok (.goto 4, 3) := by decide +kernel
theorem dX9_shrinks_112 : decode cX9_shrinks 112 = .ok (.iload_n 3, 1) := by decide +kernel
theorem dX9_shrinks_113 : decode cX9_shrinks 113 = .ok (.ireturn, 1) := by decide +kernel
theorem dX9_shrinks_114 : decode cX9_shrinks 114 = .ok (.iload_n 3, 1) := by decide +kernel
theorem dX9_shrinks_115 : decode cX9_shrinks 115 = .ok (.ineg, 1) := by decide +kernel
theorem dX9_shrinks_116 : decode cX9_shrinks 116 = .ok (.ireturn, 1) := by decide +kernel
theorem dX9_shrinks_117 : decode cX9_shrinks 117 = .ok (.aload_n 0, 1) := by decide +kernel
theorem dX9_shrinks_118 : decode cX9_shrinks 118 = .ok (.getfield 46, 3) := by decide +kernel
theorem dX9_shrinks_121 : decode cX9_shrinks 121 = .ok (.bipush 24, 2) := by decide +kernel
theorem dX9_shrinks_123 : decode cX9_shrinks 123 = .ok (.iload_n 2, 1) := by decide +kernel
theorem dX9_shrinks_124 : decode cX9_shrinks 124 = .ok (.iadd, 1) := by decide +kernel
theorem dX9_shrinks_125 : decode cX9_shrinks 125 = .ok (.iaload, 1) := by decide +kernel
theorem dX9_shrinks_126 : decode cX9_shrinks 126 = .ok (.ifCond .le 8, 3) := by decide +kernel
theorem dX9_shrinks_129 : decode cX9_shrinks 129 = .ok (.iload_n 3, 1) := by decide +kernel
theorem dX9_shrinks_130 : decode cX9_shrinks 130 = .ok (.ineg, 1) := by decide +kernel
theorem dX9_shrinks_131 : decode cX9_shrinks 131 = .ok (.goto 4, 3) := by decide +kernel
theorem dX9_shrinks_134 : decode cX9_shrinks 134 = .ok (.iload_n 3, 1) := by decide +kernel
theorem dX9_shrinks_135 : decode cX9_shrinks 135 = .ok (.ireturn, 1) := by decide +kernel
theorem dX9_shrinks_136 : decode cX9_shrinks 136 = .ok (.iload_n 3, 1) := by decide +kernel
theorem dX9_shrinks_137 : decode cX9_shrinks 137 = .ok (.ireturn, 1) := by decide +kernel
theorem dX9_step_0 : decode cX9_step 0 = .ok (.bipush 8, 2) := by decide +kernel
theorem dX9_step_2 : decode cX9_step 2 = .ok (.aload_n 0, 1) := by decide +kernel
theorem dX9_step_3 : decode cX9_step 3 = .ok (.iload_n 1, 1) := by decide +kernel
theorem dX9_step_4 : decode cX9_step 4 = .ok (.iload_n 2, 1) := by decide +kernel
theorem dX9_step_5 : decode cX9_step 5 = .ok (.iload_n 3, 1) := by decide +kernel
theorem dX9_step_6 : decode cX9_step 6 = .ok (.invokevirtual 246, 3) := by decide +kernel
theorem dX9_step_9 : decode cX9_step 9 = .ok (.imul, 1) := by decide +kernel
theorem dX9_step_10 : decode cX9_step 10 = .ok (.bipush 8, 2) := by decide +kernel
theorem dX9_step_12 : decode cX9_step 12 = .ok (.aload_n 0, 1) := by decide +kernel
theorem dX9_step_13 : decode cX9_step 13 = .ok (.getfield 46, 3) := by decide +kernel
theorem dX9_step_16 : decode cX9_step 16 = .ok (.bipush 12, 2) := by decide +kernel
theorem dX9_step_18 : decode cX9_step 18 = .ok (.iload_n 2, 1) := by decide +kernel
theorem dX9_step_19 : decode cX9_step 19 = .ok (.iadd, 1) := by decide +kernel
theorem dX9_step_20 : decode cX9_step 20 = .ok (.iaload, 1) := by decide +kernel
theorem dX9_step_21 : decode cX9_step 21 = .ok (.iadd, 1) := by decide +kernel
theorem dX9_step_22 : decode cX9_step 22 = .ok (.idiv, 1) := by decide +kernel
theorem dX9_step_23 : decode cX9_step 23 = .ok (.istore 4, 2) := by decide +kernel
theorem dX9_step_25 : decode cX9_step 25 = .ok (.aload_n 0, 1) := by decide +kernel
theorem dX9_step_26 : decode cX9_step 26 = .ok (.getfield 46, 3) := by decide +kernel
theorem dX9_step_29 : decode cX9_step 29 = .ok (.iconst 0, 1) := by decide +kernel
theorem dX9_step_30 : decode cX9_step 30 = .ok (.iload_n 2, 1) := by decide +kernel
theorem dX9_step_31 : decode cX9_step 31 = .ok (.iadd, 1) := by decide +kernel
theorem dX9_step_32 : decode cX9_step 32 = .ok (.iaload, 1) := by decide +kernel
theorem dX9_step_33 : decode cX9_step 33 = .ok (.bipush 100, 2) := by decide +kernel
theorem dX9_step_35 : decode cX9_step 35 = .ok (.if_icmp .lt 10, 3) := by decide +kernel
theorem dX9_step_38 : decode cX9_step 38 = .ok (.iload 4, 2) := by decide +kernel
theorem dX9_step_40 : decode cX9_step 40 = .ok (.iconst 2, 1) := by decide +kernel
theorem dX9_step_41 : decode cX9_step 41 = .ok (.idiv, 1) := by decide +kernel
theorem dX9_step_42 : decode cX9_step 42 = .ok (.goto 5, 3) := by decide +kernel
theorem dX9_step_45 : decode cX9_step 45 = .ok (.iload 4, 2) := by decide +kernel
theorem dX9_step_47 : decode cX9_step 47 = .ok (.istore 4, 2) := by decide +kernel
theorem dX9_step_49 : decode cX9_step 49 = .ok (.aload_n 0, 1) := by decide +kernel
theorem dX9_step_50 : decode cX9_step 50 = .ok (.getfield 52, 3) := by decide +kernel
theorem dX9_step_53 : decode cX9_step 53 = .ok (.iload_n 2, 1) := by decide +kernel
theorem dX9_step_54 : decode cX9_step 54 = .ok (.baload, 1) := by decide +kernel
theorem dX9_step_55 : decode cX9_step 55 = .ok (.ifCond .eq 17, 3) := by decide +kernel
theorem dX9_step_58 : decode cX9_step 58 = .ok (.aload_n 0, 1) := by decide +kernel
theorem dX9_step_59 : decode cX9_step 59 = .ok (.getfield 49, 3) := by decide +kernel
theorem dX9_step_62 : decode cX9_step 62 = .ok (.iload_n 2, 1) := by decide +kernel
theorem dX9_step_63 : decode cX9_step 63 = .ok (.dup2, 1) := by decide +kernel
theorem dX9_step_64 : decode cX9_step 64 = .ok (.iaload, 1) := by decide +kernel
theorem dX9_step_65 : decode cX9_step 65 = .ok (.iload 4, 2) := by decide +kernel
theorem dX9_step_67 : decode cX9_step 67 = .ok (.iadd, 1) := by decide +kernel
theorem dX9_step_68 : decode cX9_step 68 = .ok (.iastore, 1) := by decide +kernel
theorem dX9_step_69 : decode cX9_step 69 = .ok (.goto 17, 3) := by decide +kernel
theorem dX9_step_72 : decode cX9_step 72 = .ok (.aload_n 0, 1) := by decide +kernel
theorem dX9_step_73 : decode cX9_step 73 = .ok (.getfield 46, 3) := by decide +kernel
theorem dX9_step_76 : decode cX9_step 76 = .ok (.bipush 24, 2) := by decide +kernel
theorem dX9_step_78 : decode cX9_step 78 = .ok (.iload_n 2, 1) := by decide +kernel
theorem dX9_step_79 : decode cX9_step 79 = .ok (.iadd, 1) := by decide +kernel
theorem dX9_step_80 : decode cX9_step 80 = .ok (.dup2, 1) := by decide +kernel
theorem dX9_step_81 : decode cX9_step 81 = .ok (.iaload, 1) := by decide +kernel
theorem dX9_step_82 : decode cX9_step 82 = .ok (.iload 4, 2) := by decide +kernel
theorem dX9_step_84 : decode cX9_step 84 = .ok (.iadd, 1) := by decide +kernel
theorem dX9_step_85 : decode cX9_step 85 = .ok (.iastore, 1) := by decide +kernel
theorem dX9_step_86 : decode cX9_step 86 = .ok (.iconst 0, 1) := by decide +kernel
theorem dX9_step_87 : decode cX9_step 87 = .ok (.istore 5, 2) := by decide +kernel
theorem dX9_step_89 : decode cX9_step 89 = .ok (.iload 5, 2) := by decide +kernel
theorem dX9_step_91 : decode cX9_step 91 = .ok (.aload_n 0, 1) := by decide +kernel
theorem dX9_step_92 : decode cX9_step 92 = .ok (.getfield 212, 3) := by decide +kernel
theorem dX9_step_95 : decode cX9_step 95 = .ok (.if_icmp .ge 43, 3) := by decide +kernel
theorem dX9_step_98 : decode cX9_step 98 = .ok (.aload_n 0, 1) := by decide +kernel
theorem dX9_step_99 : decode cX9_step 99 = .ok (.getfield 46, 3) := by decide +kernel
theorem dX9_step_102 : decode cX9_step 102 = .ok (.bipush 36, 2) := by decide +kernel
theorem dX9_step_104 : decode cX9_step 104 = .ok (.iload 5, 2) := by decide +kernel
theorem dX9_step_106 : decode cX9_step 106 = .ok (.iadd, 1) := by decide +kernel
theorem dX9_step_107 : decode cX9_step 107 = .ok (.dup2, 1) := by decide +kernel
theorem dX9_step_108 : decode cX9_step 108 = .ok (.iaload, 1) := by decide +kernel
theorem dX9_step_109 : decode cX9_step 109 = .ok (.iload 5, 2) := by decide +kernel
theorem dX9_step_111 : decode cX9_step 111 = .ok (.iload_n 2, 1) := by decide +kernel
theorem dX9_step_112 : decode cX9_step 112 = .ok (.if_icmp .ne 15, 3) := by decide +kernel
theorem dX9_step_115 : decode cX9_step 115 = .ok (.iload 4, 2) := by decide +kernel
theorem dX9_step_117 : decode cX9_step 117 = .ok (.aload_n 0, 1) := by decide +kernel
theorem dX9_step_118 : decode cX9_step 118 = .ok (.getfield 212, 3) := by decide +kernel
theorem dX9_step_121 : decode cX9_step 121 = .ok (.iconst 1, 1) := by decide +kernel
theorem dX9_step_122 : decode cX9_step 122 = .ok (.isub, 1) := by decide +kernel
theorem dX9_step_123 : decode cX9_step 123 = .ok (.imul, 1) := by decide +kernel
theorem dX9_step_124 : decode cX9_step 124 = .ok (.goto 6, 3) := by decide +kernel
theorem dX9_step_127 : decode cX9_step 127 = .ok (.iload 4, 2) := by decide +kernel
theorem dX9_step_129 : decode cX9_step 129 = .ok (.ineg, 1) := by decide +kernel
theorem dX9_step_130 : decode cX9_step 130 = .ok (.iadd, 1) := by decide +kernel
theorem dX9_step_131 : decode cX9_step 131 = .ok (.iastore, 1) := by decide +kernel
theorem dX9_step_132 : decode cX9_step 132 = .ok (.iinc 5 1, 3) := by decide +kernel
theorem dX9_step_135 : decode cX9_step 135 = .ok (.goto (-46), 3) := by decide +kernel
theorem dX9_step_138 : decode cX9_step 138 = .ok (.aload_n 0, 1) := by decide +kernel
theorem dX9_step_139 : decode cX9_step 139 = .ok (.getfield 46, 3) := by decide +kernel
theorem dX9_step_142 : decode cX9_step 142 = .ok (.iconst 0, 1) := by decide +kernel
theorem dX9_step_143 : decode cX9_step 143 = .ok (.iload_n 2, 1) := by decide +kernel
theorem dX9_step_144 : decode cX9_step 144 = .ok (.iadd, 1) := by decide +kernel
theorem dX9_step_145 : decode cX9_step 145 = .ok (.dup2, 1) := by decide +kernel
theorem dX9_step_146 : decode cX9_step 146 = .ok (.iaload, 1) := by decide +kernel
theorem dX9_step_147 : decode cX9_step 147 = .ok (.iload_n 1, 1) := by decide +kernel
theorem dX9_step_148 : decode cX9_step 148 = .ok (.iconst 1, 1) := by decide +kernel
theorem dX9_step_149 : decode cX9_step 149 = .ok (.if_icmp .ne 7, 3) := by decide +kernel
theorem dX9_step_152 : decode cX9_step 152 = .ok (.iload_n 3, 1) := by decide +kernel
theorem dX9_step_153 : decode cX9_step 153 = .ok (.goto 19, 3) := by decide +kernel
theorem dX9_step_156 : decode cX9_step 156 = .ok (.iload_n 1, 1) := by decide +kernel
theorem dX9_step_157 : decode cX9_step 157 = .ok (.bipush 7, 2) := by decide +kernel
theorem dX9_step_159 : decode cX9_step 159 = .ok (.if_icmp .ne 10, 3) := by decide +kernel
theorem dX9_step_162 : decode cX9_step 162 = .ok (.bipush 6, 2) := by decide +kernel
theorem dX9_step_164 : decode cX9_step 164 = .ok (.iload_n 3, 1) := by decide +kernel
theorem dX9_step_165 : decode cX9_step 165 = .ok (.imul, 1) := by decide +kernel
theorem dX9_step_166 : decode cX9_step 166 = .ok (.goto 6, 3) := by decide +kernel
theorem dX9_step_169 : decode cX9_step 169 = .ok (.iconst 4, 1) := by decide +kernel
theorem dX9_step_170 : decode cX9_step 170 = .ok (.iload_n 3, 1) := by decide +kernel
theorem dX9_step_171 : decode cX9_step 171 = .ok (.imul, 1) := by decide +kernel
theorem dX9_step_172 : decode cX9_step 172 = .ok (.iadd, 1) := by decide +kernel
theorem dX9_step_173 : decode cX9_step 173 = .ok (.iastore, 1) := by decide +kernel
theorem dX9_step_174 : decode cX9_step 174 = .ok (.aload_n 0, 1) := by decide +kernel
theorem dX9_step_175 : decode cX9_step 175 = .ok (.getfield 46, 3) := by decide +kernel
theorem dX9_step_178 : decode cX9_step 178 = .ok (.bipush 12, 2) := by decide +kernel
theorem dX9_step_180 : decode cX9_step 180 = .ok (.iload_n 2, 1) := by decide +kernel
theorem dX9_step_181 : decode cX9_step 181 = .ok (.iadd, 1) := by decide +kernel
theorem dX9_step_182 : decode cX9_step 182 = .ok (.dup2, 1) := by decide +kernel
theorem dX9_step_183 : decode cX9_step 183 = .ok (.iaload, 1) := by decide +kernel
theorem dX9_step_184 : decode cX9_step 184 = .ok (.iload_n 1, 1) := by decide +kernel
theorem dX9_step_185 : decode cX9_step 185 = .ok (.bipush 7, 2) := by decide +kernel
theorem dX9_step_187 : decode cX9_step 187 = .ok (.if_icmp .ne 7, 3) := by decide +kernel
theorem dX9_step_190 : decode cX9_step 190 = .ok (.iconst 0, 1) := by decide +kernel
theorem dX9_step_191 : decode cX9_step 191 = .ok (.goto 18, 3) := by decide +kernel
theorem dX9_step_194 : decode cX9_step 194 = .ok (.iload_n 1, 1) := by decide +kernel
theorem dX9_step_195 : decode cX9_step 195 = .ok (.iconst 1, 1) := by decide +kernel
theorem dX9_step_196 : decode cX9_step 196 = .ok (.if_icmp .eq 8, 3) := by decide +kernel
theorem dX9_step_199 : decode cX9_step 199 = .ok (.iload_n 1, 1) := by decide +kernel
theorem dX9_step_200 : decode cX9_step 200 = .ok (.iconst 5, 1) := by decide +kernel
theorem dX9_step_201 : decode cX9_step 201 = .ok (.if_icmp .ne 7, 3) := by decide +kernel
theorem dX9_step_204 : decode cX9_step 204 = .ok (.iconst 1, 1) := by decide +kernel
theorem dX9_step_205 : decode cX9_step 205 = .ok (.goto 4, 3) := by decide +kernel
theorem dX9_step_208 : decode cX9_step 208 = .ok (.iconst 2, 1) := by decide +kernel
theorem dX9_step_209 : decode cX9_step 209 = .ok (.iadd, 1) := by decide +kernel
theorem dX9_step_210 : decode cX9_step 210 = .ok (.iastore, 1) := by decide +kernel
theorem dX9_step_211 : decode cX9_step 211 = .ok (.aload_n 0, 1) := by decide +kernel
theorem dX9_step_212 : decode cX9_step 212 = .ok (.invokevirtual 249, 3) := by decide +kernel
theorem dX9_step_215 : decode cX9_step 215 = .ok (.return_, 1) := by decide +kernel
theorem dX9_free_0 : decode cX9_free 0 = .ok (.aload_n 0, 1) := by decide +kernel
theorem dX9_free_1 : decode cX9_free 1 = .ok (.getfield 52, 3) := by decide +kernel
theorem dX9_free_4 : decode cX9_free 4 = .ok (.iload_n 1, 1) := by decide +kernel
theorem dX9_free_5 : decode cX9_free 5 = .ok (.baload, 1) := by decide +kernel
theorem dX9_free_6 : decode cX9_free 6 = .ok (.ifCond .eq 37, 3) := by decide +kernel
theorem dX9_free_9 : decode cX9_free 9 = .ok (.aload_n 0, 1) := by decide +kernel
theorem dX9_free_10 : decode cX9_free 10 = .ok (.getfield 52, 3) := by decide +kernel
theorem dX9_free_13 : decode cX9_free 13 = .ok (.iload_n 1, 1) := by decide +kernel
theorem dX9_free_14 : decode cX9_free 14 = .ok (.iconst 0, 1) := by decide +kernel
theorem dX9_free_15 : decode cX9_free 15 = .ok (.bastore, 1) := by decide +kernel
theorem dX9_free_16 : decode cX9_free 16 = .ok (.aload_n 0, 1) := by decide +kernel
theorem dX9_free_17 : decode cX9_free 17 = .ok (.getfield 46, 3) := by decide +kernel
theorem dX9_free_20 : decode cX9_free 20 = .ok (.bipush 24, 2) := by decide +kernel
theorem dX9_free_22 : decode cX9_free 22 = .ok (.iload_n 1, 1) := by decide +kernel
theorem dX9_free_23 : decode cX9_free 23 = .ok (.iadd, 1) := by decide +kernel
theorem dX9_free_24 : decode cX9_free 24 = .ok (.dup2, 1) := by decide +kernel
theorem dX9_free_25 : decode cX9_free 25 = .ok (.iaload, 1) := by decide +kernel
theorem dX9_free_26 : decode cX9_free 26 = .ok (.aload_n 0, 1) := by decide +kernel
theorem dX9_free_27 : decode cX9_free 27 = .ok (.getfield 49, 3) := by decide +kernel
theorem dX9_free_30 : decode cX9_free 30 = .ok (.iload_n 1, 1) := by decide +kernel
theorem dX9_free_31 : decode cX9_free 31 = .ok (.iaload, 1) := by decide +kernel
theorem dX9_free_32 : decode cX9_free 32 = .ok (.iconst 2, 1) := by decide +kernel
theorem dX9_free_33 : decode cX9_free 33 = .ok (.idiv, 1) := by decide +kernel
theorem dX9_free_34 : decode cX9_free 34 = .ok (.iadd, 1) := by decide +kernel
theorem dX9_free_35 : decode cX9_free 35 = .ok (.iastore, 1) := by decide +kernel
theorem dX9_free_36 : decode cX9_free 36 = .ok (.aload_n 0, 1) := by decide +kernel
theorem dX9_free_37 : decode cX9_free 37 = .ok (.getfield 49, 3) := by decide +kernel
theorem dX9_free_40 : decode cX9_free 40 = .ok (.iload_n 1, 1) := by decide +kernel
theorem dX9_free_41 : decode cX9_free 41 = .ok (.iconst 0, 1) := by decide +kernel
theorem dX9_free_42 : decode cX9_free 42 = .ok (.iastore, 1) := by decide +kernel
theorem dX9_free_43 : decode cX9_free 43 = .ok (.return_, 1) := by decide +kernel
theorem dX9_doAct_0 : decode cX9_doAct 0 = .ok (.aload_n 0, 1) := by decide +kernel
theorem dX9_doAct_1 : decode cX9_doAct 1 = .ok (.getfield 19, 3) := by decide +kernel
theorem dX9_doAct_4 : decode cX9_doAct 4 = .ok (.iconst 4, 1) := by decide +kernel
theorem dX9_doAct_5 : decode cX9_doAct 5 = .ok (.iload_n 1, 1) := by decide +kernel
theorem dX9_doAct_6 : decode cX9_doAct 6 = .ok (.imul, 1) := by decide +kernel
theorem dX9_doAct_7 : decode cX9_doAct 7 = .ok (.iaload, 1) := by decide +kernel
theorem dX9_doAct_8 : decode cX9_doAct 8 = .ok (.istore_n 2, 1) := by decide +kernel
theorem dX9_doAct_9 : decode cX9_doAct 9 = .ok (.aload_n 0, 1) := by decide +kernel
theorem dX9_doAct_10 : decode cX9_doAct 10 = .ok (.getfield 19, 3) := by decide +kernel
theorem dX9_doAct_13 : decode cX9_doAct 13 = .ok (.iconst 4, 1) := by decide +kernel
theorem dX9_doAct_14 : decode cX9_doAct 14 = .ok (.iload_n 1, 1) := by decide +kernel
theorem dX9_doAct_15 : decode cX9_doAct 15 = .ok (.imul, 1) := by decide +kernel
theorem dX9_doAct_16 : decode cX9_doAct 16 = .ok (.iconst 1, 1) := by decide +kernel
theorem dX9_doAct_17 : decode cX9_doAct 17 = .ok (.iadd, 1) := by decide +kernel
theorem dX9_doAct_18 : decode cX9_doAct 18 = .ok (.iaload, 1) := by decide +kernel
theorem dX9_doAct_19 : decode cX9_doAct 19 = .ok (.istore_n 3, 1) := by decide +kernel
theorem dX9_doAct_20 : decode cX9_doAct 20 = .ok (.iload_n 2, 1) := by decide +kernel
