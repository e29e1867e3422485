theorem dX9_doAct_21 : decode cX9_doAct 21 = .ok (.bipush 8, 2) := by decide +kernel
theorem dX9_doAct_23 : decode cX9_doAct 23 = .ok (.if_icmp .ne 25, 3) := by decide +kernel
theorem dX9_doAct_26 : decode cX9_doAct 26 = .ok (.iconst 0, 1) := by decide +kernel
theorem dX9_doAct_27 : decode cX9_doAct 27 = .ok (.istore 4, 2) := by decide +kernel
theorem dX9_doAct_29 : decode cX9_doAct 29 = .ok (.iload 4, 2) := by decide +kernel
theorem dX9_doAct_31 : decode cX9_doAct 31 = .ok (.iload_n 3, 1) := by decide +kernel
theorem dX9_doAct_32 : decode cX9_doAct 32 = .ok (.if_icmp .ge 13, 3) := by decide +kernel
theorem dX9_doAct_35 : decode cX9_doAct 35 = .ok (.aload_n 0, 1) := by decide +kernel
theorem dX9_doAct_36 : decode cX9_doAct 36 = .ok (.invokevirtual 249, 3) := by decide +kernel
theorem dX9_doAct_39 : decode cX9_doAct 39 = .ok (.iinc 4 1, 3) := by decide +kernel
theorem dX9_doAct_42 : decode cX9_doAct 42 = .ok (.goto (-13), 3) := by decide +kernel
theorem dX9_doAct_45 : decode cX9_doAct 45 = .ok (.goto 49, 3) := by decide +kernel
theorem dX9_doAct_48 : decode cX9_doAct 48 = .ok (.iload_n 2, 1) := by decide +kernel
theorem dX9_doAct_49 : decode cX9_doAct 49 = .ok (.bipush 9, 2) := by decide +kernel
theorem dX9_doAct_51 : decode cX9_doAct 51 = .ok (.if_icmp .ne 13, 3) := by decide +kernel
theorem dX9_doAct_54 : decode cX9_doAct 54 = .ok (.aload_n 0, 1) := by decide +kernel
theorem dX9_doAct_55 : decode cX9_doAct 55 = .ok (.getfield 52, 3) := by decide +kernel
theorem dX9_doAct_58 : decode cX9_doAct 58 = .ok (.iload_n 3, 1) := by decide +kernel
theorem dX9_doAct_59 : decode cX9_doAct 59 = .ok (.iconst 1, 1) := by decide +kernel
theorem dX9_doAct_60 : decode cX9_doAct 60 = .ok (.bastore, 1) := by decide +kernel
theorem dX9_doAct_61 : decode cX9_doAct 61 = .ok (.goto 33, 3) := by decide +kernel
theorem dX9_doAct_64 : decode cX9_doAct 64 = .ok (.iload_n 2, 1) := by decide +kernel
theorem dX9_doAct_65 : decode cX9_doAct 65 = .ok (.bipush 10, 2) := by decide +kernel
theorem dX9_doAct_67 : decode cX9_doAct 67 = .ok (.if_icmp .ne 11, 3) := by decide +kernel
theorem dX9_doAct_70 : decode cX9_doAct 70 = .ok (.aload_n 0, 1) := by decide +kernel
theorem dX9_doAct_71 : decode cX9_doAct 71 = .ok (.iload_n 3, 1) := by decide +kernel
theorem dX9_doAct_72 : decode cX9_doAct 72 = .ok (.invokevirtual 252, 3) := by decide +kernel
theorem dX9_doAct_75 : decode cX9_doAct 75 = .ok (.goto 19, 3) := by decide +kernel
theorem dX9_doAct_78 : decode cX9_doAct 78 = .ok (.aload_n 0, 1) := by decide +kernel
theorem dX9_doAct_79 : decode cX9_doAct 79 = .ok (.iload_n 2, 1) := by decide +kernel
theorem dX9_doAct_80 : decode cX9_doAct 80 = .ok (.iload_n 3, 1) := by decide +kernel
theorem dX9_doAct_81 : decode cX9_doAct 81 = .ok (.aload_n 0, 1) := by decide +kernel
theorem dX9_doAct_82 : decode cX9_doAct 82 = .ok (.getfield 19, 3) := by decide +kernel
theorem dX9_doAct_85 : decode cX9_doAct 85 = .ok (.iconst 4, 1) := by decide +kernel
theorem dX9_doAct_86 : decode cX9_doAct 86 = .ok (.iload_n 1, 1) := by decide +kernel
theorem dX9_doAct_87 : decode cX9_doAct 87 = .ok (.imul, 1) := by decide +kernel
theorem dX9_doAct_88 : decode cX9_doAct 88 = .ok (.iconst 2, 1) := by decide +kernel
theorem dX9_doAct_89 : decode cX9_doAct 89 = .ok (.iadd, 1) := by decide +kernel
theorem dX9_doAct_90 : decode cX9_doAct 90 = .ok (.iaload, 1) := by decide +kernel
theorem dX9_doAct_91 : decode cX9_doAct 91 = .ok (.invokevirtual 255, 3) := by decide +kernel
theorem dX9_doAct_94 : decode cX9_doAct 94 = .ok (.return_, 1) := by decide +kernel
theorem dX9_go_0 : decode cX9_go 0 = .ok (.iconst 0, 1) := by decide +kernel
theorem dX9_go_1 : decode cX9_go 1 = .ok (.istore_n 2, 1) := by decide +kernel
theorem dX9_go_2 : decode cX9_go 2 = .ok (.iload_n 2, 1) := by decide +kernel
theorem dX9_go_3 : decode cX9_go 3 = .ok (.bipush 48, 2) := by decide +kernel
theorem dX9_go_5 : decode cX9_go 5 = .ok (.if_icmp .ge 62, 3) := by decide +kernel
theorem dX9_go_8 : decode cX9_go 8 = .ok (.aload_n 0, 1) := by decide +kernel
theorem dX9_go_9 : decode cX9_go 9 = .ok (.getfield 46, 3) := by decide +kernel
theorem dX9_go_12 : decode cX9_go 12 = .ok (.iload_n 2, 1) := by decide +kernel
theorem dX9_go_13 : decode cX9_go 13 = .ok (.iload_n 2, 1) := by decide +kernel
theorem dX9_go_14 : decode cX9_go 14 = .ok (.i2l, 1) := by decide +kernel
theorem dX9_go_15 : decode cX9_go 15 = .ok (.ldc2_w 259, 3) := by decide +kernel
theorem dX9_go_18 : decode cX9_go 18 = .ok (.ldc2_w 261, 3) := by decide +kernel
theorem dX9_go_21 : decode cX9_go 21 = .ok (.invokestatic 81, 3) := by decide +kernel
theorem dX9_go_24 : decode cX9_go 24 = .ok (.ifCond .eq 15, 3) := by decide +kernel
theorem dX9_go_27 : decode cX9_go 27 = .ok (.aload_n 0, 1) := by decide +kernel
theorem dX9_go_28 : decode cX9_go 28 = .ok (.getfield 59, 3) := by decide +kernel
theorem dX9_go_31 : decode cX9_go 31 = .ok (.iload_n 2, 1) := by decide +kernel
theorem dX9_go_32 : decode cX9_go 32 = .ok (.bipush 24, 2) := by decide +kernel
theorem dX9_go_34 : decode cX9_go 34 = .ok (.isub, 1) := by decide +kernel
theorem dX9_go_35 : decode cX9_go 35 = .ok (.iaload, 1) := by decide +kernel
theorem dX9_go_36 : decode cX9_go 36 = .ok (.goto 4, 3) := by decide +kernel
theorem dX9_go_39 : decode cX9_go 39 = .ok (.iconst 0, 1) := by decide +kernel
theorem dX9_go_40 : decode cX9_go 40 = .ok (.iastore, 1) := by decide +kernel
theorem dX9_go_41 : decode cX9_go 41 = .ok (.aload_n 0, 1) := by decide +kernel
theorem dX9_go_42 : decode cX9_go 42 = .ok (.getfield 49, 3) := by decide +kernel
theorem dX9_go_45 : decode cX9_go 45 = .ok (.iload_n 2, 1) := by decide +kernel
theorem dX9_go_46 : decode cX9_go 46 = .ok (.bipush 12, 2) := by decide +kernel
theorem dX9_go_48 : decode cX9_go 48 = .ok (.irem, 1) := by decide +kernel
theorem dX9_go_49 : decode cX9_go 49 = .ok (.iconst 0, 1) := by decide +kernel
theorem dX9_go_50 : decode cX9_go 50 = .ok (.iastore, 1) := by decide +kernel
theorem dX9_go_51 : decode cX9_go 51 = .ok (.aload_n 0, 1) := by decide +kernel
theorem dX9_go_52 : decode cX9_go 52 = .ok (.getfield 52, 3) := by decide +kernel
theorem dX9_go_55 : decode cX9_go 55 = .ok (.iload_n 2, 1) := by decide +kernel
theorem dX9_go_56 : decode cX9_go 56 = .ok (.bipush 12, 2) := by decide +kernel
theorem dX9_go_58 : decode cX9_go 58 = .ok (.irem, 1) := by decide +kernel
theorem dX9_go_59 : decode cX9_go 59 = .ok (.iconst 0, 1) := by decide +kernel
theorem dX9_go_60 : decode cX9_go 60 = .ok (.bastore, 1) := by decide +kernel
theorem dX9_go_61 : decode cX9_go 61 = .ok (.iinc 2 1, 3) := by decide +kernel
theorem dX9_go_64 : decode cX9_go 64 = .ok (.goto (-62), 3) := by decide +kernel
theorem dX9_go_67 : decode cX9_go 67 = .ok (.aload_n 0, 1) := by decide +kernel
theorem dX9_go_68 : decode cX9_go 68 = .ok (.iconst 0, 1) := by decide +kernel
theorem dX9_go_69 : decode cX9_go 69 = .ok (.putfield 240, 3) := by decide +kernel
theorem dX9_go_72 : decode cX9_go 72 = .ok (.iconst 0, 1) := by decide +kernel
theorem dX9_go_73 : decode cX9_go 73 = .ok (.istore_n 2, 1) := by decide +kernel
theorem dX9_go_74 : decode cX9_go 74 = .ok (.iload_n 2, 1) := by decide +kernel
theorem dX9_go_75 : decode cX9_go 75 = .ok (.aload_n 0, 1) := by decide +kernel
theorem dX9_go_76 : decode cX9_go 76 = .ok (.getfield 215, 3) := by decide +kernel
theorem dX9_go_79 : decode cX9_go 79 = .ok (.if_icmp .ge 59, 3) := by decide +kernel
theorem dX9_go_82 : decode cX9_go 82 = .ok (.iconst 0, 1) := by decide +kernel
theorem dX9_go_83 : decode cX9_go 83 = .ok (.istore_n 3, 1) := by decide +kernel
theorem dX9_go_84 : decode cX9_go 84 = .ok (.iload_n 3, 1) := by decide +kernel
theorem dX9_go_85 : decode cX9_go 85 = .ok (.aload_n 0, 1) := by decide +kernel
theorem dX9_go_86 : decode cX9_go 86 = .ok (.getfield 218, 3) := by decide +kernel
theorem dX9_go_89 : decode cX9_go 89 = .ok (.if_icmp .ge 43, 3) := by decide +kernel
theorem dX9_go_92 : decode cX9_go 92 = .ok (.aload_n 0, 1) := by decide +kernel
theorem dX9_go_93 : decode cX9_go 93 = .ok (.getfield 19, 3) := by decide +kernel
theorem dX9_go_96 : decode cX9_go 96 = .ok (.iconst 4, 1) := by decide +kernel
theorem dX9_go_97 : decode cX9_go 97 = .ok (.iload_n 3, 1) := by decide +kernel
theorem dX9_go_98 : decode cX9_go 98 = .ok (.imul, 1) := by decide +kernel
theorem dX9_go_99 : decode cX9_go 99 = .ok (.iconst 3, 1) := by decide +kernel
theorem dX9_go_100 : decode cX9_go 100 = .ok (.iadd, 1) := by decide +kernel
theorem dX9_go_101 : decode cX9_go 101 = .ok (.iaload, 1) := by decide +kernel
theorem dX9_go_102 : decode cX9_go 102 = .ok (.aload_n 0, 1) := by decide +kernel
theorem dX9_go_103 : decode cX9_go 103 = .ok (.getfield 62, 3) := by decide +kernel
theorem dX9_go_106 : decode cX9_go 106 = .ok (.iload_n 2, 1) := by decide +kernel
theorem dX9_go_107 : decode cX9_go 107 = .ok (.iaload, 1) := by decide +kernel
theorem dX9_go_108 : decode cX9_go 108 = .ok (.if_icmp .ne 18, 3) := by decide +kernel
theorem dX9_go_111 : decode cX9_go 111 = .ok (.aload_n 0, 1) := by decide +kernel
theorem dX9_go_112 : decode cX9_go 112 = .ok (.getfield 62, 3) := by decide +kernel
theorem dX9_go_115 : decode cX9_go 115 = .ok (.iload_n 2, 1) := by decide +kernel
theorem dX9_go_116 : decode cX9_go 116 = .ok (.iaload, 1) := by decide +kernel
theorem dX9_go_117 : decode cX9_go 117 = .ok (.iload_n 1, 1) := by decide +kernel
theorem dX9_go_118 : decode cX9_go 118 = .ok (.if_icmp .eq 8, 3) := by decide +kernel
theorem dX9_go_121 : decode cX9_go 121 = .ok (.aload_n 0, 1) := by decide +kernel
theorem dX9_go_122 : decode cX9_go 122 = .ok (.iload_n 3, 1) := by decide +kernel
theorem dX9_go_123 : decode cX9_go 123 = .ok (.invokevirtual 263, 3) := by decide +kernel
theorem dX9_go_126 : decode cX9_go 126 = .ok (.iinc 3 1, 3) := by decide +kernel
theorem dX9_go_129 : decode cX9_go 129 = .ok (.goto (-45), 3) := by decide +kernel
theorem dX9_go_132 : decode cX9_go 132 = .ok (.iinc 2 1, 3) := by decide +kernel
theorem dX9_go_135 : decode cX9_go 135 = .ok (.goto (-61), 3) := by decide +kernel
theorem dX9_go_138 : decode cX9_go 138 = .ok (.iconst 0, 1) := by decide +kernel
theorem dX9_go_139 : decode cX9_go 139 = .ok (.istore_n 2, 1) := by decide +kernel
theorem dX9_go_140 : decode cX9_go 140 = .ok (.iload_n 2, 1) := by decide +kernel
theorem dX9_go_141 : decode cX9_go 141 = .ok (.aload_n 0, 1) := by decide +kernel
theorem dX9_go_142 : decode cX9_go 142 = .ok (.getfield 212, 3) := by decide +kernel
theorem dX9_go_145 : decode cX9_go 145 = .ok (.if_icmp .ge 14, 3) := by decide +kernel
theorem dX9_go_148 : decode cX9_go 148 = .ok (.aload_n 0, 1) := by decide +kernel
theorem dX9_go_149 : decode cX9_go 149 = .ok (.iload_n 2, 1) := by decide +kernel
theorem dX9_go_150 : decode cX9_go 150 = .ok (.invokevirtual 252, 3) := by decide +kernel
theorem dX9_go_153 : decode cX9_go 153 = .ok (.iinc 2 1, 3) := by decide +kernel
theorem dX9_go_156 : decode cX9_go 156 = .ok (.goto (-16), 3) := by decide +kernel
theorem dX9_go_159 : decode cX9_go 159 = .ok (.return_, 1) := by decide +kernel
theorem dX9_heightBy_0 : decode cX9_heightBy 0 = .ok (.iconst 0, 1) := by decide +kernel
theorem dX9_heightBy_1 : decode cX9_heightBy 1 = .ok (.istore_n 3, 1) := by decide +kernel
theorem dX9_heightBy_2 : decode cX9_heightBy 2 = .ok (.iconst 0, 1) := by decide +kernel
theorem dX9_heightBy_3 : decode cX9_heightBy 3 = .ok (.istore 4, 2) := by decide +kernel
theorem dX9_heightBy_5 : decode cX9_heightBy 5 = .ok (.iconst 0, 1) := by decide +kernel
theorem dX9_heightBy_6 : decode cX9_heightBy 6 = .ok (.istore 5, 2) := by decide +kernel
theorem dX9_heightBy_8 : decode cX9_heightBy 8 = .ok (.iload 5, 2) := by decide +kernel
theorem dX9_heightBy_10 : decode cX9_heightBy 10 = .ok (.iload_n 2, 1) := by decide +kernel
theorem dX9_heightBy_11 : decode cX9_heightBy 11 = .ok (.if_icmp .ge 26, 3) := by decide +kernel
theorem dX9_heightBy_14 : decode cX9_heightBy 14 = .ok (.iload 4, 2) := by decide +kernel
theorem dX9_heightBy_16 : decode cX9_heightBy 16 = .ok (.aload_n 1, 1) := by decide +kernel
theorem dX9_heightBy_17 : decode cX9_heightBy 17 = .ok (.bipush 24, 2) := by decide +kernel
theorem dX9_heightBy_19 : decode cX9_heightBy 19 = .ok (.iload 5, 2) := by decide +kernel
theorem dX9_heightBy_21 : decode cX9_heightBy 21 = .ok (.iadd, 1) := by decide +kernel
theorem dX9_heightBy_22 : decode cX9_heightBy 22 = .ok (.iaload, 1) := by decide +kernel
theorem dX9_heightBy_23 : decode cX9_heightBy 23 = .ok (.iadd, 1) := by decide +kernel
theorem dX9_heightBy_24 : decode cX9_heightBy 24 = .ok (.istore 4, 2) := by decide +kernel
theorem dX9_heightBy_26 : decode cX9_heightBy 26 = .ok (.iload_n 3, 1) := by decide +kernel
theorem dX9_heightBy_27 : decode cX9_heightBy 27 = .ok (.iload 4, 2) := by decide +kernel
theorem dX9_heightBy_29 : decode cX9_heightBy 29 = .ok (.iadd, 1) := by decide +kernel
theorem dX9_heightBy_30 : decode cX9_heightBy 30 = .ok (.istore_n 3, 1) := by decide +kernel
theorem dX9_heightBy_31 : decode cX9_heightBy 31 = .ok (.iinc 5 1, 3) := by decide +kernel
theorem dX9_heightBy_34 : decode cX9_heightBy 34 = .ok (.goto (-26), 3) := by decide +kernel
theorem dX9_heightBy_37 : decode cX9_heightBy 37 = .ok (.iload_n 3, 1) := by decide +kernel
theorem dX9_heightBy_38 : decode cX9_heightBy 38 = .ok (.ireturn, 1) := by decide +kernel
theorem dX9_offBy_0 : decode cX9_offBy 0 = .ok (.aload_n 0, 1) := by decide +kernel
theorem dX9_offBy_1 : decode cX9_offBy 1 = .ok (.aload_n 0, 1) := by decide +kernel
theorem dX9_offBy_2 : decode cX9_offBy 2 = .ok (.getfield 46, 3) := by decide +kernel
theorem dX9_offBy_5 : decode cX9_offBy 5 = .ok (.aload_n 0, 1) := by decide +kernel
theorem dX9_offBy_6 : decode cX9_offBy 6 = .ok (.getfield 212, 3) := by decide +kernel
theorem dX9_offBy_9 : decode cX9_offBy 9 = .ok (.invokevirtual 266, 3) := by decide +kernel
theorem dX9_offBy_12 : decode cX9_offBy 12 = .ok (.istore_n 1, 1) := by decide +kernel
theorem dX9_offBy_13 : decode cX9_offBy 13 = .ok (.iconst 0, 1) := by decide +kernel
theorem dX9_offBy_14 : decode cX9_offBy 14 = .ok (.istore_n 2, 1) := by decide +kernel
theorem dX9_offBy_15 : decode cX9_offBy 15 = .ok (.iconst 0, 1) := by decide +kernel
theorem dX9_offBy_16 : decode cX9_offBy 16 = .ok (.istore_n 3, 1) := by decide +kernel
theorem dX9_offBy_17 : decode cX9_offBy 17 = .ok (.iload_n 3, 1) := by decide +kernel
theorem dX9_offBy_18 : decode cX9_offBy 18 = .ok (.aload_n 0, 1) := by decide +kernel
theorem dX9_offBy_19 : decode cX9_offBy 19 = .ok (.getfield 212, 3) := by decide +kernel
theorem dX9_offBy_22 : decode cX9_offBy 22 = .ok (.if_icmp .gt 57, 3) := by decide +kernel
theorem dX9_offBy_25 : decode cX9_offBy 25 = .ok (.aload_n 0, 1) := by decide +kernel
theorem dX9_offBy_26 : decode cX9_offBy 26 = .ok (.getfield 212, 3) := by decide +kernel
theorem dX9_offBy_29 : decode cX9_offBy 29 = .ok (.aload_n 0, 1) := by decide +kernel
theorem dX9_offBy_30 : decode cX9_offBy 30 = .ok (.aload_n 0, 1) := by decide +kernel
theorem dX9_offBy_31 : decode cX9_offBy 31 = .ok (.getfield 46, 3) := by decide +kernel
theorem dX9_offBy_34 : decode cX9_offBy 34 = .ok (.iload_n 3, 1) := by decide +kernel
theorem dX9_offBy_35 : decode cX9_offBy 35 = .ok (.invokevirtual 266, 3) := by decide +kernel
theorem dX9_offBy_38 : decode cX9_offBy 38 = .ok (.imul, 1) := by decide +kernel
theorem dX9_offBy_39 : decode cX9_offBy 39 = .ok (.iload_n 3, 1) := by decide +kernel
theorem dX9_offBy_40 : decode cX9_offBy 40 = .ok (.iload_n 1, 1) := by decide +kernel
theorem dX9_offBy_41 : decode cX9_offBy 41 = .ok (.imul, 1) := by decide +kernel
theorem dX9_offBy_42 : decode cX9_offBy 42 = .ok (.isub, 1) := by decide +kernel
theorem dX9_offBy_43 : decode cX9_offBy 43 = .ok (.istore 4, 2) := by decide +kernel
theorem dX9_offBy_45 : decode cX9_offBy 45 = .ok (.iload 4, 2) := by decide +kernel
theorem dX9_offBy_47 : decode cX9_offBy 47 = .ok (.ifCond .ge 9, 3) := by decide +kernel
theorem dX9_offBy_50 : decode cX9_offBy 50 = .ok (.iload 4, 2) := by decide +kernel
theorem dX9_offBy_52 : decode cX9_offBy 52 = .ok (.ineg, 1) := by decide +kernel
theorem dX9_offBy_53 : decode cX9_offBy 53 = .ok (.goto 5, 3) := by decide +kernel
theorem dX9_offBy_56 : decode cX9_offBy 56 = .ok (.iload 4, 2) := by decide +kernel
theorem dX9_offBy_58 : decode cX9_offBy 58 = .ok (.istore 4, 2) := by decide +kernel
theorem dX9_offBy_60 : decode cX9_offBy 60 = .ok (.iload 4, 2) := by decide +kernel
theorem dX9_offBy_62 : decode cX9_offBy 62 = .ok (.iload_n 2, 1) := by decide +kernel
theorem dX9_offBy_63 : decode cX9_offBy 63 = .ok (.if_icmp .le 8, 3) := by decide +kernel
theorem dX9_offBy_66 : decode cX9_offBy 66 = .ok (.iload 4, 2) := by decide +kernel
theorem dX9_offBy_68 : decode cX9_offBy 68 = .ok (.goto 4, 3) := by decide +kernel
theorem dX9_offBy_71 : decode cX9_offBy 71 = .ok (.iload_n 2, 1) := by decide +kernel
theorem dX9_offBy_72 : decode cX9_offBy 72 = .ok (.istore_n 2, 1) := by decide +kernel
theorem dX9_offBy_73 : decode cX9_offBy 73 = .ok (.iinc 3 1, 3) := by decide +kernel
theorem dX9_offBy_76 : decode cX9_offBy 76 = .ok (.goto (-59), 3) := by decide +kernel
theorem dX9_offBy_79 : decode cX9_offBy 79 = .ok (.iload_n 2, 1) := by decide +kernel
theorem dX9_offBy_80 : decode cX9_offBy 80 = .ok (.aload_n 0, 1) := by decide +kernel
theorem dX9_offBy_81 : decode cX9_offBy 81 = .ok (.getfield 212, 3) := by decide +kernel
theorem dX9_offBy_84 : decode cX9_offBy 84 = .ok (.idiv, 1) := by decide +kernel
theorem dX9_offBy_85 : decode cX9_offBy 85 = .ok (.ireturn, 1) := by decide +kernel
theorem dX9_layOpened_0 : decode cX9_layOpened 0 = .ok (.iconst 0, 1) := by decide +kernel
theorem dX9_layOpened_1 : decode cX9_layOpened 1 = .ok (.istore_n 1, 1) := by decide +kernel
theorem dX9_layOpened_2 : decode cX9_layOpened 2 = .ok (.iload_n 1, 1) := by decide +kernel
theorem dX9_layOpened_3 : decode cX9_layOpened 3 = .ok (.bipush 12, 2) := by decide +kernel
theorem dX9_layOpened_5 : decode cX9_layOpened 5 = .ok (.if_icmp .ge 21, 3) := by decide +kernel
theorem dX9_layOpened_8 : decode cX9_layOpened 8 = .ok (.aload_n 0, 1) := by decide +kernel
theorem dX9_layOpened_9 : decode cX9_layOpened 9 = .ok (.getfield 59, 3) := by decide +kernel
theorem dX9_layOpened_12 : decode cX9_layOpened 12 = .ok (.iload_n 1, 1) := by decide +kernel
theorem dX9_layOpened_13 : decode cX9_layOpened 13 = .ok (.aload_n 0, 1) := by decide +kernel
theorem dX9_layOpened_14 : decode cX9_layOpened 14 = .ok (.getfield 40, 3) := by decide +kernel
theorem dX9_layOpened_17 : decode cX9_layOpened 17 = .ok (.iload_n 1, 1) := by decide +kernel
theorem dX9_layOpened_18 : decode cX9_layOpened 18 = .ok (.iaload, 1) := by decide +kernel
theorem dX9_layOpened_19 : decode cX9_layOpened 19 = .ok (.iastore, 1) := by decide +kernel
theorem dX9_layOpened_20 : decode cX9_layOpened 20 = .ok (.iinc 1 1, 3) := by decide +kernel
theorem dX9_layOpened_23 : decode cX9_layOpened 23 = .ok (.goto (-21), 3) := by decide +kernel
theorem dX9_layOpened_26 : decode cX9_layOpened 26 = .ok (.return_, 1) := by decide +kernel
theorem dX9_stand_0 : decode cX9_stand 0 = .ok (.iconst 0, 1) := by decide +kernel
theorem dX9_stand_1 : decode cX9_stand 1 = .ok (.istore_n 1, 1) := by decide +kernel
theorem dX9_stand_2 : decode cX9_stand 2 = .ok (.iload_n 1, 1) := by decide +kernel
theorem dX9_stand_3 : decode cX9_stand 3 = .ok (.bipush 48, 2) := by decide +kernel
theorem dX9_stand_5 : decode cX9_stand 5 = .ok (.if_icmp .ge 21, 3) := by decide +kernel
theorem dX9_stand_8 : decode cX9_stand 8 = .ok (.aload_n 0, 1) := by decide +kernel
theorem dX9_stand_9 : decode cX9_stand 9 = .ok (.getfield 56, 3) := by decide +kernel
theorem dX9_stand_12 : decode cX9_stand 12 = .ok (.iload_n 1, 1) := by decide +kernel
theorem dX9_stand_13 : decode cX9_stand 13 = .ok (.aload_n 0, 1) := by decide +kernel
theorem dX9_stand_14 : decode cX9_stand 14 = .ok (.getfield 46, 3) := by decide +kernel
theorem dX9_stand_17 : decode cX9_stand 17 = .ok (.iload_n 1, 1) := by decide +kernel
theorem dX9_stand_18 : decode cX9_stand 18 = .ok (.iaload, 1) := by decide +kernel
theorem dX9_stand_19 : decode cX9_stand 19 = .ok (.iastore, 1) := by decide +kernel
theorem dX9_stand_20 : decode cX9_stand 20 = .ok (.iinc 1 1, 3) := by decide +kernel
theorem dX9_stand_23 : decode cX9_stand 23 = .ok (.goto (-21), 3) := by decide +kernel
theorem dX9_stand_26 : decode cX9_stand 26 = .ok (.aload_n 0, 1) := by decide +kernel
theorem dX9_stand_27 : decode cX9_stand 27 = .ok (.aload_n 0, 1) := by decide +kernel
theorem dX9_stand_28 : decode cX9_stand 28 = .ok (.getfield 240, 3) := by decide +kernel
theorem dX9_stand_31 : decode cX9_stand 31 = .ok (.putfield 270, 3) := by decide +kernel
theorem dX9_stand_34 : decode cX9_stand 34 = .ok (.aload_n 0, 1) := by decide +kernel
theorem dX9_stand_35 : decode cX9_stand 35 = .ok (.iconst 1, 1) := by decide +kernel
theorem dX9_stand_36 : decode cX9_stand 36 = .ok (.putfield 224, 3) := by decide +kernel
theorem dX9_stand_39 : decode cX9_stand 39 = .ok (.iconst 0, 1) := by decide +kernel
theorem dX9_stand_40 : decode cX9_stand 40 = .ok (.istore_n 1, 1) := by decide +kernel
theorem dX9_stand_41 : decode cX9_stand 41 = .ok (.iload_n 1, 1) := by decide +kernel
theorem dX9_stand_42 : decode cX9_stand 42 = .ok (.bipush 6, 2) := by decide +kernel
theorem dX9_stand_44 : decode cX9_stand 44 = .ok (.if_icmp .ge 21, 3) := by decide +kernel
theorem dX9_stand_47 : decode cX9_stand 47 = .ok (.aload_n 0, 1) := by decide +kernel
theorem dX9_stand_48 : decode cX9_stand 48 = .ok (.getfield 43, 3) := by decide +kernel
theorem dX9_stand_51 : decode cX9_stand 51 = .ok (.iload_n 1, 1) := by decide +kernel
theorem dX9_stand_52 : decode cX9_stand 52 = .ok (.aload_n 0, 1) := by decide +kernel
theorem dX9_stand_53 : decode cX9_stand 53 = .ok (.getfield 62, 3) := by decide +kernel
theorem dX9_stand_56 : decode cX9_stand 56 = .ok (.iload_n 1, 1) := by decide +kernel
theorem dX9_stand_57 : decode cX9_stand 57 = .ok (.iaload, 1) := by decide +kernel
theorem dX9_stand_58 : decode cX9_stand 58 = .ok (.iastore, 1) := by decide +kernel
theorem dX9_stand_59 : decode cX9_stand 59 = .ok (.iinc 1 1, 3) := by decide +kernel
theorem dX9_stand_62 : decode cX9_stand 62 = .ok (.goto (-21), 3) := by decide +kernel
theorem dX9_stand_65 : decode cX9_stand 65 = .ok (.return_, 1) := by decide +kernel
theorem dX9_run_0 : decode cX9_run 0 = .ok (.aload_n 0, 1) := by decide +kernel
theorem dX9_run_1 : decode cX9_run 1 = .ok (.iconst 0, 1) := by decide +kernel
theorem dX9_run_2 : decode cX9_run 2 = .ok (.putfield 71, 3) := by decide +kernel
theorem dX9_run_5 : decode cX9_run 5 = .ok (.iload_n 1, 1) := by decide +kernel
theorem dX9_run_6 : decode cX9_run 6 = .ok (.invokestatic 85, 3) := by decide +kernel
theorem dX9_run_9 : decode cX9_run 9 = .ok (.ifCond .ne 6, 3) := by decide +kernel
theorem dX9_run_12 : decode cX9_run 12 = .ok (.ldc 91, 2) := by decide +kernel
theorem dX9_run_14 : decode cX9_run 14 = .ok (.ireturn, 1) := by decide +kernel
theorem dX9_run_15 : decode cX9_run 15 = .ok (.aload_n 0, 1) := by decide +kernel
theorem dX9_run_16 : decode cX9_run 16 = .ok (.getfield 212, 3) := by decide +kernel
theorem dX9_run_19 : decode cX9_run 19 = .ok (.ifCond .ne 7, 3) := by decide +kernel
theorem dX9_run_22 : decode cX9_run 22 = .ok (.ldc_w 273, 3) := by decide +kernel
theorem dX9_run_25 : decode cX9_run 25 = .ok (.ireturn, 1) := by decide +kernel
theorem dX9_run_26 : decode cX9_run 26 = .ok (.aload_n 0, 1) := by decide +kernel
theorem dX9_run_27 : decode cX9_run 27 = .ok (.getfield 7, 3) := by decide +kernel
theorem dX9_run_30 : decode cX9_run 30 = .ok (.iload_n 1, 1) := by decide +kernel
theorem dX9_run_31 : decode cX9_run 31 = .ok (.iaload, 1) := by decide +kernel
theorem dX9_run_32 : decode cX9_run 32 = .ok (.ifCond .ge 9, 3) := by decide +kernel
theorem dX9_run_35 : decode cX9_run 35 = .ok (.aload_n 0, 1) := by decide +kernel
theorem dX9_run_36 : decode cX9_run 36 = .ok (.iconst 1, 1) := by decide +kernel
theorem dX9_run_37 : decode cX9_run 37 = .ok (.invokevirtual 92, 3) := by decide +kernel
theorem dX9_run_40 : decode cX9_run 40 = .ok (.ireturn, 1) := by decide +kernel
theorem dX9_run_41 : decode cX9_run 41 = .ok (.iload_n 2, 1) := by decide +kernel
theorem dX9_run_42 : decode cX9_run 42 = .ok (.ifCond .lt 22, 3) := by decide +kernel
theorem dX9_run_45 : decode cX9_run 45 = .ok (.iload_n 2, 1) := by decide +kernel
theorem dX9_run_46 : decode cX9_run 46 = .ok (.i2l, 1) := by decide +kernel
theorem dX9_run_47 : decode cX9_run 47 = .ok (.aload_n 0, 1) := by decide +kernel
theorem dX9_run_48 : decode cX9_run 48 = .ok (.getfield 215, 3) := by decide +kernel
theorem dX9_run_51 : decode cX9_run 51 = .ok (.i2l, 1) := by decide +kernel
theorem dX9_run_52 : decode cX9_run 52 = .ok (.ladd, 1) := by decide +kernel
theorem dX9_run_53 : decode cX9_run 53 = .ok (.aload_n 0, 1) := by decide +kernel
theorem dX9_run_54 : decode cX9_run 54 = .ok (.getfield 13, 3) := by decide +kernel
theorem dX9_run_57 : decode cX9_run 57 = .ok (.iload_n 1, 1) := by decide +kernel
theorem dX9_run_58 : decode cX9_run 58 = .ok (.iaload, 1) := by decide +kernel
theorem dX9_run_59 : decode cX9_run 59 = .ok (.i2l, 1) := by decide +kernel
theorem dX9_run_60 : decode cX9_run 60 = .ok (.lcmp, 1) := by decide +kernel
theorem dX9_run_61 : decode cX9_run 61 = .ok (.ifCond .le 9, 3) := by decide +kernel
theorem dX9_run_64 : decode cX9_run 64 = .ok (.aload_n 0, 1) := by decide +kernel
theorem dX9_run_65 : decode cX9_run 65 = .ok (.iconst 2, 1) := by decide +kernel
theorem dX9_run_66 : decode cX9_run 66 = .ok (.invokevirtual 92, 3) := by decide +kernel
theorem dX9_run_69 : decode cX9_run 69 = .ok (.ireturn, 1) := by decide +kernel
theorem dX9_run_70 : decode cX9_run 70 = .ok (.iconst 0, 1) := by decide +kernel
theorem dX9_run_71 : decode cX9_run 71 = .ok (.istore_n 3, 1) := by decide +kernel
theorem dX9_run_72 : decode cX9_run 72 = .ok (.iconst 0, 1) := by decide +kernel
theorem dX9_run_73 : decode cX9_run 73 = .ok (.istore 4, 2) := by decide +kernel
theorem dX9_run_75 : decode cX9_run 75 = .ok (.iload 4, 2) := by decide +kernel
theorem dX9_run_77 : decode cX9_run 77 = .ok (.aload_n 0, 1) := by decide +kernel
theorem dX9_run_78 : decode cX9_run 78 = .ok (.getfield 215, 3) := by decide +kernel
theorem dX9_run_81 : decode cX9_run 81 = .ok (.if_icmp .ge 62, 3) := by decide +kernel
theorem dX9_run_84 : decode cX9_run 84 = .ok (.aload_n 0, 1) := by decide +kernel
theorem dX9_run_85 : decode cX9_run 85 = .ok (.getfield 16, 3) := by decide +kernel
theorem dX9_run_88 : decode cX9_run 88 = .ok (.bipush 40, 2) := by decide +kernel
theorem dX9_run_90 : decode cX9_run 90 = .ok (.iload_n 1, 1) := by decide +kernel
theorem dX9_run_91 : decode cX9_run 91 = .ok (.imul, 1) := by decide +kernel
theorem dX9_run_92 : decode cX9_run 92 = .ok (.iload_n 2, 1) := by decide +kernel
theorem dX9_run_93 : decode cX9_run 93 = .ok (.iadd, 1) := by decide +kernel
theorem dX9_run_94 : decode cX9_run 94 = .ok (.iload 4, 2) := by decide +kernel
theorem dX9_run_96 : decode cX9_run 96 = .ok (.iadd, 1) := by decide +kernel
theorem dX9_run_97 : decode cX9_run 97 = .ok (.iaload, 1) := by decide +kernel
theorem dX9_run_98 : decode cX9_run 98 = .ok (.istore 5, 2) := by decide +kernel
theorem dX9_run_100 : decode cX9_run 100 = .ok (.iload 5, 2) := by decide +kernel
theorem dX9_run_102 : decode cX9_run 102 = .ok (.i2l, 1) := by decide +kernel
theorem dX9_run_103 : decode cX9_run 103 = .ok (.lconst 0, 1) := by decide +kernel
theorem dX9_run_104 : decode cX9_run 104 = .ok (.aload_n 0, 1) := by decide +kernel
theorem dX9_run_105 : decode cX9_run 105 = .ok (.getfield 215, 3) := by decide +kernel
theorem dX9_run_108 : decode cX9_run 108 = .ok (.iconst 1, 1) := by decide +kernel
theorem dX9_run_109 : decode cX9_run 109 = .ok (.isub, 1) := by decide +kernel
theorem dX9_run_110 : decode cX9_run 110 = .ok (.i2l, 1) := by decide +kernel
theorem dX9_run_111 : decode cX9_run 111 = .ok (.invokestatic 81, 3) := by decide +kernel
theorem dX9_run_114 : decode cX9_run 114 = .ok (.ifCond .eq 13, 3) := by decide +kernel
theorem dX9_run_117 : decode cX9_run 117 = .ok (.iload_n 3, 1) := by decide +kernel
theorem dX9_run_118 : decode cX9_run 118 = .ok (.iload 5, 2) := by decide +kernel
theorem dX9_run_120 : decode cX9_run 120 = .ok (.ishr, 1) := by decide +kernel
theorem dX9_run_121 : decode cX9_run 121 = .ok (.iconst 1, 1) := by decide +kernel
theorem dX9_run_122 : decode cX9_run 122 = .ok (.iand, 1) := by decide +kernel
theorem dX9_run_123 : decode cX9_run 123 = .ok (.iconst 1, 1) := by decide +kernel
theorem dX9_run_124 : decode cX9_run 124 = .ok (.if_icmp .ne 6, 3) := by decide +kernel
theorem dX9_run_127 : decode cX9_run 127 = .ok (.ldc 91, 2) := by decide +kernel
theorem dX9_run_129 : decode cX9_run 129 = .ok (.ireturn, 1) := by decide +kernel
theorem dX9_run_130 : decode cX9_run 130 = .ok (.iload_n 3, 1) := by decide +kernel
theorem dX9_run_131 : decode cX9_run 131 = .ok (.iconst 1, 1) := by decide +kernel
theorem dX9_run_132 : decode cX9_run 132 = .ok (.iload 5, 2) := by decide +kernel
theorem dX9_run_134 : decode cX9_run 134 = .ok (.ishl, 1) := by decide +kernel
theorem dX9_run_135 : decode cX9_run 135 = .ok (.ior, 1) := by decide +kernel
theorem dX9_run_136 : decode cX9_run 136 = .ok (.istore_n 3, 1) := by decide +kernel
theorem dX9_run_137 : decode cX9_run 137 = .ok (.iinc 4 1, 3) := by decide +kernel
theorem dX9_run_140 : decode cX9_run 140 = .ok (.goto (-65), 3) := by decide +kernel
theorem dX9_run_143 : decode cX9_run 143 = .ok (.aload_n 0, 1) := by decide +kernel
theorem dX9_run_144 : decode cX9_run 144 = .ok (.iconst 0, 1) := by decide +kernel
theorem dX9_run_145 : decode cX9_run 145 = .ok (.putfield 75, 3) := by decide +kernel
theorem dX9_run_148 : decode cX9_run 148 = .ok (.iconst 0, 1) := by decide +kernel
theorem dX9_run_149 : decode cX9_run 149 = .ok (.istore 4, 2) := by decide +kernel
theorem dX9_run_151 : decode cX9_run 151 = .ok (.iload 4, 2) := by decide +kernel
theorem dX9_run_153 : decode cX9_run 153 = .ok (.bipush 6, 2) := by decide +kernel
theorem dX9_run_155 : decode cX9_run 155 = .ok (.if_icmp .ge 44, 3) := by decide +kernel
theorem dX9_run_158 : decode cX9_run 158 = .ok (.aload_n 0, 1) := by decide +kernel
theorem dX9_run_159 : decode cX9_run 159 = .ok (.getfield 62, 3) := by decide +kernel
theorem dX9_run_162 : decode cX9_run 162 = .ok (.iload 4, 2) := by decide +kernel
theorem dX9_run_164 : decode cX9_run 164 = .ok (.iload 4, 2) := by decide +kernel
theorem dX9_run_166 : decode cX9_run 166 = .ok (.aload_n 0, 1) := by decide +kernel
theorem dX9_run_167 : decode cX9_run 167 = .ok (.getfield 215, 3) := by decide +kernel
theorem dX9_run_170 : decode cX9_run 170 = .ok (.if_icmp .ge 20, 3) := by decide +kernel
theorem dX9_run_173 : decode cX9_run 173 = .ok (.aload_n 0, 1) := by decide +kernel
theorem dX9_run_174 : decode cX9_run 174 = .ok (.getfield 16, 3) := by decide +kernel
theorem dX9_run_177 : decode cX9_run 177 = .ok (.bipush 40, 2) := by decide +kernel
theorem dX9_run_179 : decode cX9_run 179 = .ok (.iload_n 1, 1) := by decide +kernel
theorem dX9_run_180 : decode cX9_run 180 = .ok (.imul, 1) := by decide +kernel
theorem dX9_run_181 : decode cX9_run 181 = .ok (.iload_n 2, 1) := by decide +kernel
theorem dX9_run_182 : decode cX9_run 182 = .ok (.iadd, 1) := by decide +kernel
theorem dX9_run_183 : decode cX9_run 183 = .ok (.iload 4, 2) := by decide +kernel
theorem dX9_run_185 : decode cX9_run 185 = .ok (.iadd, 1) := by decide +kernel
theorem dX9_run_186 : decode cX9_run 186 = .ok (.iaload, 1) := by decide +kernel
theorem dX9_run_187 : decode cX9_run 187 = .ok (.goto 5, 3) := by decide +kernel
theorem dX9_run_190 : decode cX9_run 190 = .ok (.iload 4, 2) := by decide +kernel
theorem dX9_run_192 : decode cX9_run 192 = .ok (.iastore, 1) := by decide +kernel
theorem dX9_run_193 : decode cX9_run 193 = .ok (.iinc 4 1, 3) := by decide +kernel
theorem dX9_run_196 : decode cX9_run 196 = .ok (.goto (-45), 3) := by decide +kernel
theorem dX9_run_199 : decode cX9_run 199 = .ok (.aload_n 0, 1) := by decide +kernel
theorem dX9_run_200 : decode cX9_run 200 = .ok (.invokevirtual 274, 3) := by decide +kernel
theorem dX9_run_203 : decode cX9_run 203 = .ok (.aload_n 0, 1) := by decide +kernel
theorem dX9_run_204 : decode cX9_run 204 = .ok (.ldc 107, 2) := by decide +kernel
theorem dX9_run_206 : decode cX9_run 206 = .ok (.invokevirtual 277, 3) := by decide +kernel
theorem dX9_run_209 : decode cX9_run 209 = .ok (.aload_n 0, 1) := by decide +kernel
theorem dX9_run_210 : decode cX9_run 210 = .ok (.invokevirtual 280, 3) := by decide +kernel
theorem dX9_run_213 : decode cX9_run 213 = .ok (.aload_n 0, 1) := by decide +kernel
theorem dX9_run_214 : decode cX9_run 214 = .ok (.invokevirtual 283, 3) := by decide +kernel
theorem dX9_run_217 : decode cX9_run 217 = .ok (.ireturn, 1) := by decide +kernel
theorem dX9_layNumbers_0 : decode cX9_layNumbers 0 = .ok (.iconst 0, 1) := by decide +kernel
theorem dX9_layNumbers_1 : decode cX9_layNumbers 1 = .ok (.istore_n 1, 1) := by decide +kernel
theorem dX9_layNumbers_2 : decode cX9_layNumbers 2 = .ok (.iload_n 1, 1) := by decide +kernel
theorem dX9_layNumbers_3 : decode cX9_layNumbers 3 = .ok (.bipush 6, 2) := by decide +kernel
theorem dX9_layNumbers_5 : decode cX9_layNumbers 5 = .ok (.if_icmp .ge 16, 3) := by decide +kernel
theorem dX9_layNumbers_8 : decode cX9_layNumbers 8 = .ok (.aload_n 0, 1) := by decide +kernel
theorem dX9_layNumbers_9 : decode cX9_layNumbers 9 = .ok (.getfield 62, 3) := by decide +kernel
theorem dX9_layNumbers_12 : decode cX9_layNumbers 12 = .ok (.iload_n 1, 1) := by decide +kernel
theorem dX9_layNumbers_13 : decode cX9_layNumbers 13 = .ok (.iload_n 1, 1) := by decide +kernel
theorem dX9_layNumbers_14 : decode cX9_layNumbers 14 = .ok (.iastore, 1) := by decide +kernel
theorem dX9_layNumbers_15 : decode cX9_layNumbers 15 = .ok (.iinc 1 1, 3) := by decide +kernel
theorem dX9_layNumbers_18 : decode cX9_layNumbers 18 = .ok (.goto (-16), 3) := by decide +kernel
theorem dX9_layNumbers_21 : decode cX9_layNumbers 21 = .ok (.return_, 1) := by decide +kernel
theorem dX9_runs_0 : decode cX9_runs 0 = .ok (.aload_n 0, 1) := by decide +kernel
theorem dX9_runs_1 : decode cX9_runs 1 = .ok (.iconst 0, 1) := by decide +kernel
theorem dX9_runs_2 : decode cX9_runs 2 = .ok (.putfield 71, 3) := by decide +kernel
theorem dX9_runs_5 : decode cX9_runs 5 = .ok (.aload_n 0, 1) := by decide +kernel
theorem dX9_runs_6 : decode cX9_runs 6 = .ok (.getfield 212, 3) := by decide +kernel
theorem dX9_runs_9 : decode cX9_runs 9 = .ok (.ifCond .ne 7, 3) := by decide +kernel
theorem dX9_runs_12 : decode cX9_runs 12 = .ok (.ldc_w 273, 3) := by decide +kernel
theorem dX9_runs_15 : decode cX9_runs 15 = .ok (.ireturn, 1) := by decide +kernel
theorem dX9_runs_16 : decode cX9_runs 16 = .ok (.aload_n 0, 1) := by decide +kernel
theorem dX9_runs_17 : decode cX9_runs 17 = .ok (.invokevirtual 286, 3) := by decide +kernel
theorem dX9_runs_20 : decode cX9_runs 20 = .ok (.aload_n 0, 1) := by decide +kernel
theorem dX9_runs_21 : decode cX9_runs 21 = .ok (.invokevirtual 274, 3) := by decide +kernel
theorem dX9_runs_24 : decode cX9_runs 24 = .ok (.aload_n 0, 1) := by decide +kernel
theorem dX9_runs_25 : decode cX9_runs 25 = .ok (.ldc 107, 2) := by decide +kernel
theorem dX9_runs_27 : decode cX9_runs 27 = .ok (.invokevirtual 277, 3) := by decide +kernel
theorem dX9_runs_30 : decode cX9_runs 30 = .ok (.aload_n 0, 1) := by decide +kernel
theorem dX9_runs_31 : decode cX9_runs 31 = .ok (.invokevirtual 280, 3) := by decide +kernel
theorem dX9_runs_34 : decode cX9_runs 34 = .ok (.aload_n 0, 1) := by decide +kernel
theorem dX9_runs_35 : decode cX9_runs 35 = .ok (.invokevirtual 283, 3) := by decide +kernel
theorem dX9_runs_38 : decode cX9_runs 38 = .ok (.ireturn, 1) := by decide +kernel
theorem dX9_layStanding_0 : decode cX9_layStanding 0 = .ok (.iconst 0, 1) := by decide +kernel
theorem dX9_layStanding_1 : decode cX9_layStanding 1 = .ok (.istore_n 1, 1) := by decide +kernel
theorem dX9_layStanding_2 : decode cX9_layStanding 2 = .ok (.iload_n 1, 1) := by decide +kernel
theorem dX9_layStanding_3 : decode cX9_layStanding 3 = .ok (.bipush 48, 2) := by decide +kernel
theorem dX9_layStanding_5 : decode cX9_layStanding 5 = .ok (.if_icmp .ge 58, 3) := by decide +kernel
theorem dX9_layStanding_8 : decode cX9_layStanding 8 = .ok (.aload_n 0, 1) := by decide +kernel
theorem dX9_layStanding_9 : decode cX9_layStanding 9 = .ok (.getfield 46, 3) := by decide +kernel
theorem dX9_layStanding_12 : decode cX9_layStanding 12 = .ok (.iload_n 1, 1) := by decide +kernel
theorem dX9_layStanding_13 : decode cX9_layStanding 13 = .ok (.aload_n 0, 1) := by decide +kernel
theorem dX9_layStanding_14 : decode cX9_layStanding 14 = .ok (.getfield 224, 3) := by decide +kernel
theorem dX9_layStanding_17 : decode cX9_layStanding 17 = .ok (.ifCond .eq 12, 3) := by decide +kernel
theorem dX9_layStanding_20 : decode cX9_layStanding 20 = .ok (.aload_n 0, 1) := by decide +kernel
theorem dX9_layStanding_21 : decode cX9_layStanding 21 = .ok (.getfield 56, 3) := by decide +kernel
theorem dX9_layStanding_24 : decode cX9_layStanding 24 = .ok (.iload_n 1, 1) := by decide +kernel
theorem dX9_layStanding_25 : decode cX9_layStanding 25 = .ok (.iaload, 1) := by decide +kernel
theorem dX9_layStanding_26 : decode cX9_layStanding 26 = .ok (.goto 30, 3) := by decide +kernel
theorem dX9_layStanding_29 : decode cX9_layStanding 29 = .ok (.iload_n 1, 1) := by decide +kernel
theorem dX9_layStanding_30 : decode cX9_layStanding 30 = .ok (.i2l, 1) := by decide +kernel
theorem dX9_layStanding_31 : decode cX9_layStanding 31 = .ok (.ldc2_w 259, 3) := by decide +kernel
theorem dX9_layStanding_34 : decode cX9_layStanding 34 = .ok (.ldc2_w 261, 3) := by decide +kernel
theorem dX9_layStanding_37 : decode cX9_layStanding 37 = .ok (.invokestatic 81, 3) := by decide +kernel
theorem dX9_layStanding_40 : decode cX9_layStanding 40 = .ok (.ifCond .eq 15, 3) := by decide +kernel
theorem dX9_layStanding_43 : decode cX9_layStanding 43 = .ok (.aload_n 0, 1) := by decide +kernel
theorem dX9_layStanding_44 : decode cX9_layStanding 44 = .ok (.getfield 40, 3) := by decide +kernel
theorem dX9_layStanding_47 : decode cX9_layStanding 47 = .ok (.iload_n 1, 1) := by decide +kernel
theorem dX9_layStanding_48 : decode cX9_layStanding 48 = .ok (.bipush 24, 2) := by decide +kernel
theorem dX9_layStanding_50 : decode cX9_layStanding 50 = .ok (.isub, 1) := by decide +kernel
theorem dX9_layStanding_51 : decode cX9_layStanding 51 = .ok (.iaload, 1) := by decide +kernel
theorem dX9_layStanding_52 : decode cX9_layStanding 52 = .ok (.goto 4, 3) := by decide +kernel
theorem dX9_layStanding_55 : decode cX9_layStanding 55 = .ok (.iconst 0, 1) := by decide +kernel
theorem dX9_layStanding_56 : decode cX9_layStanding 56 = .ok (.iastore, 1) := by decide +kernel
theorem dX9_layStanding_57 : decode cX9_layStanding 57 = .ok (.iinc 1 1, 3) := by decide +kernel
theorem dX9_layStanding_60 : decode cX9_layStanding 60 = .ok (.goto (-58), 3) := by decide +kernel
theorem dX9_layStanding_63 : decode cX9_layStanding 63 = .ok (.return_, 1) := by decide +kernel
theorem dX9_cell_0 : decode cX9_cell 0 = .ok (.aload_n 0, 1) := by decide +kernel
theorem dX9_cell_1 : decode cX9_cell 1 = .ok (.iconst 0, 1) := by decide +kernel
theorem dX9_cell_2 : decode cX9_cell 2 = .ok (.putfield 71, 3) := by decide +kernel
theorem dX9_cell_5 : decode cX9_cell 5 = .ok (.aload_n 0, 1) := by decide +kernel
theorem dX9_cell_6 : decode cX9_cell 6 = .ok (.iload_n 1, 1) := by decide +kernel
theorem dX9_cell_7 : decode cX9_cell 7 = .ok (.invokevirtual 233, 3) := by decide +kernel
theorem dX9_cell_10 : decode cX9_cell 10 = .ok (.ifCond .eq 15, 3) := by decide +kernel
theorem dX9_cell_13 : decode cX9_cell 13 = .ok (.iload_n 2, 1) := by decide +kernel
theorem dX9_cell_14 : decode cX9_cell 14 = .ok (.i2l, 1) := by decide +kernel
theorem dX9_cell_15 : decode cX9_cell 15 = .ok (.lconst 0, 1) := by decide +kernel
theorem dX9_cell_16 : decode cX9_cell 16 = .ok (.ldc2_w 231, 3) := by decide +kernel
theorem dX9_cell_19 : decode cX9_cell 19 = .ok (.invokestatic 81, 3) := by decide +kernel
theorem dX9_cell_22 : decode cX9_cell 22 = .ok (.ifCond .ne 6, 3) := by decide +kernel
theorem dX9_cell_25 : decode cX9_cell 25 = .ok (.ldc 91, 2) := by decide +kernel
theorem dX9_cell_27 : decode cX9_cell 27 = .ok (.ireturn, 1) := by decide +kernel
theorem dX9_cell_28 : decode cX9_cell 28 = .ok (.aload_n 0, 1) := by decide +kernel
theorem dX9_cell_29 : decode cX9_cell 29 = .ok (.invokevirtual 289, 3) := by decide +kernel
theorem dX9_cell_32 : decode cX9_cell 32 = .ok (.aload_n 0, 1) := by decide +kernel
theorem dX9_cell_33 : decode cX9_cell 33 = .ok (.getfield 46, 3) := by decide +kernel
theorem dX9_cell_36 : decode cX9_cell 36 = .ok (.bipush 12, 2) := by decide +kernel
theorem dX9_cell_38 : decode cX9_cell 38 = .ok (.iload_n 2, 1) := by decide +kernel
theorem dX9_cell_39 : decode cX9_cell 39 = .ok (.imul, 1) := by decide +kernel
theorem dX9_cell_40 : decode cX9_cell 40 = .ok (.iload_n 1, 1) := by decide +kernel
theorem dX9_cell_41 : decode cX9_cell 41 = .ok (.iadd, 1) := by decide +kernel
theorem dX9_cell_42 : decode cX9_cell 42 = .ok (.iaload, 1) := by decide +kernel
theorem dX9_cell_43 : decode cX9_cell 43 = .ok (.ireturn, 1) := by decide +kernel
theorem dX9_height_0 : decode cX9_height 0 = .ok (.aload_n 0, 1) := by decide +kernel
theorem dX9_height_1 : decode cX9_height 1 = .ok (.iconst 0, 1) := by decide +kernel
theorem dX9_height_2 : decode cX9_height 2 = .ok (.putfield 71, 3) := by decide +kernel
theorem dX9_height_5 : decode cX9_height 5 = .ok (.aload_n 0, 1) := by decide +kernel
theorem dX9_height_6 : decode cX9_height 6 = .ok (.getfield 212, 3) := by decide +kernel
theorem dX9_height_9 : decode cX9_height 9 = .ok (.ifCond .ne 7, 3) := by decide +kernel
theorem dX9_height_12 : decode cX9_height 12 = .ok (.ldc_w 273, 3) := by decide +kernel
theorem dX9_height_15 : decode cX9_height 15 = .ok (.ireturn, 1) := by decide +kernel
theorem dX9_height_16 : decode cX9_height 16 = .ok (.iload_n 1, 1) := by decide +kernel
theorem dX9_height_17 : decode cX9_height 17 = .ok (.i2l, 1) := by decide +kernel
theorem dX9_height_18 : decode cX9_height 18 = .ok (.lconst 0, 1) := by decide +kernel
theorem dX9_height_19 : decode cX9_height 19 = .ok (.aload_n 0, 1) := by decide +kernel
theorem dX9_height_20 : decode cX9_height 20 = .ok (.getfield 212, 3) := by decide +kernel
theorem dX9_height_23 : decode cX9_height 23 = .ok (.i2l, 1) := by decide +kernel
theorem dX9_height_24 : decode cX9_height 24 = .ok (.invokestatic 81, 3) := by decide +kernel
theorem dX9_height_27 : decode cX9_height 27 = .ok (.ifCond .ne 6, 3) := by decide +kernel
theorem dX9_height_30 : decode cX9_height 30 = .ok (.ldc 91, 2) := by decide +kernel
theorem dX9_height_32 : decode cX9_height 32 = .ok (.ireturn, 1) := by decide +kernel
theorem dX9_height_33 : decode cX9_height 33 = .ok (.aload_n 0, 1) := by decide +kernel
theorem dX9_height_34 : decode cX9_height 34 = .ok (.invokevirtual 289, 3) := by decide +kernel
theorem dX9_height_37 : decode cX9_height 37 = .ok (.aload_n 0, 1) := by decide +kernel
theorem dX9_height_38 : decode cX9_height 38 = .ok (.aload_n 0, 1) := by decide +kernel
theorem dX9_height_39 : decode cX9_height 39 = .ok (.getfield 46, 3) := by decide +kernel
theorem dX9_height_42 : decode cX9_height 42 = .ok (.iload_n 1, 1) := by decide +kernel
theorem dX9_height_43 : decode cX9_height 43 = .ok (.invokevirtual 266, 3) := by decide +kernel
theorem dX9_height_46 : decode cX9_height 46 = .ok (.ireturn, 1) := by decide +kernel
theorem dX9_minutes_0 : decode cX9_minutes 0 = .ok (.aload_n 0, 1) := by decide +kernel
theorem dX9_minutes_1 : decode cX9_minutes 1 = .ok (.iconst 0, 1) := by decide +kernel
theorem dX9_minutes_2 : decode cX9_minutes 2 = .ok (.putfield 71, 3) := by decide +kernel
theorem dX9_minutes_5 : decode cX9_minutes 5 = .ok (.aload_n 0, 1) := by decide +kernel
theorem dX9_minutes_6 : decode cX9_minutes 6 = .ok (.getfield 224, 3) := by decide +kernel
theorem dX9_minutes_9 : decode cX9_minutes 9 = .ok (.ifCond .eq 10, 3) := by decide +kernel
theorem dX9_minutes_12 : decode cX9_minutes 12 = .ok (.aload_n 0, 1) := by decide +kernel
theorem dX9_minutes_13 : decode cX9_minutes 13 = .ok (.getfield 270, 3) := by decide +kernel
theorem dX9_minutes_16 : decode cX9_minutes 16 = .ok (.goto 4, 3) := by decide +kernel
theorem dX9_minutes_19 : decode cX9_minutes 19 = .ok (.iconst 0, 1) := by decide +kernel
theorem dX9_minutes_20 : decode cX9_minutes 20 = .ok (.ireturn, 1) := by decide +kernel
theorem dX9_gives_0 : decode cX9_gives 0 = .ok (.aload_n 0, 1) := by decide +kernel
theorem dX9_gives_1 : decode cX9_gives 1 = .ok (.iconst 0, 1) := by decide +kernel
theorem dX9_gives_2 : decode cX9_gives 2 = .ok (.putfield 71, 3) := by decide +kernel
theorem dX9_gives_5 : decode cX9_gives 5 = .ok (.iload_n 1, 1) := by decide +kernel
theorem dX9_gives_6 : decode cX9_gives 6 = .ok (.i2l, 1) := by decide +kernel
theorem dX9_gives_7 : decode cX9_gives 7 = .ok (.lconst 0, 1) := by decide +kernel
theorem dX9_gives_8 : decode cX9_gives 8 = .ok (.aload_n 0, 1) := by decide +kernel
theorem dX9_gives_9 : decode cX9_gives 9 = .ok (.getfield 215, 3) := by decide +kernel
theorem dX9_gives_12 : decode cX9_gives 12 = .ok (.iconst 1, 1) := by decide +kernel
theorem dX9_gives_13 : decode cX9_gives 13 = .ok (.isub, 1) := by decide +kernel
theorem dX9_gives_14 : decode cX9_gives 14 = .ok (.i2l, 1) := by decide +kernel
theorem dX9_gives_15 : decode cX9_gives 15 = .ok (.invokestatic 81, 3) := by decide +kernel
theorem dX9_gives_18 : decode cX9_gives 18 = .ok (.ifCond .ne 6, 3) := by decide +kernel
theorem dX9_gives_21 : decode cX9_gives 21 = .ok (.ldc 91, 2) := by decide +kernel
theorem dX9_gives_23 : decode cX9_gives 23 = .ok (.ireturn, 1) := by decide +kernel
theorem dX9_gives_24 : decode cX9_gives 24 = .ok (.iconst 0, 1) := by decide +kernel
theorem dX9_gives_25 : decode cX9_gives 25 = .ok (.istore_n 2, 1) := by decide +kernel
theorem dX9_gives_26 : decode cX9_gives 26 = .ok (.iload_n 2, 1) := by decide +kernel
theorem dX9_gives_27 : decode cX9_gives 27 = .ok (.bipush 6, 2) := by decide +kernel
theorem dX9_gives_29 : decode cX9_gives 29 = .ok (.if_icmp .ge 21, 3) := by decide +kernel
theorem dX9_gives_32 : decode cX9_gives 32 = .ok (.aload_n 0, 1) := by decide +kernel
theorem dX9_gives_33 : decode cX9_gives 33 = .ok (.getfield 62, 3) := by decide +kernel
theorem dX9_gives_36 : decode cX9_gives 36 = .ok (.iload_n 2, 1) := by decide +kernel
theorem dX9_gives_37 : decode cX9_gives 37 = .ok (.aload_n 0, 1) := by decide +kernel
theorem dX9_gives_38 : decode cX9_gives 38 = .ok (.getfield 43, 3) := by decide +kernel
theorem dX9_gives_41 : decode cX9_gives 41 = .ok (.iload_n 2, 1) := by decide +kernel
theorem dX9_gives_42 : decode cX9_gives 42 = .ok (.iaload, 1) := by decide +kernel
theorem dX9_gives_43 : decode cX9_gives 43 = .ok (.iastore, 1) := by decide +kernel
theorem dX9_gives_44 : decode cX9_gives 44 = .ok (.iinc 2 1, 3) := by decide +kernel
theorem dX9_gives_47 : decode cX9_gives 47 = .ok (.goto (-21), 3) := by decide +kernel
theorem dX9_gives_50 : decode cX9_gives 50 = .ok (.aload_n 0, 1) := by decide +kernel
theorem dX9_gives_51 : decode cX9_gives 51 = .ok (.invokevirtual 274, 3) := by decide +kernel
theorem dX9_gives_54 : decode cX9_gives 54 = .ok (.aload_n 0, 1) := by decide +kernel
theorem dX9_gives_55 : decode cX9_gives 55 = .ok (.ldc 107, 2) := by decide +kernel
theorem dX9_gives_57 : decode cX9_gives 57 = .ok (.invokevirtual 277, 3) := by decide +kernel
theorem dX9_gives_60 : decode cX9_gives 60 = .ok (.aload_n 0, 1) := by decide +kernel
theorem dX9_gives_61 : decode cX9_gives 61 = .ok (.invokevirtual 283, 3) := by decide +kernel
theorem dX9_gives_64 : decode cX9_gives 64 = .ok (.istore_n 2, 1) := by decide +kernel
theorem dX9_gives_65 : decode cX9_gives 65 = .ok (.aload_n 0, 1) := by decide +kernel
theorem dX9_gives_66 : decode cX9_gives 66 = .ok (.iload_n 1, 1) := by decide +kernel
theorem dX9_gives_67 : decode cX9_gives 67 = .ok (.invokevirtual 277, 3) := by decide +kernel
theorem dX9_gives_70 : decode cX9_gives 70 = .ok (.iload_n 2, 1) := by decide +kernel
theorem dX9_gives_71 : decode cX9_gives 71 = .ok (.aload_n 0, 1) := by decide +kernel
theorem dX9_gives_72 : decode cX9_gives 72 = .ok (.invokevirtual 283, 3) := by decide +kernel
theorem dX9_gives_75 : decode cX9_gives 75 = .ok (.isub, 1) := by decide +kernel
theorem dX9_gives_76 : decode cX9_gives 76 = .ok (.ireturn, 1) := by decide +kernel
theorem dX9_fits_0 : decode cX9_fits 0 = .ok (.iconst 1, 1) := by decide +kernel
theorem dX9_fits_1 : decode cX9_fits 1 = .ok (.istore_n 1, 1) := by decide +kernel
theorem dX9_fits_2 : decode cX9_fits 2 = .ok (.iconst 0, 1) := by decide +kernel
theorem dX9_fits_3 : decode cX9_fits 3 = .ok (.istore_n 2, 1) := by decide +kernel
theorem dX9_fits_4 : decode cX9_fits 4 = .ok (.iload_n 2, 1) := by decide +kernel
theorem dX9_fits_5 : decode cX9_fits 5 = .ok (.aload_n 0, 1) := by decide +kernel
theorem dX9_fits_6 : decode cX9_fits 6 = .ok (.getfield 221, 3) := by decide +kernel
theorem dX9_fits_9 : decode cX9_fits 9 = .ok (.if_icmp .ge 96, 3) := by decide +kernel
theorem dX9_fits_12 : decode cX9_fits 12 = .ok (.iconst 0, 1) := by decide +kernel
theorem dX9_fits_13 : decode cX9_fits 13 = .ok (.istore_n 3, 1) := by decide +kernel
theorem dX9_fits_14 : decode cX9_fits 14 = .ok (.iconst 0, 1) := by decide +kernel
theorem dX9_fits_15 : decode cX9_fits 15 = .ok (.istore 4, 2) := by decide +kernel
theorem dX9_fits_17 : decode cX9_fits 17 = .ok (.iconst 0, 1) := by decide +kernel
theorem dX9_fits_18 : decode cX9_fits 18 = .ok (.istore 5, 2) := by decide +kernel
theorem dX9_fits_20 : decode cX9_fits 20 = .ok (.iload 5, 2) := by decide +kernel
theorem dX9_fits_22 : decode cX9_fits 22 = .ok (.aload_n 0, 1) := by decide +kernel
theorem dX9_fits_23 : decode cX9_fits 23 = .ok (.getfield 215, 3) := by decide +kernel
theorem dX9_fits_26 : decode cX9_fits 26 = .ok (.if_icmp .ge 57, 3) := by decide +kernel
theorem dX9_fits_29 : decode cX9_fits 29 = .ok (.aload_n 0, 1) := by decide +kernel
theorem dX9_fits_30 : decode cX9_fits 30 = .ok (.getfield 62, 3) := by decide +kernel
theorem dX9_fits_33 : decode cX9_fits 33 = .ok (.iload 5, 2) := by decide +kernel
theorem dX9_fits_35 : decode cX9_fits 35 = .ok (.iaload, 1) := by decide +kernel
theorem dX9_fits_36 : decode cX9_fits 36 = .ok (.aload_n 0, 1) := by decide +kernel
theorem dX9_fits_37 : decode cX9_fits 37 = .ok (.getfield 22, 3) := by decide +kernel
theorem dX9_fits_40 : decode cX9_fits 40 = .ok (.iload_n 2, 1) := by decide +kernel
theorem dX9_fits_41 : decode cX9_fits 41 = .ok (.iaload, 1) := by decide +kernel
theorem dX9_fits_42 : decode cX9_fits 42 = .ok (.if_icmp .ne 8, 3) := by decide +kernel
theorem dX9_fits_45 : decode cX9_fits 45 = .ok (.iload 5, 2) := by decide +kernel
theorem dX9_fits_47 : decode cX9_fits 47 = .ok (.goto 4, 3) := by decide +kernel
theorem dX9_fits_50 : decode cX9_fits 50 = .ok (.iload_n 3, 1) := by decide +kernel
theorem dX9_fits_51 : decode cX9_fits 51 = .ok (.istore_n 3, 1) := by decide +kernel
theorem dX9_fits_52 : decode cX9_fits 52 = .ok (.aload_n 0, 1) := by decide +kernel
theorem dX9_fits_53 : decode cX9_fits 53 = .ok (.getfield 62, 3) := by decide +kernel
theorem dX9_fits_56 : decode cX9_fits 56 = .ok (.iload 5, 2) := by decide +kernel
theorem dX9_fits_58 : decode cX9_fits 58 = .ok (.iaload, 1) := by decide +kernel
theorem dX9_fits_59 : decode cX9_fits 59 = .ok (.aload_n 0, 1) := by decide +kernel
theorem dX9_fits_60 : decode cX9_fits 60 = .ok (.getfield 25, 3) := by decide +kernel
theorem dX9_fits_63 : decode cX9_fits 63 = .ok (.iload_n 2, 1) := by decide +kernel
theorem dX9_fits_64 : decode cX9_fits 64 = .ok (.iaload, 1) := by decide +kernel
theorem dX9_fits_65 : decode cX9_fits 65 = .ok (.if_icmp .ne 8, 3) := by decide +kernel
theorem dX9_fits_68 : decode cX9_fits 68 = .ok (.iload 5, 2) := by decide +kernel
theorem dX9_fits_70 : decode cX9_fits 70 = .ok (.goto 5, 3) := by decide +kernel
theorem dX9_fits_73 : decode cX9_fits 73 = .ok (.iload 4, 2) := by decide +kernel
theorem dX9_fits_75 : decode cX9_fits 75 = .ok (.istore 4, 2) := by decide +kernel
theorem dX9_fits_77 : decode cX9_fits 77 = .ok (.iinc 5 1, 3) := by decide +kernel
theorem dX9_fits_80 : decode cX9_fits 80 = .ok (.goto (-60), 3) := by decide +kernel
theorem dX9_fits_83 : decode cX9_fits 83 = .ok (.iload_n 1, 1) := by decide +kernel
theorem dX9_fits_84 : decode cX9_fits 84 = .ok (.ifCond .eq 13, 3) := by decide +kernel
theorem dX9_fits_87 : decode cX9_fits 87 = .ok (.iload_n 3, 1) := by decide +kernel
theorem dX9_fits_88 : decode cX9_fits 88 = .ok (.iload 4, 2) := by decide +kernel
theorem dX9_fits_90 : decode cX9_fits 90 = .ok (.if_icmp .ge 7, 3) := by decide +kernel
theorem dX9_fits_93 : decode cX9_fits 93 = .ok (.iconst 1, 1) := by decide +kernel
theorem dX9_fits_94 : decode cX9_fits 94 = .ok (.goto 4, 3) := by decide +kernel
theorem dX9_fits_97 : decode cX9_fits 97 = .ok (.iconst 0, 1) := by decide +kernel
theorem dX9_fits_98 : decode cX9_fits 98 = .ok (.istore_n 1, 1) := by decide +kernel
theorem dX9_fits_99 : decode cX9_fits 99 = .ok (.iinc 2 1, 3) := by decide +kernel
theorem dX9_fits_102 : decode cX9_fits 102 = .ok (.goto (-98), 3) := by decide +kernel
theorem dX9_fits_105 : decode cX9_fits 105 = .ok (.iload_n 1, 1) := by decide +kernel
theorem dX9_fits_106 : decode cX9_fits 106 = .ok (.ireturn, 1) := by decide +kernel
theorem dX9_nextOrder_0 : decode cX9_nextOrder 0 = .ok (.aload_n 0, 1) := by decide +kernel
theorem dX9_nextOrder_1 : decode cX9_nextOrder 1 = .ok (.getfield 215, 3) := by decide +kernel
theorem dX9_nextOrder_4 : decode cX9_nextOrder 4 = .ok (.iconst 2, 1) := by decide +kernel
theorem dX9_nextOrder_5 : decode cX9_nextOrder 5 = .ok (.isub, 1) := by decide +kernel
theorem dX9_nextOrder_6 : decode cX9_nextOrder 6 = .ok (.istore_n 1, 1) := by decide +kernel
theorem dX9_nextOrder_7 : decode cX9_nextOrder 7 = .ok (.iload_n 1, 1) := by decide +kernel
theorem dX9_nextOrder_8 : decode cX9_nextOrder 8 = .ok (.ifCond .lt 26, 3) := by decide +kernel
theorem dX9_nextOrder_11 : decode cX9_nextOrder 11 = .ok (.aload_n 0, 1) := by decide +kernel
theorem dX9_nextOrder_12 : decode cX9_nextOrder 12 = .ok (.getfield 62, 3) := by decide +kernel
theorem dX9_nextOrder_15 : decode cX9_nextOrder 15 = .ok (.iload_n 1, 1) := by decide +kernel
theorem dX9_nextOrder_16 : decode cX9_nextOrder 16 = .ok (.iaload, 1) := by decide +kernel
theorem dX9_nextOrder_17 : decode cX9_nextOrder 17 = .ok (.aload_n 0, 1) := by decide +kernel
theorem dX9_nextOrder_18 : decode cX9_nextOrder 18 = .ok (.getfield 62, 3) := by decide +kernel
theorem dX9_nextOrder_21 : decode cX9_nextOrder 21 = .ok (.iload_n 1, 1) := by decide +kernel
theorem dX9_nextOrder_22 : decode cX9_nextOrder 22 = .ok (.iconst 1, 1) := by decide +kernel
theorem dX9_nextOrder_23 : decode cX9_nextOrder 23 = .ok (.iadd, 1) := by decide +kernel
theorem dX9_nextOrder_24 : decode cX9_nextOrder 24 = .ok (.iaload, 1) := by decide +kernel
theorem dX9_nextOrder_25 : decode cX9_nextOrder 25 = .ok (.if_icmp .le 9, 3) := by decide +kernel
theorem dX9_nextOrder_28 : decode cX9_nextOrder 28 = .ok (.iinc 1 (-1), 3) := by decide +kernel
theorem dX9_nextOrder_31 : decode cX9_nextOrder 31 = .ok (.goto (-24), 3) := by decide +kernel
theorem dX9_nextOrder_34 : decode cX9_nextOrder 34 = .ok (.iload_n 1, 1) := by decide +kernel
theorem dX9_nextOrder_35 : decode cX9_nextOrder 35 = .ok (.ifCond .ge 5, 3) := by decide +kernel
theorem dX9_nextOrder_38 : decode cX9_nextOrder 38 = .ok (.iconst 0, 1) := by decide +kernel
theorem dX9_nextOrder_39 : decode cX9_nextOrder 39 = .ok (.ireturn, 1) := by decide +kernel
theorem dX9_nextOrder_40 : decode cX9_nextOrder 40 = .ok (.aload_n 0, 1) := by decide +kernel
theorem dX9_nextOrder_41 : decode cX9_nextOrder 41 = .ok (.getfield 215, 3) := by decide +kernel
theorem dX9_nextOrder_44 : decode cX9_nextOrder 44 = .ok (.iconst 1, 1) := by decide +kernel
theorem dX9_nextOrder_45 : decode cX9_nextOrder 45 = .ok (.isub, 1) := by decide +kernel
theorem dX9_nextOrder_46 : decode cX9_nextOrder 46 = .ok (.istore_n 2, 1) := by decide +kernel
theorem dX9_nextOrder_47 : decode cX9_nextOrder 47 = .ok (.aload_n 0, 1) := by decide +kernel
theorem dX9_nextOrder_48 : decode cX9_nextOrder 48 = .ok (.getfield 62, 3) := by decide +kernel
theorem dX9_nextOrder_51 : decode cX9_nextOrder 51 = .ok (.iload_n 2, 1) := by decide +kernel
theorem dX9_nextOrder_52 : decode cX9_nextOrder 52 = .ok (.iaload, 1) := by decide +kernel
theorem dX9_nextOrder_53 : decode cX9_nextOrder 53 = .ok (.aload_n 0, 1) := by decide +kernel
theorem dX9_nextOrder_54 : decode cX9_nextOrder 54 = .ok (.getfield 62, 3) := by decide +kernel
theorem dX9_nextOrder_57 : decode cX9_nextOrder 57 = .ok (.iload_n 1, 1) := by decide +kernel
theorem dX9_nextOrder_58 : decode cX9_nextOrder 58 = .ok (.iaload, 1) := by decide +kernel
theorem dX9_nextOrder_59 : decode cX9_nextOrder 59 = .ok (.if_icmp .ge 9, 3) := by decide +kernel
theorem dX9_nextOrder_62 : decode cX9_nextOrder 62 = .ok (.iinc 2 (-1), 3) := by decide +kernel
theorem dX9_nextOrder_65 : decode cX9_nextOrder 65 = .ok (.goto (-18), 3) := by decide +kernel
theorem dX9_nextOrder_68 : decode cX9_nextOrder 68 = .ok (.aload_n 0, 1) := by decide +kernel
theorem dX9_nextOrder_69 : decode cX9_nextOrder 69 = .ok (.getfield 62, 3) := by decide +kernel
theorem dX9_nextOrder_72 : decode cX9_nextOrder 72 = .ok (.iload_n 1, 1) := by decide +kernel
theorem dX9_nextOrder_73 : decode cX9_nextOrder 73 = .ok (.iaload, 1) := by decide +kernel
theorem dX9_nextOrder_74 : decode cX9_nextOrder 74 = .ok (.istore_n 3, 1) := by decide +kernel
theorem dX9_nextOrder_75 : decode cX9_nextOrder 75 = .ok (.aload_n 0, 1) := by decide +kernel
theorem dX9_nextOrder_76 : decode cX9_nextOrder 76 = .ok (.getfield 62, 3) := by decide +kernel
theorem dX9_nextOrder_79 : decode cX9_nextOrder 79 = .ok (.iload_n 1, 1) := by decide +kernel
theorem dX9_nextOrder_80 : decode cX9_nextOrder 80 = .ok (.aload_n 0, 1) := by decide +kernel
theorem dX9_nextOrder_81 : decode cX9_nextOrder 81 = .ok (.getfield 62, 3) := by decide +kernel
theorem dX9_nextOrder_84 : decode cX9_nextOrder 84 = .ok (.iload_n 2, 1) := by decide +kernel
theorem dX9_nextOrder_85 : decode cX9_nextOrder 85 = .ok (.iaload, 1) := by decide +kernel
theorem dX9_nextOrder_86 : decode cX9_nextOrder 86 = .ok (.iastore, 1) := by decide +kernel
theorem dX9_nextOrder_87 : decode cX9_nextOrder 87 = .ok (.aload_n 0, 1) := by decide +kernel
theorem dX9_nextOrder_88 : decode cX9_nextOrder 88 = .ok (.getfield 62, 3) := by decide +kernel
theorem dX9_nextOrder_91 : decode cX9_nextOrder 91 = .ok (.iload_n 2, 1) := by decide +kernel
theorem dX9_nextOrder_92 : decode cX9_nextOrder 92 = .ok (.iload_n 3, 1) := by decide +kernel
theorem dX9_nextOrder_93 : decode cX9_nextOrder 93 = .ok (.iastore, 1) := by decide +kernel
theorem dX9_nextOrder_94 : decode cX9_nextOrder 94 = .ok (.iload_n 1, 1) := by decide +kernel
theorem dX9_nextOrder_95 : decode cX9_nextOrder 95 = .ok (.iconst 1, 1) := by decide +kernel
theorem dX9_nextOrder_96 : decode cX9_nextOrder 96 = .ok (.iadd, 1) := by decide +kernel
theorem dX9_nextOrder_97 : decode cX9_nextOrder 97 = .ok (.istore 4, 2) := by decide +kernel
theorem dX9_nextOrder_99 : decode cX9_nextOrder 99 = .ok (.aload_n 0, 1) := by decide +kernel
theorem dX9_nextOrder_100 : decode cX9_nextOrder 100 = .ok (.getfield 215, 3) := by decide +kernel
theorem dX9_nextOrder_103 : decode cX9_nextOrder 103 = .ok (.iconst 1, 1) := by decide +kernel
theorem dX9_nextOrder_104 : decode cX9_nextOrder 104 = .ok (.isub, 1) := by decide +kernel
theorem dX9_nextOrder_105 : decode cX9_nextOrder 105 = .ok (.istore 5, 2) := by decide +kernel
theorem dX9_nextOrder_107 : decode cX9_nextOrder 107 = .ok (.iload 4, 2) := by decide +kernel
theorem dX9_nextOrder_109 : decode cX9_nextOrder 109 = .ok (.iload 5, 2) := by decide +kernel
theorem dX9_nextOrder_111 : decode cX9_nextOrder 111 = .ok (.if_icmp .ge 42, 3) := by decide +kernel
theorem dX9_nextOrder_114 : decode cX9_nextOrder 114 = .ok (.aload_n 0, 1) := by decide +kernel
theorem dX9_nextOrder_115 : decode cX9_nextOrder 115 = .ok (.getfield 62, 3) := by decide +kernel
theorem dX9_nextOrder_118 : decode cX9_nextOrder 118 = .ok (.iload 4, 2) := by decide +kernel
theorem dX9_nextOrder_120 : decode cX9_nextOrder 120 = .ok (.iaload, 1) := by decide +kernel
theorem dX9_nextOrder_121 : decode cX9_nextOrder 121 = .ok (.istore_n 3, 1) := by decide +kernel
theorem dX9_nextOrder_122 : decode cX9_nextOrder 122 = .ok (.aload_n 0, 1) := by decide +kernel
theorem dX9_nextOrder_123 : decode cX9_nextOrder 123 = .ok (.getfield 62, 3) := by decide +kernel
theorem dX9_nextOrder_126 : decode cX9_nextOrder 126 = .ok (.iload 4, 2) := by decide +kernel
theorem dX9_nextOrder_128 : decode cX9_nextOrder 128 = .ok (.aload_n 0, 1) := by decide +kernel
theorem dX9_nextOrder_129 : decode cX9_nextOrder 129 = .ok (.getfield 62, 3) := by decide +kernel
theorem dX9_nextOrder_132 : decode cX9_nextOrder 132 = .ok (.iload 5, 2) := by decide +kernel
theorem dX9_nextOrder_134 : decode cX9_nextOrder 134 = .ok (.iaload, 1) := by decide +kernel
theorem dX9_nextOrder_135 : decode cX9_nextOrder 135 = .ok (.iastore, 1) := by decide +kernel
theorem dX9_nextOrder_136 : decode cX9_nextOrder 136 = .ok (.aload_n 0, 1) := by decide +kernel
theorem dX9_nextOrder_137 : decode cX9_nextOrder 137 = .ok (.getfield 62, 3) := by decide +kernel
theorem dX9_nextOrder_140 : decode cX9_nextOrder 140 = .ok (.iload 5, 2) := by decide +kernel
theorem dX9_nextOrder_142 : decode cX9_nextOrder 142 = .ok (.iload_n 3, 1) := by decide +kernel
theorem dX9_nextOrder_143 : decode cX9_nextOrder 143 = .ok (.iastore, 1) := by decide +kernel
theorem dX9_nextOrder_144 : decode cX9_nextOrder 144 = .ok (.iinc 4 1, 3) := by decide +kernel
theorem dX9_nextOrder_147 : decode cX9_nextOrder 147 = .ok (.iinc 5 (-1), 3) := by decide +kernel
theorem dX9_nextOrder_150 : decode cX9_nextOrder 150 = .ok (.goto (-43), 3) := by decide +kernel
theorem dX9_nextOrder_153 : decode cX9_nextOrder 153 = .ok (.iconst 1, 1) := by decide +kernel
theorem dX9_nextOrder_154 : decode cX9_nextOrder 154 = .ok (.ireturn, 1) := by decide +kernel
theorem dX9_best_0 : decode cX9_best 0 = .ok (.aload_n 0, 1) := by decide +kernel
theorem dX9_best_1 : decode cX9_best 1 = .ok (.iconst 0, 1) := by decide +kernel
theorem dX9_best_2 : decode cX9_best 2 = .ok (.putfield 71, 3) := by decide +kernel
theorem dX9_best_5 : decode cX9_best 5 = .ok (.iload_n 1, 1) := by decide +kernel
theorem dX9_best_6 : decode cX9_best 6 = .ok (.iconst (-1), 1) := by decide +kernel
theorem dX9_best_7 : decode cX9_best 7 = .ok (.if_icmp .ge 6, 3) := by decide +kernel
theorem dX9_best_10 : decode cX9_best 10 = .ok (.ldc 91, 2) := by decide +kernel
theorem dX9_best_12 : decode cX9_best 12 = .ok (.ireturn, 1) := by decide +kernel
theorem dX9_best_13 : decode cX9_best 13 = .ok (.aload_n 0, 1) := by decide +kernel
theorem dX9_best_14 : decode cX9_best 14 = .ok (.getfield 212, 3) := by decide +kernel
theorem dX9_best_17 : decode cX9_best 17 = .ok (.ifCond .ne 7, 3) := by decide +kernel
theorem dX9_best_20 : decode cX9_best 20 = .ok (.ldc_w 273, 3) := by decide +kernel
theorem dX9_best_23 : decode cX9_best 23 = .ok (.ireturn, 1) := by decide +kernel
theorem dX9_best_24 : decode cX9_best 24 = .ok (.aload_n 0, 1) := by decide +kernel
theorem dX9_best_25 : decode cX9_best 25 = .ok (.invokevirtual 286, 3) := by decide +kernel
theorem dX9_best_28 : decode cX9_best 28 = .ok (.aload_n 0, 1) := by decide +kernel
theorem dX9_best_29 : decode cX9_best 29 = .ok (.invokevirtual 274, 3) := by decide +kernel
theorem dX9_best_32 : decode cX9_best 32 = .ok (.ldc 107, 2) := by decide +kernel
theorem dX9_best_34 : decode cX9_best 34 = .ok (.istore_n 2, 1) := by decide +kernel
theorem dX9_best_35 : decode cX9_best 35 = .ok (.iconst 1, 1) := by decide +kernel
theorem dX9_best_36 : decode cX9_best 36 = .ok (.istore_n 3, 1) := by decide +kernel
theorem dX9_best_37 : decode cX9_best 37 = .ok (.iload_n 3, 1) := by decide +kernel
theorem dX9_best_38 : decode cX9_best 38 = .ok (.ifCond .eq 75, 3) := by decide +kernel
theorem dX9_best_41 : decode cX9_best 41 = .ok (.aload_n 0, 1) := by decide +kernel
theorem dX9_best_42 : decode cX9_best 42 = .ok (.invokevirtual 292, 3) := by decide +kernel
theorem dX9_best_45 : decode cX9_best 45 = .ok (.ifCond .eq 60, 3) := by decide +kernel
theorem dX9_best_48 : decode cX9_best 48 = .ok (.aload_n 0, 1) := by decide +kernel
theorem dX9_best_49 : decode cX9_best 49 = .ok (.ldc 107, 2) := by decide +kernel
theorem dX9_best_51 : decode cX9_best 51 = .ok (.invokevirtual 277, 3) := by decide +kernel
theorem dX9_best_54 : decode cX9_best 54 = .ok (.aload_n 0, 1) := by decide +kernel
theorem dX9_best_55 : decode cX9_best 55 = .ok (.invokevirtual 283, 3) := by decide +kernel
theorem dX9_best_58 : decode cX9_best 58 = .ok (.istore 4, 2) := by decide +kernel
theorem dX9_best_60 : decode cX9_best 60 = .ok (.iload_n 2, 1) := by decide +kernel
theorem dX9_best_61 : decode cX9_best 61 = .ok (.ldc 107, 2) := by decide +kernel
theorem dX9_best_63 : decode cX9_best 63 = .ok (.if_icmp .eq 9, 3) := by decide +kernel
theorem dX9_best_66 : decode cX9_best 66 = .ok (.iload 4, 2) := by decide +kernel
theorem dX9_best_68 : decode cX9_best 68 = .ok (.iload_n 2, 1) := by decide +kernel
theorem dX9_best_69 : decode cX9_best 69 = .ok (.if_icmp .ge 36, 3) := by decide +kernel
theorem dX9_best_72 : decode cX9_best 72 = .ok (.iload 4, 2) := by decide +kernel
theorem dX9_best_74 : decode cX9_best 74 = .ok (.istore_n 2, 1) := by decide +kernel
theorem dX9_best_75 : decode cX9_best 75 = .ok (.iconst 0, 1) := by decide +kernel
theorem dX9_best_76 : decode cX9_best 76 = .ok (.istore 5, 2) := by decide +kernel
theorem dX9_best_78 : decode cX9_best 78 = .ok (.iload 5, 2) := by decide +kernel
theorem dX9_best_80 : decode cX9_best 80 = .ok (.bipush 6, 2) := by decide +kernel
theorem dX9_best_82 : decode cX9_best 82 = .ok (.if_icmp .ge 23, 3) := by decide +kernel
theorem dX9_best_85 : decode cX9_best 85 = .ok (.aload_n 0, 1) := by decide +kernel
theorem dX9_best_86 : decode cX9_best 86 = .ok (.getfield 65, 3) := by decide +kernel
theorem dX9_best_89 : decode cX9_best 89 = .ok (.iload 5, 2) := by decide +kernel
theorem dX9_best_91 : decode cX9_best 91 = .ok (.aload_n 0, 1) := by decide +kernel
theorem dX9_best_92 : decode cX9_best 92 = .ok (.getfield 62, 3) := by decide +kernel
theorem dX9_best_95 : decode cX9_best 95 = .ok (.iload 5, 2) := by decide +kernel
theorem dX9_best_97 : decode cX9_best 97 = .ok (.iaload, 1) := by decide +kernel
theorem dX9_best_98 : decode cX9_best 98 = .ok (.iastore, 1) := by decide +kernel
theorem dX9_best_99 : decode cX9_best 99 = .ok (.iinc 5 1, 3) := by decide +kernel
theorem dX9_best_102 : decode cX9_best 102 = .ok (.goto (-24), 3) := by decide +kernel
theorem dX9_best_105 : decode cX9_best 105 = .ok (.aload_n 0, 1) := by decide +kernel
theorem dX9_best_106 : decode cX9_best 106 = .ok (.invokevirtual 296, 3) := by decide +kernel
theorem dX9_best_109 : decode cX9_best 109 = .ok (.istore_n 3, 1) := by decide +kernel
theorem dX9_best_110 : decode cX9_best 110 = .ok (.goto (-73), 3) := by decide +kernel
theorem dX9_best_113 : decode cX9_best 113 = .ok (.iload_n 1, 1) := by decide +kernel
theorem dX9_best_114 : decode cX9_best 114 = .ok (.iconst (-1), 1) := by decide +kernel
theorem dX9_best_115 : decode cX9_best 115 = .ok (.if_icmp .ne 7, 3) := by decide +kernel
theorem dX9_best_118 : decode cX9_best 118 = .ok (.iload_n 2, 1) := by decide +kernel
theorem dX9_best_119 : decode cX9_best 119 = .ok (.goto 28, 3) := by decide +kernel
theorem dX9_best_122 : decode cX9_best 122 = .ok (.iload_n 2, 1) := by decide +kernel
theorem dX9_best_123 : decode cX9_best 123 = .ok (.ldc 107, 2) := by decide +kernel
theorem dX9_best_125 : decode cX9_best 125 = .ok (.if_icmp .eq 11, 3) := by decide +kernel
theorem dX9_best_128 : decode cX9_best 128 = .ok (.iload_n 1, 1) := by decide +kernel
theorem dX9_best_129 : decode cX9_best 129 = .ok (.aload_n 0, 1) := by decide +kernel
theorem dX9_best_130 : decode cX9_best 130 = .ok (.getfield 215, 3) := by decide +kernel
theorem dX9_best_133 : decode cX9_best 133 = .ok (.if_icmp .lt 8, 3) := by decide +kernel
theorem dX9_best_136 : decode cX9_best 136 = .ok (.ldc 107, 2) := by decide +kernel
theorem dX9_best_138 : decode cX9_best 138 = .ok (.goto 9, 3) := by decide +kernel
theorem dX9_best_141 : decode cX9_best 141 = .ok (.aload_n 0, 1) := by decide +kernel
theorem dX9_best_142 : decode cX9_best 142 = .ok (.getfield 65, 3) := by decide +kernel
theorem dX9_best_145 : decode cX9_best 145 = .ok (.iload_n 1, 1) := by decide +kernel
theorem dX9_best_146 : decode cX9_best 146 = .ok (.iaload, 1) := by decide +kernel
theorem dX9_best_147 : decode cX9_best 147 = .ok (.ireturn, 1) := by decide +kernel
theorem dX9_orders_0 : decode cX9_orders 0 = .ok (.aload_n 0, 1) := by decide +kernel
theorem dX9_orders_1 : decode cX9_orders 1 = .ok (.iconst 0, 1) := by decide +kernel
theorem dX9_orders_2 : decode cX9_orders 2 = .ok (.putfield 71, 3) := by decide +kernel
theorem dX9_orders_5 : decode cX9_orders 5 = .ok (.aload_n 0, 1) := by decide +kernel
theorem dX9_orders_6 : decode cX9_orders 6 = .ok (.getfield 212, 3) := by decide +kernel
theorem dX9_orders_9 : decode cX9_orders 9 = .ok (.ifCond .ne 7, 3) := by decide +kernel
theorem dX9_orders_12 : decode cX9_orders 12 = .ok (.ldc_w 273, 3) := by decide +kernel
theorem dX9_orders_15 : decode cX9_orders 15 = .ok (.ireturn, 1) := by decide +kernel
theorem dX9_orders_16 : decode cX9_orders 16 = .ok (.aload_n 0, 1) := by decide +kernel
theorem dX9_orders_17 : decode cX9_orders 17 = .ok (.invokevirtual 286, 3) := by decide +kernel
theorem dX9_orders_20 : decode cX9_orders 20 = .ok (.iconst 0, 1) := by decide +kernel
theorem dX9_orders_21 : decode cX9_orders 21 = .ok (.istore_n 1, 1) := by decide +kernel
theorem dX9_orders_22 : decode cX9_orders 22 = .ok (.iconst 1, 1) := by decide +kernel
theorem dX9_orders_23 : decode cX9_orders 23 = .ok (.istore_n 2, 1) := by decide +kernel
theorem dX9_orders_24 : decode cX9_orders 24 = .ok (.iload_n 2, 1) := by decide +kernel
theorem dX9_orders_25 : decode cX9_orders 25 = .ok (.ifCond .eq 26, 3) := by decide +kernel
theorem dX9_orders_28 : decode cX9_orders 28 = .ok (.iload_n 1, 1) := by decide +kernel
theorem dX9_orders_29 : decode cX9_orders 29 = .ok (.aload_n 0, 1) := by decide +kernel
theorem dX9_orders_30 : decode cX9_orders 30 = .ok (.invokevirtual 292, 3) := by decide +kernel
theorem dX9_orders_33 : decode cX9_orders 33 = .ok (.ifCond .eq 7, 3) := by decide +kernel
theorem dX9_orders_36 : decode cX9_orders 36 = .ok (.iconst 1, 1) := by decide +kernel
theorem dX9_orders_37 : decode cX9_orders 37 = .ok (.goto 4, 3) := by decide +kernel
theorem dX9_orders_40 : decode cX9_orders 40 = .ok (.iconst 0, 1) := by decide +kernel
theorem dX9_orders_41 : decode cX9_orders 41 = .ok (.iadd, 1) := by decide +kernel
theorem dX9_orders_42 : decode cX9_orders 42 = .ok (.istore_n 1, 1) := by decide +kernel
theorem dX9_orders_43 : decode cX9_orders 43 = .ok (.aload_n 0, 1) := by decide +kernel
theorem dX9_orders_44 : decode cX9_orders 44 = .ok (.invokevirtual 296, 3) := by decide +kernel
theorem dX9_orders_47 : decode cX9_orders 47 = .ok (.istore_n 2, 1) := by decide +kernel
theorem dX9_orders_48 : decode cX9_orders 48 = .ok (.goto (-24), 3) := by decide +kernel
theorem dX9_orders_51 : decode cX9_orders 51 = .ok (.iload_n 1, 1) := by decide +kernel
theorem dX9_orders_52 : decode cX9_orders 52 = .ok (.ireturn, 1) := by decide +kernel
theorem dX9_setBy_0 : decode cX9_setBy 0 = .ok (.iconst 0, 1) := by decide +kernel
theorem dX9_setBy_1 : decode cX9_setBy 1 = .ok (.istore_n 2, 1) := by decide +kernel
theorem dX9_setBy_2 : decode cX9_setBy 2 = .ok (.iload_n 2, 1) := by decide +kernel
theorem dX9_setBy_3 : decode cX9_setBy 3 = .ok (.bipush 41, 2) := by decide +kernel
theorem dX9_setBy_5 : decode cX9_setBy 5 = .ok (.if_icmp .ge 53, 3) := by decide +kernel
theorem dX9_setBy_8 : decode cX9_setBy 8 = .ok (.iconst (-1), 1) := by decide +kernel
theorem dX9_setBy_9 : decode cX9_setBy 9 = .ok (.istore_n 3, 1) := by decide +kernel
theorem dX9_setBy_10 : decode cX9_setBy 10 = .ok (.iload_n 3, 1) := by decide +kernel
theorem dX9_setBy_11 : decode cX9_setBy 11 = .ok (.iconst 2, 1) := by decide +kernel
theorem dX9_setBy_12 : decode cX9_setBy 12 = .ok (.if_icmp .ge 40, 3) := by decide +kernel
theorem dX9_setBy_15 : decode cX9_setBy 15 = .ok (.aload_n 0, 1) := by decide +kernel
theorem dX9_setBy_16 : decode cX9_setBy 16 = .ok (.getfield 59, 3) := by decide +kernel
theorem dX9_setBy_19 : decode cX9_setBy 19 = .ok (.iload_n 1, 1) := by decide +kernel
theorem dX9_setBy_20 : decode cX9_setBy 20 = .ok (.iload_n 3, 1) := by decide +kernel
theorem dX9_setBy_21 : decode cX9_setBy 21 = .ok (.iload_n 2, 1) := by decide +kernel
theorem dX9_setBy_22 : decode cX9_setBy 22 = .ok (.imul, 1) := by decide +kernel
theorem dX9_setBy_23 : decode cX9_setBy 23 = .ok (.iastore, 1) := by decide +kernel
theorem dX9_setBy_24 : decode cX9_setBy 24 = .ok (.aload_n 0, 1) := by decide +kernel
theorem dX9_setBy_25 : decode cX9_setBy 25 = .ok (.ldc 107, 2) := by decide +kernel
theorem dX9_setBy_27 : decode cX9_setBy 27 = .ok (.invokevirtual 277, 3) := by decide +kernel
theorem dX9_setBy_30 : decode cX9_setBy 30 = .ok (.aload_n 0, 1) := by decide +kernel
theorem dX9_setBy_31 : decode cX9_setBy 31 = .ok (.getfield 46, 3) := by decide +kernel
theorem dX9_setBy_34 : decode cX9_setBy 34 = .ok (.bipush 24, 2) := by decide +kernel
theorem dX9_setBy_36 : decode cX9_setBy 36 = .ok (.iload_n 1, 1) := by decide +kernel
theorem dX9_setBy_37 : decode cX9_setBy 37 = .ok (.iadd, 1) := by decide +kernel
theorem dX9_setBy_38 : decode cX9_setBy 38 = .ok (.iaload, 1) := by decide +kernel
theorem dX9_setBy_39 : decode cX9_setBy 39 = .ok (.ifCond .ne 7, 3) := by decide +kernel
theorem dX9_setBy_42 : decode cX9_setBy 42 = .ok (.iload_n 3, 1) := by decide +kernel
theorem dX9_setBy_43 : decode cX9_setBy 43 = .ok (.iload_n 2, 1) := by decide +kernel
theorem dX9_setBy_44 : decode cX9_setBy 44 = .ok (.imul, 1) := by decide +kernel
theorem dX9_setBy_45 : decode cX9_setBy 45 = .ok (.ireturn, 1) := by decide +kernel
theorem dX9_setBy_46 : decode cX9_setBy 46 = .ok (.iinc 3 2, 3) := by decide +kernel
theorem dX9_setBy_49 : decode cX9_setBy 49 = .ok (.goto (-39), 3) := by decide +kernel
theorem dX9_setBy_52 : decode cX9_setBy 52 = .ok (.iinc 2 1, 3) := by decide +kernel
theorem dX9_setBy_55 : decode cX9_setBy 55 = .ok (.goto (-53), 3) := by decide +kernel
theorem dX9_setBy_58 : decode cX9_setBy 58 = .ok (.ldc 107, 2) := by decide +kernel
theorem dX9_setBy_60 : decode cX9_setBy 60 = .ok (.ireturn, 1) := by decide +kernel
theorem dX9_beforehand_0 : decode cX9_beforehand 0 = .ok (.aload_n 0, 1) := by decide +kernel
theorem dX9_beforehand_1 : decode cX9_beforehand 1 = .ok (.iconst 0, 1) := by decide +kernel
theorem dX9_beforehand_2 : decode cX9_beforehand 2 = .ok (.putfield 71, 3) := by decide +kernel
theorem dX9_beforehand_5 : decode cX9_beforehand 5 = .ok (.aload_n 0, 1) := by decide +kernel
theorem dX9_beforehand_6 : decode cX9_beforehand 6 = .ok (.iload_n 1, 1) := by decide +kernel
theorem dX9_beforehand_7 : decode cX9_beforehand 7 = .ok (.invokevirtual 233, 3) := by decide +kernel
theorem dX9_beforehand_10 : decode cX9_beforehand 10 = .ok (.ifCond .ne 6, 3) := by decide +kernel
theorem dX9_beforehand_13 : decode cX9_beforehand 13 = .ok (.ldc 91, 2) := by decide +kernel
theorem dX9_beforehand_15 : decode cX9_beforehand 15 = .ok (.ireturn, 1) := by decide +kernel
theorem dX9_beforehand_16 : decode cX9_beforehand 16 = .ok (.aload_n 0, 1) := by decide +kernel
theorem dX9_beforehand_17 : decode cX9_beforehand 17 = .ok (.invokevirtual 286, 3) := by decide +kernel
theorem dX9_beforehand_20 : decode cX9_beforehand 20 = .ok (.aload_n 0, 1) := by decide +kernel
theorem dX9_beforehand_21 : decode cX9_beforehand 21 = .ok (.invokevirtual 274, 3) := by decide +kernel
theorem dX9_beforehand_24 : decode cX9_beforehand 24 = .ok (.iconst 0, 1) := by decide +kernel
theorem dX9_beforehand_25 : decode cX9_beforehand 25 = .ok (.istore_n 2, 1) := by decide +kernel
theorem dX9_beforehand_26 : decode cX9_beforehand 26 = .ok (.iconst 0, 1) := by decide +kernel
theorem dX9_beforehand_27 : decode cX9_beforehand 27 = .ok (.istore_n 3, 1) := by decide +kernel
theorem dX9_beforehand_28 : decode cX9_beforehand 28 = .ok (.iload_n 3, 1) := by decide +kernel
theorem dX9_beforehand_29 : decode cX9_beforehand 29 = .ok (.iload_n 1, 1) := by decide +kernel
theorem dX9_beforehand_30 : decode cX9_beforehand 30 = .ok (.if_icmp .gt 21, 3) := by decide +kernel
theorem dX9_beforehand_33 : decode cX9_beforehand 33 = .ok (.iload_n 2, 1) := by decide +kernel
theorem dX9_beforehand_34 : decode cX9_beforehand 34 = .ok (.ldc 107, 2) := by decide +kernel
theorem dX9_beforehand_36 : decode cX9_beforehand 36 = .ok (.if_icmp .eq 15, 3) := by decide +kernel
theorem dX9_beforehand_39 : decode cX9_beforehand 39 = .ok (.aload_n 0, 1) := by decide +kernel
theorem dX9_beforehand_40 : decode cX9_beforehand 40 = .ok (.iload_n 3, 1) := by decide +kernel
theorem dX9_beforehand_41 : decode cX9_beforehand 41 = .ok (.invokevirtual 299, 3) := by decide +kernel
theorem dX9_beforehand_44 : decode cX9_beforehand 44 = .ok (.istore_n 2, 1) := by decide +kernel
theorem dX9_beforehand_45 : decode cX9_beforehand 45 = .ok (.iinc 3 1, 3) := by decide +kernel
theorem dX9_beforehand_48 : decode cX9_beforehand 48 = .ok (.goto (-20), 3) := by decide +kernel
theorem dX9_beforehand_51 : decode cX9_beforehand 51 = .ok (.iload_n 2, 1) := by decide +kernel
theorem dX9_beforehand_52 : decode cX9_beforehand 52 = .ok (.ireturn, 1) := by decide +kernel
theorem dX9_flame_0 : decode cX9_flame 0 = .ok (.aload_n 0, 1) := by decide +kernel
theorem dX9_flame_1 : decode cX9_flame 1 = .ok (.getfield 46, 3) := by decide +kernel
theorem dX9_flame_4 : decode cX9_flame 4 = .ok (.bipush 24, 2) := by decide +kernel
theorem dX9_flame_6 : decode cX9_flame 6 = .ok (.iload_n 1, 1) := by decide +kernel
theorem dX9_flame_7 : decode cX9_flame 7 = .ok (.iadd, 1) := by decide +kernel
theorem dX9_flame_8 : decode cX9_flame 8 = .ok (.iaload, 1) := by decide +kernel
theorem dX9_flame_9 : decode cX9_flame 9 = .ok (.istore_n 3, 1) := by decide +kernel
theorem dX9_flame_10 : decode cX9_flame 10 = .ok (.aload_n 0, 1) := by decide +kernel
theorem dX9_flame_11 : decode cX9_flame 11 = .ok (.getfield 46, 3) := by decide +kernel
theorem dX9_flame_14 : decode cX9_flame 14 = .ok (.bipush 24, 2) := by decide +kernel
theorem dX9_flame_16 : decode cX9_flame 16 = .ok (.iload_n 1, 1) := by decide +kernel
theorem dX9_flame_17 : decode cX9_flame 17 = .ok (.iadd, 1) := by decide +kernel
theorem dX9_flame_18 : decode cX9_flame 18 = .ok (.iload_n 3, 1) := by decide +kernel
theorem dX9_flame_19 : decode cX9_flame 19 = .ok (.iload_n 2, 1) := by decide +kernel
theorem dX9_flame_20 : decode cX9_flame 20 = .ok (.if_icmp .le 9, 3) := by decide +kernel
theorem dX9_flame_23 : decode cX9_flame 23 = .ok (.iload_n 3, 1) := by decide +kernel
theorem dX9_flame_24 : decode cX9_flame 24 = .ok (.iload_n 2, 1) := by decide +kernel
theorem dX9_flame_25 : decode cX9_flame 25 = .ok (.isub, 1) := by decide +kernel
theorem dX9_flame_26 : decode cX9_flame 26 = .ok (.goto 16, 3) := by decide +kernel
theorem dX9_flame_29 : decode cX9_flame 29 = .ok (.iload_n 3, 1) := by decide +kernel
theorem dX9_flame_30 : decode cX9_flame 30 = .ok (.iload_n 2, 1) := by decide +kernel
theorem dX9_flame_31 : decode cX9_flame 31 = .ok (.ineg, 1) := by decide +kernel
theorem dX9_flame_32 : decode cX9_flame 32 = .ok (.if_icmp .ge 9, 3) := by decide +kernel
theorem dX9_flame_35 : decode cX9_flame 35 = .ok (.iload_n 3, 1) := by decide +kernel
theorem dX9_flame_36 : decode cX9_flame 36 = .ok (.iload_n 2, 1) := by decide +kernel
theorem dX9_flame_37 : decode cX9_flame 37 = .ok (.iadd, 1) := by decide +kernel
theorem dX9_flame_38 : decode cX9_flame 38 = .ok (.goto 4, 3) := by decide +kernel
theorem dX9_flame_41 : decode cX9_flame 41 = .ok (.iconst 0, 1) := by decide +kernel
theorem dX9_flame_42 : decode cX9_flame 42 = .ok (.iastore, 1) := by decide +kernel
theorem dX9_flame_43 : decode cX9_flame 43 = .ok (.iload_n 1, 1) := by decide +kernel
theorem dX9_flame_44 : decode cX9_flame 44 = .ok (.ifCond .le 18, 3) := by decide +kernel
theorem dX9_flame_47 : decode cX9_flame 47 = .ok (.aload_n 0, 1) := by decide +kernel
theorem dX9_flame_48 : decode cX9_flame 48 = .ok (.getfield 46, 3) := by decide +kernel
theorem dX9_flame_51 : decode cX9_flame 51 = .ok (.bipush 24, 2) := by decide +kernel
theorem dX9_flame_53 : decode cX9_flame 53 = .ok (.iload_n 1, 1) := by decide +kernel
theorem dX9_flame_54 : decode cX9_flame 54 = .ok (.iadd, 1) := by decide +kernel
theorem dX9_flame_55 : decode cX9_flame 55 = .ok (.iconst 1, 1) := by decide +kernel
theorem dX9_flame_56 : decode cX9_flame 56 = .ok (.isub, 1) := by decide +kernel
theorem dX9_flame_57 : decode cX9_flame 57 = .ok (.dup2, 1) := by decide +kernel
theorem dX9_flame_58 : decode cX9_flame 58 = .ok (.iaload, 1) := by decide +kernel
theorem dX9_flame_59 : decode cX9_flame 59 = .ok (.iconst 1, 1) := by decide +kernel
theorem dX9_flame_60 : decode cX9_flame 60 = .ok (.iadd, 1) := by decide +kernel
theorem dX9_flame_61 : decode cX9_flame 61 = .ok (.iastore, 1) := by decide +kernel
theorem dX9_flame_62 : decode cX9_flame 62 = .ok (.iload_n 1, 1) := by decide +kernel
theorem dX9_flame_63 : decode cX9_flame 63 = .ok (.aload_n 0, 1) := by decide +kernel
theorem dX9_flame_64 : decode cX9_flame 64 = .ok (.getfield 212, 3) := by decide +kernel
theorem dX9_flame_67 : decode cX9_flame 67 = .ok (.iconst 1, 1) := by decide +kernel
theorem dX9_flame_68 : decode cX9_flame 68 = .ok (.isub, 1) := by decide +kernel
theorem dX9_flame_69 : decode cX9_flame 69 = .ok (.if_icmp .ge 18, 3) := by decide +kernel
theorem dX9_flame_72 : decode cX9_flame 72 = .ok (.aload_n 0, 1) := by decide +kernel
theorem dX9_flame_73 : decode cX9_flame 73 = .ok (.getfield 46, 3) := by decide +kernel
theorem dX9_flame_76 : decode cX9_flame 76 = .ok (.bipush 24, 2) := by decide +kernel
theorem dX9_flame_78 : decode cX9_flame 78 = .ok (.iload_n 1, 1) := by decide +kernel
theorem dX9_flame_79 : decode cX9_flame 79 = .ok (.iadd, 1) := by decide +kernel
theorem dX9_flame_80 : decode cX9_flame 80 = .ok (.iconst 1, 1) := by decide +kernel
theorem dX9_flame_81 : decode cX9_flame 81 = .ok (.iadd, 1) := by decide +kernel
theorem dX9_flame_82 : decode cX9_flame 82 = .ok (.dup2, 1) := by decide +kernel
theorem dX9_flame_83 : decode cX9_flame 83 = .ok (.iaload, 1) := by decide +kernel
theorem dX9_flame_84 : decode cX9_flame 84 = .ok (.iconst 1, 1) := by decide +kernel
theorem dX9_flame_85 : decode cX9_flame 85 = .ok (.iadd, 1) := by decide +kernel
theorem dX9_flame_86 : decode cX9_flame 86 = .ok (.iastore, 1) := by decide +kernel
theorem dX9_flame_87 : decode cX9_flame 87 = .ok (.return_, 1) := by decide +kernel
theorem dX9_spots_0 : decode cX9_spots 0 = .ok (.aload_n 0, 1) := by decide +kernel
theorem dX9_spots_1 : decode cX9_spots 1 = .ok (.iconst 0, 1) := by decide +kernel
theorem dX9_spots_2 : decode cX9_spots 2 = .ok (.putfield 71, 3) := by decide +kernel
theorem dX9_spots_5 : decode cX9_spots 5 = .ok (.iload_n 1, 1) := by decide +kernel
theorem dX9_spots_6 : decode cX9_spots 6 = .ok (.i2l, 1) := by decide +kernel
theorem dX9_spots_7 : decode cX9_spots 7 = .ok (.lconst 1, 1) := by decide +kernel
theorem dX9_spots_8 : decode cX9_spots 8 = .ok (.ldc2_w 302, 3) := by decide +kernel
theorem dX9_spots_11 : decode cX9_spots 11 = .ok (.invokestatic 81, 3) := by decide +kernel
theorem dX9_spots_14 : decode cX9_spots 14 = .ok (.ifCond .eq 15, 3) := by decide +kernel
theorem dX9_spots_17 : decode cX9_spots 17 = .ok (.iload_n 2, 1) := by decide +kernel
theorem dX9_spots_18 : decode cX9_spots 18 = .ok (.i2l, 1) := by decide +kernel
theorem dX9_spots_19 : decode cX9_spots 19 = .ok (.lconst 0, 1) := by decide +kernel
theorem dX9_spots_20 : decode cX9_spots 20 = .ok (.ldc2_w 238, 3) := by decide +kernel
theorem dX9_spots_23 : decode cX9_spots 23 = .ok (.invokestatic 81, 3) := by decide +kernel
theorem dX9_spots_26 : decode cX9_spots 26 = .ok (.ifCond .ne 6, 3) := by decide +kernel
theorem dX9_spots_29 : decode cX9_spots 29 = .ok (.ldc 91, 2) := by decide +kernel
theorem dX9_spots_31 : decode cX9_spots 31 = .ok (.ireturn, 1) := by decide +kernel
theorem dX9_spots_32 : decode cX9_spots 32 = .ok (.aload_n 0, 1) := by decide +kernel
theorem dX9_spots_33 : decode cX9_spots 33 = .ok (.getfield 212, 3) := by decide +kernel
theorem dX9_spots_36 : decode cX9_spots 36 = .ok (.ifCond .ne 7, 3) := by decide +kernel
theorem dX9_spots_39 : decode cX9_spots 39 = .ok (.ldc_w 273, 3) := by decide +kernel
theorem dX9_spots_42 : decode cX9_spots 42 = .ok (.ireturn, 1) := by decide +kernel
theorem dX9_spots_43 : decode cX9_spots 43 = .ok (.iconst 0, 1) := by decide +kernel
theorem dX9_spots_44 : decode cX9_spots 44 = .ok (.istore_n 3, 1) := by decide +kernel
theorem dX9_spots_45 : decode cX9_spots 45 = .ok (.iload_n 3, 1) := by decide +kernel
theorem dX9_spots_46 : decode cX9_spots 46 = .ok (.iconst 4, 1) := by decide +kernel
theorem dX9_spots_47 : decode cX9_spots 47 = .ok (.if_icmp .ge 171, 3) := by decide +kernel
theorem dX9_spots_50 : decode cX9_spots 50 = .ok (.iconst 0, 1) := by decide +kernel
theorem dX9_spots_51 : decode cX9_spots 51 = .ok (.istore 4, 2) := by decide +kernel
theorem dX9_spots_53 : decode cX9_spots 53 = .ok (.iload 4, 2) := by decide +kernel
theorem dX9_spots_55 : decode cX9_spots 55 = .ok (.iconst 1, 1) := by decide +kernel
theorem dX9_spots_56 : decode cX9_spots 56 = .ok (.aload_n 0, 1) := by decide +kernel
theorem dX9_spots_57 : decode cX9_spots 57 = .ok (.getfield 212, 3) := by decide +kernel
theorem dX9_spots_60 : decode cX9_spots 60 = .ok (.ishl, 1) := by decide +kernel
theorem dX9_spots_61 : decode cX9_spots 61 = .ok (.if_icmp .ge 151, 3) := by decide +kernel
theorem dX9_spots_64 : decode cX9_spots 64 = .ok (.iconst 0, 1) := by decide +kernel
theorem dX9_spots_65 : decode cX9_spots 65 = .ok (.istore 5, 2) := by decide +kernel
theorem dX9_spots_67 : decode cX9_spots 67 = .ok (.iconst 0, 1) := by decide +kernel
theorem dX9_spots_68 : decode cX9_spots 68 = .ok (.istore 6, 2) := by decide +kernel
theorem dX9_spots_70 : decode cX9_spots 70 = .ok (.iload 6, 2) := by decide +kernel
theorem dX9_spots_72 : decode cX9_spots 72 = .ok (.aload_n 0, 1) := by decide +kernel
theorem dX9_spots_73 : decode cX9_spots 73 = .ok (.getfield 212, 3) := by decide +kernel
theorem dX9_spots_76 : decode cX9_spots 76 = .ok (.if_icmp .ge 21, 3) := by decide +kernel
theorem dX9_spots_79 : decode cX9_spots 79 = .ok (.iload 5, 2) := by decide +kernel
theorem dX9_spots_81 : decode cX9_spots 81 = .ok (.iload 4, 2) := by decide +kernel
theorem dX9_spots_83 : decode cX9_spots 83 = .ok (.iload 6, 2) := by decide +kernel
theorem dX9_spots_85 : decode cX9_spots 85 = .ok (.ishr, 1) := by decide +kernel
theorem dX9_spots_86 : decode cX9_spots 86 = .ok (.iconst 1, 1) := by decide +kernel
theorem dX9_spots_87 : decode cX9_spots 87 = .ok (.iand, 1) := by decide +kernel
theorem dX9_spots_88 : decode cX9_spots 88 = .ok (.iadd, 1) := by decide +kernel
theorem dX9_spots_89 : decode cX9_spots 89 = .ok (.istore 5, 2) := by decide +kernel
theorem dX9_spots_91 : decode cX9_spots 91 = .ok (.iinc 6 1, 3) := by decide +kernel
theorem dX9_spots_94 : decode cX9_spots 94 = .ok (.goto (-24), 3) := by decide +kernel
theorem dX9_spots_97 : decode cX9_spots 97 = .ok (.iload 5, 2) := by decide +kernel
theorem dX9_spots_99 : decode cX9_spots 99 = .ok (.iload_n 3, 1) := by decide +kernel
theorem dX9_spots_100 : decode cX9_spots 100 = .ok (.if_icmp .ne 106, 3) := by decide +kernel
theorem dX9_spots_103 : decode cX9_spots 103 = .ok (.aload_n 0, 1) := by decide +kernel
theorem dX9_spots_104 : decode cX9_spots 104 = .ok (.invokevirtual 289, 3) := by decide +kernel
theorem dX9_spots_107 : decode cX9_spots 107 = .ok (.iconst 1, 1) := by decide +kernel
theorem dX9_spots_108 : decode cX9_spots 108 = .ok (.istore 6, 2) := by decide +kernel
theorem dX9_spots_110 : decode cX9_spots 110 = .ok (.iconst 0, 1) := by decide +kernel
theorem dX9_spots_111 : decode cX9_spots 111 = .ok (.istore 7, 2) := by decide +kernel
theorem dX9_spots_113 : decode cX9_spots 113 = .ok (.iload 7, 2) := by decide +kernel
theorem dX9_spots_115 : decode cX9_spots 115 = .ok (.aload_n 0, 1) := by decide +kernel
theorem dX9_spots_116 : decode cX9_spots 116 = .ok (.getfield 212, 3) := by decide +kernel
theorem dX9_spots_119 : decode cX9_spots 119 = .ok (.if_icmp .ge 27, 3) := by decide +kernel
theorem dX9_spots_122 : decode cX9_spots 122 = .ok (.iload 4, 2) := by decide +kernel
theorem dX9_spots_124 : decode cX9_spots 124 = .ok (.iload 7, 2) := by decide +kernel
theorem dX9_spots_126 : decode cX9_spots 126 = .ok (.ishr, 1) := by decide +kernel
theorem dX9_spots_127 : decode cX9_spots 127 = .ok (.iconst 1, 1) := by decide +kernel
theorem dX9_spots_128 : decode cX9_spots 128 = .ok (.iand, 1) := by decide +kernel
theorem dX9_spots_129 : decode cX9_spots 129 = .ok (.iconst 1, 1) := by decide +kernel
theorem dX9_spots_130 : decode cX9_spots 130 = .ok (.if_icmp .ne 10, 3) := by decide +kernel
theorem dX9_spots_133 : decode cX9_spots 133 = .ok (.aload_n 0, 1) := by decide +kernel
theorem dX9_spots_134 : decode cX9_spots 134 = .ok (.iload 7, 2) := by decide +kernel
theorem dX9_spots_136 : decode cX9_spots 136 = .ok (.iload_n 1, 1) := by decide +kernel
theorem dX9_spots_137 : decode cX9_spots 137 = .ok (.invokevirtual 304, 3) := by decide +kernel
theorem dX9_spots_140 : decode cX9_spots 140 = .ok (.iinc 7 1, 3) := by decide +kernel
theorem dX9_spots_143 : decode cX9_spots 143 = .ok (.goto (-30), 3) := by decide +kernel
theorem dX9_spots_146 : decode cX9_spots 146 = .ok (.iconst 0, 1) := by decide +kernel
theorem dX9_spots_147 : decode cX9_spots 147 = .ok (.istore 7, 2) := by decide +kernel
theorem dX9_spots_149 : decode cX9_spots 149 = .ok (.iload 7, 2) := by decide +kernel
theorem dX9_spots_151 : decode cX9_spots 151 = .ok (.aload_n 0, 1) := by decide +kernel
theorem dX9_spots_152 : decode cX9_spots 152 = .ok (.getfield 212, 3) := by decide +kernel
theorem dX9_spots_155 : decode cX9_spots 155 = .ok (.if_icmp .ge 43, 3) := by decide +kernel
theorem dX9_spots_158 : decode cX9_spots 158 = .ok (.iload 6, 2) := by decide +kernel
theorem dX9_spots_160 : decode cX9_spots 160 = .ok (.ifCond .eq 29, 3) := by decide +kernel
theorem dX9_spots_163 : decode cX9_spots 163 = .ok (.aload_n 0, 1) := by decide +kernel
theorem dX9_spots_164 : decode cX9_spots 164 = .ok (.getfield 46, 3) := by decide +kernel
theorem dX9_spots_167 : decode cX9_spots 167 = .ok (.bipush 24, 2) := by decide +kernel
theorem dX9_spots_169 : decode cX9_spots 169 = .ok (.iload 7, 2) := by decide +kernel
theorem dX9_spots_171 : decode cX9_spots 171 = .ok (.iadd, 1) := by decide +kernel
theorem dX9_spots_172 : decode cX9_spots 172 = .ok (.iaload, 1) := by decide +kernel
theorem dX9_spots_173 : decode cX9_spots 173 = .ok (.i2l, 1) := by decide +kernel
theorem dX9_spots_174 : decode cX9_spots 174 = .ok (.iload_n 2, 1) := by decide +kernel
theorem dX9_spots_175 : decode cX9_spots 175 = .ok (.ineg, 1) := by decide +kernel
theorem dX9_spots_176 : decode cX9_spots 176 = .ok (.i2l, 1) := by decide +kernel
theorem dX9_spots_177 : decode cX9_spots 177 = .ok (.iload_n 2, 1) := by decide +kernel
theorem dX9_spots_178 : decode cX9_spots 178 = .ok (.i2l, 1) := by decide +kernel
theorem dX9_spots_179 : decode cX9_spots 179 = .ok (.invokestatic 81, 3) := by decide +kernel
theorem dX9_spots_182 : decode cX9_spots 182 = .ok (.ifCond .eq 7, 3) := by decide +kernel
theorem dX9_spots_185 : decode cX9_spots 185 = .ok (.iconst 1, 1) := by decide +kernel
theorem dX9_spots_186 : decode cX9_spots 186 = .ok (.goto 4, 3) := by decide +kernel
theorem dX9_spots_189 : decode cX9_spots 189 = .ok (.iconst 0, 1) := by decide +kernel
theorem dX9_spots_190 : decode cX9_spots 190 = .ok (.istore 6, 2) := by decide +kernel
theorem dX9_spots_192 : decode cX9_spots 192 = .ok (.iinc 7 1, 3) := by decide +kernel
theorem dX9_spots_195 : decode cX9_spots 195 = .ok (.goto (-46), 3) := by decide +kernel
theorem dX9_spots_198 : decode cX9_spots 198 = .ok (.iload 6, 2) := by decide +kernel
theorem dX9_spots_200 : decode cX9_spots 200 = .ok (.ifCond .eq 6, 3) := by decide +kernel
theorem dX9_spots_203 : decode cX9_spots 203 = .ok (.iload 4, 2) := by decide +kernel
theorem dX9_spots_205 : decode cX9_spots 205 = .ok (.ireturn, 1) := by decide +kernel
theorem dX9_spots_206 : decode cX9_spots 206 = .ok (.iinc 4 1, 3) := by decide +kernel
theorem dX9_spots_209 : decode cX9_spots 209 = .ok (.goto (-156), 3) := by decide +kernel
theorem dX9_spots_212 : decode cX9_spots 212 = .ok (.iinc 3 1, 3) := by decide +kernel
theorem dX9_spots_215 : decode cX9_spots 215 = .ok (.goto (-170), 3) := by decide +kernel
theorem dX9_spots_218 : decode cX9_spots 218 = .ok (.ldc 107, 2) := by decide +kernel
theorem dX9_spots_220 : decode cX9_spots 220 = .ok (.ireturn, 1) := by decide +kernel
theorem dX9_crackAt_0 : decode cX9_crackAt 0 = .ok (.aload_n 0, 1) := by decide +kernel
theorem dX9_crackAt_1 : decode cX9_crackAt 1 = .ok (.invokevirtual 289, 3) := by decide +kernel
theorem dX9_crackAt_4 : decode cX9_crackAt 4 = .ok (.iconst 0, 1) := by decide +kernel
theorem dX9_crackAt_5 : decode cX9_crackAt 5 = .ok (.istore_n 2, 1) := by decide +kernel
theorem dX9_crackAt_6 : decode cX9_crackAt 6 = .ok (.iload_n 2, 1) := by decide +kernel
theorem dX9_crackAt_7 : decode cX9_crackAt 7 = .ok (.aload_n 0, 1) := by decide +kernel
theorem dX9_crackAt_8 : decode cX9_crackAt 8 = .ok (.getfield 212, 3) := by decide +kernel
theorem dX9_crackAt_11 : decode cX9_crackAt 11 = .ok (.if_icmp .ge 30, 3) := by decide +kernel
theorem dX9_crackAt_14 : decode cX9_crackAt 14 = .ok (.aload_n 0, 1) := by decide +kernel
theorem dX9_crackAt_15 : decode cX9_crackAt 15 = .ok (.getfield 46, 3) := by decide +kernel
theorem dX9_crackAt_18 : decode cX9_crackAt 18 = .ok (.bipush 36, 2) := by decide +kernel
theorem dX9_crackAt_20 : decode cX9_crackAt 20 = .ok (.iload_n 2, 1) := by decide +kernel
theorem dX9_crackAt_21 : decode cX9_crackAt 21 = .ok (.iadd, 1) := by decide +kernel
theorem dX9_crackAt_22 : decode cX9_crackAt 22 = .ok (.iaload, 1) := by decide +kernel
theorem dX9_crackAt_23 : decode cX9_crackAt 23 = .ok (.sipush 300, 3) := by decide +kernel
theorem dX9_crackAt_26 : decode cX9_crackAt 26 = .ok (.iconst 4, 1) := by decide +kernel
theorem dX9_crackAt_27 : decode cX9_crackAt 27 = .ok (.iload_n 1, 1) := by decide +kernel
theorem dX9_crackAt_28 : decode cX9_crackAt 28 = .ok (.imul, 1) := by decide +kernel
theorem dX9_crackAt_29 : decode cX9_crackAt 29 = .ok (.isub, 1) := by decide +kernel
theorem dX9_crackAt_30 : decode cX9_crackAt 30 = .ok (.if_icmp .le 5, 3) := by decide +kernel
theorem dX9_crackAt_33 : decode cX9_crackAt 33 = .ok (.iload_n 2, 1) := by decide +kernel
theorem dX9_crackAt_34 : decode cX9_crackAt 34 = .ok (.ireturn, 1) := by decide +kernel
theorem dX9_crackAt_35 : decode cX9_crackAt 35 = .ok (.iinc 2 1, 3) := by decide +kernel
theorem dX9_crackAt_38 : decode cX9_crackAt 38 = .ok (.goto (-32), 3) := by decide +kernel
theorem dX9_crackAt_41 : decode cX9_crackAt 41 = .ok (.ldc 107, 2) := by decide +kernel
theorem dX9_crackAt_43 : decode cX9_crackAt 43 = .ok (.ireturn, 1) := by decide +kernel
theorem dX9_crack_0 : decode cX9_crack 0 = .ok (.aload_n 0, 1) := by decide +kernel
theorem dX9_crack_1 : decode cX9_crack 1 = .ok (.iconst 0, 1) := by decide +kernel
theorem dX9_crack_2 : decode cX9_crack 2 = .ok (.putfield 71, 3) := by decide +kernel
theorem dX9_crack_5 : decode cX9_crack 5 = .ok (.iload_n 1, 1) := by decide +kernel
theorem dX9_crack_6 : decode cX9_crack 6 = .ok (.i2l, 1) := by decide +kernel
theorem dX9_crack_7 : decode cX9_crack 7 = .ok (.lconst 0, 1) := by decide +kernel
theorem dX9_crack_8 : decode cX9_crack 8 = .ok (.ldc2_w 308, 3) := by decide +kernel
theorem dX9_crack_11 : decode cX9_crack 11 = .ok (.invokestatic 81, 3) := by decide +kernel
theorem dX9_crack_14 : decode cX9_crack 14 = .ok (.ifCond .eq 11, 3) := by decide +kernel
theorem dX9_crack_17 : decode cX9_crack 17 = .ok (.aload_n 0, 1) := by decide +kernel
theorem dX9_crack_18 : decode cX9_crack 18 = .ok (.iload_n 1, 1) := by decide +kernel
theorem dX9_crack_19 : decode cX9_crack 19 = .ok (.invokevirtual 310, 3) := by decide +kernel
theorem dX9_crack_22 : decode cX9_crack 22 = .ok (.goto 5, 3) := by decide +kernel
theorem dX9_crack_25 : decode cX9_crack 25 = .ok (.ldc 91, 2) := by decide +kernel
theorem dX9_crack_27 : decode cX9_crack 27 = .ok (.ireturn, 1) := by decide +kernel
theorem dX9_warm_0 : decode cX9_warm 0 = .ok (.aload_n 0, 1) := by decide +kernel
theorem dX9_warm_1 : decode cX9_warm 1 = .ok (.iconst 0, 1) := by decide +kernel
theorem dX9_warm_2 : decode cX9_warm 2 = .ok (.putfield 71, 3) := by decide +kernel
theorem dX9_warm_5 : decode cX9_warm 5 = .ok (.aload_n 0, 1) := by decide +kernel
theorem dX9_warm_6 : decode cX9_warm 6 = .ok (.getfield 212, 3) := by decide +kernel
theorem dX9_warm_9 : decode cX9_warm 9 = .ok (.ifCond .ne 7, 3) := by decide +kernel
theorem dX9_warm_12 : decode cX9_warm 12 = .ok (.ldc_w 273, 3) := by decide +kernel
theorem dX9_warm_15 : decode cX9_warm 15 = .ok (.ireturn, 1) := by decide +kernel
theorem dX9_warm_16 : decode cX9_warm 16 = .ok (.bipush 60, 2) := by decide +kernel
theorem dX9_warm_18 : decode cX9_warm 18 = .ok (.istore_n 1, 1) := by decide +kernel
theorem dX9_warm_19 : decode cX9_warm 19 = .ok (.iload_n 1, 1) := by decide +kernel
theorem dX9_warm_20 : decode cX9_warm 20 = .ok (.ifCond .lt 19, 3) := by decide +kernel
theorem dX9_warm_23 : decode cX9_warm 23 = .ok (.aload_n 0, 1) := by decide +kernel
theorem dX9_warm_24 : decode cX9_warm 24 = .ok (.iload_n 1, 1) := by decide +kernel
theorem dX9_warm_25 : decode cX9_warm 25 = .ok (.invokevirtual 310, 3) := by decide +kernel
theorem dX9_warm_28 : decode cX9_warm 28 = .ok (.ldc 107, 2) := by decide +kernel
theorem dX9_warm_30 : decode cX9_warm 30 = .ok (.if_icmp .eq 9, 3) := by decide +kernel
theorem dX9_warm_33 : decode cX9_warm 33 = .ok (.iinc 1 (-1), 3) := by decide +kernel
theorem dX9_warm_36 : decode cX9_warm 36 = .ok (.goto (-17), 3) := by decide +kernel
theorem dX9_warm_39 : decode cX9_warm 39 = .ok (.iload_n 1, 1) := by decide +kernel
theorem dX9_warm_40 : decode cX9_warm 40 = .ok (.ifCond .ge 8, 3) := by decide +kernel
theorem dX9_warm_43 : decode cX9_warm 43 = .ok (.ldc 107, 2) := by decide +kernel
theorem dX9_warm_45 : decode cX9_warm 45 = .ok (.goto 4, 3) := by decide +kernel
theorem dX9_warm_48 : decode cX9_warm 48 = .ok (.iload_n 1, 1) := by decide +kernel
theorem dX9_warm_49 : decode cX9_warm 49 = .ok (.ireturn, 1) := by decide +kernel
theorem dX9_bendBy_0 : decode cX9_bendBy 0 = .ok (.aload_n 0, 1) := by decide +kernel
theorem dX9_bendBy_1 : decode cX9_bendBy 1 = .ok (.getfield 16, 3) := by decide +kernel
theorem dX9_bendBy_4 : decode cX9_bendBy 4 = .ok (.iload_n 1, 1) := by decide +kernel
theorem dX9_bendBy_5 : decode cX9_bendBy 5 = .ok (.iload_n 2, 1) := by decide +kernel
theorem dX9_bendBy_6 : decode cX9_bendBy 6 = .ok (.iadd, 1) := by decide +kernel
theorem dX9_bendBy_7 : decode cX9_bendBy 7 = .ok (.iconst 1, 1) := by decide +kernel
theorem dX9_bendBy_8 : decode cX9_bendBy 8 = .ok (.iadd, 1) := by decide +kernel
theorem dX9_bendBy_9 : decode cX9_bendBy 9 = .ok (.iaload, 1) := by decide +kernel
theorem dX9_bendBy_10 : decode cX9_bendBy 10 = .ok (.aload_n 0, 1) := by decide +kernel
theorem dX9_bendBy_11 : decode cX9_bendBy 11 = .ok (.getfield 16, 3) := by decide +kernel
theorem dX9_bendBy_14 : decode cX9_bendBy 14 = .ok (.iload_n 1, 1) := by decide +kernel
theorem dX9_bendBy_15 : decode cX9_bendBy 15 = .ok (.iload_n 2, 1) := by decide +kernel
theorem dX9_bendBy_16 : decode cX9_bendBy 16 = .ok (.iadd, 1) := by decide +kernel
theorem dX9_bendBy_17 : decode cX9_bendBy 17 = .ok (.iaload, 1) := by decide +kernel
theorem dX9_bendBy_18 : decode cX9_bendBy 18 = .ok (.isub, 1) := by decide +kernel
theorem dX9_bendBy_19 : decode cX9_bendBy 19 = .ok (.istore_n 3, 1) := by decide +kernel
theorem dX9_bendBy_20 : decode cX9_bendBy 20 = .ok (.iload_n 2, 1) := by decide +kernel
theorem dX9_bendBy_21 : decode cX9_bendBy 21 = .ok (.ifCond .ne 7, 3) := by decide +kernel
theorem dX9_bendBy_24 : decode cX9_bendBy 24 = .ok (.iload_n 3, 1) := by decide +kernel
theorem dX9_bendBy_25 : decode cX9_bendBy 25 = .ok (.goto 24, 3) := by decide +kernel
theorem dX9_bendBy_28 : decode cX9_bendBy 28 = .ok (.iload_n 3, 1) := by decide +kernel
theorem dX9_bendBy_29 : decode cX9_bendBy 29 = .ok (.aload_n 0, 1) := by decide +kernel
theorem dX9_bendBy_30 : decode cX9_bendBy 30 = .ok (.getfield 16, 3) := by decide +kernel
theorem dX9_bendBy_33 : decode cX9_bendBy 33 = .ok (.iload_n 1, 1) := by decide +kernel
theorem dX9_bendBy_34 : decode cX9_bendBy 34 = .ok (.iload_n 2, 1) := by decide +kernel
theorem dX9_bendBy_35 : decode cX9_bendBy 35 = .ok (.iadd, 1) := by decide +kernel
theorem dX9_bendBy_36 : decode cX9_bendBy 36 = .ok (.iaload, 1) := by decide +kernel
theorem dX9_bendBy_37 : decode cX9_bendBy 37 = .ok (.aload_n 0, 1) := by decide +kernel
theorem dX9_bendBy_38 : decode cX9_bendBy 38 = .ok (.getfield 16, 3) := by decide +kernel
theorem dX9_bendBy_41 : decode cX9_bendBy 41 = .ok (.iload_n 1, 1) := by decide +kernel
theorem dX9_bendBy_42 : decode cX9_bendBy 42 = .ok (.iload_n 2, 1) := by decide +kernel
theorem dX9_bendBy_43 : decode cX9_bendBy 43 = .ok (.iadd, 1) := by decide +kernel
theorem dX9_bendBy_44 : decode cX9_bendBy 44 = .ok (.iconst 1, 1) := by decide +kernel
theorem dX9_bendBy_45 : decode cX9_bendBy 45 = .ok (.isub, 1) := by decide +kernel
theorem dX9_bendBy_46 : decode cX9_bendBy 46 = .ok (.iaload, 1) := by decide +kernel
theorem dX9_bendBy_47 : decode cX9_bendBy 47 = .ok (.isub, 1) := by decide +kernel
theorem dX9_bendBy_48 : decode cX9_bendBy 48 = .ok (.isub, 1) := by decide +kernel
theorem dX9_bendBy_49 : decode cX9_bendBy 49 = .ok (.ireturn, 1) := by decide +kernel
theorem dX9_wire_0 : decode cX9_wire 0 = .ok (.aload_n 0, 1) := by decide +kernel
theorem dX9_wire_1 : decode cX9_wire 1 = .ok (.iconst 0, 1) := by decide +kernel
theorem dX9_wire_2 : decode cX9_wire 2 = .ok (.putfield 71, 3) := by decide +kernel
theorem dX9_wire_5 : decode cX9_wire 5 = .ok (.iload_n 1, 1) := by decide +kernel
theorem dX9_wire_6 : decode cX9_wire 6 = .ok (.invokestatic 85, 3) := by decide +kernel
theorem dX9_wire_9 : decode cX9_wire 9 = .ok (.ifCond .ne 6, 3) := by decide +kernel
theorem dX9_wire_12 : decode cX9_wire 12 = .ok (.ldc 91, 2) := by decide +kernel
theorem dX9_wire_14 : decode cX9_wire 14 = .ok (.ireturn, 1) := by decide +kernel
theorem dX9_wire_15 : decode cX9_wire 15 = .ok (.aload_n 0, 1) := by decide +kernel
theorem dX9_wire_16 : decode cX9_wire 16 = .ok (.getfield 212, 3) := by decide +kernel
theorem dX9_wire_19 : decode cX9_wire 19 = .ok (.ifCond .ne 7, 3) := by decide +kernel
theorem dX9_wire_22 : decode cX9_wire 22 = .ok (.ldc_w 273, 3) := by decide +kernel
theorem dX9_wire_25 : decode cX9_wire 25 = .ok (.ireturn, 1) := by decide +kernel
theorem dX9_wire_26 : decode cX9_wire 26 = .ok (.iload_n 3, 1) := by decide +kernel
theorem dX9_wire_27 : decode cX9_wire 27 = .ok (.i2l, 1) := by decide +kernel
theorem dX9_wire_28 : decode cX9_wire 28 = .ok (.ldc2_w 313, 3) := by decide +kernel
theorem dX9_wire_31 : decode cX9_wire 31 = .ok (.aload_n 0, 1) := by decide +kernel
theorem dX9_wire_32 : decode cX9_wire 32 = .ok (.getfield 212, 3) := by decide +kernel
theorem dX9_wire_35 : decode cX9_wire 35 = .ok (.iconst 1, 1) := by decide +kernel
theorem dX9_wire_36 : decode cX9_wire 36 = .ok (.isub, 1) := by decide +kernel
theorem dX9_wire_37 : decode cX9_wire 37 = .ok (.i2l, 1) := by decide +kernel
theorem dX9_wire_38 : decode cX9_wire 38 = .ok (.invokestatic 81, 3) := by decide +kernel
theorem dX9_wire_41 : decode cX9_wire 41 = .ok (.ifCond .ne 6, 3) := by decide +kernel
theorem dX9_wire_44 : decode cX9_wire 44 = .ok (.ldc 91, 2) := by decide +kernel
theorem dX9_wire_46 : decode cX9_wire 46 = .ok (.ireturn, 1) := by decide +kernel
theorem dX9_wire_47 : decode cX9_wire 47 = .ok (.aload_n 0, 1) := by decide +kernel
theorem dX9_wire_48 : decode cX9_wire 48 = .ok (.getfield 7, 3) := by decide +kernel
theorem dX9_wire_51 : decode cX9_wire 51 = .ok (.iload_n 1, 1) := by decide +kernel
theorem dX9_wire_52 : decode cX9_wire 52 = .ok (.iaload, 1) := by decide +kernel
theorem dX9_wire_53 : decode cX9_wire 53 = .ok (.ifCond .ge 9, 3) := by decide +kernel
theorem dX9_wire_56 : decode cX9_wire 56 = .ok (.aload_n 0, 1) := by decide +kernel
theorem dX9_wire_57 : decode cX9_wire 57 = .ok (.iconst 1, 1) := by decide +kernel
theorem dX9_wire_58 : decode cX9_wire 58 = .ok (.invokevirtual 92, 3) := by decide +kernel
theorem dX9_wire_61 : decode cX9_wire 61 = .ok (.ireturn, 1) := by decide +kernel
theorem dX9_wire_62 : decode cX9_wire 62 = .ok (.iload_n 2, 1) := by decide +kernel
theorem dX9_wire_63 : decode cX9_wire 63 = .ok (.ifCond .lt 24, 3) := by decide +kernel
theorem dX9_wire_66 : decode cX9_wire 66 = .ok (.iload_n 2, 1) := by decide +kernel
theorem dX9_wire_67 : decode cX9_wire 67 = .ok (.i2l, 1) := by decide +kernel
theorem dX9_wire_68 : decode cX9_wire 68 = .ok (.aload_n 0, 1) := by decide +kernel
theorem dX9_wire_69 : decode cX9_wire 69 = .ok (.getfield 212, 3) := by decide +kernel
theorem dX9_wire_72 : decode cX9_wire 72 = .ok (.i2l, 1) := by decide +kernel
theorem dX9_wire_73 : decode cX9_wire 73 = .ok (.ladd, 1) := by decide +kernel
theorem dX9_wire_74 : decode cX9_wire 74 = .ok (.lconst 1, 1) := by decide +kernel
theorem dX9_wire_75 : decode cX9_wire 75 = .ok (.ladd, 1) := by decide +kernel
theorem dX9_wire_76 : decode cX9_wire 76 = .ok (.aload_n 0, 1) := by decide +kernel
theorem dX9_wire_77 : decode cX9_wire 77 = .ok (.getfield 13, 3) := by decide +kernel
theorem dX9_wire_80 : decode cX9_wire 80 = .ok (.iload_n 1, 1) := by decide +kernel
theorem dX9_wire_81 : decode cX9_wire 81 = .ok (.iaload, 1) := by decide +kernel
theorem dX9_wire_82 : decode cX9_wire 82 = .ok (.i2l, 1) := by decide +kernel
theorem dX9_wire_83 : decode cX9_wire 83 = .ok (.lcmp, 1) := by decide +kernel
theorem dX9_wire_84 : decode cX9_wire 84 = .ok (.ifCond .le 9, 3) := by decide +kernel
theorem dX9_wire_87 : decode cX9_wire 87 = .ok (.aload_n 0, 1) := by decide +kernel
theorem dX9_wire_88 : decode cX9_wire 88 = .ok (.iconst 2, 1) := by decide +kernel
theorem dX9_wire_89 : decode cX9_wire 89 = .ok (.invokevirtual 92, 3) := by decide +kernel
theorem dX9_wire_92 : decode cX9_wire 92 = .ok (.ireturn, 1) := by decide +kernel
theorem dX9_wire_93 : decode cX9_wire 93 = .ok (.bipush 40, 2) := by decide +kernel
theorem dX9_wire_95 : decode cX9_wire 95 = .ok (.iload_n 1, 1) := by decide +kernel
theorem dX9_wire_96 : decode cX9_wire 96 = .ok (.imul, 1) := by decide +kernel
theorem dX9_wire_97 : decode cX9_wire 97 = .ok (.iload_n 2, 1) := by decide +kernel
theorem dX9_wire_98 : decode cX9_wire 98 = .ok (.iadd, 1) := by decide +kernel
theorem dX9_wire_99 : decode cX9_wire 99 = .ok (.istore 4, 2) := by decide +kernel
theorem dX9_wire_101 : decode cX9_wire 101 = .ok (.iconst 0, 1) := by decide +kernel
theorem dX9_wire_102 : decode cX9_wire 102 = .ok (.istore 5, 2) := by decide +kernel
theorem dX9_wire_104 : decode cX9_wire 104 = .ok (.iload 5, 2) := by decide +kernel
theorem dX9_wire_106 : decode cX9_wire 106 = .ok (.aload_n 0, 1) := by decide +kernel
theorem dX9_wire_107 : decode cX9_wire 107 = .ok (.getfield 212, 3) := by decide +kernel
theorem dX9_wire_110 : decode cX9_wire 110 = .ok (.if_icmp .gt 35, 3) := by decide +kernel
theorem dX9_wire_113 : decode cX9_wire 113 = .ok (.aload_n 0, 1) := by decide +kernel
theorem dX9_wire_114 : decode cX9_wire 114 = .ok (.getfield 16, 3) := by decide +kernel
theorem dX9_wire_117 : decode cX9_wire 117 = .ok (.iload 4, 2) := by decide +kernel
theorem dX9_wire_119 : decode cX9_wire 119 = .ok (.iload 5, 2) := by decide +kernel
theorem dX9_wire_121 : decode cX9_wire 121 = .ok (.iadd, 1) := by decide +kernel
theorem dX9_wire_122 : decode cX9_wire 122 = .ok (.iaload, 1) := by decide +kernel
theorem dX9_wire_123 : decode cX9_wire 123 = .ok (.i2l, 1) := by decide +kernel
theorem dX9_wire_124 : decode cX9_wire 124 = .ok (.ldc2_w 315, 3) := by decide +kernel
theorem dX9_wire_127 : decode cX9_wire 127 = .ok (.ldc2_w 317, 3) := by decide +kernel
