theorem dX3_mayFollow_9 : decode cX3_mayFollow 9 = .ok (.iload_n 1, 1) := by decide +kernel
theorem dX3_mayFollow_10 : decode cX3_mayFollow 10 = .ok (.ishr, 1) := by decide +kernel
theorem dX3_mayFollow_11 : decode cX3_mayFollow 11 = .ok (.iconst 1, 1) := by decide +kernel
theorem dX3_mayFollow_12 : decode cX3_mayFollow 12 = .ok (.iand, 1) := by decide +kernel
theorem dX3_mayFollow_13 : decode cX3_mayFollow 13 = .ok (.ifCond .ne 20, 3) := by decide +kernel
theorem dX3_mayFollow_16 : decode cX3_mayFollow 16 = .ok (.aload_n 0, 1) := by decide +kernel
theorem dX3_mayFollow_17 : decode cX3_mayFollow 17 = .ok (.getfield 40, 3) := by decide +kernel
theorem dX3_mayFollow_20 : decode cX3_mayFollow 20 = .ok (.iload_n 1, 1) := by decide +kernel
theorem dX3_mayFollow_21 : decode cX3_mayFollow 21 = .ok (.iaload, 1) := by decide +kernel
theorem dX3_mayFollow_22 : decode cX3_mayFollow 22 = .ok (.iload_n 2, 1) := by decide +kernel
theorem dX3_mayFollow_23 : decode cX3_mayFollow 23 = .ok (.iconst (-1), 1) := by decide +kernel
theorem dX3_mayFollow_24 : decode cX3_mayFollow 24 = .ok (.ixor, 1) := by decide +kernel
theorem dX3_mayFollow_25 : decode cX3_mayFollow 25 = .ok (.iand, 1) := by decide +kernel
theorem dX3_mayFollow_26 : decode cX3_mayFollow 26 = .ok (.ifCond .ne 7, 3) := by decide +kernel
theorem dX3_mayFollow_29 : decode cX3_mayFollow 29 = .ok (.iconst 1, 1) := by decide +kernel
theorem dX3_mayFollow_30 : decode cX3_mayFollow 30 = .ok (.goto 4, 3) := by decide +kernel
theorem dX3_mayFollow_33 : decode cX3_mayFollow 33 = .ok (.iconst 0, 1) := by decide +kernel
theorem dX3_mayFollow_34 : decode cX3_mayFollow 34 = .ok (.ireturn, 1) := by decide +kernel
theorem dX4_init_0 : decode cX4_init 0 = .ok (.aload_n 0, 1) := by decide +kernel
theorem dX4_init_1 : decode cX4_init 1 = .ok (.invokespecial 3, 3) := by decide +kernel
theorem dX4_init_4 : decode cX4_init 4 = .ok (.aload_n 0, 1) := by decide +kernel
theorem dX4_init_5 : decode cX4_init 5 = .ok (.iconst 0, 1) := by decide +kernel
theorem dX4_init_6 : decode cX4_init 6 = .ok (.putfield 9, 3) := by decide +kernel
theorem dX4_init_9 : decode cX4_init 9 = .ok (.aload_n 0, 1) := by decide +kernel
theorem dX4_init_10 : decode cX4_init 10 = .ok (.aload_n 1, 1) := by decide +kernel
theorem dX4_init_11 : decode cX4_init 11 = .ok (.putfield 15, 3) := by decide +kernel
theorem dX4_init_14 : decode cX4_init 14 = .ok (.return_, 1) := by decide +kernel
theorem dX4_readInto_0 : decode cX4_readInto 0 = .ok (.aload_n 1, 1) := by decide +kernel
theorem dX4_readInto_1 : decode cX4_readInto 1 = .ok (.invokevirtual 19, 3) := by decide +kernel
theorem dX4_readInto_4 : decode cX4_readInto 4 = .ok (.aload_n 0, 1) := by decide +kernel
theorem dX4_readInto_5 : decode cX4_readInto 5 = .ok (.getfield 15, 3) := by decide +kernel
theorem dX4_readInto_8 : decode cX4_readInto 8 = .ok (.invokevirtual 24, 3) := by decide +kernel
theorem dX4_readInto_11 : decode cX4_readInto 11 = .ok (.aload_n 0, 1) := by decide +kernel
theorem dX4_readInto_12 : decode cX4_readInto 12 = .ok (.aload_n 1, 1) := by decide +kernel
theorem dX4_readInto_13 : decode cX4_readInto 13 = .ok (.invokevirtual 29, 3) := by decide +kernel
theorem dX4_readInto_16 : decode cX4_readInto 16 = .ok (.istore_n 2, 1) := by decide +kernel
theorem dX4_readInto_17 : decode cX4_readInto 17 = .ok (.iconst 0, 1) := by decide +kernel
theorem dX4_readInto_18 : decode cX4_readInto 18 = .ok (.istore_n 3, 1) := by decide +kernel
theorem dX4_readInto_19 : decode cX4_readInto 19 = .ok (.iload_n 3, 1) := by decide +kernel
theorem dX4_readInto_20 : decode cX4_readInto 20 = .ok (.bipush 6, 2) := by decide +kernel
theorem dX4_readInto_22 : decode cX4_readInto 22 = .ok (.if_icmp .gt 31, 3) := by decide +kernel
theorem dX4_readInto_25 : decode cX4_readInto 25 = .ok (.iload_n 2, 1) := by decide +kernel
theorem dX4_readInto_26 : decode cX4_readInto 26 = .ok (.ifCond .ne 27, 3) := by decide +kernel
theorem dX4_readInto_29 : decode cX4_readInto 29 = .ok (.aload_n 0, 1) := by decide +kernel
theorem dX4_readInto_30 : decode cX4_readInto 30 = .ok (.getfield 15, 3) := by decide +kernel
theorem dX4_readInto_33 : decode cX4_readInto 33 = .ok (.bipush 11, 2) := by decide +kernel
theorem dX4_readInto_35 : decode cX4_readInto 35 = .ok (.invokevirtual 33, 3) := by decide +kernel
theorem dX4_readInto_38 : decode cX4_readInto 38 = .ok (.ifCond .eq 15, 3) := by decide +kernel
theorem dX4_readInto_41 : decode cX4_readInto 41 = .ok (.aload_n 0, 1) := by decide +kernel
theorem dX4_readInto_42 : decode cX4_readInto 42 = .ok (.aload_n 1, 1) := by decide +kernel
theorem dX4_readInto_43 : decode cX4_readInto 43 = .ok (.invokevirtual 37, 3) := by decide +kernel
theorem dX4_readInto_46 : decode cX4_readInto 46 = .ok (.istore_n 2, 1) := by decide +kernel
theorem dX4_readInto_47 : decode cX4_readInto 47 = .ok (.iinc 3 1, 3) := by decide +kernel
theorem dX4_readInto_50 : decode cX4_readInto 50 = .ok (.goto (-31), 3) := by decide +kernel
theorem dX4_readInto_53 : decode cX4_readInto 53 = .ok (.iconst 0, 1) := by decide +kernel
theorem dX4_readInto_54 : decode cX4_readInto 54 = .ok (.istore_n 3, 1) := by decide +kernel
theorem dX4_readInto_55 : decode cX4_readInto 55 = .ok (.iload_n 3, 1) := by decide +kernel
theorem dX4_readInto_56 : decode cX4_readInto 56 = .ok (.bipush 10, 2) := by decide +kernel
theorem dX4_readInto_58 : decode cX4_readInto 58 = .ok (.if_icmp .gt 31, 3) := by decide +kernel
theorem dX4_readInto_61 : decode cX4_readInto 61 = .ok (.iload_n 2, 1) := by decide +kernel
theorem dX4_readInto_62 : decode cX4_readInto 62 = .ok (.ifCond .ne 27, 3) := by decide +kernel
theorem dX4_readInto_65 : decode cX4_readInto 65 = .ok (.aload_n 0, 1) := by decide +kernel
theorem dX4_readInto_66 : decode cX4_readInto 66 = .ok (.getfield 15, 3) := by decide +kernel
theorem dX4_readInto_69 : decode cX4_readInto 69 = .ok (.bipush 12, 2) := by decide +kernel
theorem dX4_readInto_71 : decode cX4_readInto 71 = .ok (.invokevirtual 33, 3) := by decide +kernel
theorem dX4_readInto_74 : decode cX4_readInto 74 = .ok (.ifCond .eq 15, 3) := by decide +kernel
theorem dX4_readInto_77 : decode cX4_readInto 77 = .ok (.aload_n 0, 1) := by decide +kernel
theorem dX4_readInto_78 : decode cX4_readInto 78 = .ok (.aload_n 1, 1) := by decide +kernel
theorem dX4_readInto_79 : decode cX4_readInto 79 = .ok (.invokevirtual 40, 3) := by decide +kernel
theorem dX4_readInto_82 : decode cX4_readInto 82 = .ok (.istore_n 2, 1) := by decide +kernel
theorem dX4_readInto_83 : decode cX4_readInto 83 = .ok (.iinc 3 1, 3) := by decide +kernel
theorem dX4_readInto_86 : decode cX4_readInto 86 = .ok (.goto (-31), 3) := by decide +kernel
theorem dX4_readInto_89 : decode cX4_readInto 89 = .ok (.iload_n 2, 1) := by decide +kernel
theorem dX4_readInto_90 : decode cX4_readInto 90 = .ok (.ifCond .ne 17, 3) := by decide +kernel
theorem dX4_readInto_93 : decode cX4_readInto 93 = .ok (.aload_n 0, 1) := by decide +kernel
theorem dX4_readInto_94 : decode cX4_readInto 94 = .ok (.getfield 15, 3) := by decide +kernel
theorem dX4_readInto_97 : decode cX4_readInto 97 = .ok (.invokevirtual 43, 3) := by decide +kernel
theorem dX4_readInto_100 : decode cX4_readInto 100 = .ok (.ifCond .ne 7, 3) := by decide +kernel
theorem dX4_readInto_103 : decode cX4_readInto 103 = .ok (.iconst 1, 1) := by decide +kernel
theorem dX4_readInto_104 : decode cX4_readInto 104 = .ok (.goto 4, 3) := by decide +kernel
theorem dX4_readInto_107 : decode cX4_readInto 107 = .ok (.iload_n 2, 1) := by decide +kernel
theorem dX4_readInto_108 : decode cX4_readInto 108 = .ok (.ireturn, 1) := by decide +kernel
theorem dX4_takePanel_0 : decode cX4_takePanel 0 = .ok (.aload_n 0, 1) := by decide +kernel
theorem dX4_takePanel_1 : decode cX4_takePanel 1 = .ok (.getfield 15, 3) := by decide +kernel
theorem dX4_takePanel_4 : decode cX4_takePanel 4 = .ok (.bipush 10, 2) := by decide +kernel
theorem dX4_takePanel_6 : decode cX4_takePanel 6 = .ok (.invokevirtual 33, 3) := by decide +kernel
theorem dX4_takePanel_9 : decode cX4_takePanel 9 = .ok (.ifCond .ne 5, 3) := by decide +kernel
theorem dX4_takePanel_12 : decode cX4_takePanel 12 = .ok (.iconst 1, 1) := by decide +kernel
theorem dX4_takePanel_13 : decode cX4_takePanel 13 = .ok (.ireturn, 1) := by decide +kernel
theorem dX4_takePanel_14 : decode cX4_takePanel 14 = .ok (.aload_n 0, 1) := by decide +kernel
theorem dX4_takePanel_15 : decode cX4_takePanel 15 = .ok (.getfield 15, 3) := by decide +kernel
theorem dX4_takePanel_18 : decode cX4_takePanel 18 = .ok (.invokevirtual 47, 3) := by decide +kernel
theorem dX4_takePanel_21 : decode cX4_takePanel 21 = .ok (.aload_n 0, 1) := by decide +kernel
theorem dX4_takePanel_22 : decode cX4_takePanel 22 = .ok (.iconst 4, 1) := by decide +kernel
theorem dX4_takePanel_23 : decode cX4_takePanel 23 = .ok (.bipush 12, 2) := by decide +kernel
theorem dX4_takePanel_25 : decode cX4_takePanel 25 = .ok (.invokevirtual 50, 3) := by decide +kernel
theorem dX4_takePanel_28 : decode cX4_takePanel 28 = .ok (.istore_n 2, 1) := by decide +kernel
theorem dX4_takePanel_29 : decode cX4_takePanel 29 = .ok (.iload_n 2, 1) := by decide +kernel
theorem dX4_takePanel_30 : decode cX4_takePanel 30 = .ok (.ifCond .eq 5, 3) := by decide +kernel
theorem dX4_takePanel_33 : decode cX4_takePanel 33 = .ok (.iload_n 2, 1) := by decide +kernel
theorem dX4_takePanel_34 : decode cX4_takePanel 34 = .ok (.ireturn, 1) := by decide +kernel
theorem dX4_takePanel_35 : decode cX4_takePanel 35 = .ok (.aload_n 1, 1) := by decide +kernel
theorem dX4_takePanel_36 : decode cX4_takePanel 36 = .ok (.aload_n 0, 1) := by decide +kernel
theorem dX4_takePanel_37 : decode cX4_takePanel 37 = .ok (.getfield 9, 3) := by decide +kernel
theorem dX4_takePanel_40 : decode cX4_takePanel 40 = .ok (.putfield 54, 3) := by decide +kernel
theorem dX4_takePanel_43 : decode cX4_takePanel 43 = .ok (.aload_n 0, 1) := by decide +kernel
theorem dX4_takePanel_44 : decode cX4_takePanel 44 = .ok (.invokevirtual 57, 3) := by decide +kernel
theorem dX4_takePanel_47 : decode cX4_takePanel 47 = .ok (.ireturn, 1) := by decide +kernel
theorem dX4_takeSeam_0 : decode cX4_takeSeam 0 = .ok (.aload_n 1, 1) := by decide +kernel
theorem dX4_takeSeam_1 : decode cX4_takeSeam 1 = .ok (.getfield 61, 3) := by decide +kernel
theorem dX4_takeSeam_4 : decode cX4_takeSeam 4 = .ok (.bipush 6, 2) := by decide +kernel
theorem dX4_takeSeam_6 : decode cX4_takeSeam 6 = .ok (.if_icmp .lt 5, 3) := by decide +kernel
theorem dX4_takeSeam_9 : decode cX4_takeSeam 9 = .ok (.iconst 3, 1) := by decide +kernel
theorem dX4_takeSeam_10 : decode cX4_takeSeam 10 = .ok (.ireturn, 1) := by decide +kernel
theorem dX4_takeSeam_11 : decode cX4_takeSeam 11 = .ok (.aload_n 0, 1) := by decide +kernel
theorem dX4_takeSeam_12 : decode cX4_takeSeam 12 = .ok (.getfield 15, 3) := by decide +kernel
theorem dX4_takeSeam_15 : decode cX4_takeSeam 15 = .ok (.invokevirtual 47, 3) := by decide +kernel
theorem dX4_takeSeam_18 : decode cX4_takeSeam 18 = .ok (.iconst 0, 1) := by decide +kernel
theorem dX4_takeSeam_19 : decode cX4_takeSeam 19 = .ok (.istore_n 2, 1) := by decide +kernel
theorem dX4_takeSeam_20 : decode cX4_takeSeam 20 = .ok (.aload_n 0, 1) := by decide +kernel
theorem dX4_takeSeam_21 : decode cX4_takeSeam 21 = .ok (.getfield 15, 3) := by decide +kernel
theorem dX4_takeSeam_24 : decode cX4_takeSeam 24 = .ok (.invokevirtual 64, 3) := by decide +kernel
theorem dX4_takeSeam_27 : decode cX4_takeSeam 27 = .ok (.istore_n 3, 1) := by decide +kernel
theorem dX4_takeSeam_28 : decode cX4_takeSeam 28 = .ok (.iconst 0, 1) := by decide +kernel
theorem dX4_takeSeam_29 : decode cX4_takeSeam 29 = .ok (.istore 4, 2) := by decide +kernel
theorem dX4_takeSeam_31 : decode cX4_takeSeam 31 = .ok (.iload 4, 2) := by decide +kernel
theorem dX4_takeSeam_33 : decode cX4_takeSeam 33 = .ok (.bipush 40, 2) := by decide +kernel
theorem dX4_takeSeam_35 : decode cX4_takeSeam 35 = .ok (.if_icmp .gt 33, 3) := by decide +kernel
theorem dX4_takeSeam_38 : decode cX4_takeSeam 38 = .ok (.iload_n 2, 1) := by decide +kernel
theorem dX4_takeSeam_39 : decode cX4_takeSeam 39 = .ok (.ifCond .ne 29, 3) := by decide +kernel
theorem dX4_takeSeam_42 : decode cX4_takeSeam 42 = .ok (.iload_n 3, 1) := by decide +kernel
theorem dX4_takeSeam_43 : decode cX4_takeSeam 43 = .ok (.iconst (-1), 1) := by decide +kernel
theorem dX4_takeSeam_44 : decode cX4_takeSeam 44 = .ok (.if_icmp .eq 24, 3) := by decide +kernel
theorem dX4_takeSeam_47 : decode cX4_takeSeam 47 = .ok (.aload_n 0, 1) := by decide +kernel
theorem dX4_takeSeam_48 : decode cX4_takeSeam 48 = .ok (.aload_n 1, 1) := by decide +kernel
theorem dX4_takeSeam_49 : decode cX4_takeSeam 49 = .ok (.iload_n 3, 1) := by decide +kernel
theorem dX4_takeSeam_50 : decode cX4_takeSeam 50 = .ok (.invokevirtual 67, 3) := by decide +kernel
theorem dX4_takeSeam_53 : decode cX4_takeSeam 53 = .ok (.istore_n 2, 1) := by decide +kernel
theorem dX4_takeSeam_54 : decode cX4_takeSeam 54 = .ok (.aload_n 0, 1) := by decide +kernel
theorem dX4_takeSeam_55 : decode cX4_takeSeam 55 = .ok (.getfield 15, 3) := by decide +kernel
theorem dX4_takeSeam_58 : decode cX4_takeSeam 58 = .ok (.invokevirtual 64, 3) := by decide +kernel
theorem dX4_takeSeam_61 : decode cX4_takeSeam 61 = .ok (.istore_n 3, 1) := by decide +kernel
theorem dX4_takeSeam_62 : decode cX4_takeSeam 62 = .ok (.iinc 4 1, 3) := by decide +kernel
theorem dX4_takeSeam_65 : decode cX4_takeSeam 65 = .ok (.goto (-34), 3) := by decide +kernel
theorem dX4_takeSeam_68 : decode cX4_takeSeam 68 = .ok (.aload_n 1, 1) := by decide +kernel
theorem dX4_takeSeam_69 : decode cX4_takeSeam 69 = .ok (.invokevirtual 71, 3) := by decide +kernel
theorem dX4_takeSeam_72 : decode cX4_takeSeam 72 = .ok (.iload_n 2, 1) := by decide +kernel
theorem dX4_takeSeam_73 : decode cX4_takeSeam 73 = .ok (.ifCond .ne 10, 3) := by decide +kernel
theorem dX4_takeSeam_76 : decode cX4_takeSeam 76 = .ok (.aload_n 0, 1) := by decide +kernel
theorem dX4_takeSeam_77 : decode cX4_takeSeam 77 = .ok (.invokevirtual 57, 3) := by decide +kernel
theorem dX4_takeSeam_80 : decode cX4_takeSeam 80 = .ok (.goto 4, 3) := by decide +kernel
theorem dX4_takeSeam_83 : decode cX4_takeSeam 83 = .ok (.iload_n 2, 1) := by decide +kernel
theorem dX4_takeSeam_84 : decode cX4_takeSeam 84 = .ok (.ireturn, 1) := by decide +kernel
theorem dX4_takeAct_0 : decode cX4_takeAct 0 = .ok (.aload_n 1, 1) := by decide +kernel
theorem dX4_takeAct_1 : decode cX4_takeAct 1 = .ok (.getfield 74, 3) := by decide +kernel
theorem dX4_takeAct_4 : decode cX4_takeAct 4 = .ok (.bipush 40, 2) := by decide +kernel
theorem dX4_takeAct_6 : decode cX4_takeAct 6 = .ok (.if_icmp .lt 5, 3) := by decide +kernel
theorem dX4_takeAct_9 : decode cX4_takeAct 9 = .ok (.iconst 3, 1) := by decide +kernel
theorem dX4_takeAct_10 : decode cX4_takeAct 10 = .ok (.ireturn, 1) := by decide +kernel
theorem dX4_takeAct_11 : decode cX4_takeAct 11 = .ok (.aload_n 0, 1) := by decide +kernel
theorem dX4_takeAct_12 : decode cX4_takeAct 12 = .ok (.getfield 15, 3) := by decide +kernel
theorem dX4_takeAct_15 : decode cX4_takeAct 15 = .ok (.invokevirtual 47, 3) := by decide +kernel
theorem dX4_takeAct_18 : decode cX4_takeAct 18 = .ok (.iload_n 2, 1) := by decide +kernel
theorem dX4_takeAct_19 : decode cX4_takeAct 19 = .ok (.bipush 7, 2) := by decide +kernel
theorem dX4_takeAct_21 : decode cX4_takeAct 21 = .ok (.if_icmp .ne 13, 3) := by decide +kernel
theorem dX4_takeAct_24 : decode cX4_takeAct 24 = .ok (.aload_n 0, 1) := by decide +kernel
theorem dX4_takeAct_25 : decode cX4_takeAct 25 = .ok (.iconst 1, 1) := by decide +kernel
theorem dX4_takeAct_26 : decode cX4_takeAct 26 = .ok (.bipush 30, 2) := by decide +kernel
theorem dX4_takeAct_28 : decode cX4_takeAct 28 = .ok (.invokevirtual 50, 3) := by decide +kernel
theorem dX4_takeAct_31 : decode cX4_takeAct 31 = .ok (.goto 14, 3) := by decide +kernel
theorem dX4_takeAct_34 : decode cX4_takeAct 34 = .ok (.aload_n 0, 1) := by decide +kernel
theorem dX4_takeAct_35 : decode cX4_takeAct 35 = .ok (.iconst 0, 1) := by decide +kernel
theorem dX4_takeAct_36 : decode cX4_takeAct 36 = .ok (.aload_n 1, 1) := by decide +kernel
theorem dX4_takeAct_37 : decode cX4_takeAct 37 = .ok (.getfield 54, 3) := by decide +kernel
theorem dX4_takeAct_40 : decode cX4_takeAct 40 = .ok (.iconst 1, 1) := by decide +kernel
theorem dX4_takeAct_41 : decode cX4_takeAct 41 = .ok (.isub, 1) := by decide +kernel
theorem dX4_takeAct_42 : decode cX4_takeAct 42 = .ok (.invokevirtual 50, 3) := by decide +kernel
theorem dX4_takeAct_45 : decode cX4_takeAct 45 = .ok (.istore_n 3, 1) := by decide +kernel
theorem dX4_takeAct_46 : decode cX4_takeAct 46 = .ok (.aload_n 0, 1) := by decide +kernel
theorem dX4_takeAct_47 : decode cX4_takeAct 47 = .ok (.getfield 9, 3) := by decide +kernel
theorem dX4_takeAct_50 : decode cX4_takeAct 50 = .ok (.istore 4, 2) := by decide +kernel
theorem dX4_takeAct_52 : decode cX4_takeAct 52 = .ok (.iconst 0, 1) := by decide +kernel
theorem dX4_takeAct_53 : decode cX4_takeAct 53 = .ok (.istore 5, 2) := by decide +kernel
theorem dX4_takeAct_55 : decode cX4_takeAct 55 = .ok (.iload_n 3, 1) := by decide +kernel
theorem dX4_takeAct_56 : decode cX4_takeAct 56 = .ok (.ifCond .ne 23, 3) := by decide +kernel
theorem dX4_takeAct_59 : decode cX4_takeAct 59 = .ok (.iload_n 2, 1) := by decide +kernel
theorem dX4_takeAct_60 : decode cX4_takeAct 60 = .ok (.bipush 6, 2) := by decide +kernel
theorem dX4_takeAct_62 : decode cX4_takeAct 62 = .ok (.if_icmp .gt 17, 3) := by decide +kernel
theorem dX4_takeAct_65 : decode cX4_takeAct 65 = .ok (.aload_n 0, 1) := by decide +kernel
theorem dX4_takeAct_66 : decode cX4_takeAct 66 = .ok (.iconst 1, 1) := by decide +kernel
theorem dX4_takeAct_67 : decode cX4_takeAct 67 = .ok (.bipush 20, 2) := by decide +kernel
theorem dX4_takeAct_69 : decode cX4_takeAct 69 = .ok (.invokevirtual 50, 3) := by decide +kernel
theorem dX4_takeAct_72 : decode cX4_takeAct 72 = .ok (.istore_n 3, 1) := by decide +kernel
theorem dX4_takeAct_73 : decode cX4_takeAct 73 = .ok (.aload_n 0, 1) := by decide +kernel
theorem dX4_takeAct_74 : decode cX4_takeAct 74 = .ok (.getfield 9, 3) := by decide +kernel
theorem dX4_takeAct_77 : decode cX4_takeAct 77 = .ok (.istore 5, 2) := by decide +kernel
theorem dX4_takeAct_79 : decode cX4_takeAct 79 = .ok (.iload_n 3, 1) := by decide +kernel
theorem dX4_takeAct_80 : decode cX4_takeAct 80 = .ok (.ifCond .ne 12, 3) := by decide +kernel
theorem dX4_takeAct_83 : decode cX4_takeAct 83 = .ok (.aload_n 1, 1) := by decide +kernel
theorem dX4_takeAct_84 : decode cX4_takeAct 84 = .ok (.iload_n 2, 1) := by decide +kernel
theorem dX4_takeAct_85 : decode cX4_takeAct 85 = .ok (.iload 4, 2) := by decide +kernel
theorem dX4_takeAct_87 : decode cX4_takeAct 87 = .ok (.iload 5, 2) := by decide +kernel
theorem dX4_takeAct_89 : decode cX4_takeAct 89 = .ok (.invokevirtual 77, 3) := by decide +kernel
theorem dX4_takeAct_92 : decode cX4_takeAct 92 = .ok (.iload_n 3, 1) := by decide +kernel
theorem dX4_takeAct_93 : decode cX4_takeAct 93 = .ok (.ireturn, 1) := by decide +kernel
theorem dX4_takeBefore_0 : decode cX4_takeBefore 0 = .ok (.aload_n 1, 1) := by decide +kernel
theorem dX4_takeBefore_1 : decode cX4_takeBefore 1 = .ok (.getfield 81, 3) := by decide +kernel
theorem dX4_takeBefore_4 : decode cX4_takeBefore 4 = .ok (.bipush 10, 2) := by decide +kernel
theorem dX4_takeBefore_6 : decode cX4_takeBefore 6 = .ok (.if_icmp .lt 5, 3) := by decide +kernel
theorem dX4_takeBefore_9 : decode cX4_takeBefore 9 = .ok (.iconst 3, 1) := by decide +kernel
theorem dX4_takeBefore_10 : decode cX4_takeBefore 10 = .ok (.ireturn, 1) := by decide +kernel
theorem dX4_takeBefore_11 : decode cX4_takeBefore 11 = .ok (.aload_n 0, 1) := by decide +kernel
theorem dX4_takeBefore_12 : decode cX4_takeBefore 12 = .ok (.getfield 15, 3) := by decide +kernel
theorem dX4_takeBefore_15 : decode cX4_takeBefore 15 = .ok (.invokevirtual 47, 3) := by decide +kernel
theorem dX4_takeBefore_18 : decode cX4_takeBefore 18 = .ok (.aload_n 0, 1) := by decide +kernel
theorem dX4_takeBefore_19 : decode cX4_takeBefore 19 = .ok (.iconst 0, 1) := by decide +kernel
theorem dX4_takeBefore_20 : decode cX4_takeBefore 20 = .ok (.aload_n 1, 1) := by decide +kernel
theorem dX4_takeBefore_21 : decode cX4_takeBefore 21 = .ok (.getfield 61, 3) := by decide +kernel
theorem dX4_takeBefore_24 : decode cX4_takeBefore 24 = .ok (.iconst 1, 1) := by decide +kernel
theorem dX4_takeBefore_25 : decode cX4_takeBefore 25 = .ok (.isub, 1) := by decide +kernel
theorem dX4_takeBefore_26 : decode cX4_takeBefore 26 = .ok (.invokevirtual 50, 3) := by decide +kernel
theorem dX4_takeBefore_29 : decode cX4_takeBefore 29 = .ok (.istore_n 2, 1) := by decide +kernel
theorem dX4_takeBefore_30 : decode cX4_takeBefore 30 = .ok (.iload_n 2, 1) := by decide +kernel
theorem dX4_takeBefore_31 : decode cX4_takeBefore 31 = .ok (.ifCond .eq 5, 3) := by decide +kernel
theorem dX4_takeBefore_34 : decode cX4_takeBefore 34 = .ok (.iload_n 2, 1) := by decide +kernel
theorem dX4_takeBefore_35 : decode cX4_takeBefore 35 = .ok (.ireturn, 1) := by decide +kernel
theorem dX4_takeBefore_36 : decode cX4_takeBefore 36 = .ok (.aload_n 0, 1) := by decide +kernel
theorem dX4_takeBefore_37 : decode cX4_takeBefore 37 = .ok (.getfield 9, 3) := by decide +kernel
theorem dX4_takeBefore_40 : decode cX4_takeBefore 40 = .ok (.istore_n 3, 1) := by decide +kernel
theorem dX4_takeBefore_41 : decode cX4_takeBefore 41 = .ok (.aload_n 0, 1) := by decide +kernel
theorem dX4_takeBefore_42 : decode cX4_takeBefore 42 = .ok (.getfield 15, 3) := by decide +kernel
theorem dX4_takeBefore_45 : decode cX4_takeBefore 45 = .ok (.invokevirtual 84, 3) := by decide +kernel
theorem dX4_takeBefore_48 : decode cX4_takeBefore 48 = .ok (.ifCond .eq 16, 3) := by decide +kernel
theorem dX4_takeBefore_51 : decode cX4_takeBefore 51 = .ok (.aload_n 0, 1) := by decide +kernel
theorem dX4_takeBefore_52 : decode cX4_takeBefore 52 = .ok (.getfield 15, 3) := by decide +kernel
theorem dX4_takeBefore_55 : decode cX4_takeBefore 55 = .ok (.invokevirtual 87, 3) := by decide +kernel
theorem dX4_takeBefore_58 : decode cX4_takeBefore 58 = .ok (.iload_n 3, 1) := by decide +kernel
theorem dX4_takeBefore_59 : decode cX4_takeBefore 59 = .ok (.if_icmp .ne 5, 3) := by decide +kernel
theorem dX4_takeBefore_62 : decode cX4_takeBefore 62 = .ok (.iconst 2, 1) := by decide +kernel
theorem dX4_takeBefore_63 : decode cX4_takeBefore 63 = .ok (.ireturn, 1) := by decide +kernel
theorem dX4_takeBefore_64 : decode cX4_takeBefore 64 = .ok (.aload_n 0, 1) := by decide +kernel
theorem dX4_takeBefore_65 : decode cX4_takeBefore 65 = .ok (.iconst 0, 1) := by decide +kernel
theorem dX4_takeBefore_66 : decode cX4_takeBefore 66 = .ok (.aload_n 1, 1) := by decide +kernel
theorem dX4_takeBefore_67 : decode cX4_takeBefore 67 = .ok (.getfield 61, 3) := by decide +kernel
theorem dX4_takeBefore_70 : decode cX4_takeBefore 70 = .ok (.iconst 1, 1) := by decide +kernel
theorem dX4_takeBefore_71 : decode cX4_takeBefore 71 = .ok (.isub, 1) := by decide +kernel
theorem dX4_takeBefore_72 : decode cX4_takeBefore 72 = .ok (.invokevirtual 50, 3) := by decide +kernel
theorem dX4_takeBefore_75 : decode cX4_takeBefore 75 = .ok (.istore_n 2, 1) := by decide +kernel
theorem dX4_takeBefore_76 : decode cX4_takeBefore 76 = .ok (.iload_n 2, 1) := by decide +kernel
theorem dX4_takeBefore_77 : decode cX4_takeBefore 77 = .ok (.ifCond .eq 5, 3) := by decide +kernel
theorem dX4_takeBefore_80 : decode cX4_takeBefore 80 = .ok (.iload_n 2, 1) := by decide +kernel
theorem dX4_takeBefore_81 : decode cX4_takeBefore 81 = .ok (.ireturn, 1) := by decide +kernel
theorem dX4_takeBefore_82 : decode cX4_takeBefore 82 = .ok (.aload_n 1, 1) := by decide +kernel
theorem dX4_takeBefore_83 : decode cX4_takeBefore 83 = .ok (.iload_n 3, 1) := by decide +kernel
theorem dX4_takeBefore_84 : decode cX4_takeBefore 84 = .ok (.aload_n 0, 1) := by decide +kernel
theorem dX4_takeBefore_85 : decode cX4_takeBefore 85 = .ok (.getfield 9, 3) := by decide +kernel
theorem dX4_takeBefore_88 : decode cX4_takeBefore 88 = .ok (.invokevirtual 90, 3) := by decide +kernel
theorem dX4_takeBefore_91 : decode cX4_takeBefore 91 = .ok (.aload_n 0, 1) := by decide +kernel
theorem dX4_takeBefore_92 : decode cX4_takeBefore 92 = .ok (.invokevirtual 57, 3) := by decide +kernel
theorem dX4_takeBefore_95 : decode cX4_takeBefore 95 = .ok (.ireturn, 1) := by decide +kernel
theorem dX4_takeNumber_0 : decode cX4_takeNumber 0 = .ok (.aload_n 0, 1) := by decide +kernel
theorem dX4_takeNumber_1 : decode cX4_takeNumber 1 = .ok (.getfield 15, 3) := by decide +kernel
theorem dX4_takeNumber_4 : decode cX4_takeNumber 4 = .ok (.invokevirtual 84, 3) := by decide +kernel
theorem dX4_takeNumber_7 : decode cX4_takeNumber 7 = .ok (.ifCond .ne 5, 3) := by decide +kernel
theorem dX4_takeNumber_10 : decode cX4_takeNumber 10 = .ok (.iconst 1, 1) := by decide +kernel
theorem dX4_takeNumber_11 : decode cX4_takeNumber 11 = .ok (.ireturn, 1) := by decide +kernel
theorem dX4_takeNumber_12 : decode cX4_takeNumber 12 = .ok (.aload_n 0, 1) := by decide +kernel
theorem dX4_takeNumber_13 : decode cX4_takeNumber 13 = .ok (.aload_n 0, 1) := by decide +kernel
theorem dX4_takeNumber_14 : decode cX4_takeNumber 14 = .ok (.getfield 15, 3) := by decide +kernel
theorem dX4_takeNumber_17 : decode cX4_takeNumber 17 = .ok (.invokevirtual 87, 3) := by decide +kernel
theorem dX4_takeNumber_20 : decode cX4_takeNumber 20 = .ok (.putfield 9, 3) := by decide +kernel
theorem dX4_takeNumber_23 : decode cX4_takeNumber 23 = .ok (.aload_n 0, 1) := by decide +kernel
theorem dX4_takeNumber_24 : decode cX4_takeNumber 24 = .ok (.getfield 9, 3) := by decide +kernel
theorem dX4_takeNumber_27 : decode cX4_takeNumber 27 = .ok (.iload_n 1, 1) := by decide +kernel
theorem dX4_takeNumber_28 : decode cX4_takeNumber 28 = .ok (.if_icmp .lt 11, 3) := by decide +kernel
theorem dX4_takeNumber_31 : decode cX4_takeNumber 31 = .ok (.aload_n 0, 1) := by decide +kernel
theorem dX4_takeNumber_32 : decode cX4_takeNumber 32 = .ok (.getfield 9, 3) := by decide +kernel
theorem dX4_takeNumber_35 : decode cX4_takeNumber 35 = .ok (.iload_n 2, 1) := by decide +kernel
theorem dX4_takeNumber_36 : decode cX4_takeNumber 36 = .ok (.if_icmp .le 5, 3) := by decide +kernel
theorem dX4_takeNumber_39 : decode cX4_takeNumber 39 = .ok (.iconst 2, 1) := by decide +kernel
theorem dX4_takeNumber_40 : decode cX4_takeNumber 40 = .ok (.ireturn, 1) := by decide +kernel
theorem dX4_takeNumber_41 : decode cX4_takeNumber 41 = .ok (.aload_n 0, 1) := by decide +kernel
theorem dX4_takeNumber_42 : decode cX4_takeNumber 42 = .ok (.getfield 15, 3) := by decide +kernel
theorem dX4_takeNumber_45 : decode cX4_takeNumber 45 = .ok (.invokevirtual 47, 3) := by decide +kernel
theorem dX4_takeNumber_48 : decode cX4_takeNumber 48 = .ok (.iconst 0, 1) := by decide +kernel
theorem dX4_takeNumber_49 : decode cX4_takeNumber 49 = .ok (.ireturn, 1) := by decide +kernel
theorem dX4_takeSign_0 : decode cX4_takeSign 0 = .ok (.aload_n 0, 1) := by decide +kernel
theorem dX4_takeSign_1 : decode cX4_takeSign 1 = .ok (.getfield 15, 3) := by decide +kernel
theorem dX4_takeSign_4 : decode cX4_takeSign 4 = .ok (.invokevirtual 94, 3) := by decide +kernel
theorem dX4_takeSign_7 : decode cX4_takeSign 7 = .ok (.ifCond .ne 5, 3) := by decide +kernel
theorem dX4_takeSign_10 : decode cX4_takeSign 10 = .ok (.iconst 1, 1) := by decide +kernel
theorem dX4_takeSign_11 : decode cX4_takeSign 11 = .ok (.ireturn, 1) := by decide +kernel
theorem dX4_takeSign_12 : decode cX4_takeSign 12 = .ok (.aload_n 0, 1) := by decide +kernel
theorem dX4_takeSign_13 : decode cX4_takeSign 13 = .ok (.getfield 15, 3) := by decide +kernel
theorem dX4_takeSign_16 : decode cX4_takeSign 16 = .ok (.invokevirtual 47, 3) := by decide +kernel
theorem dX4_takeSign_19 : decode cX4_takeSign 19 = .ok (.iconst 0, 1) := by decide +kernel
theorem dX4_takeSign_20 : decode cX4_takeSign 20 = .ok (.ireturn, 1) := by decide +kernel
theorem dX5_init_0 : decode cX5_init 0 = .ok (.aload_n 0, 1) := by decide +kernel
theorem dX5_init_1 : decode cX5_init 1 = .ok (.invokespecial 3, 3) := by decide +kernel
theorem dX5_init_4 : decode cX5_init 4 = .ok (.aload_n 0, 1) := by decide +kernel
theorem dX5_init_5 : decode cX5_init 5 = .ok (.bipush 7, 2) := by decide +kernel
theorem dX5_init_7 : decode cX5_init 7 = .ok (.anewarray 9, 3) := by decide +kernel
theorem dX5_init_10 : decode cX5_init 10 = .ok (.putfield 11, 3) := by decide +kernel
theorem dX5_init_13 : decode cX5_init 13 = .ok (.aload_n 0, 1) := by decide +kernel
theorem dX5_init_14 : decode cX5_init 14 = .ok (.bipush 6, 2) := by decide +kernel
theorem dX5_init_16 : decode cX5_init 16 = .ok (.newarray .int, 2) := by decide +kernel
theorem dX5_init_18 : decode cX5_init 18 = .ok (.putfield 17, 3) := by decide +kernel
theorem dX5_init_21 : decode cX5_init 21 = .ok (.aload_n 0, 1) := by decide +kernel
theorem dX5_init_22 : decode cX5_init 22 = .ok (.bipush 6, 2) := by decide +kernel
theorem dX5_init_24 : decode cX5_init 24 = .ok (.newarray .int, 2) := by decide +kernel
theorem dX5_init_26 : decode cX5_init 26 = .ok (.putfield 21, 3) := by decide +kernel
theorem dX5_init_29 : decode cX5_init 29 = .ok (.aload_n 0, 1) := by decide +kernel
theorem dX5_init_30 : decode cX5_init 30 = .ok (.bipush 64, 2) := by decide +kernel
theorem dX5_init_32 : decode cX5_init 32 = .ok (.newarray .int, 2) := by decide +kernel
theorem dX5_init_34 : decode cX5_init 34 = .ok (.putfield 24, 3) := by decide +kernel
theorem dX5_init_37 : decode cX5_init 37 = .ok (.aload_n 0, 1) := by decide +kernel
theorem dX5_init_38 : decode cX5_init 38 = .ok (.iconst 0, 1) := by decide +kernel
theorem dX5_init_39 : decode cX5_init 39 = .ok (.putfield 27, 3) := by decide +kernel
theorem dX5_init_42 : decode cX5_init 42 = .ok (.aload_n 0, 1) := by decide +kernel
theorem dX5_init_43 : decode cX5_init 43 = .ok (.iconst 0, 1) := by decide +kernel
theorem dX5_init_44 : decode cX5_init 44 = .ok (.putfield 31, 3) := by decide +kernel
theorem dX5_init_47 : decode cX5_init 47 = .ok (.aload_n 0, 1) := by decide +kernel
theorem dX5_init_48 : decode cX5_init 48 = .ok (.iconst 0, 1) := by decide +kernel
theorem dX5_init_49 : decode cX5_init 49 = .ok (.putfield 34, 3) := by decide +kernel
theorem dX5_init_52 : decode cX5_init 52 = .ok (.iconst 0, 1) := by decide +kernel
theorem dX5_init_53 : decode cX5_init 53 = .ok (.istore_n 1, 1) := by decide +kernel
theorem dX5_init_54 : decode cX5_init 54 = .ok (.iload_n 1, 1) := by decide +kernel
theorem dX5_init_55 : decode cX5_init 55 = .ok (.bipush 6, 2) := by decide +kernel
theorem dX5_init_57 : decode cX5_init 57 = .ok (.if_icmp .gt 22, 3) := by decide +kernel
theorem dX5_init_60 : decode cX5_init 60 = .ok (.aload_n 0, 1) := by decide +kernel
theorem dX5_init_61 : decode cX5_init 61 = .ok (.getfield 11, 3) := by decide +kernel
theorem dX5_init_64 : decode cX5_init 64 = .ok (.iload_n 1, 1) := by decide +kernel
theorem dX5_init_65 : decode cX5_init 65 = .ok (.new 9, 3) := by decide +kernel
theorem dX5_init_68 : decode cX5_init 68 = .ok (.dup, 1) := by decide +kernel
theorem dX5_init_69 : decode cX5_init 69 = .ok (.invokespecial 38, 3) := by decide +kernel
theorem dX5_init_72 : decode cX5_init 72 = .ok (.aastore, 1) := by decide +kernel
theorem dX5_init_73 : decode cX5_init 73 = .ok (.iinc 1 1, 3) := by decide +kernel
theorem dX5_init_76 : decode cX5_init 76 = .ok (.goto (-22), 3) := by decide +kernel
theorem dX5_init_79 : decode cX5_init 79 = .ok (.return_, 1) := by decide +kernel
theorem dX5_forget_0 : decode cX5_forget 0 = .ok (.aload_n 0, 1) := by decide +kernel
theorem dX5_forget_1 : decode cX5_forget 1 = .ok (.iconst 0, 1) := by decide +kernel
theorem dX5_forget_2 : decode cX5_forget 2 = .ok (.putfield 27, 3) := by decide +kernel
theorem dX5_forget_5 : decode cX5_forget 5 = .ok (.return_, 1) := by decide +kernel
theorem dX5_look_0 : decode cX5_look 0 = .ok (.aload_n 0, 1) := by decide +kernel
theorem dX5_look_1 : decode cX5_look 1 = .ok (.getfield 27, 3) := by decide +kernel
theorem dX5_look_4 : decode cX5_look 4 = .ok (.ifCond .eq 4, 3) := by decide +kernel
theorem dX5_look_7 : decode cX5_look 7 = .ok (.return_, 1) := by decide +kernel
theorem dX5_look_8 : decode cX5_look 8 = .ok (.aload_n 0, 1) := by decide +kernel
theorem dX5_look_9 : decode cX5_look 9 = .ok (.iconst 1, 1) := by decide +kernel
theorem dX5_look_10 : decode cX5_look 10 = .ok (.putfield 27, 3) := by decide +kernel
theorem dX5_look_13 : decode cX5_look 13 = .ok (.aload_n 0, 1) := by decide +kernel
theorem dX5_look_14 : decode cX5_look 14 = .ok (.iconst 0, 1) := by decide +kernel
theorem dX5_look_15 : decode cX5_look 15 = .ok (.putfield 31, 3) := by decide +kernel
theorem dX5_look_18 : decode cX5_look 18 = .ok (.aload_n 0, 1) := by decide +kernel
theorem dX5_look_19 : decode cX5_look 19 = .ok (.getfield 11, 3) := by decide +kernel
theorem dX5_look_22 : decode cX5_look 22 = .ok (.iconst 0, 1) := by decide +kernel
theorem dX5_look_23 : decode cX5_look 23 = .ok (.aaload, 1) := by decide +kernel
theorem dX5_look_24 : decode cX5_look 24 = .ok (.aload_n 1, 1) := by decide +kernel
theorem dX5_look_25 : decode cX5_look 25 = .ok (.getfield 39, 3) := by decide +kernel
theorem dX5_look_28 : decode cX5_look 28 = .ok (.aload_n 2, 1) := by decide +kernel
theorem dX5_look_29 : decode cX5_look 29 = .ok (.invokevirtual 44, 3) := by decide +kernel
theorem dX5_look_32 : decode cX5_look 32 = .ok (.aload_n 0, 1) := by decide +kernel
theorem dX5_look_33 : decode cX5_look 33 = .ok (.aload_n 1, 1) := by decide +kernel
theorem dX5_look_34 : decode cX5_look 34 = .ok (.iconst 0, 1) := by decide +kernel
theorem dX5_look_35 : decode cX5_look 35 = .ok (.iconst 0, 1) := by decide +kernel
theorem dX5_look_36 : decode cX5_look 36 = .ok (.invokevirtual 48, 3) := by decide +kernel
theorem dX5_look_39 : decode cX5_look 39 = .ok (.return_, 1) := by decide +kernel
theorem dX5_tryFrom_0 : decode cX5_tryFrom 0 = .ok (.iload_n 2, 1) := by decide +kernel
theorem dX5_tryFrom_1 : decode cX5_tryFrom 1 = .ok (.aload_n 1, 1) := by decide +kernel
theorem dX5_tryFrom_2 : decode cX5_tryFrom 2 = .ok (.getfield 52, 3) := by decide +kernel
theorem dX5_tryFrom_5 : decode cX5_tryFrom 5 = .ok (.if_icmp .ge 9, 3) := by decide +kernel
theorem dX5_tryFrom_8 : decode cX5_tryFrom 8 = .ok (.iload_n 2, 1) := by decide +kernel
theorem dX5_tryFrom_9 : decode cX5_tryFrom 9 = .ok (.bipush 6, 2) := by decide +kernel
theorem dX5_tryFrom_11 : decode cX5_tryFrom 11 = .ok (.if_icmp .lt 15, 3) := by decide +kernel
theorem dX5_tryFrom_14 : decode cX5_tryFrom 14 = .ok (.aload_n 0, 1) := by decide +kernel
theorem dX5_tryFrom_15 : decode cX5_tryFrom 15 = .ok (.aload_n 0, 1) := by decide +kernel
theorem dX5_tryFrom_16 : decode cX5_tryFrom 16 = .ok (.getfield 11, 3) := by decide +kernel
theorem dX5_tryFrom_19 : decode cX5_tryFrom 19 = .ok (.iload_n 2, 1) := by decide +kernel
theorem dX5_tryFrom_20 : decode cX5_tryFrom 20 = .ok (.aaload, 1) := by decide +kernel
theorem dX5_tryFrom_21 : decode cX5_tryFrom 21 = .ok (.iload_n 2, 1) := by decide +kernel
theorem dX5_tryFrom_22 : decode cX5_tryFrom 22 = .ok (.invokevirtual 55, 3) := by decide +kernel
theorem dX5_tryFrom_25 : decode cX5_tryFrom 25 = .ok (.return_, 1) := by decide +kernel
theorem dX5_tryFrom_26 : decode cX5_tryFrom 26 = .ok (.iconst 0, 1) := by decide +kernel
theorem dX5_tryFrom_27 : decode cX5_tryFrom 27 = .ok (.istore 4, 2) := by decide +kernel
theorem dX5_tryFrom_29 : decode cX5_tryFrom 29 = .ok (.iload 4, 2) := by decide +kernel
theorem dX5_tryFrom_31 : decode cX5_tryFrom 31 = .ok (.aload_n 1, 1) := by decide +kernel
theorem dX5_tryFrom_32 : decode cX5_tryFrom 32 = .ok (.getfield 52, 3) := by decide +kernel
theorem dX5_tryFrom_35 : decode cX5_tryFrom 35 = .ok (.if_icmp .ge 72, 3) := by decide +kernel
theorem dX5_tryFrom_38 : decode cX5_tryFrom 38 = .ok (.aload_n 1, 1) := by decide +kernel
theorem dX5_tryFrom_39 : decode cX5_tryFrom 39 = .ok (.iload 4, 2) := by decide +kernel
theorem dX5_tryFrom_41 : decode cX5_tryFrom 41 = .ok (.iload_n 3, 1) := by decide +kernel
theorem dX5_tryFrom_42 : decode cX5_tryFrom 42 = .ok (.invokevirtual 59, 3) := by decide +kernel
theorem dX5_tryFrom_45 : decode cX5_tryFrom 45 = .ok (.ifCond .eq 56, 3) := by decide +kernel
theorem dX5_tryFrom_48 : decode cX5_tryFrom 48 = .ok (.aload_n 0, 1) := by decide +kernel
theorem dX5_tryFrom_49 : decode cX5_tryFrom 49 = .ok (.getfield 11, 3) := by decide +kernel
theorem dX5_tryFrom_52 : decode cX5_tryFrom 52 = .ok (.iload_n 2, 1) := by decide +kernel
theorem dX5_tryFrom_53 : decode cX5_tryFrom 53 = .ok (.iconst 1, 1) := by decide +kernel
theorem dX5_tryFrom_54 : decode cX5_tryFrom 54 = .ok (.iadd, 1) := by decide +kernel
theorem dX5_tryFrom_55 : decode cX5_tryFrom 55 = .ok (.aaload, 1) := by decide +kernel
theorem dX5_tryFrom_56 : decode cX5_tryFrom 56 = .ok (.aload_n 0, 1) := by decide +kernel
theorem dX5_tryFrom_57 : decode cX5_tryFrom 57 = .ok (.getfield 11, 3) := by decide +kernel
theorem dX5_tryFrom_60 : decode cX5_tryFrom 60 = .ok (.iload_n 2, 1) := by decide +kernel
theorem dX5_tryFrom_61 : decode cX5_tryFrom 61 = .ok (.aaload, 1) := by decide +kernel
theorem dX5_tryFrom_62 : decode cX5_tryFrom 62 = .ok (.invokevirtual 63, 3) := by decide +kernel
theorem dX5_tryFrom_65 : decode cX5_tryFrom 65 = .ok (.aload_n 0, 1) := by decide +kernel
theorem dX5_tryFrom_66 : decode cX5_tryFrom 66 = .ok (.getfield 11, 3) := by decide +kernel
theorem dX5_tryFrom_69 : decode cX5_tryFrom 69 = .ok (.iload_n 2, 1) := by decide +kernel
theorem dX5_tryFrom_70 : decode cX5_tryFrom 70 = .ok (.iconst 1, 1) := by decide +kernel
theorem dX5_tryFrom_71 : decode cX5_tryFrom 71 = .ok (.iadd, 1) := by decide +kernel
theorem dX5_tryFrom_72 : decode cX5_tryFrom 72 = .ok (.aaload, 1) := by decide +kernel
theorem dX5_tryFrom_73 : decode cX5_tryFrom 73 = .ok (.aload_n 1, 1) := by decide +kernel
theorem dX5_tryFrom_74 : decode cX5_tryFrom 74 = .ok (.iload 4, 2) := by decide +kernel
theorem dX5_tryFrom_76 : decode cX5_tryFrom 76 = .ok (.invokevirtual 67, 3) := by decide +kernel
theorem dX5_tryFrom_79 : decode cX5_tryFrom 79 = .ok (.aload_n 0, 1) := by decide +kernel
theorem dX5_tryFrom_80 : decode cX5_tryFrom 80 = .ok (.getfield 17, 3) := by decide +kernel
theorem dX5_tryFrom_83 : decode cX5_tryFrom 83 = .ok (.iload_n 2, 1) := by decide +kernel
theorem dX5_tryFrom_84 : decode cX5_tryFrom 84 = .ok (.iload 4, 2) := by decide +kernel
theorem dX5_tryFrom_86 : decode cX5_tryFrom 86 = .ok (.iastore, 1) := by decide +kernel
theorem dX5_tryFrom_87 : decode cX5_tryFrom 87 = .ok (.aload_n 0, 1) := by decide +kernel
theorem dX5_tryFrom_88 : decode cX5_tryFrom 88 = .ok (.aload_n 1, 1) := by decide +kernel
theorem dX5_tryFrom_89 : decode cX5_tryFrom 89 = .ok (.iload_n 2, 1) := by decide +kernel
theorem dX5_tryFrom_90 : decode cX5_tryFrom 90 = .ok (.iconst 1, 1) := by decide +kernel
theorem dX5_tryFrom_91 : decode cX5_tryFrom 91 = .ok (.iadd, 1) := by decide +kernel
theorem dX5_tryFrom_92 : decode cX5_tryFrom 92 = .ok (.iload_n 3, 1) := by decide +kernel
theorem dX5_tryFrom_93 : decode cX5_tryFrom 93 = .ok (.iconst 1, 1) := by decide +kernel
theorem dX5_tryFrom_94 : decode cX5_tryFrom 94 = .ok (.iload 4, 2) := by decide +kernel
theorem dX5_tryFrom_96 : decode cX5_tryFrom 96 = .ok (.ishl, 1) := by decide +kernel
theorem dX5_tryFrom_97 : decode cX5_tryFrom 97 = .ok (.ior, 1) := by decide +kernel
theorem dX5_tryFrom_98 : decode cX5_tryFrom 98 = .ok (.invokevirtual 48, 3) := by decide +kernel
theorem dX5_tryFrom_101 : decode cX5_tryFrom 101 = .ok (.iinc 4 1, 3) := by decide +kernel
theorem dX5_tryFrom_104 : decode cX5_tryFrom 104 = .ok (.goto (-75), 3) := by decide +kernel
theorem dX5_tryFrom_107 : decode cX5_tryFrom 107 = .ok (.return_, 1) := by decide +kernel
theorem dX5_weigh_0 : decode cX5_weigh 0 = .ok (.aload_n 1, 1) := by decide +kernel
theorem dX5_weigh_1 : decode cX5_weigh 1 = .ok (.invokevirtual 71, 3) := by decide +kernel
theorem dX5_weigh_4 : decode cX5_weigh 4 = .ok (.aload_n 1, 1) := by decide +kernel
theorem dX5_weigh_5 : decode cX5_weigh 5 = .ok (.invokevirtual 74, 3) := by decide +kernel
theorem dX5_weigh_8 : decode cX5_weigh 8 = .ok (.istore_n 3, 1) := by decide +kernel
theorem dX5_weigh_9 : decode cX5_weigh 9 = .ok (.aload_n 0, 1) := by decide +kernel
theorem dX5_weigh_10 : decode cX5_weigh 10 = .ok (.getfield 31, 3) := by decide +kernel
theorem dX5_weigh_13 : decode cX5_weigh 13 = .ok (.ifCond .eq 11, 3) := by decide +kernel
theorem dX5_weigh_16 : decode cX5_weigh 16 = .ok (.iload_n 3, 1) := by decide +kernel
theorem dX5_weigh_17 : decode cX5_weigh 17 = .ok (.aload_n 0, 1) := by decide +kernel
theorem dX5_weigh_18 : decode cX5_weigh 18 = .ok (.getfield 34, 3) := by decide +kernel
theorem dX5_weigh_21 : decode cX5_weigh 21 = .ok (.if_icmp .ge 27, 3) := by decide +kernel
theorem dX5_weigh_24 : decode cX5_weigh 24 = .ok (.aload_n 0, 1) := by decide +kernel
theorem dX5_weigh_25 : decode cX5_weigh 25 = .ok (.iconst 1, 1) := by decide +kernel
theorem dX5_weigh_26 : decode cX5_weigh 26 = .ok (.putfield 31, 3) := by decide +kernel
theorem dX5_weigh_29 : decode cX5_weigh 29 = .ok (.aload_n 0, 1) := by decide +kernel
theorem dX5_weigh_30 : decode cX5_weigh 30 = .ok (.iload_n 3, 1) := by decide +kernel
theorem dX5_weigh_31 : decode cX5_weigh 31 = .ok (.putfield 34, 3) := by decide +kernel
theorem dX5_weigh_34 : decode cX5_weigh 34 = .ok (.aload_n 0, 1) := by decide +kernel
theorem dX5_weigh_35 : decode cX5_weigh 35 = .ok (.getfield 17, 3) := by decide +kernel
theorem dX5_weigh_38 : decode cX5_weigh 38 = .ok (.iconst 0, 1) := by decide +kernel
theorem dX5_weigh_39 : decode cX5_weigh 39 = .ok (.aload_n 0, 1) := by decide +kernel
theorem dX5_weigh_40 : decode cX5_weigh 40 = .ok (.getfield 21, 3) := by decide +kernel
theorem dX5_weigh_43 : decode cX5_weigh 43 = .ok (.iconst 0, 1) := by decide +kernel
theorem dX5_weigh_44 : decode cX5_weigh 44 = .ok (.iload_n 2, 1) := by decide +kernel
theorem dX5_weigh_45 : decode cX5_weigh 45 = .ok (.invokestatic 78, 3) := by decide +kernel
theorem dX5_weigh_48 : decode cX5_weigh 48 = .ok (.return_, 1) := by decide +kernel
theorem dX5_howManyFit_0 : decode cX5_howManyFit 0 = .ok (.iconst 1, 1) := by decide +kernel
theorem dX5_howManyFit_1 : decode cX5_howManyFit 1 = .ok (.aload_n 1, 1) := by decide +kernel
theorem dX5_howManyFit_2 : decode cX5_howManyFit 2 = .ok (.getfield 52, 3) := by decide +kernel
theorem dX5_howManyFit_5 : decode cX5_howManyFit 5 = .ok (.ishl, 1) := by decide +kernel
theorem dX5_howManyFit_6 : decode cX5_howManyFit 6 = .ok (.iconst 1, 1) := by decide +kernel
theorem dX5_howManyFit_7 : decode cX5_howManyFit 7 = .ok (.isub, 1) := by decide +kernel
theorem dX5_howManyFit_8 : decode cX5_howManyFit 8 = .ok (.istore_n 2, 1) := by decide +kernel
theorem dX5_howManyFit_9 : decode cX5_howManyFit 9 = .ok (.aload_n 0, 1) := by decide +kernel
theorem dX5_howManyFit_10 : decode cX5_howManyFit 10 = .ok (.getfield 24, 3) := by decide +kernel
theorem dX5_howManyFit_13 : decode cX5_howManyFit 13 = .ok (.iconst 0, 1) := by decide +kernel
theorem dX5_howManyFit_14 : decode cX5_howManyFit 14 = .ok (.invokestatic 84, 3) := by decide +kernel
theorem dX5_howManyFit_17 : decode cX5_howManyFit 17 = .ok (.aload_n 0, 1) := by decide +kernel
theorem dX5_howManyFit_18 : decode cX5_howManyFit 18 = .ok (.getfield 24, 3) := by decide +kernel
theorem dX5_howManyFit_21 : decode cX5_howManyFit 21 = .ok (.iconst 0, 1) := by decide +kernel
theorem dX5_howManyFit_22 : decode cX5_howManyFit 22 = .ok (.iconst 1, 1) := by decide +kernel
theorem dX5_howManyFit_23 : decode cX5_howManyFit 23 = .ok (.iastore, 1) := by decide +kernel
theorem dX5_howManyFit_24 : decode cX5_howManyFit 24 = .ok (.iconst 0, 1) := by decide +kernel
theorem dX5_howManyFit_25 : decode cX5_howManyFit 25 = .ok (.istore_n 3, 1) := by decide +kernel
theorem dX5_howManyFit_26 : decode cX5_howManyFit 26 = .ok (.iload_n 3, 1) := by decide +kernel
theorem dX5_howManyFit_27 : decode cX5_howManyFit 27 = .ok (.iload_n 2, 1) := by decide +kernel
theorem dX5_howManyFit_28 : decode cX5_howManyFit 28 = .ok (.if_icmp .ge 57, 3) := by decide +kernel
theorem dX5_howManyFit_31 : decode cX5_howManyFit 31 = .ok (.iconst 0, 1) := by decide +kernel
theorem dX5_howManyFit_32 : decode cX5_howManyFit 32 = .ok (.istore 4, 2) := by decide +kernel
theorem dX5_howManyFit_34 : decode cX5_howManyFit 34 = .ok (.iload 4, 2) := by decide +kernel
theorem dX5_howManyFit_36 : decode cX5_howManyFit 36 = .ok (.aload_n 1, 1) := by decide +kernel
theorem dX5_howManyFit_37 : decode cX5_howManyFit 37 = .ok (.getfield 52, 3) := by decide +kernel
theorem dX5_howManyFit_40 : decode cX5_howManyFit 40 = .ok (.if_icmp .ge 39, 3) := by decide +kernel
theorem dX5_howManyFit_43 : decode cX5_howManyFit 43 = .ok (.aload_n 1, 1) := by decide +kernel
theorem dX5_howManyFit_44 : decode cX5_howManyFit 44 = .ok (.iload 4, 2) := by decide +kernel
theorem dX5_howManyFit_46 : decode cX5_howManyFit 46 = .ok (.iload_n 3, 1) := by decide +kernel
theorem dX5_howManyFit_47 : decode cX5_howManyFit 47 = .ok (.invokevirtual 59, 3) := by decide +kernel
theorem dX5_howManyFit_50 : decode cX5_howManyFit 50 = .ok (.ifCond .eq 23, 3) := by decide +kernel
theorem dX5_howManyFit_53 : decode cX5_howManyFit 53 = .ok (.aload_n 0, 1) := by decide +kernel
theorem dX5_howManyFit_54 : decode cX5_howManyFit 54 = .ok (.getfield 24, 3) := by decide +kernel
theorem dX5_howManyFit_57 : decode cX5_howManyFit 57 = .ok (.iload_n 3, 1) := by decide +kernel
theorem dX5_howManyFit_58 : decode cX5_howManyFit 58 = .ok (.iconst 1, 1) := by decide +kernel
theorem dX5_howManyFit_59 : decode cX5_howManyFit 59 = .ok (.iload 4, 2) := by decide +kernel
theorem dX5_howManyFit_61 : decode cX5_howManyFit 61 = .ok (.ishl, 1) := by decide +kernel
theorem dX5_howManyFit_62 : decode cX5_howManyFit 62 = .ok (.ior, 1) := by decide +kernel
theorem dX5_howManyFit_63 : decode cX5_howManyFit 63 = .ok (.dup2, 1) := by decide +kernel
theorem dX5_howManyFit_64 : decode cX5_howManyFit 64 = .ok (.iaload, 1) := by decide +kernel
theorem dX5_howManyFit_65 : decode cX5_howManyFit 65 = .ok (.aload_n 0, 1) := by decide +kernel
theorem dX5_howManyFit_66 : decode cX5_howManyFit 66 = .ok (.getfield 24, 3) := by decide +kernel
theorem dX5_howManyFit_69 : decode cX5_howManyFit 69 = .ok (.iload_n 3, 1) := by decide +kernel
theorem dX5_howManyFit_70 : decode cX5_howManyFit 70 = .ok (.iaload, 1) := by decide +kernel
theorem dX5_howManyFit_71 : decode cX5_howManyFit 71 = .ok (.iadd, 1) := by decide +kernel
theorem dX5_howManyFit_72 : decode cX5_howManyFit 72 = .ok (.iastore, 1) := by decide +kernel
theorem dX5_howManyFit_73 : decode cX5_howManyFit 73 = .ok (.iinc 4 1, 3) := by decide +kernel
theorem dX5_howManyFit_76 : decode cX5_howManyFit 76 = .ok (.goto (-42), 3) := by decide +kernel
theorem dX5_howManyFit_79 : decode cX5_howManyFit 79 = .ok (.iinc 3 1, 3) := by decide +kernel
theorem dX5_howManyFit_82 : decode cX5_howManyFit 82 = .ok (.goto (-56), 3) := by decide +kernel
theorem dX5_howManyFit_85 : decode cX5_howManyFit 85 = .ok (.aload_n 0, 1) := by decide +kernel
theorem dX5_howManyFit_86 : decode cX5_howManyFit 86 = .ok (.getfield 24, 3) := by decide +kernel
theorem dX5_howManyFit_89 : decode cX5_howManyFit 89 = .ok (.iload_n 2, 1) := by decide +kernel
theorem dX5_howManyFit_90 : decode cX5_howManyFit 90 = .ok (.iaload, 1) := by decide +kernel
theorem dX5_howManyFit_91 : decode cX5_howManyFit 91 = .ok (.ireturn, 1) := by decide +kernel
theorem dX6_init_0 : decode cX6_init 0 = .ok (.aload_n 0, 1) := by decide +kernel
theorem dX6_init_1 : decode cX6_init 1 = .ok (.invokespecial 3, 3) := by decide +kernel
theorem dX6_init_4 : decode cX6_init 4 = .ok (.aload_n 0, 1) := by decide +kernel
theorem dX6_init_5 : decode cX6_init 5 = .ok (.bipush 8, 2) := by decide +kernel
theorem dX6_init_7 : decode cX6_init 7 = .ok (.newarray .int, 2) := by decide +kernel
theorem dX6_init_9 : decode cX6_init 9 = .ok (.putfield 9, 3) := by decide +kernel
theorem dX6_init_12 : decode cX6_init 12 = .ok (.aload_n 0, 1) := by decide +kernel
theorem dX6_init_13 : decode cX6_init 13 = .ok (.bipush 8, 2) := by decide +kernel
theorem dX6_init_15 : decode cX6_init 15 = .ok (.newarray .int, 2) := by decide +kernel
theorem dX6_init_17 : decode cX6_init 17 = .ok (.putfield 15, 3) := by decide +kernel
theorem dX6_init_20 : decode cX6_init 20 = .ok (.aload_n 0, 1) := by decide +kernel
theorem dX6_init_21 : decode cX6_init 21 = .ok (.bipush 8, 2) := by decide +kernel
theorem dX6_init_23 : decode cX6_init 23 = .ok (.bipush 40, 2) := by decide +kernel
theorem dX6_init_25 : decode cX6_init 25 = .ok (.multianewarray 18 2, 4) := by decide +kernel
theorem dX6_init_29 : decode cX6_init 29 = .ok (.putfield 20, 3) := by decide +kernel
theorem dX6_init_32 : decode cX6_init 32 = .ok (.aload_n 0, 1) := by decide +kernel
theorem dX6_init_33 : decode cX6_init 33 = .ok (.getfield 15, 3) := by decide +kernel
theorem dX6_init_36 : decode cX6_init 36 = .ok (.iconst (-1), 1) := by decide +kernel
theorem dX6_init_37 : decode cX6_init 37 = .ok (.invokestatic 23, 3) := by decide +kernel
theorem dX6_init_40 : decode cX6_init 40 = .ok (.return_, 1) := by decide +kernel
theorem dX6_hasNumber_0 : decode cX6_hasNumber 0 = .ok (.iload_n 1, 1) := by decide +kernel
theorem dX6_hasNumber_1 : decode cX6_hasNumber 1 = .ok (.ifCond .lt 13, 3) := by decide +kernel
theorem dX6_hasNumber_4 : decode cX6_hasNumber 4 = .ok (.iload_n 1, 1) := by decide +kernel
theorem dX6_hasNumber_5 : decode cX6_hasNumber 5 = .ok (.bipush 8, 2) := by decide +kernel
theorem dX6_hasNumber_7 : decode cX6_hasNumber 7 = .ok (.if_icmp .ge 7, 3) := by decide +kernel
theorem dX6_hasNumber_10 : decode cX6_hasNumber 10 = .ok (.iconst 1, 1) := by decide +kernel
theorem dX6_hasNumber_11 : decode cX6_hasNumber 11 = .ok (.goto 4, 3) := by decide +kernel
theorem dX6_hasNumber_14 : decode cX6_hasNumber 14 = .ok (.iconst 0, 1) := by decide +kernel
theorem dX6_hasNumber_15 : decode cX6_hasNumber 15 = .ok (.ireturn, 1) := by decide +kernel
theorem dX6_isMissing_0 : decode cX6_isMissing 0 = .ok (.iload_n 1, 1) := by decide +kernel
theorem dX6_isMissing_1 : decode cX6_isMissing 1 = .ok (.ifCond .lt 19, 3) := by decide +kernel
theorem dX6_isMissing_4 : decode cX6_isMissing 4 = .ok (.iload_n 1, 1) := by decide +kernel
theorem dX6_isMissing_5 : decode cX6_isMissing 5 = .ok (.bipush 8, 2) := by decide +kernel
theorem dX6_isMissing_7 : decode cX6_isMissing 7 = .ok (.if_icmp .ge 13, 3) := by decide +kernel
theorem dX6_isMissing_10 : decode cX6_isMissing 10 = .ok (.aload_n 0, 1) := by decide +kernel
theorem dX6_isMissing_11 : decode cX6_isMissing 11 = .ok (.getfield 15, 3) := by decide +kernel
theorem dX6_isMissing_14 : decode cX6_isMissing 14 = .ok (.iload_n 1, 1) := by decide +kernel
theorem dX6_isMissing_15 : decode cX6_isMissing 15 = .ok (.iaload, 1) := by decide +kernel
theorem dX6_isMissing_16 : decode cX6_isMissing 16 = .ok (.iconst (-1), 1) := by decide +kernel
theorem dX6_isMissing_17 : decode cX6_isMissing 17 = .ok (.if_icmp .ne 7, 3) := by decide +kernel
theorem dX6_isMissing_20 : decode cX6_isMissing 20 = .ok (.iconst 1, 1) := by decide +kernel
theorem dX6_isMissing_21 : decode cX6_isMissing 21 = .ok (.goto 4, 3) := by decide +kernel
theorem dX6_isMissing_24 : decode cX6_isMissing 24 = .ok (.iconst 0, 1) := by decide +kernel
theorem dX6_isMissing_25 : decode cX6_isMissing 25 = .ok (.ireturn, 1) := by decide +kernel
theorem dX6_howMany_0 : decode cX6_howMany 0 = .ok (.iconst 0, 1) := by decide +kernel
theorem dX6_howMany_1 : decode cX6_howMany 1 = .ok (.istore_n 1, 1) := by decide +kernel
theorem dX6_howMany_2 : decode cX6_howMany 2 = .ok (.iconst 0, 1) := by decide +kernel
theorem dX6_howMany_3 : decode cX6_howMany 3 = .ok (.istore_n 2, 1) := by decide +kernel
theorem dX6_howMany_4 : decode cX6_howMany 4 = .ok (.iload_n 2, 1) := by decide +kernel
theorem dX6_howMany_5 : decode cX6_howMany 5 = .ok (.bipush 8, 2) := by decide +kernel
theorem dX6_howMany_7 : decode cX6_howMany 7 = .ok (.if_icmp .ge 22, 3) := by decide +kernel
theorem dX6_howMany_10 : decode cX6_howMany 10 = .ok (.aload_n 0, 1) := by decide +kernel
theorem dX6_howMany_11 : decode cX6_howMany 11 = .ok (.getfield 15, 3) := by decide +kernel
theorem dX6_howMany_14 : decode cX6_howMany 14 = .ok (.iload_n 2, 1) := by decide +kernel
theorem dX6_howMany_15 : decode cX6_howMany 15 = .ok (.iaload, 1) := by decide +kernel
theorem dX6_howMany_16 : decode cX6_howMany 16 = .ok (.iconst (-1), 1) := by decide +kernel
theorem dX6_howMany_17 : decode cX6_howMany 17 = .ok (.if_icmp .eq 6, 3) := by decide +kernel
theorem dX6_howMany_20 : decode cX6_howMany 20 = .ok (.iinc 1 1, 3) := by decide +kernel
theorem dX6_howMany_23 : decode cX6_howMany 23 = .ok (.iinc 2 1, 3) := by decide +kernel
theorem dX6_howMany_26 : decode cX6_howMany 26 = .ok (.goto (-22), 3) := by decide +kernel
theorem dX6_howMany_29 : decode cX6_howMany 29 = .ok (.iload_n 1, 1) := by decide +kernel
theorem dX6_howMany_30 : decode cX6_howMany 30 = .ok (.ireturn, 1) := by decide +kernel
theorem dX6_findingAt_0 : decode cX6_findingAt 0 = .ok (.aload_n 0, 1) := by decide +kernel
theorem dX6_findingAt_1 : decode cX6_findingAt 1 = .ok (.iload_n 1, 1) := by decide +kernel
theorem dX6_findingAt_2 : decode cX6_findingAt 2 = .ok (.invokevirtual 29, 3) := by decide +kernel
theorem dX6_findingAt_5 : decode cX6_findingAt 5 = .ok (.ifCond .eq 5, 3) := by decide +kernel
theorem dX6_findingAt_8 : decode cX6_findingAt 8 = .ok (.iconst 1, 1) := by decide +kernel
theorem dX6_findingAt_9 : decode cX6_findingAt 9 = .ok (.ireturn, 1) := by decide +kernel
theorem dX6_findingAt_10 : decode cX6_findingAt 10 = .ok (.iload_n 2, 1) := by decide +kernel
theorem dX6_findingAt_11 : decode cX6_findingAt 11 = .ok (.ifCond .lt 19, 3) := by decide +kernel
theorem dX6_findingAt_14 : decode cX6_findingAt 14 = .ok (.iload_n 3, 1) := by decide +kernel
theorem dX6_findingAt_15 : decode cX6_findingAt 15 = .ok (.ifCond .lt 15, 3) := by decide +kernel
theorem dX6_findingAt_18 : decode cX6_findingAt 18 = .ok (.iload_n 2, 1) := by decide +kernel
theorem dX6_findingAt_19 : decode cX6_findingAt 19 = .ok (.aload_n 0, 1) := by decide +kernel
theorem dX6_findingAt_20 : decode cX6_findingAt 20 = .ok (.getfield 15, 3) := by decide +kernel
theorem dX6_findingAt_23 : decode cX6_findingAt 23 = .ok (.iload_n 1, 1) := by decide +kernel
theorem dX6_findingAt_24 : decode cX6_findingAt 24 = .ok (.iaload, 1) := by decide +kernel
theorem dX6_findingAt_25 : decode cX6_findingAt 25 = .ok (.iload_n 3, 1) := by decide +kernel
theorem dX6_findingAt_26 : decode cX6_findingAt 26 = .ok (.isub, 1) := by decide +kernel
theorem dX6_findingAt_27 : decode cX6_findingAt 27 = .ok (.if_icmp .le 7, 3) := by decide +kernel
theorem dX6_findingAt_30 : decode cX6_findingAt 30 = .ok (.iconst 2, 1) := by decide +kernel
theorem dX6_findingAt_31 : decode cX6_findingAt 31 = .ok (.goto 4, 3) := by decide +kernel
theorem dX6_findingAt_34 : decode cX6_findingAt 34 = .ok (.iconst 0, 1) := by decide +kernel
theorem dX6_findingAt_35 : decode cX6_findingAt 35 = .ok (.ireturn, 1) := by decide +kernel
theorem dX6_findingBetween_0 : decode cX6_findingBetween 0 = .ok (.aload_n 0, 1) := by decide +kernel
theorem dX6_findingBetween_1 : decode cX6_findingBetween 1 = .ok (.iload_n 1, 1) := by decide +kernel
theorem dX6_findingBetween_2 : decode cX6_findingBetween 2 = .ok (.invokevirtual 29, 3) := by decide +kernel
theorem dX6_findingBetween_5 : decode cX6_findingBetween 5 = .ok (.ifCond .ne 11, 3) := by decide +kernel
theorem dX6_findingBetween_8 : decode cX6_findingBetween 8 = .ok (.aload_n 0, 1) := by decide +kernel
theorem dX6_findingBetween_9 : decode cX6_findingBetween 9 = .ok (.iload_n 2, 1) := by decide +kernel
theorem dX6_findingBetween_10 : decode cX6_findingBetween 10 = .ok (.invokevirtual 29, 3) := by decide +kernel
theorem dX6_findingBetween_13 : decode cX6_findingBetween 13 = .ok (.ifCond .eq 5, 3) := by decide +kernel
theorem dX6_findingBetween_16 : decode cX6_findingBetween 16 = .ok (.iconst 1, 1) := by decide +kernel
theorem dX6_findingBetween_17 : decode cX6_findingBetween 17 = .ok (.ireturn, 1) := by decide +kernel
theorem dX6_findingBetween_18 : decode cX6_findingBetween 18 = .ok (.aload_n 0, 1) := by decide +kernel
theorem dX6_findingBetween_19 : decode cX6_findingBetween 19 = .ok (.getfield 9, 3) := by decide +kernel
theorem dX6_findingBetween_22 : decode cX6_findingBetween 22 = .ok (.iload_n 1, 1) := by decide +kernel
theorem dX6_findingBetween_23 : decode cX6_findingBetween 23 = .ok (.iaload, 1) := by decide +kernel
theorem dX6_findingBetween_24 : decode cX6_findingBetween 24 = .ok (.aload_n 0, 1) := by decide +kernel
theorem dX6_findingBetween_25 : decode cX6_findingBetween 25 = .ok (.getfield 9, 3) := by decide +kernel
theorem dX6_findingBetween_28 : decode cX6_findingBetween 28 = .ok (.iload_n 2, 1) := by decide +kernel
theorem dX6_findingBetween_29 : decode cX6_findingBetween 29 = .ok (.iaload, 1) := by decide +kernel
theorem dX6_findingBetween_30 : decode cX6_findingBetween 30 = .ok (.if_icmp .eq 7, 3) := by decide +kernel
theorem dX6_findingBetween_33 : decode cX6_findingBetween 33 = .ok (.iconst 5, 1) := by decide +kernel
theorem dX6_findingBetween_34 : decode cX6_findingBetween 34 = .ok (.goto 4, 3) := by decide +kernel
theorem dX6_findingBetween_37 : decode cX6_findingBetween 37 = .ok (.iconst 0, 1) := by decide +kernel
theorem dX6_findingBetween_38 : decode cX6_findingBetween 38 = .ok (.ireturn, 1) := by decide +kernel
theorem dX6_lay_0 : decode cX6_lay 0 = .ok (.aload_n 0, 1) := by decide +kernel
theorem dX6_lay_1 : decode cX6_lay 1 = .ok (.getfield 9, 3) := by decide +kernel
theorem dX6_lay_4 : decode cX6_lay 4 = .ok (.iload_n 1, 1) := by decide +kernel
theorem dX6_lay_5 : decode cX6_lay 5 = .ok (.iload_n 2, 1) := by decide +kernel
theorem dX6_lay_6 : decode cX6_lay 6 = .ok (.iastore, 1) := by decide +kernel
theorem dX6_lay_7 : decode cX6_lay 7 = .ok (.aload_n 0, 1) := by decide +kernel
theorem dX6_lay_8 : decode cX6_lay 8 = .ok (.getfield 15, 3) := by decide +kernel
theorem dX6_lay_11 : decode cX6_lay 11 = .ok (.iload_n 1, 1) := by decide +kernel
theorem dX6_lay_12 : decode cX6_lay 12 = .ok (.iload_n 3, 1) := by decide +kernel
theorem dX6_lay_13 : decode cX6_lay 13 = .ok (.iastore, 1) := by decide +kernel
theorem dX6_lay_14 : decode cX6_lay 14 = .ok (.aload_n 0, 1) := by decide +kernel
theorem dX6_lay_15 : decode cX6_lay 15 = .ok (.getfield 20, 3) := by decide +kernel
theorem dX6_lay_18 : decode cX6_lay 18 = .ok (.iload_n 1, 1) := by decide +kernel
theorem dX6_lay_19 : decode cX6_lay 19 = .ok (.aaload, 1) := by decide +kernel
theorem dX6_lay_20 : decode cX6_lay 20 = .ok (.iconst 0, 1) := by decide +kernel
theorem dX6_lay_21 : decode cX6_lay 21 = .ok (.invokestatic 23, 3) := by decide +kernel
theorem dX6_lay_24 : decode cX6_lay 24 = .ok (.return_, 1) := by decide +kernel
theorem dX6_takeAway_0 : decode cX6_takeAway 0 = .ok (.aload_n 0, 1) := by decide +kernel
theorem dX6_takeAway_1 : decode cX6_takeAway 1 = .ok (.getfield 15, 3) := by decide +kernel
theorem dX6_takeAway_4 : decode cX6_takeAway 4 = .ok (.iload_n 1, 1) := by decide +kernel
theorem dX6_takeAway_5 : decode cX6_takeAway 5 = .ok (.iaload, 1) := by decide +kernel
theorem dX6_takeAway_6 : decode cX6_takeAway 6 = .ok (.istore_n 2, 1) := by decide +kernel
theorem dX6_takeAway_7 : decode cX6_takeAway 7 = .ok (.aload_n 0, 1) := by decide +kernel
theorem dX6_takeAway_8 : decode cX6_takeAway 8 = .ok (.getfield 15, 3) := by decide +kernel
theorem dX6_takeAway_11 : decode cX6_takeAway 11 = .ok (.iload_n 1, 1) := by decide +kernel
theorem dX6_takeAway_12 : decode cX6_takeAway 12 = .ok (.iconst (-1), 1) := by decide +kernel
theorem dX6_takeAway_13 : decode cX6_takeAway 13 = .ok (.iastore, 1) := by decide +kernel
theorem dX6_takeAway_14 : decode cX6_takeAway 14 = .ok (.iload_n 2, 1) := by decide +kernel
theorem dX6_takeAway_15 : decode cX6_takeAway 15 = .ok (.ireturn, 1) := by decide +kernel
theorem dX6_put_0 : decode cX6_put 0 = .ok (.aload_n 0, 1) := by decide +kernel
theorem dX6_put_1 : decode cX6_put 1 = .ok (.getfield 20, 3) := by decide +kernel
theorem dX6_put_4 : decode cX6_put 4 = .ok (.iload_n 1, 1) := by decide +kernel
theorem dX6_put_5 : decode cX6_put 5 = .ok (.aaload, 1) := by decide +kernel
theorem dX6_put_6 : decode cX6_put 6 = .ok (.iload_n 2, 1) := by decide +kernel
theorem dX6_put_7 : decode cX6_put 7 = .ok (.aload_n 0, 1) := by decide +kernel
theorem dX6_put_8 : decode cX6_put 8 = .ok (.getfield 9, 3) := by decide +kernel
theorem dX6_put_11 : decode cX6_put 11 = .ok (.iload_n 1, 1) := by decide +kernel
theorem dX6_put_12 : decode cX6_put 12 = .ok (.iaload, 1) := by decide +kernel
theorem dX6_put_13 : decode cX6_put 13 = .ok (.iload_n 3, 1) := by decide +kernel
theorem dX6_put_14 : decode cX6_put 14 = .ok (.invokestatic 33, 3) := by decide +kernel
theorem dX6_put_17 : decode cX6_put 17 = .ok (.iastore, 1) := by decide +kernel
theorem dX6_put_18 : decode cX6_put 18 = .ok (.aload_n 0, 1) := by decide +kernel
theorem dX6_put_19 : decode cX6_put 19 = .ok (.getfield 20, 3) := by decide +kernel
theorem dX6_put_22 : decode cX6_put 22 = .ok (.iload_n 1, 1) := by decide +kernel
theorem dX6_put_23 : decode cX6_put 23 = .ok (.aaload, 1) := by decide +kernel
theorem dX6_put_24 : decode cX6_put 24 = .ok (.iload_n 2, 1) := by decide +kernel
theorem dX6_put_25 : decode cX6_put 25 = .ok (.iaload, 1) := by decide +kernel
theorem dX6_put_26 : decode cX6_put 26 = .ok (.ireturn, 1) := by decide +kernel
theorem dX6_narrowed_0 : decode cX6_narrowed 0 = .ok (.iload_n 0, 1) := by decide +kernel
theorem dX6_narrowed_1 : decode cX6_narrowed 1 = .ok (.lookupswitch 33 #[(0, 27), (1, 30)], 27) := by decide +kernel
theorem dX6_narrowed_28 : decode cX6_narrowed 28 = .ok (.iload_n 1, 1) := by decide +kernel
theorem dX6_narrowed_29 : decode cX6_narrowed 29 = .ok (.i2b, 1) := by decide +kernel
theorem dX6_narrowed_30 : decode cX6_narrowed 30 = .ok (.ireturn, 1) := by decide +kernel
theorem dX6_narrowed_31 : decode cX6_narrowed 31 = .ok (.iload_n 1, 1) := by decide +kernel
theorem dX6_narrowed_32 : decode cX6_narrowed 32 = .ok (.i2s, 1) := by decide +kernel
theorem dX6_narrowed_33 : decode cX6_narrowed 33 = .ok (.ireturn, 1) := by decide +kernel
theorem dX6_narrowed_34 : decode cX6_narrowed 34 = .ok (.iload_n 1, 1) := by decide +kernel
theorem dX6_narrowed_35 : decode cX6_narrowed 35 = .ok (.ireturn, 1) := by decide +kernel
theorem dX6_carry_0 : decode cX6_carry 0 = .ok (.aload_n 0, 1) := by decide +kernel
theorem dX6_carry_1 : decode cX6_carry 1 = .ok (.getfield 20, 3) := by decide +kernel
theorem dX6_carry_4 : decode cX6_carry 4 = .ok (.iload_n 1, 1) := by decide +kernel
theorem dX6_carry_5 : decode cX6_carry 5 = .ok (.aaload, 1) := by decide +kernel
theorem dX6_carry_6 : decode cX6_carry 6 = .ok (.iload_n 2, 1) := by decide +kernel
theorem dX6_carry_7 : decode cX6_carry 7 = .ok (.aload_n 0, 1) := by decide +kernel
theorem dX6_carry_8 : decode cX6_carry 8 = .ok (.getfield 20, 3) := by decide +kernel
theorem dX6_carry_11 : decode cX6_carry 11 = .ok (.iload_n 3, 1) := by decide +kernel
theorem dX6_carry_12 : decode cX6_carry 12 = .ok (.aaload, 1) := by decide +kernel
theorem dX6_carry_13 : decode cX6_carry 13 = .ok (.iload 4, 2) := by decide +kernel
theorem dX6_carry_15 : decode cX6_carry 15 = .ok (.iload 5, 2) := by decide +kernel
theorem dX6_carry_17 : decode cX6_carry 17 = .ok (.invokestatic 37, 3) := by decide +kernel
theorem dX6_carry_20 : decode cX6_carry 20 = .ok (.return_, 1) := by decide +kernel
theorem dX6_itemAt_0 : decode cX6_itemAt 0 = .ok (.aload_n 0, 1) := by decide +kernel
theorem dX6_itemAt_1 : decode cX6_itemAt 1 = .ok (.iload_n 1, 1) := by decide +kernel
theorem dX6_itemAt_2 : decode cX6_itemAt 2 = .ok (.iload_n 2, 1) := by decide +kernel
theorem dX6_itemAt_3 : decode cX6_itemAt 3 = .ok (.iconst 1, 1) := by decide +kernel
theorem dX6_itemAt_4 : decode cX6_itemAt 4 = .ok (.invokevirtual 43, 3) := by decide +kernel
theorem dX6_itemAt_7 : decode cX6_itemAt 7 = .ok (.ifCond .ne 14, 3) := by decide +kernel
theorem dX6_itemAt_10 : decode cX6_itemAt 10 = .ok (.aload_n 0, 1) := by decide +kernel
theorem dX6_itemAt_11 : decode cX6_itemAt 11 = .ok (.getfield 20, 3) := by decide +kernel
theorem dX6_itemAt_14 : decode cX6_itemAt 14 = .ok (.iload_n 1, 1) := by decide +kernel
theorem dX6_itemAt_15 : decode cX6_itemAt 15 = .ok (.aaload, 1) := by decide +kernel
theorem dX6_itemAt_16 : decode cX6_itemAt 16 = .ok (.iload_n 2, 1) := by decide +kernel
theorem dX6_itemAt_17 : decode cX6_itemAt 17 = .ok (.iaload, 1) := by decide +kernel
theorem dX6_itemAt_18 : decode cX6_itemAt 18 = .ok (.goto 4, 3) := by decide +kernel
theorem dX6_itemAt_21 : decode cX6_itemAt 21 = .ok (.iconst 0, 1) := by decide +kernel
theorem dX6_itemAt_22 : decode cX6_itemAt 22 = .ok (.ireturn, 1) := by decide +kernel
theorem dX6_tellsOrder_0 : decode cX6_tellsOrder 0 = .ok (.iconst 0, 1) := by decide +kernel
theorem dX6_tellsOrder_1 : decode cX6_tellsOrder 1 = .ok (.istore 4, 2) := by decide +kernel
theorem dX6_tellsOrder_3 : decode cX6_tellsOrder 3 = .ok (.iconst 0, 1) := by decide +kernel
theorem dX6_tellsOrder_4 : decode cX6_tellsOrder 4 = .ok (.istore 5, 2) := by decide +kernel
theorem dX6_tellsOrder_6 : decode cX6_tellsOrder 6 = .ok (.iload 5, 2) := by decide +kernel
theorem dX6_tellsOrder_8 : decode cX6_tellsOrder 8 = .ok (.iload_n 3, 1) := by decide +kernel
theorem dX6_tellsOrder_9 : decode cX6_tellsOrder 9 = .ok (.if_icmp .ge 53, 3) := by decide +kernel
theorem dX6_tellsOrder_12 : decode cX6_tellsOrder 12 = .ok (.aload_n 0, 1) := by decide +kernel
theorem dX6_tellsOrder_13 : decode cX6_tellsOrder 13 = .ok (.iload_n 1, 1) := by decide +kernel
theorem dX6_tellsOrder_14 : decode cX6_tellsOrder 14 = .ok (.iload_n 2, 1) := by decide +kernel
theorem dX6_tellsOrder_15 : decode cX6_tellsOrder 15 = .ok (.iload 5, 2) := by decide +kernel
theorem dX6_tellsOrder_17 : decode cX6_tellsOrder 17 = .ok (.iadd, 1) := by decide +kernel
theorem dX6_tellsOrder_18 : decode cX6_tellsOrder 18 = .ok (.invokevirtual 47, 3) := by decide +kernel
theorem dX6_tellsOrder_21 : decode cX6_tellsOrder 21 = .ok (.istore 6, 2) := by decide +kernel
theorem dX6_tellsOrder_23 : decode cX6_tellsOrder 23 = .ok (.iload 6, 2) := by decide +kernel
theorem dX6_tellsOrder_25 : decode cX6_tellsOrder 25 = .ok (.ifCond .lt 20, 3) := by decide +kernel
theorem dX6_tellsOrder_28 : decode cX6_tellsOrder 28 = .ok (.iload 6, 2) := by decide +kernel
theorem dX6_tellsOrder_30 : decode cX6_tellsOrder 30 = .ok (.iload_n 3, 1) := by decide +kernel
theorem dX6_tellsOrder_31 : decode cX6_tellsOrder 31 = .ok (.if_icmp .ge 14, 3) := by decide +kernel
theorem dX6_tellsOrder_34 : decode cX6_tellsOrder 34 = .ok (.iload 4, 2) := by decide +kernel
theorem dX6_tellsOrder_36 : decode cX6_tellsOrder 36 = .ok (.iload 6, 2) := by decide +kernel
theorem dX6_tellsOrder_38 : decode cX6_tellsOrder 38 = .ok (.ishr, 1) := by decide +kernel
theorem dX6_tellsOrder_39 : decode cX6_tellsOrder 39 = .ok (.iconst 1, 1) := by decide +kernel
theorem dX6_tellsOrder_40 : decode cX6_tellsOrder 40 = .ok (.iand, 1) := by decide +kernel
theorem dX6_tellsOrder_41 : decode cX6_tellsOrder 41 = .ok (.iconst 1, 1) := by decide +kernel
theorem dX6_tellsOrder_42 : decode cX6_tellsOrder 42 = .ok (.if_icmp .ne 5, 3) := by decide +kernel
theorem dX6_tellsOrder_45 : decode cX6_tellsOrder 45 = .ok (.iconst 0, 1) := by decide +kernel
theorem dX6_tellsOrder_46 : decode cX6_tellsOrder 46 = .ok (.ireturn, 1) := by decide +kernel
theorem dX6_tellsOrder_47 : decode cX6_tellsOrder 47 = .ok (.iload 4, 2) := by decide +kernel
theorem dX6_tellsOrder_49 : decode cX6_tellsOrder 49 = .ok (.iconst 1, 1) := by decide +kernel
theorem dX6_tellsOrder_50 : decode cX6_tellsOrder 50 = .ok (.iload 6, 2) := by decide +kernel
theorem dX6_tellsOrder_52 : decode cX6_tellsOrder 52 = .ok (.ishl, 1) := by decide +kernel
theorem dX6_tellsOrder_53 : decode cX6_tellsOrder 53 = .ok (.ior, 1) := by decide +kernel
theorem dX6_tellsOrder_54 : decode cX6_tellsOrder 54 = .ok (.istore 4, 2) := by decide +kernel
theorem dX6_tellsOrder_56 : decode cX6_tellsOrder 56 = .ok (.iinc 5 1, 3) := by decide +kernel
theorem dX6_tellsOrder_59 : decode cX6_tellsOrder 59 = .ok (.goto (-53), 3) := by decide +kernel
theorem dX6_tellsOrder_62 : decode cX6_tellsOrder 62 = .ok (.iconst 1, 1) := by decide +kernel
theorem dX6_tellsOrder_63 : decode cX6_tellsOrder 63 = .ok (.ireturn, 1) := by decide +kernel
theorem dX6_allWithin_0 : decode cX6_allWithin 0 = .ok (.iconst 0, 1) := by decide +kernel
theorem dX6_allWithin_1 : decode cX6_allWithin 1 = .ok (.istore 5, 2) := by decide +kernel
theorem dX6_allWithin_3 : decode cX6_allWithin 3 = .ok (.iload 5, 2) := by decide +kernel
theorem dX6_allWithin_5 : decode cX6_allWithin 5 = .ok (.iload_n 3, 1) := by decide +kernel
theorem dX6_allWithin_6 : decode cX6_allWithin 6 = .ok (.if_icmp .ge 37, 3) := by decide +kernel
theorem dX6_allWithin_9 : decode cX6_allWithin 9 = .ok (.aload_n 0, 1) := by decide +kernel
theorem dX6_allWithin_10 : decode cX6_allWithin 10 = .ok (.iload_n 1, 1) := by decide +kernel
theorem dX6_allWithin_11 : decode cX6_allWithin 11 = .ok (.iload_n 2, 1) := by decide +kernel
theorem dX6_allWithin_12 : decode cX6_allWithin 12 = .ok (.iload 5, 2) := by decide +kernel
theorem dX6_allWithin_14 : decode cX6_allWithin 14 = .ok (.iadd, 1) := by decide +kernel
theorem dX6_allWithin_15 : decode cX6_allWithin 15 = .ok (.invokevirtual 47, 3) := by decide +kernel
theorem dX6_allWithin_18 : decode cX6_allWithin 18 = .ok (.istore 6, 2) := by decide +kernel
theorem dX6_allWithin_20 : decode cX6_allWithin 20 = .ok (.iload 6, 2) := by decide +kernel
theorem dX6_allWithin_22 : decode cX6_allWithin 22 = .ok (.iload 4, 2) := by decide +kernel
theorem dX6_allWithin_24 : decode cX6_allWithin 24 = .ok (.ineg, 1) := by decide +kernel
theorem dX6_allWithin_25 : decode cX6_allWithin 25 = .ok (.if_icmp .lt 10, 3) := by decide +kernel
theorem dX6_allWithin_28 : decode cX6_allWithin 28 = .ok (.iload 6, 2) := by decide +kernel
theorem dX6_allWithin_30 : decode cX6_allWithin 30 = .ok (.iload 4, 2) := by decide +kernel
theorem dX6_allWithin_32 : decode cX6_allWithin 32 = .ok (.if_icmp .le 5, 3) := by decide +kernel
theorem dX6_allWithin_35 : decode cX6_allWithin 35 = .ok (.iconst 0, 1) := by decide +kernel
theorem dX6_allWithin_36 : decode cX6_allWithin 36 = .ok (.ireturn, 1) := by decide +kernel
theorem dX6_allWithin_37 : decode cX6_allWithin 37 = .ok (.iinc 5 1, 3) := by decide +kernel
theorem dX6_allWithin_40 : decode cX6_allWithin 40 = .ok (.goto (-37), 3) := by decide +kernel
theorem dX6_allWithin_43 : decode cX6_allWithin 43 = .ok (.iconst 1, 1) := by decide +kernel
theorem dX6_allWithin_44 : decode cX6_allWithin 44 = .ok (.ireturn, 1) := by decide +kernel
theorem dX7_init_0 : decode cX7_init 0 = .ok (.aload_n 0, 1) := by decide +kernel
theorem dX7_init_1 : decode cX7_init 1 = .ok (.invokespecial 3, 3) := by decide +kernel
theorem dX7_init_4 : decode cX7_init 4 = .ok (.aload_n 0, 1) := by decide +kernel
theorem dX7_init_5 : decode cX7_init 5 = .ok (.sipush 500, 3) := by decide +kernel
theorem dX7_init_8 : decode cX7_init 8 = .ok (.newarray .byte, 2) := by decide +kernel
theorem dX7_init_10 : decode cX7_init 10 = .ok (.putfield 9, 3) := by decide +kernel
theorem dX7_init_13 : decode cX7_init 13 = .ok (.aload_n 0, 1) := by decide +kernel
theorem dX7_init_14 : decode cX7_init 14 = .ok (.iconst 0, 1) := by decide +kernel
theorem dX7_init_15 : decode cX7_init 15 = .ok (.putfield 15, 3) := by decide +kernel
theorem dX7_init_18 : decode cX7_init 18 = .ok (.aload_n 0, 1) := by decide +kernel
theorem dX7_init_19 : decode cX7_init 19 = .ok (.iconst 0, 1) := by decide +kernel
theorem dX7_init_20 : decode cX7_init 20 = .ok (.putfield 19, 3) := by decide +kernel
theorem dX7_init_23 : decode cX7_init 23 = .ok (.aload_n 0, 1) := by decide +kernel
theorem dX7_init_24 : decode cX7_init 24 = .ok (.iconst 0, 1) := by decide +kernel
theorem dX7_init_25 : decode cX7_init 25 = .ok (.putfield 22, 3) := by decide +kernel
theorem dX7_init_28 : decode cX7_init 28 = .ok (.aload_n 0, 1) := by decide +kernel
theorem dX7_init_29 : decode cX7_init 29 = .ok (.iconst 0, 1) := by decide +kernel
theorem dX7_init_30 : decode cX7_init 30 = .ok (.putfield 25, 3) := by decide +kernel
theorem dX7_init_33 : decode cX7_init 33 = .ok (.return_, 1) := by decide +kernel
theorem dX7_hasRoom_0 : decode cX7_hasRoom 0 = .ok (.iload_n 1, 1) := by decide +kernel
theorem dX7_hasRoom_1 : decode cX7_hasRoom 1 = .ok (.sipush 500, 3) := by decide +kernel
theorem dX7_hasRoom_4 : decode cX7_hasRoom 4 = .ok (.aload_n 0, 1) := by decide +kernel
theorem dX7_hasRoom_5 : decode cX7_hasRoom 5 = .ok (.getfield 15, 3) := by decide +kernel
theorem dX7_hasRoom_8 : decode cX7_hasRoom 8 = .ok (.isub, 1) := by decide +kernel
theorem dX7_hasRoom_9 : decode cX7_hasRoom 9 = .ok (.if_icmp .gt 7, 3) := by decide +kernel
theorem dX7_hasRoom_12 : decode cX7_hasRoom 12 = .ok (.iconst 1, 1) := by decide +kernel
theorem dX7_hasRoom_13 : decode cX7_hasRoom 13 = .ok (.goto 4, 3) := by decide +kernel
theorem dX7_hasRoom_16 : decode cX7_hasRoom 16 = .ok (.iconst 0, 1) := by decide +kernel
theorem dX7_hasRoom_17 : decode cX7_hasRoom 17 = .ok (.ireturn, 1) := by decide +kernel
theorem dX7_append_0 : decode cX7_append 0 = .ok (.iload_n 3, 1) := by decide +kernel
theorem dX7_append_1 : decode cX7_append 1 = .ok (.iconst 1, 1) := by decide +kernel
theorem dX7_append_2 : decode cX7_append 2 = .ok (.isub, 1) := by decide +kernel
theorem dX7_append_3 : decode cX7_append 3 = .ok (.istore 4, 2) := by decide +kernel
theorem dX7_append_5 : decode cX7_append 5 = .ok (.iload 4, 2) := by decide +kernel
theorem dX7_append_7 : decode cX7_append 7 = .ok (.ifCond .lt 47, 3) := by decide +kernel
theorem dX7_append_10 : decode cX7_append 10 = .ok (.aload_n 0, 1) := by decide +kernel
theorem dX7_append_11 : decode cX7_append 11 = .ok (.getfield 15, 3) := by decide +kernel
theorem dX7_append_14 : decode cX7_append 14 = .ok (.sipush 500, 3) := by decide +kernel
theorem dX7_append_17 : decode cX7_append 17 = .ok (.if_icmp .ge 37, 3) := by decide +kernel
theorem dX7_append_20 : decode cX7_append 20 = .ok (.aload_n 0, 1) := by decide +kernel
theorem dX7_append_21 : decode cX7_append 21 = .ok (.getfield 9, 3) := by decide +kernel
theorem dX7_append_24 : decode cX7_append 24 = .ok (.aload_n 0, 1) := by decide +kernel
theorem dX7_append_25 : decode cX7_append 25 = .ok (.getfield 15, 3) := by decide +kernel
theorem dX7_append_28 : decode cX7_append 28 = .ok (.lload_n 1, 1) := by decide +kernel
theorem dX7_append_29 : decode cX7_append 29 = .ok (.bipush 8, 2) := by decide +kernel
theorem dX7_append_31 : decode cX7_append 31 = .ok (.iload 4, 2) := by decide +kernel
theorem dX7_append_33 : decode cX7_append 33 = .ok (.imul, 1) := by decide +kernel
theorem dX7_append_34 : decode cX7_append 34 = .ok (.lshr, 1) := by decide +kernel
theorem dX7_append_35 : decode cX7_append 35 = .ok (.l2i, 1) := by decide +kernel
theorem dX7_append_36 : decode cX7_append 36 = .ok (.i2b, 1) := by decide +kernel
theorem dX7_append_37 : decode cX7_append 37 = .ok (.bastore, 1) := by decide +kernel
theorem dX7_append_38 : decode cX7_append 38 = .ok (.aload_n 0, 1) := by decide +kernel
theorem dX7_append_39 : decode cX7_append 39 = .ok (.dup, 1) := by decide +kernel
theorem dX7_append_40 : decode cX7_append 40 = .ok (.getfield 15, 3) := by decide +kernel
theorem dX7_append_43 : decode cX7_append 43 = .ok (.iconst 1, 1) := by decide +kernel
theorem dX7_append_44 : decode cX7_append 44 = .ok (.iadd, 1) := by decide +kernel
theorem dX7_append_45 : decode cX7_append 45 = .ok (.putfield 15, 3) := by decide +kernel
theorem dX7_append_48 : decode cX7_append 48 = .ok (.iinc 4 (-1), 3) := by decide +kernel
theorem dX7_append_51 : decode cX7_append 51 = .ok (.goto (-46), 3) := by decide +kernel
theorem dX7_append_54 : decode cX7_append 54 = .ok (.aload_n 0, 1) := by decide +kernel
theorem dX7_append_55 : decode cX7_append 55 = .ok (.getfield 15, 3) := by decide +kernel
theorem dX7_append_58 : decode cX7_append 58 = .ok (.ireturn, 1) := by decide +kernel
theorem dX7_empty_0 : decode cX7_empty 0 = .ok (.aload_n 0, 1) := by decide +kernel
theorem dX7_empty_1 : decode cX7_empty 1 = .ok (.iconst 0, 1) := by decide +kernel
theorem dX7_empty_2 : decode cX7_empty 2 = .ok (.putfield 15, 3) := by decide +kernel
theorem dX7_empty_5 : decode cX7_empty 5 = .ok (.return_, 1) := by decide +kernel
theorem dX7_tokenPlace_0 : decode cX7_tokenPlace 0 = .ok (.aload_n 0, 1) := by decide +kernel
theorem dX7_tokenPlace_1 : decode cX7_tokenPlace 1 = .ok (.getfield 19, 3) := by decide +kernel
theorem dX7_tokenPlace_4 : decode cX7_tokenPlace 4 = .ok (.ireturn, 1) := by decide +kernel
theorem dX7_toFirst_0 : decode cX7_toFirst 0 = .ok (.aload_n 0, 1) := by decide +kernel
theorem dX7_toFirst_1 : decode cX7_toFirst 1 = .ok (.iconst 0, 1) := by decide +kernel
theorem dX7_toFirst_2 : decode cX7_toFirst 2 = .ok (.putfield 22, 3) := by decide +kernel
theorem dX7_toFirst_5 : decode cX7_toFirst 5 = .ok (.aload_n 0, 1) := by decide +kernel
theorem dX7_toFirst_6 : decode cX7_toFirst 6 = .ok (.invokevirtual 28, 3) := by decide +kernel
theorem dX7_toFirst_9 : decode cX7_toFirst 9 = .ok (.return_, 1) := by decide +kernel
theorem dX7_toNext_0 : decode cX7_toNext 0 = .ok (.aload_n 0, 1) := by decide +kernel
theorem dX7_toNext_1 : decode cX7_toNext 1 = .ok (.aload_n 0, 1) := by decide +kernel
theorem dX7_toNext_2 : decode cX7_toNext 2 = .ok (.getfield 22, 3) := by decide +kernel
theorem dX7_toNext_5 : decode cX7_toNext 5 = .ok (.putfield 19, 3) := by decide +kernel
theorem dX7_toNext_8 : decode cX7_toNext 8 = .ok (.aload_n 0, 1) := by decide +kernel
theorem dX7_toNext_9 : decode cX7_toNext 9 = .ok (.getfield 19, 3) := by decide +kernel
theorem dX7_toNext_12 : decode cX7_toNext 12 = .ok (.aload_n 0, 1) := by decide +kernel
theorem dX7_toNext_13 : decode cX7_toNext 13 = .ok (.getfield 15, 3) := by decide +kernel
theorem dX7_toNext_16 : decode cX7_toNext 16 = .ok (.if_icmp .ge 44, 3) := by decide +kernel
theorem dX7_toNext_19 : decode cX7_toNext 19 = .ok (.aload_n 0, 1) := by decide +kernel
theorem dX7_toNext_20 : decode cX7_toNext 20 = .ok (.getfield 9, 3) := by decide +kernel
theorem dX7_toNext_23 : decode cX7_toNext 23 = .ok (.aload_n 0, 1) := by decide +kernel
theorem dX7_toNext_24 : decode cX7_toNext 24 = .ok (.getfield 19, 3) := by decide +kernel
theorem dX7_toNext_27 : decode cX7_toNext 27 = .ok (.baload, 1) := by decide +kernel
theorem dX7_toNext_28 : decode cX7_toNext 28 = .ok (.bipush 32, 2) := by decide +kernel
theorem dX7_toNext_30 : decode cX7_toNext 30 = .ok (.if_icmp .eq 17, 3) := by decide +kernel
theorem dX7_toNext_33 : decode cX7_toNext 33 = .ok (.aload_n 0, 1) := by decide +kernel
theorem dX7_toNext_34 : decode cX7_toNext 34 = .ok (.getfield 9, 3) := by decide +kernel
theorem dX7_toNext_37 : decode cX7_toNext 37 = .ok (.aload_n 0, 1) := by decide +kernel
theorem dX7_toNext_38 : decode cX7_toNext 38 = .ok (.getfield 19, 3) := by decide +kernel
theorem dX7_toNext_41 : decode cX7_toNext 41 = .ok (.baload, 1) := by decide +kernel
theorem dX7_toNext_42 : decode cX7_toNext 42 = .ok (.bipush 10, 2) := by decide +kernel
theorem dX7_toNext_44 : decode cX7_toNext 44 = .ok (.if_icmp .ne 16, 3) := by decide +kernel
theorem dX7_toNext_47 : decode cX7_toNext 47 = .ok (.aload_n 0, 1) := by decide +kernel
theorem dX7_toNext_48 : decode cX7_toNext 48 = .ok (.dup, 1) := by decide +kernel
theorem dX7_toNext_49 : decode cX7_toNext 49 = .ok (.getfield 19, 3) := by decide +kernel
theorem dX7_toNext_52 : decode cX7_toNext 52 = .ok (.iconst 1, 1) := by decide +kernel
theorem dX7_toNext_53 : decode cX7_toNext 53 = .ok (.iadd, 1) := by decide +kernel
theorem dX7_toNext_54 : decode cX7_toNext 54 = .ok (.putfield 19, 3) := by decide +kernel
theorem dX7_toNext_57 : decode cX7_toNext 57 = .ok (.goto (-49), 3) := by decide +kernel
theorem dX7_toNext_60 : decode cX7_toNext 60 = .ok (.aload_n 0, 1) := by decide +kernel
theorem dX7_toNext_61 : decode cX7_toNext 61 = .ok (.aload_n 0, 1) := by decide +kernel
theorem dX7_toNext_62 : decode cX7_toNext 62 = .ok (.getfield 19, 3) := by decide +kernel
theorem dX7_toNext_65 : decode cX7_toNext 65 = .ok (.aload_n 0, 1) := by decide +kernel
theorem dX7_toNext_66 : decode cX7_toNext 66 = .ok (.getfield 15, 3) := by decide +kernel
theorem dX7_toNext_69 : decode cX7_toNext 69 = .ok (.if_icmp .ge 18, 3) := by decide +kernel
theorem dX7_toNext_72 : decode cX7_toNext 72 = .ok (.aload_n 0, 1) := by decide +kernel
theorem dX7_toNext_73 : decode cX7_toNext 73 = .ok (.getfield 9, 3) := by decide +kernel
theorem dX7_toNext_76 : decode cX7_toNext 76 = .ok (.aload_n 0, 1) := by decide +kernel
theorem dX7_toNext_77 : decode cX7_toNext 77 = .ok (.getfield 19, 3) := by decide +kernel
theorem dX7_toNext_80 : decode cX7_toNext 80 = .ok (.baload, 1) := by decide +kernel
theorem dX7_toNext_81 : decode cX7_toNext 81 = .ok (.invokestatic 31, 3) := by decide +kernel
theorem dX7_toNext_84 : decode cX7_toNext 84 = .ok (.goto 4, 3) := by decide +kernel
theorem dX7_toNext_87 : decode cX7_toNext 87 = .ok (.iconst 0, 1) := by decide +kernel
theorem dX7_toNext_88 : decode cX7_toNext 88 = .ok (.putfield 25, 3) := by decide +kernel
theorem dX7_toNext_91 : decode cX7_toNext 91 = .ok (.aload_n 0, 1) := by decide +kernel
theorem dX7_toNext_92 : decode cX7_toNext 92 = .ok (.aload_n 0, 1) := by decide +kernel
theorem dX7_toNext_93 : decode cX7_toNext 93 = .ok (.getfield 19, 3) := by decide +kernel
theorem dX7_toNext_96 : decode cX7_toNext 96 = .ok (.aload_n 0, 1) := by decide +kernel
theorem dX7_toNext_97 : decode cX7_toNext 97 = .ok (.getfield 15, 3) := by decide +kernel
theorem dX7_toNext_100 : decode cX7_toNext 100 = .ok (.if_icmp .ge 12, 3) := by decide +kernel
theorem dX7_toNext_103 : decode cX7_toNext 103 = .ok (.aload_n 0, 1) := by decide +kernel
theorem dX7_toNext_104 : decode cX7_toNext 104 = .ok (.getfield 19, 3) := by decide +kernel
theorem dX7_toNext_107 : decode cX7_toNext 107 = .ok (.iconst 1, 1) := by decide +kernel
theorem dX7_toNext_108 : decode cX7_toNext 108 = .ok (.iadd, 1) := by decide +kernel
theorem dX7_toNext_109 : decode cX7_toNext 109 = .ok (.goto 7, 3) := by decide +kernel
theorem dX7_toNext_112 : decode cX7_toNext 112 = .ok (.aload_n 0, 1) := by decide +kernel
theorem dX7_toNext_113 : decode cX7_toNext 113 = .ok (.getfield 19, 3) := by decide +kernel
theorem dX7_toNext_116 : decode cX7_toNext 116 = .ok (.putfield 22, 3) := by decide +kernel
theorem dX7_toNext_119 : decode cX7_toNext 119 = .ok (.aload_n 0, 1) := by decide +kernel
theorem dX7_toNext_120 : decode cX7_toNext 120 = .ok (.getfield 22, 3) := by decide +kernel
theorem dX7_toNext_123 : decode cX7_toNext 123 = .ok (.aload_n 0, 1) := by decide +kernel
theorem dX7_toNext_124 : decode cX7_toNext 124 = .ok (.getfield 15, 3) := by decide +kernel
theorem dX7_toNext_127 : decode cX7_toNext 127 = .ok (.if_icmp .ge 51, 3) := by decide +kernel
theorem dX7_toNext_130 : decode cX7_toNext 130 = .ok (.aload_n 0, 1) := by decide +kernel
theorem dX7_toNext_131 : decode cX7_toNext 131 = .ok (.getfield 25, 3) := by decide +kernel
theorem dX7_toNext_134 : decode cX7_toNext 134 = .ok (.iconst 1, 1) := by decide +kernel
theorem dX7_toNext_135 : decode cX7_toNext 135 = .ok (.if_icmp .eq 11, 3) := by decide +kernel
theorem dX7_toNext_138 : decode cX7_toNext 138 = .ok (.aload_n 0, 1) := by decide +kernel
theorem dX7_toNext_139 : decode cX7_toNext 139 = .ok (.getfield 25, 3) := by decide +kernel
theorem dX7_toNext_142 : decode cX7_toNext 142 = .ok (.iconst 2, 1) := by decide +kernel
theorem dX7_toNext_143 : decode cX7_toNext 143 = .ok (.if_icmp .ne 35, 3) := by decide +kernel
theorem dX7_toNext_146 : decode cX7_toNext 146 = .ok (.aload_n 0, 1) := by decide +kernel
theorem dX7_toNext_147 : decode cX7_toNext 147 = .ok (.getfield 9, 3) := by decide +kernel
theorem dX7_toNext_150 : decode cX7_toNext 150 = .ok (.aload_n 0, 1) := by decide +kernel
theorem dX7_toNext_151 : decode cX7_toNext 151 = .ok (.getfield 22, 3) := by decide +kernel
theorem dX7_toNext_154 : decode cX7_toNext 154 = .ok (.baload, 1) := by decide +kernel
theorem dX7_toNext_155 : decode cX7_toNext 155 = .ok (.invokestatic 31, 3) := by decide +kernel
theorem dX7_toNext_158 : decode cX7_toNext 158 = .ok (.aload_n 0, 1) := by decide +kernel
theorem dX7_toNext_159 : decode cX7_toNext 159 = .ok (.getfield 25, 3) := by decide +kernel
theorem dX7_toNext_162 : decode cX7_toNext 162 = .ok (.if_icmp .ne 16, 3) := by decide +kernel
theorem dX7_toNext_165 : decode cX7_toNext 165 = .ok (.aload_n 0, 1) := by decide +kernel
theorem dX7_toNext_166 : decode cX7_toNext 166 = .ok (.dup, 1) := by decide +kernel
theorem dX7_toNext_167 : decode cX7_toNext 167 = .ok (.getfield 22, 3) := by decide +kernel
theorem dX7_toNext_170 : decode cX7_toNext 170 = .ok (.iconst 1, 1) := by decide +kernel
theorem dX7_toNext_171 : decode cX7_toNext 171 = .ok (.iadd, 1) := by decide +kernel
theorem dX7_toNext_172 : decode cX7_toNext 172 = .ok (.putfield 22, 3) := by decide +kernel
theorem dX7_toNext_175 : decode cX7_toNext 175 = .ok (.goto (-56), 3) := by decide +kernel
theorem dX7_toNext_178 : decode cX7_toNext 178 = .ok (.aload_n 0, 1) := by decide +kernel
theorem dX7_toNext_179 : decode cX7_toNext 179 = .ok (.getfield 25, 3) := by decide +kernel
theorem dX7_toNext_182 : decode cX7_toNext 182 = .ok (.iconst 2, 1) := by decide +kernel
theorem dX7_toNext_183 : decode cX7_toNext 183 = .ok (.if_icmp .ne 21, 3) := by decide +kernel
theorem dX7_toNext_186 : decode cX7_toNext 186 = .ok (.aload_n 0, 1) := by decide +kernel
theorem dX7_toNext_187 : decode cX7_toNext 187 = .ok (.getfield 22, 3) := by decide +kernel
theorem dX7_toNext_190 : decode cX7_toNext 190 = .ok (.aload_n 0, 1) := by decide +kernel
theorem dX7_toNext_191 : decode cX7_toNext 191 = .ok (.getfield 19, 3) := by decide +kernel
theorem dX7_toNext_194 : decode cX7_toNext 194 = .ok (.isub, 1) := by decide +kernel
theorem dX7_toNext_195 : decode cX7_toNext 195 = .ok (.iconst 2, 1) := by decide +kernel
theorem dX7_toNext_196 : decode cX7_toNext 196 = .ok (.if_icmp .le 8, 3) := by decide +kernel
theorem dX7_toNext_199 : decode cX7_toNext 199 = .ok (.aload_n 0, 1) := by decide +kernel
theorem dX7_toNext_200 : decode cX7_toNext 200 = .ok (.iconst 4, 1) := by decide +kernel
theorem dX7_toNext_201 : decode cX7_toNext 201 = .ok (.putfield 25, 3) := by decide +kernel
theorem dX7_toNext_204 : decode cX7_toNext 204 = .ok (.return_, 1) := by decide +kernel
theorem dX7_sortOf_0 : decode cX7_sortOf 0 = .ok (.iload_n 0, 1) := by decide +kernel
theorem dX7_sortOf_1 : decode cX7_sortOf 1 = .ok (.bipush 97, 2) := by decide +kernel
theorem dX7_sortOf_3 : decode cX7_sortOf 3 = .ok (.if_icmp .lt 11, 3) := by decide +kernel
theorem dX7_sortOf_6 : decode cX7_sortOf 6 = .ok (.iload_n 0, 1) := by decide +kernel
theorem dX7_sortOf_7 : decode cX7_sortOf 7 = .ok (.bipush 122, 2) := by decide +kernel
theorem dX7_sortOf_9 : decode cX7_sortOf 9 = .ok (.if_icmp .gt 5, 3) := by decide +kernel
theorem dX7_sortOf_12 : decode cX7_sortOf 12 = .ok (.iconst 1, 1) := by decide +kernel
theorem dX7_sortOf_13 : decode cX7_sortOf 13 = .ok (.ireturn, 1) := by decide +kernel
theorem dX7_sortOf_14 : decode cX7_sortOf 14 = .ok (.iload_n 0, 1) := by decide +kernel
theorem dX7_sortOf_15 : decode cX7_sortOf 15 = .ok (.bipush 48, 2) := by decide +kernel
theorem dX7_sortOf_17 : decode cX7_sortOf 17 = .ok (.if_icmp .lt 11, 3) := by decide +kernel
theorem dX7_sortOf_20 : decode cX7_sortOf 20 = .ok (.iload_n 0, 1) := by decide +kernel
theorem dX7_sortOf_21 : decode cX7_sortOf 21 = .ok (.bipush 57, 2) := by decide +kernel
theorem dX7_sortOf_23 : decode cX7_sortOf 23 = .ok (.if_icmp .gt 5, 3) := by decide +kernel
theorem dX7_sortOf_26 : decode cX7_sortOf 26 = .ok (.iconst 2, 1) := by decide +kernel
theorem dX7_sortOf_27 : decode cX7_sortOf 27 = .ok (.ireturn, 1) := by decide +kernel
theorem dX7_sortOf_28 : decode cX7_sortOf 28 = .ok (.iload_n 0, 1) := by decide +kernel
theorem dX7_sortOf_29 : decode cX7_sortOf 29 = .ok (.bipush 59, 2) := by decide +kernel
theorem dX7_sortOf_31 : decode cX7_sortOf 31 = .ok (.if_icmp .ne 7, 3) := by decide +kernel
theorem dX7_sortOf_34 : decode cX7_sortOf 34 = .ok (.iconst 3, 1) := by decide +kernel
theorem dX7_sortOf_35 : decode cX7_sortOf 35 = .ok (.goto 4, 3) := by decide +kernel
theorem dX7_sortOf_38 : decode cX7_sortOf 38 = .ok (.iconst 4, 1) := by decide +kernel
theorem dX7_sortOf_39 : decode cX7_sortOf 39 = .ok (.ireturn, 1) := by decide +kernel
theorem dX7_spells_0 : decode cX7_spells 0 = .ok (.aload_n 1, 1) := by decide +kernel
theorem dX7_spells_1 : decode cX7_spells 1 = .ok (.invokevirtual 35, 3) := by decide +kernel
theorem dX7_spells_4 : decode cX7_spells 4 = .ok (.aload_n 0, 1) := by decide +kernel
theorem dX7_spells_5 : decode cX7_spells 5 = .ok (.getfield 22, 3) := by decide +kernel
theorem dX7_spells_8 : decode cX7_spells 8 = .ok (.aload_n 0, 1) := by decide +kernel
theorem dX7_spells_9 : decode cX7_spells 9 = .ok (.getfield 19, 3) := by decide +kernel
theorem dX7_spells_12 : decode cX7_spells 12 = .ok (.isub, 1) := by decide +kernel
theorem dX7_spells_13 : decode cX7_spells 13 = .ok (.if_icmp .eq 5, 3) := by decide +kernel
theorem dX7_spells_16 : decode cX7_spells 16 = .ok (.iconst 0, 1) := by decide +kernel
theorem dX7_spells_17 : decode cX7_spells 17 = .ok (.ireturn, 1) := by decide +kernel
theorem dX7_spells_18 : decode cX7_spells 18 = .ok (.iconst 0, 1) := by decide +kernel
theorem dX7_spells_19 : decode cX7_spells 19 = .ok (.istore_n 2, 1) := by decide +kernel
theorem dX7_spells_20 : decode cX7_spells 20 = .ok (.iload_n 2, 1) := by decide +kernel
theorem dX7_spells_21 : decode cX7_spells 21 = .ok (.aload_n 1, 1) := by decide +kernel
theorem dX7_spells_22 : decode cX7_spells 22 = .ok (.invokevirtual 35, 3) := by decide +kernel
theorem dX7_spells_25 : decode cX7_spells 25 = .ok (.if_icmp .ge 30, 3) := by decide +kernel
theorem dX7_spells_28 : decode cX7_spells 28 = .ok (.aload_n 1, 1) := by decide +kernel
theorem dX7_spells_29 : decode cX7_spells 29 = .ok (.iload_n 2, 1) := by decide +kernel
theorem dX7_spells_30 : decode cX7_spells 30 = .ok (.invokevirtual 41, 3) := by decide +kernel
theorem dX7_spells_33 : decode cX7_spells 33 = .ok (.aload_n 0, 1) := by decide +kernel
theorem dX7_spells_34 : decode cX7_spells 34 = .ok (.getfield 9, 3) := by decide +kernel
theorem dX7_spells_37 : decode cX7_spells 37 = .ok (.aload_n 0, 1) := by decide +kernel
theorem dX7_spells_38 : decode cX7_spells 38 = .ok (.getfield 19, 3) := by decide +kernel
theorem dX7_spells_41 : decode cX7_spells 41 = .ok (.iload_n 2, 1) := by decide +kernel
theorem dX7_spells_42 : decode cX7_spells 42 = .ok (.iadd, 1) := by decide +kernel
theorem dX7_spells_43 : decode cX7_spells 43 = .ok (.baload, 1) := by decide +kernel
theorem dX7_spells_44 : decode cX7_spells 44 = .ok (.if_icmp .eq 5, 3) := by decide +kernel
theorem dX7_spells_47 : decode cX7_spells 47 = .ok (.iconst 0, 1) := by decide +kernel
theorem dX7_spells_48 : decode cX7_spells 48 = .ok (.ireturn, 1) := by decide +kernel
theorem dX7_spells_49 : decode cX7_spells 49 = .ok (.iinc 2 1, 3) := by decide +kernel
theorem dX7_spells_52 : decode cX7_spells 52 = .ok (.goto (-32), 3) := by decide +kernel
theorem dX7_spells_55 : decode cX7_spells 55 = .ok (.iconst 1, 1) := by decide +kernel
theorem dX7_spells_56 : decode cX7_spells 56 = .ok (.ireturn, 1) := by decide +kernel
theorem dX7_spelling_0 : decode cX7_spelling 0 = .ok (.iload_n 0, 1) := by decide +kernel
theorem dX7_spelling_1 : decode cX7_spelling 1 = .ok (.tableswitch 106 0 12 #[67, 70, 73, 76, 79, 82, 85, 88, 91, 94, 97, 100, 103], 67) := by decide +kernel
theorem dX7_spelling_68 : decode cX7_spelling 68 = .ok (.ldc 45, 2) := by decide +kernel
theorem dX7_spelling_70 : decode cX7_spelling 70 = .ok (.areturn, 1) := by decide +kernel
theorem dX7_spelling_71 : decode cX7_spelling 71 = .ok (.ldc 47, 2) := by decide +kernel
theorem dX7_spelling_73 : decode cX7_spelling 73 = .ok (.areturn, 1) := by decide +kernel
theorem dX7_spelling_74 : decode cX7_spelling 74 = .ok (.ldc 49, 2) := by decide +kernel
theorem dX7_spelling_76 : decode cX7_spelling 76 = .ok (.areturn, 1) := by decide +kernel
theorem dX7_spelling_77 : decode cX7_spelling 77 = .ok (.ldc 51, 2) := by decide +kernel
theorem dX7_spelling_79 : decode cX7_spelling 79 = .ok (.areturn, 1) := by decide +kernel
theorem dX7_spelling_80 : decode cX7_spelling 80 = .ok (.ldc 53, 2) := by decide +kernel
theorem dX7_spelling_82 : decode cX7_spelling 82 = .ok (.areturn, 1) := by decide +kernel
theorem dX7_spelling_83 : decode cX7_spelling 83 = .ok (.ldc 55, 2) := by decide +kernel
theorem dX7_spelling_85 : decode cX7_spelling 85 = .ok (.areturn, 1) := by decide +kernel
theorem dX7_spelling_86 : decode cX7_spelling 86 = .ok (.ldc 57, 2) := by decide +kernel
theorem dX7_spelling_88 : decode cX7_spelling 88 = .ok (.areturn, 1) := by decide +kernel
theorem dX7_spelling_89 : decode cX7_spelling 89 = .ok (.ldc 59, 2) := by decide +kernel
theorem dX7_spelling_91 : decode cX7_spelling 91 = .ok (.areturn, 1) := by decide +kernel
theorem dX7_spelling_92 : decode cX7_spelling 92 = .ok (.ldc 61, 2) := by decide +kernel
theorem dX7_spelling_94 : decode cX7_spelling 94 = .ok (.areturn, 1) := by decide +kernel
theorem dX7_spelling_95 : decode cX7_spelling 95 = .ok (.ldc 63, 2) := by decide +kernel
theorem dX7_spelling_97 : decode cX7_spelling 97 = .ok (.areturn, 1) := by decide +kernel
theorem dX7_spelling_98 : decode cX7_spelling 98 = .ok (.ldc 65, 2) := by decide +kernel
theorem dX7_spelling_100 : decode cX7_spelling 100 = .ok (.areturn, 1) := by decide +kernel
theorem dX7_spelling_101 : decode cX7_spelling 101 = .ok (.ldc 67, 2) := by decide +kernel
theorem dX7_spelling_103 : decode cX7_spelling 103 = .ok (.areturn, 1) := by decide +kernel
theorem dX7_spelling_104 : decode cX7_spelling 104 = .ok (.ldc 69, 2) := by decide +kernel
theorem dX7_spelling_106 : decode cX7_spelling 106 = .ok (.areturn, 1) := by decide +kernel
theorem dX7_spelling_107 : decode cX7_spelling 107 = .ok (.ldc 71, 2) := by decide +kernel
theorem dX7_spelling_109 : decode cX7_spelling 109 = .ok (.areturn, 1) := by decide +kernel
theorem dX7_atEnd_0 : decode cX7_atEnd 0 = .ok (.aload_n 0, 1) := by decide +kernel
theorem dX7_atEnd_1 : decode cX7_atEnd 1 = .ok (.getfield 25, 3) := by decide +kernel
theorem dX7_atEnd_4 : decode cX7_atEnd 4 = .ok (.ifCond .ne 7, 3) := by decide +kernel
theorem dX7_atEnd_7 : decode cX7_atEnd 7 = .ok (.iconst 1, 1) := by decide +kernel
theorem dX7_atEnd_8 : decode cX7_atEnd 8 = .ok (.goto 4, 3) := by decide +kernel
theorem dX7_atEnd_11 : decode cX7_atEnd 11 = .ok (.iconst 0, 1) := by decide +kernel
theorem dX7_atEnd_12 : decode cX7_atEnd 12 = .ok (.ireturn, 1) := by decide +kernel
theorem dX7_atWord_0 : decode cX7_atWord 0 = .ok (.aload_n 0, 1) := by decide +kernel
theorem dX7_atWord_1 : decode cX7_atWord 1 = .ok (.getfield 25, 3) := by decide +kernel
theorem dX7_atWord_4 : decode cX7_atWord 4 = .ok (.iconst 1, 1) := by decide +kernel
theorem dX7_atWord_5 : decode cX7_atWord 5 = .ok (.if_icmp .ne 18, 3) := by decide +kernel
theorem dX7_atWord_8 : decode cX7_atWord 8 = .ok (.aload_n 0, 1) := by decide +kernel
theorem dX7_atWord_9 : decode cX7_atWord 9 = .ok (.iload_n 1, 1) := by decide +kernel
theorem dX7_atWord_10 : decode cX7_atWord 10 = .ok (.invokestatic 73, 3) := by decide +kernel
theorem dX7_atWord_13 : decode cX7_atWord 13 = .ok (.invokevirtual 77, 3) := by decide +kernel
theorem dX7_atWord_16 : decode cX7_atWord 16 = .ok (.ifCond .eq 7, 3) := by decide +kernel
theorem dX7_atWord_19 : decode cX7_atWord 19 = .ok (.iconst 1, 1) := by decide +kernel
theorem dX7_atWord_20 : decode cX7_atWord 20 = .ok (.goto 4, 3) := by decide +kernel
theorem dX7_atWord_23 : decode cX7_atWord 23 = .ok (.iconst 0, 1) := by decide +kernel
theorem dX7_atWord_24 : decode cX7_atWord 24 = .ok (.ireturn, 1) := by decide +kernel
theorem dX7_actHere_0 : decode cX7_actHere 0 = .ok (.iconst 0, 1) := by decide +kernel
theorem dX7_actHere_1 : decode cX7_actHere 1 = .ok (.istore_n 1, 1) := by decide +kernel
theorem dX7_actHere_2 : decode cX7_actHere 2 = .ok (.iload_n 1, 1) := by decide +kernel
theorem dX7_actHere_3 : decode cX7_actHere 3 = .ok (.bipush 9, 2) := by decide +kernel
theorem dX7_actHere_5 : decode cX7_actHere 5 = .ok (.if_icmp .gt 19, 3) := by decide +kernel
theorem dX7_actHere_8 : decode cX7_actHere 8 = .ok (.aload_n 0, 1) := by decide +kernel
theorem dX7_actHere_9 : decode cX7_actHere 9 = .ok (.iload_n 1, 1) := by decide +kernel
theorem dX7_actHere_10 : decode cX7_actHere 10 = .ok (.invokevirtual 81, 3) := by decide +kernel
theorem dX7_actHere_13 : decode cX7_actHere 13 = .ok (.ifCond .eq 5, 3) := by decide +kernel
theorem dX7_actHere_16 : decode cX7_actHere 16 = .ok (.iload_n 1, 1) := by decide +kernel
theorem dX7_actHere_17 : decode cX7_actHere 17 = .ok (.ireturn, 1) := by decide +kernel
theorem dX7_actHere_18 : decode cX7_actHere 18 = .ok (.iinc 1 1, 3) := by decide +kernel
theorem dX7_actHere_21 : decode cX7_actHere 21 = .ok (.goto (-19), 3) := by decide +kernel
theorem dX7_actHere_24 : decode cX7_actHere 24 = .ok (.iconst (-1), 1) := by decide +kernel
theorem dX7_actHere_25 : decode cX7_actHere 25 = .ok (.ireturn, 1) := by decide +kernel
theorem dX7_atNumber_0 : decode cX7_atNumber 0 = .ok (.aload_n 0, 1) := by decide +kernel
theorem dX7_atNumber_1 : decode cX7_atNumber 1 = .ok (.getfield 25, 3) := by decide +kernel
theorem dX7_atNumber_4 : decode cX7_atNumber 4 = .ok (.iconst 2, 1) := by decide +kernel
theorem dX7_atNumber_5 : decode cX7_atNumber 5 = .ok (.if_icmp .ne 7, 3) := by decide +kernel
theorem dX7_atNumber_8 : decode cX7_atNumber 8 = .ok (.iconst 1, 1) := by decide +kernel
theorem dX7_atNumber_9 : decode cX7_atNumber 9 = .ok (.goto 4, 3) := by decide +kernel
theorem dX7_atNumber_12 : decode cX7_atNumber 12 = .ok (.iconst 0, 1) := by decide +kernel
theorem dX7_atNumber_13 : decode cX7_atNumber 13 = .ok (.ireturn, 1) := by decide +kernel
theorem dX7_numberHere_0 : decode cX7_numberHere 0 = .ok (.iconst 0, 1) := by decide +kernel
theorem dX7_numberHere_1 : decode cX7_numberHere 1 = .ok (.istore_n 1, 1) := by decide +kernel
theorem dX7_numberHere_2 : decode cX7_numberHere 2 = .ok (.aload_n 0, 1) := by decide +kernel
theorem dX7_numberHere_3 : decode cX7_numberHere 3 = .ok (.getfield 19, 3) := by decide +kernel
theorem dX7_numberHere_6 : decode cX7_numberHere 6 = .ok (.istore_n 2, 1) := by decide +kernel
theorem dX7_numberHere_7 : decode cX7_numberHere 7 = .ok (.iload_n 2, 1) := by decide +kernel
theorem dX7_numberHere_8 : decode cX7_numberHere 8 = .ok (.aload_n 0, 1) := by decide +kernel
theorem dX7_numberHere_9 : decode cX7_numberHere 9 = .ok (.getfield 22, 3) := by decide +kernel
theorem dX7_numberHere_12 : decode cX7_numberHere 12 = .ok (.if_icmp .ge 32, 3) := by decide +kernel
theorem dX7_numberHere_15 : decode cX7_numberHere 15 = .ok (.aload_n 0, 1) := by decide +kernel
theorem dX7_numberHere_16 : decode cX7_numberHere 16 = .ok (.getfield 25, 3) := by decide +kernel
theorem dX7_numberHere_19 : decode cX7_numberHere 19 = .ok (.iconst 2, 1) := by decide +kernel
theorem dX7_numberHere_20 : decode cX7_numberHere 20 = .ok (.if_icmp .ne 24, 3) := by decide +kernel
theorem dX7_numberHere_23 : decode cX7_numberHere 23 = .ok (.iload_n 1, 1) := by decide +kernel
theorem dX7_numberHere_24 : decode cX7_numberHere 24 = .ok (.bipush 10, 2) := by decide +kernel
theorem dX7_numberHere_26 : decode cX7_numberHere 26 = .ok (.imul, 1) := by decide +kernel
theorem dX7_numberHere_27 : decode cX7_numberHere 27 = .ok (.aload_n 0, 1) := by decide +kernel
theorem dX7_numberHere_28 : decode cX7_numberHere 28 = .ok (.getfield 9, 3) := by decide +kernel
theorem dX7_numberHere_31 : decode cX7_numberHere 31 = .ok (.iload_n 2, 1) := by decide +kernel
theorem dX7_numberHere_32 : decode cX7_numberHere 32 = .ok (.baload, 1) := by decide +kernel
theorem dX7_numberHere_33 : decode cX7_numberHere 33 = .ok (.iadd, 1) := by decide +kernel
theorem dX7_numberHere_34 : decode cX7_numberHere 34 = .ok (.bipush 48, 2) := by decide +kernel
theorem dX7_numberHere_36 : decode cX7_numberHere 36 = .ok (.isub, 1) := by decide +kernel
theorem dX7_numberHere_37 : decode cX7_numberHere 37 = .ok (.istore_n 1, 1) := by decide +kernel
theorem dX7_numberHere_38 : decode cX7_numberHere 38 = .ok (.iinc 2 1, 3) := by decide +kernel
theorem dX7_numberHere_41 : decode cX7_numberHere 41 = .ok (.goto (-34), 3) := by decide +kernel
theorem dX7_numberHere_44 : decode cX7_numberHere 44 = .ok (.iload_n 1, 1) := by decide +kernel
theorem dX7_numberHere_45 : decode cX7_numberHere 45 = .ok (.ireturn, 1) := by decide +kernel
theorem dX7_atSign_0 : decode cX7_atSign 0 = .ok (.aload_n 0, 1) := by decide +kernel
theorem dX7_atSign_1 : decode cX7_atSign 1 = .ok (.getfield 25, 3) := by decide +kernel
theorem dX7_atSign_4 : decode cX7_atSign 4 = .ok (.iconst 3, 1) := by decide +kernel
theorem dX7_atSign_5 : decode cX7_atSign 5 = .ok (.if_icmp .ne 7, 3) := by decide +kernel
theorem dX7_atSign_8 : decode cX7_atSign 8 = .ok (.iconst 1, 1) := by decide +kernel
theorem dX7_atSign_9 : decode cX7_atSign 9 = .ok (.goto 4, 3) := by decide +kernel
theorem dX7_atSign_12 : decode cX7_atSign 12 = .ok (.iconst 0, 1) := by decide +kernel
theorem dX7_atSign_13 : decode cX7_atSign 13 = .ok (.ireturn, 1) := by decide +kernel
theorem dX8_init_0 : decode cX8_init 0 = .ok (.aload_n 0, 1) := by decide +kernel
theorem dX8_init_1 : decode cX8_init 1 = .ok (.invokespecial 1, 3) := by decide +kernel
theorem dX8_init_4 : decode cX8_init 4 = .ok (.aload_n 0, 1) := by decide +kernel
theorem dX8_init_5 : decode cX8_init 5 = .ok (.new 7, 3) := by decide +kernel
theorem dX8_init_8 : decode cX8_init 8 = .ok (.dup, 1) := by decide +kernel
theorem dX8_init_9 : decode cX8_init 9 = .ok (.invokespecial 9, 3) := by decide +kernel
theorem dX8_init_12 : decode cX8_init 12 = .ok (.putfield 10, 3) := by decide +kernel
theorem dX8_init_15 : decode cX8_init 15 = .ok (.aload_n 0, 1) := by decide +kernel
theorem dX8_init_16 : decode cX8_init 16 = .ok (.new 16, 3) := by decide +kernel
theorem dX8_init_19 : decode cX8_init 19 = .ok (.dup, 1) := by decide +kernel
theorem dX8_init_20 : decode cX8_init 20 = .ok (.invokespecial 18, 3) := by decide +kernel
theorem dX8_init_23 : decode cX8_init 23 = .ok (.putfield 19, 3) := by decide +kernel
theorem dX8_init_26 : decode cX8_init 26 = .ok (.aload_n 0, 1) := by decide +kernel
theorem dX8_init_27 : decode cX8_init 27 = .ok (.new 23, 3) := by decide +kernel
theorem dX8_init_30 : decode cX8_init 30 = .ok (.dup, 1) := by decide +kernel
theorem dX8_init_31 : decode cX8_init 31 = .ok (.aload_n 0, 1) := by decide +kernel
theorem dX8_init_32 : decode cX8_init 32 = .ok (.getfield 19, 3) := by decide +kernel
theorem dX8_init_35 : decode cX8_init 35 = .ok (.invokespecial 25, 3) := by decide +kernel
theorem dX8_init_38 : decode cX8_init 38 = .ok (.putfield 28, 3) := by decide +kernel
theorem dX8_init_41 : decode cX8_init 41 = .ok (.aload_n 0, 1) := by decide +kernel
theorem dX8_init_42 : decode cX8_init 42 = .ok (.bipush 12, 2) := by decide +kernel
theorem dX8_init_44 : decode cX8_init 44 = .ok (.newarray .int, 2) := by decide +kernel
theorem dX8_init_46 : decode cX8_init 46 = .ok (.putfield 32, 3) := by decide +kernel
theorem dX8_init_49 : decode cX8_init 49 = .ok (.aload_n 0, 1) := by decide +kernel
theorem dX8_init_50 : decode cX8_init 50 = .ok (.bipush 6, 2) := by decide +kernel
theorem dX8_init_52 : decode cX8_init 52 = .ok (.newarray .int, 2) := by decide +kernel
theorem dX8_init_54 : decode cX8_init 54 = .ok (.putfield 36, 3) := by decide +kernel
theorem dX8_init_57 : decode cX8_init 57 = .ok (.aload_n 0, 1) := by decide +kernel
theorem dX8_init_58 : decode cX8_init 58 = .ok (.bipush 12, 2) := by decide +kernel
theorem dX8_init_60 : decode cX8_init 60 = .ok (.newarray .int, 2) := by decide +kernel
theorem dX8_init_62 : decode cX8_init 62 = .ok (.putfield 39, 3) := by decide +kernel
theorem dX8_init_65 : decode cX8_init 65 = .ok (.aload_n 0, 1) := by decide +kernel
theorem dX8_init_66 : decode cX8_init 66 = .ok (.new 42, 3) := by decide +kernel
theorem dX8_init_69 : decode cX8_init 69 = .ok (.dup, 1) := by decide +kernel
theorem dX8_init_70 : decode cX8_init 70 = .ok (.invokespecial 44, 3) := by decide +kernel
theorem dX8_init_73 : decode cX8_init 73 = .ok (.putfield 45, 3) := by decide +kernel
theorem dX8_init_76 : decode cX8_init 76 = .ok (.aload_n 0, 1) := by decide +kernel
theorem dX8_init_77 : decode cX8_init 77 = .ok (.new 42, 3) := by decide +kernel
theorem dX8_init_80 : decode cX8_init 80 = .ok (.dup, 1) := by decide +kernel
theorem dX8_init_81 : decode cX8_init 81 = .ok (.invokespecial 44, 3) := by decide +kernel
theorem dX8_init_84 : decode cX8_init 84 = .ok (.putfield 49, 3) := by decide +kernel
theorem dX8_init_87 : decode cX8_init 87 = .ok (.aload_n 0, 1) := by decide +kernel
theorem dX8_init_88 : decode cX8_init 88 = .ok (.new 52, 3) := by decide +kernel
theorem dX8_init_91 : decode cX8_init 91 = .ok (.dup, 1) := by decide +kernel
theorem dX8_init_92 : decode cX8_init 92 = .ok (.invokespecial 54, 3) := by decide +kernel
theorem dX8_init_95 : decode cX8_init 95 = .ok (.putfield 55, 3) := by decide +kernel
theorem dX8_init_98 : decode cX8_init 98 = .ok (.aload_n 0, 1) := by decide +kernel
theorem dX8_init_99 : decode cX8_init 99 = .ok (.new 59, 3) := by decide +kernel
theorem dX8_init_102 : decode cX8_init 102 = .ok (.dup, 1) := by decide +kernel
theorem dX8_init_103 : decode cX8_init 103 = .ok (.invokespecial 61, 3) := by decide +kernel
theorem dX8_init_106 : decode cX8_init 106 = .ok (.putfield 62, 3) := by decide +kernel
theorem dX8_init_109 : decode cX8_init 109 = .ok (.aload_n 0, 1) := by decide +kernel
theorem dX8_init_110 : decode cX8_init 110 = .ok (.new 66, 3) := by decide +kernel
theorem dX8_init_113 : decode cX8_init 113 = .ok (.dup, 1) := by decide +kernel
theorem dX8_init_114 : decode cX8_init 114 = .ok (.invokespecial 68, 3) := by decide +kernel
theorem dX8_init_117 : decode cX8_init 117 = .ok (.putfield 69, 3) := by decide +kernel
theorem dX8_init_120 : decode cX8_init 120 = .ok (.aload_n 0, 1) := by decide +kernel
theorem dX8_init_121 : decode cX8_init 121 = .ok (.new 73, 3) := by decide +kernel
theorem dX8_init_124 : decode cX8_init 124 = .ok (.dup, 1) := by decide +kernel
theorem dX8_init_125 : decode cX8_init 125 = .ok (.invokespecial 75, 3) := by decide +kernel
theorem dX8_init_128 : decode cX8_init 128 = .ok (.putfield 76, 3) := by decide +kernel
theorem dX8_init_131 : decode cX8_init 131 = .ok (.aload_n 0, 1) := by decide +kernel
theorem dX8_init_132 : decode cX8_init 132 = .ok (.new 73, 3) := by decide +kernel
theorem dX8_init_135 : decode cX8_init 135 = .ok (.dup, 1) := by decide +kernel
theorem dX8_init_136 : decode cX8_init 136 = .ok (.invokespecial 75, 3) := by decide +kernel
theorem dX8_init_139 : decode cX8_init 139 = .ok (.putfield 80, 3) := by decide +kernel
theorem dX8_init_142 : decode cX8_init 142 = .ok (.aload_n 0, 1) := by decide +kernel
theorem dX8_init_143 : decode cX8_init 143 = .ok (.iconst 0, 1) := by decide +kernel
theorem dX8_init_144 : decode cX8_init 144 = .ok (.putfield 83, 3) := by decide +kernel
theorem dX8_init_147 : decode cX8_init 147 = .ok (.aload_n 0, 1) := by decide +kernel
theorem dX8_init_148 : decode cX8_init 148 = .ok (.iconst 0, 1) := by decide +kernel
theorem dX8_init_149 : decode cX8_init 149 = .ok (.putfield 87, 3) := by decide +kernel
theorem dX8_init_152 : decode cX8_init 152 = .ok (.aload_n 0, 1) := by decide +kernel
theorem dX8_init_153 : decode cX8_init 153 = .ok (.iconst 0, 1) := by decide +kernel
theorem dX8_init_154 : decode cX8_init 154 = .ok (.putfield 91, 3) := by decide +kernel
theorem dX8_init_157 : decode cX8_init 157 = .ok (.return_, 1) := by decide +kernel
theorem dX8_sheet_0 : decode cX8_sheet 0 = .ok (.aload_n 0, 1) := by decide +kernel
theorem dX8_sheet_1 : decode cX8_sheet 1 = .ok (.getfield 10, 3) := by decide +kernel
theorem dX8_sheet_4 : decode cX8_sheet 4 = .ok (.iload_n 1, 1) := by decide +kernel
theorem dX8_sheet_5 : decode cX8_sheet 5 = .ok (.invokevirtual 94, 3) := by decide +kernel
theorem dX8_sheet_8 : decode cX8_sheet 8 = .ok (.ifCond .eq 18, 3) := by decide +kernel
theorem dX8_sheet_11 : decode cX8_sheet 11 = .ok (.iload_n 2, 1) := by decide +kernel
theorem dX8_sheet_12 : decode cX8_sheet 12 = .ok (.ifCond .lt 14, 3) := by decide +kernel
theorem dX8_sheet_15 : decode cX8_sheet 15 = .ok (.iload_n 2, 1) := by decide +kernel
theorem dX8_sheet_16 : decode cX8_sheet 16 = .ok (.iconst 3, 1) := by decide +kernel
theorem dX8_sheet_17 : decode cX8_sheet 17 = .ok (.if_icmp .ge 9, 3) := by decide +kernel
theorem dX8_sheet_20 : decode cX8_sheet 20 = .ok (.iload_n 3, 1) := by decide +kernel
theorem dX8_sheet_21 : decode cX8_sheet 21 = .ok (.bipush 40, 2) := by decide +kernel
theorem dX8_sheet_23 : decode cX8_sheet 23 = .ok (.if_icmp .le 6, 3) := by decide +kernel
theorem dX8_sheet_26 : decode cX8_sheet 26 = .ok (.ldc 98, 2) := by decide +kernel
theorem dX8_sheet_28 : decode cX8_sheet 28 = .ok (.ireturn, 1) := by decide +kernel
theorem dX8_sheet_29 : decode cX8_sheet 29 = .ok (.iload_n 3, 1) := by decide +kernel
theorem dX8_sheet_30 : decode cX8_sheet 30 = .ok (.ifCond .ge 9, 3) := by decide +kernel
theorem dX8_sheet_33 : decode cX8_sheet 33 = .ok (.aload_n 0, 1) := by decide +kernel
theorem dX8_sheet_34 : decode cX8_sheet 34 = .ok (.iconst 4, 1) := by decide +kernel
theorem dX8_sheet_35 : decode cX8_sheet 35 = .ok (.invokevirtual 99, 3) := by decide +kernel
theorem dX8_sheet_38 : decode cX8_sheet 38 = .ok (.ireturn, 1) := by decide +kernel
theorem dX8_sheet_39 : decode cX8_sheet 39 = .ok (.aload_n 0, 1) := by decide +kernel
theorem dX8_sheet_40 : decode cX8_sheet 40 = .ok (.getfield 10, 3) := by decide +kernel
theorem dX8_sheet_43 : decode cX8_sheet 43 = .ok (.iload_n 1, 1) := by decide +kernel
theorem dX8_sheet_44 : decode cX8_sheet 44 = .ok (.iload_n 2, 1) := by decide +kernel
theorem dX8_sheet_45 : decode cX8_sheet 45 = .ok (.iload_n 3, 1) := by decide +kernel
theorem dX8_sheet_46 : decode cX8_sheet 46 = .ok (.invokevirtual 103, 3) := by decide +kernel
theorem dX8_sheet_49 : decode cX8_sheet 49 = .ok (.aload_n 0, 1) := by decide +kernel
theorem dX8_sheet_50 : decode cX8_sheet 50 = .ok (.iload_n 3, 1) := by decide +kernel
theorem dX8_sheet_51 : decode cX8_sheet 51 = .ok (.invokevirtual 107, 3) := by decide +kernel
theorem dX8_sheet_54 : decode cX8_sheet 54 = .ok (.ireturn, 1) := by decide +kernel
theorem dX8_set_0 : decode cX8_set 0 = .ok (.aload_n 0, 1) := by decide +kernel
theorem dX8_set_1 : decode cX8_set 1 = .ok (.getfield 10, 3) := by decide +kernel
theorem dX8_set_4 : decode cX8_set 4 = .ok (.iload_n 1, 1) := by decide +kernel
theorem dX8_set_5 : decode cX8_set 5 = .ok (.invokevirtual 94, 3) := by decide +kernel
theorem dX8_set_8 : decode cX8_set 8 = .ok (.ifCond .ne 6, 3) := by decide +kernel
theorem dX8_set_11 : decode cX8_set 11 = .ok (.ldc 98, 2) := by decide +kernel
theorem dX8_set_13 : decode cX8_set 13 = .ok (.ireturn, 1) := by decide +kernel
theorem dX8_set_14 : decode cX8_set 14 = .ok (.aload_n 0, 1) := by decide +kernel
theorem dX8_set_15 : decode cX8_set 15 = .ok (.getfield 10, 3) := by decide +kernel
theorem dX8_set_18 : decode cX8_set 18 = .ok (.iload_n 1, 1) := by decide +kernel
theorem dX8_set_19 : decode cX8_set 19 = .ok (.iload_n 2, 1) := by decide +kernel
theorem dX8_set_20 : decode cX8_set 20 = .ok (.iconst 1, 1) := by decide +kernel
theorem dX8_set_21 : decode cX8_set 21 = .ok (.invokevirtual 110, 3) := by decide +kernel
theorem dX8_set_24 : decode cX8_set 24 = .ok (.istore 4, 2) := by decide +kernel
theorem dX8_set_26 : decode cX8_set 26 = .ok (.iload 4, 2) := by decide +kernel
theorem dX8_set_28 : decode cX8_set 28 = .ok (.ifCond .eq 10, 3) := by decide +kernel
theorem dX8_set_31 : decode cX8_set 31 = .ok (.aload_n 0, 1) := by decide +kernel
theorem dX8_set_32 : decode cX8_set 32 = .ok (.iload 4, 2) := by decide +kernel
theorem dX8_set_34 : decode cX8_set 34 = .ok (.invokevirtual 99, 3) := by decide +kernel
theorem dX8_set_37 : decode cX8_set 37 = .ok (.ireturn, 1) := by decide +kernel
theorem dX8_set_38 : decode cX8_set 38 = .ok (.aload_n 0, 1) := by decide +kernel
theorem dX8_set_39 : decode cX8_set 39 = .ok (.aload_n 0, 1) := by decide +kernel
theorem dX8_set_40 : decode cX8_set 40 = .ok (.getfield 10, 3) := by decide +kernel
theorem dX8_set_43 : decode cX8_set 43 = .ok (.iload_n 1, 1) := by decide +kernel
theorem dX8_set_44 : decode cX8_set 44 = .ok (.iload_n 2, 1) := by decide +kernel
theorem dX8_set_45 : decode cX8_set 45 = .ok (.iload_n 3, 1) := by decide +kernel
theorem dX8_set_46 : decode cX8_set 46 = .ok (.invokevirtual 114, 3) := by decide +kernel
theorem dX8_set_49 : decode cX8_set 49 = .ok (.invokevirtual 107, 3) := by decide +kernel
theorem dX8_set_52 : decode cX8_set 52 = .ok (.ireturn, 1) := by decide +kernel
theorem dX8_copy_0 : decode cX8_copy 0 = .ok (.aload_n 0, 1) := by decide +kernel
theorem dX8_copy_1 : decode cX8_copy 1 = .ok (.getfield 10, 3) := by decide +kernel
