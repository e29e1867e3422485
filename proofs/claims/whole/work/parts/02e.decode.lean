theorem dX8_copy_4 : decode cX8_copy 4 = .ok (.iload_n 1, 1) := by decide +kernel
theorem dX8_copy_5 : decode cX8_copy 5 = .ok (.invokevirtual 94, 3) := by decide +kernel
theorem dX8_copy_8 : decode cX8_copy 8 = .ok (.ifCond .eq 14, 3) := by decide +kernel
theorem dX8_copy_11 : decode cX8_copy 11 = .ok (.aload_n 0, 1) := by decide +kernel
theorem dX8_copy_12 : decode cX8_copy 12 = .ok (.getfield 10, 3) := by decide +kernel
theorem dX8_copy_15 : decode cX8_copy 15 = .ok (.iload_n 3, 1) := by decide +kernel
theorem dX8_copy_16 : decode cX8_copy 16 = .ok (.invokevirtual 94, 3) := by decide +kernel
theorem dX8_copy_19 : decode cX8_copy 19 = .ok (.ifCond .ne 6, 3) := by decide +kernel
theorem dX8_copy_22 : decode cX8_copy 22 = .ok (.ldc 98, 2) := by decide +kernel
theorem dX8_copy_24 : decode cX8_copy 24 = .ok (.ireturn, 1) := by decide +kernel
theorem dX8_copy_25 : decode cX8_copy 25 = .ok (.aload_n 0, 1) := by decide +kernel
theorem dX8_copy_26 : decode cX8_copy 26 = .ok (.getfield 10, 3) := by decide +kernel
theorem dX8_copy_29 : decode cX8_copy 29 = .ok (.iload_n 1, 1) := by decide +kernel
theorem dX8_copy_30 : decode cX8_copy 30 = .ok (.iload_n 3, 1) := by decide +kernel
theorem dX8_copy_31 : decode cX8_copy 31 = .ok (.invokevirtual 117, 3) := by decide +kernel
theorem dX8_copy_34 : decode cX8_copy 34 = .ok (.istore 6, 2) := by decide +kernel
theorem dX8_copy_36 : decode cX8_copy 36 = .ok (.iload 6, 2) := by decide +kernel
theorem dX8_copy_38 : decode cX8_copy 38 = .ok (.ifCond .ne 16, 3) := by decide +kernel
theorem dX8_copy_41 : decode cX8_copy 41 = .ok (.aload_n 0, 1) := by decide +kernel
theorem dX8_copy_42 : decode cX8_copy 42 = .ok (.getfield 10, 3) := by decide +kernel
theorem dX8_copy_45 : decode cX8_copy 45 = .ok (.iload_n 1, 1) := by decide +kernel
theorem dX8_copy_46 : decode cX8_copy 46 = .ok (.iload_n 2, 1) := by decide +kernel
theorem dX8_copy_47 : decode cX8_copy 47 = .ok (.iload 5, 2) := by decide +kernel
theorem dX8_copy_49 : decode cX8_copy 49 = .ok (.invokevirtual 110, 3) := by decide +kernel
theorem dX8_copy_52 : decode cX8_copy 52 = .ok (.istore 6, 2) := by decide +kernel
theorem dX8_copy_54 : decode cX8_copy 54 = .ok (.iload 6, 2) := by decide +kernel
theorem dX8_copy_56 : decode cX8_copy 56 = .ok (.ifCond .ne 17, 3) := by decide +kernel
theorem dX8_copy_59 : decode cX8_copy 59 = .ok (.aload_n 0, 1) := by decide +kernel
theorem dX8_copy_60 : decode cX8_copy 60 = .ok (.getfield 10, 3) := by decide +kernel
theorem dX8_copy_63 : decode cX8_copy 63 = .ok (.iload_n 3, 1) := by decide +kernel
theorem dX8_copy_64 : decode cX8_copy 64 = .ok (.iload 4, 2) := by decide +kernel
theorem dX8_copy_66 : decode cX8_copy 66 = .ok (.iload 5, 2) := by decide +kernel
theorem dX8_copy_68 : decode cX8_copy 68 = .ok (.invokevirtual 110, 3) := by decide +kernel
theorem dX8_copy_71 : decode cX8_copy 71 = .ok (.istore 6, 2) := by decide +kernel
theorem dX8_copy_73 : decode cX8_copy 73 = .ok (.iload 6, 2) := by decide +kernel
theorem dX8_copy_75 : decode cX8_copy 75 = .ok (.ifCond .eq 10, 3) := by decide +kernel
theorem dX8_copy_78 : decode cX8_copy 78 = .ok (.aload_n 0, 1) := by decide +kernel
theorem dX8_copy_79 : decode cX8_copy 79 = .ok (.iload 6, 2) := by decide +kernel
theorem dX8_copy_81 : decode cX8_copy 81 = .ok (.invokevirtual 99, 3) := by decide +kernel
theorem dX8_copy_84 : decode cX8_copy 84 = .ok (.ireturn, 1) := by decide +kernel
theorem dX8_copy_85 : decode cX8_copy 85 = .ok (.aload_n 0, 1) := by decide +kernel
theorem dX8_copy_86 : decode cX8_copy 86 = .ok (.getfield 10, 3) := by decide +kernel
theorem dX8_copy_89 : decode cX8_copy 89 = .ok (.iload_n 1, 1) := by decide +kernel
theorem dX8_copy_90 : decode cX8_copy 90 = .ok (.iload_n 2, 1) := by decide +kernel
theorem dX8_copy_91 : decode cX8_copy 91 = .ok (.iload_n 3, 1) := by decide +kernel
theorem dX8_copy_92 : decode cX8_copy 92 = .ok (.iload 4, 2) := by decide +kernel
theorem dX8_copy_94 : decode cX8_copy 94 = .ok (.iload 5, 2) := by decide +kernel
theorem dX8_copy_96 : decode cX8_copy 96 = .ok (.invokevirtual 121, 3) := by decide +kernel
theorem dX8_copy_99 : decode cX8_copy 99 = .ok (.aload_n 0, 1) := by decide +kernel
theorem dX8_copy_100 : decode cX8_copy 100 = .ok (.iload 5, 2) := by decide +kernel
theorem dX8_copy_102 : decode cX8_copy 102 = .ok (.invokevirtual 107, 3) := by decide +kernel
theorem dX8_copy_105 : decode cX8_copy 105 = .ok (.ireturn, 1) := by decide +kernel
theorem dX8_drop_0 : decode cX8_drop 0 = .ok (.aload_n 0, 1) := by decide +kernel
theorem dX8_drop_1 : decode cX8_drop 1 = .ok (.getfield 10, 3) := by decide +kernel
theorem dX8_drop_4 : decode cX8_drop 4 = .ok (.iload_n 1, 1) := by decide +kernel
theorem dX8_drop_5 : decode cX8_drop 5 = .ok (.invokevirtual 94, 3) := by decide +kernel
theorem dX8_drop_8 : decode cX8_drop 8 = .ok (.ifCond .ne 6, 3) := by decide +kernel
theorem dX8_drop_11 : decode cX8_drop 11 = .ok (.ldc 98, 2) := by decide +kernel
theorem dX8_drop_13 : decode cX8_drop 13 = .ok (.ireturn, 1) := by decide +kernel
theorem dX8_drop_14 : decode cX8_drop 14 = .ok (.aload_n 0, 1) := by decide +kernel
theorem dX8_drop_15 : decode cX8_drop 15 = .ok (.getfield 10, 3) := by decide +kernel
theorem dX8_drop_18 : decode cX8_drop 18 = .ok (.iload_n 1, 1) := by decide +kernel
theorem dX8_drop_19 : decode cX8_drop 19 = .ok (.invokevirtual 125, 3) := by decide +kernel
theorem dX8_drop_22 : decode cX8_drop 22 = .ok (.ifCond .eq 9, 3) := by decide +kernel
theorem dX8_drop_25 : decode cX8_drop 25 = .ok (.aload_n 0, 1) := by decide +kernel
theorem dX8_drop_26 : decode cX8_drop 26 = .ok (.iconst 1, 1) := by decide +kernel
theorem dX8_drop_27 : decode cX8_drop 27 = .ok (.invokevirtual 99, 3) := by decide +kernel
theorem dX8_drop_30 : decode cX8_drop 30 = .ok (.ireturn, 1) := by decide +kernel
theorem dX8_drop_31 : decode cX8_drop 31 = .ok (.aload_n 0, 1) := by decide +kernel
theorem dX8_drop_32 : decode cX8_drop 32 = .ok (.aload_n 0, 1) := by decide +kernel
theorem dX8_drop_33 : decode cX8_drop 33 = .ok (.getfield 10, 3) := by decide +kernel
theorem dX8_drop_36 : decode cX8_drop 36 = .ok (.iload_n 1, 1) := by decide +kernel
theorem dX8_drop_37 : decode cX8_drop 37 = .ok (.invokevirtual 128, 3) := by decide +kernel
theorem dX8_drop_40 : decode cX8_drop 40 = .ok (.invokevirtual 107, 3) := by decide +kernel
theorem dX8_drop_43 : decode cX8_drop 43 = .ok (.ireturn, 1) := by decide +kernel
theorem dX8_feed_0 : decode cX8_feed 0 = .ok (.iload_n 3, 1) := by decide +kernel
theorem dX8_feed_1 : decode cX8_feed 1 = .ok (.iconst 1, 1) := by decide +kernel
theorem dX8_feed_2 : decode cX8_feed 2 = .ok (.if_icmp .lt 9, 3) := by decide +kernel
theorem dX8_feed_5 : decode cX8_feed 5 = .ok (.iload_n 3, 1) := by decide +kernel
theorem dX8_feed_6 : decode cX8_feed 6 = .ok (.bipush 8, 2) := by decide +kernel
theorem dX8_feed_8 : decode cX8_feed 8 = .ok (.if_icmp .le 6, 3) := by decide +kernel
theorem dX8_feed_11 : decode cX8_feed 11 = .ok (.ldc 98, 2) := by decide +kernel
theorem dX8_feed_13 : decode cX8_feed 13 = .ok (.ireturn, 1) := by decide +kernel
theorem dX8_feed_14 : decode cX8_feed 14 = .ok (.aload_n 0, 1) := by decide +kernel
theorem dX8_feed_15 : decode cX8_feed 15 = .ok (.getfield 19, 3) := by decide +kernel
theorem dX8_feed_18 : decode cX8_feed 18 = .ok (.iload_n 3, 1) := by decide +kernel
theorem dX8_feed_19 : decode cX8_feed 19 = .ok (.invokevirtual 131, 3) := by decide +kernel
theorem dX8_feed_22 : decode cX8_feed 22 = .ok (.ifCond .ne 6, 3) := by decide +kernel
theorem dX8_feed_25 : decode cX8_feed 25 = .ok (.ldc 134, 2) := by decide +kernel
theorem dX8_feed_27 : decode cX8_feed 27 = .ok (.ireturn, 1) := by decide +kernel
theorem dX8_feed_28 : decode cX8_feed 28 = .ok (.aload_n 0, 1) := by decide +kernel
theorem dX8_feed_29 : decode cX8_feed 29 = .ok (.getfield 19, 3) := by decide +kernel
theorem dX8_feed_32 : decode cX8_feed 32 = .ok (.lload_n 1, 1) := by decide +kernel
theorem dX8_feed_33 : decode cX8_feed 33 = .ok (.iload_n 3, 1) := by decide +kernel
theorem dX8_feed_34 : decode cX8_feed 34 = .ok (.invokevirtual 135, 3) := by decide +kernel
theorem dX8_feed_37 : decode cX8_feed 37 = .ok (.ireturn, 1) := by decide +kernel
theorem dX8_plan_0 : decode cX8_plan 0 = .ok (.aload_n 0, 1) := by decide +kernel
theorem dX8_plan_1 : decode cX8_plan 1 = .ok (.getfield 28, 3) := by decide +kernel
theorem dX8_plan_4 : decode cX8_plan 4 = .ok (.aload_n 0, 1) := by decide +kernel
theorem dX8_plan_5 : decode cX8_plan 5 = .ok (.getfield 80, 3) := by decide +kernel
theorem dX8_plan_8 : decode cX8_plan 8 = .ok (.invokevirtual 139, 3) := by decide +kernel
theorem dX8_plan_11 : decode cX8_plan 11 = .ok (.istore_n 1, 1) := by decide +kernel
theorem dX8_plan_12 : decode cX8_plan 12 = .ok (.aload_n 0, 1) := by decide +kernel
theorem dX8_plan_13 : decode cX8_plan 13 = .ok (.getfield 19, 3) := by decide +kernel
theorem dX8_plan_16 : decode cX8_plan 16 = .ok (.invokevirtual 143, 3) := by decide +kernel
theorem dX8_plan_19 : decode cX8_plan 19 = .ok (.istore_n 2, 1) := by decide +kernel
theorem dX8_plan_20 : decode cX8_plan 20 = .ok (.aload_n 0, 1) := by decide +kernel
theorem dX8_plan_21 : decode cX8_plan 21 = .ok (.getfield 19, 3) := by decide +kernel
theorem dX8_plan_24 : decode cX8_plan 24 = .ok (.invokevirtual 147, 3) := by decide +kernel
theorem dX8_plan_27 : decode cX8_plan 27 = .ok (.iload_n 1, 1) := by decide +kernel
theorem dX8_plan_28 : decode cX8_plan 28 = .ok (.ifCond .eq 13, 3) := by decide +kernel
theorem dX8_plan_31 : decode cX8_plan 31 = .ok (.aload_n 0, 1) := by decide +kernel
theorem dX8_plan_32 : decode cX8_plan 32 = .ok (.iload_n 1, 1) := by decide +kernel
theorem dX8_plan_33 : decode cX8_plan 33 = .ok (.putfield 87, 3) := by decide +kernel
theorem dX8_plan_36 : decode cX8_plan 36 = .ok (.ldc 150, 2) := by decide +kernel
theorem dX8_plan_38 : decode cX8_plan 38 = .ok (.iload_n 2, 1) := by decide +kernel
theorem dX8_plan_39 : decode cX8_plan 39 = .ok (.isub, 1) := by decide +kernel
theorem dX8_plan_40 : decode cX8_plan 40 = .ok (.ireturn, 1) := by decide +kernel
theorem dX8_plan_41 : decode cX8_plan 41 = .ok (.aload_n 0, 1) := by decide +kernel
theorem dX8_plan_42 : decode cX8_plan 42 = .ok (.getfield 76, 3) := by decide +kernel
theorem dX8_plan_45 : decode cX8_plan 45 = .ok (.astore_n 3, 1) := by decide +kernel
theorem dX8_plan_46 : decode cX8_plan 46 = .ok (.aload_n 0, 1) := by decide +kernel
theorem dX8_plan_47 : decode cX8_plan 47 = .ok (.aload_n 0, 1) := by decide +kernel
theorem dX8_plan_48 : decode cX8_plan 48 = .ok (.getfield 80, 3) := by decide +kernel
theorem dX8_plan_51 : decode cX8_plan 51 = .ok (.putfield 76, 3) := by decide +kernel
theorem dX8_plan_54 : decode cX8_plan 54 = .ok (.aload_n 0, 1) := by decide +kernel
theorem dX8_plan_55 : decode cX8_plan 55 = .ok (.aload_n 3, 1) := by decide +kernel
theorem dX8_plan_56 : decode cX8_plan 56 = .ok (.putfield 80, 3) := by decide +kernel
theorem dX8_plan_59 : decode cX8_plan 59 = .ok (.aload_n 0, 1) := by decide +kernel
theorem dX8_plan_60 : decode cX8_plan 60 = .ok (.invokevirtual 151, 3) := by decide +kernel
theorem dX8_plan_63 : decode cX8_plan 63 = .ok (.aload_n 0, 1) := by decide +kernel
theorem dX8_plan_64 : decode cX8_plan 64 = .ok (.getfield 76, 3) := by decide +kernel
theorem dX8_plan_67 : decode cX8_plan 67 = .ok (.getfield 154, 3) := by decide +kernel
theorem dX8_plan_70 : decode cX8_plan 70 = .ok (.ireturn, 1) := by decide +kernel
theorem dX8_beginPlan_0 : decode cX8_beginPlan 0 = .ok (.aload_n 0, 1) := by decide +kernel
theorem dX8_beginPlan_1 : decode cX8_beginPlan 1 = .ok (.iconst 0, 1) := by decide +kernel
theorem dX8_beginPlan_2 : decode cX8_beginPlan 2 = .ok (.putfield 83, 3) := by decide +kernel
theorem dX8_beginPlan_5 : decode cX8_beginPlan 5 = .ok (.aload_n 0, 1) := by decide +kernel
theorem dX8_beginPlan_6 : decode cX8_beginPlan 6 = .ok (.getfield 32, 3) := by decide +kernel
theorem dX8_beginPlan_9 : decode cX8_beginPlan 9 = .ok (.iconst 0, 1) := by decide +kernel
theorem dX8_beginPlan_10 : decode cX8_beginPlan 10 = .ok (.invokestatic 157, 3) := by decide +kernel
theorem dX8_beginPlan_13 : decode cX8_beginPlan 13 = .ok (.getstatic 163, 3) := by decide +kernel
theorem dX8_beginPlan_16 : decode cX8_beginPlan 16 = .ok (.iconst 0, 1) := by decide +kernel
theorem dX8_beginPlan_17 : decode cX8_beginPlan 17 = .ok (.aload_n 0, 1) := by decide +kernel
theorem dX8_beginPlan_18 : decode cX8_beginPlan 18 = .ok (.getfield 36, 3) := by decide +kernel
theorem dX8_beginPlan_21 : decode cX8_beginPlan 21 = .ok (.iconst 0, 1) := by decide +kernel
theorem dX8_beginPlan_22 : decode cX8_beginPlan 22 = .ok (.bipush 6, 2) := by decide +kernel
theorem dX8_beginPlan_24 : decode cX8_beginPlan 24 = .ok (.invokestatic 166, 3) := by decide +kernel
theorem dX8_beginPlan_27 : decode cX8_beginPlan 27 = .ok (.aload_n 0, 1) := by decide +kernel
theorem dX8_beginPlan_28 : decode cX8_beginPlan 28 = .ok (.getfield 45, 3) := by decide +kernel
theorem dX8_beginPlan_31 : decode cX8_beginPlan 31 = .ok (.aload_n 0, 1) := by decide +kernel
theorem dX8_beginPlan_32 : decode cX8_beginPlan 32 = .ok (.getfield 76, 3) := by decide +kernel
theorem dX8_beginPlan_35 : decode cX8_beginPlan 35 = .ok (.getfield 172, 3) := by decide +kernel
theorem dX8_beginPlan_38 : decode cX8_beginPlan 38 = .ok (.aload_n 0, 1) := by decide +kernel
theorem dX8_beginPlan_39 : decode cX8_beginPlan 39 = .ok (.getfield 32, 3) := by decide +kernel
theorem dX8_beginPlan_42 : decode cX8_beginPlan 42 = .ok (.invokevirtual 175, 3) := by decide +kernel
theorem dX8_beginPlan_45 : decode cX8_beginPlan 45 = .ok (.aload_n 0, 1) := by decide +kernel
theorem dX8_beginPlan_46 : decode cX8_beginPlan 46 = .ok (.getfield 55, 3) := by decide +kernel
theorem dX8_beginPlan_49 : decode cX8_beginPlan 49 = .ok (.invokevirtual 179, 3) := by decide +kernel
theorem dX8_beginPlan_52 : decode cX8_beginPlan 52 = .ok (.aload_n 0, 1) := by decide +kernel
theorem dX8_beginPlan_53 : decode cX8_beginPlan 53 = .ok (.getfield 62, 3) := by decide +kernel
theorem dX8_beginPlan_56 : decode cX8_beginPlan 56 = .ok (.invokevirtual 182, 3) := by decide +kernel
theorem dX8_beginPlan_59 : decode cX8_beginPlan 59 = .ok (.return_, 1) := by decide +kernel
theorem dX8_fault_0 : decode cX8_fault 0 = .ok (.aload_n 0, 1) := by decide +kernel
theorem dX8_fault_1 : decode cX8_fault 1 = .ok (.getfield 87, 3) := by decide +kernel
theorem dX8_fault_4 : decode cX8_fault 4 = .ok (.ireturn, 1) := by decide +kernel
theorem dX8_act_0 : decode cX8_act 0 = .ok (.aload_n 0, 1) := by decide +kernel
theorem dX8_act_1 : decode cX8_act 1 = .ok (.getfield 76, 3) := by decide +kernel
theorem dX8_act_4 : decode cX8_act 4 = .ok (.iload_n 1, 1) := by decide +kernel
theorem dX8_act_5 : decode cX8_act 5 = .ok (.invokevirtual 183, 3) := by decide +kernel
theorem dX8_act_8 : decode cX8_act 8 = .ok (.ifCond .ne 6, 3) := by decide +kernel
theorem dX8_act_11 : decode cX8_act 11 = .ok (.ldc 98, 2) := by decide +kernel
theorem dX8_act_13 : decode cX8_act 13 = .ok (.ireturn, 1) := by decide +kernel
theorem dX8_act_14 : decode cX8_act 14 = .ok (.iload_n 2, 1) := by decide +kernel
theorem dX8_act_15 : decode cX8_act 15 = .ok (.tableswitch 85 0 3 #[29, 39, 49, 75], 29) := by decide +kernel
theorem dX8_act_44 : decode cX8_act 44 = .ok (.aload_n 0, 1) := by decide +kernel
theorem dX8_act_45 : decode cX8_act 45 = .ok (.getfield 76, 3) := by decide +kernel
theorem dX8_act_48 : decode cX8_act 48 = .ok (.getfield 186, 3) := by decide +kernel
theorem dX8_act_51 : decode cX8_act 51 = .ok (.iload_n 1, 1) := by decide +kernel
theorem dX8_act_52 : decode cX8_act 52 = .ok (.iaload, 1) := by decide +kernel
theorem dX8_act_53 : decode cX8_act 53 = .ok (.ireturn, 1) := by decide +kernel
theorem dX8_act_54 : decode cX8_act 54 = .ok (.aload_n 0, 1) := by decide +kernel
theorem dX8_act_55 : decode cX8_act 55 = .ok (.getfield 76, 3) := by decide +kernel
theorem dX8_act_58 : decode cX8_act 58 = .ok (.getfield 189, 3) := by decide +kernel
theorem dX8_act_61 : decode cX8_act 61 = .ok (.iload_n 1, 1) := by decide +kernel
theorem dX8_act_62 : decode cX8_act 62 = .ok (.iaload, 1) := by decide +kernel
theorem dX8_act_63 : decode cX8_act 63 = .ok (.ireturn, 1) := by decide +kernel
theorem dX8_act_64 : decode cX8_act 64 = .ok (.aload_n 0, 1) := by decide +kernel
theorem dX8_act_65 : decode cX8_act 65 = .ok (.getfield 76, 3) := by decide +kernel
theorem dX8_act_68 : decode cX8_act 68 = .ok (.iload_n 1, 1) := by decide +kernel
theorem dX8_act_69 : decode cX8_act 69 = .ok (.invokevirtual 192, 3) := by decide +kernel
theorem dX8_act_72 : decode cX8_act 72 = .ok (.ifCond .eq 15, 3) := by decide +kernel
theorem dX8_act_75 : decode cX8_act 75 = .ok (.aload_n 0, 1) := by decide +kernel
theorem dX8_act_76 : decode cX8_act 76 = .ok (.getfield 76, 3) := by decide +kernel
theorem dX8_act_79 : decode cX8_act 79 = .ok (.getfield 195, 3) := by decide +kernel
theorem dX8_act_82 : decode cX8_act 82 = .ok (.iload_n 1, 1) := by decide +kernel
theorem dX8_act_83 : decode cX8_act 83 = .ok (.iaload, 1) := by decide +kernel
theorem dX8_act_84 : decode cX8_act 84 = .ok (.goto 5, 3) := by decide +kernel
theorem dX8_act_87 : decode cX8_act 87 = .ok (.ldc 198, 2) := by decide +kernel
theorem dX8_act_89 : decode cX8_act 89 = .ok (.ireturn, 1) := by decide +kernel
theorem dX8_act_90 : decode cX8_act 90 = .ok (.aload_n 0, 1) := by decide +kernel
theorem dX8_act_91 : decode cX8_act 91 = .ok (.getfield 76, 3) := by decide +kernel
theorem dX8_act_94 : decode cX8_act 94 = .ok (.getfield 199, 3) := by decide +kernel
theorem dX8_act_97 : decode cX8_act 97 = .ok (.iload_n 1, 1) := by decide +kernel
theorem dX8_act_98 : decode cX8_act 98 = .ok (.iaload, 1) := by decide +kernel
theorem dX8_act_99 : decode cX8_act 99 = .ok (.ireturn, 1) := by decide +kernel
theorem dX8_act_100 : decode cX8_act 100 = .ok (.ldc 98, 2) := by decide +kernel
theorem dX8_act_102 : decode cX8_act 102 = .ok (.ireturn, 1) := by decide +kernel
theorem dX8_open_0 : decode cX8_open 0 = .ok (.aload_n 0, 1) := by decide +kernel
theorem dX8_open_1 : decode cX8_open 1 = .ok (.getfield 76, 3) := by decide +kernel
theorem dX8_open_4 : decode cX8_open 4 = .ok (.iload_n 1, 1) := by decide +kernel
theorem dX8_open_5 : decode cX8_open 5 = .ok (.invokevirtual 202, 3) := by decide +kernel
theorem dX8_open_8 : decode cX8_open 8 = .ok (.ifCond .eq 15, 3) := by decide +kernel
theorem dX8_open_11 : decode cX8_open 11 = .ok (.iload_n 2, 1) := by decide +kernel
theorem dX8_open_12 : decode cX8_open 12 = .ok (.bipush (-40), 2) := by decide +kernel
theorem dX8_open_14 : decode cX8_open 14 = .ok (.if_icmp .lt 9, 3) := by decide +kernel
theorem dX8_open_17 : decode cX8_open 17 = .ok (.iload_n 2, 1) := by decide +kernel
theorem dX8_open_18 : decode cX8_open 18 = .ok (.bipush 40, 2) := by decide +kernel
theorem dX8_open_20 : decode cX8_open 20 = .ok (.if_icmp .le 6, 3) := by decide +kernel
theorem dX8_open_23 : decode cX8_open 23 = .ok (.ldc 98, 2) := by decide +kernel
theorem dX8_open_25 : decode cX8_open 25 = .ok (.ireturn, 1) := by decide +kernel
theorem dX8_open_26 : decode cX8_open 26 = .ok (.aload_n 0, 1) := by decide +kernel
theorem dX8_open_27 : decode cX8_open 27 = .ok (.getfield 32, 3) := by decide +kernel
theorem dX8_open_30 : decode cX8_open 30 = .ok (.iload_n 1, 1) := by decide +kernel
theorem dX8_open_31 : decode cX8_open 31 = .ok (.iaload, 1) := by decide +kernel
theorem dX8_open_32 : decode cX8_open 32 = .ok (.istore_n 3, 1) := by decide +kernel
theorem dX8_open_33 : decode cX8_open 33 = .ok (.aload_n 0, 1) := by decide +kernel
theorem dX8_open_34 : decode cX8_open 34 = .ok (.getfield 32, 3) := by decide +kernel
theorem dX8_open_37 : decode cX8_open 37 = .ok (.iload_n 1, 1) := by decide +kernel
theorem dX8_open_38 : decode cX8_open 38 = .ok (.iload_n 2, 1) := by decide +kernel
theorem dX8_open_39 : decode cX8_open 39 = .ok (.iastore, 1) := by decide +kernel
theorem dX8_open_40 : decode cX8_open 40 = .ok (.aload_n 0, 1) := by decide +kernel
theorem dX8_open_41 : decode cX8_open 41 = .ok (.getfield 55, 3) := by decide +kernel
theorem dX8_open_44 : decode cX8_open 44 = .ok (.invokevirtual 179, 3) := by decide +kernel
theorem dX8_open_47 : decode cX8_open 47 = .ok (.aload_n 0, 1) := by decide +kernel
theorem dX8_open_48 : decode cX8_open 48 = .ok (.getfield 83, 3) := by decide +kernel
theorem dX8_open_51 : decode cX8_open 51 = .ok (.ifCond .ne 21, 3) := by decide +kernel
theorem dX8_open_54 : decode cX8_open 54 = .ok (.aload_n 0, 1) := by decide +kernel
theorem dX8_open_55 : decode cX8_open 55 = .ok (.getfield 45, 3) := by decide +kernel
theorem dX8_open_58 : decode cX8_open 58 = .ok (.aload_n 0, 1) := by decide +kernel
theorem dX8_open_59 : decode cX8_open 59 = .ok (.getfield 76, 3) := by decide +kernel
theorem dX8_open_62 : decode cX8_open 62 = .ok (.getfield 172, 3) := by decide +kernel
theorem dX8_open_65 : decode cX8_open 65 = .ok (.aload_n 0, 1) := by decide +kernel
theorem dX8_open_66 : decode cX8_open 66 = .ok (.getfield 32, 3) := by decide +kernel
theorem dX8_open_69 : decode cX8_open 69 = .ok (.invokevirtual 175, 3) := by decide +kernel
theorem dX8_open_72 : decode cX8_open 72 = .ok (.iload_n 3, 1) := by decide +kernel
theorem dX8_open_73 : decode cX8_open 73 = .ok (.ireturn, 1) := by decide +kernel
theorem dX8_run_0 : decode cX8_run 0 = .ok (.aload_n 0, 1) := by decide +kernel
theorem dX8_run_1 : decode cX8_run 1 = .ok (.getfield 10, 3) := by decide +kernel
theorem dX8_run_4 : decode cX8_run 4 = .ok (.iload_n 1, 1) := by decide +kernel
theorem dX8_run_5 : decode cX8_run 5 = .ok (.invokevirtual 94, 3) := by decide +kernel
theorem dX8_run_8 : decode cX8_run 8 = .ok (.ifCond .ne 6, 3) := by decide +kernel
theorem dX8_run_11 : decode cX8_run 11 = .ok (.ldc 98, 2) := by decide +kernel
theorem dX8_run_13 : decode cX8_run 13 = .ok (.ireturn, 1) := by decide +kernel
theorem dX8_run_14 : decode cX8_run 14 = .ok (.aload_n 0, 1) := by decide +kernel
theorem dX8_run_15 : decode cX8_run 15 = .ok (.getfield 76, 3) := by decide +kernel
theorem dX8_run_18 : decode cX8_run 18 = .ok (.invokevirtual 205, 3) := by decide +kernel
theorem dX8_run_21 : decode cX8_run 21 = .ok (.ifCond .eq 6, 3) := by decide +kernel
theorem dX8_run_24 : decode cX8_run 24 = .ok (.ldc 209, 2) := by decide +kernel
theorem dX8_run_26 : decode cX8_run 26 = .ok (.ireturn, 1) := by decide +kernel
theorem dX8_run_27 : decode cX8_run 27 = .ok (.aload_n 0, 1) := by decide +kernel
theorem dX8_run_28 : decode cX8_run 28 = .ok (.getfield 10, 3) := by decide +kernel
theorem dX8_run_31 : decode cX8_run 31 = .ok (.iload_n 1, 1) := by decide +kernel
theorem dX8_run_32 : decode cX8_run 32 = .ok (.iload_n 2, 1) := by decide +kernel
theorem dX8_run_33 : decode cX8_run 33 = .ok (.aload_n 0, 1) := by decide +kernel
theorem dX8_run_34 : decode cX8_run 34 = .ok (.getfield 76, 3) := by decide +kernel
theorem dX8_run_37 : decode cX8_run 37 = .ok (.getfield 210, 3) := by decide +kernel
theorem dX8_run_40 : decode cX8_run 40 = .ok (.invokevirtual 110, 3) := by decide +kernel
theorem dX8_run_43 : decode cX8_run 43 = .ok (.istore_n 3, 1) := by decide +kernel
theorem dX8_run_44 : decode cX8_run 44 = .ok (.iload_n 3, 1) := by decide +kernel
theorem dX8_run_45 : decode cX8_run 45 = .ok (.ifCond .eq 9, 3) := by decide +kernel
theorem dX8_run_48 : decode cX8_run 48 = .ok (.aload_n 0, 1) := by decide +kernel
theorem dX8_run_49 : decode cX8_run 49 = .ok (.iload_n 3, 1) := by decide +kernel
theorem dX8_run_50 : decode cX8_run 50 = .ok (.invokevirtual 99, 3) := by decide +kernel
theorem dX8_run_53 : decode cX8_run 53 = .ok (.ireturn, 1) := by decide +kernel
theorem dX8_run_54 : decode cX8_run 54 = .ok (.aload_n 0, 1) := by decide +kernel
theorem dX8_run_55 : decode cX8_run 55 = .ok (.getfield 10, 3) := by decide +kernel
theorem dX8_run_58 : decode cX8_run 58 = .ok (.iload_n 1, 1) := by decide +kernel
theorem dX8_run_59 : decode cX8_run 59 = .ok (.iload_n 2, 1) := by decide +kernel
theorem dX8_run_60 : decode cX8_run 60 = .ok (.aload_n 0, 1) := by decide +kernel
theorem dX8_run_61 : decode cX8_run 61 = .ok (.getfield 76, 3) := by decide +kernel
theorem dX8_run_64 : decode cX8_run 64 = .ok (.getfield 210, 3) := by decide +kernel
theorem dX8_run_67 : decode cX8_run 67 = .ok (.invokevirtual 213, 3) := by decide +kernel
theorem dX8_run_70 : decode cX8_run 70 = .ok (.ifCond .ne 6, 3) := by decide +kernel
theorem dX8_run_73 : decode cX8_run 73 = .ok (.ldc 98, 2) := by decide +kernel
theorem dX8_run_75 : decode cX8_run 75 = .ok (.ireturn, 1) := by decide +kernel
theorem dX8_run_76 : decode cX8_run 76 = .ok (.iconst 0, 1) := by decide +kernel
theorem dX8_run_77 : decode cX8_run 77 = .ok (.istore 4, 2) := by decide +kernel
theorem dX8_run_79 : decode cX8_run 79 = .ok (.iload 4, 2) := by decide +kernel
theorem dX8_run_81 : decode cX8_run 81 = .ok (.aload_n 0, 1) := by decide +kernel
theorem dX8_run_82 : decode cX8_run 82 = .ok (.getfield 76, 3) := by decide +kernel
theorem dX8_run_85 : decode cX8_run 85 = .ok (.getfield 210, 3) := by decide +kernel
theorem dX8_run_88 : decode cX8_run 88 = .ok (.if_icmp .ge 28, 3) := by decide +kernel
theorem dX8_run_91 : decode cX8_run 91 = .ok (.aload_n 0, 1) := by decide +kernel
theorem dX8_run_92 : decode cX8_run 92 = .ok (.getfield 36, 3) := by decide +kernel
theorem dX8_run_95 : decode cX8_run 95 = .ok (.iload 4, 2) := by decide +kernel
theorem dX8_run_97 : decode cX8_run 97 = .ok (.aload_n 0, 1) := by decide +kernel
theorem dX8_run_98 : decode cX8_run 98 = .ok (.getfield 10, 3) := by decide +kernel
theorem dX8_run_101 : decode cX8_run 101 = .ok (.iload_n 1, 1) := by decide +kernel
theorem dX8_run_102 : decode cX8_run 102 = .ok (.iload_n 2, 1) := by decide +kernel
theorem dX8_run_103 : decode cX8_run 103 = .ok (.iload 4, 2) := by decide +kernel
theorem dX8_run_105 : decode cX8_run 105 = .ok (.iadd, 1) := by decide +kernel
theorem dX8_run_106 : decode cX8_run 106 = .ok (.invokevirtual 217, 3) := by decide +kernel
theorem dX8_run_109 : decode cX8_run 109 = .ok (.iastore, 1) := by decide +kernel
theorem dX8_run_110 : decode cX8_run 110 = .ok (.iinc 4 1, 3) := by decide +kernel
theorem dX8_run_113 : decode cX8_run 113 = .ok (.goto (-34), 3) := by decide +kernel
theorem dX8_run_116 : decode cX8_run 116 = .ok (.aload_n 0, 1) := by decide +kernel
theorem dX8_run_117 : decode cX8_run 117 = .ok (.aload_n 0, 1) := by decide +kernel
theorem dX8_run_118 : decode cX8_run 118 = .ok (.invokevirtual 220, 3) := by decide +kernel
theorem dX8_run_121 : decode cX8_run 121 = .ok (.invokevirtual 107, 3) := by decide +kernel
theorem dX8_run_124 : decode cX8_run 124 = .ok (.ireturn, 1) := by decide +kernel
theorem dX8_runs_0 : decode cX8_runs 0 = .ok (.aload_n 0, 1) := by decide +kernel
theorem dX8_runs_1 : decode cX8_runs 1 = .ok (.getfield 76, 3) := by decide +kernel
theorem dX8_runs_4 : decode cX8_runs 4 = .ok (.invokevirtual 205, 3) := by decide +kernel
theorem dX8_runs_7 : decode cX8_runs 7 = .ok (.ifCond .eq 6, 3) := by decide +kernel
theorem dX8_runs_10 : decode cX8_runs 10 = .ok (.ldc 209, 2) := by decide +kernel
theorem dX8_runs_12 : decode cX8_runs 12 = .ok (.ireturn, 1) := by decide +kernel
theorem dX8_runs_13 : decode cX8_runs 13 = .ok (.getstatic 163, 3) := by decide +kernel
theorem dX8_runs_16 : decode cX8_runs 16 = .ok (.iconst 0, 1) := by decide +kernel
theorem dX8_runs_17 : decode cX8_runs 17 = .ok (.aload_n 0, 1) := by decide +kernel
theorem dX8_runs_18 : decode cX8_runs 18 = .ok (.getfield 36, 3) := by decide +kernel
theorem dX8_runs_21 : decode cX8_runs 21 = .ok (.iconst 0, 1) := by decide +kernel
theorem dX8_runs_22 : decode cX8_runs 22 = .ok (.bipush 6, 2) := by decide +kernel
theorem dX8_runs_24 : decode cX8_runs 24 = .ok (.invokestatic 166, 3) := by decide +kernel
theorem dX8_runs_27 : decode cX8_runs 27 = .ok (.aload_n 0, 1) := by decide +kernel
theorem dX8_runs_28 : decode cX8_runs 28 = .ok (.invokevirtual 220, 3) := by decide +kernel
theorem dX8_runs_31 : decode cX8_runs 31 = .ok (.ireturn, 1) := by decide +kernel
theorem dX8_standByOrder_0 : decode cX8_standByOrder 0 = .ok (.aload_n 0, 1) := by decide +kernel
theorem dX8_standByOrder_1 : decode cX8_standByOrder 1 = .ok (.iconst 1, 1) := by decide +kernel
theorem dX8_standByOrder_2 : decode cX8_standByOrder 2 = .ok (.putfield 83, 3) := by decide +kernel
theorem dX8_standByOrder_5 : decode cX8_standByOrder 5 = .ok (.aload_n 0, 1) := by decide +kernel
theorem dX8_standByOrder_6 : decode cX8_standByOrder 6 = .ok (.getfield 45, 3) := by decide +kernel
theorem dX8_standByOrder_9 : decode cX8_standByOrder 9 = .ok (.aload_n 0, 1) := by decide +kernel
theorem dX8_standByOrder_10 : decode cX8_standByOrder 10 = .ok (.getfield 76, 3) := by decide +kernel
theorem dX8_standByOrder_13 : decode cX8_standByOrder 13 = .ok (.aload_n 0, 1) := by decide +kernel
theorem dX8_standByOrder_14 : decode cX8_standByOrder 14 = .ok (.getfield 32, 3) := by decide +kernel
theorem dX8_standByOrder_17 : decode cX8_standByOrder 17 = .ok (.aload_n 0, 1) := by decide +kernel
theorem dX8_standByOrder_18 : decode cX8_standByOrder 18 = .ok (.getfield 36, 3) := by decide +kernel
theorem dX8_standByOrder_21 : decode cX8_standByOrder 21 = .ok (.iconst (-1), 1) := by decide +kernel
theorem dX8_standByOrder_22 : decode cX8_standByOrder 22 = .ok (.invokevirtual 223, 3) := by decide +kernel
theorem dX8_standByOrder_25 : decode cX8_standByOrder 25 = .ok (.aload_n 0, 1) := by decide +kernel
theorem dX8_standByOrder_26 : decode cX8_standByOrder 26 = .ok (.getfield 45, 3) := by decide +kernel
theorem dX8_standByOrder_29 : decode cX8_standByOrder 29 = .ok (.invokevirtual 227, 3) := by decide +kernel
theorem dX8_standByOrder_32 : decode cX8_standByOrder 32 = .ok (.ireturn, 1) := by decide +kernel
theorem dX8_cell_0 : decode cX8_cell 0 = .ok (.aload_n 0, 1) := by decide +kernel
theorem dX8_cell_1 : decode cX8_cell 1 = .ok (.getfield 76, 3) := by decide +kernel
theorem dX8_cell_4 : decode cX8_cell 4 = .ok (.iload_n 1, 1) := by decide +kernel
theorem dX8_cell_5 : decode cX8_cell 5 = .ok (.invokevirtual 202, 3) := by decide +kernel
theorem dX8_cell_8 : decode cX8_cell 8 = .ok (.ifCond .ne 6, 3) := by decide +kernel
theorem dX8_cell_11 : decode cX8_cell 11 = .ok (.ldc 98, 2) := by decide +kernel
theorem dX8_cell_13 : decode cX8_cell 13 = .ok (.ireturn, 1) := by decide +kernel
theorem dX8_cell_14 : decode cX8_cell 14 = .ok (.iload_n 2, 1) := by decide +kernel
theorem dX8_cell_15 : decode cX8_cell 15 = .ok (.tableswitch 67 0 3 #[29, 38, 48, 58], 29) := by decide +kernel
theorem dX8_cell_44 : decode cX8_cell 44 = .ok (.aload_n 0, 1) := by decide +kernel
theorem dX8_cell_45 : decode cX8_cell 45 = .ok (.getfield 45, 3) := by decide +kernel
theorem dX8_cell_48 : decode cX8_cell 48 = .ok (.iload_n 1, 1) := by decide +kernel
theorem dX8_cell_49 : decode cX8_cell 49 = .ok (.invokevirtual 230, 3) := by decide +kernel
theorem dX8_cell_52 : decode cX8_cell 52 = .ok (.ireturn, 1) := by decide +kernel
theorem dX8_cell_53 : decode cX8_cell 53 = .ok (.aload_n 0, 1) := by decide +kernel
theorem dX8_cell_54 : decode cX8_cell 54 = .ok (.getfield 45, 3) := by decide +kernel
theorem dX8_cell_57 : decode cX8_cell 57 = .ok (.getfield 233, 3) := by decide +kernel
theorem dX8_cell_60 : decode cX8_cell 60 = .ok (.iload_n 1, 1) := by decide +kernel
theorem dX8_cell_61 : decode cX8_cell 61 = .ok (.iaload, 1) := by decide +kernel
theorem dX8_cell_62 : decode cX8_cell 62 = .ok (.ireturn, 1) := by decide +kernel
theorem dX8_cell_63 : decode cX8_cell 63 = .ok (.aload_n 0, 1) := by decide +kernel
theorem dX8_cell_64 : decode cX8_cell 64 = .ok (.getfield 45, 3) := by decide +kernel
theorem dX8_cell_67 : decode cX8_cell 67 = .ok (.getfield 236, 3) := by decide +kernel
theorem dX8_cell_70 : decode cX8_cell 70 = .ok (.iload_n 1, 1) := by decide +kernel
theorem dX8_cell_71 : decode cX8_cell 71 = .ok (.iaload, 1) := by decide +kernel
theorem dX8_cell_72 : decode cX8_cell 72 = .ok (.ireturn, 1) := by decide +kernel
theorem dX8_cell_73 : decode cX8_cell 73 = .ok (.aload_n 0, 1) := by decide +kernel
theorem dX8_cell_74 : decode cX8_cell 74 = .ok (.getfield 45, 3) := by decide +kernel
theorem dX8_cell_77 : decode cX8_cell 77 = .ok (.iload_n 1, 1) := by decide +kernel
theorem dX8_cell_78 : decode cX8_cell 78 = .ok (.invokevirtual 239, 3) := by decide +kernel
theorem dX8_cell_81 : decode cX8_cell 81 = .ok (.ireturn, 1) := by decide +kernel
theorem dX8_cell_82 : decode cX8_cell 82 = .ok (.ldc 98, 2) := by decide +kernel
theorem dX8_cell_84 : decode cX8_cell 84 = .ok (.ireturn, 1) := by decide +kernel
theorem dX8_height_0 : decode cX8_height 0 = .ok (.aload_n 0, 1) := by decide +kernel
theorem dX8_height_1 : decode cX8_height 1 = .ok (.getfield 76, 3) := by decide +kernel
theorem dX8_height_4 : decode cX8_height 4 = .ok (.invokevirtual 205, 3) := by decide +kernel
theorem dX8_height_7 : decode cX8_height 7 = .ok (.ifCond .eq 6, 3) := by decide +kernel
theorem dX8_height_10 : decode cX8_height 10 = .ok (.ldc 209, 2) := by decide +kernel
theorem dX8_height_12 : decode cX8_height 12 = .ok (.ireturn, 1) := by decide +kernel
theorem dX8_height_13 : decode cX8_height 13 = .ok (.iload_n 1, 1) := by decide +kernel
theorem dX8_height_14 : decode cX8_height 14 = .ok (.ifCond .lt 14, 3) := by decide +kernel
theorem dX8_height_17 : decode cX8_height 17 = .ok (.iload_n 1, 1) := by decide +kernel
theorem dX8_height_18 : decode cX8_height 18 = .ok (.aload_n 0, 1) := by decide +kernel
theorem dX8_height_19 : decode cX8_height 19 = .ok (.getfield 76, 3) := by decide +kernel
theorem dX8_height_22 : decode cX8_height 22 = .ok (.getfield 172, 3) := by decide +kernel
theorem dX8_height_25 : decode cX8_height 25 = .ok (.if_icmp .le 6, 3) := by decide +kernel
theorem dX8_height_28 : decode cX8_height 28 = .ok (.ldc 98, 2) := by decide +kernel
theorem dX8_height_30 : decode cX8_height 30 = .ok (.ireturn, 1) := by decide +kernel
theorem dX8_height_31 : decode cX8_height 31 = .ok (.aload_n 0, 1) := by decide +kernel
theorem dX8_height_32 : decode cX8_height 32 = .ok (.getfield 45, 3) := by decide +kernel
theorem dX8_height_35 : decode cX8_height 35 = .ok (.iload_n 1, 1) := by decide +kernel
theorem dX8_height_36 : decode cX8_height 36 = .ok (.invokevirtual 242, 3) := by decide +kernel
theorem dX8_height_39 : decode cX8_height 39 = .ok (.ireturn, 1) := by decide +kernel
theorem dX8_minutes_0 : decode cX8_minutes 0 = .ok (.aload_n 0, 1) := by decide +kernel
theorem dX8_minutes_1 : decode cX8_minutes 1 = .ok (.getfield 45, 3) := by decide +kernel
theorem dX8_minutes_4 : decode cX8_minutes 4 = .ok (.getfield 245, 3) := by decide +kernel
theorem dX8_minutes_7 : decode cX8_minutes 7 = .ok (.ireturn, 1) := by decide +kernel
theorem dX8_gives_0 : decode cX8_gives 0 = .ok (.aload_n 0, 1) := by decide +kernel
theorem dX8_gives_1 : decode cX8_gives 1 = .ok (.getfield 76, 3) := by decide +kernel
theorem dX8_gives_4 : decode cX8_gives 4 = .ok (.iload_n 1, 1) := by decide +kernel
theorem dX8_gives_5 : decode cX8_gives 5 = .ok (.invokevirtual 248, 3) := by decide +kernel
theorem dX8_gives_8 : decode cX8_gives 8 = .ok (.ifCond .ne 6, 3) := by decide +kernel
theorem dX8_gives_11 : decode cX8_gives 11 = .ok (.ldc 98, 2) := by decide +kernel
theorem dX8_gives_13 : decode cX8_gives 13 = .ok (.ireturn, 1) := by decide +kernel
theorem dX8_gives_14 : decode cX8_gives 14 = .ok (.aload_n 0, 1) := by decide +kernel
theorem dX8_gives_15 : decode cX8_gives 15 = .ok (.getfield 49, 3) := by decide +kernel
theorem dX8_gives_18 : decode cX8_gives 18 = .ok (.aload_n 0, 1) := by decide +kernel
theorem dX8_gives_19 : decode cX8_gives 19 = .ok (.getfield 76, 3) := by decide +kernel
theorem dX8_gives_22 : decode cX8_gives 22 = .ok (.aload_n 0, 1) := by decide +kernel
theorem dX8_gives_23 : decode cX8_gives 23 = .ok (.getfield 32, 3) := by decide +kernel
theorem dX8_gives_26 : decode cX8_gives 26 = .ok (.aload_n 0, 1) := by decide +kernel
theorem dX8_gives_27 : decode cX8_gives 27 = .ok (.getfield 36, 3) := by decide +kernel
theorem dX8_gives_30 : decode cX8_gives 30 = .ok (.iconst (-1), 1) := by decide +kernel
theorem dX8_gives_31 : decode cX8_gives 31 = .ok (.invokevirtual 223, 3) := by decide +kernel
theorem dX8_gives_34 : decode cX8_gives 34 = .ok (.aload_n 0, 1) := by decide +kernel
theorem dX8_gives_35 : decode cX8_gives 35 = .ok (.getfield 49, 3) := by decide +kernel
theorem dX8_gives_38 : decode cX8_gives 38 = .ok (.invokevirtual 227, 3) := by decide +kernel
theorem dX8_gives_41 : decode cX8_gives 41 = .ok (.istore_n 2, 1) := by decide +kernel
theorem dX8_gives_42 : decode cX8_gives 42 = .ok (.aload_n 0, 1) := by decide +kernel
theorem dX8_gives_43 : decode cX8_gives 43 = .ok (.getfield 49, 3) := by decide +kernel
theorem dX8_gives_46 : decode cX8_gives 46 = .ok (.aload_n 0, 1) := by decide +kernel
theorem dX8_gives_47 : decode cX8_gives 47 = .ok (.getfield 76, 3) := by decide +kernel
theorem dX8_gives_50 : decode cX8_gives 50 = .ok (.aload_n 0, 1) := by decide +kernel
theorem dX8_gives_51 : decode cX8_gives 51 = .ok (.getfield 32, 3) := by decide +kernel
theorem dX8_gives_54 : decode cX8_gives 54 = .ok (.aload_n 0, 1) := by decide +kernel
theorem dX8_gives_55 : decode cX8_gives 55 = .ok (.getfield 36, 3) := by decide +kernel
theorem dX8_gives_58 : decode cX8_gives 58 = .ok (.iload_n 1, 1) := by decide +kernel
theorem dX8_gives_59 : decode cX8_gives 59 = .ok (.invokevirtual 223, 3) := by decide +kernel
theorem dX8_gives_62 : decode cX8_gives 62 = .ok (.iload_n 2, 1) := by decide +kernel
theorem dX8_gives_63 : decode cX8_gives 63 = .ok (.aload_n 0, 1) := by decide +kernel
theorem dX8_gives_64 : decode cX8_gives 64 = .ok (.getfield 49, 3) := by decide +kernel
theorem dX8_gives_67 : decode cX8_gives 67 = .ok (.invokevirtual 227, 3) := by decide +kernel
theorem dX8_gives_70 : decode cX8_gives 70 = .ok (.isub, 1) := by decide +kernel
theorem dX8_gives_71 : decode cX8_gives 71 = .ok (.ireturn, 1) := by decide +kernel
theorem dX8_best_0 : decode cX8_best 0 = .ok (.iload_n 1, 1) := by decide +kernel
theorem dX8_best_1 : decode cX8_best 1 = .ok (.iconst (-1), 1) := by decide +kernel
theorem dX8_best_2 : decode cX8_best 2 = .ok (.if_icmp .ge 6, 3) := by decide +kernel
theorem dX8_best_5 : decode cX8_best 5 = .ok (.ldc 98, 2) := by decide +kernel
theorem dX8_best_7 : decode cX8_best 7 = .ok (.ireturn, 1) := by decide +kernel
theorem dX8_best_8 : decode cX8_best 8 = .ok (.aload_n 0, 1) := by decide +kernel
theorem dX8_best_9 : decode cX8_best 9 = .ok (.getfield 76, 3) := by decide +kernel
theorem dX8_best_12 : decode cX8_best 12 = .ok (.invokevirtual 205, 3) := by decide +kernel
theorem dX8_best_15 : decode cX8_best 15 = .ok (.ifCond .eq 6, 3) := by decide +kernel
theorem dX8_best_18 : decode cX8_best 18 = .ok (.ldc 209, 2) := by decide +kernel
theorem dX8_best_20 : decode cX8_best 20 = .ok (.ireturn, 1) := by decide +kernel
theorem dX8_best_21 : decode cX8_best 21 = .ok (.aload_n 0, 1) := by decide +kernel
theorem dX8_best_22 : decode cX8_best 22 = .ok (.getfield 55, 3) := by decide +kernel
theorem dX8_best_25 : decode cX8_best 25 = .ok (.aload_n 0, 1) := by decide +kernel
theorem dX8_best_26 : decode cX8_best 26 = .ok (.getfield 76, 3) := by decide +kernel
theorem dX8_best_29 : decode cX8_best 29 = .ok (.aload_n 0, 1) := by decide +kernel
theorem dX8_best_30 : decode cX8_best 30 = .ok (.getfield 32, 3) := by decide +kernel
theorem dX8_best_33 : decode cX8_best 33 = .ok (.invokevirtual 251, 3) := by decide +kernel
theorem dX8_best_36 : decode cX8_best 36 = .ok (.aload_n 0, 1) := by decide +kernel
theorem dX8_best_37 : decode cX8_best 37 = .ok (.getfield 55, 3) := by decide +kernel
theorem dX8_best_40 : decode cX8_best 40 = .ok (.getfield 255, 3) := by decide +kernel
theorem dX8_best_43 : decode cX8_best 43 = .ok (.ifCond .ne 6, 3) := by decide +kernel
theorem dX8_best_46 : decode cX8_best 46 = .ok (.ldc 198, 2) := by decide +kernel
theorem dX8_best_48 : decode cX8_best 48 = .ok (.ireturn, 1) := by decide +kernel
theorem dX8_best_49 : decode cX8_best 49 = .ok (.iload_n 1, 1) := by decide +kernel
theorem dX8_best_50 : decode cX8_best 50 = .ok (.iconst (-1), 1) := by decide +kernel
theorem dX8_best_51 : decode cX8_best 51 = .ok (.if_icmp .ne 11, 3) := by decide +kernel
theorem dX8_best_54 : decode cX8_best 54 = .ok (.aload_n 0, 1) := by decide +kernel
theorem dX8_best_55 : decode cX8_best 55 = .ok (.getfield 55, 3) := by decide +kernel
theorem dX8_best_58 : decode cX8_best 58 = .ok (.getfield 258, 3) := by decide +kernel
theorem dX8_best_61 : decode cX8_best 61 = .ok (.ireturn, 1) := by decide +kernel
theorem dX8_best_62 : decode cX8_best 62 = .ok (.aload_n 0, 1) := by decide +kernel
theorem dX8_best_63 : decode cX8_best 63 = .ok (.getfield 76, 3) := by decide +kernel
theorem dX8_best_66 : decode cX8_best 66 = .ok (.iload_n 1, 1) := by decide +kernel
theorem dX8_best_67 : decode cX8_best 67 = .ok (.invokevirtual 248, 3) := by decide +kernel
theorem dX8_best_70 : decode cX8_best 70 = .ok (.ifCond .eq 15, 3) := by decide +kernel
theorem dX8_best_73 : decode cX8_best 73 = .ok (.aload_n 0, 1) := by decide +kernel
theorem dX8_best_74 : decode cX8_best 74 = .ok (.getfield 55, 3) := by decide +kernel
theorem dX8_best_77 : decode cX8_best 77 = .ok (.getfield 261, 3) := by decide +kernel
theorem dX8_best_80 : decode cX8_best 80 = .ok (.iload_n 1, 1) := by decide +kernel
theorem dX8_best_81 : decode cX8_best 81 = .ok (.iaload, 1) := by decide +kernel
theorem dX8_best_82 : decode cX8_best 82 = .ok (.goto 5, 3) := by decide +kernel
theorem dX8_best_85 : decode cX8_best 85 = .ok (.ldc 198, 2) := by decide +kernel
theorem dX8_best_87 : decode cX8_best 87 = .ok (.ireturn, 1) := by decide +kernel
theorem dX8_orders_0 : decode cX8_orders 0 = .ok (.aload_n 0, 1) := by decide +kernel
theorem dX8_orders_1 : decode cX8_orders 1 = .ok (.getfield 76, 3) := by decide +kernel
theorem dX8_orders_4 : decode cX8_orders 4 = .ok (.invokevirtual 205, 3) := by decide +kernel
theorem dX8_orders_7 : decode cX8_orders 7 = .ok (.ifCond .eq 6, 3) := by decide +kernel
theorem dX8_orders_10 : decode cX8_orders 10 = .ok (.ldc 209, 2) := by decide +kernel
theorem dX8_orders_12 : decode cX8_orders 12 = .ok (.ireturn, 1) := by decide +kernel
theorem dX8_orders_13 : decode cX8_orders 13 = .ok (.aload_n 0, 1) := by decide +kernel
theorem dX8_orders_14 : decode cX8_orders 14 = .ok (.getfield 55, 3) := by decide +kernel
theorem dX8_orders_17 : decode cX8_orders 17 = .ok (.aload_n 0, 1) := by decide +kernel
theorem dX8_orders_18 : decode cX8_orders 18 = .ok (.getfield 76, 3) := by decide +kernel
theorem dX8_orders_21 : decode cX8_orders 21 = .ok (.invokevirtual 264, 3) := by decide +kernel
theorem dX8_orders_24 : decode cX8_orders 24 = .ok (.ireturn, 1) := by decide +kernel
theorem dX8_beforehand_0 : decode cX8_beforehand 0 = .ok (.aload_n 0, 1) := by decide +kernel
theorem dX8_beforehand_1 : decode cX8_beforehand 1 = .ok (.getfield 76, 3) := by decide +kernel
theorem dX8_beforehand_4 : decode cX8_beforehand 4 = .ok (.iload_n 1, 1) := by decide +kernel
theorem dX8_beforehand_5 : decode cX8_beforehand 5 = .ok (.invokevirtual 202, 3) := by decide +kernel
theorem dX8_beforehand_8 : decode cX8_beforehand 8 = .ok (.ifCond .ne 6, 3) := by decide +kernel
theorem dX8_beforehand_11 : decode cX8_beforehand 11 = .ok (.ldc 98, 2) := by decide +kernel
theorem dX8_beforehand_13 : decode cX8_beforehand 13 = .ok (.ireturn, 1) := by decide +kernel
theorem dX8_beforehand_14 : decode cX8_beforehand 14 = .ok (.aload_n 0, 1) := by decide +kernel
theorem dX8_beforehand_15 : decode cX8_beforehand 15 = .ok (.getfield 62, 3) := by decide +kernel
theorem dX8_beforehand_18 : decode cX8_beforehand 18 = .ok (.aload_n 0, 1) := by decide +kernel
theorem dX8_beforehand_19 : decode cX8_beforehand 19 = .ok (.getfield 76, 3) := by decide +kernel
theorem dX8_beforehand_22 : decode cX8_beforehand 22 = .ok (.aload_n 0, 1) := by decide +kernel
theorem dX8_beforehand_23 : decode cX8_beforehand 23 = .ok (.getfield 49, 3) := by decide +kernel
theorem dX8_beforehand_26 : decode cX8_beforehand 26 = .ok (.invokevirtual 267, 3) := by decide +kernel
theorem dX8_beforehand_29 : decode cX8_beforehand 29 = .ok (.aload_n 0, 1) := by decide +kernel
theorem dX8_beforehand_30 : decode cX8_beforehand 30 = .ok (.getfield 62, 3) := by decide +kernel
theorem dX8_beforehand_33 : decode cX8_beforehand 33 = .ok (.getfield 270, 3) := by decide +kernel
theorem dX8_beforehand_36 : decode cX8_beforehand 36 = .ok (.iload_n 1, 1) := by decide +kernel
theorem dX8_beforehand_37 : decode cX8_beforehand 37 = .ok (.iaload, 1) := by decide +kernel
theorem dX8_beforehand_38 : decode cX8_beforehand 38 = .ok (.ireturn, 1) := by decide +kernel
theorem dX8_spots_0 : decode cX8_spots 0 = .ok (.iload_n 1, 1) := by decide +kernel
theorem dX8_spots_1 : decode cX8_spots 1 = .ok (.iconst 1, 1) := by decide +kernel
theorem dX8_spots_2 : decode cX8_spots 2 = .ok (.if_icmp .lt 19, 3) := by decide +kernel
theorem dX8_spots_5 : decode cX8_spots 5 = .ok (.iload_n 1, 1) := by decide +kernel
theorem dX8_spots_6 : decode cX8_spots 6 = .ok (.bipush 20, 2) := by decide +kernel
theorem dX8_spots_8 : decode cX8_spots 8 = .ok (.if_icmp .gt 13, 3) := by decide +kernel
theorem dX8_spots_11 : decode cX8_spots 11 = .ok (.iload_n 2, 1) := by decide +kernel
theorem dX8_spots_12 : decode cX8_spots 12 = .ok (.ifCond .lt 9, 3) := by decide +kernel
theorem dX8_spots_15 : decode cX8_spots 15 = .ok (.iload_n 2, 1) := by decide +kernel
theorem dX8_spots_16 : decode cX8_spots 16 = .ok (.bipush 40, 2) := by decide +kernel
theorem dX8_spots_18 : decode cX8_spots 18 = .ok (.if_icmp .le 6, 3) := by decide +kernel
theorem dX8_spots_21 : decode cX8_spots 21 = .ok (.ldc 98, 2) := by decide +kernel
theorem dX8_spots_23 : decode cX8_spots 23 = .ok (.ireturn, 1) := by decide +kernel
theorem dX8_spots_24 : decode cX8_spots 24 = .ok (.aload_n 0, 1) := by decide +kernel
theorem dX8_spots_25 : decode cX8_spots 25 = .ok (.getfield 76, 3) := by decide +kernel
theorem dX8_spots_28 : decode cX8_spots 28 = .ok (.invokevirtual 205, 3) := by decide +kernel
theorem dX8_spots_31 : decode cX8_spots 31 = .ok (.ifCond .eq 6, 3) := by decide +kernel
theorem dX8_spots_34 : decode cX8_spots 34 = .ok (.ldc 209, 2) := by decide +kernel
theorem dX8_spots_36 : decode cX8_spots 36 = .ok (.ireturn, 1) := by decide +kernel
theorem dX8_spots_37 : decode cX8_spots 37 = .ok (.ldc 198, 2) := by decide +kernel
theorem dX8_spots_39 : decode cX8_spots 39 = .ok (.istore_n 3, 1) := by decide +kernel
theorem dX8_spots_40 : decode cX8_spots 40 = .ok (.iconst 4, 1) := by decide +kernel
theorem dX8_spots_41 : decode cX8_spots 41 = .ok (.istore 4, 2) := by decide +kernel
theorem dX8_spots_43 : decode cX8_spots 43 = .ok (.iconst 0, 1) := by decide +kernel
theorem dX8_spots_44 : decode cX8_spots 44 = .ok (.istore 5, 2) := by decide +kernel
theorem dX8_spots_46 : decode cX8_spots 46 = .ok (.iload 5, 2) := by decide +kernel
theorem dX8_spots_48 : decode cX8_spots 48 = .ok (.iconst 1, 1) := by decide +kernel
theorem dX8_spots_49 : decode cX8_spots 49 = .ok (.aload_n 0, 1) := by decide +kernel
theorem dX8_spots_50 : decode cX8_spots 50 = .ok (.getfield 76, 3) := by decide +kernel
theorem dX8_spots_53 : decode cX8_spots 53 = .ok (.getfield 172, 3) := by decide +kernel
theorem dX8_spots_56 : decode cX8_spots 56 = .ok (.ishl, 1) := by decide +kernel
theorem dX8_spots_57 : decode cX8_spots 57 = .ok (.if_icmp .ge 41, 3) := by decide +kernel
theorem dX8_spots_60 : decode cX8_spots 60 = .ok (.iload 5, 2) := by decide +kernel
theorem dX8_spots_62 : decode cX8_spots 62 = .ok (.invokestatic 273, 3) := by decide +kernel
theorem dX8_spots_65 : decode cX8_spots 65 = .ok (.istore 6, 2) := by decide +kernel
theorem dX8_spots_67 : decode cX8_spots 67 = .ok (.iload 6, 2) := by decide +kernel
theorem dX8_spots_69 : decode cX8_spots 69 = .ok (.iload 4, 2) := by decide +kernel
theorem dX8_spots_71 : decode cX8_spots 71 = .ok (.if_icmp .ge 21, 3) := by decide +kernel
theorem dX8_spots_74 : decode cX8_spots 74 = .ok (.aload_n 0, 1) := by decide +kernel
theorem dX8_spots_75 : decode cX8_spots 75 = .ok (.iload 5, 2) := by decide +kernel
theorem dX8_spots_77 : decode cX8_spots 77 = .ok (.iload_n 1, 1) := by decide +kernel
theorem dX8_spots_78 : decode cX8_spots 78 = .ok (.iload_n 2, 1) := by decide +kernel
theorem dX8_spots_79 : decode cX8_spots 79 = .ok (.invokevirtual 278, 3) := by decide +kernel
theorem dX8_spots_82 : decode cX8_spots 82 = .ok (.ifCond .eq 10, 3) := by decide +kernel
theorem dX8_spots_85 : decode cX8_spots 85 = .ok (.iload 6, 2) := by decide +kernel
theorem dX8_spots_87 : decode cX8_spots 87 = .ok (.istore 4, 2) := by decide +kernel
theorem dX8_spots_89 : decode cX8_spots 89 = .ok (.iload 5, 2) := by decide +kernel
theorem dX8_spots_91 : decode cX8_spots 91 = .ok (.istore_n 3, 1) := by decide +kernel
theorem dX8_spots_92 : decode cX8_spots 92 = .ok (.iinc 5 1, 3) := by decide +kernel
theorem dX8_spots_95 : decode cX8_spots 95 = .ok (.goto (-49), 3) := by decide +kernel
theorem dX8_spots_98 : decode cX8_spots 98 = .ok (.iload_n 3, 1) := by decide +kernel
theorem dX8_spots_99 : decode cX8_spots 99 = .ok (.ireturn, 1) := by decide +kernel
theorem dX8_drawDown_0 : decode cX8_drawDown 0 = .ok (.aload_n 0, 1) := by decide +kernel
theorem dX8_drawDown_1 : decode cX8_drawDown 1 = .ok (.getfield 45, 3) := by decide +kernel
theorem dX8_drawDown_4 : decode cX8_drawDown 4 = .ok (.getfield 236, 3) := by decide +kernel
theorem dX8_drawDown_7 : decode cX8_drawDown 7 = .ok (.iconst 0, 1) := by decide +kernel
theorem dX8_drawDown_8 : decode cX8_drawDown 8 = .ok (.aload_n 0, 1) := by decide +kernel
theorem dX8_drawDown_9 : decode cX8_drawDown 9 = .ok (.getfield 39, 3) := by decide +kernel
theorem dX8_drawDown_12 : decode cX8_drawDown 12 = .ok (.iconst 0, 1) := by decide +kernel
theorem dX8_drawDown_13 : decode cX8_drawDown 13 = .ok (.bipush 12, 2) := by decide +kernel
theorem dX8_drawDown_15 : decode cX8_drawDown 15 = .ok (.invokestatic 166, 3) := by decide +kernel
theorem dX8_drawDown_18 : decode cX8_drawDown 18 = .ok (.iconst 0, 1) := by decide +kernel
theorem dX8_drawDown_19 : decode cX8_drawDown 19 = .ok (.istore 4, 2) := by decide +kernel
theorem dX8_drawDown_21 : decode cX8_drawDown 21 = .ok (.iload 4, 2) := by decide +kernel
theorem dX8_drawDown_23 : decode cX8_drawDown 23 = .ok (.aload_n 0, 1) := by decide +kernel
theorem dX8_drawDown_24 : decode cX8_drawDown 24 = .ok (.getfield 76, 3) := by decide +kernel
theorem dX8_drawDown_27 : decode cX8_drawDown 27 = .ok (.getfield 172, 3) := by decide +kernel
theorem dX8_drawDown_30 : decode cX8_drawDown 30 = .ok (.if_icmp .ge 26, 3) := by decide +kernel
theorem dX8_drawDown_33 : decode cX8_drawDown 33 = .ok (.iload_n 1, 1) := by decide +kernel
theorem dX8_drawDown_34 : decode cX8_drawDown 34 = .ok (.iload 4, 2) := by decide +kernel
theorem dX8_drawDown_36 : decode cX8_drawDown 36 = .ok (.ishr, 1) := by decide +kernel
theorem dX8_drawDown_37 : decode cX8_drawDown 37 = .ok (.iconst 1, 1) := by decide +kernel
theorem dX8_drawDown_38 : decode cX8_drawDown 38 = .ok (.iand, 1) := by decide +kernel
theorem dX8_drawDown_39 : decode cX8_drawDown 39 = .ok (.iconst 1, 1) := by decide +kernel
theorem dX8_drawDown_40 : decode cX8_drawDown 40 = .ok (.if_icmp .ne 10, 3) := by decide +kernel
theorem dX8_drawDown_43 : decode cX8_drawDown 43 = .ok (.aload_n 0, 1) := by decide +kernel
theorem dX8_drawDown_44 : decode cX8_drawDown 44 = .ok (.iload 4, 2) := by decide +kernel
theorem dX8_drawDown_46 : decode cX8_drawDown 46 = .ok (.iload_n 2, 1) := by decide +kernel
theorem dX8_drawDown_47 : decode cX8_drawDown 47 = .ok (.invokevirtual 281, 3) := by decide +kernel
theorem dX8_drawDown_50 : decode cX8_drawDown 50 = .ok (.iinc 4 1, 3) := by decide +kernel
theorem dX8_drawDown_53 : decode cX8_drawDown 53 = .ok (.goto (-32), 3) := by decide +kernel
theorem dX8_drawDown_56 : decode cX8_drawDown 56 = .ok (.iconst 0, 1) := by decide +kernel
theorem dX8_drawDown_57 : decode cX8_drawDown 57 = .ok (.istore 4, 2) := by decide +kernel
theorem dX8_drawDown_59 : decode cX8_drawDown 59 = .ok (.iload 4, 2) := by decide +kernel
theorem dX8_drawDown_61 : decode cX8_drawDown 61 = .ok (.aload_n 0, 1) := by decide +kernel
theorem dX8_drawDown_62 : decode cX8_drawDown 62 = .ok (.getfield 76, 3) := by decide +kernel
theorem dX8_drawDown_65 : decode cX8_drawDown 65 = .ok (.getfield 172, 3) := by decide +kernel
theorem dX8_drawDown_68 : decode cX8_drawDown 68 = .ok (.if_icmp .ge 25, 3) := by decide +kernel
theorem dX8_drawDown_71 : decode cX8_drawDown 71 = .ok (.aload_n 0, 1) := by decide +kernel
theorem dX8_drawDown_72 : decode cX8_drawDown 72 = .ok (.getfield 39, 3) := by decide +kernel
theorem dX8_drawDown_75 : decode cX8_drawDown 75 = .ok (.iload 4, 2) := by decide +kernel
theorem dX8_drawDown_77 : decode cX8_drawDown 77 = .ok (.iaload, 1) := by decide +kernel
theorem dX8_drawDown_78 : decode cX8_drawDown 78 = .ok (.invokestatic 285, 3) := by decide +kernel
theorem dX8_drawDown_81 : decode cX8_drawDown 81 = .ok (.iload_n 3, 1) := by decide +kernel
theorem dX8_drawDown_82 : decode cX8_drawDown 82 = .ok (.if_icmp .le 5, 3) := by decide +kernel
theorem dX8_drawDown_85 : decode cX8_drawDown 85 = .ok (.iconst 0, 1) := by decide +kernel
theorem dX8_drawDown_86 : decode cX8_drawDown 86 = .ok (.ireturn, 1) := by decide +kernel
theorem dX8_drawDown_87 : decode cX8_drawDown 87 = .ok (.iinc 4 1, 3) := by decide +kernel
theorem dX8_drawDown_90 : decode cX8_drawDown 90 = .ok (.goto (-31), 3) := by decide +kernel
theorem dX8_drawDown_93 : decode cX8_drawDown 93 = .ok (.iconst 1, 1) := by decide +kernel
theorem dX8_drawDown_94 : decode cX8_drawDown 94 = .ok (.ireturn, 1) := by decide +kernel
theorem dX8_spotAt_0 : decode cX8_spotAt 0 = .ok (.aload_n 0, 1) := by decide +kernel
theorem dX8_spotAt_1 : decode cX8_spotAt 1 = .ok (.getfield 39, 3) := by decide +kernel
theorem dX8_spotAt_4 : decode cX8_spotAt 4 = .ok (.iload_n 1, 1) := by decide +kernel
theorem dX8_spotAt_5 : decode cX8_spotAt 5 = .ok (.iaload, 1) := by decide +kernel
theorem dX8_spotAt_6 : decode cX8_spotAt 6 = .ok (.ifCond .le 24, 3) := by decide +kernel
theorem dX8_spotAt_9 : decode cX8_spotAt 9 = .ok (.aload_n 0, 1) := by decide +kernel
theorem dX8_spotAt_10 : decode cX8_spotAt 10 = .ok (.getfield 39, 3) := by decide +kernel
theorem dX8_spotAt_13 : decode cX8_spotAt 13 = .ok (.iload_n 1, 1) := by decide +kernel
theorem dX8_spotAt_14 : decode cX8_spotAt 14 = .ok (.iconst 0, 1) := by decide +kernel
theorem dX8_spotAt_15 : decode cX8_spotAt 15 = .ok (.aload_n 0, 1) := by decide +kernel
theorem dX8_spotAt_16 : decode cX8_spotAt 16 = .ok (.getfield 39, 3) := by decide +kernel
theorem dX8_spotAt_19 : decode cX8_spotAt 19 = .ok (.iload_n 1, 1) := by decide +kernel
theorem dX8_spotAt_20 : decode cX8_spotAt 20 = .ok (.iaload, 1) := by decide +kernel
theorem dX8_spotAt_21 : decode cX8_spotAt 21 = .ok (.iload_n 2, 1) := by decide +kernel
theorem dX8_spotAt_22 : decode cX8_spotAt 22 = .ok (.isub, 1) := by decide +kernel
theorem dX8_spotAt_23 : decode cX8_spotAt 23 = .ok (.invokestatic 290, 3) := by decide +kernel
theorem dX8_spotAt_26 : decode cX8_spotAt 26 = .ok (.iastore, 1) := by decide +kernel
theorem dX8_spotAt_27 : decode cX8_spotAt 27 = .ok (.goto 21, 3) := by decide +kernel
theorem dX8_spotAt_30 : decode cX8_spotAt 30 = .ok (.aload_n 0, 1) := by decide +kernel
theorem dX8_spotAt_31 : decode cX8_spotAt 31 = .ok (.getfield 39, 3) := by decide +kernel
theorem dX8_spotAt_34 : decode cX8_spotAt 34 = .ok (.iload_n 1, 1) := by decide +kernel
theorem dX8_spotAt_35 : decode cX8_spotAt 35 = .ok (.iconst 0, 1) := by decide +kernel
theorem dX8_spotAt_36 : decode cX8_spotAt 36 = .ok (.aload_n 0, 1) := by decide +kernel
theorem dX8_spotAt_37 : decode cX8_spotAt 37 = .ok (.getfield 39, 3) := by decide +kernel
theorem dX8_spotAt_40 : decode cX8_spotAt 40 = .ok (.iload_n 1, 1) := by decide +kernel
theorem dX8_spotAt_41 : decode cX8_spotAt 41 = .ok (.iaload, 1) := by decide +kernel
theorem dX8_spotAt_42 : decode cX8_spotAt 42 = .ok (.iload_n 2, 1) := by decide +kernel
theorem dX8_spotAt_43 : decode cX8_spotAt 43 = .ok (.iadd, 1) := by decide +kernel
theorem dX8_spotAt_44 : decode cX8_spotAt 44 = .ok (.invokestatic 293, 3) := by decide +kernel
theorem dX8_spotAt_47 : decode cX8_spotAt 47 = .ok (.iastore, 1) := by decide +kernel
theorem dX8_spotAt_48 : decode cX8_spotAt 48 = .ok (.iload_n 1, 1) := by decide +kernel
theorem dX8_spotAt_49 : decode cX8_spotAt 49 = .ok (.ifCond .le 15, 3) := by decide +kernel
theorem dX8_spotAt_52 : decode cX8_spotAt 52 = .ok (.aload_n 0, 1) := by decide +kernel
theorem dX8_spotAt_53 : decode cX8_spotAt 53 = .ok (.getfield 39, 3) := by decide +kernel
theorem dX8_spotAt_56 : decode cX8_spotAt 56 = .ok (.iload_n 1, 1) := by decide +kernel
theorem dX8_spotAt_57 : decode cX8_spotAt 57 = .ok (.iconst 1, 1) := by decide +kernel
theorem dX8_spotAt_58 : decode cX8_spotAt 58 = .ok (.isub, 1) := by decide +kernel
theorem dX8_spotAt_59 : decode cX8_spotAt 59 = .ok (.dup2, 1) := by decide +kernel
theorem dX8_spotAt_60 : decode cX8_spotAt 60 = .ok (.iaload, 1) := by decide +kernel
theorem dX8_spotAt_61 : decode cX8_spotAt 61 = .ok (.iconst 1, 1) := by decide +kernel
theorem dX8_spotAt_62 : decode cX8_spotAt 62 = .ok (.iadd, 1) := by decide +kernel
theorem dX8_spotAt_63 : decode cX8_spotAt 63 = .ok (.iastore, 1) := by decide +kernel
theorem dX8_spotAt_64 : decode cX8_spotAt 64 = .ok (.iload_n 1, 1) := by decide +kernel
theorem dX8_spotAt_65 : decode cX8_spotAt 65 = .ok (.iconst 1, 1) := by decide +kernel
theorem dX8_spotAt_66 : decode cX8_spotAt 66 = .ok (.iadd, 1) := by decide +kernel
theorem dX8_spotAt_67 : decode cX8_spotAt 67 = .ok (.aload_n 0, 1) := by decide +kernel
theorem dX8_spotAt_68 : decode cX8_spotAt 68 = .ok (.getfield 76, 3) := by decide +kernel
theorem dX8_spotAt_71 : decode cX8_spotAt 71 = .ok (.getfield 172, 3) := by decide +kernel
theorem dX8_spotAt_74 : decode cX8_spotAt 74 = .ok (.if_icmp .ge 15, 3) := by decide +kernel
theorem dX8_spotAt_77 : decode cX8_spotAt 77 = .ok (.aload_n 0, 1) := by decide +kernel
theorem dX8_spotAt_78 : decode cX8_spotAt 78 = .ok (.getfield 39, 3) := by decide +kernel
theorem dX8_spotAt_81 : decode cX8_spotAt 81 = .ok (.iload_n 1, 1) := by decide +kernel
theorem dX8_spotAt_82 : decode cX8_spotAt 82 = .ok (.iconst 1, 1) := by decide +kernel
theorem dX8_spotAt_83 : decode cX8_spotAt 83 = .ok (.iadd, 1) := by decide +kernel
theorem dX8_spotAt_84 : decode cX8_spotAt 84 = .ok (.dup2, 1) := by decide +kernel
theorem dX8_spotAt_85 : decode cX8_spotAt 85 = .ok (.iaload, 1) := by decide +kernel
theorem dX8_spotAt_86 : decode cX8_spotAt 86 = .ok (.iconst 1, 1) := by decide +kernel
theorem dX8_spotAt_87 : decode cX8_spotAt 87 = .ok (.iadd, 1) := by decide +kernel
theorem dX8_spotAt_88 : decode cX8_spotAt 88 = .ok (.iastore, 1) := by decide +kernel
theorem dX8_spotAt_89 : decode cX8_spotAt 89 = .ok (.return_, 1) := by decide +kernel
theorem dX8_crack_0 : decode cX8_crack 0 = .ok (.iload_n 1, 1) := by decide +kernel
theorem dX8_crack_1 : decode cX8_crack 1 = .ok (.ifCond .lt 9, 3) := by decide +kernel
theorem dX8_crack_4 : decode cX8_crack 4 = .ok (.iload_n 1, 1) := by decide +kernel
theorem dX8_crack_5 : decode cX8_crack 5 = .ok (.bipush 60, 2) := by decide +kernel
theorem dX8_crack_7 : decode cX8_crack 7 = .ok (.if_icmp .le 6, 3) := by decide +kernel
theorem dX8_crack_10 : decode cX8_crack 10 = .ok (.ldc 98, 2) := by decide +kernel
theorem dX8_crack_12 : decode cX8_crack 12 = .ok (.ireturn, 1) := by decide +kernel
theorem dX8_crack_13 : decode cX8_crack 13 = .ok (.aload_n 0, 1) := by decide +kernel
theorem dX8_crack_14 : decode cX8_crack 14 = .ok (.getfield 45, 3) := by decide +kernel
theorem dX8_crack_17 : decode cX8_crack 17 = .ok (.sipush 300, 3) := by decide +kernel
theorem dX8_crack_20 : decode cX8_crack 20 = .ok (.iconst 4, 1) := by decide +kernel
theorem dX8_crack_21 : decode cX8_crack 21 = .ok (.iload_n 1, 1) := by decide +kernel
theorem dX8_crack_22 : decode cX8_crack 22 = .ok (.imul, 1) := by decide +kernel
theorem dX8_crack_23 : decode cX8_crack 23 = .ok (.isub, 1) := by decide +kernel
theorem dX8_crack_24 : decode cX8_crack 24 = .ok (.invokevirtual 296, 3) := by decide +kernel
theorem dX8_crack_27 : decode cX8_crack 27 = .ok (.ireturn, 1) := by decide +kernel
theorem dX8_warm_0 : decode cX8_warm 0 = .ok (.aload_n 0, 1) := by decide +kernel
theorem dX8_warm_1 : decode cX8_warm 1 = .ok (.getfield 76, 3) := by decide +kernel
theorem dX8_warm_4 : decode cX8_warm 4 = .ok (.invokevirtual 205, 3) := by decide +kernel
theorem dX8_warm_7 : decode cX8_warm 7 = .ok (.ifCond .eq 6, 3) := by decide +kernel
theorem dX8_warm_10 : decode cX8_warm 10 = .ok (.ldc 209, 2) := by decide +kernel
theorem dX8_warm_12 : decode cX8_warm 12 = .ok (.ireturn, 1) := by decide +kernel
theorem dX8_warm_13 : decode cX8_warm 13 = .ok (.bipush 60, 2) := by decide +kernel
theorem dX8_warm_15 : decode cX8_warm 15 = .ok (.istore_n 1, 1) := by decide +kernel
theorem dX8_warm_16 : decode cX8_warm 16 = .ok (.iload_n 1, 1) := by decide +kernel
theorem dX8_warm_17 : decode cX8_warm 17 = .ok (.ifCond .lt 30, 3) := by decide +kernel
theorem dX8_warm_20 : decode cX8_warm 20 = .ok (.aload_n 0, 1) := by decide +kernel
theorem dX8_warm_21 : decode cX8_warm 21 = .ok (.getfield 45, 3) := by decide +kernel
theorem dX8_warm_24 : decode cX8_warm 24 = .ok (.sipush 300, 3) := by decide +kernel
theorem dX8_warm_27 : decode cX8_warm 27 = .ok (.iconst 4, 1) := by decide +kernel
theorem dX8_warm_28 : decode cX8_warm 28 = .ok (.iload_n 1, 1) := by decide +kernel
theorem dX8_warm_29 : decode cX8_warm 29 = .ok (.imul, 1) := by decide +kernel
theorem dX8_warm_30 : decode cX8_warm 30 = .ok (.isub, 1) := by decide +kernel
theorem dX8_warm_31 : decode cX8_warm 31 = .ok (.invokevirtual 296, 3) := by decide +kernel
theorem dX8_warm_34 : decode cX8_warm 34 = .ok (.ldc 198, 2) := by decide +kernel
theorem dX8_warm_36 : decode cX8_warm 36 = .ok (.if_icmp .ne 5, 3) := by decide +kernel
theorem dX8_warm_39 : decode cX8_warm 39 = .ok (.iload_n 1, 1) := by decide +kernel
theorem dX8_warm_40 : decode cX8_warm 40 = .ok (.ireturn, 1) := by decide +kernel
theorem dX8_warm_41 : decode cX8_warm 41 = .ok (.iinc 1 (-1), 3) := by decide +kernel
theorem dX8_warm_44 : decode cX8_warm 44 = .ok (.goto (-28), 3) := by decide +kernel
theorem dX8_warm_47 : decode cX8_warm 47 = .ok (.ldc 198, 2) := by decide +kernel
theorem dX8_warm_49 : decode cX8_warm 49 = .ok (.ireturn, 1) := by decide +kernel
theorem dX8_wire_0 : decode cX8_wire 0 = .ok (.aload_n 0, 1) := by decide +kernel
theorem dX8_wire_1 : decode cX8_wire 1 = .ok (.getfield 10, 3) := by decide +kernel
theorem dX8_wire_4 : decode cX8_wire 4 = .ok (.iload_n 1, 1) := by decide +kernel
theorem dX8_wire_5 : decode cX8_wire 5 = .ok (.invokevirtual 94, 3) := by decide +kernel
theorem dX8_wire_8 : decode cX8_wire 8 = .ok (.ifCond .ne 6, 3) := by decide +kernel
theorem dX8_wire_11 : decode cX8_wire 11 = .ok (.ldc 98, 2) := by decide +kernel
theorem dX8_wire_13 : decode cX8_wire 13 = .ok (.ireturn, 1) := by decide +kernel
theorem dX8_wire_14 : decode cX8_wire 14 = .ok (.aload_n 0, 1) := by decide +kernel
theorem dX8_wire_15 : decode cX8_wire 15 = .ok (.getfield 76, 3) := by decide +kernel
theorem dX8_wire_18 : decode cX8_wire 18 = .ok (.invokevirtual 205, 3) := by decide +kernel
theorem dX8_wire_21 : decode cX8_wire 21 = .ok (.ifCond .eq 6, 3) := by decide +kernel
theorem dX8_wire_24 : decode cX8_wire 24 = .ok (.ldc 209, 2) := by decide +kernel
theorem dX8_wire_26 : decode cX8_wire 26 = .ok (.ireturn, 1) := by decide +kernel
theorem dX8_wire_27 : decode cX8_wire 27 = .ok (.iload_n 3, 1) := by decide +kernel
theorem dX8_wire_28 : decode cX8_wire 28 = .ok (.iconst (-1), 1) := by decide +kernel
theorem dX8_wire_29 : decode cX8_wire 29 = .ok (.if_icmp .lt 14, 3) := by decide +kernel
theorem dX8_wire_32 : decode cX8_wire 32 = .ok (.iload_n 3, 1) := by decide +kernel
theorem dX8_wire_33 : decode cX8_wire 33 = .ok (.aload_n 0, 1) := by decide +kernel
theorem dX8_wire_34 : decode cX8_wire 34 = .ok (.getfield 76, 3) := by decide +kernel
theorem dX8_wire_37 : decode cX8_wire 37 = .ok (.getfield 172, 3) := by decide +kernel
theorem dX8_wire_40 : decode cX8_wire 40 = .ok (.if_icmp .lt 6, 3) := by decide +kernel
theorem dX8_wire_43 : decode cX8_wire 43 = .ok (.ldc 98, 2) := by decide +kernel
theorem dX8_wire_45 : decode cX8_wire 45 = .ok (.ireturn, 1) := by decide +kernel
theorem dX8_wire_46 : decode cX8_wire 46 = .ok (.aload_n 0, 1) := by decide +kernel
theorem dX8_wire_47 : decode cX8_wire 47 = .ok (.getfield 10, 3) := by decide +kernel
theorem dX8_wire_50 : decode cX8_wire 50 = .ok (.iload_n 1, 1) := by decide +kernel
theorem dX8_wire_51 : decode cX8_wire 51 = .ok (.iload_n 2, 1) := by decide +kernel
theorem dX8_wire_52 : decode cX8_wire 52 = .ok (.aload_n 0, 1) := by decide +kernel
theorem dX8_wire_53 : decode cX8_wire 53 = .ok (.getfield 76, 3) := by decide +kernel
theorem dX8_wire_56 : decode cX8_wire 56 = .ok (.getfield 172, 3) := by decide +kernel
theorem dX8_wire_59 : decode cX8_wire 59 = .ok (.iconst 1, 1) := by decide +kernel
theorem dX8_wire_60 : decode cX8_wire 60 = .ok (.iadd, 1) := by decide +kernel
theorem dX8_wire_61 : decode cX8_wire 61 = .ok (.invokevirtual 110, 3) := by decide +kernel
theorem dX8_wire_64 : decode cX8_wire 64 = .ok (.istore 4, 2) := by decide +kernel
theorem dX8_wire_66 : decode cX8_wire 66 = .ok (.iload 4, 2) := by decide +kernel
theorem dX8_wire_68 : decode cX8_wire 68 = .ok (.ifCond .eq 10, 3) := by decide +kernel
theorem dX8_wire_71 : decode cX8_wire 71 = .ok (.aload_n 0, 1) := by decide +kernel
theorem dX8_wire_72 : decode cX8_wire 72 = .ok (.iload 4, 2) := by decide +kernel
theorem dX8_wire_74 : decode cX8_wire 74 = .ok (.invokevirtual 99, 3) := by decide +kernel
theorem dX8_wire_77 : decode cX8_wire 77 = .ok (.ireturn, 1) := by decide +kernel
theorem dX8_wire_78 : decode cX8_wire 78 = .ok (.aload_n 0, 1) := by decide +kernel
theorem dX8_wire_79 : decode cX8_wire 79 = .ok (.getfield 10, 3) := by decide +kernel
theorem dX8_wire_82 : decode cX8_wire 82 = .ok (.iload_n 1, 1) := by decide +kernel
theorem dX8_wire_83 : decode cX8_wire 83 = .ok (.iload_n 2, 1) := by decide +kernel
theorem dX8_wire_84 : decode cX8_wire 84 = .ok (.aload_n 0, 1) := by decide +kernel
theorem dX8_wire_85 : decode cX8_wire 85 = .ok (.getfield 76, 3) := by decide +kernel
theorem dX8_wire_88 : decode cX8_wire 88 = .ok (.getfield 172, 3) := by decide +kernel
theorem dX8_wire_91 : decode cX8_wire 91 = .ok (.iconst 1, 1) := by decide +kernel
theorem dX8_wire_92 : decode cX8_wire 92 = .ok (.iadd, 1) := by decide +kernel
theorem dX8_wire_93 : decode cX8_wire 93 = .ok (.sipush 9999, 3) := by decide +kernel
theorem dX8_wire_96 : decode cX8_wire 96 = .ok (.invokevirtual 299, 3) := by decide +kernel
theorem dX8_wire_99 : decode cX8_wire 99 = .ok (.ifCond .ne 6, 3) := by decide +kernel
theorem dX8_wire_102 : decode cX8_wire 102 = .ok (.ldc 98, 2) := by decide +kernel
theorem dX8_wire_104 : decode cX8_wire 104 = .ok (.ireturn, 1) := by decide +kernel
theorem dX8_wire_105 : decode cX8_wire 105 = .ok (.aload_n 0, 1) := by decide +kernel
theorem dX8_wire_106 : decode cX8_wire 106 = .ok (.iload_n 3, 1) := by decide +kernel
theorem dX8_wire_107 : decode cX8_wire 107 = .ok (.iconst (-1), 1) := by decide +kernel
theorem dX8_wire_108 : decode cX8_wire 108 = .ok (.if_icmp .ne 12, 3) := by decide +kernel
theorem dX8_wire_111 : decode cX8_wire 111 = .ok (.aload_n 0, 1) := by decide +kernel
theorem dX8_wire_112 : decode cX8_wire 112 = .ok (.iload_n 1, 1) := by decide +kernel
theorem dX8_wire_113 : decode cX8_wire 113 = .ok (.iload_n 2, 1) := by decide +kernel
theorem dX8_wire_114 : decode cX8_wire 114 = .ok (.invokevirtual 303, 3) := by decide +kernel
theorem dX8_wire_117 : decode cX8_wire 117 = .ok (.goto 10, 3) := by decide +kernel
theorem dX8_wire_120 : decode cX8_wire 120 = .ok (.aload_n 0, 1) := by decide +kernel
theorem dX8_wire_121 : decode cX8_wire 121 = .ok (.iload_n 1, 1) := by decide +kernel
theorem dX8_wire_122 : decode cX8_wire 122 = .ok (.iload_n 2, 1) := by decide +kernel
theorem dX8_wire_123 : decode cX8_wire 123 = .ok (.iload_n 3, 1) := by decide +kernel
theorem dX8_wire_124 : decode cX8_wire 124 = .ok (.invokevirtual 306, 3) := by decide +kernel
theorem dX8_wire_127 : decode cX8_wire 127 = .ok (.invokevirtual 107, 3) := by decide +kernel
theorem dX8_wire_130 : decode cX8_wire 130 = .ok (.ireturn, 1) := by decide +kernel
theorem dX8_wireBend_0 : decode cX8_wireBend 0 = .ok (.aload_n 0, 1) := by decide +kernel
theorem dX8_wireBend_1 : decode cX8_wireBend 1 = .ok (.getfield 10, 3) := by decide +kernel
theorem dX8_wireBend_4 : decode cX8_wireBend 4 = .ok (.iload_n 1, 1) := by decide +kernel
theorem dX8_wireBend_5 : decode cX8_wireBend 5 = .ok (.iload_n 2, 1) := by decide +kernel
theorem dX8_wireBend_6 : decode cX8_wireBend 6 = .ok (.iload_n 3, 1) := by decide +kernel
theorem dX8_wireBend_7 : decode cX8_wireBend 7 = .ok (.iadd, 1) := by decide +kernel
theorem dX8_wireBend_8 : decode cX8_wireBend 8 = .ok (.invokevirtual 217, 3) := by decide +kernel
theorem dX8_wireBend_11 : decode cX8_wireBend 11 = .ok (.istore 4, 2) := by decide +kernel
theorem dX8_wireBend_13 : decode cX8_wireBend 13 = .ok (.aload_n 0, 1) := by decide +kernel
theorem dX8_wireBend_14 : decode cX8_wireBend 14 = .ok (.getfield 10, 3) := by decide +kernel
theorem dX8_wireBend_17 : decode cX8_wireBend 17 = .ok (.iload_n 1, 1) := by decide +kernel
theorem dX8_wireBend_18 : decode cX8_wireBend 18 = .ok (.iload_n 2, 1) := by decide +kernel
theorem dX8_wireBend_19 : decode cX8_wireBend 19 = .ok (.iload_n 3, 1) := by decide +kernel
theorem dX8_wireBend_20 : decode cX8_wireBend 20 = .ok (.iadd, 1) := by decide +kernel
theorem dX8_wireBend_21 : decode cX8_wireBend 21 = .ok (.iconst 1, 1) := by decide +kernel
theorem dX8_wireBend_22 : decode cX8_wireBend 22 = .ok (.iadd, 1) := by decide +kernel
theorem dX8_wireBend_23 : decode cX8_wireBend 23 = .ok (.invokevirtual 217, 3) := by decide +kernel
theorem dX8_wireBend_26 : decode cX8_wireBend 26 = .ok (.iload 4, 2) := by decide +kernel
theorem dX8_wireBend_28 : decode cX8_wireBend 28 = .ok (.isub, 1) := by decide +kernel
theorem dX8_wireBend_29 : decode cX8_wireBend 29 = .ok (.istore 5, 2) := by decide +kernel
theorem dX8_wireBend_31 : decode cX8_wireBend 31 = .ok (.iload_n 3, 1) := by decide +kernel
theorem dX8_wireBend_32 : decode cX8_wireBend 32 = .ok (.ifCond .ne 7, 3) := by decide +kernel
theorem dX8_wireBend_35 : decode cX8_wireBend 35 = .ok (.iconst 0, 1) := by decide +kernel
theorem dX8_wireBend_36 : decode cX8_wireBend 36 = .ok (.goto 19, 3) := by decide +kernel
theorem dX8_wireBend_39 : decode cX8_wireBend 39 = .ok (.iload 4, 2) := by decide +kernel
theorem dX8_wireBend_41 : decode cX8_wireBend 41 = .ok (.aload_n 0, 1) := by decide +kernel
theorem dX8_wireBend_42 : decode cX8_wireBend 42 = .ok (.getfield 10, 3) := by decide +kernel
theorem dX8_wireBend_45 : decode cX8_wireBend 45 = .ok (.iload_n 1, 1) := by decide +kernel
theorem dX8_wireBend_46 : decode cX8_wireBend 46 = .ok (.iload_n 2, 1) := by decide +kernel
theorem dX8_wireBend_47 : decode cX8_wireBend 47 = .ok (.iload_n 3, 1) := by decide +kernel
theorem dX8_wireBend_48 : decode cX8_wireBend 48 = .ok (.iadd, 1) := by decide +kernel
theorem dX8_wireBend_49 : decode cX8_wireBend 49 = .ok (.iconst 1, 1) := by decide +kernel
theorem dX8_wireBend_50 : decode cX8_wireBend 50 = .ok (.isub, 1) := by decide +kernel
theorem dX8_wireBend_51 : decode cX8_wireBend 51 = .ok (.invokevirtual 217, 3) := by decide +kernel
theorem dX8_wireBend_54 : decode cX8_wireBend 54 = .ok (.isub, 1) := by decide +kernel
theorem dX8_wireBend_55 : decode cX8_wireBend 55 = .ok (.istore 6, 2) := by decide +kernel
theorem dX8_wireBend_57 : decode cX8_wireBend 57 = .ok (.iload 5, 2) := by decide +kernel
theorem dX8_wireBend_59 : decode cX8_wireBend 59 = .ok (.iload 6, 2) := by decide +kernel
theorem dX8_wireBend_61 : decode cX8_wireBend 61 = .ok (.isub, 1) := by decide +kernel
theorem dX8_wireBend_62 : decode cX8_wireBend 62 = .ok (.ireturn, 1) := by decide +kernel
theorem dX8_steelOf_0 : decode cX8_steelOf 0 = .ok (.iconst 1, 1) := by decide +kernel
theorem dX8_steelOf_1 : decode cX8_steelOf 1 = .ok (.istore_n 3, 1) := by decide +kernel
theorem dX8_steelOf_2 : decode cX8_steelOf 2 = .ok (.iload_n 3, 1) := by decide +kernel
theorem dX8_steelOf_3 : decode cX8_steelOf 3 = .ok (.bipush 9, 2) := by decide +kernel
theorem dX8_steelOf_5 : decode cX8_steelOf 5 = .ok (.if_icmp .gt 21, 3) := by decide +kernel
theorem dX8_steelOf_8 : decode cX8_steelOf 8 = .ok (.aload_n 0, 1) := by decide +kernel
theorem dX8_steelOf_9 : decode cX8_steelOf 9 = .ok (.iload_n 1, 1) := by decide +kernel
theorem dX8_steelOf_10 : decode cX8_steelOf 10 = .ok (.iload_n 2, 1) := by decide +kernel
theorem dX8_steelOf_11 : decode cX8_steelOf 11 = .ok (.iload_n 3, 1) := by decide +kernel
theorem dX8_steelOf_12 : decode cX8_steelOf 12 = .ok (.invokevirtual 309, 3) := by decide +kernel
theorem dX8_steelOf_15 : decode cX8_steelOf 15 = .ok (.ifCond .eq 5, 3) := by decide +kernel
theorem dX8_steelOf_18 : decode cX8_steelOf 18 = .ok (.iload_n 3, 1) := by decide +kernel
theorem dX8_steelOf_19 : decode cX8_steelOf 19 = .ok (.ireturn, 1) := by decide +kernel
theorem dX8_steelOf_20 : decode cX8_steelOf 20 = .ok (.iinc 3 1, 3) := by decide +kernel
theorem dX8_steelOf_23 : decode cX8_steelOf 23 = .ok (.goto (-21), 3) := by decide +kernel
theorem dX8_steelOf_26 : decode cX8_steelOf 26 = .ok (.ldc 198, 2) := by decide +kernel
theorem dX8_steelOf_28 : decode cX8_steelOf 28 = .ok (.ireturn, 1) := by decide +kernel
theorem dX8_isSteel_0 : decode cX8_isSteel 0 = .ok (.iconst 0, 1) := by decide +kernel
theorem dX8_isSteel_1 : decode cX8_isSteel 1 = .ok (.istore 4, 2) := by decide +kernel
theorem dX8_isSteel_3 : decode cX8_isSteel 3 = .ok (.iload 4, 2) := by decide +kernel
theorem dX8_isSteel_5 : decode cX8_isSteel 5 = .ok (.aload_n 0, 1) := by decide +kernel
theorem dX8_isSteel_6 : decode cX8_isSteel 6 = .ok (.getfield 76, 3) := by decide +kernel
theorem dX8_isSteel_9 : decode cX8_isSteel 9 = .ok (.getfield 172, 3) := by decide +kernel
theorem dX8_isSteel_12 : decode cX8_isSteel 12 = .ok (.if_icmp .ge 36, 3) := by decide +kernel
theorem dX8_isSteel_15 : decode cX8_isSteel 15 = .ok (.aload_n 0, 1) := by decide +kernel
theorem dX8_isSteel_16 : decode cX8_isSteel 16 = .ok (.iload_n 1, 1) := by decide +kernel
theorem dX8_isSteel_17 : decode cX8_isSteel 17 = .ok (.iload_n 2, 1) := by decide +kernel
theorem dX8_isSteel_18 : decode cX8_isSteel 18 = .ok (.iload 4, 2) := by decide +kernel
theorem dX8_isSteel_20 : decode cX8_isSteel 20 = .ok (.invokevirtual 306, 3) := by decide +kernel
theorem dX8_isSteel_23 : decode cX8_isSteel 23 = .ok (.iload_n 3, 1) := by decide +kernel
theorem dX8_isSteel_24 : decode cX8_isSteel 24 = .ok (.aload_n 0, 1) := by decide +kernel
theorem dX8_isSteel_25 : decode cX8_isSteel 25 = .ok (.getfield 45, 3) := by decide +kernel
theorem dX8_isSteel_28 : decode cX8_isSteel 28 = .ok (.getfield 236, 3) := by decide +kernel
theorem dX8_isSteel_31 : decode cX8_isSteel 31 = .ok (.iload 4, 2) := by decide +kernel
theorem dX8_isSteel_33 : decode cX8_isSteel 33 = .ok (.iaload, 1) := by decide +kernel
theorem dX8_isSteel_34 : decode cX8_isSteel 34 = .ok (.imul, 1) := by decide +kernel
theorem dX8_isSteel_35 : decode cX8_isSteel 35 = .ok (.iconst 4, 1) := by decide +kernel
theorem dX8_isSteel_36 : decode cX8_isSteel 36 = .ok (.idiv, 1) := by decide +kernel
theorem dX8_isSteel_37 : decode cX8_isSteel 37 = .ok (.if_icmp .eq 5, 3) := by decide +kernel
theorem dX8_isSteel_40 : decode cX8_isSteel 40 = .ok (.iconst 0, 1) := by decide +kernel
theorem dX8_isSteel_41 : decode cX8_isSteel 41 = .ok (.ireturn, 1) := by decide +kernel
theorem dX8_isSteel_42 : decode cX8_isSteel 42 = .ok (.iinc 4 1, 3) := by decide +kernel
theorem dX8_isSteel_45 : decode cX8_isSteel 45 = .ok (.goto (-42), 3) := by decide +kernel
theorem dX8_isSteel_48 : decode cX8_isSteel 48 = .ok (.iconst 1, 1) := by decide +kernel
theorem dX8_isSteel_49 : decode cX8_isSteel 49 = .ok (.ireturn, 1) := by decide +kernel
theorem dX8_kind_0 : decode cX8_kind 0 = .ok (.aload_n 0, 1) := by decide +kernel
theorem dX8_kind_1 : decode cX8_kind 1 = .ok (.getfield 76, 3) := by decide +kernel
theorem dX8_kind_4 : decode cX8_kind 4 = .ok (.iload_n 1, 1) := by decide +kernel
theorem dX8_kind_5 : decode cX8_kind 5 = .ok (.invokevirtual 192, 3) := by decide +kernel
theorem dX8_kind_8 : decode cX8_kind 8 = .ok (.ifCond .eq 14, 3) := by decide +kernel
theorem dX8_kind_11 : decode cX8_kind 11 = .ok (.aload_n 0, 1) := by decide +kernel
theorem dX8_kind_12 : decode cX8_kind 12 = .ok (.getfield 76, 3) := by decide +kernel
theorem dX8_kind_15 : decode cX8_kind 15 = .ok (.iload_n 1, 1) := by decide +kernel
theorem dX8_kind_16 : decode cX8_kind 16 = .ok (.invokevirtual 312, 3) := by decide +kernel
theorem dX8_kind_19 : decode cX8_kind 19 = .ok (.goto 5, 3) := by decide +kernel
theorem dX8_kind_22 : decode cX8_kind 22 = .ok (.ldc 98, 2) := by decide +kernel
theorem dX8_kind_24 : decode cX8_kind 24 = .ok (.ireturn, 1) := by decide +kernel
theorem dX8_as_0 : decode cX8_as 0 = .ok (.aload_n 0, 1) := by decide +kernel
theorem dX8_as_1 : decode cX8_as 1 = .ok (.getfield 76, 3) := by decide +kernel
theorem dX8_as_4 : decode cX8_as 4 = .ok (.iload_n 1, 1) := by decide +kernel
theorem dX8_as_5 : decode cX8_as 5 = .ok (.invokevirtual 192, 3) := by decide +kernel
theorem dX8_as_8 : decode cX8_as 8 = .ok (.ifCond .eq 10, 3) := by decide +kernel
theorem dX8_as_11 : decode cX8_as 11 = .ok (.iload_n 2, 1) := by decide +kernel
theorem dX8_as_12 : decode cX8_as 12 = .ok (.invokestatic 315, 3) := by decide +kernel
theorem dX8_as_15 : decode cX8_as 15 = .ok (.ifCond .ne 6, 3) := by decide +kernel
theorem dX8_as_18 : decode cX8_as 18 = .ok (.ldc 98, 2) := by decide +kernel
theorem dX8_as_20 : decode cX8_as 20 = .ok (.ireturn, 1) := by decide +kernel
theorem dX8_as_21 : decode cX8_as 21 = .ok (.aload_n 0, 1) := by decide +kernel
theorem dX8_as_22 : decode cX8_as 22 = .ok (.getfield 76, 3) := by decide +kernel
theorem dX8_as_25 : decode cX8_as 25 = .ok (.iload_n 1, 1) := by decide +kernel
theorem dX8_as_26 : decode cX8_as 26 = .ok (.invokevirtual 312, 3) := by decide +kernel
theorem dX8_as_29 : decode cX8_as 29 = .ok (.iload_n 2, 1) := by decide +kernel
theorem dX8_as_30 : decode cX8_as 30 = .ok (.invokestatic 318, 3) := by decide +kernel
theorem dX8_as_33 : decode cX8_as 33 = .ok (.ifCond .ne 9, 3) := by decide +kernel
theorem dX8_as_36 : decode cX8_as 36 = .ok (.aload_n 0, 1) := by decide +kernel
theorem dX8_as_37 : decode cX8_as 37 = .ok (.iconst 3, 1) := by decide +kernel
theorem dX8_as_38 : decode cX8_as 38 = .ok (.invokevirtual 99, 3) := by decide +kernel
theorem dX8_as_41 : decode cX8_as 41 = .ok (.ireturn, 1) := by decide +kernel
theorem dX8_as_42 : decode cX8_as 42 = .ok (.aload_n 0, 1) := by decide +kernel
theorem dX8_as_43 : decode cX8_as 43 = .ok (.aload_n 0, 1) := by decide +kernel
theorem dX8_as_44 : decode cX8_as 44 = .ok (.getfield 76, 3) := by decide +kernel
theorem dX8_as_47 : decode cX8_as 47 = .ok (.getfield 189, 3) := by decide +kernel
theorem dX8_as_50 : decode cX8_as 50 = .ok (.iload_n 1, 1) := by decide +kernel
theorem dX8_as_51 : decode cX8_as 51 = .ok (.iaload, 1) := by decide +kernel
theorem dX8_as_52 : decode cX8_as 52 = .ok (.invokevirtual 107, 3) := by decide +kernel
theorem dX8_as_55 : decode cX8_as 55 = .ok (.ireturn, 1) := by decide +kernel
theorem dX8_ask_0 : decode cX8_ask 0 = .ok (.aload_n 0, 1) := by decide +kernel
theorem dX8_ask_1 : decode cX8_ask 1 = .ok (.getfield 76, 3) := by decide +kernel
theorem dX8_ask_4 : decode cX8_ask 4 = .ok (.iload_n 1, 1) := by decide +kernel
theorem dX8_ask_5 : decode cX8_ask 5 = .ok (.invokevirtual 192, 3) := by decide +kernel
theorem dX8_ask_8 : decode cX8_ask 8 = .ok (.ifCond .eq 12, 3) := by decide +kernel
theorem dX8_ask_11 : decode cX8_ask 11 = .ok (.iload_n 2, 1) := by decide +kernel
theorem dX8_ask_12 : decode cX8_ask 12 = .ok (.ifCond .eq 11, 3) := by decide +kernel
theorem dX8_ask_15 : decode cX8_ask 15 = .ok (.iload_n 2, 1) := by decide +kernel
theorem dX8_ask_16 : decode cX8_ask 16 = .ok (.iconst 1, 1) := by decide +kernel
theorem dX8_ask_17 : decode cX8_ask 17 = .ok (.if_icmp .eq 6, 3) := by decide +kernel
theorem dX8_ask_20 : decode cX8_ask 20 = .ok (.ldc 98, 2) := by decide +kernel
theorem dX8_ask_22 : decode cX8_ask 22 = .ok (.ireturn, 1) := by decide +kernel
theorem dX8_ask_23 : decode cX8_ask 23 = .ok (.aload_n 0, 1) := by decide +kernel
theorem dX8_ask_24 : decode cX8_ask 24 = .ok (.getfield 69, 3) := by decide +kernel
theorem dX8_ask_27 : decode cX8_ask 27 = .ok (.aload_n 0, 1) := by decide +kernel
theorem dX8_ask_28 : decode cX8_ask 28 = .ok (.getfield 76, 3) := by decide +kernel
theorem dX8_ask_31 : decode cX8_ask 31 = .ok (.iload_n 1, 1) := by decide +kernel
theorem dX8_ask_32 : decode cX8_ask 32 = .ok (.iload_n 2, 1) := by decide +kernel
theorem dX8_ask_33 : decode cX8_ask 33 = .ok (.invokevirtual 322, 3) := by decide +kernel
theorem dX8_ask_36 : decode cX8_ask 36 = .ok (.ireturn, 1) := by decide +kernel
theorem dX8_trace_0 : decode cX8_trace 0 = .ok (.aload_n 0, 1) := by decide +kernel
theorem dX8_trace_1 : decode cX8_trace 1 = .ok (.getfield 69, 3) := by decide +kernel
theorem dX8_trace_4 : decode cX8_trace 4 = .ok (.iload_n 1, 1) := by decide +kernel
theorem dX8_trace_5 : decode cX8_trace 5 = .ok (.invokevirtual 326, 3) := by decide +kernel
theorem dX8_trace_8 : decode cX8_trace 8 = .ok (.ireturn, 1) := by decide +kernel
theorem dX8_count_0 : decode cX8_count 0 = .ok (.iload_n 1, 1) := by decide +kernel
theorem dX8_count_1 : decode cX8_count 1 = .ok (.tableswitch 87 0 5 #[39, 47, 55, 63, 71, 79], 39) := by decide +kernel
theorem dX8_count_40 : decode cX8_count 40 = .ok (.aload_n 0, 1) := by decide +kernel
theorem dX8_count_41 : decode cX8_count 41 = .ok (.getfield 10, 3) := by decide +kernel
theorem dX8_count_44 : decode cX8_count 44 = .ok (.invokevirtual 329, 3) := by decide +kernel
theorem dX8_count_47 : decode cX8_count 47 = .ok (.ireturn, 1) := by decide +kernel
theorem dX8_count_48 : decode cX8_count 48 = .ok (.aload_n 0, 1) := by decide +kernel
theorem dX8_count_49 : decode cX8_count 49 = .ok (.getfield 76, 3) := by decide +kernel
theorem dX8_count_52 : decode cX8_count 52 = .ok (.getfield 172, 3) := by decide +kernel
theorem dX8_count_55 : decode cX8_count 55 = .ok (.ireturn, 1) := by decide +kernel
theorem dX8_count_56 : decode cX8_count 56 = .ok (.aload_n 0, 1) := by decide +kernel
theorem dX8_count_57 : decode cX8_count 57 = .ok (.getfield 76, 3) := by decide +kernel
theorem dX8_count_60 : decode cX8_count 60 = .ok (.getfield 210, 3) := by decide +kernel
theorem dX8_count_63 : decode cX8_count 63 = .ok (.ireturn, 1) := by decide +kernel
theorem dX8_count_64 : decode cX8_count 64 = .ok (.aload_n 0, 1) := by decide +kernel
theorem dX8_count_65 : decode cX8_count 65 = .ok (.getfield 76, 3) := by decide +kernel
theorem dX8_count_68 : decode cX8_count 68 = .ok (.getfield 154, 3) := by decide +kernel
theorem dX8_count_71 : decode cX8_count 71 = .ok (.ireturn, 1) := by decide +kernel
theorem dX8_count_72 : decode cX8_count 72 = .ok (.aload_n 0, 1) := by decide +kernel
theorem dX8_count_73 : decode cX8_count 73 = .ok (.getfield 76, 3) := by decide +kernel
theorem dX8_count_76 : decode cX8_count 76 = .ok (.getfield 332, 3) := by decide +kernel
theorem dX8_count_79 : decode cX8_count 79 = .ok (.ireturn, 1) := by decide +kernel
theorem dX8_count_80 : decode cX8_count 80 = .ok (.aload_n 0, 1) := by decide +kernel
theorem dX8_count_81 : decode cX8_count 81 = .ok (.getfield 19, 3) := by decide +kernel
theorem dX8_count_84 : decode cX8_count 84 = .ok (.getfield 335, 3) := by decide +kernel
theorem dX8_count_87 : decode cX8_count 87 = .ok (.ireturn, 1) := by decide +kernel
theorem dX8_count_88 : decode cX8_count 88 = .ok (.ldc 98, 2) := by decide +kernel
theorem dX8_count_90 : decode cX8_count 90 = .ok (.ireturn, 1) := by decide +kernel
theorem dX8_status_0 : decode cX8_status 0 = .ok (.aload_n 0, 1) := by decide +kernel
theorem dX8_status_1 : decode cX8_status 1 = .ok (.getfield 91, 3) := by decide +kernel
theorem dX8_status_4 : decode cX8_status 4 = .ok (.ireturn, 1) := by decide +kernel
theorem dX8_found_0 : decode cX8_found 0 = .ok (.aload_n 0, 1) := by decide +kernel
theorem dX8_found_1 : decode cX8_found 1 = .ok (.iload_n 1, 1) := by decide +kernel
theorem dX8_found_2 : decode cX8_found 2 = .ok (.putfield 91, 3) := by decide +kernel
theorem dX8_found_5 : decode cX8_found 5 = .ok (.ldc_w 338, 3) := by decide +kernel
theorem dX8_found_8 : decode cX8_found 8 = .ok (.iload_n 1, 1) := by decide +kernel
theorem dX8_found_9 : decode cX8_found 9 = .ok (.isub, 1) := by decide +kernel
theorem dX8_found_10 : decode cX8_found 10 = .ok (.ireturn, 1) := by decide +kernel
theorem dX8_fine_0 : decode cX8_fine 0 = .ok (.aload_n 0, 1) := by decide +kernel
theorem dX8_fine_1 : decode cX8_fine 1 = .ok (.iconst 0, 1) := by decide +kernel
theorem dX8_fine_2 : decode cX8_fine 2 = .ok (.putfield 91, 3) := by decide +kernel
theorem dX8_fine_5 : decode cX8_fine 5 = .ok (.iload_n 1, 1) := by decide +kernel
theorem dX8_fine_6 : decode cX8_fine 6 = .ok (.ireturn, 1) := by decide +kernel
theorem dX9_init_0 : decode cX9_init 0 = .ok (.aload_n 0, 1) := by decide +kernel
theorem dX9_init_1 : decode cX9_init 1 = .ok (.invokespecial 1, 3) := by decide +kernel
theorem dX9_init_4 : decode cX9_init 4 = .ok (.aload_n 0, 1) := by decide +kernel
theorem dX9_init_5 : decode cX9_init 5 = .ok (.bipush 8, 2) := by decide +kernel
theorem dX9_init_7 : decode cX9_init 7 = .ok (.newarray .int, 2) := by decide +kernel
theorem dX9_init_9 : decode cX9_init 9 = .ok (.dup, 1) := by decide +kernel
theorem dX9_init_10 : decode cX9_init 10 = .ok (.iconst 0, 1) := by decide +kernel
theorem dX9_init_11 : decode cX9_init 11 = .ok (.iconst (-1), 1) := by decide +kernel
theorem dX9_init_12 : decode cX9_init 12 = .ok (.iastore, 1) := by decide +kernel
theorem dX9_init_13 : decode cX9_init 13 = .ok (.dup, 1) := by decide +kernel
theorem dX9_init_14 : decode cX9_init 14 = .ok (.iconst 1, 1) := by decide +kernel
theorem dX9_init_15 : decode cX9_init 15 = .ok (.iconst (-1), 1) := by decide +kernel
theorem dX9_init_16 : decode cX9_init 16 = .ok (.iastore, 1) := by decide +kernel
theorem dX9_init_17 : decode cX9_init 17 = .ok (.dup, 1) := by decide +kernel
theorem dX9_init_18 : decode cX9_init 18 = .ok (.iconst 2, 1) := by decide +kernel
theorem dX9_init_19 : decode cX9_init 19 = .ok (.iconst (-1), 1) := by decide +kernel
theorem dX9_init_20 : decode cX9_init 20 = .ok (.iastore, 1) := by decide +kernel
theorem dX9_init_21 : decode cX9_init 21 = .ok (.dup, 1) := by decide +kernel
theorem dX9_init_22 : decode cX9_init 22 = .ok (.iconst 3, 1) := by decide +kernel
theorem dX9_init_23 : decode cX9_init 23 = .ok (.iconst (-1), 1) := by decide +kernel
theorem dX9_init_24 : decode cX9_init 24 = .ok (.iastore, 1) := by decide +kernel
theorem dX9_init_25 : decode cX9_init 25 = .ok (.dup, 1) := by decide +kernel
theorem dX9_init_26 : decode cX9_init 26 = .ok (.iconst 4, 1) := by decide +kernel
theorem dX9_init_27 : decode cX9_init 27 = .ok (.iconst (-1), 1) := by decide +kernel
theorem dX9_init_28 : decode cX9_init 28 = .ok (.iastore, 1) := by decide +kernel
theorem dX9_init_29 : decode cX9_init 29 = .ok (.dup, 1) := by decide +kernel
theorem dX9_init_30 : decode cX9_init 30 = .ok (.iconst 5, 1) := by decide +kernel
theorem dX9_init_31 : decode cX9_init 31 = .ok (.iconst (-1), 1) := by decide +kernel
theorem dX9_init_32 : decode cX9_init 32 = .ok (.iastore, 1) := by decide +kernel
theorem dX9_init_33 : decode cX9_init 33 = .ok (.dup, 1) := by decide +kernel
theorem dX9_init_34 : decode cX9_init 34 = .ok (.bipush 6, 2) := by decide +kernel
theorem dX9_init_36 : decode cX9_init 36 = .ok (.iconst (-1), 1) := by decide +kernel
theorem dX9_init_37 : decode cX9_init 37 = .ok (.iastore, 1) := by decide +kernel
theorem dX9_init_38 : decode cX9_init 38 = .ok (.dup, 1) := by decide +kernel
theorem dX9_init_39 : decode cX9_init 39 = .ok (.bipush 7, 2) := by decide +kernel
theorem dX9_init_41 : decode cX9_init 41 = .ok (.iconst (-1), 1) := by decide +kernel
theorem dX9_init_42 : decode cX9_init 42 = .ok (.iastore, 1) := by decide +kernel
theorem dX9_init_43 : decode cX9_init 43 = .ok (.putfield 7, 3) := by decide +kernel
theorem dX9_init_46 : decode cX9_init 46 = .ok (.aload_n 0, 1) := by decide +kernel
theorem dX9_init_47 : decode cX9_init 47 = .ok (.bipush 8, 2) := by decide +kernel
theorem dX9_init_49 : decode cX9_init 49 = .ok (.newarray .int, 2) := by decide +kernel
theorem dX9_init_51 : decode cX9_init 51 = .ok (.putfield 13, 3) := by decide +kernel
theorem dX9_init_54 : decode cX9_init 54 = .ok (.aload_n 0, 1) := by decide +kernel
theorem dX9_init_55 : decode cX9_init 55 = .ok (.sipush 320, 3) := by decide +kernel
theorem dX9_init_58 : decode cX9_init 58 = .ok (.newarray .int, 2) := by decide +kernel
theorem dX9_init_60 : decode cX9_init 60 = .ok (.putfield 16, 3) := by decide +kernel
theorem dX9_init_63 : decode cX9_init 63 = .ok (.aload_n 0, 1) := by decide +kernel
theorem dX9_init_64 : decode cX9_init 64 = .ok (.sipush 160, 3) := by decide +kernel
theorem dX9_init_67 : decode cX9_init 67 = .ok (.newarray .int, 2) := by decide +kernel
theorem dX9_init_69 : decode cX9_init 69 = .ok (.putfield 19, 3) := by decide +kernel
theorem dX9_init_72 : decode cX9_init 72 = .ok (.aload_n 0, 1) := by decide +kernel
theorem dX9_init_73 : decode cX9_init 73 = .ok (.bipush 10, 2) := by decide +kernel
theorem dX9_init_75 : decode cX9_init 75 = .ok (.newarray .int, 2) := by decide +kernel
theorem dX9_init_77 : decode cX9_init 77 = .ok (.putfield 22, 3) := by decide +kernel
theorem dX9_init_80 : decode cX9_init 80 = .ok (.aload_n 0, 1) := by decide +kernel
theorem dX9_init_81 : decode cX9_init 81 = .ok (.bipush 10, 2) := by decide +kernel
theorem dX9_init_83 : decode cX9_init 83 = .ok (.newarray .int, 2) := by decide +kernel
theorem dX9_init_85 : decode cX9_init 85 = .ok (.putfield 25, 3) := by decide +kernel
theorem dX9_init_88 : decode cX9_init 88 = .ok (.aload_n 0, 1) := by decide +kernel
theorem dX9_init_89 : decode cX9_init 89 = .ok (.sipush 160, 3) := by decide +kernel
theorem dX9_init_92 : decode cX9_init 92 = .ok (.newarray .int, 2) := by decide +kernel
theorem dX9_init_94 : decode cX9_init 94 = .ok (.putfield 28, 3) := by decide +kernel
theorem dX9_init_97 : decode cX9_init 97 = .ok (.aload_n 0, 1) := by decide +kernel
theorem dX9_init_98 : decode cX9_init 98 = .ok (.bipush 10, 2) := by decide +kernel
theorem dX9_init_100 : decode cX9_init 100 = .ok (.newarray .int, 2) := by decide +kernel
theorem dX9_init_102 : decode cX9_init 102 = .ok (.putfield 31, 3) := by decide +kernel
theorem dX9_init_105 : decode cX9_init 105 = .ok (.aload_n 0, 1) := by decide +kernel
theorem dX9_init_106 : decode cX9_init 106 = .ok (.bipush 10, 2) := by decide +kernel
theorem dX9_init_108 : decode cX9_init 108 = .ok (.newarray .int, 2) := by decide +kernel
theorem dX9_init_110 : decode cX9_init 110 = .ok (.putfield 34, 3) := by decide +kernel
theorem dX9_init_113 : decode cX9_init 113 = .ok (.aload_n 0, 1) := by decide +kernel
theorem dX9_init_114 : decode cX9_init 114 = .ok (.sipush 500, 3) := by decide +kernel
theorem dX9_init_117 : decode cX9_init 117 = .ok (.newarray .int, 2) := by decide +kernel
theorem dX9_init_119 : decode cX9_init 119 = .ok (.putfield 37, 3) := by decide +kernel
theorem dX9_init_122 : decode cX9_init 122 = .ok (.aload_n 0, 1) := by decide +kernel
theorem dX9_init_123 : decode cX9_init 123 = .ok (.bipush 12, 2) := by decide +kernel
theorem dX9_init_125 : decode cX9_init 125 = .ok (.newarray .int, 2) := by decide +kernel
theorem dX9_init_127 : decode cX9_init 127 = .ok (.putfield 40, 3) := by decide +kernel
theorem dX9_init_130 : decode cX9_init 130 = .ok (.aload_n 0, 1) := by decide +kernel
theorem dX9_init_131 : decode cX9_init 131 = .ok (.bipush 6, 2) := by decide +kernel
theorem dX9_init_133 : decode cX9_init 133 = .ok (.newarray .int, 2) := by decide +kernel
theorem dX9_init_135 : decode cX9_init 135 = .ok (.putfield 43, 3) := by decide +kernel
theorem dX9_init_138 : decode cX9_init 138 = .ok (.aload_n 0, 1) := by decide +kernel
theorem dX9_init_139 : decode cX9_init 139 = .ok (.bipush 48, 2) := by decide +kernel
theorem dX9_init_141 : decode cX9_init 141 = .ok (.newarray .int, 2) := by decide +kernel
theorem dX9_init_143 : decode cX9_init 143 = .ok (.putfield 46, 3) := by decide +kernel
theorem dX9_init_146 : decode cX9_init 146 = .ok (.aload_n 0, 1) := by decide +kernel
theorem dX9_init_147 : decode cX9_init 147 = .ok (.bipush 12, 2) := by decide +kernel
theorem dX9_init_149 : decode cX9_init 149 = .ok (.newarray .int, 2) := by decide +kernel
theorem dX9_init_151 : decode cX9_init 151 = .ok (.putfield 49, 3) := by decide +kernel
theorem dX9_init_154 : decode cX9_init 154 = .ok (.aload_n 0, 1) := by decide +kernel
theorem dX9_init_155 : decode cX9_init 155 = .ok (.bipush 12, 2) := by decide +kernel
theorem dX9_init_157 : decode cX9_init 157 = .ok (.newarray .boolean, 2) := by decide +kernel
theorem dX9_init_159 : decode cX9_init 159 = .ok (.putfield 52, 3) := by decide +kernel
theorem dX9_init_162 : decode cX9_init 162 = .ok (.aload_n 0, 1) := by decide +kernel
theorem dX9_init_163 : decode cX9_init 163 = .ok (.bipush 48, 2) := by decide +kernel
theorem dX9_init_165 : decode cX9_init 165 = .ok (.newarray .int, 2) := by decide +kernel
theorem dX9_init_167 : decode cX9_init 167 = .ok (.putfield 56, 3) := by decide +kernel
theorem dX9_init_170 : decode cX9_init 170 = .ok (.aload_n 0, 1) := by decide +kernel
theorem dX9_init_171 : decode cX9_init 171 = .ok (.bipush 12, 2) := by decide +kernel
theorem dX9_init_173 : decode cX9_init 173 = .ok (.newarray .int, 2) := by decide +kernel
theorem dX9_init_175 : decode cX9_init 175 = .ok (.putfield 59, 3) := by decide +kernel
theorem dX9_init_178 : decode cX9_init 178 = .ok (.aload_n 0, 1) := by decide +kernel
theorem dX9_init_179 : decode cX9_init 179 = .ok (.bipush 6, 2) := by decide +kernel
theorem dX9_init_181 : decode cX9_init 181 = .ok (.newarray .int, 2) := by decide +kernel
theorem dX9_init_183 : decode cX9_init 183 = .ok (.putfield 62, 3) := by decide +kernel
theorem dX9_init_186 : decode cX9_init 186 = .ok (.aload_n 0, 1) := by decide +kernel
theorem dX9_init_187 : decode cX9_init 187 = .ok (.bipush 6, 2) := by decide +kernel
theorem dX9_init_189 : decode cX9_init 189 = .ok (.newarray .int, 2) := by decide +kernel
theorem dX9_init_191 : decode cX9_init 191 = .ok (.putfield 65, 3) := by decide +kernel
theorem dX9_init_194 : decode cX9_init 194 = .ok (.aload_n 0, 1) := by decide +kernel
theorem dX9_init_195 : decode cX9_init 195 = .ok (.bipush 16, 2) := by decide +kernel
theorem dX9_init_197 : decode cX9_init 197 = .ok (.newarray .int, 2) := by decide +kernel
theorem dX9_init_199 : decode cX9_init 199 = .ok (.putfield 68, 3) := by decide +kernel
theorem dX9_init_202 : decode cX9_init 202 = .ok (.return_, 1) := by decide +kernel
theorem dX9_in_0 : decode cX9_in 0 = .ok (.lload_n 0, 1) := by decide +kernel
theorem dX9_in_1 : decode cX9_in 1 = .ok (.lload_n 2, 1) := by decide +kernel
theorem dX9_in_2 : decode cX9_in 2 = .ok (.lcmp, 1) := by decide +kernel
theorem dX9_in_3 : decode cX9_in 3 = .ok (.ifCond .lt 14, 3) := by decide +kernel
theorem dX9_in_6 : decode cX9_in 6 = .ok (.lload_n 0, 1) := by decide +kernel
theorem dX9_in_7 : decode cX9_in 7 = .ok (.lload 4, 2) := by decide +kernel
theorem dX9_in_9 : decode cX9_in 9 = .ok (.lcmp, 1) := by decide +kernel
theorem dX9_in_10 : decode cX9_in 10 = .ok (.ifCond .gt 7, 3) := by decide +kernel
theorem dX9_in_13 : decode cX9_in 13 = .ok (.iconst 1, 1) := by decide +kernel
theorem dX9_in_14 : decode cX9_in 14 = .ok (.goto 4, 3) := by decide +kernel
theorem dX9_in_17 : decode cX9_in 17 = .ok (.iconst 0, 1) := by decide +kernel
theorem dX9_in_18 : decode cX9_in 18 = .ok (.ireturn, 1) := by decide +kernel
theorem dX9_finding_0 : decode cX9_finding 0 = .ok (.aload_n 0, 1) := by decide +kernel
theorem dX9_finding_1 : decode cX9_finding 1 = .ok (.iload_n 1, 1) := by decide +kernel
theorem dX9_finding_2 : decode cX9_finding 2 = .ok (.putfield 75, 3) := by decide +kernel
theorem dX9_finding_5 : decode cX9_finding 5 = .ok (.ldc 78, 2) := by decide +kernel
theorem dX9_finding_7 : decode cX9_finding 7 = .ok (.iload_n 1, 1) := by decide +kernel
theorem dX9_finding_8 : decode cX9_finding 8 = .ok (.isub, 1) := by decide +kernel
theorem dX9_finding_9 : decode cX9_finding 9 = .ok (.ireturn, 1) := by decide +kernel
theorem dX9_isSheet_0 : decode cX9_isSheet 0 = .ok (.iload_n 0, 1) := by decide +kernel
theorem dX9_isSheet_1 : decode cX9_isSheet 1 = .ok (.i2l, 1) := by decide +kernel
theorem dX9_isSheet_2 : decode cX9_isSheet 2 = .ok (.lconst 0, 1) := by decide +kernel
theorem dX9_isSheet_3 : decode cX9_isSheet 3 = .ok (.ldc2_w 79, 3) := by decide +kernel
theorem dX9_isSheet_6 : decode cX9_isSheet 6 = .ok (.invokestatic 81, 3) := by decide +kernel
theorem dX9_isSheet_9 : decode cX9_isSheet 9 = .ok (.ireturn, 1) := by decide +kernel
theorem dX9_sheet_0 : decode cX9_sheet 0 = .ok (.aload_n 0, 1) := by decide +kernel
theorem dX9_sheet_1 : decode cX9_sheet 1 = .ok (.iconst 0, 1) := by decide +kernel
theorem dX9_sheet_2 : decode cX9_sheet 2 = .ok (.putfield 71, 3) := by decide +kernel
theorem dX9_sheet_5 : decode cX9_sheet 5 = .ok (.iload_n 1, 1) := by decide +kernel
theorem dX9_sheet_6 : decode cX9_sheet 6 = .ok (.invokestatic 85, 3) := by decide +kernel
theorem dX9_sheet_9 : decode cX9_sheet 9 = .ok (.ifCond .eq 21, 3) := by decide +kernel
theorem dX9_sheet_12 : decode cX9_sheet 12 = .ok (.iload_n 2, 1) := by decide +kernel
theorem dX9_sheet_13 : decode cX9_sheet 13 = .ok (.i2l, 1) := by decide +kernel
theorem dX9_sheet_14 : decode cX9_sheet 14 = .ok (.lconst 0, 1) := by decide +kernel
theorem dX9_sheet_15 : decode cX9_sheet 15 = .ok (.ldc2_w 89, 3) := by decide +kernel
theorem dX9_sheet_18 : decode cX9_sheet 18 = .ok (.invokestatic 81, 3) := by decide +kernel
theorem dX9_sheet_21 : decode cX9_sheet 21 = .ok (.ifCond .eq 9, 3) := by decide +kernel
theorem dX9_sheet_24 : decode cX9_sheet 24 = .ok (.iload_n 3, 1) := by decide +kernel
theorem dX9_sheet_25 : decode cX9_sheet 25 = .ok (.bipush 40, 2) := by decide +kernel
theorem dX9_sheet_27 : decode cX9_sheet 27 = .ok (.if_icmp .le 6, 3) := by decide +kernel
theorem dX9_sheet_30 : decode cX9_sheet 30 = .ok (.ldc 91, 2) := by decide +kernel
theorem dX9_sheet_32 : decode cX9_sheet 32 = .ok (.ireturn, 1) := by decide +kernel
theorem dX9_sheet_33 : decode cX9_sheet 33 = .ok (.aload_n 0, 1) := by decide +kernel
theorem dX9_sheet_34 : decode cX9_sheet 34 = .ok (.iconst 0, 1) := by decide +kernel
theorem dX9_sheet_35 : decode cX9_sheet 35 = .ok (.putfield 75, 3) := by decide +kernel
theorem dX9_sheet_38 : decode cX9_sheet 38 = .ok (.iload_n 3, 1) := by decide +kernel
theorem dX9_sheet_39 : decode cX9_sheet 39 = .ok (.ifCond .ge 9, 3) := by decide +kernel
theorem dX9_sheet_42 : decode cX9_sheet 42 = .ok (.aload_n 0, 1) := by decide +kernel
theorem dX9_sheet_43 : decode cX9_sheet 43 = .ok (.iconst 4, 1) := by decide +kernel
theorem dX9_sheet_44 : decode cX9_sheet 44 = .ok (.invokevirtual 92, 3) := by decide +kernel
theorem dX9_sheet_47 : decode cX9_sheet 47 = .ok (.ireturn, 1) := by decide +kernel
theorem dX9_sheet_48 : decode cX9_sheet 48 = .ok (.aload_n 0, 1) := by decide +kernel
theorem dX9_sheet_49 : decode cX9_sheet 49 = .ok (.getfield 7, 3) := by decide +kernel
theorem dX9_sheet_52 : decode cX9_sheet 52 = .ok (.iload_n 1, 1) := by decide +kernel
theorem dX9_sheet_53 : decode cX9_sheet 53 = .ok (.iload_n 2, 1) := by decide +kernel
theorem dX9_sheet_54 : decode cX9_sheet 54 = .ok (.iastore, 1) := by decide +kernel
theorem dX9_sheet_55 : decode cX9_sheet 55 = .ok (.aload_n 0, 1) := by decide +kernel
theorem dX9_sheet_56 : decode cX9_sheet 56 = .ok (.getfield 13, 3) := by decide +kernel
theorem dX9_sheet_59 : decode cX9_sheet 59 = .ok (.iload_n 1, 1) := by decide +kernel
theorem dX9_sheet_60 : decode cX9_sheet 60 = .ok (.iload_n 3, 1) := by decide +kernel
theorem dX9_sheet_61 : decode cX9_sheet 61 = .ok (.iastore, 1) := by decide +kernel
theorem dX9_sheet_62 : decode cX9_sheet 62 = .ok (.iconst 0, 1) := by decide +kernel
theorem dX9_sheet_63 : decode cX9_sheet 63 = .ok (.istore 4, 2) := by decide +kernel
theorem dX9_sheet_65 : decode cX9_sheet 65 = .ok (.iload 4, 2) := by decide +kernel
theorem dX9_sheet_67 : decode cX9_sheet 67 = .ok (.bipush 40, 2) := by decide +kernel
theorem dX9_sheet_69 : decode cX9_sheet 69 = .ok (.if_icmp .ge 22, 3) := by decide +kernel
theorem dX9_sheet_72 : decode cX9_sheet 72 = .ok (.aload_n 0, 1) := by decide +kernel
theorem dX9_sheet_73 : decode cX9_sheet 73 = .ok (.getfield 16, 3) := by decide +kernel
theorem dX9_sheet_76 : decode cX9_sheet 76 = .ok (.bipush 40, 2) := by decide +kernel
theorem dX9_sheet_78 : decode cX9_sheet 78 = .ok (.iload_n 1, 1) := by decide +kernel
theorem dX9_sheet_79 : decode cX9_sheet 79 = .ok (.imul, 1) := by decide +kernel
theorem dX9_sheet_80 : decode cX9_sheet 80 = .ok (.iload 4, 2) := by decide +kernel
theorem dX9_sheet_82 : decode cX9_sheet 82 = .ok (.iadd, 1) := by decide +kernel
theorem dX9_sheet_83 : decode cX9_sheet 83 = .ok (.iconst 0, 1) := by decide +kernel
theorem dX9_sheet_84 : decode cX9_sheet 84 = .ok (.iastore, 1) := by decide +kernel
theorem dX9_sheet_85 : decode cX9_sheet 85 = .ok (.iinc 4 1, 3) := by decide +kernel
theorem dX9_sheet_88 : decode cX9_sheet 88 = .ok (.goto (-23), 3) := by decide +kernel
theorem dX9_sheet_91 : decode cX9_sheet 91 = .ok (.iload_n 3, 1) := by decide +kernel
theorem dX9_sheet_92 : decode cX9_sheet 92 = .ok (.ireturn, 1) := by decide +kernel
theorem dX9_set_0 : decode cX9_set 0 = .ok (.aload_n 0, 1) := by decide +kernel
theorem dX9_set_1 : decode cX9_set 1 = .ok (.iconst 0, 1) := by decide +kernel
theorem dX9_set_2 : decode cX9_set 2 = .ok (.putfield 71, 3) := by decide +kernel
theorem dX9_set_5 : decode cX9_set 5 = .ok (.iload_n 1, 1) := by decide +kernel
theorem dX9_set_6 : decode cX9_set 6 = .ok (.invokestatic 85, 3) := by decide +kernel
theorem dX9_set_9 : decode cX9_set 9 = .ok (.ifCond .ne 6, 3) := by decide +kernel
theorem dX9_set_12 : decode cX9_set 12 = .ok (.ldc 91, 2) := by decide +kernel
theorem dX9_set_14 : decode cX9_set 14 = .ok (.ireturn, 1) := by decide +kernel
theorem dX9_set_15 : decode cX9_set 15 = .ok (.aload_n 0, 1) := by decide +kernel
theorem dX9_set_16 : decode cX9_set 16 = .ok (.iconst 0, 1) := by decide +kernel
theorem dX9_set_17 : decode cX9_set 17 = .ok (.putfield 75, 3) := by decide +kernel
theorem dX9_set_20 : decode cX9_set 20 = .ok (.aload_n 0, 1) := by decide +kernel
theorem dX9_set_21 : decode cX9_set 21 = .ok (.getfield 7, 3) := by decide +kernel
theorem dX9_set_24 : decode cX9_set 24 = .ok (.iload_n 1, 1) := by decide +kernel
theorem dX9_set_25 : decode cX9_set 25 = .ok (.iaload, 1) := by decide +kernel
theorem dX9_set_26 : decode cX9_set 26 = .ok (.ifCond .ge 9, 3) := by decide +kernel
theorem dX9_set_29 : decode cX9_set 29 = .ok (.aload_n 0, 1) := by decide +kernel
theorem dX9_set_30 : decode cX9_set 30 = .ok (.iconst 1, 1) := by decide +kernel
theorem dX9_set_31 : decode cX9_set 31 = .ok (.invokevirtual 92, 3) := by decide +kernel
theorem dX9_set_34 : decode cX9_set 34 = .ok (.ireturn, 1) := by decide +kernel
theorem dX9_set_35 : decode cX9_set 35 = .ok (.iload_n 2, 1) := by decide +kernel
theorem dX9_set_36 : decode cX9_set 36 = .ok (.i2l, 1) := by decide +kernel
theorem dX9_set_37 : decode cX9_set 37 = .ok (.lconst 0, 1) := by decide +kernel
theorem dX9_set_38 : decode cX9_set 38 = .ok (.aload_n 0, 1) := by decide +kernel
theorem dX9_set_39 : decode cX9_set 39 = .ok (.getfield 13, 3) := by decide +kernel
theorem dX9_set_42 : decode cX9_set 42 = .ok (.iload_n 1, 1) := by decide +kernel
theorem dX9_set_43 : decode cX9_set 43 = .ok (.iaload, 1) := by decide +kernel
theorem dX9_set_44 : decode cX9_set 44 = .ok (.iconst 1, 1) := by decide +kernel
theorem dX9_set_45 : decode cX9_set 45 = .ok (.isub, 1) := by decide +kernel
theorem dX9_set_46 : decode cX9_set 46 = .ok (.i2l, 1) := by decide +kernel
theorem dX9_set_47 : decode cX9_set 47 = .ok (.invokestatic 81, 3) := by decide +kernel
theorem dX9_set_50 : decode cX9_set 50 = .ok (.ifCond .ne 9, 3) := by decide +kernel
theorem dX9_set_53 : decode cX9_set 53 = .ok (.aload_n 0, 1) := by decide +kernel
theorem dX9_set_54 : decode cX9_set 54 = .ok (.iconst 2, 1) := by decide +kernel
theorem dX9_set_55 : decode cX9_set 55 = .ok (.invokevirtual 92, 3) := by decide +kernel
theorem dX9_set_58 : decode cX9_set 58 = .ok (.ireturn, 1) := by decide +kernel
theorem dX9_set_59 : decode cX9_set 59 = .ok (.aload_n 0, 1) := by decide +kernel
theorem dX9_set_60 : decode cX9_set 60 = .ok (.getfield 16, 3) := by decide +kernel
theorem dX9_set_63 : decode cX9_set 63 = .ok (.bipush 40, 2) := by decide +kernel
theorem dX9_set_65 : decode cX9_set 65 = .ok (.iload_n 1, 1) := by decide +kernel
theorem dX9_set_66 : decode cX9_set 66 = .ok (.imul, 1) := by decide +kernel
theorem dX9_set_67 : decode cX9_set 67 = .ok (.iload_n 2, 1) := by decide +kernel
theorem dX9_set_68 : decode cX9_set 68 = .ok (.iadd, 1) := by decide +kernel
theorem dX9_set_69 : decode cX9_set 69 = .ok (.aload_n 0, 1) := by decide +kernel
theorem dX9_set_70 : decode cX9_set 70 = .ok (.getfield 7, 3) := by decide +kernel
theorem dX9_set_73 : decode cX9_set 73 = .ok (.iload_n 1, 1) := by decide +kernel
theorem dX9_set_74 : decode cX9_set 74 = .ok (.iaload, 1) := by decide +kernel
theorem dX9_set_75 : decode cX9_set 75 = .ok (.ifCond .ne 8, 3) := by decide +kernel
theorem dX9_set_78 : decode cX9_set 78 = .ok (.iload_n 3, 1) := by decide +kernel
theorem dX9_set_79 : decode cX9_set 79 = .ok (.i2b, 1) := by decide +kernel
theorem dX9_set_80 : decode cX9_set 80 = .ok (.goto 19, 3) := by decide +kernel
theorem dX9_set_83 : decode cX9_set 83 = .ok (.aload_n 0, 1) := by decide +kernel
theorem dX9_set_84 : decode cX9_set 84 = .ok (.getfield 7, 3) := by decide +kernel
theorem dX9_set_87 : decode cX9_set 87 = .ok (.iload_n 1, 1) := by decide +kernel
theorem dX9_set_88 : decode cX9_set 88 = .ok (.iaload, 1) := by decide +kernel
theorem dX9_set_89 : decode cX9_set 89 = .ok (.iconst 1, 1) := by decide +kernel
theorem dX9_set_90 : decode cX9_set 90 = .ok (.if_icmp .ne 8, 3) := by decide +kernel
theorem dX9_set_93 : decode cX9_set 93 = .ok (.iload_n 3, 1) := by decide +kernel
theorem dX9_set_94 : decode cX9_set 94 = .ok (.i2s, 1) := by decide +kernel
theorem dX9_set_95 : decode cX9_set 95 = .ok (.goto 4, 3) := by decide +kernel
theorem dX9_set_98 : decode cX9_set 98 = .ok (.iload_n 3, 1) := by decide +kernel
theorem dX9_set_99 : decode cX9_set 99 = .ok (.iastore, 1) := by decide +kernel
theorem dX9_set_100 : decode cX9_set 100 = .ok (.aload_n 0, 1) := by decide +kernel
theorem dX9_set_101 : decode cX9_set 101 = .ok (.getfield 16, 3) := by decide +kernel
theorem dX9_set_104 : decode cX9_set 104 = .ok (.bipush 40, 2) := by decide +kernel
theorem dX9_set_106 : decode cX9_set 106 = .ok (.iload_n 1, 1) := by decide +kernel
theorem dX9_set_107 : decode cX9_set 107 = .ok (.imul, 1) := by decide +kernel
theorem dX9_set_108 : decode cX9_set 108 = .ok (.iload_n 2, 1) := by decide +kernel
theorem dX9_set_109 : decode cX9_set 109 = .ok (.iadd, 1) := by decide +kernel
theorem dX9_set_110 : decode cX9_set 110 = .ok (.iaload, 1) := by decide +kernel
theorem dX9_set_111 : decode cX9_set 111 = .ok (.ireturn, 1) := by decide +kernel
theorem dX9_copy_0 : decode cX9_copy 0 = .ok (.aload_n 0, 1) := by decide +kernel
theorem dX9_copy_1 : decode cX9_copy 1 = .ok (.iconst 0, 1) := by decide +kernel
theorem dX9_copy_2 : decode cX9_copy 2 = .ok (.putfield 71, 3) := by decide +kernel
theorem dX9_copy_5 : decode cX9_copy 5 = .ok (.iload_n 1, 1) := by decide +kernel
theorem dX9_copy_6 : decode cX9_copy 6 = .ok (.invokestatic 85, 3) := by decide +kernel
theorem dX9_copy_9 : decode cX9_copy 9 = .ok (.ifCond .eq 10, 3) := by decide +kernel
