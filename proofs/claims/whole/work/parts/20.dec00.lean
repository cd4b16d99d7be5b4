theorem dX0_init_0 : decode cX0_init 0 = .ok (.aload_n 0, 1) := by decide +kernel
theorem dX0_init_1 : decode cX0_init 1 = .ok (.invokespecial 1, 3) := by decide +kernel
theorem dX0_init_4 : decode cX0_init 4 = .ok (.aload_n 0, 1) := by decide +kernel
theorem dX0_init_5 : decode cX0_init 5 = .ok (.aload_n 1, 1) := by decide +kernel
theorem dX0_init_6 : decode cX0_init 6 = .ok (.putfield 7, 3) := by decide +kernel
theorem dX0_init_9 : decode cX0_init 9 = .ok (.aload_n 0, 1) := by decide +kernel
theorem dX0_init_10 : decode cX0_init 10 = .ok (.aload_n 2, 1) := by decide +kernel
theorem dX0_init_11 : decode cX0_init 11 = .ok (.putfield 13, 3) := by decide +kernel
theorem dX0_init_14 : decode cX0_init 14 = .ok (.return_, 1) := by decide +kernel
theorem dX1_init_0 : decode cX1_init 0 = .ok (.aload_n 0, 1) := by decide +kernel
theorem dX1_init_1 : decode cX1_init 1 = .ok (.invokespecial 1, 3) := by decide +kernel
theorem dX1_init_4 : decode cX1_init 4 = .ok (.aload_n 0, 1) := by decide +kernel
theorem dX1_init_5 : decode cX1_init 5 = .ok (.aload_n 1, 1) := by decide +kernel
theorem dX1_init_6 : decode cX1_init 6 = .ok (.putfield 7, 3) := by decide +kernel
theorem dX1_init_9 : decode cX1_init 9 = .ok (.aload_n 0, 1) := by decide +kernel
theorem dX1_init_10 : decode cX1_init 10 = .ok (.iload_n 2, 1) := by decide +kernel
theorem dX1_init_11 : decode cX1_init 11 = .ok (.putfield 13, 3) := by decide +kernel
theorem dX1_init_14 : decode cX1_init 14 = .ok (.aload_n 0, 1) := by decide +kernel
theorem dX1_init_15 : decode cX1_init 15 = .ok (.iload_n 3, 1) := by decide +kernel
theorem dX1_init_16 : decode cX1_init 16 = .ok (.putfield 17, 3) := by decide +kernel
theorem dX1_init_19 : decode cX1_init 19 = .ok (.return_, 1) := by decide +kernel
theorem dX2_init_0 : decode cX2_init 0 = .ok (.aload_n 0, 1) := by decide +kernel
theorem dX2_init_1 : decode cX2_init 1 = .ok (.invokespecial 3, 3) := by decide +kernel
theorem dX2_init_4 : decode cX2_init 4 = .ok (.aload_n 0, 1) := by decide +kernel
theorem dX2_init_5 : decode cX2_init 5 = .ok (.new 9, 3) := by decide +kernel
theorem dX2_init_8 : decode cX2_init 8 = .ok (.dup, 1) := by decide +kernel
theorem dX2_init_9 : decode cX2_init 9 = .ok (.invokespecial 11, 3) := by decide +kernel
theorem dX2_init_12 : decode cX2_init 12 = .ok (.putfield 12, 3) := by decide +kernel
theorem dX2_init_15 : decode cX2_init 15 = .ok (.return_, 1) := by decide +kernel
theorem dX2_at_0 : decode cX2_at 0 = .ok (.iload_n 1, 1) := by decide +kernel
theorem dX2_at_1 : decode cX2_at 1 = .ok (.ifCond .lt 28, 3) := by decide +kernel
theorem dX2_at_4 : decode cX2_at 4 = .ok (.iload_n 1, 1) := by decide +kernel
theorem dX2_at_5 : decode cX2_at 5 = .ok (.aload_n 0, 1) := by decide +kernel
theorem dX2_at_6 : decode cX2_at 6 = .ok (.getfield 12, 3) := by decide +kernel
theorem dX2_at_9 : decode cX2_at 9 = .ok (.invokevirtual 18, 3) := by decide +kernel
theorem dX2_at_12 : decode cX2_at 12 = .ok (.if_icmp .ge 17, 3) := by decide +kernel
theorem dX2_at_15 : decode cX2_at 15 = .ok (.aload_n 0, 1) := by decide +kernel
theorem dX2_at_16 : decode cX2_at 16 = .ok (.getfield 12, 3) := by decide +kernel
theorem dX2_at_19 : decode cX2_at 19 = .ok (.iload_n 1, 1) := by decide +kernel
theorem dX2_at_20 : decode cX2_at 20 = .ok (.invokevirtual 22, 3) := by decide +kernel
theorem dX2_at_23 : decode cX2_at 23 = .ok (.checkcast 26, 3) := by decide +kernel
theorem dX2_at_26 : decode cX2_at 26 = .ok (.goto 4, 3) := by decide +kernel
theorem dX2_at_29 : decode cX2_at 29 = .ok (.aconst_null, 1) := by decide +kernel
theorem dX2_at_30 : decode cX2_at 30 = .ok (.areturn, 1) := by decide +kernel
theorem dX2_keepLost_0 : decode cX2_keepLost 0 = .ok (.iconst 0, 1) := by decide +kernel
theorem dX2_keepLost_1 : decode cX2_keepLost 1 = .ok (.istore_n 2, 1) := by decide +kernel
theorem dX2_keepLost_2 : decode cX2_keepLost 2 = .ok (.iload_n 2, 1) := by decide +kernel
theorem dX2_keepLost_3 : decode cX2_keepLost 3 = .ok (.aload_n 1, 1) := by decide +kernel
theorem dX2_keepLost_4 : decode cX2_keepLost 4 = .ok (.getfield 28, 3) := by decide +kernel
theorem dX2_keepLost_7 : decode cX2_keepLost 7 = .ok (.if_icmp .ge 59, 3) := by decide +kernel
theorem dX2_keepLost_10 : decode cX2_keepLost 10 = .ok (.aload_n 1, 1) := by decide +kernel
theorem dX2_keepLost_11 : decode cX2_keepLost 11 = .ok (.iload_n 2, 1) := by decide +kernel
theorem dX2_keepLost_12 : decode cX2_keepLost 12 = .ok (.invokevirtual 34, 3) := by decide +kernel
theorem dX2_keepLost_15 : decode cX2_keepLost 15 = .ok (.astore_n 3, 1) := by decide +kernel
theorem dX2_keepLost_16 : decode cX2_keepLost 16 = .ok (.aload_n 3, 1) := by decide +kernel
theorem dX2_keepLost_17 : decode cX2_keepLost 17 = .ok (.ifnull 43, 3) := by decide +kernel
theorem dX2_keepLost_20 : decode cX2_keepLost 20 = .ok (.aload_n 3, 1) := by decide +kernel
theorem dX2_keepLost_21 : decode cX2_keepLost 21 = .ok (.getfield 38, 3) := by decide +kernel
theorem dX2_keepLost_24 : decode cX2_keepLost 24 = .ok (.ifCond .eq 36, 3) := by decide +kernel
theorem dX2_keepLost_27 : decode cX2_keepLost 27 = .ok (.aload_n 3, 1) := by decide +kernel
theorem dX2_keepLost_28 : decode cX2_keepLost 28 = .ok (.getfield 44, 3) := by decide +kernel
theorem dX2_keepLost_31 : decode cX2_keepLost 31 = .ok (.ifnull 29, 3) := by decide +kernel
theorem dX2_keepLost_34 : decode cX2_keepLost 34 = .ok (.aload_n 0, 1) := by decide +kernel
theorem dX2_keepLost_35 : decode cX2_keepLost 35 = .ok (.new 26, 3) := by decide +kernel
theorem dX2_keepLost_38 : decode cX2_keepLost 38 = .ok (.dup, 1) := by decide +kernel
theorem dX2_keepLost_39 : decode cX2_keepLost 39 = .ok (.aload_n 3, 1) := by decide +kernel
theorem dX2_keepLost_40 : decode cX2_keepLost 40 = .ok (.getfield 44, 3) := by decide +kernel
theorem dX2_keepLost_43 : decode cX2_keepLost 43 = .ok (.getfield 48, 3) := by decide +kernel
theorem dX2_keepLost_46 : decode cX2_keepLost 46 = .ok (.aload_n 3, 1) := by decide +kernel
theorem dX2_keepLost_47 : decode cX2_keepLost 47 = .ok (.getfield 54, 3) := by decide +kernel
theorem dX2_keepLost_50 : decode cX2_keepLost 50 = .ok (.aload_n 3, 1) := by decide +kernel
theorem dX2_keepLost_51 : decode cX2_keepLost 51 = .ok (.getfield 57, 3) := by decide +kernel
theorem dX2_keepLost_54 : decode cX2_keepLost 54 = .ok (.invokespecial 60, 3) := by decide +kernel
theorem dX2_keepLost_57 : decode cX2_keepLost 57 = .ok (.invokevirtual 63, 3) := by decide +kernel
theorem dX2_keepLost_60 : decode cX2_keepLost 60 = .ok (.iinc 2 1, 3) := by decide +kernel
theorem dX2_keepLost_63 : decode cX2_keepLost 63 = .ok (.goto (-61), 3) := by decide +kernel
theorem dX2_keepLost_66 : decode cX2_keepLost 66 = .ok (.return_, 1) := by decide +kernel
theorem dX2_keep_0 : decode cX2_keep 0 = .ok (.aload_n 0, 1) := by decide +kernel
theorem dX2_keep_1 : decode cX2_keep 1 = .ok (.getfield 12, 3) := by decide +kernel
theorem dX2_keep_4 : decode cX2_keep 4 = .ok (.invokevirtual 18, 3) := by decide +kernel
theorem dX2_keep_7 : decode cX2_keep 7 = .ok (.bipush 30, 2) := by decide +kernel
theorem dX2_keep_9 : decode cX2_keep 9 = .ok (.if_icmp .lt 22, 3) := by decide +kernel
theorem dX2_keep_12 : decode cX2_keep 12 = .ok (.aload_n 0, 1) := by decide +kernel
theorem dX2_keep_13 : decode cX2_keep 13 = .ok (.getfield 12, 3) := by decide +kernel
theorem dX2_keep_16 : decode cX2_keep 16 = .ok (.iconst 0, 1) := by decide +kernel
theorem dX2_keep_17 : decode cX2_keep 17 = .ok (.invokevirtual 67, 3) := by decide +kernel
theorem dX2_keep_20 : decode cX2_keep 20 = .ok (.pop, 1) := by decide +kernel
theorem dX2_keep_21 : decode cX2_keep 21 = .ok (.aload_n 0, 1) := by decide +kernel
theorem dX2_keep_22 : decode cX2_keep 22 = .ok (.dup, 1) := by decide +kernel
theorem dX2_keep_23 : decode cX2_keep 23 = .ok (.getfield 70, 3) := by decide +kernel
theorem dX2_keep_26 : decode cX2_keep 26 = .ok (.iconst 1, 1) := by decide +kernel
theorem dX2_keep_27 : decode cX2_keep 27 = .ok (.iadd, 1) := by decide +kernel
theorem dX2_keep_28 : decode cX2_keep 28 = .ok (.putfield 70, 3) := by decide +kernel
theorem dX2_keep_31 : decode cX2_keep 31 = .ok (.aload_n 0, 1) := by decide +kernel
theorem dX2_keep_32 : decode cX2_keep 32 = .ok (.getfield 12, 3) := by decide +kernel
theorem dX2_keep_35 : decode cX2_keep 35 = .ok (.aload_n 1, 1) := by decide +kernel
theorem dX2_keep_36 : decode cX2_keep 36 = .ok (.invokevirtual 73, 3) := by decide +kernel
theorem dX2_keep_39 : decode cX2_keep 39 = .ok (.pop, 1) := by decide +kernel
theorem dX2_keep_40 : decode cX2_keep 40 = .ok (.return_, 1) := by decide +kernel
theorem dX2_remove_0 : decode cX2_remove 0 = .ok (.iload_n 1, 1) := by decide +kernel
theorem dX2_remove_1 : decode cX2_remove 1 = .ok (.ifCond .lt 14, 3) := by decide +kernel
theorem dX2_remove_4 : decode cX2_remove 4 = .ok (.iload_n 1, 1) := by decide +kernel
theorem dX2_remove_5 : decode cX2_remove 5 = .ok (.aload_n 0, 1) := by decide +kernel
theorem dX2_remove_6 : decode cX2_remove 6 = .ok (.getfield 12, 3) := by decide +kernel
theorem dX2_remove_9 : decode cX2_remove 9 = .ok (.invokevirtual 18, 3) := by decide +kernel
theorem dX2_remove_12 : decode cX2_remove 12 = .ok (.if_icmp .lt 5, 3) := by decide +kernel
theorem dX2_remove_15 : decode cX2_remove 15 = .ok (.iconst 0, 1) := by decide +kernel
theorem dX2_remove_16 : decode cX2_remove 16 = .ok (.ireturn, 1) := by decide +kernel
theorem dX2_remove_17 : decode cX2_remove 17 = .ok (.aload_n 0, 1) := by decide +kernel
theorem dX2_remove_18 : decode cX2_remove 18 = .ok (.getfield 12, 3) := by decide +kernel
theorem dX2_remove_21 : decode cX2_remove 21 = .ok (.iload_n 1, 1) := by decide +kernel
theorem dX2_remove_22 : decode cX2_remove 22 = .ok (.invokevirtual 67, 3) := by decide +kernel
theorem dX2_remove_25 : decode cX2_remove 25 = .ok (.pop, 1) := by decide +kernel
theorem dX2_remove_26 : decode cX2_remove 26 = .ok (.iconst 1, 1) := by decide +kernel
theorem dX2_remove_27 : decode cX2_remove 27 = .ok (.ireturn, 1) := by decide +kernel
theorem dX3_init_0 : decode cX3_init 0 = .ok (.aload_n 0, 1) := by decide +kernel
theorem dX3_init_1 : decode cX3_init 1 = .ok (.invokespecial 3, 3) := by decide +kernel
theorem dX3_init_4 : decode cX3_init 4 = .ok (.aload_n 0, 1) := by decide +kernel
theorem dX3_init_5 : decode cX3_init 5 = .ok (.bipush 6, 2) := by decide +kernel
theorem dX3_init_7 : decode cX3_init 7 = .ok (.newarray .int, 2) := by decide +kernel
theorem dX3_init_9 : decode cX3_init 9 = .ok (.putfield 9, 3) := by decide +kernel
theorem dX3_init_12 : decode cX3_init 12 = .ok (.aload_n 0, 1) := by decide +kernel
theorem dX3_init_13 : decode cX3_init 13 = .ok (.aload_n 1, 1) := by decide +kernel
theorem dX3_init_14 : decode cX3_init 14 = .ok (.putfield 15, 3) := by decide +kernel
theorem dX3_init_17 : decode cX3_init 17 = .ok (.aload_n 0, 1) := by decide +kernel
theorem dX3_init_18 : decode cX3_init 18 = .ok (.aload_n 2, 1) := by decide +kernel
theorem dX3_init_19 : decode cX3_init 19 = .ok (.putfield 19, 3) := by decide +kernel
theorem dX3_init_22 : decode cX3_init 22 = .ok (.return_, 1) := by decide +kernel
theorem dX3_fill_0 : decode cX3_fill 0 = .ok (.aload_n 0, 1) := by decide +kernel
theorem dX3_fill_1 : decode cX3_fill 1 = .ok (.aload_n 1, 1) := by decide +kernel
theorem dX3_fill_2 : decode cX3_fill 2 = .ok (.putfield 19, 3) := by decide +kernel
theorem dX3_fill_5 : decode cX3_fill 5 = .ok (.aload_n 0, 1) := by decide +kernel
theorem dX3_fill_6 : decode cX3_fill 6 = .ok (.iconst 0, 1) := by decide +kernel
theorem dX3_fill_7 : decode cX3_fill 7 = .ok (.putfield 23, 3) := by decide +kernel
theorem dX3_fill_10 : decode cX3_fill 10 = .ok (.aload_n 1, 1) := by decide +kernel
theorem dX3_fill_11 : decode cX3_fill 11 = .ok (.invokevirtual 27, 3) := by decide +kernel
theorem dX3_fill_14 : decode cX3_fill 14 = .ok (.iconst 0, 1) := by decide +kernel
theorem dX3_fill_15 : decode cX3_fill 15 = .ok (.istore_n 3, 1) := by decide +kernel
theorem dX3_fill_16 : decode cX3_fill 16 = .ok (.iload_n 3, 1) := by decide +kernel
theorem dX3_fill_17 : decode cX3_fill 17 = .ok (.aload_n 2, 1) := by decide +kernel
theorem dX3_fill_18 : decode cX3_fill 18 = .ok (.getfield 32, 3) := by decide +kernel
theorem dX3_fill_21 : decode cX3_fill 21 = .ok (.invokevirtual 38, 3) := by decide +kernel
theorem dX3_fill_24 : decode cX3_fill 24 = .ok (.if_icmp .ge 33, 3) := by decide +kernel
theorem dX3_fill_27 : decode cX3_fill 27 = .ok (.aload_n 1, 1) := by decide +kernel
theorem dX3_fill_28 : decode cX3_fill 28 = .ok (.getfield 44, 3) := by decide +kernel
theorem dX3_fill_31 : decode cX3_fill 31 = .ok (.ifCond .ne 26, 3) := by decide +kernel
theorem dX3_fill_34 : decode cX3_fill 34 = .ok (.aload_n 0, 1) := by decide +kernel
theorem dX3_fill_35 : decode cX3_fill 35 = .ok (.aload_n 2, 1) := by decide +kernel
theorem dX3_fill_36 : decode cX3_fill 36 = .ok (.getfield 32, 3) := by decide +kernel
theorem dX3_fill_39 : decode cX3_fill 39 = .ok (.iload_n 3, 1) := by decide +kernel
theorem dX3_fill_40 : decode cX3_fill 40 = .ok (.invokevirtual 48, 3) := by decide +kernel
theorem dX3_fill_43 : decode cX3_fill 43 = .ok (.checkcast 33, 3) := by decide +kernel
theorem dX3_fill_46 : decode cX3_fill 46 = .ok (.iconst 0, 1) := by decide +kernel
theorem dX3_fill_47 : decode cX3_fill 47 = .ok (.iconst 1, 1) := by decide +kernel
theorem dX3_fill_48 : decode cX3_fill 48 = .ok (.invokevirtual 52, 3) := by decide +kernel
theorem dX3_fill_51 : decode cX3_fill 51 = .ok (.iinc 3 1, 3) := by decide +kernel
theorem dX3_fill_54 : decode cX3_fill 54 = .ok (.goto (-38), 3) := by decide +kernel
theorem dX3_fill_57 : decode cX3_fill 57 = .ok (.return_, 1) := by decide +kernel
theorem dX3_makeUse_0 : decode cX3_makeUse 0 = .ok (.aload_n 0, 1) := by decide +kernel
theorem dX3_makeUse_1 : decode cX3_makeUse 1 = .ok (.getfield 23, 3) := by decide +kernel
theorem dX3_makeUse_4 : decode cX3_makeUse 4 = .ok (.sipush 2000, 3) := by decide +kernel
theorem dX3_makeUse_7 : decode cX3_makeUse 7 = .ok (.if_icmp .ge 19, 3) := by decide +kernel
theorem dX3_makeUse_10 : decode cX3_makeUse 10 = .ok (.iload_n 3, 1) := by decide +kernel
theorem dX3_makeUse_11 : decode cX3_makeUse 11 = .ok (.bipush 6, 2) := by decide +kernel
theorem dX3_makeUse_13 : decode cX3_makeUse 13 = .ok (.if_icmp .gt 13, 3) := by decide +kernel
theorem dX3_makeUse_16 : decode cX3_makeUse 16 = .ok (.aload_n 1, 1) := by decide +kernel
theorem dX3_makeUse_17 : decode cX3_makeUse 17 = .ok (.getfield 56, 3) := by decide +kernel
theorem dX3_makeUse_20 : decode cX3_makeUse 20 = .ok (.invokestatic 59, 3) := by decide +kernel
theorem dX3_makeUse_23 : decode cX3_makeUse 23 = .ok (.ifCond .ne 12, 3) := by decide +kernel
theorem dX3_makeUse_26 : decode cX3_makeUse 26 = .ok (.aload_n 0, 1) := by decide +kernel
theorem dX3_makeUse_27 : decode cX3_makeUse 27 = .ok (.getfield 19, 3) := by decide +kernel
theorem dX3_makeUse_30 : decode cX3_makeUse 30 = .ok (.iconst 1, 1) := by decide +kernel
theorem dX3_makeUse_31 : decode cX3_makeUse 31 = .ok (.putfield 44, 3) := by decide +kernel
theorem dX3_makeUse_34 : decode cX3_makeUse 34 = .ok (.return_, 1) := by decide +kernel
theorem dX3_makeUse_35 : decode cX3_makeUse 35 = .ok (.aload_n 0, 1) := by decide +kernel
theorem dX3_makeUse_36 : decode cX3_makeUse 36 = .ok (.dup, 1) := by decide +kernel
theorem dX3_makeUse_37 : decode cX3_makeUse 37 = .ok (.getfield 23, 3) := by decide +kernel
theorem dX3_makeUse_40 : decode cX3_makeUse 40 = .ok (.iconst 1, 1) := by decide +kernel
theorem dX3_makeUse_41 : decode cX3_makeUse 41 = .ok (.iadd, 1) := by decide +kernel
theorem dX3_makeUse_42 : decode cX3_makeUse 42 = .ok (.putfield 23, 3) := by decide +kernel
theorem dX3_makeUse_45 : decode cX3_makeUse 45 = .ok (.aload_n 0, 1) := by decide +kernel
theorem dX3_makeUse_46 : decode cX3_makeUse 46 = .ok (.getfield 15, 3) := by decide +kernel
theorem dX3_makeUse_49 : decode cX3_makeUse 49 = .ok (.aload_n 1, 1) := by decide +kernel
theorem dX3_makeUse_50 : decode cX3_makeUse 50 = .ok (.getfield 56, 3) := by decide +kernel
theorem dX3_makeUse_53 : decode cX3_makeUse 53 = .ok (.aaload, 1) := by decide +kernel
theorem dX3_makeUse_54 : decode cX3_makeUse 54 = .ok (.astore 4, 2) := by decide +kernel
theorem dX3_makeUse_56 : decode cX3_makeUse 56 = .ok (.iconst 0, 1) := by decide +kernel
theorem dX3_makeUse_57 : decode cX3_makeUse 57 = .ok (.istore 5, 2) := by decide +kernel
theorem dX3_makeUse_59 : decode cX3_makeUse 59 = .ok (.iconst 0, 1) := by decide +kernel
theorem dX3_makeUse_60 : decode cX3_makeUse 60 = .ok (.istore 6, 2) := by decide +kernel
theorem dX3_makeUse_62 : decode cX3_makeUse 62 = .ok (.iload 6, 2) := by decide +kernel
theorem dX3_makeUse_64 : decode cX3_makeUse 64 = .ok (.aload 4, 2) := by decide +kernel
theorem dX3_makeUse_66 : decode cX3_makeUse 66 = .ok (.getfield 63, 3) := by decide +kernel
theorem dX3_makeUse_69 : decode cX3_makeUse 69 = .ok (.if_icmp .ge 127, 3) := by decide +kernel
theorem dX3_makeUse_72 : decode cX3_makeUse 72 = .ok (.aload_n 0, 1) := by decide +kernel
theorem dX3_makeUse_73 : decode cX3_makeUse 73 = .ok (.getfield 19, 3) := by decide +kernel
theorem dX3_makeUse_76 : decode cX3_makeUse 76 = .ok (.getfield 44, 3) := by decide +kernel
theorem dX3_makeUse_79 : decode cX3_makeUse 79 = .ok (.ifCond .ne 117, 3) := by decide +kernel
theorem dX3_makeUse_82 : decode cX3_makeUse 82 = .ok (.aload 4, 2) := by decide +kernel
theorem dX3_makeUse_84 : decode cX3_makeUse 84 = .ok (.getfield 68, 3) := by decide +kernel
theorem dX3_makeUse_87 : decode cX3_makeUse 87 = .ok (.iload 6, 2) := by decide +kernel
theorem dX3_makeUse_89 : decode cX3_makeUse 89 = .ok (.iaload, 1) := by decide +kernel
theorem dX3_makeUse_90 : decode cX3_makeUse 90 = .ok (.istore 7, 2) := by decide +kernel
theorem dX3_makeUse_92 : decode cX3_makeUse 92 = .ok (.iload 7, 2) := by decide +kernel
theorem dX3_makeUse_94 : decode cX3_makeUse 94 = .ok (.bipush 6, 2) := by decide +kernel
theorem dX3_makeUse_96 : decode cX3_makeUse 96 = .ok (.if_icmp .ne 31, 3) := by decide +kernel
theorem dX3_makeUse_99 : decode cX3_makeUse 99 = .ok (.aload_n 1, 1) := by decide +kernel
theorem dX3_makeUse_100 : decode cX3_makeUse 100 = .ok (.getfield 71, 3) := by decide +kernel
theorem dX3_makeUse_103 : decode cX3_makeUse 103 = .ok (.aload 4, 2) := by decide +kernel
theorem dX3_makeUse_105 : decode cX3_makeUse 105 = .ok (.getfield 74, 3) := by decide +kernel
theorem dX3_makeUse_108 : decode cX3_makeUse 108 = .ok (.iload 6, 2) := by decide +kernel
theorem dX3_makeUse_110 : decode cX3_makeUse 110 = .ok (.iaload, 1) := by decide +kernel
theorem dX3_makeUse_111 : decode cX3_makeUse 111 = .ok (.invokestatic 77, 3) := by decide +kernel
theorem dX3_makeUse_114 : decode cX3_makeUse 114 = .ok (.ifCond .gt 7, 3) := by decide +kernel
theorem dX3_makeUse_117 : decode cX3_makeUse 117 = .ok (.iconst 1, 1) := by decide +kernel
theorem dX3_makeUse_118 : decode cX3_makeUse 118 = .ok (.goto 4, 3) := by decide +kernel
theorem dX3_makeUse_121 : decode cX3_makeUse 121 = .ok (.iconst 0, 1) := by decide +kernel
theorem dX3_makeUse_122 : decode cX3_makeUse 122 = .ok (.istore 5, 2) := by decide +kernel
theorem dX3_makeUse_124 : decode cX3_makeUse 124 = .ok (.goto 66, 3) := by decide +kernel
theorem dX3_makeUse_127 : decode cX3_makeUse 127 = .ok (.iload 7, 2) := by decide +kernel
theorem dX3_makeUse_129 : decode cX3_makeUse 129 = .ok (.bipush 7, 2) := by decide +kernel
theorem dX3_makeUse_131 : decode cX3_makeUse 131 = .ok (.if_icmp .ne 9, 3) := by decide +kernel
theorem dX3_makeUse_134 : decode cX3_makeUse 134 = .ok (.iconst 0, 1) := by decide +kernel
theorem dX3_makeUse_135 : decode cX3_makeUse 135 = .ok (.istore 5, 2) := by decide +kernel
theorem dX3_makeUse_137 : decode cX3_makeUse 137 = .ok (.goto 53, 3) := by decide +kernel
theorem dX3_makeUse_140 : decode cX3_makeUse 140 = .ok (.iload 5, 2) := by decide +kernel
theorem dX3_makeUse_142 : decode cX3_makeUse 142 = .ok (.ifCond .ne 33, 3) := by decide +kernel
theorem dX3_makeUse_145 : decode cX3_makeUse 145 = .ok (.iload 7, 2) := by decide +kernel
theorem dX3_makeUse_147 : decode cX3_makeUse 147 = .ok (.iconst 5, 1) := by decide +kernel
theorem dX3_makeUse_148 : decode cX3_makeUse 148 = .ok (.if_icmp .ne 27, 3) := by decide +kernel
theorem dX3_makeUse_151 : decode cX3_makeUse 151 = .ok (.aload_n 0, 1) := by decide +kernel
theorem dX3_makeUse_152 : decode cX3_makeUse 152 = .ok (.aload_n 1, 1) := by decide +kernel
theorem dX3_makeUse_153 : decode cX3_makeUse 153 = .ok (.aload 4, 2) := by decide +kernel
theorem dX3_makeUse_155 : decode cX3_makeUse 155 = .ok (.getfield 74, 3) := by decide +kernel
theorem dX3_makeUse_158 : decode cX3_makeUse 158 = .ok (.iload 6, 2) := by decide +kernel
theorem dX3_makeUse_160 : decode cX3_makeUse 160 = .ok (.iaload, 1) := by decide +kernel
theorem dX3_makeUse_161 : decode cX3_makeUse 161 = .ok (.iload_n 2, 1) := by decide +kernel
theorem dX3_makeUse_162 : decode cX3_makeUse 162 = .ok (.bipush 32, 2) := by decide +kernel
theorem dX3_makeUse_164 : decode cX3_makeUse 164 = .ok (.imul, 1) := by decide +kernel
theorem dX3_makeUse_165 : decode cX3_makeUse 165 = .ok (.iload 6, 2) := by decide +kernel
theorem dX3_makeUse_167 : decode cX3_makeUse 167 = .ok (.iadd, 1) := by decide +kernel
theorem dX3_makeUse_168 : decode cX3_makeUse 168 = .ok (.iload_n 3, 1) := by decide +kernel
theorem dX3_makeUse_169 : decode cX3_makeUse 169 = .ok (.invokevirtual 81, 3) := by decide +kernel
theorem dX3_makeUse_172 : decode cX3_makeUse 172 = .ok (.goto 18, 3) := by decide +kernel
theorem dX3_makeUse_175 : decode cX3_makeUse 175 = .ok (.iload 5, 2) := by decide +kernel
theorem dX3_makeUse_177 : decode cX3_makeUse 177 = .ok (.ifCond .ne 13, 3) := by decide +kernel
theorem dX3_makeUse_180 : decode cX3_makeUse 180 = .ok (.aload_n 0, 1) := by decide +kernel
theorem dX3_makeUse_181 : decode cX3_makeUse 181 = .ok (.aload_n 1, 1) := by decide +kernel
theorem dX3_makeUse_182 : decode cX3_makeUse 182 = .ok (.aload 4, 2) := by decide +kernel
theorem dX3_makeUse_184 : decode cX3_makeUse 184 = .ok (.iload 6, 2) := by decide +kernel
theorem dX3_makeUse_186 : decode cX3_makeUse 186 = .ok (.iload_n 2, 1) := by decide +kernel
theorem dX3_makeUse_187 : decode cX3_makeUse 187 = .ok (.invokevirtual 85, 3) := by decide +kernel
theorem dX3_makeUse_190 : decode cX3_makeUse 190 = .ok (.iinc 6 1, 3) := by decide +kernel
theorem dX3_makeUse_193 : decode cX3_makeUse 193 = .ok (.goto (-131), 3) := by decide +kernel
theorem dX3_makeUse_196 : decode cX3_makeUse 196 = .ok (.return_, 1) := by decide +kernel
theorem dX3_makeParts_0 : decode cX3_makeParts 0 = .ok (.iconst 0, 1) := by decide +kernel
theorem dX3_makeParts_1 : decode cX3_makeParts 1 = .ok (.istore 5, 2) := by decide +kernel
theorem dX3_makeParts_3 : decode cX3_makeParts 3 = .ok (.iload 5, 2) := by decide +kernel
theorem dX3_makeParts_5 : decode cX3_makeParts 5 = .ok (.aload_n 1, 1) := by decide +kernel
theorem dX3_makeParts_6 : decode cX3_makeParts 6 = .ok (.getfield 32, 3) := by decide +kernel
theorem dX3_makeParts_9 : decode cX3_makeParts 9 = .ok (.invokevirtual 38, 3) := by decide +kernel
theorem dX3_makeParts_12 : decode cX3_makeParts 12 = .ok (.if_icmp .ge 53, 3) := by decide +kernel
theorem dX3_makeParts_15 : decode cX3_makeParts 15 = .ok (.aload_n 0, 1) := by decide +kernel
theorem dX3_makeParts_16 : decode cX3_makeParts 16 = .ok (.getfield 19, 3) := by decide +kernel
theorem dX3_makeParts_19 : decode cX3_makeParts 19 = .ok (.getfield 44, 3) := by decide +kernel
theorem dX3_makeParts_22 : decode cX3_makeParts 22 = .ok (.ifCond .ne 43, 3) := by decide +kernel
theorem dX3_makeParts_25 : decode cX3_makeParts 25 = .ok (.aload_n 1, 1) := by decide +kernel
theorem dX3_makeParts_26 : decode cX3_makeParts 26 = .ok (.getfield 32, 3) := by decide +kernel
theorem dX3_makeParts_29 : decode cX3_makeParts 29 = .ok (.iload 5, 2) := by decide +kernel
theorem dX3_makeParts_31 : decode cX3_makeParts 31 = .ok (.invokevirtual 48, 3) := by decide +kernel
theorem dX3_makeParts_34 : decode cX3_makeParts 34 = .ok (.checkcast 33, 3) := by decide +kernel
theorem dX3_makeParts_37 : decode cX3_makeParts 37 = .ok (.astore 6, 2) := by decide +kernel
theorem dX3_makeParts_39 : decode cX3_makeParts 39 = .ok (.aload 6, 2) := by decide +kernel
theorem dX3_makeParts_41 : decode cX3_makeParts 41 = .ok (.getfield 56, 3) := by decide +kernel
theorem dX3_makeParts_44 : decode cX3_makeParts 44 = .ok (.iload_n 2, 1) := by decide +kernel
theorem dX3_makeParts_45 : decode cX3_makeParts 45 = .ok (.if_icmp .ne 14, 3) := by decide +kernel
theorem dX3_makeParts_48 : decode cX3_makeParts 48 = .ok (.aload_n 0, 1) := by decide +kernel
theorem dX3_makeParts_49 : decode cX3_makeParts 49 = .ok (.aload 6, 2) := by decide +kernel
theorem dX3_makeParts_51 : decode cX3_makeParts 51 = .ok (.iload_n 3, 1) := by decide +kernel
theorem dX3_makeParts_52 : decode cX3_makeParts 52 = .ok (.iload 4, 2) := by decide +kernel
theorem dX3_makeParts_54 : decode cX3_makeParts 54 = .ok (.iconst 1, 1) := by decide +kernel
theorem dX3_makeParts_55 : decode cX3_makeParts 55 = .ok (.iadd, 1) := by decide +kernel
theorem dX3_makeParts_56 : decode cX3_makeParts 56 = .ok (.invokevirtual 52, 3) := by decide +kernel
theorem dX3_makeParts_59 : decode cX3_makeParts 59 = .ok (.iinc 5 1, 3) := by decide +kernel
theorem dX3_makeParts_62 : decode cX3_makeParts 62 = .ok (.goto (-59), 3) := by decide +kernel
theorem dX3_makeParts_65 : decode cX3_makeParts 65 = .ok (.return_, 1) := by decide +kernel
theorem dX3_makePiece_0 : decode cX3_makePiece 0 = .ok (.aload_n 2, 1) := by decide +kernel
theorem dX3_makePiece_1 : decode cX3_makePiece 1 = .ok (.getfield 68, 3) := by decide +kernel
theorem dX3_makePiece_4 : decode cX3_makePiece 4 = .ok (.iload_n 3, 1) := by decide +kernel
theorem dX3_makePiece_5 : decode cX3_makePiece 5 = .ok (.iaload, 1) := by decide +kernel
theorem dX3_makePiece_6 : decode cX3_makePiece 6 = .ok (.istore 5, 2) := by decide +kernel
theorem dX3_makePiece_8 : decode cX3_makePiece 8 = .ok (.aload_n 2, 1) := by decide +kernel
theorem dX3_makePiece_9 : decode cX3_makePiece 9 = .ok (.getfield 74, 3) := by decide +kernel
theorem dX3_makePiece_12 : decode cX3_makePiece 12 = .ok (.iload_n 3, 1) := by decide +kernel
theorem dX3_makePiece_13 : decode cX3_makePiece 13 = .ok (.iaload, 1) := by decide +kernel
theorem dX3_makePiece_14 : decode cX3_makePiece 14 = .ok (.istore 6, 2) := by decide +kernel
theorem dX3_makePiece_16 : decode cX3_makePiece 16 = .ok (.aload_n 2, 1) := by decide +kernel
theorem dX3_makePiece_17 : decode cX3_makePiece 17 = .ok (.getfield 89, 3) := by decide +kernel
theorem dX3_makePiece_20 : decode cX3_makePiece 20 = .ok (.iload_n 3, 1) := by decide +kernel
theorem dX3_makePiece_21 : decode cX3_makePiece 21 = .ok (.iaload, 1) := by decide +kernel
theorem dX3_makePiece_22 : decode cX3_makePiece 22 = .ok (.istore 7, 2) := by decide +kernel
theorem dX3_makePiece_24 : decode cX3_makePiece 24 = .ok (.aload_n 0, 1) := by decide +kernel
theorem dX3_makePiece_25 : decode cX3_makePiece 25 = .ok (.getfield 19, 3) := by decide +kernel
theorem dX3_makePiece_28 : decode cX3_makePiece 28 = .ok (.aload_n 1, 1) := by decide +kernel
theorem dX3_makePiece_29 : decode cX3_makePiece 29 = .ok (.iload_n 3, 1) := by decide +kernel
theorem dX3_makePiece_30 : decode cX3_makePiece 30 = .ok (.iload 5, 2) := by decide +kernel
theorem dX3_makePiece_32 : decode cX3_makePiece 32 = .ok (.iload 6, 2) := by decide +kernel
theorem dX3_makePiece_34 : decode cX3_makePiece 34 = .ok (.iload 4, 2) := by decide +kernel
theorem dX3_makePiece_36 : decode cX3_makePiece 36 = .ok (.invokevirtual 92, 3) := by decide +kernel
theorem dX3_makePiece_39 : decode cX3_makePiece 39 = .ok (.iload 5, 2) := by decide +kernel
theorem dX3_makePiece_41 : decode cX3_makePiece 41 = .ok (.ifCond .ne 21, 3) := by decide +kernel
theorem dX3_makePiece_44 : decode cX3_makePiece 44 = .ok (.aload_n 0, 1) := by decide +kernel
theorem dX3_makePiece_45 : decode cX3_makePiece 45 = .ok (.getfield 19, 3) := by decide +kernel
theorem dX3_makePiece_48 : decode cX3_makePiece 48 = .ok (.aload_n 2, 1) := by decide +kernel
theorem dX3_makePiece_49 : decode cX3_makePiece 49 = .ok (.getfield 96, 3) := by decide +kernel
theorem dX3_makePiece_52 : decode cX3_makePiece 52 = .ok (.iload 6, 2) := by decide +kernel
theorem dX3_makePiece_54 : decode cX3_makePiece 54 = .ok (.iload 7, 2) := by decide +kernel
theorem dX3_makePiece_56 : decode cX3_makePiece 56 = .ok (.invokevirtual 99, 3) := by decide +kernel
theorem dX3_makePiece_59 : decode cX3_makePiece 59 = .ok (.goto 98, 3) := by decide +kernel
theorem dX3_makePiece_62 : decode cX3_makePiece 62 = .ok (.iload 5, 2) := by decide +kernel
theorem dX3_makePiece_64 : decode cX3_makePiece 64 = .ok (.iconst 1, 1) := by decide +kernel
theorem dX3_makePiece_65 : decode cX3_makePiece 65 = .ok (.if_icmp .ne 23, 3) := by decide +kernel
theorem dX3_makePiece_68 : decode cX3_makePiece 68 = .ok (.aload_n 0, 1) := by decide +kernel
theorem dX3_makePiece_69 : decode cX3_makePiece 69 = .ok (.getfield 19, 3) := by decide +kernel
theorem dX3_makePiece_72 : decode cX3_makePiece 72 = .ok (.aload_n 1, 1) := by decide +kernel
theorem dX3_makePiece_73 : decode cX3_makePiece 73 = .ok (.getfield 103, 3) := by decide +kernel
theorem dX3_makePiece_76 : decode cX3_makePiece 76 = .ok (.iconst 0, 1) := by decide +kernel
theorem dX3_makePiece_77 : decode cX3_makePiece 77 = .ok (.aload_n 1, 1) := by decide +kernel
theorem dX3_makePiece_78 : decode cX3_makePiece 78 = .ok (.getfield 103, 3) := by decide +kernel
theorem dX3_makePiece_81 : decode cX3_makePiece 81 = .ok (.arraylength, 1) := by decide +kernel
theorem dX3_makePiece_82 : decode cX3_makePiece 82 = .ok (.invokevirtual 99, 3) := by decide +kernel
theorem dX3_makePiece_85 : decode cX3_makePiece 85 = .ok (.goto 72, 3) := by decide +kernel
theorem dX3_makePiece_88 : decode cX3_makePiece 88 = .ok (.iload 5, 2) := by decide +kernel
theorem dX3_makePiece_90 : decode cX3_makePiece 90 = .ok (.iconst 2, 1) := by decide +kernel
theorem dX3_makePiece_91 : decode cX3_makePiece 91 = .ok (.if_icmp .eq 9, 3) := by decide +kernel
theorem dX3_makePiece_94 : decode cX3_makePiece 94 = .ok (.iload 5, 2) := by decide +kernel
theorem dX3_makePiece_96 : decode cX3_makePiece 96 = .ok (.iconst 3, 1) := by decide +kernel
theorem dX3_makePiece_97 : decode cX3_makePiece 97 = .ok (.if_icmp .ne 60, 3) := by decide +kernel
theorem dX3_makePiece_100 : decode cX3_makePiece 100 = .ok (.iload 5, 2) := by decide +kernel
theorem dX3_makePiece_102 : decode cX3_makePiece 102 = .ok (.iconst 3, 1) := by decide +kernel
theorem dX3_makePiece_103 : decode cX3_makePiece 103 = .ok (.if_icmp .ne 15, 3) := by decide +kernel
theorem dX3_makePiece_106 : decode cX3_makePiece 106 = .ok (.aload_n 1, 1) := by decide +kernel
theorem dX3_makePiece_107 : decode cX3_makePiece 107 = .ok (.getfield 71, 3) := by decide +kernel
theorem dX3_makePiece_110 : decode cX3_makePiece 110 = .ok (.iload 7, 2) := by decide +kernel
theorem dX3_makePiece_112 : decode cX3_makePiece 112 = .ok (.invokestatic 77, 3) := by decide +kernel
theorem dX3_makePiece_115 : decode cX3_makePiece 115 = .ok (.goto 4, 3) := by decide +kernel
theorem dX3_makePiece_118 : decode cX3_makePiece 118 = .ok (.iconst 0, 1) := by decide +kernel
theorem dX3_makePiece_119 : decode cX3_makePiece 119 = .ok (.istore 8, 2) := by decide +kernel
theorem dX3_makePiece_121 : decode cX3_makePiece 121 = .ok (.aload_n 0, 1) := by decide +kernel
theorem dX3_makePiece_122 : decode cX3_makePiece 122 = .ok (.aload_n 1, 1) := by decide +kernel
theorem dX3_makePiece_123 : decode cX3_makePiece 123 = .ok (.getfield 71, 3) := by decide +kernel
theorem dX3_makePiece_126 : decode cX3_makePiece 126 = .ok (.iload 6, 2) := by decide +kernel
theorem dX3_makePiece_128 : decode cX3_makePiece 128 = .ok (.invokestatic 77, 3) := by decide +kernel
theorem dX3_makePiece_131 : decode cX3_makePiece 131 = .ok (.iload 8, 2) := by decide +kernel
theorem dX3_makePiece_133 : decode cX3_makePiece 133 = .ok (.iadd, 1) := by decide +kernel
theorem dX3_makePiece_134 : decode cX3_makePiece 134 = .ok (.invokevirtual 106, 3) := by decide +kernel
theorem dX3_makePiece_137 : decode cX3_makePiece 137 = .ok (.istore 9, 2) := by decide +kernel
theorem dX3_makePiece_139 : decode cX3_makePiece 139 = .ok (.aload_n 0, 1) := by decide +kernel
theorem dX3_makePiece_140 : decode cX3_makePiece 140 = .ok (.getfield 19, 3) := by decide +kernel
theorem dX3_makePiece_143 : decode cX3_makePiece 143 = .ok (.aload_n 0, 1) := by decide +kernel
theorem dX3_makePiece_144 : decode cX3_makePiece 144 = .ok (.getfield 9, 3) := by decide +kernel
theorem dX3_makePiece_147 : decode cX3_makePiece 147 = .ok (.iload 9, 2) := by decide +kernel
theorem dX3_makePiece_149 : decode cX3_makePiece 149 = .ok (.bipush 6, 2) := by decide +kernel
theorem dX3_makePiece_151 : decode cX3_makePiece 151 = .ok (.iload 9, 2) := by decide +kernel
theorem dX3_makePiece_153 : decode cX3_makePiece 153 = .ok (.isub, 1) := by decide +kernel
theorem dX3_makePiece_154 : decode cX3_makePiece 154 = .ok (.invokevirtual 99, 3) := by decide +kernel
theorem dX3_makePiece_157 : decode cX3_makePiece 157 = .ok (.return_, 1) := by decide +kernel
theorem dX3_spell_0 : decode cX3_spell 0 = .ok (.bipush 6, 2) := by decide +kernel
theorem dX3_spell_2 : decode cX3_spell 2 = .ok (.istore_n 2, 1) := by decide +kernel
theorem dX3_spell_3 : decode cX3_spell 3 = .ok (.iload_n 1, 1) := by decide +kernel
theorem dX3_spell_4 : decode cX3_spell 4 = .ok (.istore_n 3, 1) := by decide +kernel
theorem dX3_spell_5 : decode cX3_spell 5 = .ok (.iinc 2 (-1), 3) := by decide +kernel
theorem dX3_spell_8 : decode cX3_spell 8 = .ok (.aload_n 0, 1) := by decide +kernel
theorem dX3_spell_9 : decode cX3_spell 9 = .ok (.getfield 9, 3) := by decide +kernel
theorem dX3_spell_12 : decode cX3_spell 12 = .ok (.iload_n 2, 1) := by decide +kernel
theorem dX3_spell_13 : decode cX3_spell 13 = .ok (.bipush 48, 2) := by decide +kernel
theorem dX3_spell_15 : decode cX3_spell 15 = .ok (.iload_n 3, 1) := by decide +kernel
theorem dX3_spell_16 : decode cX3_spell 16 = .ok (.bipush 10, 2) := by decide +kernel
theorem dX3_spell_18 : decode cX3_spell 18 = .ok (.irem, 1) := by decide +kernel
theorem dX3_spell_19 : decode cX3_spell 19 = .ok (.iadd, 1) := by decide +kernel
theorem dX3_spell_20 : decode cX3_spell 20 = .ok (.iastore, 1) := by decide +kernel
theorem dX3_spell_21 : decode cX3_spell 21 = .ok (.iload_n 3, 1) := by decide +kernel
theorem dX3_spell_22 : decode cX3_spell 22 = .ok (.bipush 10, 2) := by decide +kernel
theorem dX3_spell_24 : decode cX3_spell 24 = .ok (.idiv, 1) := by decide +kernel
theorem dX3_spell_25 : decode cX3_spell 25 = .ok (.istore_n 3, 1) := by decide +kernel
theorem dX3_spell_26 : decode cX3_spell 26 = .ok (.iload_n 2, 1) := by decide +kernel
theorem dX3_spell_27 : decode cX3_spell 27 = .ok (.ifCond .le 7, 3) := by decide +kernel
theorem dX3_spell_30 : decode cX3_spell 30 = .ok (.iload_n 3, 1) := by decide +kernel
theorem dX3_spell_31 : decode cX3_spell 31 = .ok (.ifCond .gt (-26), 3) := by decide +kernel
theorem dX3_spell_34 : decode cX3_spell 34 = .ok (.iload_n 2, 1) := by decide +kernel
theorem dX3_spell_35 : decode cX3_spell 35 = .ok (.ireturn, 1) := by decide +kernel
theorem dX4_init_0 : decode cX4_init 0 = .ok (.aload_n 0, 1) := by decide +kernel
theorem dX4_init_1 : decode cX4_init 1 = .ok (.invokespecial 3, 3) := by decide +kernel
theorem dX4_init_4 : decode cX4_init 4 = .ok (.aload_n 0, 1) := by decide +kernel
theorem dX4_init_5 : decode cX4_init 5 = .ok (.new 9, 3) := by decide +kernel
theorem dX4_init_8 : decode cX4_init 8 = .ok (.dup, 1) := by decide +kernel
theorem dX4_init_9 : decode cX4_init 9 = .ok (.iconst (-1), 1) := by decide +kernel
theorem dX4_init_10 : decode cX4_init 10 = .ok (.iconst (-1), 1) := by decide +kernel
theorem dX4_init_11 : decode cX4_init 11 = .ok (.aconst_null, 1) := by decide +kernel
theorem dX4_init_12 : decode cX4_init 12 = .ok (.iconst 0, 1) := by decide +kernel
theorem dX4_init_13 : decode cX4_init 13 = .ok (.newarray .int, 2) := by decide +kernel
theorem dX4_init_15 : decode cX4_init 15 = .ok (.invokespecial 11, 3) := by decide +kernel
theorem dX4_init_18 : decode cX4_init 18 = .ok (.putfield 14, 3) := by decide +kernel
theorem dX4_init_21 : decode cX4_init 21 = .ok (.aload_n 0, 1) := by decide +kernel
theorem dX4_init_22 : decode cX4_init 22 = .ok (.bipush 24, 2) := by decide +kernel
theorem dX4_init_24 : decode cX4_init 24 = .ok (.anewarray 9, 3) := by decide +kernel
theorem dX4_init_27 : decode cX4_init 27 = .ok (.putfield 20, 3) := by decide +kernel
theorem dX4_init_30 : decode cX4_init 30 = .ok (.return_, 1) := by decide +kernel
theorem dX4_at_0 : decode cX4_at 0 = .ok (.iload_n 1, 1) := by decide +kernel
theorem dX4_at_1 : decode cX4_at 1 = .ok (.ifCond .lt 18, 3) := by decide +kernel
theorem dX4_at_4 : decode cX4_at 4 = .ok (.iload_n 1, 1) := by decide +kernel
theorem dX4_at_5 : decode cX4_at 5 = .ok (.bipush 24, 2) := by decide +kernel
theorem dX4_at_7 : decode cX4_at 7 = .ok (.if_icmp .ge 12, 3) := by decide +kernel
theorem dX4_at_10 : decode cX4_at 10 = .ok (.aload_n 0, 1) := by decide +kernel
theorem dX4_at_11 : decode cX4_at 11 = .ok (.getfield 20, 3) := by decide +kernel
theorem dX4_at_14 : decode cX4_at 14 = .ok (.iload_n 1, 1) := by decide +kernel
theorem dX4_at_15 : decode cX4_at 15 = .ok (.aaload, 1) := by decide +kernel
theorem dX4_at_16 : decode cX4_at 16 = .ok (.goto 4, 3) := by decide +kernel
theorem dX4_at_19 : decode cX4_at 19 = .ok (.aconst_null, 1) := by decide +kernel
theorem dX4_at_20 : decode cX4_at 20 = .ok (.areturn, 1) := by decide +kernel
theorem dX4_freeSlot_0 : decode cX4_freeSlot 0 = .ok (.iconst 0, 1) := by decide +kernel
theorem dX4_freeSlot_1 : decode cX4_freeSlot 1 = .ok (.istore_n 1, 1) := by decide +kernel
theorem dX4_freeSlot_2 : decode cX4_freeSlot 2 = .ok (.iload_n 1, 1) := by decide +kernel
theorem dX4_freeSlot_3 : decode cX4_freeSlot 3 = .ok (.bipush 24, 2) := by decide +kernel
theorem dX4_freeSlot_5 : decode cX4_freeSlot 5 = .ok (.if_icmp .ge 20, 3) := by decide +kernel
theorem dX4_freeSlot_8 : decode cX4_freeSlot 8 = .ok (.aload_n 0, 1) := by decide +kernel
theorem dX4_freeSlot_9 : decode cX4_freeSlot 9 = .ok (.getfield 20, 3) := by decide +kernel
theorem dX4_freeSlot_12 : decode cX4_freeSlot 12 = .ok (.iload_n 1, 1) := by decide +kernel
theorem dX4_freeSlot_13 : decode cX4_freeSlot 13 = .ok (.aaload, 1) := by decide +kernel
theorem dX4_freeSlot_14 : decode cX4_freeSlot 14 = .ok (.ifnonnull 5, 3) := by decide +kernel
theorem dX4_freeSlot_17 : decode cX4_freeSlot 17 = .ok (.iload_n 1, 1) := by decide +kernel
theorem dX4_freeSlot_18 : decode cX4_freeSlot 18 = .ok (.ireturn, 1) := by decide +kernel
theorem dX4_freeSlot_19 : decode cX4_freeSlot 19 = .ok (.iinc 1 1, 3) := by decide +kernel
theorem dX4_freeSlot_22 : decode cX4_freeSlot 22 = .ok (.goto (-20), 3) := by decide +kernel
theorem dX4_freeSlot_25 : decode cX4_freeSlot 25 = .ok (.iconst (-1), 1) := by decide +kernel
theorem dX4_freeSlot_26 : decode cX4_freeSlot 26 = .ok (.ireturn, 1) := by decide +kernel
theorem dX4_put_0 : decode cX4_put 0 = .ok (.aload_n 1, 1) := by decide +kernel
theorem dX4_put_1 : decode cX4_put 1 = .ok (.getfield 24, 3) := by decide +kernel
theorem dX4_put_4 : decode cX4_put 4 = .ok (.ifnull 19, 3) := by decide +kernel
theorem dX4_put_7 : decode cX4_put 7 = .ok (.aload_n 1, 1) := by decide +kernel
theorem dX4_put_8 : decode cX4_put 8 = .ok (.getfield 27, 3) := by decide +kernel
theorem dX4_put_11 : decode cX4_put 11 = .ok (.ifCond .lt 12, 3) := by decide +kernel
theorem dX4_put_14 : decode cX4_put 14 = .ok (.aload_n 1, 1) := by decide +kernel
theorem dX4_put_15 : decode cX4_put 15 = .ok (.getfield 27, 3) := by decide +kernel
theorem dX4_put_18 : decode cX4_put 18 = .ok (.bipush 24, 2) := by decide +kernel
theorem dX4_put_20 : decode cX4_put 20 = .ok (.if_icmp .lt 4, 3) := by decide +kernel
theorem dX4_put_23 : decode cX4_put 23 = .ok (.return_, 1) := by decide +kernel
theorem dX4_put_24 : decode cX4_put 24 = .ok (.aload_n 0, 1) := by decide +kernel
theorem dX4_put_25 : decode cX4_put 25 = .ok (.getfield 20, 3) := by decide +kernel
theorem dX4_put_28 : decode cX4_put 28 = .ok (.aload_n 1, 1) := by decide +kernel
theorem dX4_put_29 : decode cX4_put 29 = .ok (.getfield 27, 3) := by decide +kernel
theorem dX4_put_32 : decode cX4_put 32 = .ok (.aload_n 1, 1) := by decide +kernel
theorem dX4_put_33 : decode cX4_put 33 = .ok (.aastore, 1) := by decide +kernel
theorem dX4_put_34 : decode cX4_put 34 = .ok (.aload_n 1, 1) := by decide +kernel
theorem dX4_put_35 : decode cX4_put 35 = .ok (.getfield 24, 3) := by decide +kernel
theorem dX4_put_38 : decode cX4_put 38 = .ok (.getfield 31, 3) := by decide +kernel
theorem dX4_put_41 : decode cX4_put 41 = .ok (.aload_n 1, 1) := by decide +kernel
theorem dX4_put_42 : decode cX4_put 42 = .ok (.invokevirtual 35, 3) := by decide +kernel
theorem dX4_put_45 : decode cX4_put 45 = .ok (.pop, 1) := by decide +kernel
theorem dX4_put_46 : decode cX4_put 46 = .ok (.aload_n 0, 1) := by decide +kernel
theorem dX4_put_47 : decode cX4_put 47 = .ok (.dup, 1) := by decide +kernel
theorem dX4_put_48 : decode cX4_put 48 = .ok (.getfield 41, 3) := by decide +kernel
theorem dX4_put_51 : decode cX4_put 51 = .ok (.iconst 1, 1) := by decide +kernel
theorem dX4_put_52 : decode cX4_put 52 = .ok (.iadd, 1) := by decide +kernel
theorem dX4_put_53 : decode cX4_put 53 = .ok (.putfield 41, 3) := by decide +kernel
theorem dX4_put_56 : decode cX4_put 56 = .ok (.return_, 1) := by decide +kernel
theorem dX4_placeOf_0 : decode cX4_placeOf 0 = .ok (.aload_n 1, 1) := by decide +kernel
theorem dX4_placeOf_1 : decode cX4_placeOf 1 = .ok (.getfield 24, 3) := by decide +kernel
theorem dX4_placeOf_4 : decode cX4_placeOf 4 = .ok (.ifnonnull 5, 3) := by decide +kernel
theorem dX4_placeOf_7 : decode cX4_placeOf 7 = .ok (.iconst (-1), 1) := by decide +kernel
theorem dX4_placeOf_8 : decode cX4_placeOf 8 = .ok (.ireturn, 1) := by decide +kernel
theorem dX4_placeOf_9 : decode cX4_placeOf 9 = .ok (.aload_n 1, 1) := by decide +kernel
theorem dX4_placeOf_10 : decode cX4_placeOf 10 = .ok (.getfield 24, 3) := by decide +kernel
theorem dX4_placeOf_13 : decode cX4_placeOf 13 = .ok (.getfield 31, 3) := by decide +kernel
theorem dX4_placeOf_16 : decode cX4_placeOf 16 = .ok (.astore_n 2, 1) := by decide +kernel
theorem dX4_placeOf_17 : decode cX4_placeOf 17 = .ok (.iconst 0, 1) := by decide +kernel
theorem dX4_placeOf_18 : decode cX4_placeOf 18 = .ok (.istore_n 3, 1) := by decide +kernel
theorem dX4_placeOf_19 : decode cX4_placeOf 19 = .ok (.iload_n 3, 1) := by decide +kernel
theorem dX4_placeOf_20 : decode cX4_placeOf 20 = .ok (.aload_n 2, 1) := by decide +kernel
theorem dX4_placeOf_21 : decode cX4_placeOf 21 = .ok (.invokevirtual 44, 3) := by decide +kernel
theorem dX4_placeOf_24 : decode cX4_placeOf 24 = .ok (.if_icmp .ge 20, 3) := by decide +kernel
theorem dX4_placeOf_27 : decode cX4_placeOf 27 = .ok (.aload_n 2, 1) := by decide +kernel
theorem dX4_placeOf_28 : decode cX4_placeOf 28 = .ok (.iload_n 3, 1) := by decide +kernel
theorem dX4_placeOf_29 : decode cX4_placeOf 29 = .ok (.invokevirtual 48, 3) := by decide +kernel
theorem dX4_placeOf_32 : decode cX4_placeOf 32 = .ok (.aload_n 1, 1) := by decide +kernel
theorem dX4_placeOf_33 : decode cX4_placeOf 33 = .ok (.if_acmp .ne 5, 3) := by decide +kernel
theorem dX4_placeOf_36 : decode cX4_placeOf 36 = .ok (.iload_n 3, 1) := by decide +kernel
theorem dX4_placeOf_37 : decode cX4_placeOf 37 = .ok (.ireturn, 1) := by decide +kernel
theorem dX4_placeOf_38 : decode cX4_placeOf 38 = .ok (.iinc 3 1, 3) := by decide +kernel
theorem dX4_placeOf_41 : decode cX4_placeOf 41 = .ok (.goto (-22), 3) := by decide +kernel
theorem dX4_placeOf_44 : decode cX4_placeOf 44 = .ok (.iconst (-1), 1) := by decide +kernel
theorem dX4_placeOf_45 : decode cX4_placeOf 45 = .ok (.ireturn, 1) := by decide +kernel
theorem dX4_shift_0 : decode cX4_shift 0 = .ok (.aload_n 0, 1) := by decide +kernel
theorem dX4_shift_1 : decode cX4_shift 1 = .ok (.aload_n 1, 1) := by decide +kernel
theorem dX4_shift_2 : decode cX4_shift 2 = .ok (.invokevirtual 52, 3) := by decide +kernel
theorem dX4_shift_5 : decode cX4_shift 5 = .ok (.istore_n 3, 1) := by decide +kernel
theorem dX4_shift_6 : decode cX4_shift 6 = .ok (.iload_n 3, 1) := by decide +kernel
theorem dX4_shift_7 : decode cX4_shift 7 = .ok (.iconst (-1), 1) := by decide +kernel
theorem dX4_shift_8 : decode cX4_shift 8 = .ok (.if_icmp .eq 21, 3) := by decide +kernel
theorem dX4_shift_11 : decode cX4_shift 11 = .ok (.iload_n 2, 1) := by decide +kernel
theorem dX4_shift_12 : decode cX4_shift 12 = .ok (.ifCond .lt 17, 3) := by decide +kernel
theorem dX4_shift_15 : decode cX4_shift 15 = .ok (.iload_n 2, 1) := by decide +kernel
theorem dX4_shift_16 : decode cX4_shift 16 = .ok (.aload_n 1, 1) := by decide +kernel
theorem dX4_shift_17 : decode cX4_shift 17 = .ok (.getfield 24, 3) := by decide +kernel
theorem dX4_shift_20 : decode cX4_shift 20 = .ok (.getfield 31, 3) := by decide +kernel
theorem dX4_shift_23 : decode cX4_shift 23 = .ok (.invokevirtual 44, 3) := by decide +kernel
theorem dX4_shift_26 : decode cX4_shift 26 = .ok (.if_icmp .lt 5, 3) := by decide +kernel
theorem dX4_shift_29 : decode cX4_shift 29 = .ok (.iconst 0, 1) := by decide +kernel
theorem dX4_shift_30 : decode cX4_shift 30 = .ok (.ireturn, 1) := by decide +kernel
theorem dX4_shift_31 : decode cX4_shift 31 = .ok (.aload_n 1, 1) := by decide +kernel
theorem dX4_shift_32 : decode cX4_shift 32 = .ok (.getfield 24, 3) := by decide +kernel
theorem dX4_shift_35 : decode cX4_shift 35 = .ok (.getfield 31, 3) := by decide +kernel
theorem dX4_shift_38 : decode cX4_shift 38 = .ok (.iload_n 3, 1) := by decide +kernel
theorem dX4_shift_39 : decode cX4_shift 39 = .ok (.invokevirtual 56, 3) := by decide +kernel
theorem dX4_shift_42 : decode cX4_shift 42 = .ok (.pop, 1) := by decide +kernel
theorem dX4_shift_43 : decode cX4_shift 43 = .ok (.aload_n 1, 1) := by decide +kernel
theorem dX4_shift_44 : decode cX4_shift 44 = .ok (.getfield 24, 3) := by decide +kernel
theorem dX4_shift_47 : decode cX4_shift 47 = .ok (.getfield 31, 3) := by decide +kernel
theorem dX4_shift_50 : decode cX4_shift 50 = .ok (.iload_n 2, 1) := by decide +kernel
theorem dX4_shift_51 : decode cX4_shift 51 = .ok (.aload_n 1, 1) := by decide +kernel
theorem dX4_shift_52 : decode cX4_shift 52 = .ok (.invokevirtual 59, 3) := by decide +kernel
theorem dX4_shift_55 : decode cX4_shift 55 = .ok (.iconst 1, 1) := by decide +kernel
theorem dX4_shift_56 : decode cX4_shift 56 = .ok (.ireturn, 1) := by decide +kernel
theorem dX4_remove_0 : decode cX4_remove 0 = .ok (.aload_n 0, 1) := by decide +kernel
theorem dX4_remove_1 : decode cX4_remove 1 = .ok (.getfield 41, 3) := by decide +kernel
theorem dX4_remove_4 : decode cX4_remove 4 = .ok (.istore_n 2, 1) := by decide +kernel
theorem dX4_remove_5 : decode cX4_remove 5 = .ok (.aload_n 0, 1) := by decide +kernel
theorem dX4_remove_6 : decode cX4_remove 6 = .ok (.aload_n 1, 1) := by decide +kernel
theorem dX4_remove_7 : decode cX4_remove 7 = .ok (.invokevirtual 52, 3) := by decide +kernel
theorem dX4_remove_10 : decode cX4_remove 10 = .ok (.istore_n 3, 1) := by decide +kernel
theorem dX4_remove_11 : decode cX4_remove 11 = .ok (.iload_n 3, 1) := by decide +kernel
theorem dX4_remove_12 : decode cX4_remove 12 = .ok (.iconst (-1), 1) := by decide +kernel
theorem dX4_remove_13 : decode cX4_remove 13 = .ok (.if_icmp .eq 15, 3) := by decide +kernel
theorem dX4_remove_16 : decode cX4_remove 16 = .ok (.aload_n 1, 1) := by decide +kernel
theorem dX4_remove_17 : decode cX4_remove 17 = .ok (.getfield 24, 3) := by decide +kernel
theorem dX4_remove_20 : decode cX4_remove 20 = .ok (.getfield 31, 3) := by decide +kernel
theorem dX4_remove_23 : decode cX4_remove 23 = .ok (.iload_n 3, 1) := by decide +kernel
theorem dX4_remove_24 : decode cX4_remove 24 = .ok (.invokevirtual 56, 3) := by decide +kernel
theorem dX4_remove_27 : decode cX4_remove 27 = .ok (.pop, 1) := by decide +kernel
theorem dX4_remove_28 : decode cX4_remove 28 = .ok (.iconst 0, 1) := by decide +kernel
theorem dX4_remove_29 : decode cX4_remove 29 = .ok (.istore 4, 2) := by decide +kernel
theorem dX4_remove_31 : decode cX4_remove 31 = .ok (.iload 4, 2) := by decide +kernel
theorem dX4_remove_33 : decode cX4_remove 33 = .ok (.bipush 24, 2) := by decide +kernel
theorem dX4_remove_35 : decode cX4_remove 35 = .ok (.if_icmp .ge 62, 3) := by decide +kernel
theorem dX4_remove_38 : decode cX4_remove 38 = .ok (.aload_n 0, 1) := by decide +kernel
theorem dX4_remove_39 : decode cX4_remove 39 = .ok (.getfield 20, 3) := by decide +kernel
theorem dX4_remove_42 : decode cX4_remove 42 = .ok (.iload 4, 2) := by decide +kernel
theorem dX4_remove_44 : decode cX4_remove 44 = .ok (.aaload, 1) := by decide +kernel
theorem dX4_remove_45 : decode cX4_remove 45 = .ok (.ifnull 46, 3) := by decide +kernel
theorem dX4_remove_48 : decode cX4_remove 48 = .ok (.aload_n 0, 1) := by decide +kernel
theorem dX4_remove_49 : decode cX4_remove 49 = .ok (.getfield 20, 3) := by decide +kernel
theorem dX4_remove_52 : decode cX4_remove 52 = .ok (.iload 4, 2) := by decide +kernel
theorem dX4_remove_54 : decode cX4_remove 54 = .ok (.aaload, 1) := by decide +kernel
theorem dX4_remove_55 : decode cX4_remove 55 = .ok (.aload_n 1, 1) := by decide +kernel
theorem dX4_remove_56 : decode cX4_remove 56 = .ok (.invokevirtual 62, 3) := by decide +kernel
theorem dX4_remove_59 : decode cX4_remove 59 = .ok (.ifCond .eq 32, 3) := by decide +kernel
theorem dX4_remove_62 : decode cX4_remove 62 = .ok (.aload_n 0, 1) := by decide +kernel
theorem dX4_remove_63 : decode cX4_remove 63 = .ok (.getfield 20, 3) := by decide +kernel
theorem dX4_remove_66 : decode cX4_remove 66 = .ok (.iload 4, 2) := by decide +kernel
theorem dX4_remove_68 : decode cX4_remove 68 = .ok (.aaload, 1) := by decide +kernel
theorem dX4_remove_69 : decode cX4_remove 69 = .ok (.iconst 1, 1) := by decide +kernel
theorem dX4_remove_70 : decode cX4_remove 70 = .ok (.putfield 66, 3) := by decide +kernel
theorem dX4_remove_73 : decode cX4_remove 73 = .ok (.aload_n 0, 1) := by decide +kernel
theorem dX4_remove_74 : decode cX4_remove 74 = .ok (.getfield 20, 3) := by decide +kernel
theorem dX4_remove_77 : decode cX4_remove 77 = .ok (.iload 4, 2) := by decide +kernel
theorem dX4_remove_79 : decode cX4_remove 79 = .ok (.aconst_null, 1) := by decide +kernel
theorem dX4_remove_80 : decode cX4_remove 80 = .ok (.aastore, 1) := by decide +kernel
theorem dX4_remove_81 : decode cX4_remove 81 = .ok (.aload_n 0, 1) := by decide +kernel
theorem dX4_remove_82 : decode cX4_remove 82 = .ok (.dup, 1) := by decide +kernel
theorem dX4_remove_83 : decode cX4_remove 83 = .ok (.getfield 41, 3) := by decide +kernel
theorem dX4_remove_86 : decode cX4_remove 86 = .ok (.iconst 1, 1) := by decide +kernel
theorem dX4_remove_87 : decode cX4_remove 87 = .ok (.isub, 1) := by decide +kernel
theorem dX4_remove_88 : decode cX4_remove 88 = .ok (.putfield 41, 3) := by decide +kernel
theorem dX4_remove_91 : decode cX4_remove 91 = .ok (.iinc 4 1, 3) := by decide +kernel
theorem dX4_remove_94 : decode cX4_remove 94 = .ok (.goto (-63), 3) := by decide +kernel
theorem dX4_remove_97 : decode cX4_remove 97 = .ok (.iload_n 2, 1) := by decide +kernel
theorem dX4_remove_98 : decode cX4_remove 98 = .ok (.aload_n 0, 1) := by decide +kernel
theorem dX4_remove_99 : decode cX4_remove 99 = .ok (.getfield 41, 3) := by decide +kernel
theorem dX4_remove_102 : decode cX4_remove 102 = .ok (.isub, 1) := by decide +kernel
theorem dX4_remove_103 : decode cX4_remove 103 = .ok (.ireturn, 1) := by decide +kernel
theorem dX5_init_0 : decode cX5_init 0 = .ok (.aload_n 0, 1) := by decide +kernel
theorem dX5_init_1 : decode cX5_init 1 = .ok (.invokespecial 1, 3) := by decide +kernel
theorem dX5_init_4 : decode cX5_init 4 = .ok (.aload_n 0, 1) := by decide +kernel
theorem dX5_init_5 : decode cX5_init 5 = .ok (.aload_n 1, 1) := by decide +kernel
theorem dX5_init_6 : decode cX5_init 6 = .ok (.putfield 7, 3) := by decide +kernel
theorem dX5_init_9 : decode cX5_init 9 = .ok (.return_, 1) := by decide +kernel
theorem dX5_shownLength_0 : decode cX5_shownLength 0 = .ok (.aload_n 0, 1) := by decide +kernel
theorem dX5_shownLength_1 : decode cX5_shownLength 1 = .ok (.getfield 13, 3) := by decide +kernel
theorem dX5_shownLength_4 : decode cX5_shownLength 4 = .ok (.ifnonnull 10, 3) := by decide +kernel
theorem dX5_shownLength_7 : decode cX5_shownLength 7 = .ok (.aload_n 0, 1) := by decide +kernel
theorem dX5_shownLength_8 : decode cX5_shownLength 8 = .ok (.getfield 17, 3) := by decide +kernel
theorem dX5_shownLength_11 : decode cX5_shownLength 11 = .ok (.goto 11, 3) := by decide +kernel
theorem dX5_shownLength_14 : decode cX5_shownLength 14 = .ok (.aload_n 0, 1) := by decide +kernel
theorem dX5_shownLength_15 : decode cX5_shownLength 15 = .ok (.getfield 13, 3) := by decide +kernel
theorem dX5_shownLength_18 : decode cX5_shownLength 18 = .ok (.getfield 21, 3) := by decide +kernel
theorem dX5_shownLength_21 : decode cX5_shownLength 21 = .ok (.arraylength, 1) := by decide +kernel
theorem dX5_shownLength_22 : decode cX5_shownLength 22 = .ok (.ireturn, 1) := by decide +kernel
theorem dX5_hasMakerOf_0 : decode cX5_hasMakerOf 0 = .ok (.aload_n 0, 1) := by decide +kernel
theorem dX5_hasMakerOf_1 : decode cX5_hasMakerOf 1 = .ok (.getfield 7, 3) := by decide +kernel
theorem dX5_hasMakerOf_4 : decode cX5_hasMakerOf 4 = .ok (.aload_n 1, 1) := by decide +kernel
theorem dX5_hasMakerOf_5 : decode cX5_hasMakerOf 5 = .ok (.getfield 7, 3) := by decide +kernel
theorem dX5_hasMakerOf_8 : decode cX5_hasMakerOf 8 = .ok (.if_acmp .ne 40, 3) := by decide +kernel
theorem dX5_hasMakerOf_11 : decode cX5_hasMakerOf 11 = .ok (.aload_n 0, 1) := by decide +kernel
theorem dX5_hasMakerOf_12 : decode cX5_hasMakerOf 12 = .ok (.getfield 27, 3) := by decide +kernel
theorem dX5_hasMakerOf_15 : decode cX5_hasMakerOf 15 = .ok (.aload_n 1, 1) := by decide +kernel
theorem dX5_hasMakerOf_16 : decode cX5_hasMakerOf 16 = .ok (.getfield 27, 3) := by decide +kernel
theorem dX5_hasMakerOf_19 : decode cX5_hasMakerOf 19 = .ok (.if_icmp .ne 29, 3) := by decide +kernel
theorem dX5_hasMakerOf_22 : decode cX5_hasMakerOf 22 = .ok (.aload_n 0, 1) := by decide +kernel
theorem dX5_hasMakerOf_23 : decode cX5_hasMakerOf 23 = .ok (.getfield 30, 3) := by decide +kernel
theorem dX5_hasMakerOf_26 : decode cX5_hasMakerOf 26 = .ok (.aload_n 1, 1) := by decide +kernel
theorem dX5_hasMakerOf_27 : decode cX5_hasMakerOf 27 = .ok (.getfield 30, 3) := by decide +kernel
theorem dX5_hasMakerOf_30 : decode cX5_hasMakerOf 30 = .ok (.if_icmp .ne 18, 3) := by decide +kernel
theorem dX5_hasMakerOf_33 : decode cX5_hasMakerOf 33 = .ok (.aload_n 0, 1) := by decide +kernel
theorem dX5_hasMakerOf_34 : decode cX5_hasMakerOf 34 = .ok (.getfield 33, 3) := by decide +kernel
theorem dX5_hasMakerOf_37 : decode cX5_hasMakerOf 37 = .ok (.aload_n 1, 1) := by decide +kernel
theorem dX5_hasMakerOf_38 : decode cX5_hasMakerOf 38 = .ok (.getfield 33, 3) := by decide +kernel
theorem dX5_hasMakerOf_41 : decode cX5_hasMakerOf 41 = .ok (.if_icmp .ne 7, 3) := by decide +kernel
theorem dX5_hasMakerOf_44 : decode cX5_hasMakerOf 44 = .ok (.iconst 1, 1) := by decide +kernel
theorem dX5_hasMakerOf_45 : decode cX5_hasMakerOf 45 = .ok (.goto 4, 3) := by decide +kernel
theorem dX5_hasMakerOf_48 : decode cX5_hasMakerOf 48 = .ok (.iconst 0, 1) := by decide +kernel
theorem dX5_hasMakerOf_49 : decode cX5_hasMakerOf 49 = .ok (.ireturn, 1) := by decide +kernel
theorem dX6_init_0 : decode cX6_init 0 = .ok (.aload_n 0, 1) := by decide +kernel
theorem dX6_init_1 : decode cX6_init 1 = .ok (.invokespecial 3, 3) := by decide +kernel
theorem dX6_init_4 : decode cX6_init 4 = .ok (.aload_n 0, 1) := by decide +kernel
theorem dX6_init_5 : decode cX6_init 5 = .ok (.iconst (-1), 1) := by decide +kernel
theorem dX6_init_6 : decode cX6_init 6 = .ok (.putfield 9, 3) := by decide +kernel
theorem dX6_init_9 : decode cX6_init 9 = .ok (.aload_n 1, 1) := by decide +kernel
theorem dX6_init_10 : decode cX6_init 10 = .ok (.arraylength, 1) := by decide +kernel
theorem dX6_init_11 : decode cX6_init 11 = .ok (.bipush 20, 2) := by decide +kernel
theorem dX6_init_13 : decode cX6_init 13 = .ok (.invokestatic 15, 3) := by decide +kernel
theorem dX6_init_16 : decode cX6_init 16 = .ok (.istore_n 2, 1) := by decide +kernel
theorem dX6_init_17 : decode cX6_init 17 = .ok (.aload_n 0, 1) := by decide +kernel
theorem dX6_init_18 : decode cX6_init 18 = .ok (.aload_n 1, 1) := by decide +kernel
theorem dX6_init_19 : decode cX6_init 19 = .ok (.putfield 21, 3) := by decide +kernel
theorem dX6_init_22 : decode cX6_init 22 = .ok (.aload_n 0, 1) := by decide +kernel
theorem dX6_init_23 : decode cX6_init 23 = .ok (.iload_n 2, 1) := by decide +kernel
theorem dX6_init_24 : decode cX6_init 24 = .ok (.newarray .int, 2) := by decide +kernel
theorem dX6_init_26 : decode cX6_init 26 = .ok (.putfield 25, 3) := by decide +kernel
theorem dX6_init_29 : decode cX6_init 29 = .ok (.aload_n 0, 1) := by decide +kernel
theorem dX6_init_30 : decode cX6_init 30 = .ok (.iload_n 2, 1) := by decide +kernel
theorem dX6_init_31 : decode cX6_init 31 = .ok (.newarray .int, 2) := by decide +kernel
theorem dX6_init_33 : decode cX6_init 33 = .ok (.putfield 28, 3) := by decide +kernel
theorem dX6_init_36 : decode cX6_init 36 = .ok (.aload_n 0, 1) := by decide +kernel
theorem dX6_init_37 : decode cX6_init 37 = .ok (.iload_n 2, 1) := by decide +kernel
theorem dX6_init_38 : decode cX6_init 38 = .ok (.newarray .int, 2) := by decide +kernel
theorem dX6_init_40 : decode cX6_init 40 = .ok (.putfield 31, 3) := by decide +kernel
theorem dX6_init_43 : decode cX6_init 43 = .ok (.return_, 1) := by decide +kernel
theorem dX6_readItems_0 : decode cX6_readItems 0 = .ok (.iconst 0, 1) := by decide +kernel
theorem dX6_readItems_1 : decode cX6_readItems 1 = .ok (.istore_n 1, 1) := by decide +kernel
theorem dX6_readItems_2 : decode cX6_readItems 2 = .ok (.iconst 0, 1) := by decide +kernel
theorem dX6_readItems_3 : decode cX6_readItems 3 = .ok (.istore_n 2, 1) := by decide +kernel
theorem dX6_readItems_4 : decode cX6_readItems 4 = .ok (.iload_n 2, 1) := by decide +kernel
theorem dX6_readItems_5 : decode cX6_readItems 5 = .ok (.bipush 20, 2) := by decide +kernel
theorem dX6_readItems_7 : decode cX6_readItems 7 = .ok (.if_icmp .gt 50, 3) := by decide +kernel
theorem dX6_readItems_10 : decode cX6_readItems 10 = .ok (.aload_n 0, 1) := by decide +kernel
theorem dX6_readItems_11 : decode cX6_readItems 11 = .ok (.getfield 34, 3) := by decide +kernel
theorem dX6_readItems_14 : decode cX6_readItems 14 = .ok (.ifCond .ne 43, 3) := by decide +kernel
theorem dX6_readItems_17 : decode cX6_readItems 17 = .ok (.iload_n 1, 1) := by decide +kernel
theorem dX6_readItems_18 : decode cX6_readItems 18 = .ok (.aload_n 0, 1) := by decide +kernel
theorem dX6_readItems_19 : decode cX6_readItems 19 = .ok (.getfield 21, 3) := by decide +kernel
theorem dX6_readItems_22 : decode cX6_readItems 22 = .ok (.arraylength, 1) := by decide +kernel
theorem dX6_readItems_23 : decode cX6_readItems 23 = .ok (.if_icmp .ge 34, 3) := by decide +kernel
theorem dX6_readItems_26 : decode cX6_readItems 26 = .ok (.aload_n 0, 1) := by decide +kernel
theorem dX6_readItems_27 : decode cX6_readItems 27 = .ok (.getfield 21, 3) := by decide +kernel
theorem dX6_readItems_30 : decode cX6_readItems 30 = .ok (.iload_n 1, 1) := by decide +kernel
theorem dX6_readItems_31 : decode cX6_readItems 31 = .ok (.iaload, 1) := by decide +kernel
theorem dX6_readItems_32 : decode cX6_readItems 32 = .ok (.bipush 60, 2) := by decide +kernel
theorem dX6_readItems_34 : decode cX6_readItems 34 = .ok (.if_icmp .ne 11, 3) := by decide +kernel
theorem dX6_readItems_37 : decode cX6_readItems 37 = .ok (.aload_n 0, 1) := by decide +kernel
theorem dX6_readItems_38 : decode cX6_readItems 38 = .ok (.iload_n 1, 1) := by decide +kernel
theorem dX6_readItems_39 : decode cX6_readItems 39 = .ok (.invokevirtual 37, 3) := by decide +kernel
theorem dX6_readItems_42 : decode cX6_readItems 42 = .ok (.goto 8, 3) := by decide +kernel
theorem dX6_readItems_45 : decode cX6_readItems 45 = .ok (.aload_n 0, 1) := by decide +kernel
theorem dX6_readItems_46 : decode cX6_readItems 46 = .ok (.iload_n 1, 1) := by decide +kernel
theorem dX6_readItems_47 : decode cX6_readItems 47 = .ok (.invokevirtual 41, 3) := by decide +kernel
theorem dX6_readItems_50 : decode cX6_readItems 50 = .ok (.istore_n 1, 1) := by decide +kernel
theorem dX6_readItems_51 : decode cX6_readItems 51 = .ok (.iinc 2 1, 3) := by decide +kernel
theorem dX6_readItems_54 : decode cX6_readItems 54 = .ok (.goto (-50), 3) := by decide +kernel
theorem dX6_readItems_57 : decode cX6_readItems 57 = .ok (.aload_n 0, 1) := by decide +kernel
theorem dX6_readItems_58 : decode cX6_readItems 58 = .ok (.getfield 34, 3) := by decide +kernel
theorem dX6_readItems_61 : decode cX6_readItems 61 = .ok (.ifCond .ne 20, 3) := by decide +kernel
theorem dX6_readItems_64 : decode cX6_readItems 64 = .ok (.aload_n 0, 1) := by decide +kernel
theorem dX6_readItems_65 : decode cX6_readItems 65 = .ok (.getfield 44, 3) := by decide +kernel
theorem dX6_readItems_68 : decode cX6_readItems 68 = .ok (.ifCond .eq 13, 3) := by decide +kernel
theorem dX6_readItems_71 : decode cX6_readItems 71 = .ok (.aload_n 0, 1) := by decide +kernel
theorem dX6_readItems_72 : decode cX6_readItems 72 = .ok (.iconst 4, 1) := by decide +kernel
theorem dX6_readItems_73 : decode cX6_readItems 73 = .ok (.aload_n 0, 1) := by decide +kernel
theorem dX6_readItems_74 : decode cX6_readItems 74 = .ok (.getfield 21, 3) := by decide +kernel
theorem dX6_readItems_77 : decode cX6_readItems 77 = .ok (.arraylength, 1) := by decide +kernel
theorem dX6_readItems_78 : decode cX6_readItems 78 = .ok (.invokevirtual 48, 3) := by decide +kernel
theorem dX6_readItems_81 : decode cX6_readItems 81 = .ok (.return_, 1) := by decide +kernel
theorem dX6_readWord_0 : decode cX6_readWord 0 = .ok (.iload_n 1, 1) := by decide +kernel
theorem dX6_readWord_1 : decode cX6_readWord 1 = .ok (.istore_n 2, 1) := by decide +kernel
theorem dX6_readWord_2 : decode cX6_readWord 2 = .ok (.iload_n 2, 1) := by decide +kernel
theorem dX6_readWord_3 : decode cX6_readWord 3 = .ok (.aload_n 0, 1) := by decide +kernel
theorem dX6_readWord_4 : decode cX6_readWord 4 = .ok (.getfield 21, 3) := by decide +kernel
theorem dX6_readWord_7 : decode cX6_readWord 7 = .ok (.arraylength, 1) := by decide +kernel
theorem dX6_readWord_8 : decode cX6_readWord 8 = .ok (.if_icmp .ge 42, 3) := by decide +kernel
theorem dX6_readWord_11 : decode cX6_readWord 11 = .ok (.aload_n 0, 1) := by decide +kernel
theorem dX6_readWord_12 : decode cX6_readWord 12 = .ok (.getfield 21, 3) := by decide +kernel
theorem dX6_readWord_15 : decode cX6_readWord 15 = .ok (.iload_n 2, 1) := by decide +kernel
theorem dX6_readWord_16 : decode cX6_readWord 16 = .ok (.iaload, 1) := by decide +kernel
theorem dX6_readWord_17 : decode cX6_readWord 17 = .ok (.bipush 32, 2) := by decide +kernel
theorem dX6_readWord_19 : decode cX6_readWord 19 = .ok (.if_icmp .lt 31, 3) := by decide +kernel
theorem dX6_readWord_22 : decode cX6_readWord 22 = .ok (.aload_n 0, 1) := by decide +kernel
theorem dX6_readWord_23 : decode cX6_readWord 23 = .ok (.getfield 21, 3) := by decide +kernel
theorem dX6_readWord_26 : decode cX6_readWord 26 = .ok (.iload_n 2, 1) := by decide +kernel
theorem dX6_readWord_27 : decode cX6_readWord 27 = .ok (.iaload, 1) := by decide +kernel
theorem dX6_readWord_28 : decode cX6_readWord 28 = .ok (.bipush 126, 2) := by decide +kernel
theorem dX6_readWord_30 : decode cX6_readWord 30 = .ok (.if_icmp .gt 20, 3) := by decide +kernel
theorem dX6_readWord_33 : decode cX6_readWord 33 = .ok (.aload_n 0, 1) := by decide +kernel
theorem dX6_readWord_34 : decode cX6_readWord 34 = .ok (.getfield 21, 3) := by decide +kernel
theorem dX6_readWord_37 : decode cX6_readWord 37 = .ok (.iload_n 2, 1) := by decide +kernel
theorem dX6_readWord_38 : decode cX6_readWord 38 = .ok (.iaload, 1) := by decide +kernel
theorem dX6_readWord_39 : decode cX6_readWord 39 = .ok (.bipush 60, 2) := by decide +kernel
theorem dX6_readWord_41 : decode cX6_readWord 41 = .ok (.if_icmp .eq 9, 3) := by decide +kernel
theorem dX6_readWord_44 : decode cX6_readWord 44 = .ok (.iinc 2 1, 3) := by decide +kernel
theorem dX6_readWord_47 : decode cX6_readWord 47 = .ok (.goto (-45), 3) := by decide +kernel
theorem dX6_readWord_50 : decode cX6_readWord 50 = .ok (.iload_n 2, 1) := by decide +kernel
theorem dX6_readWord_51 : decode cX6_readWord 51 = .ok (.iload_n 1, 1) := by decide +kernel
theorem dX6_readWord_52 : decode cX6_readWord 52 = .ok (.if_icmp .le 13, 3) := by decide +kernel
theorem dX6_readWord_55 : decode cX6_readWord 55 = .ok (.aload_n 0, 1) := by decide +kernel
theorem dX6_readWord_56 : decode cX6_readWord 56 = .ok (.iload_n 1, 1) := by decide +kernel
theorem dX6_readWord_57 : decode cX6_readWord 57 = .ok (.iconst 0, 1) := by decide +kernel
theorem dX6_readWord_58 : decode cX6_readWord 58 = .ok (.iload_n 1, 1) := by decide +kernel
theorem dX6_readWord_59 : decode cX6_readWord 59 = .ok (.iload_n 2, 1) := by decide +kernel
theorem dX6_readWord_60 : decode cX6_readWord 60 = .ok (.iload_n 1, 1) := by decide +kernel
theorem dX6_readWord_61 : decode cX6_readWord 61 = .ok (.isub, 1) := by decide +kernel
theorem dX6_readWord_62 : decode cX6_readWord 62 = .ok (.invokevirtual 52, 3) := by decide +kernel
theorem dX6_readWord_65 : decode cX6_readWord 65 = .ok (.iload_n 2, 1) := by decide +kernel
theorem dX6_readWord_66 : decode cX6_readWord 66 = .ok (.aload_n 0, 1) := by decide +kernel
theorem dX6_readWord_67 : decode cX6_readWord 67 = .ok (.getfield 21, 3) := by decide +kernel
theorem dX6_readWord_70 : decode cX6_readWord 70 = .ok (.arraylength, 1) := by decide +kernel
theorem dX6_readWord_71 : decode cX6_readWord 71 = .ok (.if_icmp .ge 20, 3) := by decide +kernel
theorem dX6_readWord_74 : decode cX6_readWord 74 = .ok (.aload_n 0, 1) := by decide +kernel
theorem dX6_readWord_75 : decode cX6_readWord 75 = .ok (.getfield 21, 3) := by decide +kernel
theorem dX6_readWord_78 : decode cX6_readWord 78 = .ok (.iload_n 2, 1) := by decide +kernel
theorem dX6_readWord_79 : decode cX6_readWord 79 = .ok (.iaload, 1) := by decide +kernel
theorem dX6_readWord_80 : decode cX6_readWord 80 = .ok (.bipush 60, 2) := by decide +kernel
theorem dX6_readWord_82 : decode cX6_readWord 82 = .ok (.if_icmp .eq 9, 3) := by decide +kernel
theorem dX6_readWord_85 : decode cX6_readWord 85 = .ok (.aload_n 0, 1) := by decide +kernel
theorem dX6_readWord_86 : decode cX6_readWord 86 = .ok (.iconst 1, 1) := by decide +kernel
theorem dX6_readWord_87 : decode cX6_readWord 87 = .ok (.iload_n 2, 1) := by decide +kernel
theorem dX6_readWord_88 : decode cX6_readWord 88 = .ok (.invokevirtual 48, 3) := by decide +kernel
theorem dX6_readWord_91 : decode cX6_readWord 91 = .ok (.iload_n 2, 1) := by decide +kernel
theorem dX6_readWord_92 : decode cX6_readWord 92 = .ok (.ireturn, 1) := by decide +kernel
theorem dX6_readMark_0 : decode cX6_readMark 0 = .ok (.aload_n 0, 1) := by decide +kernel
theorem dX6_readMark_1 : decode cX6_readMark 1 = .ok (.iload_n 1, 1) := by decide +kernel
theorem dX6_readMark_2 : decode cX6_readMark 2 = .ok (.invokevirtual 56, 3) := by decide +kernel
theorem dX6_readMark_5 : decode cX6_readMark 5 = .ok (.istore_n 2, 1) := by decide +kernel
theorem dX6_readMark_6 : decode cX6_readMark 6 = .ok (.iload_n 2, 1) := by decide +kernel
theorem dX6_readMark_7 : decode cX6_readMark 7 = .ok (.iconst (-1), 1) := by decide +kernel
theorem dX6_readMark_8 : decode cX6_readMark 8 = .ok (.if_icmp .ne 12, 3) := by decide +kernel
theorem dX6_readMark_11 : decode cX6_readMark 11 = .ok (.aload_n 0, 1) := by decide +kernel
theorem dX6_readMark_12 : decode cX6_readMark 12 = .ok (.iconst 2, 1) := by decide +kernel
theorem dX6_readMark_13 : decode cX6_readMark 13 = .ok (.iload_n 1, 1) := by decide +kernel
theorem dX6_readMark_14 : decode cX6_readMark 14 = .ok (.invokevirtual 48, 3) := by decide +kernel
theorem dX6_readMark_17 : decode cX6_readMark 17 = .ok (.goto 44, 3) := by decide +kernel
theorem dX6_readMark_20 : decode cX6_readMark 20 = .ok (.iload_n 2, 1) := by decide +kernel
theorem dX6_readMark_21 : decode cX6_readMark 21 = .ok (.bipush 6, 2) := by decide +kernel
theorem dX6_readMark_23 : decode cX6_readMark 23 = .ok (.if_icmp .ne 10, 3) := by decide +kernel
theorem dX6_readMark_26 : decode cX6_readMark 26 = .ok (.aload_n 0, 1) := by decide +kernel
theorem dX6_readMark_27 : decode cX6_readMark 27 = .ok (.getfield 44, 3) := by decide +kernel
theorem dX6_readMark_30 : decode cX6_readMark 30 = .ok (.ifCond .ne 16, 3) := by decide +kernel
theorem dX6_readMark_33 : decode cX6_readMark 33 = .ok (.iload_n 2, 1) := by decide +kernel
theorem dX6_readMark_34 : decode cX6_readMark 34 = .ok (.bipush 7, 2) := by decide +kernel
theorem dX6_readMark_36 : decode cX6_readMark 36 = .ok (.if_icmp .ne 19, 3) := by decide +kernel
theorem dX6_readMark_39 : decode cX6_readMark 39 = .ok (.aload_n 0, 1) := by decide +kernel
theorem dX6_readMark_40 : decode cX6_readMark 40 = .ok (.getfield 44, 3) := by decide +kernel
theorem dX6_readMark_43 : decode cX6_readMark 43 = .ok (.ifCond .ne 12, 3) := by decide +kernel
theorem dX6_readMark_46 : decode cX6_readMark 46 = .ok (.aload_n 0, 1) := by decide +kernel
theorem dX6_readMark_47 : decode cX6_readMark 47 = .ok (.iconst 3, 1) := by decide +kernel
theorem dX6_readMark_48 : decode cX6_readMark 48 = .ok (.iload_n 1, 1) := by decide +kernel
theorem dX6_readMark_49 : decode cX6_readMark 49 = .ok (.invokevirtual 48, 3) := by decide +kernel
theorem dX6_readMark_52 : decode cX6_readMark 52 = .ok (.goto 9, 3) := by decide +kernel
theorem dX6_readMark_55 : decode cX6_readMark 55 = .ok (.aload_n 0, 1) := by decide +kernel
theorem dX6_readMark_56 : decode cX6_readMark 56 = .ok (.iload_n 1, 1) := by decide +kernel
theorem dX6_readMark_57 : decode cX6_readMark 57 = .ok (.iload_n 2, 1) := by decide +kernel
theorem dX6_readMark_58 : decode cX6_readMark 58 = .ok (.invokevirtual 59, 3) := by decide +kernel
theorem dX6_readMark_61 : decode cX6_readMark 61 = .ok (.iload_n 2, 1) := by decide +kernel
theorem dX6_readMark_62 : decode cX6_readMark 62 = .ok (.bipush 6, 2) := by decide +kernel
theorem dX6_readMark_64 : decode cX6_readMark 64 = .ok (.if_icmp .eq 9, 3) := by decide +kernel
theorem dX6_readMark_67 : decode cX6_readMark 67 = .ok (.iload_n 2, 1) := by decide +kernel
theorem dX6_readMark_68 : decode cX6_readMark 68 = .ok (.bipush 7, 2) := by decide +kernel
theorem dX6_readMark_70 : decode cX6_readMark 70 = .ok (.if_icmp .ne 18, 3) := by decide +kernel
theorem dX6_readMark_73 : decode cX6_readMark 73 = .ok (.aload_n 0, 1) := by decide +kernel
theorem dX6_readMark_74 : decode cX6_readMark 74 = .ok (.iload_n 2, 1) := by decide +kernel
theorem dX6_readMark_75 : decode cX6_readMark 75 = .ok (.bipush 6, 2) := by decide +kernel
theorem dX6_readMark_77 : decode cX6_readMark 77 = .ok (.if_icmp .ne 7, 3) := by decide +kernel
theorem dX6_readMark_80 : decode cX6_readMark 80 = .ok (.iconst 1, 1) := by decide +kernel
theorem dX6_readMark_81 : decode cX6_readMark 81 = .ok (.goto 4, 3) := by decide +kernel
theorem dX6_readMark_84 : decode cX6_readMark 84 = .ok (.iconst 0, 1) := by decide +kernel
theorem dX6_readMark_85 : decode cX6_readMark 85 = .ok (.putfield 44, 3) := by decide +kernel
theorem dX6_readMark_88 : decode cX6_readMark 88 = .ok (.iload_n 1, 1) := by decide +kernel
theorem dX6_readMark_89 : decode cX6_readMark 89 = .ok (.iload_n 2, 1) := by decide +kernel
theorem dX6_readMark_90 : decode cX6_readMark 90 = .ok (.iconst 3, 1) := by decide +kernel
theorem dX6_readMark_91 : decode cX6_readMark 91 = .ok (.if_icmp .ne 7, 3) := by decide +kernel
theorem dX6_readMark_94 : decode cX6_readMark 94 = .ok (.iconst 5, 1) := by decide +kernel
theorem dX6_readMark_95 : decode cX6_readMark 95 = .ok (.goto 14, 3) := by decide +kernel
theorem dX6_readMark_98 : decode cX6_readMark 98 = .ok (.iload_n 2, 1) := by decide +kernel
