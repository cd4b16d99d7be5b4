theorem dX8_countUnlike_51 : decode cX8_countUnlike 51 = .ok (.invokevirtual 113, 3) := by decide +kernel
theorem dX8_countUnlike_54 : decode cX8_countUnlike 54 = .ok (.ifCond .ne 6, 3) := by decide +kernel
theorem dX8_countUnlike_57 : decode cX8_countUnlike 57 = .ok (.iinc 3 1, 3) := by decide +kernel
theorem dX8_countUnlike_60 : decode cX8_countUnlike 60 = .ok (.iinc 4 1, 3) := by decide +kernel
theorem dX8_countUnlike_63 : decode cX8_countUnlike 63 = .ok (.goto (-34), 3) := by decide +kernel
theorem dX8_countUnlike_66 : decode cX8_countUnlike 66 = .ok (.iload_n 3, 1) := by decide +kernel
theorem dX8_countUnlike_67 : decode cX8_countUnlike 67 = .ok (.ireturn, 1) := by decide +kernel
theorem dX8_showsLike_0 : decode cX8_showsLike 0 = .ok (.aload_n 1, 1) := by decide +kernel
theorem dX8_showsLike_1 : decode cX8_showsLike 1 = .ok (.invokevirtual 91, 3) := by decide +kernel
theorem dX8_showsLike_4 : decode cX8_showsLike 4 = .ok (.istore 4, 2) := by decide +kernel
theorem dX8_showsLike_6 : decode cX8_showsLike 6 = .ok (.iload 4, 2) := by decide +kernel
theorem dX8_showsLike_8 : decode cX8_showsLike 8 = .ok (.aload_n 3, 1) := by decide +kernel
theorem dX8_showsLike_9 : decode cX8_showsLike 9 = .ok (.invokevirtual 91, 3) := by decide +kernel
theorem dX8_showsLike_12 : decode cX8_showsLike 12 = .ok (.if_icmp .ne 7, 3) := by decide +kernel
theorem dX8_showsLike_15 : decode cX8_showsLike 15 = .ok (.iconst 1, 1) := by decide +kernel
theorem dX8_showsLike_16 : decode cX8_showsLike 16 = .ok (.goto 4, 3) := by decide +kernel
theorem dX8_showsLike_19 : decode cX8_showsLike 19 = .ok (.iconst 0, 1) := by decide +kernel
theorem dX8_showsLike_20 : decode cX8_showsLike 20 = .ok (.istore 5, 2) := by decide +kernel
theorem dX8_showsLike_22 : decode cX8_showsLike 22 = .ok (.iconst 0, 1) := by decide +kernel
theorem dX8_showsLike_23 : decode cX8_showsLike 23 = .ok (.istore 6, 2) := by decide +kernel
theorem dX8_showsLike_25 : decode cX8_showsLike 25 = .ok (.iload 6, 2) := by decide +kernel
theorem dX8_showsLike_27 : decode cX8_showsLike 27 = .ok (.iload 4, 2) := by decide +kernel
theorem dX8_showsLike_29 : decode cX8_showsLike 29 = .ok (.if_icmp .ge 38, 3) := by decide +kernel
theorem dX8_showsLike_32 : decode cX8_showsLike 32 = .ok (.iload 5, 2) := by decide +kernel
theorem dX8_showsLike_34 : decode cX8_showsLike 34 = .ok (.ifCond .eq 33, 3) := by decide +kernel
theorem dX8_showsLike_37 : decode cX8_showsLike 37 = .ok (.aload_n 0, 1) := by decide +kernel
theorem dX8_showsLike_38 : decode cX8_showsLike 38 = .ok (.aload_n 1, 1) := by decide +kernel
theorem dX8_showsLike_39 : decode cX8_showsLike 39 = .ok (.iload 6, 2) := by decide +kernel
theorem dX8_showsLike_41 : decode cX8_showsLike 41 = .ok (.invokevirtual 117, 3) := by decide +kernel
theorem dX8_showsLike_44 : decode cX8_showsLike 44 = .ok (.aload_n 2, 1) := by decide +kernel
theorem dX8_showsLike_45 : decode cX8_showsLike 45 = .ok (.aload_n 3, 1) := by decide +kernel
theorem dX8_showsLike_46 : decode cX8_showsLike 46 = .ok (.iload 6, 2) := by decide +kernel
theorem dX8_showsLike_48 : decode cX8_showsLike 48 = .ok (.invokevirtual 117, 3) := by decide +kernel
theorem dX8_showsLike_51 : decode cX8_showsLike 51 = .ok (.if_icmp .ne 7, 3) := by decide +kernel
theorem dX8_showsLike_54 : decode cX8_showsLike 54 = .ok (.iconst 1, 1) := by decide +kernel
theorem dX8_showsLike_55 : decode cX8_showsLike 55 = .ok (.goto 4, 3) := by decide +kernel
theorem dX8_showsLike_58 : decode cX8_showsLike 58 = .ok (.iconst 0, 1) := by decide +kernel
theorem dX8_showsLike_59 : decode cX8_showsLike 59 = .ok (.istore 5, 2) := by decide +kernel
theorem dX8_showsLike_61 : decode cX8_showsLike 61 = .ok (.iinc 6 1, 3) := by decide +kernel
theorem dX8_showsLike_64 : decode cX8_showsLike 64 = .ok (.goto (-39), 3) := by decide +kernel
theorem dX8_showsLike_67 : decode cX8_showsLike 67 = .ok (.iload 5, 2) := by decide +kernel
theorem dX8_showsLike_69 : decode cX8_showsLike 69 = .ok (.ireturn, 1) := by decide +kernel
theorem dX9_init_0 : decode cX9_init 0 = .ok (.aload_n 0, 1) := by decide +kernel
theorem dX9_init_1 : decode cX9_init 1 = .ok (.invokespecial 3, 3) := by decide +kernel
theorem dX9_init_4 : decode cX9_init 4 = .ok (.aload_n 0, 1) := by decide +kernel
theorem dX9_init_5 : decode cX9_init 5 = .ok (.iconst 4, 1) := by decide +kernel
theorem dX9_init_6 : decode cX9_init 6 = .ok (.newarray .int, 2) := by decide +kernel
theorem dX9_init_8 : decode cX9_init 8 = .ok (.putfield 9, 3) := by decide +kernel
theorem dX9_init_11 : decode cX9_init 11 = .ok (.aload_n 0, 1) := by decide +kernel
theorem dX9_init_12 : decode cX9_init 12 = .ok (.new 15, 3) := by decide +kernel
theorem dX9_init_15 : decode cX9_init 15 = .ok (.dup, 1) := by decide +kernel
theorem dX9_init_16 : decode cX9_init 16 = .ok (.invokespecial 17, 3) := by decide +kernel
theorem dX9_init_19 : decode cX9_init 19 = .ok (.putfield 18, 3) := by decide +kernel
theorem dX9_init_22 : decode cX9_init 22 = .ok (.aload_n 0, 1) := by decide +kernel
theorem dX9_init_23 : decode cX9_init 23 = .ok (.iload_n 1, 1) := by decide +kernel
theorem dX9_init_24 : decode cX9_init 24 = .ok (.putfield 22, 3) := by decide +kernel
theorem dX9_init_27 : decode cX9_init 27 = .ok (.aload_n 0, 1) := by decide +kernel
theorem dX9_init_28 : decode cX9_init 28 = .ok (.iload_n 2, 1) := by decide +kernel
theorem dX9_init_29 : decode cX9_init 29 = .ok (.putfield 26, 3) := by decide +kernel
theorem dX9_init_32 : decode cX9_init 32 = .ok (.aload_n 0, 1) := by decide +kernel
theorem dX9_init_33 : decode cX9_init 33 = .ok (.aload_n 3, 1) := by decide +kernel
theorem dX9_init_34 : decode cX9_init 34 = .ok (.putfield 29, 3) := by decide +kernel
theorem dX9_init_37 : decode cX9_init 37 = .ok (.aload_n 0, 1) := by decide +kernel
theorem dX9_init_38 : decode cX9_init 38 = .ok (.aload_n 3, 1) := by decide +kernel
theorem dX9_init_39 : decode cX9_init 39 = .ok (.ifnonnull 7, 3) := by decide +kernel
theorem dX9_init_42 : decode cX9_init 42 = .ok (.iconst 0, 1) := by decide +kernel
theorem dX9_init_43 : decode cX9_init 43 = .ok (.goto 9, 3) := by decide +kernel
theorem dX9_init_46 : decode cX9_init 46 = .ok (.aload_n 3, 1) := by decide +kernel
theorem dX9_init_47 : decode cX9_init 47 = .ok (.getfield 33, 3) := by decide +kernel
theorem dX9_init_50 : decode cX9_init 50 = .ok (.iconst 1, 1) := by decide +kernel
theorem dX9_init_51 : decode cX9_init 51 = .ok (.iadd, 1) := by decide +kernel
theorem dX9_init_52 : decode cX9_init 52 = .ok (.putfield 33, 3) := by decide +kernel
theorem dX9_init_55 : decode cX9_init 55 = .ok (.aload_n 0, 1) := by decide +kernel
theorem dX9_init_56 : decode cX9_init 56 = .ok (.aload 4, 2) := by decide +kernel
theorem dX9_init_58 : decode cX9_init 58 = .ok (.putfield 36, 3) := by decide +kernel
theorem dX9_init_61 : decode cX9_init 61 = .ok (.return_, 1) := by decide +kernel
theorem dX9_isWithin_0 : decode cX9_isWithin 0 = .ok (.aload_n 0, 1) := by decide +kernel
theorem dX9_isWithin_1 : decode cX9_isWithin 1 = .ok (.astore_n 2, 1) := by decide +kernel
theorem dX9_isWithin_2 : decode cX9_isWithin 2 = .ok (.iconst 0, 1) := by decide +kernel
theorem dX9_isWithin_3 : decode cX9_isWithin 3 = .ok (.istore_n 3, 1) := by decide +kernel
theorem dX9_isWithin_4 : decode cX9_isWithin 4 = .ok (.iload_n 3, 1) := by decide +kernel
theorem dX9_isWithin_5 : decode cX9_isWithin 5 = .ok (.bipush 6, 2) := by decide +kernel
theorem dX9_isWithin_7 : decode cX9_isWithin 7 = .ok (.if_icmp .gt 25, 3) := by decide +kernel
theorem dX9_isWithin_10 : decode cX9_isWithin 10 = .ok (.aload_n 2, 1) := by decide +kernel
theorem dX9_isWithin_11 : decode cX9_isWithin 11 = .ok (.ifnull 21, 3) := by decide +kernel
theorem dX9_isWithin_14 : decode cX9_isWithin 14 = .ok (.aload_n 2, 1) := by decide +kernel
theorem dX9_isWithin_15 : decode cX9_isWithin 15 = .ok (.aload_n 1, 1) := by decide +kernel
theorem dX9_isWithin_16 : decode cX9_isWithin 16 = .ok (.if_acmp .ne 5, 3) := by decide +kernel
theorem dX9_isWithin_19 : decode cX9_isWithin 19 = .ok (.iconst 1, 1) := by decide +kernel
theorem dX9_isWithin_20 : decode cX9_isWithin 20 = .ok (.ireturn, 1) := by decide +kernel
theorem dX9_isWithin_21 : decode cX9_isWithin 21 = .ok (.aload_n 2, 1) := by decide +kernel
theorem dX9_isWithin_22 : decode cX9_isWithin 22 = .ok (.getfield 29, 3) := by decide +kernel
theorem dX9_isWithin_25 : decode cX9_isWithin 25 = .ok (.astore_n 2, 1) := by decide +kernel
theorem dX9_isWithin_26 : decode cX9_isWithin 26 = .ok (.iinc 3 1, 3) := by decide +kernel
theorem dX9_isWithin_29 : decode cX9_isWithin 29 = .ok (.goto (-25), 3) := by decide +kernel
theorem dX9_isWithin_32 : decode cX9_isWithin 32 = .ok (.iconst 0, 1) := by decide +kernel
theorem dX9_isWithin_33 : decode cX9_isWithin 33 = .ok (.ireturn, 1) := by decide +kernel
theorem dX10_init_0 : decode cX10_init 0 = .ok (.aload_n 0, 1) := by decide +kernel
theorem dX10_init_1 : decode cX10_init 1 = .ok (.invokespecial 1, 3) := by decide +kernel
theorem dX10_init_4 : decode cX10_init 4 = .ok (.aload_n 0, 1) := by decide +kernel
theorem dX10_init_5 : decode cX10_init 5 = .ok (.new 7, 3) := by decide +kernel
theorem dX10_init_8 : decode cX10_init 8 = .ok (.dup, 1) := by decide +kernel
theorem dX10_init_9 : decode cX10_init 9 = .ok (.invokespecial 9, 3) := by decide +kernel
theorem dX10_init_12 : decode cX10_init 12 = .ok (.putfield 10, 3) := by decide +kernel
theorem dX10_init_15 : decode cX10_init 15 = .ok (.aload_n 0, 1) := by decide +kernel
theorem dX10_init_16 : decode cX10_init 16 = .ok (.new 16, 3) := by decide +kernel
theorem dX10_init_19 : decode cX10_init 19 = .ok (.dup, 1) := by decide +kernel
theorem dX10_init_20 : decode cX10_init 20 = .ok (.invokespecial 18, 3) := by decide +kernel
theorem dX10_init_23 : decode cX10_init 23 = .ok (.putfield 19, 3) := by decide +kernel
theorem dX10_init_26 : decode cX10_init 26 = .ok (.aload_n 0, 1) := by decide +kernel
theorem dX10_init_27 : decode cX10_init 27 = .ok (.bipush 8, 2) := by decide +kernel
theorem dX10_init_29 : decode cX10_init 29 = .ok (.anewarray 23, 3) := by decide +kernel
theorem dX10_init_32 : decode cX10_init 32 = .ok (.putfield 25, 3) := by decide +kernel
theorem dX10_init_35 : decode cX10_init 35 = .ok (.new 23, 3) := by decide +kernel
theorem dX10_init_38 : decode cX10_init 38 = .ok (.dup, 1) := by decide +kernel
theorem dX10_init_39 : decode cX10_init 39 = .ok (.iconst 0, 1) := by decide +kernel
theorem dX10_init_40 : decode cX10_init 40 = .ok (.newarray .int, 2) := by decide +kernel
theorem dX10_init_42 : decode cX10_init 42 = .ok (.invokespecial 29, 3) := by decide +kernel
theorem dX10_init_45 : decode cX10_init 45 = .ok (.astore_n 1, 1) := by decide +kernel
theorem dX10_init_46 : decode cX10_init 46 = .ok (.iconst 0, 1) := by decide +kernel
theorem dX10_init_47 : decode cX10_init 47 = .ok (.istore_n 2, 1) := by decide +kernel
theorem dX10_init_48 : decode cX10_init 48 = .ok (.iload_n 2, 1) := by decide +kernel
theorem dX10_init_49 : decode cX10_init 49 = .ok (.bipush 8, 2) := by decide +kernel
theorem dX10_init_51 : decode cX10_init 51 = .ok (.if_icmp .ge 16, 3) := by decide +kernel
theorem dX10_init_54 : decode cX10_init 54 = .ok (.aload_n 0, 1) := by decide +kernel
theorem dX10_init_55 : decode cX10_init 55 = .ok (.getfield 25, 3) := by decide +kernel
theorem dX10_init_58 : decode cX10_init 58 = .ok (.iload_n 2, 1) := by decide +kernel
theorem dX10_init_59 : decode cX10_init 59 = .ok (.aload_n 1, 1) := by decide +kernel
theorem dX10_init_60 : decode cX10_init 60 = .ok (.aastore, 1) := by decide +kernel
theorem dX10_init_61 : decode cX10_init 61 = .ok (.iinc 2 1, 3) := by decide +kernel
theorem dX10_init_64 : decode cX10_init 64 = .ok (.goto (-16), 3) := by decide +kernel
theorem dX10_init_67 : decode cX10_init 67 = .ok (.aload_n 0, 1) := by decide +kernel
theorem dX10_init_68 : decode cX10_init 68 = .ok (.new 32, 3) := by decide +kernel
theorem dX10_init_71 : decode cX10_init 71 = .ok (.dup, 1) := by decide +kernel
theorem dX10_init_72 : decode cX10_init 72 = .ok (.invokespecial 34, 3) := by decide +kernel
theorem dX10_init_75 : decode cX10_init 75 = .ok (.putfield 35, 3) := by decide +kernel
theorem dX10_init_78 : decode cX10_init 78 = .ok (.aload_n 0, 1) := by decide +kernel
theorem dX10_init_79 : decode cX10_init 79 = .ok (.new 32, 3) := by decide +kernel
theorem dX10_init_82 : decode cX10_init 82 = .ok (.dup, 1) := by decide +kernel
theorem dX10_init_83 : decode cX10_init 83 = .ok (.invokespecial 34, 3) := by decide +kernel
theorem dX10_init_86 : decode cX10_init 86 = .ok (.putfield 39, 3) := by decide +kernel
theorem dX10_init_89 : decode cX10_init 89 = .ok (.aload_n 0, 1) := by decide +kernel
theorem dX10_init_90 : decode cX10_init 90 = .ok (.new 42, 3) := by decide +kernel
theorem dX10_init_93 : decode cX10_init 93 = .ok (.dup, 1) := by decide +kernel
theorem dX10_init_94 : decode cX10_init 94 = .ok (.aload_n 0, 1) := by decide +kernel
theorem dX10_init_95 : decode cX10_init 95 = .ok (.getfield 25, 3) := by decide +kernel
theorem dX10_init_98 : decode cX10_init 98 = .ok (.aload_n 0, 1) := by decide +kernel
theorem dX10_init_99 : decode cX10_init 99 = .ok (.getfield 39, 3) := by decide +kernel
theorem dX10_init_102 : decode cX10_init 102 = .ok (.invokespecial 44, 3) := by decide +kernel
theorem dX10_init_105 : decode cX10_init 105 = .ok (.putfield 47, 3) := by decide +kernel
theorem dX10_init_108 : decode cX10_init 108 = .ok (.aload_n 0, 1) := by decide +kernel
theorem dX10_init_109 : decode cX10_init 109 = .ok (.new 51, 3) := by decide +kernel
theorem dX10_init_112 : decode cX10_init 112 = .ok (.dup, 1) := by decide +kernel
theorem dX10_init_113 : decode cX10_init 113 = .ok (.invokespecial 53, 3) := by decide +kernel
theorem dX10_init_116 : decode cX10_init 116 = .ok (.putfield 54, 3) := by decide +kernel
theorem dX10_init_119 : decode cX10_init 119 = .ok (.aload_n 0, 1) := by decide +kernel
theorem dX10_init_120 : decode cX10_init 120 = .ok (.aconst_null, 1) := by decide +kernel
theorem dX10_init_121 : decode cX10_init 121 = .ok (.putfield 58, 3) := by decide +kernel
theorem dX10_init_124 : decode cX10_init 124 = .ok (.return_, 1) := by decide +kernel
theorem dX10_feed_0 : decode cX10_feed 0 = .ok (.aload_n 0, 1) := by decide +kernel
theorem dX10_feed_1 : decode cX10_feed 1 = .ok (.getfield 10, 3) := by decide +kernel
theorem dX10_feed_4 : decode cX10_feed 4 = .ok (.getfield 62, 3) := by decide +kernel
theorem dX10_feed_7 : decode cX10_feed 7 = .ok (.bipush 20, 2) := by decide +kernel
theorem dX10_feed_9 : decode cX10_feed 9 = .ok (.iadd, 1) := by decide +kernel
theorem dX10_feed_10 : decode cX10_feed 10 = .ok (.bipush 120, 2) := by decide +kernel
theorem dX10_feed_12 : decode cX10_feed 12 = .ok (.if_icmp .le 5, 3) := by decide +kernel
theorem dX10_feed_15 : decode cX10_feed 15 = .ok (.iconst (-1), 1) := by decide +kernel
theorem dX10_feed_16 : decode cX10_feed 16 = .ok (.ireturn, 1) := by decide +kernel
theorem dX10_feed_17 : decode cX10_feed 17 = .ok (.aload_n 0, 1) := by decide +kernel
theorem dX10_feed_18 : decode cX10_feed 18 = .ok (.getfield 10, 3) := by decide +kernel
theorem dX10_feed_21 : decode cX10_feed 21 = .ok (.iload_n 1, 1) := by decide +kernel
theorem dX10_feed_22 : decode cX10_feed 22 = .ok (.invokevirtual 66, 3) := by decide +kernel
theorem dX10_feed_25 : decode cX10_feed 25 = .ok (.aload_n 0, 1) := by decide +kernel
theorem dX10_feed_26 : decode cX10_feed 26 = .ok (.getfield 10, 3) := by decide +kernel
theorem dX10_feed_29 : decode cX10_feed 29 = .ok (.iload_n 2, 1) := by decide +kernel
theorem dX10_feed_30 : decode cX10_feed 30 = .ok (.invokevirtual 66, 3) := by decide +kernel
theorem dX10_feed_33 : decode cX10_feed 33 = .ok (.aload_n 0, 1) := by decide +kernel
theorem dX10_feed_34 : decode cX10_feed 34 = .ok (.getfield 10, 3) := by decide +kernel
theorem dX10_feed_37 : decode cX10_feed 37 = .ok (.iload_n 3, 1) := by decide +kernel
theorem dX10_feed_38 : decode cX10_feed 38 = .ok (.invokevirtual 66, 3) := by decide +kernel
theorem dX10_feed_41 : decode cX10_feed 41 = .ok (.aload_n 0, 1) := by decide +kernel
theorem dX10_feed_42 : decode cX10_feed 42 = .ok (.getfield 10, 3) := by decide +kernel
theorem dX10_feed_45 : decode cX10_feed 45 = .ok (.iload 4, 2) := by decide +kernel
theorem dX10_feed_47 : decode cX10_feed 47 = .ok (.invokevirtual 66, 3) := by decide +kernel
theorem dX10_feed_50 : decode cX10_feed 50 = .ok (.aload_n 0, 1) := by decide +kernel
theorem dX10_feed_51 : decode cX10_feed 51 = .ok (.getfield 10, 3) := by decide +kernel
theorem dX10_feed_54 : decode cX10_feed 54 = .ok (.iload 5, 2) := by decide +kernel
theorem dX10_feed_56 : decode cX10_feed 56 = .ok (.invokevirtual 66, 3) := by decide +kernel
theorem dX10_feed_59 : decode cX10_feed 59 = .ok (.aload_n 0, 1) := by decide +kernel
theorem dX10_feed_60 : decode cX10_feed 60 = .ok (.getfield 10, 3) := by decide +kernel
theorem dX10_feed_63 : decode cX10_feed 63 = .ok (.getfield 62, 3) := by decide +kernel
theorem dX10_feed_66 : decode cX10_feed 66 = .ok (.ireturn, 1) := by decide +kernel
theorem dX10_end_0 : decode cX10_end 0 = .ok (.iload_n 1, 1) := by decide +kernel
theorem dX10_end_1 : decode cX10_end 1 = .ok (.ifCond .lt 14, 3) := by decide +kernel
theorem dX10_end_4 : decode cX10_end 4 = .ok (.iload_n 1, 1) := by decide +kernel
theorem dX10_end_5 : decode cX10_end 5 = .ok (.aload_n 0, 1) := by decide +kernel
theorem dX10_end_6 : decode cX10_end 6 = .ok (.getfield 10, 3) := by decide +kernel
theorem dX10_end_9 : decode cX10_end 9 = .ok (.getfield 62, 3) := by decide +kernel
theorem dX10_end_12 : decode cX10_end 12 = .ok (.if_icmp .le 5, 3) := by decide +kernel
theorem dX10_end_15 : decode cX10_end 15 = .ok (.iconst (-1), 1) := by decide +kernel
theorem dX10_end_16 : decode cX10_end 16 = .ok (.ireturn, 1) := by decide +kernel
theorem dX10_end_17 : decode cX10_end 17 = .ok (.aload_n 0, 1) := by decide +kernel
theorem dX10_end_18 : decode cX10_end 18 = .ok (.getfield 10, 3) := by decide +kernel
theorem dX10_end_21 : decode cX10_end 21 = .ok (.iload_n 1, 1) := by decide +kernel
theorem dX10_end_22 : decode cX10_end 22 = .ok (.putfield 62, 3) := by decide +kernel
theorem dX10_end_25 : decode cX10_end 25 = .ok (.iload_n 1, 1) := by decide +kernel
theorem dX10_end_26 : decode cX10_end 26 = .ok (.ireturn, 1) := by decide +kernel
theorem dX10_thing_0 : decode cX10_thing 0 = .ok (.iload_n 2, 1) := by decide +kernel
theorem dX10_thing_1 : decode cX10_thing 1 = .ok (.iconst (-1), 1) := by decide +kernel
theorem dX10_thing_2 : decode cX10_thing 2 = .ok (.if_icmp .ne 13, 3) := by decide +kernel
theorem dX10_thing_5 : decode cX10_thing 5 = .ok (.aload_n 0, 1) := by decide +kernel
theorem dX10_thing_6 : decode cX10_thing 6 = .ok (.getfield 19, 3) := by decide +kernel
theorem dX10_thing_9 : decode cX10_thing 9 = .ok (.getfield 70, 3) := by decide +kernel
theorem dX10_thing_12 : decode cX10_thing 12 = .ok (.goto 11, 3) := by decide +kernel
theorem dX10_thing_15 : decode cX10_thing 15 = .ok (.aload_n 0, 1) := by decide +kernel
theorem dX10_thing_16 : decode cX10_thing 16 = .ok (.getfield 19, 3) := by decide +kernel
theorem dX10_thing_19 : decode cX10_thing 19 = .ok (.iload_n 2, 1) := by decide +kernel
theorem dX10_thing_20 : decode cX10_thing 20 = .ok (.invokevirtual 74, 3) := by decide +kernel
theorem dX10_thing_23 : decode cX10_thing 23 = .ok (.astore_n 3, 1) := by decide +kernel
theorem dX10_thing_24 : decode cX10_thing 24 = .ok (.aload_n 0, 1) := by decide +kernel
theorem dX10_thing_25 : decode cX10_thing 25 = .ok (.getfield 19, 3) := by decide +kernel
theorem dX10_thing_28 : decode cX10_thing 28 = .ok (.invokevirtual 78, 3) := by decide +kernel
theorem dX10_thing_31 : decode cX10_thing 31 = .ok (.istore 4, 2) := by decide +kernel
theorem dX10_thing_33 : decode cX10_thing 33 = .ok (.iload_n 1, 1) := by decide +kernel
theorem dX10_thing_34 : decode cX10_thing 34 = .ok (.invokestatic 82, 3) := by decide +kernel
theorem dX10_thing_37 : decode cX10_thing 37 = .ok (.ifCond .eq 32, 3) := by decide +kernel
theorem dX10_thing_40 : decode cX10_thing 40 = .ok (.aload_n 3, 1) := by decide +kernel
theorem dX10_thing_41 : decode cX10_thing 41 = .ok (.ifnull 28, 3) := by decide +kernel
theorem dX10_thing_44 : decode cX10_thing 44 = .ok (.aload_n 3, 1) := by decide +kernel
theorem dX10_thing_45 : decode cX10_thing 45 = .ok (.getfield 86, 3) := by decide +kernel
theorem dX10_thing_48 : decode cX10_thing 48 = .ok (.bipush 6, 2) := by decide +kernel
theorem dX10_thing_50 : decode cX10_thing 50 = .ok (.if_icmp .ge 19, 3) := by decide +kernel
theorem dX10_thing_53 : decode cX10_thing 53 = .ok (.iload 4, 2) := by decide +kernel
theorem dX10_thing_55 : decode cX10_thing 55 = .ok (.iconst (-1), 1) := by decide +kernel
theorem dX10_thing_56 : decode cX10_thing 56 = .ok (.if_icmp .eq 13, 3) := by decide +kernel
theorem dX10_thing_59 : decode cX10_thing 59 = .ok (.aload_n 0, 1) := by decide +kernel
theorem dX10_thing_60 : decode cX10_thing 60 = .ok (.getfield 10, 3) := by decide +kernel
theorem dX10_thing_63 : decode cX10_thing 63 = .ok (.invokevirtual 91, 3) := by decide +kernel
theorem dX10_thing_66 : decode cX10_thing 66 = .ok (.ifCond .ne 5, 3) := by decide +kernel
theorem dX10_thing_69 : decode cX10_thing 69 = .ok (.iconst (-1), 1) := by decide +kernel
theorem dX10_thing_70 : decode cX10_thing 70 = .ok (.ireturn, 1) := by decide +kernel
theorem dX10_thing_71 : decode cX10_thing 71 = .ok (.aload_n 0, 1) := by decide +kernel
theorem dX10_thing_72 : decode cX10_thing 72 = .ok (.getfield 19, 3) := by decide +kernel
theorem dX10_thing_75 : decode cX10_thing 75 = .ok (.new 87, 3) := by decide +kernel
theorem dX10_thing_78 : decode cX10_thing 78 = .ok (.dup, 1) := by decide +kernel
theorem dX10_thing_79 : decode cX10_thing 79 = .ok (.iload 4, 2) := by decide +kernel
theorem dX10_thing_81 : decode cX10_thing 81 = .ok (.iload_n 1, 1) := by decide +kernel
theorem dX10_thing_82 : decode cX10_thing 82 = .ok (.aload_n 3, 1) := by decide +kernel
theorem dX10_thing_83 : decode cX10_thing 83 = .ok (.aload_n 0, 1) := by decide +kernel
theorem dX10_thing_84 : decode cX10_thing 84 = .ok (.getfield 10, 3) := by decide +kernel
theorem dX10_thing_87 : decode cX10_thing 87 = .ok (.invokevirtual 95, 3) := by decide +kernel
theorem dX10_thing_90 : decode cX10_thing 90 = .ok (.invokespecial 99, 3) := by decide +kernel
theorem dX10_thing_93 : decode cX10_thing 93 = .ok (.invokevirtual 102, 3) := by decide +kernel
theorem dX10_thing_96 : decode cX10_thing 96 = .ok (.iload 4, 2) := by decide +kernel
theorem dX10_thing_98 : decode cX10_thing 98 = .ok (.ireturn, 1) := by decide +kernel
theorem dX10_number_0 : decode cX10_number 0 = .ok (.aload_n 0, 1) := by decide +kernel
theorem dX10_number_1 : decode cX10_number 1 = .ok (.getfield 19, 3) := by decide +kernel
theorem dX10_number_4 : decode cX10_number 4 = .ok (.iload_n 1, 1) := by decide +kernel
theorem dX10_number_5 : decode cX10_number 5 = .ok (.invokevirtual 74, 3) := by decide +kernel
theorem dX10_number_8 : decode cX10_number 8 = .ok (.astore 4, 2) := by decide +kernel
theorem dX10_number_10 : decode cX10_number 10 = .ok (.aload 4, 2) := by decide +kernel
theorem dX10_number_12 : decode cX10_number 12 = .ok (.ifnull 11, 3) := by decide +kernel
theorem dX10_number_15 : decode cX10_number 15 = .ok (.iload_n 2, 1) := by decide +kernel
theorem dX10_number_16 : decode cX10_number 16 = .ok (.iload_n 3, 1) := by decide +kernel
theorem dX10_number_17 : decode cX10_number 17 = .ok (.invokestatic 106, 3) := by decide +kernel
theorem dX10_number_20 : decode cX10_number 20 = .ok (.ifCond .ne 5, 3) := by decide +kernel
theorem dX10_number_23 : decode cX10_number 23 = .ok (.iconst 0, 1) := by decide +kernel
theorem dX10_number_24 : decode cX10_number 24 = .ok (.ireturn, 1) := by decide +kernel
theorem dX10_number_25 : decode cX10_number 25 = .ok (.aload 4, 2) := by decide +kernel
theorem dX10_number_27 : decode cX10_number 27 = .ok (.getfield 110, 3) := by decide +kernel
theorem dX10_number_30 : decode cX10_number 30 = .ok (.iload_n 2, 1) := by decide +kernel
theorem dX10_number_31 : decode cX10_number 31 = .ok (.iload_n 3, 1) := by decide +kernel
theorem dX10_number_32 : decode cX10_number 32 = .ok (.iastore, 1) := by decide +kernel
theorem dX10_number_33 : decode cX10_number 33 = .ok (.iconst 1, 1) := by decide +kernel
theorem dX10_number_34 : decode cX10_number 34 = .ok (.ireturn, 1) := by decide +kernel
theorem dX10_name_0 : decode cX10_name 0 = .ok (.aload_n 0, 1) := by decide +kernel
theorem dX10_name_1 : decode cX10_name 1 = .ok (.getfield 19, 3) := by decide +kernel
theorem dX10_name_4 : decode cX10_name 4 = .ok (.iload_n 1, 1) := by decide +kernel
theorem dX10_name_5 : decode cX10_name 5 = .ok (.invokevirtual 74, 3) := by decide +kernel
theorem dX10_name_8 : decode cX10_name 8 = .ok (.astore_n 2, 1) := by decide +kernel
theorem dX10_name_9 : decode cX10_name 9 = .ok (.aload_n 2, 1) := by decide +kernel
theorem dX10_name_10 : decode cX10_name 10 = .ok (.ifnull 13, 3) := by decide +kernel
theorem dX10_name_13 : decode cX10_name 13 = .ok (.aload_n 0, 1) := by decide +kernel
theorem dX10_name_14 : decode cX10_name 14 = .ok (.getfield 10, 3) := by decide +kernel
theorem dX10_name_17 : decode cX10_name 17 = .ok (.invokevirtual 91, 3) := by decide +kernel
theorem dX10_name_20 : decode cX10_name 20 = .ok (.ifCond .ne 5, 3) := by decide +kernel
theorem dX10_name_23 : decode cX10_name 23 = .ok (.iconst 0, 1) := by decide +kernel
theorem dX10_name_24 : decode cX10_name 24 = .ok (.ireturn, 1) := by decide +kernel
theorem dX10_name_25 : decode cX10_name 25 = .ok (.aload_n 2, 1) := by decide +kernel
theorem dX10_name_26 : decode cX10_name 26 = .ok (.aload_n 0, 1) := by decide +kernel
theorem dX10_name_27 : decode cX10_name 27 = .ok (.getfield 10, 3) := by decide +kernel
theorem dX10_name_30 : decode cX10_name 30 = .ok (.invokevirtual 95, 3) := by decide +kernel
theorem dX10_name_33 : decode cX10_name 33 = .ok (.putfield 114, 3) := by decide +kernel
theorem dX10_name_36 : decode cX10_name 36 = .ok (.iconst 1, 1) := by decide +kernel
theorem dX10_name_37 : decode cX10_name 37 = .ok (.ireturn, 1) := by decide +kernel
theorem dX10_move_0 : decode cX10_move 0 = .ok (.aload_n 0, 1) := by decide +kernel
theorem dX10_move_1 : decode cX10_move 1 = .ok (.getfield 19, 3) := by decide +kernel
theorem dX10_move_4 : decode cX10_move 4 = .ok (.iload_n 1, 1) := by decide +kernel
theorem dX10_move_5 : decode cX10_move 5 = .ok (.invokevirtual 74, 3) := by decide +kernel
theorem dX10_move_8 : decode cX10_move 8 = .ok (.astore_n 3, 1) := by decide +kernel
theorem dX10_move_9 : decode cX10_move 9 = .ok (.aload_n 3, 1) := by decide +kernel
theorem dX10_move_10 : decode cX10_move 10 = .ok (.ifnull 19, 3) := by decide +kernel
theorem dX10_move_13 : decode cX10_move 13 = .ok (.aload_n 0, 1) := by decide +kernel
theorem dX10_move_14 : decode cX10_move 14 = .ok (.getfield 19, 3) := by decide +kernel
theorem dX10_move_17 : decode cX10_move 17 = .ok (.aload_n 3, 1) := by decide +kernel
theorem dX10_move_18 : decode cX10_move 18 = .ok (.iload_n 2, 1) := by decide +kernel
theorem dX10_move_19 : decode cX10_move 19 = .ok (.invokevirtual 117, 3) := by decide +kernel
theorem dX10_move_22 : decode cX10_move 22 = .ok (.ifCond .eq 7, 3) := by decide +kernel
theorem dX10_move_25 : decode cX10_move 25 = .ok (.iconst 1, 1) := by decide +kernel
theorem dX10_move_26 : decode cX10_move 26 = .ok (.goto 4, 3) := by decide +kernel
theorem dX10_move_29 : decode cX10_move 29 = .ok (.iconst 0, 1) := by decide +kernel
theorem dX10_move_30 : decode cX10_move 30 = .ok (.ireturn, 1) := by decide +kernel
theorem dX10_drop_0 : decode cX10_drop 0 = .ok (.aload_n 0, 1) := by decide +kernel
theorem dX10_drop_1 : decode cX10_drop 1 = .ok (.getfield 19, 3) := by decide +kernel
theorem dX10_drop_4 : decode cX10_drop 4 = .ok (.iload_n 1, 1) := by decide +kernel
theorem dX10_drop_5 : decode cX10_drop 5 = .ok (.invokevirtual 74, 3) := by decide +kernel
theorem dX10_drop_8 : decode cX10_drop 8 = .ok (.astore_n 2, 1) := by decide +kernel
theorem dX10_drop_9 : decode cX10_drop 9 = .ok (.aload_n 2, 1) := by decide +kernel
theorem dX10_drop_10 : decode cX10_drop 10 = .ok (.ifnonnull 7, 3) := by decide +kernel
theorem dX10_drop_13 : decode cX10_drop 13 = .ok (.iconst (-1), 1) := by decide +kernel
theorem dX10_drop_14 : decode cX10_drop 14 = .ok (.goto 11, 3) := by decide +kernel
theorem dX10_drop_17 : decode cX10_drop 17 = .ok (.aload_n 0, 1) := by decide +kernel
theorem dX10_drop_18 : decode cX10_drop 18 = .ok (.getfield 19, 3) := by decide +kernel
theorem dX10_drop_21 : decode cX10_drop 21 = .ok (.aload_n 2, 1) := by decide +kernel
theorem dX10_drop_22 : decode cX10_drop 22 = .ok (.invokevirtual 121, 3) := by decide +kernel
theorem dX10_drop_25 : decode cX10_drop 25 = .ok (.ireturn, 1) := by decide +kernel
theorem dX10_rule_0 : decode cX10_rule 0 = .ok (.iload_n 1, 1) := by decide +kernel
theorem dX10_rule_1 : decode cX10_rule 1 = .ok (.invokestatic 82, 3) := by decide +kernel
theorem dX10_rule_4 : decode cX10_rule 4 = .ok (.ifCond .ne 5, 3) := by decide +kernel
theorem dX10_rule_7 : decode cX10_rule 7 = .ok (.iconst (-1), 1) := by decide +kernel
theorem dX10_rule_8 : decode cX10_rule 8 = .ok (.ireturn, 1) := by decide +kernel
theorem dX10_rule_9 : decode cX10_rule 9 = .ok (.new 23, 3) := by decide +kernel
theorem dX10_rule_12 : decode cX10_rule 12 = .ok (.dup, 1) := by decide +kernel
theorem dX10_rule_13 : decode cX10_rule 13 = .ok (.aload_n 0, 1) := by decide +kernel
theorem dX10_rule_14 : decode cX10_rule 14 = .ok (.getfield 10, 3) := by decide +kernel
theorem dX10_rule_17 : decode cX10_rule 17 = .ok (.invokevirtual 95, 3) := by decide +kernel
theorem dX10_rule_20 : decode cX10_rule 20 = .ok (.invokespecial 29, 3) := by decide +kernel
theorem dX10_rule_23 : decode cX10_rule 23 = .ok (.astore_n 2, 1) := by decide +kernel
theorem dX10_rule_24 : decode cX10_rule 24 = .ok (.aload_n 2, 1) := by decide +kernel
theorem dX10_rule_25 : decode cX10_rule 25 = .ok (.invokevirtual 125, 3) := by decide +kernel
theorem dX10_rule_28 : decode cX10_rule 28 = .ok (.aload_n 0, 1) := by decide +kernel
theorem dX10_rule_29 : decode cX10_rule 29 = .ok (.aload_n 2, 1) := by decide +kernel
theorem dX10_rule_30 : decode cX10_rule 30 = .ok (.putfield 58, 3) := by decide +kernel
theorem dX10_rule_33 : decode cX10_rule 33 = .ok (.aload_n 2, 1) := by decide +kernel
theorem dX10_rule_34 : decode cX10_rule 34 = .ok (.getfield 128, 3) := by decide +kernel
theorem dX10_rule_37 : decode cX10_rule 37 = .ok (.ifCond .eq 5, 3) := by decide +kernel
theorem dX10_rule_40 : decode cX10_rule 40 = .ok (.iconst (-1), 1) := by decide +kernel
theorem dX10_rule_41 : decode cX10_rule 41 = .ok (.ireturn, 1) := by decide +kernel
theorem dX10_rule_42 : decode cX10_rule 42 = .ok (.aload_n 0, 1) := by decide +kernel
theorem dX10_rule_43 : decode cX10_rule 43 = .ok (.getfield 25, 3) := by decide +kernel
theorem dX10_rule_46 : decode cX10_rule 46 = .ok (.iload_n 1, 1) := by decide +kernel
theorem dX10_rule_47 : decode cX10_rule 47 = .ok (.aload_n 2, 1) := by decide +kernel
theorem dX10_rule_48 : decode cX10_rule 48 = .ok (.aastore, 1) := by decide +kernel
theorem dX10_rule_49 : decode cX10_rule 49 = .ok (.aload_n 2, 1) := by decide +kernel
theorem dX10_rule_50 : decode cX10_rule 50 = .ok (.getfield 131, 3) := by decide +kernel
theorem dX10_rule_53 : decode cX10_rule 53 = .ok (.ireturn, 1) := by decide +kernel
theorem dX10_fault_0 : decode cX10_fault 0 = .ok (.aload_n 0, 1) := by decide +kernel
theorem dX10_fault_1 : decode cX10_fault 1 = .ok (.getfield 58, 3) := by decide +kernel
theorem dX10_fault_4 : decode cX10_fault 4 = .ok (.ifnonnull 5, 3) := by decide +kernel
theorem dX10_fault_7 : decode cX10_fault 7 = .ok (.iconst (-1), 1) := by decide +kernel
theorem dX10_fault_8 : decode cX10_fault 8 = .ok (.ireturn, 1) := by decide +kernel
theorem dX10_fault_9 : decode cX10_fault 9 = .ok (.iload_n 1, 1) := by decide +kernel
theorem dX10_fault_10 : decode cX10_fault 10 = .ok (.lookupswitch 42 #[(0, 26), (1, 34)], 26) := by decide +kernel
theorem dX10_fault_36 : decode cX10_fault 36 = .ok (.aload_n 0, 1) := by decide +kernel
theorem dX10_fault_37 : decode cX10_fault 37 = .ok (.getfield 58, 3) := by decide +kernel
theorem dX10_fault_40 : decode cX10_fault 40 = .ok (.getfield 128, 3) := by decide +kernel
theorem dX10_fault_43 : decode cX10_fault 43 = .ok (.ireturn, 1) := by decide +kernel
theorem dX10_fault_44 : decode cX10_fault 44 = .ok (.aload_n 0, 1) := by decide +kernel
theorem dX10_fault_45 : decode cX10_fault 45 = .ok (.getfield 58, 3) := by decide +kernel
theorem dX10_fault_48 : decode cX10_fault 48 = .ok (.getfield 134, 3) := by decide +kernel
theorem dX10_fault_51 : decode cX10_fault 51 = .ok (.ireturn, 1) := by decide +kernel
theorem dX10_fault_52 : decode cX10_fault 52 = .ok (.iconst (-1), 1) := by decide +kernel
theorem dX10_fault_53 : decode cX10_fault 53 = .ok (.ireturn, 1) := by decide +kernel
theorem dX10_make_0 : decode cX10_make 0 = .ok (.aload_n 0, 1) := by decide +kernel
theorem dX10_make_1 : decode cX10_make 1 = .ok (.getfield 47, 3) := by decide +kernel
theorem dX10_make_4 : decode cX10_make 4 = .ok (.aload_n 0, 1) := by decide +kernel
theorem dX10_make_5 : decode cX10_make 5 = .ok (.getfield 39, 3) := by decide +kernel
theorem dX10_make_8 : decode cX10_make 8 = .ok (.aload_n 0, 1) := by decide +kernel
theorem dX10_make_9 : decode cX10_make 9 = .ok (.getfield 19, 3) := by decide +kernel
theorem dX10_make_12 : decode cX10_make 12 = .ok (.getfield 70, 3) := by decide +kernel
theorem dX10_make_15 : decode cX10_make 15 = .ok (.invokevirtual 137, 3) := by decide +kernel
theorem dX10_make_18 : decode cX10_make 18 = .ok (.aload_n 0, 1) := by decide +kernel
theorem dX10_make_19 : decode cX10_make 19 = .ok (.getfield 39, 3) := by decide +kernel
theorem dX10_make_22 : decode cX10_make 22 = .ok (.getfield 141, 3) := by decide +kernel
theorem dX10_make_25 : decode cX10_make 25 = .ok (.ifCond .eq 7, 3) := by decide +kernel
theorem dX10_make_28 : decode cX10_make 28 = .ok (.iconst (-1), 1) := by decide +kernel
theorem dX10_make_29 : decode cX10_make 29 = .ok (.goto 7, 3) := by decide +kernel
theorem dX10_make_32 : decode cX10_make 32 = .ok (.aload_n 0, 1) := by decide +kernel
theorem dX10_make_33 : decode cX10_make 33 = .ok (.invokevirtual 145, 3) := by decide +kernel
theorem dX10_make_36 : decode cX10_make 36 = .ok (.ireturn, 1) := by decide +kernel
theorem dX10_piece_0 : decode cX10_piece 0 = .ok (.aload_n 0, 1) := by decide +kernel
theorem dX10_piece_1 : decode cX10_piece 1 = .ok (.getfield 35, 3) := by decide +kernel
theorem dX10_piece_4 : decode cX10_piece 4 = .ok (.iload_n 1, 1) := by decide +kernel
theorem dX10_piece_5 : decode cX10_piece 5 = .ok (.invokevirtual 148, 3) := by decide +kernel
theorem dX10_piece_8 : decode cX10_piece 8 = .ok (.astore_n 3, 1) := by decide +kernel
theorem dX10_piece_9 : decode cX10_piece 9 = .ok (.aload_n 3, 1) := by decide +kernel
theorem dX10_piece_10 : decode cX10_piece 10 = .ok (.ifnonnull 5, 3) := by decide +kernel
theorem dX10_piece_13 : decode cX10_piece 13 = .ok (.iconst (-1), 1) := by decide +kernel
theorem dX10_piece_14 : decode cX10_piece 14 = .ok (.ireturn, 1) := by decide +kernel
theorem dX10_piece_15 : decode cX10_piece 15 = .ok (.iload_n 2, 1) := by decide +kernel
theorem dX10_piece_16 : decode cX10_piece 16 = .ok (.tableswitch 140 0 8 #[52, 74, 79, 84, 89, 94, 107, 124, 132], 52) := by decide +kernel
theorem dX10_piece_68 : decode cX10_piece 68 = .ok (.aload_n 3, 1) := by decide +kernel
theorem dX10_piece_69 : decode cX10_piece 69 = .ok (.getfield 151, 3) := by decide +kernel
theorem dX10_piece_72 : decode cX10_piece 72 = .ok (.getfield 156, 3) := by decide +kernel
theorem dX10_piece_75 : decode cX10_piece 75 = .ok (.ifCond .eq 7, 3) := by decide +kernel
theorem dX10_piece_78 : decode cX10_piece 78 = .ok (.iconst (-1), 1) := by decide +kernel
theorem dX10_piece_79 : decode cX10_piece 79 = .ok (.goto 10, 3) := by decide +kernel
theorem dX10_piece_82 : decode cX10_piece 82 = .ok (.aload_n 3, 1) := by decide +kernel
theorem dX10_piece_83 : decode cX10_piece 83 = .ok (.getfield 151, 3) := by decide +kernel
theorem dX10_piece_86 : decode cX10_piece 86 = .ok (.getfield 159, 3) := by decide +kernel
theorem dX10_piece_89 : decode cX10_piece 89 = .ok (.ireturn, 1) := by decide +kernel
theorem dX10_piece_90 : decode cX10_piece 90 = .ok (.aload_n 3, 1) := by decide +kernel
theorem dX10_piece_91 : decode cX10_piece 91 = .ok (.getfield 162, 3) := by decide +kernel
theorem dX10_piece_94 : decode cX10_piece 94 = .ok (.ireturn, 1) := by decide +kernel
theorem dX10_piece_95 : decode cX10_piece 95 = .ok (.aload_n 3, 1) := by decide +kernel
theorem dX10_piece_96 : decode cX10_piece 96 = .ok (.getfield 165, 3) := by decide +kernel
theorem dX10_piece_99 : decode cX10_piece 99 = .ok (.ireturn, 1) := by decide +kernel
theorem dX10_piece_100 : decode cX10_piece 100 = .ok (.aload_n 3, 1) := by decide +kernel
theorem dX10_piece_101 : decode cX10_piece 101 = .ok (.invokevirtual 168, 3) := by decide +kernel
theorem dX10_piece_104 : decode cX10_piece 104 = .ok (.ireturn, 1) := by decide +kernel
theorem dX10_piece_105 : decode cX10_piece 105 = .ok (.aload_n 3, 1) := by decide +kernel
theorem dX10_piece_106 : decode cX10_piece 106 = .ok (.getfield 171, 3) := by decide +kernel
theorem dX10_piece_109 : decode cX10_piece 109 = .ok (.ireturn, 1) := by decide +kernel
theorem dX10_piece_110 : decode cX10_piece 110 = .ok (.aload_n 3, 1) := by decide +kernel
theorem dX10_piece_111 : decode cX10_piece 111 = .ok (.getfield 172, 3) := by decide +kernel
theorem dX10_piece_114 : decode cX10_piece 114 = .ok (.ifnonnull 7, 3) := by decide +kernel
theorem dX10_piece_117 : decode cX10_piece 117 = .ok (.iconst 0, 1) := by decide +kernel
theorem dX10_piece_118 : decode cX10_piece 118 = .ok (.goto 4, 3) := by decide +kernel
theorem dX10_piece_121 : decode cX10_piece 121 = .ok (.iconst 1, 1) := by decide +kernel
theorem dX10_piece_122 : decode cX10_piece 122 = .ok (.ireturn, 1) := by decide +kernel
theorem dX10_piece_123 : decode cX10_piece 123 = .ok (.aload_n 0, 1) := by decide +kernel
theorem dX10_piece_124 : decode cX10_piece 124 = .ok (.getfield 35, 3) := by decide +kernel
theorem dX10_piece_127 : decode cX10_piece 127 = .ok (.aload_n 3, 1) := by decide +kernel
theorem dX10_piece_128 : decode cX10_piece 128 = .ok (.invokevirtual 176, 3) := by decide +kernel
theorem dX10_piece_131 : decode cX10_piece 131 = .ok (.ifCond .eq 7, 3) := by decide +kernel
theorem dX10_piece_134 : decode cX10_piece 134 = .ok (.iconst 1, 1) := by decide +kernel
theorem dX10_piece_135 : decode cX10_piece 135 = .ok (.goto 4, 3) := by decide +kernel
theorem dX10_piece_138 : decode cX10_piece 138 = .ok (.iconst 0, 1) := by decide +kernel
theorem dX10_piece_139 : decode cX10_piece 139 = .ok (.ireturn, 1) := by decide +kernel
theorem dX10_piece_140 : decode cX10_piece 140 = .ok (.aload_n 3, 1) := by decide +kernel
theorem dX10_piece_141 : decode cX10_piece 141 = .ok (.getfield 151, 3) := by decide +kernel
theorem dX10_piece_144 : decode cX10_piece 144 = .ok (.getfield 86, 3) := by decide +kernel
theorem dX10_piece_147 : decode cX10_piece 147 = .ok (.ireturn, 1) := by decide +kernel
theorem dX10_piece_148 : decode cX10_piece 148 = .ok (.aload_n 3, 1) := by decide +kernel
theorem dX10_piece_149 : decode cX10_piece 149 = .ok (.getfield 151, 3) := by decide +kernel
theorem dX10_piece_152 : decode cX10_piece 152 = .ok (.getfield 180, 3) := by decide +kernel
theorem dX10_piece_155 : decode cX10_piece 155 = .ok (.ireturn, 1) := by decide +kernel
theorem dX10_piece_156 : decode cX10_piece 156 = .ok (.iconst (-1), 1) := by decide +kernel
theorem dX10_piece_157 : decode cX10_piece 157 = .ok (.ireturn, 1) := by decide +kernel
theorem dX10_byteOf_0 : decode cX10_byteOf 0 = .ok (.aload_n 0, 1) := by decide +kernel
theorem dX10_byteOf_1 : decode cX10_byteOf 1 = .ok (.getfield 35, 3) := by decide +kernel
theorem dX10_byteOf_4 : decode cX10_byteOf 4 = .ok (.iload_n 1, 1) := by decide +kernel
theorem dX10_byteOf_5 : decode cX10_byteOf 5 = .ok (.invokevirtual 148, 3) := by decide +kernel
theorem dX10_byteOf_8 : decode cX10_byteOf 8 = .ok (.astore 4, 2) := by decide +kernel
theorem dX10_byteOf_10 : decode cX10_byteOf 10 = .ok (.aload 4, 2) := by decide +kernel
theorem dX10_byteOf_12 : decode cX10_byteOf 12 = .ok (.ifnonnull 5, 3) := by decide +kernel
theorem dX10_byteOf_15 : decode cX10_byteOf 15 = .ok (.iconst (-1), 1) := by decide +kernel
theorem dX10_byteOf_16 : decode cX10_byteOf 16 = .ok (.ireturn, 1) := by decide +kernel
theorem dX10_byteOf_17 : decode cX10_byteOf 17 = .ok (.iload_n 2, 1) := by decide +kernel
theorem dX10_byteOf_18 : decode cX10_byteOf 18 = .ok (.tableswitch 73 0 2 #[26, 37, 48], 26) := by decide +kernel
theorem dX10_byteOf_44 : decode cX10_byteOf 44 = .ok (.aload_n 0, 1) := by decide +kernel
theorem dX10_byteOf_45 : decode cX10_byteOf 45 = .ok (.getfield 35, 3) := by decide +kernel
theorem dX10_byteOf_48 : decode cX10_byteOf 48 = .ok (.aload 4, 2) := by decide +kernel
theorem dX10_byteOf_50 : decode cX10_byteOf 50 = .ok (.iload_n 3, 1) := by decide +kernel
theorem dX10_byteOf_51 : decode cX10_byteOf 51 = .ok (.invokevirtual 183, 3) := by decide +kernel
theorem dX10_byteOf_54 : decode cX10_byteOf 54 = .ok (.ireturn, 1) := by decide +kernel
theorem dX10_byteOf_55 : decode cX10_byteOf 55 = .ok (.aload_n 0, 1) := by decide +kernel
theorem dX10_byteOf_56 : decode cX10_byteOf 56 = .ok (.getfield 35, 3) := by decide +kernel
theorem dX10_byteOf_59 : decode cX10_byteOf 59 = .ok (.aload 4, 2) := by decide +kernel
theorem dX10_byteOf_61 : decode cX10_byteOf 61 = .ok (.iload_n 3, 1) := by decide +kernel
theorem dX10_byteOf_62 : decode cX10_byteOf 62 = .ok (.invokevirtual 187, 3) := by decide +kernel
theorem dX10_byteOf_65 : decode cX10_byteOf 65 = .ok (.ireturn, 1) := by decide +kernel
theorem dX10_byteOf_66 : decode cX10_byteOf 66 = .ok (.aload 4, 2) := by decide +kernel
theorem dX10_byteOf_68 : decode cX10_byteOf 68 = .ok (.getfield 172, 3) := by decide +kernel
theorem dX10_byteOf_71 : decode cX10_byteOf 71 = .ok (.ifnonnull 7, 3) := by decide +kernel
theorem dX10_byteOf_74 : decode cX10_byteOf 74 = .ok (.iconst (-1), 1) := by decide +kernel
theorem dX10_byteOf_75 : decode cX10_byteOf 75 = .ok (.goto 15, 3) := by decide +kernel
theorem dX10_byteOf_78 : decode cX10_byteOf 78 = .ok (.aload 4, 2) := by decide +kernel
theorem dX10_byteOf_80 : decode cX10_byteOf 80 = .ok (.getfield 172, 3) := by decide +kernel
theorem dX10_byteOf_83 : decode cX10_byteOf 83 = .ok (.getfield 190, 3) := by decide +kernel
theorem dX10_byteOf_86 : decode cX10_byteOf 86 = .ok (.iload_n 3, 1) := by decide +kernel
theorem dX10_byteOf_87 : decode cX10_byteOf 87 = .ok (.invokestatic 195, 3) := by decide +kernel
theorem dX10_byteOf_90 : decode cX10_byteOf 90 = .ok (.ireturn, 1) := by decide +kernel
theorem dX10_byteOf_91 : decode cX10_byteOf 91 = .ok (.iconst (-1), 1) := by decide +kernel
theorem dX10_byteOf_92 : decode cX10_byteOf 92 = .ok (.ireturn, 1) := by decide +kernel
theorem dX10_hand_0 : decode cX10_hand 0 = .ok (.aload_n 0, 1) := by decide +kernel
theorem dX10_hand_1 : decode cX10_hand 1 = .ok (.getfield 35, 3) := by decide +kernel
theorem dX10_hand_4 : decode cX10_hand 4 = .ok (.iload_n 1, 1) := by decide +kernel
theorem dX10_hand_5 : decode cX10_hand 5 = .ok (.invokevirtual 148, 3) := by decide +kernel
theorem dX10_hand_8 : decode cX10_hand 8 = .ok (.astore_n 2, 1) := by decide +kernel
theorem dX10_hand_9 : decode cX10_hand 9 = .ok (.aload_n 2, 1) := by decide +kernel
theorem dX10_hand_10 : decode cX10_hand 10 = .ok (.ifnull 15, 3) := by decide +kernel
theorem dX10_hand_13 : decode cX10_hand 13 = .ok (.aload_n 0, 1) := by decide +kernel
theorem dX10_hand_14 : decode cX10_hand 14 = .ok (.getfield 10, 3) := by decide +kernel
theorem dX10_hand_17 : decode cX10_hand 17 = .ok (.getfield 62, 3) := by decide +kernel
theorem dX10_hand_20 : decode cX10_hand 20 = .ok (.bipush 60, 2) := by decide +kernel
theorem dX10_hand_22 : decode cX10_hand 22 = .ok (.if_icmp .le 5, 3) := by decide +kernel
theorem dX10_hand_25 : decode cX10_hand 25 = .ok (.iconst 0, 1) := by decide +kernel
theorem dX10_hand_26 : decode cX10_hand 26 = .ok (.ireturn, 1) := by decide +kernel
theorem dX10_hand_27 : decode cX10_hand 27 = .ok (.aload_n 0, 1) := by decide +kernel
theorem dX10_hand_28 : decode cX10_hand 28 = .ok (.getfield 10, 3) := by decide +kernel
theorem dX10_hand_31 : decode cX10_hand 31 = .ok (.invokevirtual 95, 3) := by decide +kernel
theorem dX10_hand_34 : decode cX10_hand 34 = .ok (.astore_n 3, 1) := by decide +kernel
theorem dX10_hand_35 : decode cX10_hand 35 = .ok (.aload_n 2, 1) := by decide +kernel
theorem dX10_hand_36 : decode cX10_hand 36 = .ok (.aload_n 0, 1) := by decide +kernel
theorem dX10_hand_37 : decode cX10_hand 37 = .ok (.getfield 35, 3) := by decide +kernel
theorem dX10_hand_40 : decode cX10_hand 40 = .ok (.aload_n 2, 1) := by decide +kernel
theorem dX10_hand_41 : decode cX10_hand 41 = .ok (.aload_n 3, 1) := by decide +kernel
theorem dX10_hand_42 : decode cX10_hand 42 = .ok (.invokevirtual 199, 3) := by decide +kernel
theorem dX10_hand_45 : decode cX10_hand 45 = .ok (.ifCond .eq 7, 3) := by decide +kernel
theorem dX10_hand_48 : decode cX10_hand 48 = .ok (.aconst_null, 1) := by decide +kernel
theorem dX10_hand_49 : decode cX10_hand 49 = .ok (.goto 19, 3) := by decide +kernel
theorem dX10_hand_52 : decode cX10_hand 52 = .ok (.new 191, 3) := by decide +kernel
theorem dX10_hand_55 : decode cX10_hand 55 = .ok (.dup, 1) := by decide +kernel
theorem dX10_hand_56 : decode cX10_hand 56 = .ok (.aload_n 3, 1) := by decide +kernel
theorem dX10_hand_57 : decode cX10_hand 57 = .ok (.aload_n 0, 1) := by decide +kernel
theorem dX10_hand_58 : decode cX10_hand 58 = .ok (.getfield 35, 3) := by decide +kernel
theorem dX10_hand_61 : decode cX10_hand 61 = .ok (.aload_n 2, 1) := by decide +kernel
theorem dX10_hand_62 : decode cX10_hand 62 = .ok (.invokevirtual 203, 3) := by decide +kernel
theorem dX10_hand_65 : decode cX10_hand 65 = .ok (.invokespecial 207, 3) := by decide +kernel
theorem dX10_hand_68 : decode cX10_hand 68 = .ok (.putfield 172, 3) := by decide +kernel
theorem dX10_hand_71 : decode cX10_hand 71 = .ok (.iconst 1, 1) := by decide +kernel
theorem dX10_hand_72 : decode cX10_hand 72 = .ok (.ireturn, 1) := by decide +kernel
theorem dX10_take_0 : decode cX10_take 0 = .ok (.aload_n 0, 1) := by decide +kernel
theorem dX10_take_1 : decode cX10_take 1 = .ok (.getfield 35, 3) := by decide +kernel
theorem dX10_take_4 : decode cX10_take 4 = .ok (.iload_n 1, 1) := by decide +kernel
theorem dX10_take_5 : decode cX10_take 5 = .ok (.invokevirtual 148, 3) := by decide +kernel
theorem dX10_take_8 : decode cX10_take 8 = .ok (.astore_n 3, 1) := by decide +kernel
theorem dX10_take_9 : decode cX10_take 9 = .ok (.aload_n 3, 1) := by decide +kernel
theorem dX10_take_10 : decode cX10_take 10 = .ok (.ifnull 23, 3) := by decide +kernel
theorem dX10_take_13 : decode cX10_take 13 = .ok (.iload_n 2, 1) := by decide +kernel
theorem dX10_take_14 : decode cX10_take 14 = .ok (.ifCond .lt 19, 3) := by decide +kernel
theorem dX10_take_17 : decode cX10_take 17 = .ok (.iload_n 2, 1) := by decide +kernel
theorem dX10_take_18 : decode cX10_take 18 = .ok (.iconst 1, 1) := by decide +kernel
theorem dX10_take_19 : decode cX10_take 19 = .ok (.if_icmp .gt 14, 3) := by decide +kernel
theorem dX10_take_22 : decode cX10_take 22 = .ok (.aload_n 0, 1) := by decide +kernel
theorem dX10_take_23 : decode cX10_take 23 = .ok (.getfield 35, 3) := by decide +kernel
theorem dX10_take_26 : decode cX10_take 26 = .ok (.aload_n 3, 1) := by decide +kernel
theorem dX10_take_27 : decode cX10_take 27 = .ok (.invokevirtual 176, 3) := by decide +kernel
theorem dX10_take_30 : decode cX10_take 30 = .ok (.ifCond .ne 5, 3) := by decide +kernel
theorem dX10_take_33 : decode cX10_take 33 = .ok (.iconst 0, 1) := by decide +kernel
theorem dX10_take_34 : decode cX10_take 34 = .ok (.ireturn, 1) := by decide +kernel
theorem dX10_take_35 : decode cX10_take 35 = .ok (.aload_n 3, 1) := by decide +kernel
theorem dX10_take_36 : decode cX10_take 36 = .ok (.iload_n 2, 1) := by decide +kernel
theorem dX10_take_37 : decode cX10_take 37 = .ok (.iconst 1, 1) := by decide +kernel
theorem dX10_take_38 : decode cX10_take 38 = .ok (.if_icmp .ne 7, 3) := by decide +kernel
theorem dX10_take_41 : decode cX10_take 41 = .ok (.aconst_null, 1) := by decide +kernel
theorem dX10_take_42 : decode cX10_take 42 = .ok (.goto 25, 3) := by decide +kernel
theorem dX10_take_45 : decode cX10_take 45 = .ok (.new 191, 3) := by decide +kernel
theorem dX10_take_48 : decode cX10_take 48 = .ok (.dup, 1) := by decide +kernel
theorem dX10_take_49 : decode cX10_take 49 = .ok (.aload_n 3, 1) := by decide +kernel
theorem dX10_take_50 : decode cX10_take 50 = .ok (.getfield 172, 3) := by decide +kernel
theorem dX10_take_53 : decode cX10_take 53 = .ok (.getfield 210, 3) := by decide +kernel
theorem dX10_take_56 : decode cX10_take 56 = .ok (.aload_n 0, 1) := by decide +kernel
theorem dX10_take_57 : decode cX10_take 57 = .ok (.getfield 35, 3) := by decide +kernel
theorem dX10_take_60 : decode cX10_take 60 = .ok (.aload_n 3, 1) := by decide +kernel
theorem dX10_take_61 : decode cX10_take 61 = .ok (.invokevirtual 203, 3) := by decide +kernel
theorem dX10_take_64 : decode cX10_take 64 = .ok (.invokespecial 207, 3) := by decide +kernel
theorem dX10_take_67 : decode cX10_take 67 = .ok (.putfield 172, 3) := by decide +kernel
theorem dX10_take_70 : decode cX10_take 70 = .ok (.iconst 1, 1) := by decide +kernel
theorem dX10_take_71 : decode cX10_take 71 = .ok (.ireturn, 1) := by decide +kernel
theorem dX10_back_0 : decode cX10_back 0 = .ok (.aload_n 0, 1) := by decide +kernel
theorem dX10_back_1 : decode cX10_back 1 = .ok (.getfield 35, 3) := by decide +kernel
theorem dX10_back_4 : decode cX10_back 4 = .ok (.iload_n 1, 1) := by decide +kernel
theorem dX10_back_5 : decode cX10_back 5 = .ok (.invokevirtual 148, 3) := by decide +kernel
theorem dX10_back_8 : decode cX10_back 8 = .ok (.astore_n 2, 1) := by decide +kernel
theorem dX10_back_9 : decode cX10_back 9 = .ok (.aload_n 2, 1) := by decide +kernel
theorem dX10_back_10 : decode cX10_back 10 = .ok (.ifnull 28, 3) := by decide +kernel
theorem dX10_back_13 : decode cX10_back 13 = .ok (.aload_n 2, 1) := by decide +kernel
theorem dX10_back_14 : decode cX10_back 14 = .ok (.getfield 165, 3) := by decide +kernel
theorem dX10_back_17 : decode cX10_back 17 = .ok (.iconst 2, 1) := by decide +kernel
theorem dX10_back_18 : decode cX10_back 18 = .ok (.if_icmp .ne 20, 3) := by decide +kernel
theorem dX10_back_21 : decode cX10_back 21 = .ok (.aload_n 2, 1) := by decide +kernel
theorem dX10_back_22 : decode cX10_back 22 = .ok (.getfield 172, 3) := by decide +kernel
theorem dX10_back_25 : decode cX10_back 25 = .ok (.ifnull 13, 3) := by decide +kernel
theorem dX10_back_28 : decode cX10_back 28 = .ok (.aload_n 2, 1) := by decide +kernel
theorem dX10_back_29 : decode cX10_back 29 = .ok (.getfield 151, 3) := by decide +kernel
theorem dX10_back_32 : decode cX10_back 32 = .ok (.getfield 156, 3) := by decide +kernel
theorem dX10_back_35 : decode cX10_back 35 = .ok (.ifCond .eq 5, 3) := by decide +kernel
theorem dX10_back_38 : decode cX10_back 38 = .ok (.iconst (-1), 1) := by decide +kernel
theorem dX10_back_39 : decode cX10_back 39 = .ok (.ireturn, 1) := by decide +kernel
theorem dX10_back_40 : decode cX10_back 40 = .ok (.aload_n 2, 1) := by decide +kernel
theorem dX10_back_41 : decode cX10_back 41 = .ok (.getfield 172, 3) := by decide +kernel
theorem dX10_back_44 : decode cX10_back 44 = .ok (.getfield 210, 3) := by decide +kernel
theorem dX10_back_47 : decode cX10_back 47 = .ok (.invokestatic 213, 3) := by decide +kernel
theorem dX10_back_50 : decode cX10_back 50 = .ok (.istore_n 3, 1) := by decide +kernel
theorem dX10_back_51 : decode cX10_back 51 = .ok (.iload_n 3, 1) := by decide +kernel
theorem dX10_back_52 : decode cX10_back 52 = .ok (.iconst (-1), 1) := by decide +kernel
theorem dX10_back_53 : decode cX10_back 53 = .ok (.if_icmp .eq 19, 3) := by decide +kernel
theorem dX10_back_56 : decode cX10_back 56 = .ok (.aload_n 0, 1) := by decide +kernel
theorem dX10_back_57 : decode cX10_back 57 = .ok (.aload_n 2, 1) := by decide +kernel
theorem dX10_back_58 : decode cX10_back 58 = .ok (.getfield 151, 3) := by decide +kernel
theorem dX10_back_61 : decode cX10_back 61 = .ok (.aload_n 2, 1) := by decide +kernel
theorem dX10_back_62 : decode cX10_back 62 = .ok (.getfield 217, 3) := by decide +kernel
theorem dX10_back_65 : decode cX10_back 65 = .ok (.iload_n 3, 1) := by decide +kernel
theorem dX10_back_66 : decode cX10_back 66 = .ok (.invokevirtual 220, 3) := by decide +kernel
theorem dX10_back_69 : decode cX10_back 69 = .ok (.ifCond .ne 5, 3) := by decide +kernel
theorem dX10_back_72 : decode cX10_back 72 = .ok (.iconst (-1), 1) := by decide +kernel
theorem dX10_back_73 : decode cX10_back 73 = .ok (.ireturn, 1) := by decide +kernel
theorem dX10_back_74 : decode cX10_back 74 = .ok (.aload_n 2, 1) := by decide +kernel
theorem dX10_back_75 : decode cX10_back 75 = .ok (.getfield 151, 3) := by decide +kernel
theorem dX10_back_78 : decode cX10_back 78 = .ok (.getfield 110, 3) := by decide +kernel
theorem dX10_back_81 : decode cX10_back 81 = .ok (.aload_n 2, 1) := by decide +kernel
theorem dX10_back_82 : decode cX10_back 82 = .ok (.getfield 217, 3) := by decide +kernel
theorem dX10_back_85 : decode cX10_back 85 = .ok (.iload_n 3, 1) := by decide +kernel
theorem dX10_back_86 : decode cX10_back 86 = .ok (.iastore, 1) := by decide +kernel
theorem dX10_back_87 : decode cX10_back 87 = .ok (.aload_n 2, 1) := by decide +kernel
theorem dX10_back_88 : decode cX10_back 88 = .ok (.aconst_null, 1) := by decide +kernel
theorem dX10_back_89 : decode cX10_back 89 = .ok (.putfield 172, 3) := by decide +kernel
theorem dX10_back_92 : decode cX10_back 92 = .ok (.aload_n 0, 1) := by decide +kernel
theorem dX10_back_93 : decode cX10_back 93 = .ok (.invokevirtual 145, 3) := by decide +kernel
theorem dX10_back_96 : decode cX10_back 96 = .ok (.ireturn, 1) := by decide +kernel
theorem dX10_touch_0 : decode cX10_touch 0 = .ok (.aload_n 0, 1) := by decide +kernel
theorem dX10_touch_1 : decode cX10_touch 1 = .ok (.getfield 19, 3) := by decide +kernel
theorem dX10_touch_4 : decode cX10_touch 4 = .ok (.iload_n 1, 1) := by decide +kernel
theorem dX10_touch_5 : decode cX10_touch 5 = .ok (.invokevirtual 74, 3) := by decide +kernel
theorem dX10_touch_8 : decode cX10_touch 8 = .ok (.astore 5, 2) := by decide +kernel
theorem dX10_touch_10 : decode cX10_touch 10 = .ok (.aload 5, 2) := by decide +kernel
theorem dX10_touch_12 : decode cX10_touch 12 = .ok (.ifnull 33, 3) := by decide +kernel
theorem dX10_touch_15 : decode cX10_touch 15 = .ok (.iload_n 2, 1) := by decide +kernel
theorem dX10_touch_16 : decode cX10_touch 16 = .ok (.iload_n 3, 1) := by decide +kernel
theorem dX10_touch_17 : decode cX10_touch 17 = .ok (.invokestatic 106, 3) := by decide +kernel
theorem dX10_touch_20 : decode cX10_touch 20 = .ok (.ifCond .eq 25, 3) := by decide +kernel
theorem dX10_touch_23 : decode cX10_touch 23 = .ok (.iload 4, 2) := by decide +kernel
theorem dX10_touch_25 : decode cX10_touch 25 = .ok (.ifCond .lt 20, 3) := by decide +kernel
theorem dX10_touch_28 : decode cX10_touch 28 = .ok (.iload 4, 2) := by decide +kernel
theorem dX10_touch_30 : decode cX10_touch 30 = .ok (.iconst 3, 1) := by decide +kernel
theorem dX10_touch_31 : decode cX10_touch 31 = .ok (.if_icmp .gt 14, 3) := by decide +kernel
theorem dX10_touch_34 : decode cX10_touch 34 = .ok (.aload_n 0, 1) := by decide +kernel
theorem dX10_touch_35 : decode cX10_touch 35 = .ok (.aload 5, 2) := by decide +kernel
theorem dX10_touch_37 : decode cX10_touch 37 = .ok (.iload_n 2, 1) := by decide +kernel
theorem dX10_touch_38 : decode cX10_touch 38 = .ok (.iload_n 3, 1) := by decide +kernel
theorem dX10_touch_39 : decode cX10_touch 39 = .ok (.invokevirtual 220, 3) := by decide +kernel
theorem dX10_touch_42 : decode cX10_touch 42 = .ok (.ifCond .ne 5, 3) := by decide +kernel
theorem dX10_touch_45 : decode cX10_touch 45 = .ok (.iconst (-1), 1) := by decide +kernel
theorem dX10_touch_46 : decode cX10_touch 46 = .ok (.ireturn, 1) := by decide +kernel
theorem dX10_touch_47 : decode cX10_touch 47 = .ok (.aload_n 0, 1) := by decide +kernel
theorem dX10_touch_48 : decode cX10_touch 48 = .ok (.getfield 39, 3) := by decide +kernel
theorem dX10_touch_51 : decode cX10_touch 51 = .ok (.aload_n 0, 1) := by decide +kernel
theorem dX10_touch_52 : decode cX10_touch 52 = .ok (.getfield 35, 3) := by decide +kernel
theorem dX10_touch_55 : decode cX10_touch 55 = .ok (.invokevirtual 224, 3) := by decide +kernel
theorem dX10_touch_58 : decode cX10_touch 58 = .ok (.istore 6, 2) := by decide +kernel
theorem dX10_touch_60 : decode cX10_touch 60 = .ok (.iload 4, 2) := by decide +kernel
theorem dX10_touch_62 : decode cX10_touch 62 = .ok (.tableswitch 49 0 2 #[26, 38, 46], 26) := by decide +kernel
theorem dX10_touch_88 : decode cX10_touch 88 = .ok (.aload_n 0, 1) := by decide +kernel
theorem dX10_touch_89 : decode cX10_touch 89 = .ok (.getfield 39, 3) := by decide +kernel
theorem dX10_touch_92 : decode cX10_touch 92 = .ok (.aload_n 0, 1) := by decide +kernel
theorem dX10_touch_93 : decode cX10_touch 93 = .ok (.getfield 35, 3) := by decide +kernel
theorem dX10_touch_96 : decode cX10_touch 96 = .ok (.invokevirtual 228, 3) := by decide +kernel
theorem dX10_touch_99 : decode cX10_touch 99 = .ok (.ireturn, 1) := by decide +kernel
theorem dX10_touch_100 : decode cX10_touch 100 = .ok (.aload_n 0, 1) := by decide +kernel
theorem dX10_touch_101 : decode cX10_touch 101 = .ok (.getfield 39, 3) := by decide +kernel
theorem dX10_touch_104 : decode cX10_touch 104 = .ok (.invokevirtual 231, 3) := by decide +kernel
theorem dX10_touch_107 : decode cX10_touch 107 = .ok (.ireturn, 1) := by decide +kernel
theorem dX10_touch_108 : decode cX10_touch 108 = .ok (.iload 6, 2) := by decide +kernel
theorem dX10_touch_110 : decode cX10_touch 110 = .ok (.ireturn, 1) := by decide +kernel
theorem dX10_touch_111 : decode cX10_touch 111 = .ok (.aload_n 0, 1) := by decide +kernel
theorem dX10_touch_112 : decode cX10_touch 112 = .ok (.getfield 39, 3) := by decide +kernel
theorem dX10_touch_115 : decode cX10_touch 115 = .ok (.getfield 234, 3) := by decide +kernel
theorem dX10_touch_118 : decode cX10_touch 118 = .ok (.ireturn, 1) := by decide +kernel
theorem dX10_text_0 : decode cX10_text 0 = .ok (.aload_n 0, 1) := by decide +kernel
theorem dX10_text_1 : decode cX10_text 1 = .ok (.getfield 35, 3) := by decide +kernel
theorem dX10_text_4 : decode cX10_text 4 = .ok (.iload_n 1, 1) := by decide +kernel
theorem dX10_text_5 : decode cX10_text 5 = .ok (.invokevirtual 235, 3) := by decide +kernel
theorem dX10_text_8 : decode cX10_text 8 = .ok (.istore_n 2, 1) := by decide +kernel
theorem dX10_text_9 : decode cX10_text 9 = .ok (.aload_n 0, 1) := by decide +kernel
theorem dX10_text_10 : decode cX10_text 10 = .ok (.getfield 35, 3) := by decide +kernel
theorem dX10_text_13 : decode cX10_text 13 = .ok (.iload_n 2, 1) := by decide +kernel
theorem dX10_text_14 : decode cX10_text 14 = .ok (.invokevirtual 148, 3) := by decide +kernel
theorem dX10_text_17 : decode cX10_text 17 = .ok (.astore_n 3, 1) := by decide +kernel
theorem dX10_text_18 : decode cX10_text 18 = .ok (.aload_n 3, 1) := by decide +kernel
theorem dX10_text_19 : decode cX10_text 19 = .ok (.ifnonnull 7, 3) := by decide +kernel
theorem dX10_text_22 : decode cX10_text 22 = .ok (.iconst (-1), 1) := by decide +kernel
theorem dX10_text_23 : decode cX10_text 23 = .ok (.goto 21, 3) := by decide +kernel
theorem dX10_text_26 : decode cX10_text 26 = .ok (.aload_n 0, 1) := by decide +kernel
theorem dX10_text_27 : decode cX10_text 27 = .ok (.getfield 35, 3) := by decide +kernel
theorem dX10_text_30 : decode cX10_text 30 = .ok (.aload_n 3, 1) := by decide +kernel
theorem dX10_text_31 : decode cX10_text 31 = .ok (.iload_n 1, 1) := by decide +kernel
theorem dX10_text_32 : decode cX10_text 32 = .ok (.aload_n 0, 1) := by decide +kernel
theorem dX10_text_33 : decode cX10_text 33 = .ok (.getfield 35, 3) := by decide +kernel
theorem dX10_text_36 : decode cX10_text 36 = .ok (.iload_n 2, 1) := by decide +kernel
theorem dX10_text_37 : decode cX10_text 37 = .ok (.invokevirtual 239, 3) := by decide +kernel
theorem dX10_text_40 : decode cX10_text 40 = .ok (.isub, 1) := by decide +kernel
theorem dX10_text_41 : decode cX10_text 41 = .ok (.invokevirtual 183, 3) := by decide +kernel
theorem dX10_text_44 : decode cX10_text 44 = .ok (.ireturn, 1) := by decide +kernel
theorem dX10_maker_0 : decode cX10_maker 0 = .ok (.aload_n 0, 1) := by decide +kernel
theorem dX10_maker_1 : decode cX10_maker 1 = .ok (.getfield 35, 3) := by decide +kernel
theorem dX10_maker_4 : decode cX10_maker 4 = .ok (.iload_n 1, 1) := by decide +kernel
theorem dX10_maker_5 : decode cX10_maker 5 = .ok (.invokevirtual 235, 3) := by decide +kernel
theorem dX10_maker_8 : decode cX10_maker 8 = .ok (.ireturn, 1) := by decide +kernel
theorem dX10_lone_0 : decode cX10_lone 0 = .ok (.aload_n 0, 1) := by decide +kernel
theorem dX10_lone_1 : decode cX10_lone 1 = .ok (.getfield 54, 3) := by decide +kernel
theorem dX10_lone_4 : decode cX10_lone 4 = .ok (.iload_n 1, 1) := by decide +kernel
theorem dX10_lone_5 : decode cX10_lone 5 = .ok (.invokevirtual 242, 3) := by decide +kernel
theorem dX10_lone_8 : decode cX10_lone 8 = .ok (.astore 4, 2) := by decide +kernel
theorem dX10_lone_10 : decode cX10_lone 10 = .ok (.aload 4, 2) := by decide +kernel
theorem dX10_lone_12 : decode cX10_lone 12 = .ok (.ifnonnull 5, 3) := by decide +kernel
theorem dX10_lone_15 : decode cX10_lone 15 = .ok (.iconst (-1), 1) := by decide +kernel
theorem dX10_lone_16 : decode cX10_lone 16 = .ok (.ireturn, 1) := by decide +kernel
theorem dX10_lone_17 : decode cX10_lone 17 = .ok (.iload_n 2, 1) := by decide +kernel
theorem dX10_lone_18 : decode cX10_lone 18 = .ok (.tableswitch 59 0 3 #[30, 40, 46, 52], 30) := by decide +kernel
theorem dX10_lone_48 : decode cX10_lone 48 = .ok (.aload 4, 2) := by decide +kernel
theorem dX10_lone_50 : decode cX10_lone 50 = .ok (.getfield 245, 3) := by decide +kernel
theorem dX10_lone_53 : decode cX10_lone 53 = .ok (.iload_n 3, 1) := by decide +kernel
theorem dX10_lone_54 : decode cX10_lone 54 = .ok (.invokestatic 195, 3) := by decide +kernel
theorem dX10_lone_57 : decode cX10_lone 57 = .ok (.ireturn, 1) := by decide +kernel
theorem dX10_lone_58 : decode cX10_lone 58 = .ok (.aload 4, 2) := by decide +kernel
theorem dX10_lone_60 : decode cX10_lone 60 = .ok (.getfield 248, 3) := by decide +kernel
theorem dX10_lone_63 : decode cX10_lone 63 = .ok (.ireturn, 1) := by decide +kernel
theorem dX10_lone_64 : decode cX10_lone 64 = .ok (.aload 4, 2) := by decide +kernel
theorem dX10_lone_66 : decode cX10_lone 66 = .ok (.getfield 249, 3) := by decide +kernel
theorem dX10_lone_69 : decode cX10_lone 69 = .ok (.ireturn, 1) := by decide +kernel
theorem dX10_lone_70 : decode cX10_lone 70 = .ok (.aload 4, 2) := by decide +kernel
theorem dX10_lone_72 : decode cX10_lone 72 = .ok (.getfield 245, 3) := by decide +kernel
theorem dX10_lone_75 : decode cX10_lone 75 = .ok (.arraylength, 1) := by decide +kernel
theorem dX10_lone_76 : decode cX10_lone 76 = .ok (.ireturn, 1) := by decide +kernel
theorem dX10_lone_77 : decode cX10_lone 77 = .ok (.iconst (-1), 1) := by decide +kernel
theorem dX10_lone_78 : decode cX10_lone 78 = .ok (.ireturn, 1) := by decide +kernel
theorem dX10_drops_0 : decode cX10_drops 0 = .ok (.aload_n 0, 1) := by decide +kernel
theorem dX10_drops_1 : decode cX10_drops 1 = .ok (.getfield 54, 3) := by decide +kernel
theorem dX10_drops_4 : decode cX10_drops 4 = .ok (.iload_n 1, 1) := by decide +kernel
theorem dX10_drops_5 : decode cX10_drops 5 = .ok (.invokevirtual 250, 3) := by decide +kernel
theorem dX10_drops_8 : decode cX10_drops 8 = .ok (.ireturn, 1) := by decide +kernel
theorem dX10_thingOf_0 : decode cX10_thingOf 0 = .ok (.aload_n 0, 1) := by decide +kernel
theorem dX10_thingOf_1 : decode cX10_thingOf 1 = .ok (.getfield 19, 3) := by decide +kernel
theorem dX10_thingOf_4 : decode cX10_thingOf 4 = .ok (.iload_n 1, 1) := by decide +kernel
theorem dX10_thingOf_5 : decode cX10_thingOf 5 = .ok (.invokevirtual 74, 3) := by decide +kernel
theorem dX10_thingOf_8 : decode cX10_thingOf 8 = .ok (.astore_n 3, 1) := by decide +kernel
theorem dX10_thingOf_9 : decode cX10_thingOf 9 = .ok (.aload_n 3, 1) := by decide +kernel
theorem dX10_thingOf_10 : decode cX10_thingOf 10 = .ok (.ifnonnull 5, 3) := by decide +kernel
theorem dX10_thingOf_13 : decode cX10_thingOf 13 = .ok (.iconst (-1), 1) := by decide +kernel
theorem dX10_thingOf_14 : decode cX10_thingOf 14 = .ok (.ireturn, 1) := by decide +kernel
theorem dX10_thingOf_15 : decode cX10_thingOf 15 = .ok (.iload_n 2, 1) := by decide +kernel
theorem dX10_thingOf_16 : decode cX10_thingOf 16 = .ok (.tableswitch 71 0 3 #[32, 37, 56, 65], 32) := by decide +kernel
theorem dX10_thingOf_48 : decode cX10_thingOf 48 = .ok (.aload_n 3, 1) := by decide +kernel
theorem dX10_thingOf_49 : decode cX10_thingOf 49 = .ok (.getfield 180, 3) := by decide +kernel
theorem dX10_thingOf_52 : decode cX10_thingOf 52 = .ok (.ireturn, 1) := by decide +kernel
theorem dX10_thingOf_53 : decode cX10_thingOf 53 = .ok (.aload_n 3, 1) := by decide +kernel
theorem dX10_thingOf_54 : decode cX10_thingOf 54 = .ok (.getfield 252, 3) := by decide +kernel
theorem dX10_thingOf_57 : decode cX10_thingOf 57 = .ok (.ifnonnull 7, 3) := by decide +kernel
theorem dX10_thingOf_60 : decode cX10_thingOf 60 = .ok (.iconst (-1), 1) := by decide +kernel
theorem dX10_thingOf_61 : decode cX10_thingOf 61 = .ok (.goto 10, 3) := by decide +kernel
theorem dX10_thingOf_64 : decode cX10_thingOf 64 = .ok (.aload_n 3, 1) := by decide +kernel
theorem dX10_thingOf_65 : decode cX10_thingOf 65 = .ok (.getfield 252, 3) := by decide +kernel
theorem dX10_thingOf_68 : decode cX10_thingOf 68 = .ok (.getfield 159, 3) := by decide +kernel
theorem dX10_thingOf_71 : decode cX10_thingOf 71 = .ok (.ireturn, 1) := by decide +kernel
theorem dX10_thingOf_72 : decode cX10_thingOf 72 = .ok (.aload_n 0, 1) := by decide +kernel
theorem dX10_thingOf_73 : decode cX10_thingOf 73 = .ok (.getfield 19, 3) := by decide +kernel
theorem dX10_thingOf_76 : decode cX10_thingOf 76 = .ok (.aload_n 3, 1) := by decide +kernel
theorem dX10_thingOf_77 : decode cX10_thingOf 77 = .ok (.invokevirtual 255, 3) := by decide +kernel
theorem dX10_thingOf_80 : decode cX10_thingOf 80 = .ok (.ireturn, 1) := by decide +kernel
theorem dX10_thingOf_81 : decode cX10_thingOf 81 = .ok (.aload_n 3, 1) := by decide +kernel
theorem dX10_thingOf_82 : decode cX10_thingOf 82 = .ok (.getfield 114, 3) := by decide +kernel
theorem dX10_thingOf_85 : decode cX10_thingOf 85 = .ok (.arraylength, 1) := by decide +kernel
theorem dX10_thingOf_86 : decode cX10_thingOf 86 = .ok (.ireturn, 1) := by decide +kernel
theorem dX10_thingOf_87 : decode cX10_thingOf 87 = .ok (.iload_n 2, 1) := by decide +kernel
theorem dX10_thingOf_88 : decode cX10_thingOf 88 = .ok (.bipush 100, 2) := by decide +kernel
theorem dX10_thingOf_90 : decode cX10_thingOf 90 = .ok (.if_icmp .ge 17, 3) := by decide +kernel
theorem dX10_thingOf_93 : decode cX10_thingOf 93 = .ok (.aload_n 3, 1) := by decide +kernel
theorem dX10_thingOf_94 : decode cX10_thingOf 94 = .ok (.getfield 110, 3) := by decide +kernel
theorem dX10_thingOf_97 : decode cX10_thingOf 97 = .ok (.iload_n 2, 1) := by decide +kernel
theorem dX10_thingOf_98 : decode cX10_thingOf 98 = .ok (.bipush 10, 2) := by decide +kernel
theorem dX10_thingOf_100 : decode cX10_thingOf 100 = .ok (.isub, 1) := by decide +kernel
theorem dX10_thingOf_101 : decode cX10_thingOf 101 = .ok (.invokestatic 195, 3) := by decide +kernel
theorem dX10_thingOf_104 : decode cX10_thingOf 104 = .ok (.goto 14, 3) := by decide +kernel
theorem dX10_thingOf_107 : decode cX10_thingOf 107 = .ok (.aload_n 3, 1) := by decide +kernel
theorem dX10_thingOf_108 : decode cX10_thingOf 108 = .ok (.getfield 114, 3) := by decide +kernel
theorem dX10_thingOf_111 : decode cX10_thingOf 111 = .ok (.iload_n 2, 1) := by decide +kernel
theorem dX10_thingOf_112 : decode cX10_thingOf 112 = .ok (.bipush 100, 2) := by decide +kernel
theorem dX10_thingOf_114 : decode cX10_thingOf 114 = .ok (.isub, 1) := by decide +kernel
theorem dX10_thingOf_115 : decode cX10_thingOf 115 = .ok (.invokestatic 195, 3) := by decide +kernel
theorem dX10_thingOf_118 : decode cX10_thingOf 118 = .ok (.ireturn, 1) := by decide +kernel
theorem dX10_about_0 : decode cX10_about 0 = .ok (.iload_n 1, 1) := by decide +kernel
theorem dX10_about_1 : decode cX10_about 1 = .ok (.tableswitch 109 0 6 #[43, 51, 59, 74, 82, 93, 101], 43) := by decide +kernel
theorem dX10_about_44 : decode cX10_about 44 = .ok (.aload_n 0, 1) := by decide +kernel
theorem dX10_about_45 : decode cX10_about 45 = .ok (.getfield 19, 3) := by decide +kernel
theorem dX10_about_48 : decode cX10_about 48 = .ok (.getfield 258, 3) := by decide +kernel
theorem dX10_about_51 : decode cX10_about 51 = .ok (.ireturn, 1) := by decide +kernel
theorem dX10_about_52 : decode cX10_about 52 = .ok (.aload_n 0, 1) := by decide +kernel
theorem dX10_about_53 : decode cX10_about 53 = .ok (.getfield 35, 3) := by decide +kernel
theorem dX10_about_56 : decode cX10_about 56 = .ok (.getfield 234, 3) := by decide +kernel
theorem dX10_about_59 : decode cX10_about 59 = .ok (.ireturn, 1) := by decide +kernel
theorem dX10_about_60 : decode cX10_about 60 = .ok (.aload_n 0, 1) := by decide +kernel
theorem dX10_about_61 : decode cX10_about 61 = .ok (.getfield 35, 3) := by decide +kernel
theorem dX10_about_64 : decode cX10_about 64 = .ok (.aload_n 0, 1) := by decide +kernel
theorem dX10_about_65 : decode cX10_about 65 = .ok (.getfield 35, 3) := by decide +kernel
theorem dX10_about_68 : decode cX10_about 68 = .ok (.getfield 234, 3) := by decide +kernel
theorem dX10_about_71 : decode cX10_about 71 = .ok (.invokevirtual 239, 3) := by decide +kernel
theorem dX10_about_74 : decode cX10_about 74 = .ok (.ireturn, 1) := by decide +kernel
theorem dX10_about_75 : decode cX10_about 75 = .ok (.aload_n 0, 1) := by decide +kernel
theorem dX10_about_76 : decode cX10_about 76 = .ok (.getfield 35, 3) := by decide +kernel
theorem dX10_about_79 : decode cX10_about 79 = .ok (.invokevirtual 231, 3) := by decide +kernel
theorem dX10_about_82 : decode cX10_about 82 = .ok (.ireturn, 1) := by decide +kernel
theorem dX10_about_83 : decode cX10_about 83 = .ok (.aload_n 0, 1) := by decide +kernel
theorem dX10_about_84 : decode cX10_about 84 = .ok (.getfield 54, 3) := by decide +kernel
theorem dX10_about_87 : decode cX10_about 87 = .ok (.getfield 259, 3) := by decide +kernel
theorem dX10_about_90 : decode cX10_about 90 = .ok (.invokevirtual 263, 3) := by decide +kernel
theorem dX10_about_93 : decode cX10_about 93 = .ok (.ireturn, 1) := by decide +kernel
theorem dX10_about_94 : decode cX10_about 94 = .ok (.aload_n 0, 1) := by decide +kernel
theorem dX10_about_95 : decode cX10_about 95 = .ok (.getfield 54, 3) := by decide +kernel
