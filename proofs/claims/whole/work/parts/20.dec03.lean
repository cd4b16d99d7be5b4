theorem dX10_about_98 : decode cX10_about 98 = .ok (.getfield 268, 3) := by decide +kernel
theorem dX10_about_101 : decode cX10_about 101 = .ok (.ireturn, 1) := by decide +kernel
theorem dX10_about_102 : decode cX10_about 102 = .ok (.aload_n 0, 1) := by decide +kernel
theorem dX10_about_103 : decode cX10_about 103 = .ok (.getfield 10, 3) := by decide +kernel
theorem dX10_about_106 : decode cX10_about 106 = .ok (.getfield 62, 3) := by decide +kernel
theorem dX10_about_109 : decode cX10_about 109 = .ok (.ireturn, 1) := by decide +kernel
theorem dX10_about_110 : decode cX10_about 110 = .ok (.iload_n 1, 1) := by decide +kernel
theorem dX10_about_111 : decode cX10_about 111 = .ok (.bipush 10, 2) := by decide +kernel
theorem dX10_about_113 : decode cX10_about 113 = .ok (.if_icmp .lt 24, 3) := by decide +kernel
theorem dX10_about_116 : decode cX10_about 116 = .ok (.iload_n 1, 1) := by decide +kernel
theorem dX10_about_117 : decode cX10_about 117 = .ok (.bipush 18, 2) := by decide +kernel
theorem dX10_about_119 : decode cX10_about 119 = .ok (.if_icmp .ge 18, 3) := by decide +kernel
theorem dX10_about_122 : decode cX10_about 122 = .ok (.aload_n 0, 1) := by decide +kernel
theorem dX10_about_123 : decode cX10_about 123 = .ok (.getfield 25, 3) := by decide +kernel
theorem dX10_about_126 : decode cX10_about 126 = .ok (.iload_n 1, 1) := by decide +kernel
theorem dX10_about_127 : decode cX10_about 127 = .ok (.bipush 10, 2) := by decide +kernel
theorem dX10_about_129 : decode cX10_about 129 = .ok (.isub, 1) := by decide +kernel
theorem dX10_about_130 : decode cX10_about 130 = .ok (.aaload, 1) := by decide +kernel
theorem dX10_about_131 : decode cX10_about 131 = .ok (.getfield 131, 3) := by decide +kernel
theorem dX10_about_134 : decode cX10_about 134 = .ok (.goto 4, 3) := by decide +kernel
theorem dX10_about_137 : decode cX10_about 137 = .ok (.iconst (-1), 1) := by decide +kernel
theorem dX10_about_138 : decode cX10_about 138 = .ok (.ireturn, 1) := by decide +kernel
theorem dX10_fillSpareWith_0 : decode cX10_fillSpareWith 0 = .ok (.aload_n 1, 1) := by decide +kernel
theorem dX10_fillSpareWith_1 : decode cX10_fillSpareWith 1 = .ok (.getfield 110, 3) := by decide +kernel
theorem dX10_fillSpareWith_4 : decode cX10_fillSpareWith 4 = .ok (.iload_n 2, 1) := by decide +kernel
theorem dX10_fillSpareWith_5 : decode cX10_fillSpareWith 5 = .ok (.iaload, 1) := by decide +kernel
theorem dX10_fillSpareWith_6 : decode cX10_fillSpareWith 6 = .ok (.istore 4, 2) := by decide +kernel
theorem dX10_fillSpareWith_8 : decode cX10_fillSpareWith 8 = .ok (.aload_n 1, 1) := by decide +kernel
theorem dX10_fillSpareWith_9 : decode cX10_fillSpareWith 9 = .ok (.getfield 110, 3) := by decide +kernel
theorem dX10_fillSpareWith_12 : decode cX10_fillSpareWith 12 = .ok (.iload_n 2, 1) := by decide +kernel
theorem dX10_fillSpareWith_13 : decode cX10_fillSpareWith 13 = .ok (.iload_n 3, 1) := by decide +kernel
theorem dX10_fillSpareWith_14 : decode cX10_fillSpareWith 14 = .ok (.iastore, 1) := by decide +kernel
theorem dX10_fillSpareWith_15 : decode cX10_fillSpareWith 15 = .ok (.aload_n 0, 1) := by decide +kernel
theorem dX10_fillSpareWith_16 : decode cX10_fillSpareWith 16 = .ok (.getfield 47, 3) := by decide +kernel
theorem dX10_fillSpareWith_19 : decode cX10_fillSpareWith 19 = .ok (.aload_n 0, 1) := by decide +kernel
theorem dX10_fillSpareWith_20 : decode cX10_fillSpareWith 20 = .ok (.getfield 39, 3) := by decide +kernel
theorem dX10_fillSpareWith_23 : decode cX10_fillSpareWith 23 = .ok (.aload_n 0, 1) := by decide +kernel
theorem dX10_fillSpareWith_24 : decode cX10_fillSpareWith 24 = .ok (.getfield 19, 3) := by decide +kernel
theorem dX10_fillSpareWith_27 : decode cX10_fillSpareWith 27 = .ok (.getfield 70, 3) := by decide +kernel
theorem dX10_fillSpareWith_30 : decode cX10_fillSpareWith 30 = .ok (.invokevirtual 137, 3) := by decide +kernel
theorem dX10_fillSpareWith_33 : decode cX10_fillSpareWith 33 = .ok (.aload_n 1, 1) := by decide +kernel
theorem dX10_fillSpareWith_34 : decode cX10_fillSpareWith 34 = .ok (.getfield 110, 3) := by decide +kernel
theorem dX10_fillSpareWith_37 : decode cX10_fillSpareWith 37 = .ok (.iload_n 2, 1) := by decide +kernel
theorem dX10_fillSpareWith_38 : decode cX10_fillSpareWith 38 = .ok (.iload 4, 2) := by decide +kernel
theorem dX10_fillSpareWith_40 : decode cX10_fillSpareWith 40 = .ok (.iastore, 1) := by decide +kernel
theorem dX10_fillSpareWith_41 : decode cX10_fillSpareWith 41 = .ok (.aload_n 0, 1) := by decide +kernel
theorem dX10_fillSpareWith_42 : decode cX10_fillSpareWith 42 = .ok (.getfield 39, 3) := by decide +kernel
theorem dX10_fillSpareWith_45 : decode cX10_fillSpareWith 45 = .ok (.getfield 141, 3) := by decide +kernel
theorem dX10_fillSpareWith_48 : decode cX10_fillSpareWith 48 = .ok (.ifCond .ne 7, 3) := by decide +kernel
theorem dX10_fillSpareWith_51 : decode cX10_fillSpareWith 51 = .ok (.iconst 1, 1) := by decide +kernel
theorem dX10_fillSpareWith_52 : decode cX10_fillSpareWith 52 = .ok (.goto 4, 3) := by decide +kernel
theorem dX10_fillSpareWith_55 : decode cX10_fillSpareWith 55 = .ok (.iconst 0, 1) := by decide +kernel
theorem dX10_fillSpareWith_56 : decode cX10_fillSpareWith 56 = .ok (.ireturn, 1) := by decide +kernel
theorem dX10_turnToSpare_0 : decode cX10_turnToSpare 0 = .ok (.aload_n 0, 1) := by decide +kernel
theorem dX10_turnToSpare_1 : decode cX10_turnToSpare 1 = .ok (.getfield 39, 3) := by decide +kernel
theorem dX10_turnToSpare_4 : decode cX10_turnToSpare 4 = .ok (.aload_n 0, 1) := by decide +kernel
theorem dX10_turnToSpare_5 : decode cX10_turnToSpare 5 = .ok (.getfield 35, 3) := by decide +kernel
theorem dX10_turnToSpare_8 : decode cX10_turnToSpare 8 = .ok (.invokevirtual 224, 3) := by decide +kernel
theorem dX10_turnToSpare_11 : decode cX10_turnToSpare 11 = .ok (.pop, 1) := by decide +kernel
theorem dX10_turnToSpare_12 : decode cX10_turnToSpare 12 = .ok (.aload_n 0, 1) := by decide +kernel
theorem dX10_turnToSpare_13 : decode cX10_turnToSpare 13 = .ok (.getfield 54, 3) := by decide +kernel
theorem dX10_turnToSpare_16 : decode cX10_turnToSpare 16 = .ok (.aload_n 0, 1) := by decide +kernel
theorem dX10_turnToSpare_17 : decode cX10_turnToSpare 17 = .ok (.getfield 35, 3) := by decide +kernel
theorem dX10_turnToSpare_20 : decode cX10_turnToSpare 20 = .ok (.invokevirtual 271, 3) := by decide +kernel
theorem dX10_turnToSpare_23 : decode cX10_turnToSpare 23 = .ok (.aload_n 0, 1) := by decide +kernel
theorem dX10_turnToSpare_24 : decode cX10_turnToSpare 24 = .ok (.getfield 35, 3) := by decide +kernel
theorem dX10_turnToSpare_27 : decode cX10_turnToSpare 27 = .ok (.astore_n 1, 1) := by decide +kernel
theorem dX10_turnToSpare_28 : decode cX10_turnToSpare 28 = .ok (.aload_n 0, 1) := by decide +kernel
theorem dX10_turnToSpare_29 : decode cX10_turnToSpare 29 = .ok (.aload_n 0, 1) := by decide +kernel
theorem dX10_turnToSpare_30 : decode cX10_turnToSpare 30 = .ok (.getfield 39, 3) := by decide +kernel
theorem dX10_turnToSpare_33 : decode cX10_turnToSpare 33 = .ok (.putfield 35, 3) := by decide +kernel
theorem dX10_turnToSpare_36 : decode cX10_turnToSpare 36 = .ok (.aload_n 0, 1) := by decide +kernel
theorem dX10_turnToSpare_37 : decode cX10_turnToSpare 37 = .ok (.aload_n 1, 1) := by decide +kernel
theorem dX10_turnToSpare_38 : decode cX10_turnToSpare 38 = .ok (.putfield 39, 3) := by decide +kernel
theorem dX10_turnToSpare_41 : decode cX10_turnToSpare 41 = .ok (.aload_n 0, 1) := by decide +kernel
theorem dX10_turnToSpare_42 : decode cX10_turnToSpare 42 = .ok (.getfield 35, 3) := by decide +kernel
theorem dX10_turnToSpare_45 : decode cX10_turnToSpare 45 = .ok (.getfield 234, 3) := by decide +kernel
theorem dX10_turnToSpare_48 : decode cX10_turnToSpare 48 = .ok (.ireturn, 1) := by decide +kernel
theorem dX10_isKind_0 : decode cX10_isKind 0 = .ok (.iload_n 0, 1) := by decide +kernel
theorem dX10_isKind_1 : decode cX10_isKind 1 = .ok (.ifCond .lt 13, 3) := by decide +kernel
theorem dX10_isKind_4 : decode cX10_isKind 4 = .ok (.iload_n 0, 1) := by decide +kernel
theorem dX10_isKind_5 : decode cX10_isKind 5 = .ok (.bipush 8, 2) := by decide +kernel
theorem dX10_isKind_7 : decode cX10_isKind 7 = .ok (.if_icmp .ge 7, 3) := by decide +kernel
theorem dX10_isKind_10 : decode cX10_isKind 10 = .ok (.iconst 1, 1) := by decide +kernel
theorem dX10_isKind_11 : decode cX10_isKind 11 = .ok (.goto 4, 3) := by decide +kernel
theorem dX10_isKind_14 : decode cX10_isKind 14 = .ok (.iconst 0, 1) := by decide +kernel
theorem dX10_isKind_15 : decode cX10_isKind 15 = .ok (.ireturn, 1) := by decide +kernel
theorem dX10_canBeNumber_0 : decode cX10_canBeNumber 0 = .ok (.iload_n 0, 1) := by decide +kernel
theorem dX10_canBeNumber_1 : decode cX10_canBeNumber 1 = .ok (.ifCond .lt 23, 3) := by decide +kernel
theorem dX10_canBeNumber_4 : decode cX10_canBeNumber 4 = .ok (.iload_n 0, 1) := by decide +kernel
theorem dX10_canBeNumber_5 : decode cX10_canBeNumber 5 = .ok (.iconst 4, 1) := by decide +kernel
theorem dX10_canBeNumber_6 : decode cX10_canBeNumber 6 = .ok (.if_icmp .ge 18, 3) := by decide +kernel
theorem dX10_canBeNumber_9 : decode cX10_canBeNumber 9 = .ok (.iload_n 1, 1) := by decide +kernel
theorem dX10_canBeNumber_10 : decode cX10_canBeNumber 10 = .ok (.ifCond .lt 14, 3) := by decide +kernel
theorem dX10_canBeNumber_13 : decode cX10_canBeNumber 13 = .ok (.iload_n 1, 1) := by decide +kernel
theorem dX10_canBeNumber_14 : decode cX10_canBeNumber 14 = .ok (.ldc_w 275, 3) := by decide +kernel
theorem dX10_canBeNumber_17 : decode cX10_canBeNumber 17 = .ok (.if_icmp .gt 7, 3) := by decide +kernel
theorem dX10_canBeNumber_20 : decode cX10_canBeNumber 20 = .ok (.iconst 1, 1) := by decide +kernel
theorem dX10_canBeNumber_21 : decode cX10_canBeNumber 21 = .ok (.goto 4, 3) := by decide +kernel
theorem dX10_canBeNumber_24 : decode cX10_canBeNumber 24 = .ok (.iconst 0, 1) := by decide +kernel
theorem dX10_canBeNumber_25 : decode cX10_canBeNumber 25 = .ok (.ireturn, 1) := by decide +kernel
theorem dX10_elementOf_0 : decode cX10_elementOf 0 = .ok (.iload_n 1, 1) := by decide +kernel
theorem dX10_elementOf_1 : decode cX10_elementOf 1 = .ok (.ifCond .lt 15, 3) := by decide +kernel
theorem dX10_elementOf_4 : decode cX10_elementOf 4 = .ok (.iload_n 1, 1) := by decide +kernel
theorem dX10_elementOf_5 : decode cX10_elementOf 5 = .ok (.aload_n 0, 1) := by decide +kernel
theorem dX10_elementOf_6 : decode cX10_elementOf 6 = .ok (.arraylength, 1) := by decide +kernel
theorem dX10_elementOf_7 : decode cX10_elementOf 7 = .ok (.if_icmp .ge 9, 3) := by decide +kernel
theorem dX10_elementOf_10 : decode cX10_elementOf 10 = .ok (.aload_n 0, 1) := by decide +kernel
theorem dX10_elementOf_11 : decode cX10_elementOf 11 = .ok (.iload_n 1, 1) := by decide +kernel
theorem dX10_elementOf_12 : decode cX10_elementOf 12 = .ok (.iaload, 1) := by decide +kernel
theorem dX10_elementOf_13 : decode cX10_elementOf 13 = .ok (.goto 4, 3) := by decide +kernel
theorem dX10_elementOf_16 : decode cX10_elementOf 16 = .ok (.iconst (-1), 1) := by decide +kernel
theorem dX10_elementOf_17 : decode cX10_elementOf 17 = .ok (.ireturn, 1) := by decide +kernel
theorem dX10_valueOf_0 : decode cX10_valueOf 0 = .ok (.aload_n 0, 1) := by decide +kernel
theorem dX10_valueOf_1 : decode cX10_valueOf 1 = .ok (.arraylength, 1) := by decide +kernel
theorem dX10_valueOf_2 : decode cX10_valueOf 2 = .ok (.ifCond .eq 23, 3) := by decide +kernel
theorem dX10_valueOf_5 : decode cX10_valueOf 5 = .ok (.aload_n 0, 1) := by decide +kernel
theorem dX10_valueOf_6 : decode cX10_valueOf 6 = .ok (.arraylength, 1) := by decide +kernel
theorem dX10_valueOf_7 : decode cX10_valueOf 7 = .ok (.iconst 5, 1) := by decide +kernel
theorem dX10_valueOf_8 : decode cX10_valueOf 8 = .ok (.if_icmp .gt 17, 3) := by decide +kernel
theorem dX10_valueOf_11 : decode cX10_valueOf 11 = .ok (.aload_n 0, 1) := by decide +kernel
theorem dX10_valueOf_12 : decode cX10_valueOf 12 = .ok (.iconst 0, 1) := by decide +kernel
theorem dX10_valueOf_13 : decode cX10_valueOf 13 = .ok (.iaload, 1) := by decide +kernel
theorem dX10_valueOf_14 : decode cX10_valueOf 14 = .ok (.bipush 48, 2) := by decide +kernel
theorem dX10_valueOf_16 : decode cX10_valueOf 16 = .ok (.if_icmp .ne 11, 3) := by decide +kernel
theorem dX10_valueOf_19 : decode cX10_valueOf 19 = .ok (.aload_n 0, 1) := by decide +kernel
theorem dX10_valueOf_20 : decode cX10_valueOf 20 = .ok (.arraylength, 1) := by decide +kernel
theorem dX10_valueOf_21 : decode cX10_valueOf 21 = .ok (.iconst 1, 1) := by decide +kernel
theorem dX10_valueOf_22 : decode cX10_valueOf 22 = .ok (.if_icmp .le 5, 3) := by decide +kernel
theorem dX10_valueOf_25 : decode cX10_valueOf 25 = .ok (.iconst (-1), 1) := by decide +kernel
theorem dX10_valueOf_26 : decode cX10_valueOf 26 = .ok (.ireturn, 1) := by decide +kernel
theorem dX10_valueOf_27 : decode cX10_valueOf 27 = .ok (.iconst 0, 1) := by decide +kernel
theorem dX10_valueOf_28 : decode cX10_valueOf 28 = .ok (.istore_n 1, 1) := by decide +kernel
theorem dX10_valueOf_29 : decode cX10_valueOf 29 = .ok (.iconst 0, 1) := by decide +kernel
theorem dX10_valueOf_30 : decode cX10_valueOf 30 = .ok (.istore_n 2, 1) := by decide +kernel
theorem dX10_valueOf_31 : decode cX10_valueOf 31 = .ok (.iload_n 2, 1) := by decide +kernel
theorem dX10_valueOf_32 : decode cX10_valueOf 32 = .ok (.aload_n 0, 1) := by decide +kernel
theorem dX10_valueOf_33 : decode cX10_valueOf 33 = .ok (.arraylength, 1) := by decide +kernel
theorem dX10_valueOf_34 : decode cX10_valueOf 34 = .ok (.if_icmp .ge 39, 3) := by decide +kernel
theorem dX10_valueOf_37 : decode cX10_valueOf 37 = .ok (.aload_n 0, 1) := by decide +kernel
theorem dX10_valueOf_38 : decode cX10_valueOf 38 = .ok (.iload_n 2, 1) := by decide +kernel
theorem dX10_valueOf_39 : decode cX10_valueOf 39 = .ok (.iaload, 1) := by decide +kernel
theorem dX10_valueOf_40 : decode cX10_valueOf 40 = .ok (.bipush 48, 2) := by decide +kernel
theorem dX10_valueOf_42 : decode cX10_valueOf 42 = .ok (.if_icmp .lt 11, 3) := by decide +kernel
theorem dX10_valueOf_45 : decode cX10_valueOf 45 = .ok (.aload_n 0, 1) := by decide +kernel
theorem dX10_valueOf_46 : decode cX10_valueOf 46 = .ok (.iload_n 2, 1) := by decide +kernel
theorem dX10_valueOf_47 : decode cX10_valueOf 47 = .ok (.iaload, 1) := by decide +kernel
theorem dX10_valueOf_48 : decode cX10_valueOf 48 = .ok (.bipush 57, 2) := by decide +kernel
theorem dX10_valueOf_50 : decode cX10_valueOf 50 = .ok (.if_icmp .le 5, 3) := by decide +kernel
theorem dX10_valueOf_53 : decode cX10_valueOf 53 = .ok (.iconst (-1), 1) := by decide +kernel
theorem dX10_valueOf_54 : decode cX10_valueOf 54 = .ok (.ireturn, 1) := by decide +kernel
theorem dX10_valueOf_55 : decode cX10_valueOf 55 = .ok (.iload_n 1, 1) := by decide +kernel
theorem dX10_valueOf_56 : decode cX10_valueOf 56 = .ok (.bipush 10, 2) := by decide +kernel
theorem dX10_valueOf_58 : decode cX10_valueOf 58 = .ok (.imul, 1) := by decide +kernel
theorem dX10_valueOf_59 : decode cX10_valueOf 59 = .ok (.aload_n 0, 1) := by decide +kernel
theorem dX10_valueOf_60 : decode cX10_valueOf 60 = .ok (.iload_n 2, 1) := by decide +kernel
theorem dX10_valueOf_61 : decode cX10_valueOf 61 = .ok (.iaload, 1) := by decide +kernel
theorem dX10_valueOf_62 : decode cX10_valueOf 62 = .ok (.iadd, 1) := by decide +kernel
theorem dX10_valueOf_63 : decode cX10_valueOf 63 = .ok (.bipush 48, 2) := by decide +kernel
theorem dX10_valueOf_65 : decode cX10_valueOf 65 = .ok (.isub, 1) := by decide +kernel
theorem dX10_valueOf_66 : decode cX10_valueOf 66 = .ok (.istore_n 1, 1) := by decide +kernel
theorem dX10_valueOf_67 : decode cX10_valueOf 67 = .ok (.iinc 2 1, 3) := by decide +kernel
theorem dX10_valueOf_70 : decode cX10_valueOf 70 = .ok (.goto (-39), 3) := by decide +kernel
theorem dX10_valueOf_73 : decode cX10_valueOf 73 = .ok (.iload_n 1, 1) := by decide +kernel
theorem dX10_valueOf_74 : decode cX10_valueOf 74 = .ok (.ireturn, 1) := by decide +kernel
theorem dX11_init_0 : decode cX11_init 0 = .ok (.aload_n 0, 1) := by decide +kernel
theorem dX11_init_1 : decode cX11_init 1 = .ok (.invokespecial 1, 3) := by decide +kernel
theorem dX11_init_4 : decode cX11_init 4 = .ok (.aload_n 0, 1) := by decide +kernel
theorem dX11_init_5 : decode cX11_init 5 = .ok (.bipush 24, 2) := by decide +kernel
theorem dX11_init_7 : decode cX11_init 7 = .ok (.newarray .int, 2) := by decide +kernel
theorem dX11_init_9 : decode cX11_init 9 = .ok (.putfield 7, 3) := by decide +kernel
theorem dX11_init_12 : decode cX11_init 12 = .ok (.aload_n 0, 1) := by decide +kernel
theorem dX11_init_13 : decode cX11_init 13 = .ok (.bipush 24, 2) := by decide +kernel
theorem dX11_init_15 : decode cX11_init 15 = .ok (.newarray .int, 2) := by decide +kernel
theorem dX11_init_17 : decode cX11_init 17 = .ok (.putfield 13, 3) := by decide +kernel
theorem dX11_init_20 : decode cX11_init 20 = .ok (.aload_n 0, 1) := by decide +kernel
theorem dX11_init_21 : decode cX11_init 21 = .ok (.bipush 24, 2) := by decide +kernel
theorem dX11_init_23 : decode cX11_init 23 = .ok (.newarray .int, 2) := by decide +kernel
theorem dX11_init_25 : decode cX11_init 25 = .ok (.putfield 16, 3) := by decide +kernel
theorem dX11_init_28 : decode cX11_init 28 = .ok (.aload_n 0, 1) := by decide +kernel
theorem dX11_init_29 : decode cX11_init 29 = .ok (.bipush 24, 2) := by decide +kernel
theorem dX11_init_31 : decode cX11_init 31 = .ok (.newarray .int, 2) := by decide +kernel
theorem dX11_init_33 : decode cX11_init 33 = .ok (.putfield 19, 3) := by decide +kernel
theorem dX11_init_36 : decode cX11_init 36 = .ok (.aload_n 0, 1) := by decide +kernel
theorem dX11_init_37 : decode cX11_init 37 = .ok (.bipush 96, 2) := by decide +kernel
theorem dX11_init_39 : decode cX11_init 39 = .ok (.newarray .int, 2) := by decide +kernel
theorem dX11_init_41 : decode cX11_init 41 = .ok (.putfield 22, 3) := by decide +kernel
theorem dX11_init_44 : decode cX11_init 44 = .ok (.aload_n 0, 1) := by decide +kernel
theorem dX11_init_45 : decode cX11_init 45 = .ok (.sipush 144, 3) := by decide +kernel
theorem dX11_init_48 : decode cX11_init 48 = .ok (.newarray .int, 2) := by decide +kernel
theorem dX11_init_50 : decode cX11_init 50 = .ok (.putfield 25, 3) := by decide +kernel
theorem dX11_init_53 : decode cX11_init 53 = .ok (.aload_n 0, 1) := by decide +kernel
theorem dX11_init_54 : decode cX11_init 54 = .ok (.bipush 24, 2) := by decide +kernel
theorem dX11_init_56 : decode cX11_init 56 = .ok (.newarray .int, 2) := by decide +kernel
theorem dX11_init_58 : decode cX11_init 58 = .ok (.putfield 28, 3) := by decide +kernel
theorem dX11_init_61 : decode cX11_init 61 = .ok (.aload_n 0, 1) := by decide +kernel
theorem dX11_init_62 : decode cX11_init 62 = .ok (.bipush 9, 2) := by decide +kernel
theorem dX11_init_64 : decode cX11_init 64 = .ok (.newarray .int, 2) := by decide +kernel
theorem dX11_init_66 : decode cX11_init 66 = .ok (.putfield 31, 3) := by decide +kernel
theorem dX11_init_69 : decode cX11_init 69 = .ok (.aload_n 0, 1) := by decide +kernel
theorem dX11_init_70 : decode cX11_init 70 = .ok (.sipush 180, 3) := by decide +kernel
theorem dX11_init_73 : decode cX11_init 73 = .ok (.newarray .int, 2) := by decide +kernel
theorem dX11_init_75 : decode cX11_init 75 = .ok (.putfield 34, 3) := by decide +kernel
theorem dX11_init_78 : decode cX11_init 78 = .ok (.aload_n 0, 1) := by decide +kernel
theorem dX11_init_79 : decode cX11_init 79 = .ok (.sipush 180, 3) := by decide +kernel
theorem dX11_init_82 : decode cX11_init 82 = .ok (.newarray .int, 2) := by decide +kernel
theorem dX11_init_84 : decode cX11_init 84 = .ok (.putfield 37, 3) := by decide +kernel
theorem dX11_init_87 : decode cX11_init 87 = .ok (.aload_n 0, 1) := by decide +kernel
theorem dX11_init_88 : decode cX11_init 88 = .ok (.sipush 180, 3) := by decide +kernel
theorem dX11_init_91 : decode cX11_init 91 = .ok (.newarray .int, 2) := by decide +kernel
theorem dX11_init_93 : decode cX11_init 93 = .ok (.putfield 40, 3) := by decide +kernel
theorem dX11_init_96 : decode cX11_init 96 = .ok (.aload_n 0, 1) := by decide +kernel
theorem dX11_init_97 : decode cX11_init 97 = .ok (.sipush 1080, 3) := by decide +kernel
theorem dX11_init_100 : decode cX11_init 100 = .ok (.newarray .int, 2) := by decide +kernel
theorem dX11_init_102 : decode cX11_init 102 = .ok (.putfield 43, 3) := by decide +kernel
theorem dX11_init_105 : decode cX11_init 105 = .ok (.aload_n 0, 1) := by decide +kernel
theorem dX11_init_106 : decode cX11_init 106 = .ok (.iconst (-1), 1) := by decide +kernel
theorem dX11_init_107 : decode cX11_init 107 = .ok (.putfield 46, 3) := by decide +kernel
theorem dX11_init_110 : decode cX11_init 110 = .ok (.aload_n 0, 1) := by decide +kernel
theorem dX11_init_111 : decode cX11_init 111 = .ok (.iconst (-1), 1) := by decide +kernel
theorem dX11_init_112 : decode cX11_init 112 = .ok (.putfield 50, 3) := by decide +kernel
theorem dX11_init_115 : decode cX11_init 115 = .ok (.aload_n 0, 1) := by decide +kernel
theorem dX11_init_116 : decode cX11_init 116 = .ok (.bipush 120, 2) := by decide +kernel
theorem dX11_init_118 : decode cX11_init 118 = .ok (.newarray .int, 2) := by decide +kernel
theorem dX11_init_120 : decode cX11_init 120 = .ok (.putfield 53, 3) := by decide +kernel
theorem dX11_init_123 : decode cX11_init 123 = .ok (.aload_n 0, 1) := by decide +kernel
theorem dX11_init_124 : decode cX11_init 124 = .ok (.iconst 2, 1) := by decide +kernel
theorem dX11_init_125 : decode cX11_init 125 = .ok (.newarray .int, 2) := by decide +kernel
theorem dX11_init_127 : decode cX11_init 127 = .ok (.putfield 56, 3) := by decide +kernel
theorem dX11_init_130 : decode cX11_init 130 = .ok (.aload_n 0, 1) := by decide +kernel
theorem dX11_init_131 : decode cX11_init 131 = .ok (.sipush 500, 3) := by decide +kernel
theorem dX11_init_134 : decode cX11_init 134 = .ok (.newarray .int, 2) := by decide +kernel
theorem dX11_init_136 : decode cX11_init 136 = .ok (.putfield 59, 3) := by decide +kernel
theorem dX11_init_139 : decode cX11_init 139 = .ok (.aload_n 0, 1) := by decide +kernel
theorem dX11_init_140 : decode cX11_init 140 = .ok (.sipush 500, 3) := by decide +kernel
theorem dX11_init_143 : decode cX11_init 143 = .ok (.newarray .int, 2) := by decide +kernel
theorem dX11_init_145 : decode cX11_init 145 = .ok (.putfield 62, 3) := by decide +kernel
theorem dX11_init_148 : decode cX11_init 148 = .ok (.aload_n 0, 1) := by decide +kernel
theorem dX11_init_149 : decode cX11_init 149 = .ok (.sipush 500, 3) := by decide +kernel
theorem dX11_init_152 : decode cX11_init 152 = .ok (.newarray .int, 2) := by decide +kernel
theorem dX11_init_154 : decode cX11_init 154 = .ok (.putfield 65, 3) := by decide +kernel
theorem dX11_init_157 : decode cX11_init 157 = .ok (.aload_n 0, 1) := by decide +kernel
theorem dX11_init_158 : decode cX11_init 158 = .ok (.sipush 500, 3) := by decide +kernel
theorem dX11_init_161 : decode cX11_init 161 = .ok (.newarray .int, 2) := by decide +kernel
theorem dX11_init_163 : decode cX11_init 163 = .ok (.putfield 68, 3) := by decide +kernel
theorem dX11_init_166 : decode cX11_init 166 = .ok (.aload_n 0, 1) := by decide +kernel
theorem dX11_init_167 : decode cX11_init 167 = .ok (.sipush 500, 3) := by decide +kernel
theorem dX11_init_170 : decode cX11_init 170 = .ok (.newarray .int, 2) := by decide +kernel
theorem dX11_init_172 : decode cX11_init 172 = .ok (.putfield 71, 3) := by decide +kernel
theorem dX11_init_175 : decode cX11_init 175 = .ok (.aload_n 0, 1) := by decide +kernel
theorem dX11_init_176 : decode cX11_init 176 = .ok (.sipush 6000, 3) := by decide +kernel
theorem dX11_init_179 : decode cX11_init 179 = .ok (.newarray .int, 2) := by decide +kernel
theorem dX11_init_181 : decode cX11_init 181 = .ok (.putfield 74, 3) := by decide +kernel
theorem dX11_init_184 : decode cX11_init 184 = .ok (.aload_n 0, 1) := by decide +kernel
theorem dX11_init_185 : decode cX11_init 185 = .ok (.sipush 500, 3) := by decide +kernel
theorem dX11_init_188 : decode cX11_init 188 = .ok (.newarray .int, 2) := by decide +kernel
theorem dX11_init_190 : decode cX11_init 190 = .ok (.putfield 77, 3) := by decide +kernel
theorem dX11_init_193 : decode cX11_init 193 = .ok (.aload_n 0, 1) := by decide +kernel
theorem dX11_init_194 : decode cX11_init 194 = .ok (.sipush 500, 3) := by decide +kernel
theorem dX11_init_197 : decode cX11_init 197 = .ok (.newarray .int, 2) := by decide +kernel
theorem dX11_init_199 : decode cX11_init 199 = .ok (.putfield 80, 3) := by decide +kernel
theorem dX11_init_202 : decode cX11_init 202 = .ok (.aload_n 0, 1) := by decide +kernel
theorem dX11_init_203 : decode cX11_init 203 = .ok (.sipush 500, 3) := by decide +kernel
theorem dX11_init_206 : decode cX11_init 206 = .ok (.newarray .int, 2) := by decide +kernel
theorem dX11_init_208 : decode cX11_init 208 = .ok (.putfield 83, 3) := by decide +kernel
theorem dX11_init_211 : decode cX11_init 211 = .ok (.aload_n 0, 1) := by decide +kernel
theorem dX11_init_212 : decode cX11_init 212 = .ok (.sipush 6000, 3) := by decide +kernel
theorem dX11_init_215 : decode cX11_init 215 = .ok (.newarray .int, 2) := by decide +kernel
theorem dX11_init_217 : decode cX11_init 217 = .ok (.putfield 86, 3) := by decide +kernel
theorem dX11_init_220 : decode cX11_init 220 = .ok (.aload_n 0, 1) := by decide +kernel
theorem dX11_init_221 : decode cX11_init 221 = .ok (.sipush 500, 3) := by decide +kernel
theorem dX11_init_224 : decode cX11_init 224 = .ok (.newarray .int, 2) := by decide +kernel
theorem dX11_init_226 : decode cX11_init 226 = .ok (.putfield 89, 3) := by decide +kernel
theorem dX11_init_229 : decode cX11_init 229 = .ok (.aload_n 0, 1) := by decide +kernel
theorem dX11_init_230 : decode cX11_init 230 = .ok (.sipush 30000, 3) := by decide +kernel
theorem dX11_init_233 : decode cX11_init 233 = .ok (.newarray .int, 2) := by decide +kernel
theorem dX11_init_235 : decode cX11_init 235 = .ok (.putfield 92, 3) := by decide +kernel
theorem dX11_init_238 : decode cX11_init 238 = .ok (.aload_n 0, 1) := by decide +kernel
theorem dX11_init_239 : decode cX11_init 239 = .ok (.sipush 500, 3) := by decide +kernel
theorem dX11_init_242 : decode cX11_init 242 = .ok (.newarray .int, 2) := by decide +kernel
theorem dX11_init_244 : decode cX11_init 244 = .ok (.putfield 95, 3) := by decide +kernel
theorem dX11_init_247 : decode cX11_init 247 = .ok (.aload_n 0, 1) := by decide +kernel
theorem dX11_init_248 : decode cX11_init 248 = .ok (.ldc 98, 2) := by decide +kernel
theorem dX11_init_250 : decode cX11_init 250 = .ok (.newarray .int, 2) := by decide +kernel
theorem dX11_init_252 : decode cX11_init 252 = .ok (.putfield 99, 3) := by decide +kernel
theorem dX11_init_255 : decode cX11_init 255 = .ok (.aload_n 0, 1) := by decide +kernel
theorem dX11_init_256 : decode cX11_init 256 = .ok (.sipush 500, 3) := by decide +kernel
theorem dX11_init_259 : decode cX11_init 259 = .ok (.newarray .boolean, 2) := by decide +kernel
theorem dX11_init_261 : decode cX11_init 261 = .ok (.putfield 102, 3) := by decide +kernel
theorem dX11_init_264 : decode cX11_init 264 = .ok (.aload_n 0, 1) := by decide +kernel
theorem dX11_init_265 : decode cX11_init 265 = .ok (.bipush 6, 2) := by decide +kernel
theorem dX11_init_267 : decode cX11_init 267 = .ok (.newarray .int, 2) := by decide +kernel
theorem dX11_init_269 : decode cX11_init 269 = .ok (.putfield 106, 3) := by decide +kernel
theorem dX11_init_272 : decode cX11_init 272 = .ok (.aload_n 0, 1) := by decide +kernel
theorem dX11_init_273 : decode cX11_init 273 = .ok (.bipush 6, 2) := by decide +kernel
theorem dX11_init_275 : decode cX11_init 275 = .ok (.newarray .int, 2) := by decide +kernel
theorem dX11_init_277 : decode cX11_init 277 = .ok (.putfield 109, 3) := by decide +kernel
theorem dX11_init_280 : decode cX11_init 280 = .ok (.aload_n 0, 1) := by decide +kernel
theorem dX11_init_281 : decode cX11_init 281 = .ok (.bipush 6, 2) := by decide +kernel
theorem dX11_init_283 : decode cX11_init 283 = .ok (.newarray .int, 2) := by decide +kernel
theorem dX11_init_285 : decode cX11_init 285 = .ok (.putfield 112, 3) := by decide +kernel
theorem dX11_init_288 : decode cX11_init 288 = .ok (.aload_n 0, 1) := by decide +kernel
theorem dX11_init_289 : decode cX11_init 289 = .ok (.bipush 6, 2) := by decide +kernel
theorem dX11_init_291 : decode cX11_init 291 = .ok (.newarray .boolean, 2) := by decide +kernel
theorem dX11_init_293 : decode cX11_init 293 = .ok (.putfield 115, 3) := by decide +kernel
theorem dX11_init_296 : decode cX11_init 296 = .ok (.aload_n 0, 1) := by decide +kernel
theorem dX11_init_297 : decode cX11_init 297 = .ok (.bipush 30, 2) := by decide +kernel
theorem dX11_init_299 : decode cX11_init 299 = .ok (.newarray .int, 2) := by decide +kernel
theorem dX11_init_301 : decode cX11_init 301 = .ok (.putfield 118, 3) := by decide +kernel
theorem dX11_init_304 : decode cX11_init 304 = .ok (.aload_n 0, 1) := by decide +kernel
theorem dX11_init_305 : decode cX11_init 305 = .ok (.bipush 30, 2) := by decide +kernel
theorem dX11_init_307 : decode cX11_init 307 = .ok (.newarray .int, 2) := by decide +kernel
theorem dX11_init_309 : decode cX11_init 309 = .ok (.putfield 121, 3) := by decide +kernel
theorem dX11_init_312 : decode cX11_init 312 = .ok (.aload_n 0, 1) := by decide +kernel
theorem dX11_init_313 : decode cX11_init 313 = .ok (.bipush 30, 2) := by decide +kernel
theorem dX11_init_315 : decode cX11_init 315 = .ok (.newarray .int, 2) := by decide +kernel
theorem dX11_init_317 : decode cX11_init 317 = .ok (.putfield 124, 3) := by decide +kernel
theorem dX11_init_320 : decode cX11_init 320 = .ok (.aload_n 0, 1) := by decide +kernel
theorem dX11_init_321 : decode cX11_init 321 = .ok (.sipush 1800, 3) := by decide +kernel
theorem dX11_init_324 : decode cX11_init 324 = .ok (.newarray .int, 2) := by decide +kernel
theorem dX11_init_326 : decode cX11_init 326 = .ok (.putfield 127, 3) := by decide +kernel
theorem dX11_init_329 : decode cX11_init 329 = .ok (.iconst 0, 1) := by decide +kernel
theorem dX11_init_330 : decode cX11_init 330 = .ok (.istore_n 1, 1) := by decide +kernel
theorem dX11_init_331 : decode cX11_init 331 = .ok (.iload_n 1, 1) := by decide +kernel
theorem dX11_init_332 : decode cX11_init 332 = .ok (.bipush 24, 2) := by decide +kernel
theorem dX11_init_334 : decode cX11_init 334 = .ok (.if_icmp .ge 16, 3) := by decide +kernel
theorem dX11_init_337 : decode cX11_init 337 = .ok (.aload_n 0, 1) := by decide +kernel
theorem dX11_init_338 : decode cX11_init 338 = .ok (.getfield 7, 3) := by decide +kernel
theorem dX11_init_341 : decode cX11_init 341 = .ok (.iload_n 1, 1) := by decide +kernel
theorem dX11_init_342 : decode cX11_init 342 = .ok (.iconst (-1), 1) := by decide +kernel
theorem dX11_init_343 : decode cX11_init 343 = .ok (.iastore, 1) := by decide +kernel
theorem dX11_init_344 : decode cX11_init 344 = .ok (.iinc 1 1, 3) := by decide +kernel
theorem dX11_init_347 : decode cX11_init 347 = .ok (.goto (-16), 3) := by decide +kernel
theorem dX11_init_350 : decode cX11_init 350 = .ok (.return_, 1) := by decide +kernel
theorem dX11_isIn_0 : decode cX11_isIn 0 = .ok (.iload_n 0, 1) := by decide +kernel
theorem dX11_isIn_1 : decode cX11_isIn 1 = .ok (.iload_n 1, 1) := by decide +kernel
theorem dX11_isIn_2 : decode cX11_isIn 2 = .ok (.if_icmp .lt 12, 3) := by decide +kernel
theorem dX11_isIn_5 : decode cX11_isIn 5 = .ok (.iload_n 0, 1) := by decide +kernel
theorem dX11_isIn_6 : decode cX11_isIn 6 = .ok (.iload_n 2, 1) := by decide +kernel
theorem dX11_isIn_7 : decode cX11_isIn 7 = .ok (.if_icmp .gt 7, 3) := by decide +kernel
theorem dX11_isIn_10 : decode cX11_isIn 10 = .ok (.iconst 1, 1) := by decide +kernel
theorem dX11_isIn_11 : decode cX11_isIn 11 = .ok (.goto 4, 3) := by decide +kernel
theorem dX11_isIn_14 : decode cX11_isIn 14 = .ok (.iconst 0, 1) := by decide +kernel
theorem dX11_isIn_15 : decode cX11_isIn 15 = .ok (.ireturn, 1) := by decide +kernel
theorem dX11_isThing_0 : decode cX11_isThing 0 = .ok (.iload_n 1, 1) := by decide +kernel
theorem dX11_isThing_1 : decode cX11_isThing 1 = .ok (.iconst 0, 1) := by decide +kernel
theorem dX11_isThing_2 : decode cX11_isThing 2 = .ok (.bipush 23, 2) := by decide +kernel
theorem dX11_isThing_4 : decode cX11_isThing 4 = .ok (.invokestatic 130, 3) := by decide +kernel
theorem dX11_isThing_7 : decode cX11_isThing 7 = .ok (.ifCond .eq 16, 3) := by decide +kernel
theorem dX11_isThing_10 : decode cX11_isThing 10 = .ok (.aload_n 0, 1) := by decide +kernel
theorem dX11_isThing_11 : decode cX11_isThing 11 = .ok (.getfield 7, 3) := by decide +kernel
theorem dX11_isThing_14 : decode cX11_isThing 14 = .ok (.iload_n 1, 1) := by decide +kernel
theorem dX11_isThing_15 : decode cX11_isThing 15 = .ok (.iaload, 1) := by decide +kernel
theorem dX11_isThing_16 : decode cX11_isThing 16 = .ok (.ifCond .lt 7, 3) := by decide +kernel
theorem dX11_isThing_19 : decode cX11_isThing 19 = .ok (.iconst 1, 1) := by decide +kernel
theorem dX11_isThing_20 : decode cX11_isThing 20 = .ok (.goto 4, 3) := by decide +kernel
theorem dX11_isThing_23 : decode cX11_isThing 23 = .ok (.iconst 0, 1) := by decide +kernel
theorem dX11_isThing_24 : decode cX11_isThing 24 = .ok (.ireturn, 1) := by decide +kernel
theorem dX11_four_0 : decode cX11_four 0 = .ok (.bipush 24, 2) := by decide +kernel
theorem dX11_four_2 : decode cX11_four 2 = .ok (.istore_n 2, 1) := by decide +kernel
theorem dX11_four_3 : decode cX11_four 3 = .ok (.iload_n 2, 1) := by decide +kernel
theorem dX11_four_4 : decode cX11_four 4 = .ok (.ifCond .lt 35, 3) := by decide +kernel
theorem dX11_four_7 : decode cX11_four 7 = .ok (.aload_n 0, 1) := by decide +kernel
theorem dX11_four_8 : decode cX11_four 8 = .ok (.getfield 53, 3) := by decide +kernel
theorem dX11_four_11 : decode cX11_four 11 = .ok (.aload_n 0, 1) := by decide +kernel
theorem dX11_four_12 : decode cX11_four 12 = .ok (.getfield 134, 3) := by decide +kernel
theorem dX11_four_15 : decode cX11_four 15 = .ok (.iload_n 1, 1) := by decide +kernel
theorem dX11_four_16 : decode cX11_four 16 = .ok (.iload_n 2, 1) := by decide +kernel
theorem dX11_four_17 : decode cX11_four 17 = .ok (.ishr, 1) := by decide +kernel
theorem dX11_four_18 : decode cX11_four 18 = .ok (.sipush 255, 3) := by decide +kernel
theorem dX11_four_21 : decode cX11_four 21 = .ok (.iand, 1) := by decide +kernel
theorem dX11_four_22 : decode cX11_four 22 = .ok (.iastore, 1) := by decide +kernel
theorem dX11_four_23 : decode cX11_four 23 = .ok (.aload_n 0, 1) := by decide +kernel
theorem dX11_four_24 : decode cX11_four 24 = .ok (.dup, 1) := by decide +kernel
theorem dX11_four_25 : decode cX11_four 25 = .ok (.getfield 134, 3) := by decide +kernel
theorem dX11_four_28 : decode cX11_four 28 = .ok (.iconst 1, 1) := by decide +kernel
theorem dX11_four_29 : decode cX11_four 29 = .ok (.iadd, 1) := by decide +kernel
theorem dX11_four_30 : decode cX11_four 30 = .ok (.putfield 134, 3) := by decide +kernel
theorem dX11_four_33 : decode cX11_four 33 = .ok (.iinc 2 (-8), 3) := by decide +kernel
theorem dX11_four_36 : decode cX11_four 36 = .ok (.goto (-33), 3) := by decide +kernel
theorem dX11_four_39 : decode cX11_four 39 = .ok (.return_, 1) := by decide +kernel
theorem dX11_feed_0 : decode cX11_feed 0 = .ok (.aload_n 0, 1) := by decide +kernel
theorem dX11_feed_1 : decode cX11_feed 1 = .ok (.getfield 134, 3) := by decide +kernel
theorem dX11_feed_4 : decode cX11_feed 4 = .ok (.bipush 20, 2) := by decide +kernel
theorem dX11_feed_6 : decode cX11_feed 6 = .ok (.iadd, 1) := by decide +kernel
theorem dX11_feed_7 : decode cX11_feed 7 = .ok (.bipush 120, 2) := by decide +kernel
theorem dX11_feed_9 : decode cX11_feed 9 = .ok (.if_icmp .le 5, 3) := by decide +kernel
theorem dX11_feed_12 : decode cX11_feed 12 = .ok (.iconst (-1), 1) := by decide +kernel
theorem dX11_feed_13 : decode cX11_feed 13 = .ok (.ireturn, 1) := by decide +kernel
theorem dX11_feed_14 : decode cX11_feed 14 = .ok (.aload_n 0, 1) := by decide +kernel
theorem dX11_feed_15 : decode cX11_feed 15 = .ok (.iload_n 1, 1) := by decide +kernel
theorem dX11_feed_16 : decode cX11_feed 16 = .ok (.invokevirtual 137, 3) := by decide +kernel
theorem dX11_feed_19 : decode cX11_feed 19 = .ok (.aload_n 0, 1) := by decide +kernel
theorem dX11_feed_20 : decode cX11_feed 20 = .ok (.iload_n 2, 1) := by decide +kernel
theorem dX11_feed_21 : decode cX11_feed 21 = .ok (.invokevirtual 137, 3) := by decide +kernel
theorem dX11_feed_24 : decode cX11_feed 24 = .ok (.aload_n 0, 1) := by decide +kernel
theorem dX11_feed_25 : decode cX11_feed 25 = .ok (.iload_n 3, 1) := by decide +kernel
theorem dX11_feed_26 : decode cX11_feed 26 = .ok (.invokevirtual 137, 3) := by decide +kernel
theorem dX11_feed_29 : decode cX11_feed 29 = .ok (.aload_n 0, 1) := by decide +kernel
theorem dX11_feed_30 : decode cX11_feed 30 = .ok (.iload 4, 2) := by decide +kernel
theorem dX11_feed_32 : decode cX11_feed 32 = .ok (.invokevirtual 137, 3) := by decide +kernel
theorem dX11_feed_35 : decode cX11_feed 35 = .ok (.aload_n 0, 1) := by decide +kernel
theorem dX11_feed_36 : decode cX11_feed 36 = .ok (.iload 5, 2) := by decide +kernel
theorem dX11_feed_38 : decode cX11_feed 38 = .ok (.invokevirtual 137, 3) := by decide +kernel
theorem dX11_feed_41 : decode cX11_feed 41 = .ok (.aload_n 0, 1) := by decide +kernel
theorem dX11_feed_42 : decode cX11_feed 42 = .ok (.getfield 134, 3) := by decide +kernel
theorem dX11_feed_45 : decode cX11_feed 45 = .ok (.ireturn, 1) := by decide +kernel
theorem dX11_end_0 : decode cX11_end 0 = .ok (.iload_n 1, 1) := by decide +kernel
theorem dX11_end_1 : decode cX11_end 1 = .ok (.iconst 0, 1) := by decide +kernel
theorem dX11_end_2 : decode cX11_end 2 = .ok (.aload_n 0, 1) := by decide +kernel
theorem dX11_end_3 : decode cX11_end 3 = .ok (.getfield 134, 3) := by decide +kernel
theorem dX11_end_6 : decode cX11_end 6 = .ok (.invokestatic 130, 3) := by decide +kernel
theorem dX11_end_9 : decode cX11_end 9 = .ok (.ifCond .ne 5, 3) := by decide +kernel
theorem dX11_end_12 : decode cX11_end 12 = .ok (.iconst (-1), 1) := by decide +kernel
theorem dX11_end_13 : decode cX11_end 13 = .ok (.ireturn, 1) := by decide +kernel
theorem dX11_end_14 : decode cX11_end 14 = .ok (.aload_n 0, 1) := by decide +kernel
theorem dX11_end_15 : decode cX11_end 15 = .ok (.iload_n 1, 1) := by decide +kernel
theorem dX11_end_16 : decode cX11_end 16 = .ok (.putfield 134, 3) := by decide +kernel
theorem dX11_end_19 : decode cX11_end 19 = .ok (.iload_n 1, 1) := by decide +kernel
theorem dX11_end_20 : decode cX11_end 20 = .ok (.ireturn, 1) := by decide +kernel
theorem dX11_isName_0 : decode cX11_isName 0 = .ok (.aload_n 0, 1) := by decide +kernel
theorem dX11_isName_1 : decode cX11_isName 1 = .ok (.getfield 134, 3) := by decide +kernel
theorem dX11_isName_4 : decode cX11_isName 4 = .ok (.iconst 1, 1) := by decide +kernel
theorem dX11_isName_5 : decode cX11_isName 5 = .ok (.bipush 6, 2) := by decide +kernel
theorem dX11_isName_7 : decode cX11_isName 7 = .ok (.invokestatic 130, 3) := by decide +kernel
theorem dX11_isName_10 : decode cX11_isName 10 = .ok (.ifCond .ne 5, 3) := by decide +kernel
theorem dX11_isName_13 : decode cX11_isName 13 = .ok (.iconst 0, 1) := by decide +kernel
theorem dX11_isName_14 : decode cX11_isName 14 = .ok (.ireturn, 1) := by decide +kernel
theorem dX11_isName_15 : decode cX11_isName 15 = .ok (.iconst 0, 1) := by decide +kernel
theorem dX11_isName_16 : decode cX11_isName 16 = .ok (.istore_n 1, 1) := by decide +kernel
theorem dX11_isName_17 : decode cX11_isName 17 = .ok (.iload_n 1, 1) := by decide +kernel
theorem dX11_isName_18 : decode cX11_isName 18 = .ok (.aload_n 0, 1) := by decide +kernel
theorem dX11_isName_19 : decode cX11_isName 19 = .ok (.getfield 134, 3) := by decide +kernel
theorem dX11_isName_22 : decode cX11_isName 22 = .ok (.if_icmp .ge 43, 3) := by decide +kernel
theorem dX11_isName_25 : decode cX11_isName 25 = .ok (.aload_n 0, 1) := by decide +kernel
theorem dX11_isName_26 : decode cX11_isName 26 = .ok (.getfield 53, 3) := by decide +kernel
theorem dX11_isName_29 : decode cX11_isName 29 = .ok (.iload_n 1, 1) := by decide +kernel
theorem dX11_isName_30 : decode cX11_isName 30 = .ok (.iaload, 1) := by decide +kernel
theorem dX11_isName_31 : decode cX11_isName 31 = .ok (.bipush 97, 2) := by decide +kernel
theorem dX11_isName_33 : decode cX11_isName 33 = .ok (.bipush 122, 2) := by decide +kernel
theorem dX11_isName_35 : decode cX11_isName 35 = .ok (.invokestatic 130, 3) := by decide +kernel
theorem dX11_isName_38 : decode cX11_isName 38 = .ok (.ifCond .ne 21, 3) := by decide +kernel
theorem dX11_isName_41 : decode cX11_isName 41 = .ok (.aload_n 0, 1) := by decide +kernel
theorem dX11_isName_42 : decode cX11_isName 42 = .ok (.getfield 53, 3) := by decide +kernel
theorem dX11_isName_45 : decode cX11_isName 45 = .ok (.iload_n 1, 1) := by decide +kernel
theorem dX11_isName_46 : decode cX11_isName 46 = .ok (.iaload, 1) := by decide +kernel
theorem dX11_isName_47 : decode cX11_isName 47 = .ok (.bipush 65, 2) := by decide +kernel
theorem dX11_isName_49 : decode cX11_isName 49 = .ok (.bipush 90, 2) := by decide +kernel
theorem dX11_isName_51 : decode cX11_isName 51 = .ok (.invokestatic 130, 3) := by decide +kernel
theorem dX11_isName_54 : decode cX11_isName 54 = .ok (.ifCond .ne 5, 3) := by decide +kernel
theorem dX11_isName_57 : decode cX11_isName 57 = .ok (.iconst 0, 1) := by decide +kernel
theorem dX11_isName_58 : decode cX11_isName 58 = .ok (.ireturn, 1) := by decide +kernel
theorem dX11_isName_59 : decode cX11_isName 59 = .ok (.iinc 1 1, 3) := by decide +kernel
theorem dX11_isName_62 : decode cX11_isName 62 = .ok (.goto (-45), 3) := by decide +kernel
theorem dX11_isName_65 : decode cX11_isName 65 = .ok (.iconst 1, 1) := by decide +kernel
theorem dX11_isName_66 : decode cX11_isName 66 = .ok (.ireturn, 1) := by decide +kernel
theorem dX11_depthOf_0 : decode cX11_depthOf 0 = .ok (.iconst 1, 1) := by decide +kernel
theorem dX11_depthOf_1 : decode cX11_depthOf 1 = .ok (.istore_n 2, 1) := by decide +kernel
theorem dX11_depthOf_2 : decode cX11_depthOf 2 = .ok (.aload_n 0, 1) := by decide +kernel
theorem dX11_depthOf_3 : decode cX11_depthOf 3 = .ok (.getfield 16, 3) := by decide +kernel
theorem dX11_depthOf_6 : decode cX11_depthOf 6 = .ok (.iload_n 1, 1) := by decide +kernel
theorem dX11_depthOf_7 : decode cX11_depthOf 7 = .ok (.iaload, 1) := by decide +kernel
theorem dX11_depthOf_8 : decode cX11_depthOf 8 = .ok (.istore_n 3, 1) := by decide +kernel
theorem dX11_depthOf_9 : decode cX11_depthOf 9 = .ok (.iload_n 3, 1) := by decide +kernel
theorem dX11_depthOf_10 : decode cX11_depthOf 10 = .ok (.ifCond .lt 16, 3) := by decide +kernel
theorem dX11_depthOf_13 : decode cX11_depthOf 13 = .ok (.iinc 2 1, 3) := by decide +kernel
theorem dX11_depthOf_16 : decode cX11_depthOf 16 = .ok (.aload_n 0, 1) := by decide +kernel
theorem dX11_depthOf_17 : decode cX11_depthOf 17 = .ok (.getfield 16, 3) := by decide +kernel
theorem dX11_depthOf_20 : decode cX11_depthOf 20 = .ok (.iload_n 3, 1) := by decide +kernel
theorem dX11_depthOf_21 : decode cX11_depthOf 21 = .ok (.iaload, 1) := by decide +kernel
theorem dX11_depthOf_22 : decode cX11_depthOf 22 = .ok (.istore_n 3, 1) := by decide +kernel
theorem dX11_depthOf_23 : decode cX11_depthOf 23 = .ok (.goto (-14), 3) := by decide +kernel
theorem dX11_depthOf_26 : decode cX11_depthOf 26 = .ok (.iload_n 2, 1) := by decide +kernel
theorem dX11_depthOf_27 : decode cX11_depthOf 27 = .ok (.ireturn, 1) := by decide +kernel
theorem dX11_many_0 : decode cX11_many 0 = .ok (.iconst 0, 1) := by decide +kernel
theorem dX11_many_1 : decode cX11_many 1 = .ok (.istore_n 2, 1) := by decide +kernel
theorem dX11_many_2 : decode cX11_many 2 = .ok (.iconst 0, 1) := by decide +kernel
theorem dX11_many_3 : decode cX11_many 3 = .ok (.istore_n 3, 1) := by decide +kernel
theorem dX11_many_4 : decode cX11_many 4 = .ok (.iload_n 3, 1) := by decide +kernel
theorem dX11_many_5 : decode cX11_many 5 = .ok (.bipush 24, 2) := by decide +kernel
theorem dX11_many_7 : decode cX11_many 7 = .ok (.if_icmp .ge 36, 3) := by decide +kernel
theorem dX11_many_10 : decode cX11_many 10 = .ok (.iload_n 2, 1) := by decide +kernel
theorem dX11_many_11 : decode cX11_many 11 = .ok (.aload_n 0, 1) := by decide +kernel
theorem dX11_many_12 : decode cX11_many 12 = .ok (.getfield 7, 3) := by decide +kernel
theorem dX11_many_15 : decode cX11_many 15 = .ok (.iload_n 3, 1) := by decide +kernel
theorem dX11_many_16 : decode cX11_many 16 = .ok (.iaload, 1) := by decide +kernel
theorem dX11_many_17 : decode cX11_many 17 = .ok (.ifCond .lt 17, 3) := by decide +kernel
theorem dX11_many_20 : decode cX11_many 20 = .ok (.aload_n 0, 1) := by decide +kernel
theorem dX11_many_21 : decode cX11_many 21 = .ok (.getfield 16, 3) := by decide +kernel
theorem dX11_many_24 : decode cX11_many 24 = .ok (.iload_n 3, 1) := by decide +kernel
theorem dX11_many_25 : decode cX11_many 25 = .ok (.iaload, 1) := by decide +kernel
theorem dX11_many_26 : decode cX11_many 26 = .ok (.iload_n 1, 1) := by decide +kernel
theorem dX11_many_27 : decode cX11_many 27 = .ok (.if_icmp .ne 7, 3) := by decide +kernel
theorem dX11_many_30 : decode cX11_many 30 = .ok (.iconst 1, 1) := by decide +kernel
theorem dX11_many_31 : decode cX11_many 31 = .ok (.goto 4, 3) := by decide +kernel
theorem dX11_many_34 : decode cX11_many 34 = .ok (.iconst 0, 1) := by decide +kernel
theorem dX11_many_35 : decode cX11_many 35 = .ok (.iadd, 1) := by decide +kernel
theorem dX11_many_36 : decode cX11_many 36 = .ok (.istore_n 2, 1) := by decide +kernel
theorem dX11_many_37 : decode cX11_many 37 = .ok (.iinc 3 1, 3) := by decide +kernel
theorem dX11_many_40 : decode cX11_many 40 = .ok (.goto (-36), 3) := by decide +kernel
theorem dX11_many_43 : decode cX11_many 43 = .ok (.iload_n 2, 1) := by decide +kernel
theorem dX11_many_44 : decode cX11_many 44 = .ok (.ireturn, 1) := by decide +kernel
theorem dX11_takeName_0 : decode cX11_takeName 0 = .ok (.aload_n 0, 1) := by decide +kernel
theorem dX11_takeName_1 : decode cX11_takeName 1 = .ok (.getfield 28, 3) := by decide +kernel
theorem dX11_takeName_4 : decode cX11_takeName 4 = .ok (.iload_n 1, 1) := by decide +kernel
theorem dX11_takeName_5 : decode cX11_takeName 5 = .ok (.aload_n 0, 1) := by decide +kernel
theorem dX11_takeName_6 : decode cX11_takeName 6 = .ok (.getfield 134, 3) := by decide +kernel
theorem dX11_takeName_9 : decode cX11_takeName 9 = .ok (.iastore, 1) := by decide +kernel
theorem dX11_takeName_10 : decode cX11_takeName 10 = .ok (.iconst 0, 1) := by decide +kernel
theorem dX11_takeName_11 : decode cX11_takeName 11 = .ok (.istore_n 2, 1) := by decide +kernel
theorem dX11_takeName_12 : decode cX11_takeName 12 = .ok (.iload_n 2, 1) := by decide +kernel
theorem dX11_takeName_13 : decode cX11_takeName 13 = .ok (.aload_n 0, 1) := by decide +kernel
theorem dX11_takeName_14 : decode cX11_takeName 14 = .ok (.getfield 134, 3) := by decide +kernel
theorem dX11_takeName_17 : decode cX11_takeName 17 = .ok (.if_icmp .ge 26, 3) := by decide +kernel
theorem dX11_takeName_20 : decode cX11_takeName 20 = .ok (.aload_n 0, 1) := by decide +kernel
theorem dX11_takeName_21 : decode cX11_takeName 21 = .ok (.getfield 25, 3) := by decide +kernel
theorem dX11_takeName_24 : decode cX11_takeName 24 = .ok (.bipush 6, 2) := by decide +kernel
theorem dX11_takeName_26 : decode cX11_takeName 26 = .ok (.iload_n 1, 1) := by decide +kernel
theorem dX11_takeName_27 : decode cX11_takeName 27 = .ok (.imul, 1) := by decide +kernel
theorem dX11_takeName_28 : decode cX11_takeName 28 = .ok (.iload_n 2, 1) := by decide +kernel
theorem dX11_takeName_29 : decode cX11_takeName 29 = .ok (.iadd, 1) := by decide +kernel
theorem dX11_takeName_30 : decode cX11_takeName 30 = .ok (.aload_n 0, 1) := by decide +kernel
theorem dX11_takeName_31 : decode cX11_takeName 31 = .ok (.getfield 53, 3) := by decide +kernel
theorem dX11_takeName_34 : decode cX11_takeName 34 = .ok (.iload_n 2, 1) := by decide +kernel
theorem dX11_takeName_35 : decode cX11_takeName 35 = .ok (.iaload, 1) := by decide +kernel
theorem dX11_takeName_36 : decode cX11_takeName 36 = .ok (.iastore, 1) := by decide +kernel
theorem dX11_takeName_37 : decode cX11_takeName 37 = .ok (.iinc 2 1, 3) := by decide +kernel
theorem dX11_takeName_40 : decode cX11_takeName 40 = .ok (.goto (-28), 3) := by decide +kernel
theorem dX11_takeName_43 : decode cX11_takeName 43 = .ok (.aload_n 0, 1) := by decide +kernel
theorem dX11_takeName_44 : decode cX11_takeName 44 = .ok (.iconst 0, 1) := by decide +kernel
theorem dX11_takeName_45 : decode cX11_takeName 45 = .ok (.putfield 134, 3) := by decide +kernel
theorem dX11_takeName_48 : decode cX11_takeName 48 = .ok (.return_, 1) := by decide +kernel
theorem dX11_thing_0 : decode cX11_thing 0 = .ok (.aload_n 0, 1) := by decide +kernel
theorem dX11_thing_1 : decode cX11_thing 1 = .ok (.invokevirtual 141, 3) := by decide +kernel
theorem dX11_thing_4 : decode cX11_thing 4 = .ok (.ifCond .eq 45, 3) := by decide +kernel
theorem dX11_thing_7 : decode cX11_thing 7 = .ok (.iload_n 1, 1) := by decide +kernel
theorem dX11_thing_8 : decode cX11_thing 8 = .ok (.iconst 0, 1) := by decide +kernel
theorem dX11_thing_9 : decode cX11_thing 9 = .ok (.bipush 7, 2) := by decide +kernel
theorem dX11_thing_11 : decode cX11_thing 11 = .ok (.invokestatic 130, 3) := by decide +kernel
theorem dX11_thing_14 : decode cX11_thing 14 = .ok (.ifCond .eq 35, 3) := by decide +kernel
theorem dX11_thing_17 : decode cX11_thing 17 = .ok (.iload_n 2, 1) := by decide +kernel
theorem dX11_thing_18 : decode cX11_thing 18 = .ok (.iconst (-1), 1) := by decide +kernel
theorem dX11_thing_19 : decode cX11_thing 19 = .ok (.if_icmp .eq 21, 3) := by decide +kernel
theorem dX11_thing_22 : decode cX11_thing 22 = .ok (.aload_n 0, 1) := by decide +kernel
theorem dX11_thing_23 : decode cX11_thing 23 = .ok (.iload_n 2, 1) := by decide +kernel
theorem dX11_thing_24 : decode cX11_thing 24 = .ok (.invokevirtual 145, 3) := by decide +kernel
theorem dX11_thing_27 : decode cX11_thing 27 = .ok (.ifCond .eq 22, 3) := by decide +kernel
theorem dX11_thing_30 : decode cX11_thing 30 = .ok (.aload_n 0, 1) := by decide +kernel
theorem dX11_thing_31 : decode cX11_thing 31 = .ok (.iload_n 2, 1) := by decide +kernel
theorem dX11_thing_32 : decode cX11_thing 32 = .ok (.invokevirtual 149, 3) := by decide +kernel
theorem dX11_thing_35 : decode cX11_thing 35 = .ok (.bipush 6, 2) := by decide +kernel
theorem dX11_thing_37 : decode cX11_thing 37 = .ok (.if_icmp .eq 12, 3) := by decide +kernel
theorem dX11_thing_40 : decode cX11_thing 40 = .ok (.aload_n 0, 1) := by decide +kernel
theorem dX11_thing_41 : decode cX11_thing 41 = .ok (.getfield 153, 3) := by decide +kernel
theorem dX11_thing_44 : decode cX11_thing 44 = .ok (.bipush 24, 2) := by decide +kernel
theorem dX11_thing_46 : decode cX11_thing 46 = .ok (.if_icmp .ne 5, 3) := by decide +kernel
theorem dX11_thing_49 : decode cX11_thing 49 = .ok (.iconst (-1), 1) := by decide +kernel
theorem dX11_thing_50 : decode cX11_thing 50 = .ok (.ireturn, 1) := by decide +kernel
theorem dX11_thing_51 : decode cX11_thing 51 = .ok (.iconst 0, 1) := by decide +kernel
theorem dX11_thing_52 : decode cX11_thing 52 = .ok (.istore_n 3, 1) := by decide +kernel
theorem dX11_thing_53 : decode cX11_thing 53 = .ok (.aload_n 0, 1) := by decide +kernel
theorem dX11_thing_54 : decode cX11_thing 54 = .ok (.getfield 7, 3) := by decide +kernel
theorem dX11_thing_57 : decode cX11_thing 57 = .ok (.iload_n 3, 1) := by decide +kernel
theorem dX11_thing_58 : decode cX11_thing 58 = .ok (.iaload, 1) := by decide +kernel
theorem dX11_thing_59 : decode cX11_thing 59 = .ok (.ifCond .lt 9, 3) := by decide +kernel
theorem dX11_thing_62 : decode cX11_thing 62 = .ok (.iinc 3 1, 3) := by decide +kernel
theorem dX11_thing_65 : decode cX11_thing 65 = .ok (.goto (-12), 3) := by decide +kernel
theorem dX11_thing_68 : decode cX11_thing 68 = .ok (.aload_n 0, 1) := by decide +kernel
theorem dX11_thing_69 : decode cX11_thing 69 = .ok (.getfield 19, 3) := by decide +kernel
theorem dX11_thing_72 : decode cX11_thing 72 = .ok (.iload_n 3, 1) := by decide +kernel
theorem dX11_thing_73 : decode cX11_thing 73 = .ok (.aload_n 0, 1) := by decide +kernel
theorem dX11_thing_74 : decode cX11_thing 74 = .ok (.iload_n 2, 1) := by decide +kernel
theorem dX11_thing_75 : decode cX11_thing 75 = .ok (.invokevirtual 156, 3) := by decide +kernel
theorem dX11_thing_78 : decode cX11_thing 78 = .ok (.iastore, 1) := by decide +kernel
theorem dX11_thing_79 : decode cX11_thing 79 = .ok (.aload_n 0, 1) := by decide +kernel
theorem dX11_thing_80 : decode cX11_thing 80 = .ok (.getfield 16, 3) := by decide +kernel
theorem dX11_thing_83 : decode cX11_thing 83 = .ok (.iload_n 3, 1) := by decide +kernel
theorem dX11_thing_84 : decode cX11_thing 84 = .ok (.iload_n 2, 1) := by decide +kernel
theorem dX11_thing_85 : decode cX11_thing 85 = .ok (.iastore, 1) := by decide +kernel
theorem dX11_thing_86 : decode cX11_thing 86 = .ok (.aload_n 0, 1) := by decide +kernel
theorem dX11_thing_87 : decode cX11_thing 87 = .ok (.getfield 13, 3) := by decide +kernel
theorem dX11_thing_90 : decode cX11_thing 90 = .ok (.iload_n 3, 1) := by decide +kernel
theorem dX11_thing_91 : decode cX11_thing 91 = .ok (.iload_n 1, 1) := by decide +kernel
theorem dX11_thing_92 : decode cX11_thing 92 = .ok (.iastore, 1) := by decide +kernel
theorem dX11_thing_93 : decode cX11_thing 93 = .ok (.iconst 0, 1) := by decide +kernel
theorem dX11_thing_94 : decode cX11_thing 94 = .ok (.istore 4, 2) := by decide +kernel
theorem dX11_thing_96 : decode cX11_thing 96 = .ok (.iload 4, 2) := by decide +kernel
theorem dX11_thing_98 : decode cX11_thing 98 = .ok (.iconst 4, 1) := by decide +kernel
theorem dX11_thing_99 : decode cX11_thing 99 = .ok (.if_icmp .ge 21, 3) := by decide +kernel
theorem dX11_thing_102 : decode cX11_thing 102 = .ok (.aload_n 0, 1) := by decide +kernel
theorem dX11_thing_103 : decode cX11_thing 103 = .ok (.getfield 22, 3) := by decide +kernel
theorem dX11_thing_106 : decode cX11_thing 106 = .ok (.iconst 4, 1) := by decide +kernel
theorem dX11_thing_107 : decode cX11_thing 107 = .ok (.iload_n 3, 1) := by decide +kernel
theorem dX11_thing_108 : decode cX11_thing 108 = .ok (.imul, 1) := by decide +kernel
theorem dX11_thing_109 : decode cX11_thing 109 = .ok (.iload 4, 2) := by decide +kernel
theorem dX11_thing_111 : decode cX11_thing 111 = .ok (.iadd, 1) := by decide +kernel
theorem dX11_thing_112 : decode cX11_thing 112 = .ok (.iconst 0, 1) := by decide +kernel
theorem dX11_thing_113 : decode cX11_thing 113 = .ok (.iastore, 1) := by decide +kernel
theorem dX11_thing_114 : decode cX11_thing 114 = .ok (.iinc 4 1, 3) := by decide +kernel
theorem dX11_thing_117 : decode cX11_thing 117 = .ok (.goto (-21), 3) := by decide +kernel
theorem dX11_thing_120 : decode cX11_thing 120 = .ok (.aload_n 0, 1) := by decide +kernel
theorem dX11_thing_121 : decode cX11_thing 121 = .ok (.getfield 7, 3) := by decide +kernel
theorem dX11_thing_124 : decode cX11_thing 124 = .ok (.iload_n 3, 1) := by decide +kernel
theorem dX11_thing_125 : decode cX11_thing 125 = .ok (.aload_n 0, 1) := by decide +kernel
theorem dX11_thing_126 : decode cX11_thing 126 = .ok (.getfield 159, 3) := by decide +kernel
theorem dX11_thing_129 : decode cX11_thing 129 = .ok (.iastore, 1) := by decide +kernel
theorem dX11_thing_130 : decode cX11_thing 130 = .ok (.aload_n 0, 1) := by decide +kernel
theorem dX11_thing_131 : decode cX11_thing 131 = .ok (.dup, 1) := by decide +kernel
theorem dX11_thing_132 : decode cX11_thing 132 = .ok (.getfield 159, 3) := by decide +kernel
theorem dX11_thing_135 : decode cX11_thing 135 = .ok (.iconst 1, 1) := by decide +kernel
theorem dX11_thing_136 : decode cX11_thing 136 = .ok (.iadd, 1) := by decide +kernel
theorem dX11_thing_137 : decode cX11_thing 137 = .ok (.putfield 159, 3) := by decide +kernel
theorem dX11_thing_140 : decode cX11_thing 140 = .ok (.aload_n 0, 1) := by decide +kernel
theorem dX11_thing_141 : decode cX11_thing 141 = .ok (.dup, 1) := by decide +kernel
theorem dX11_thing_142 : decode cX11_thing 142 = .ok (.getfield 153, 3) := by decide +kernel
theorem dX11_thing_145 : decode cX11_thing 145 = .ok (.iconst 1, 1) := by decide +kernel
theorem dX11_thing_146 : decode cX11_thing 146 = .ok (.iadd, 1) := by decide +kernel
theorem dX11_thing_147 : decode cX11_thing 147 = .ok (.putfield 153, 3) := by decide +kernel
theorem dX11_thing_150 : decode cX11_thing 150 = .ok (.aload_n 0, 1) := by decide +kernel
theorem dX11_thing_151 : decode cX11_thing 151 = .ok (.iload_n 3, 1) := by decide +kernel
theorem dX11_thing_152 : decode cX11_thing 152 = .ok (.invokevirtual 162, 3) := by decide +kernel
theorem dX11_thing_155 : decode cX11_thing 155 = .ok (.iload_n 3, 1) := by decide +kernel
theorem dX11_thing_156 : decode cX11_thing 156 = .ok (.ireturn, 1) := by decide +kernel
theorem dX11_number_0 : decode cX11_number 0 = .ok (.aload_n 0, 1) := by decide +kernel
theorem dX11_number_1 : decode cX11_number 1 = .ok (.iload_n 1, 1) := by decide +kernel
theorem dX11_number_2 : decode cX11_number 2 = .ok (.invokevirtual 145, 3) := by decide +kernel
theorem dX11_number_5 : decode cX11_number 5 = .ok (.ifCond .eq 22, 3) := by decide +kernel
theorem dX11_number_8 : decode cX11_number 8 = .ok (.iload_n 2, 1) := by decide +kernel
theorem dX11_number_9 : decode cX11_number 9 = .ok (.iconst 0, 1) := by decide +kernel
theorem dX11_number_10 : decode cX11_number 10 = .ok (.iconst 3, 1) := by decide +kernel
theorem dX11_number_11 : decode cX11_number 11 = .ok (.invokestatic 130, 3) := by decide +kernel
theorem dX11_number_14 : decode cX11_number 14 = .ok (.ifCond .eq 13, 3) := by decide +kernel
theorem dX11_number_17 : decode cX11_number 17 = .ok (.iload_n 3, 1) := by decide +kernel
theorem dX11_number_18 : decode cX11_number 18 = .ok (.iconst 0, 1) := by decide +kernel
theorem dX11_number_19 : decode cX11_number 19 = .ok (.ldc 165, 2) := by decide +kernel
theorem dX11_number_21 : decode cX11_number 21 = .ok (.invokestatic 130, 3) := by decide +kernel
theorem dX11_number_24 : decode cX11_number 24 = .ok (.ifCond .ne 5, 3) := by decide +kernel
theorem dX11_number_27 : decode cX11_number 27 = .ok (.iconst 0, 1) := by decide +kernel
theorem dX11_number_28 : decode cX11_number 28 = .ok (.ireturn, 1) := by decide +kernel
theorem dX11_number_29 : decode cX11_number 29 = .ok (.aload_n 0, 1) := by decide +kernel
theorem dX11_number_30 : decode cX11_number 30 = .ok (.getfield 22, 3) := by decide +kernel
theorem dX11_number_33 : decode cX11_number 33 = .ok (.iconst 4, 1) := by decide +kernel
theorem dX11_number_34 : decode cX11_number 34 = .ok (.iload_n 1, 1) := by decide +kernel
theorem dX11_number_35 : decode cX11_number 35 = .ok (.imul, 1) := by decide +kernel
theorem dX11_number_36 : decode cX11_number 36 = .ok (.iload_n 2, 1) := by decide +kernel
theorem dX11_number_37 : decode cX11_number 37 = .ok (.iadd, 1) := by decide +kernel
theorem dX11_number_38 : decode cX11_number 38 = .ok (.iload_n 3, 1) := by decide +kernel
theorem dX11_number_39 : decode cX11_number 39 = .ok (.iastore, 1) := by decide +kernel
theorem dX11_number_40 : decode cX11_number 40 = .ok (.iconst 1, 1) := by decide +kernel
theorem dX11_number_41 : decode cX11_number 41 = .ok (.ireturn, 1) := by decide +kernel
theorem dX11_name_0 : decode cX11_name 0 = .ok (.aload_n 0, 1) := by decide +kernel
theorem dX11_name_1 : decode cX11_name 1 = .ok (.iload_n 1, 1) := by decide +kernel
theorem dX11_name_2 : decode cX11_name 2 = .ok (.invokevirtual 145, 3) := by decide +kernel
theorem dX11_name_5 : decode cX11_name 5 = .ok (.ifCond .eq 10, 3) := by decide +kernel
theorem dX11_name_8 : decode cX11_name 8 = .ok (.aload_n 0, 1) := by decide +kernel
theorem dX11_name_9 : decode cX11_name 9 = .ok (.invokevirtual 141, 3) := by decide +kernel
theorem dX11_name_12 : decode cX11_name 12 = .ok (.ifCond .ne 5, 3) := by decide +kernel
theorem dX11_name_15 : decode cX11_name 15 = .ok (.iconst 0, 1) := by decide +kernel
theorem dX11_name_16 : decode cX11_name 16 = .ok (.ireturn, 1) := by decide +kernel
theorem dX11_name_17 : decode cX11_name 17 = .ok (.aload_n 0, 1) := by decide +kernel
theorem dX11_name_18 : decode cX11_name 18 = .ok (.iload_n 1, 1) := by decide +kernel
theorem dX11_name_19 : decode cX11_name 19 = .ok (.invokevirtual 162, 3) := by decide +kernel
theorem dX11_name_22 : decode cX11_name 22 = .ok (.iconst 1, 1) := by decide +kernel
theorem dX11_name_23 : decode cX11_name 23 = .ok (.ireturn, 1) := by decide +kernel
theorem dX11_move_0 : decode cX11_move 0 = .ok (.aload_n 0, 1) := by decide +kernel
theorem dX11_move_1 : decode cX11_move 1 = .ok (.iload_n 1, 1) := by decide +kernel
theorem dX11_move_2 : decode cX11_move 2 = .ok (.invokevirtual 145, 3) := by decide +kernel
theorem dX11_move_5 : decode cX11_move 5 = .ok (.ifCond .eq 23, 3) := by decide +kernel
theorem dX11_move_8 : decode cX11_move 8 = .ok (.iload_n 2, 1) := by decide +kernel
theorem dX11_move_9 : decode cX11_move 9 = .ok (.iconst 0, 1) := by decide +kernel
theorem dX11_move_10 : decode cX11_move 10 = .ok (.aload_n 0, 1) := by decide +kernel
theorem dX11_move_11 : decode cX11_move 11 = .ok (.aload_n 0, 1) := by decide +kernel
theorem dX11_move_12 : decode cX11_move 12 = .ok (.getfield 16, 3) := by decide +kernel
theorem dX11_move_15 : decode cX11_move 15 = .ok (.iload_n 1, 1) := by decide +kernel
theorem dX11_move_16 : decode cX11_move 16 = .ok (.iaload, 1) := by decide +kernel
theorem dX11_move_17 : decode cX11_move 17 = .ok (.invokevirtual 156, 3) := by decide +kernel
theorem dX11_move_20 : decode cX11_move 20 = .ok (.iconst 1, 1) := by decide +kernel
theorem dX11_move_21 : decode cX11_move 21 = .ok (.isub, 1) := by decide +kernel
theorem dX11_move_22 : decode cX11_move 22 = .ok (.invokestatic 130, 3) := by decide +kernel
theorem dX11_move_25 : decode cX11_move 25 = .ok (.ifCond .ne 5, 3) := by decide +kernel
theorem dX11_move_28 : decode cX11_move 28 = .ok (.iconst 0, 1) := by decide +kernel
theorem dX11_move_29 : decode cX11_move 29 = .ok (.ireturn, 1) := by decide +kernel
theorem dX11_move_30 : decode cX11_move 30 = .ok (.iconst 0, 1) := by decide +kernel
theorem dX11_move_31 : decode cX11_move 31 = .ok (.istore_n 3, 1) := by decide +kernel
theorem dX11_move_32 : decode cX11_move 32 = .ok (.iload_n 3, 1) := by decide +kernel
theorem dX11_move_33 : decode cX11_move 33 = .ok (.bipush 24, 2) := by decide +kernel
theorem dX11_move_35 : decode cX11_move 35 = .ok (.if_icmp .ge 86, 3) := by decide +kernel
theorem dX11_move_38 : decode cX11_move 38 = .ok (.aload_n 0, 1) := by decide +kernel
theorem dX11_move_39 : decode cX11_move 39 = .ok (.getfield 7, 3) := by decide +kernel
theorem dX11_move_42 : decode cX11_move 42 = .ok (.iload_n 3, 1) := by decide +kernel
theorem dX11_move_43 : decode cX11_move 43 = .ok (.iaload, 1) := by decide +kernel
theorem dX11_move_44 : decode cX11_move 44 = .ok (.ifCond .lt 71, 3) := by decide +kernel
theorem dX11_move_47 : decode cX11_move 47 = .ok (.iload_n 3, 1) := by decide +kernel
theorem dX11_move_48 : decode cX11_move 48 = .ok (.iload_n 1, 1) := by decide +kernel
theorem dX11_move_49 : decode cX11_move 49 = .ok (.if_icmp .eq 66, 3) := by decide +kernel
theorem dX11_move_52 : decode cX11_move 52 = .ok (.aload_n 0, 1) := by decide +kernel
theorem dX11_move_53 : decode cX11_move 53 = .ok (.getfield 16, 3) := by decide +kernel
theorem dX11_move_56 : decode cX11_move 56 = .ok (.iload_n 3, 1) := by decide +kernel
theorem dX11_move_57 : decode cX11_move 57 = .ok (.iaload, 1) := by decide +kernel
theorem dX11_move_58 : decode cX11_move 58 = .ok (.aload_n 0, 1) := by decide +kernel
theorem dX11_move_59 : decode cX11_move 59 = .ok (.getfield 16, 3) := by decide +kernel
theorem dX11_move_62 : decode cX11_move 62 = .ok (.iload_n 1, 1) := by decide +kernel
theorem dX11_move_63 : decode cX11_move 63 = .ok (.iaload, 1) := by decide +kernel
theorem dX11_move_64 : decode cX11_move 64 = .ok (.if_icmp .eq 6, 3) := by decide +kernel
theorem dX11_move_67 : decode cX11_move 67 = .ok (.goto 48, 3) := by decide +kernel
theorem dX11_move_70 : decode cX11_move 70 = .ok (.aload_n 0, 1) := by decide +kernel
theorem dX11_move_71 : decode cX11_move 71 = .ok (.getfield 19, 3) := by decide +kernel
theorem dX11_move_74 : decode cX11_move 74 = .ok (.iload_n 3, 1) := by decide +kernel
theorem dX11_move_75 : decode cX11_move 75 = .ok (.iaload, 1) := by decide +kernel
theorem dX11_move_76 : decode cX11_move 76 = .ok (.aload_n 0, 1) := by decide +kernel
theorem dX11_move_77 : decode cX11_move 77 = .ok (.getfield 19, 3) := by decide +kernel
theorem dX11_move_80 : decode cX11_move 80 = .ok (.iload_n 1, 1) := by decide +kernel
theorem dX11_move_81 : decode cX11_move 81 = .ok (.iaload, 1) := by decide +kernel
theorem dX11_move_82 : decode cX11_move 82 = .ok (.if_icmp .le 13, 3) := by decide +kernel
theorem dX11_move_85 : decode cX11_move 85 = .ok (.aload_n 0, 1) := by decide +kernel
theorem dX11_move_86 : decode cX11_move 86 = .ok (.getfield 19, 3) := by decide +kernel
theorem dX11_move_89 : decode cX11_move 89 = .ok (.iload_n 3, 1) := by decide +kernel
theorem dX11_move_90 : decode cX11_move 90 = .ok (.dup2, 1) := by decide +kernel
theorem dX11_move_91 : decode cX11_move 91 = .ok (.iaload, 1) := by decide +kernel
theorem dX11_move_92 : decode cX11_move 92 = .ok (.iconst 1, 1) := by decide +kernel
theorem dX11_move_93 : decode cX11_move 93 = .ok (.isub, 1) := by decide +kernel
theorem dX11_move_94 : decode cX11_move 94 = .ok (.iastore, 1) := by decide +kernel
theorem dX11_move_95 : decode cX11_move 95 = .ok (.aload_n 0, 1) := by decide +kernel
theorem dX11_move_96 : decode cX11_move 96 = .ok (.getfield 19, 3) := by decide +kernel
theorem dX11_move_99 : decode cX11_move 99 = .ok (.iload_n 3, 1) := by decide +kernel
theorem dX11_move_100 : decode cX11_move 100 = .ok (.iaload, 1) := by decide +kernel
theorem dX11_move_101 : decode cX11_move 101 = .ok (.iload_n 2, 1) := by decide +kernel
theorem dX11_move_102 : decode cX11_move 102 = .ok (.if_icmp .lt 13, 3) := by decide +kernel
theorem dX11_move_105 : decode cX11_move 105 = .ok (.aload_n 0, 1) := by decide +kernel
theorem dX11_move_106 : decode cX11_move 106 = .ok (.getfield 19, 3) := by decide +kernel
theorem dX11_move_109 : decode cX11_move 109 = .ok (.iload_n 3, 1) := by decide +kernel
theorem dX11_move_110 : decode cX11_move 110 = .ok (.dup2, 1) := by decide +kernel
theorem dX11_move_111 : decode cX11_move 111 = .ok (.iaload, 1) := by decide +kernel
theorem dX11_move_112 : decode cX11_move 112 = .ok (.iconst 1, 1) := by decide +kernel
theorem dX11_move_113 : decode cX11_move 113 = .ok (.iadd, 1) := by decide +kernel
theorem dX11_move_114 : decode cX11_move 114 = .ok (.iastore, 1) := by decide +kernel
theorem dX11_move_115 : decode cX11_move 115 = .ok (.iinc 3 1, 3) := by decide +kernel
theorem dX11_move_118 : decode cX11_move 118 = .ok (.goto (-86), 3) := by decide +kernel
theorem dX11_move_121 : decode cX11_move 121 = .ok (.aload_n 0, 1) := by decide +kernel
theorem dX11_move_122 : decode cX11_move 122 = .ok (.getfield 19, 3) := by decide +kernel
theorem dX11_move_125 : decode cX11_move 125 = .ok (.iload_n 1, 1) := by decide +kernel
theorem dX11_move_126 : decode cX11_move 126 = .ok (.iload_n 2, 1) := by decide +kernel
theorem dX11_move_127 : decode cX11_move 127 = .ok (.iastore, 1) := by decide +kernel
theorem dX11_move_128 : decode cX11_move 128 = .ok (.iconst 1, 1) := by decide +kernel
theorem dX11_move_129 : decode cX11_move 129 = .ok (.ireturn, 1) := by decide +kernel
theorem dX11_isWithin_0 : decode cX11_isWithin 0 = .ok (.iload_n 1, 1) := by decide +kernel
theorem dX11_isWithin_1 : decode cX11_isWithin 1 = .ok (.istore_n 3, 1) := by decide +kernel
theorem dX11_isWithin_2 : decode cX11_isWithin 2 = .ok (.iload_n 3, 1) := by decide +kernel
theorem dX11_isWithin_3 : decode cX11_isWithin 3 = .ok (.ifCond .lt 18, 3) := by decide +kernel
theorem dX11_isWithin_6 : decode cX11_isWithin 6 = .ok (.iload_n 3, 1) := by decide +kernel
theorem dX11_isWithin_7 : decode cX11_isWithin 7 = .ok (.iload_n 2, 1) := by decide +kernel
theorem dX11_isWithin_8 : decode cX11_isWithin 8 = .ok (.if_icmp .eq 13, 3) := by decide +kernel
theorem dX11_isWithin_11 : decode cX11_isWithin 11 = .ok (.aload_n 0, 1) := by decide +kernel
theorem dX11_isWithin_12 : decode cX11_isWithin 12 = .ok (.getfield 16, 3) := by decide +kernel
theorem dX11_isWithin_15 : decode cX11_isWithin 15 = .ok (.iload_n 3, 1) := by decide +kernel
theorem dX11_isWithin_16 : decode cX11_isWithin 16 = .ok (.iaload, 1) := by decide +kernel
theorem dX11_isWithin_17 : decode cX11_isWithin 17 = .ok (.istore_n 3, 1) := by decide +kernel
theorem dX11_isWithin_18 : decode cX11_isWithin 18 = .ok (.goto (-16), 3) := by decide +kernel
theorem dX11_isWithin_21 : decode cX11_isWithin 21 = .ok (.iload_n 3, 1) := by decide +kernel
theorem dX11_isWithin_22 : decode cX11_isWithin 22 = .ok (.iload_n 2, 1) := by decide +kernel
theorem dX11_isWithin_23 : decode cX11_isWithin 23 = .ok (.if_icmp .ne 7, 3) := by decide +kernel
theorem dX11_isWithin_26 : decode cX11_isWithin 26 = .ok (.iconst 1, 1) := by decide +kernel
theorem dX11_isWithin_27 : decode cX11_isWithin 27 = .ok (.goto 4, 3) := by decide +kernel
theorem dX11_isWithin_30 : decode cX11_isWithin 30 = .ok (.iconst 0, 1) := by decide +kernel
theorem dX11_isWithin_31 : decode cX11_isWithin 31 = .ok (.ireturn, 1) := by decide +kernel
theorem dX11_drop_0 : decode cX11_drop 0 = .ok (.aload_n 0, 1) := by decide +kernel
theorem dX11_drop_1 : decode cX11_drop 1 = .ok (.iload_n 1, 1) := by decide +kernel
theorem dX11_drop_2 : decode cX11_drop 2 = .ok (.invokevirtual 145, 3) := by decide +kernel
theorem dX11_drop_5 : decode cX11_drop 5 = .ok (.ifCond .ne 5, 3) := by decide +kernel
theorem dX11_drop_8 : decode cX11_drop 8 = .ok (.iconst (-1), 1) := by decide +kernel
theorem dX11_drop_9 : decode cX11_drop 9 = .ok (.ireturn, 1) := by decide +kernel
theorem dX11_drop_10 : decode cX11_drop 10 = .ok (.iconst 0, 1) := by decide +kernel
theorem dX11_drop_11 : decode cX11_drop 11 = .ok (.istore_n 2, 1) := by decide +kernel
theorem dX11_drop_12 : decode cX11_drop 12 = .ok (.iload_n 2, 1) := by decide +kernel
theorem dX11_drop_13 : decode cX11_drop 13 = .ok (.bipush 24, 2) := by decide +kernel
theorem dX11_drop_15 : decode cX11_drop 15 = .ok (.if_icmp .ge 58, 3) := by decide +kernel
theorem dX11_drop_18 : decode cX11_drop 18 = .ok (.aload_n 0, 1) := by decide +kernel
theorem dX11_drop_19 : decode cX11_drop 19 = .ok (.getfield 7, 3) := by decide +kernel
theorem dX11_drop_22 : decode cX11_drop 22 = .ok (.iload_n 2, 1) := by decide +kernel
theorem dX11_drop_23 : decode cX11_drop 23 = .ok (.iaload, 1) := by decide +kernel
theorem dX11_drop_24 : decode cX11_drop 24 = .ok (.ifCond .lt 43, 3) := by decide +kernel
theorem dX11_drop_27 : decode cX11_drop 27 = .ok (.aload_n 0, 1) := by decide +kernel
theorem dX11_drop_28 : decode cX11_drop 28 = .ok (.getfield 16, 3) := by decide +kernel
theorem dX11_drop_31 : decode cX11_drop 31 = .ok (.iload_n 2, 1) := by decide +kernel
theorem dX11_drop_32 : decode cX11_drop 32 = .ok (.iaload, 1) := by decide +kernel
theorem dX11_drop_33 : decode cX11_drop 33 = .ok (.aload_n 0, 1) := by decide +kernel
theorem dX11_drop_34 : decode cX11_drop 34 = .ok (.getfield 16, 3) := by decide +kernel
theorem dX11_drop_37 : decode cX11_drop 37 = .ok (.iload_n 1, 1) := by decide +kernel
theorem dX11_drop_38 : decode cX11_drop 38 = .ok (.iaload, 1) := by decide +kernel
theorem dX11_drop_39 : decode cX11_drop 39 = .ok (.if_icmp .ne 28, 3) := by decide +kernel
theorem dX11_drop_42 : decode cX11_drop 42 = .ok (.aload_n 0, 1) := by decide +kernel
theorem dX11_drop_43 : decode cX11_drop 43 = .ok (.getfield 19, 3) := by decide +kernel
theorem dX11_drop_46 : decode cX11_drop 46 = .ok (.iload_n 2, 1) := by decide +kernel
theorem dX11_drop_47 : decode cX11_drop 47 = .ok (.iaload, 1) := by decide +kernel
theorem dX11_drop_48 : decode cX11_drop 48 = .ok (.aload_n 0, 1) := by decide +kernel
theorem dX11_drop_49 : decode cX11_drop 49 = .ok (.getfield 19, 3) := by decide +kernel
theorem dX11_drop_52 : decode cX11_drop 52 = .ok (.iload_n 1, 1) := by decide +kernel
theorem dX11_drop_53 : decode cX11_drop 53 = .ok (.iaload, 1) := by decide +kernel
theorem dX11_drop_54 : decode cX11_drop 54 = .ok (.if_icmp .le 13, 3) := by decide +kernel
theorem dX11_drop_57 : decode cX11_drop 57 = .ok (.aload_n 0, 1) := by decide +kernel
