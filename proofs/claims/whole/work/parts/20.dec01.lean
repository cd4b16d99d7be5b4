theorem dX6_readMark_99 : decode cX6_readMark 99 = .ok (.bipush 6, 2) := by decide +kernel
theorem dX6_readMark_101 : decode cX6_readMark 101 = .ok (.if_icmp .ne 7, 3) := by decide +kernel
theorem dX6_readMark_104 : decode cX6_readMark 104 = .ok (.iconst 4, 1) := by decide +kernel
theorem dX6_readMark_105 : decode cX6_readMark 105 = .ok (.goto 4, 3) := by decide +kernel
theorem dX6_readMark_108 : decode cX6_readMark 108 = .ok (.iconst 3, 1) := by decide +kernel
theorem dX6_readMark_109 : decode cX6_readMark 109 = .ok (.iadd, 1) := by decide +kernel
theorem dX6_readMark_110 : decode cX6_readMark 110 = .ok (.ireturn, 1) := by decide +kernel
theorem dX6_addMark_0 : decode cX6_addMark 0 = .ok (.iload_n 2, 1) := by decide +kernel
theorem dX6_addMark_1 : decode cX6_addMark 1 = .ok (.tableswitch 145 0 6 #[43, 145, 56, 76, 145, 105, 125], 43) := by decide +kernel
theorem dX6_addMark_44 : decode cX6_addMark 44 = .ok (.aload_n 0, 1) := by decide +kernel
theorem dX6_addMark_45 : decode cX6_addMark 45 = .ok (.iload_n 1, 1) := by decide +kernel
theorem dX6_addMark_46 : decode cX6_addMark 46 = .ok (.iload_n 2, 1) := by decide +kernel
theorem dX6_addMark_47 : decode cX6_addMark 47 = .ok (.iload_n 1, 1) := by decide +kernel
theorem dX6_addMark_48 : decode cX6_addMark 48 = .ok (.iconst 1, 1) := by decide +kernel
theorem dX6_addMark_49 : decode cX6_addMark 49 = .ok (.iadd, 1) := by decide +kernel
theorem dX6_addMark_50 : decode cX6_addMark 50 = .ok (.iconst 1, 1) := by decide +kernel
theorem dX6_addMark_51 : decode cX6_addMark 51 = .ok (.invokevirtual 52, 3) := by decide +kernel
theorem dX6_addMark_54 : decode cX6_addMark 54 = .ok (.goto 100, 3) := by decide +kernel
theorem dX6_addMark_57 : decode cX6_addMark 57 = .ok (.aload_n 0, 1) := by decide +kernel
theorem dX6_addMark_58 : decode cX6_addMark 58 = .ok (.iload_n 1, 1) := by decide +kernel
theorem dX6_addMark_59 : decode cX6_addMark 59 = .ok (.iload_n 2, 1) := by decide +kernel
theorem dX6_addMark_60 : decode cX6_addMark 60 = .ok (.aload_n 0, 1) := by decide +kernel
theorem dX6_addMark_61 : decode cX6_addMark 61 = .ok (.iload_n 1, 1) := by decide +kernel
theorem dX6_addMark_62 : decode cX6_addMark 62 = .ok (.iconst 1, 1) := by decide +kernel
theorem dX6_addMark_63 : decode cX6_addMark 63 = .ok (.iadd, 1) := by decide +kernel
theorem dX6_addMark_64 : decode cX6_addMark 64 = .ok (.invokevirtual 62, 3) := by decide +kernel
theorem dX6_addMark_67 : decode cX6_addMark 67 = .ok (.bipush 48, 2) := by decide +kernel
theorem dX6_addMark_69 : decode cX6_addMark 69 = .ok (.isub, 1) := by decide +kernel
theorem dX6_addMark_70 : decode cX6_addMark 70 = .ok (.iconst 0, 1) := by decide +kernel
theorem dX6_addMark_71 : decode cX6_addMark 71 = .ok (.invokevirtual 52, 3) := by decide +kernel
theorem dX6_addMark_74 : decode cX6_addMark 74 = .ok (.goto 80, 3) := by decide +kernel
theorem dX6_addMark_77 : decode cX6_addMark 77 = .ok (.aload_n 0, 1) := by decide +kernel
theorem dX6_addMark_78 : decode cX6_addMark 78 = .ok (.iload_n 1, 1) := by decide +kernel
theorem dX6_addMark_79 : decode cX6_addMark 79 = .ok (.iload_n 2, 1) := by decide +kernel
theorem dX6_addMark_80 : decode cX6_addMark 80 = .ok (.aload_n 0, 1) := by decide +kernel
theorem dX6_addMark_81 : decode cX6_addMark 81 = .ok (.iload_n 1, 1) := by decide +kernel
theorem dX6_addMark_82 : decode cX6_addMark 82 = .ok (.iconst 2, 1) := by decide +kernel
theorem dX6_addMark_83 : decode cX6_addMark 83 = .ok (.iadd, 1) := by decide +kernel
theorem dX6_addMark_84 : decode cX6_addMark 84 = .ok (.invokevirtual 62, 3) := by decide +kernel
theorem dX6_addMark_87 : decode cX6_addMark 87 = .ok (.bipush 48, 2) := by decide +kernel
theorem dX6_addMark_89 : decode cX6_addMark 89 = .ok (.isub, 1) := by decide +kernel
theorem dX6_addMark_90 : decode cX6_addMark 90 = .ok (.aload_n 0, 1) := by decide +kernel
theorem dX6_addMark_91 : decode cX6_addMark 91 = .ok (.iload_n 1, 1) := by decide +kernel
theorem dX6_addMark_92 : decode cX6_addMark 92 = .ok (.iconst 3, 1) := by decide +kernel
theorem dX6_addMark_93 : decode cX6_addMark 93 = .ok (.iadd, 1) := by decide +kernel
theorem dX6_addMark_94 : decode cX6_addMark 94 = .ok (.invokevirtual 62, 3) := by decide +kernel
theorem dX6_addMark_97 : decode cX6_addMark 97 = .ok (.bipush 48, 2) := by decide +kernel
theorem dX6_addMark_99 : decode cX6_addMark 99 = .ok (.isub, 1) := by decide +kernel
theorem dX6_addMark_100 : decode cX6_addMark 100 = .ok (.invokevirtual 52, 3) := by decide +kernel
theorem dX6_addMark_103 : decode cX6_addMark 103 = .ok (.goto 51, 3) := by decide +kernel
theorem dX6_addMark_106 : decode cX6_addMark 106 = .ok (.aload_n 0, 1) := by decide +kernel
theorem dX6_addMark_107 : decode cX6_addMark 107 = .ok (.iload_n 1, 1) := by decide +kernel
theorem dX6_addMark_108 : decode cX6_addMark 108 = .ok (.iload_n 2, 1) := by decide +kernel
theorem dX6_addMark_109 : decode cX6_addMark 109 = .ok (.aload_n 0, 1) := by decide +kernel
theorem dX6_addMark_110 : decode cX6_addMark 110 = .ok (.iload_n 1, 1) := by decide +kernel
theorem dX6_addMark_111 : decode cX6_addMark 111 = .ok (.iconst 1, 1) := by decide +kernel
theorem dX6_addMark_112 : decode cX6_addMark 112 = .ok (.iadd, 1) := by decide +kernel
theorem dX6_addMark_113 : decode cX6_addMark 113 = .ok (.invokevirtual 62, 3) := by decide +kernel
theorem dX6_addMark_116 : decode cX6_addMark 116 = .ok (.bipush 97, 2) := by decide +kernel
theorem dX6_addMark_118 : decode cX6_addMark 118 = .ok (.isub, 1) := by decide +kernel
theorem dX6_addMark_119 : decode cX6_addMark 119 = .ok (.iconst 0, 1) := by decide +kernel
theorem dX6_addMark_120 : decode cX6_addMark 120 = .ok (.invokevirtual 52, 3) := by decide +kernel
theorem dX6_addMark_123 : decode cX6_addMark 123 = .ok (.goto 31, 3) := by decide +kernel
theorem dX6_addMark_126 : decode cX6_addMark 126 = .ok (.aload_n 0, 1) := by decide +kernel
theorem dX6_addMark_127 : decode cX6_addMark 127 = .ok (.iload_n 1, 1) := by decide +kernel
theorem dX6_addMark_128 : decode cX6_addMark 128 = .ok (.iload_n 2, 1) := by decide +kernel
theorem dX6_addMark_129 : decode cX6_addMark 129 = .ok (.aload_n 0, 1) := by decide +kernel
theorem dX6_addMark_130 : decode cX6_addMark 130 = .ok (.iload_n 1, 1) := by decide +kernel
theorem dX6_addMark_131 : decode cX6_addMark 131 = .ok (.iconst 2, 1) := by decide +kernel
theorem dX6_addMark_132 : decode cX6_addMark 132 = .ok (.iadd, 1) := by decide +kernel
theorem dX6_addMark_133 : decode cX6_addMark 133 = .ok (.invokevirtual 62, 3) := by decide +kernel
theorem dX6_addMark_136 : decode cX6_addMark 136 = .ok (.bipush 48, 2) := by decide +kernel
theorem dX6_addMark_138 : decode cX6_addMark 138 = .ok (.isub, 1) := by decide +kernel
theorem dX6_addMark_139 : decode cX6_addMark 139 = .ok (.iconst 0, 1) := by decide +kernel
theorem dX6_addMark_140 : decode cX6_addMark 140 = .ok (.invokevirtual 52, 3) := by decide +kernel
theorem dX6_addMark_143 : decode cX6_addMark 143 = .ok (.goto 11, 3) := by decide +kernel
theorem dX6_addMark_146 : decode cX6_addMark 146 = .ok (.aload_n 0, 1) := by decide +kernel
theorem dX6_addMark_147 : decode cX6_addMark 147 = .ok (.iload_n 1, 1) := by decide +kernel
theorem dX6_addMark_148 : decode cX6_addMark 148 = .ok (.iload_n 2, 1) := by decide +kernel
theorem dX6_addMark_149 : decode cX6_addMark 149 = .ok (.iconst 0, 1) := by decide +kernel
theorem dX6_addMark_150 : decode cX6_addMark 150 = .ok (.iconst 0, 1) := by decide +kernel
theorem dX6_addMark_151 : decode cX6_addMark 151 = .ok (.invokevirtual 52, 3) := by decide +kernel
theorem dX6_addMark_154 : decode cX6_addMark 154 = .ok (.return_, 1) := by decide +kernel
theorem dX6_add_0 : decode cX6_add 0 = .ok (.aload_n 0, 1) := by decide +kernel
theorem dX6_add_1 : decode cX6_add 1 = .ok (.getfield 65, 3) := by decide +kernel
theorem dX6_add_4 : decode cX6_add 4 = .ok (.aload_n 0, 1) := by decide +kernel
theorem dX6_add_5 : decode cX6_add 5 = .ok (.getfield 25, 3) := by decide +kernel
theorem dX6_add_8 : decode cX6_add 8 = .ok (.arraylength, 1) := by decide +kernel
theorem dX6_add_9 : decode cX6_add 9 = .ok (.if_icmp .lt 10, 3) := by decide +kernel
theorem dX6_add_12 : decode cX6_add 12 = .ok (.aload_n 0, 1) := by decide +kernel
theorem dX6_add_13 : decode cX6_add 13 = .ok (.iconst 5, 1) := by decide +kernel
theorem dX6_add_14 : decode cX6_add 14 = .ok (.iload_n 1, 1) := by decide +kernel
theorem dX6_add_15 : decode cX6_add 15 = .ok (.invokevirtual 48, 3) := by decide +kernel
theorem dX6_add_18 : decode cX6_add 18 = .ok (.return_, 1) := by decide +kernel
theorem dX6_add_19 : decode cX6_add 19 = .ok (.aload_n 0, 1) := by decide +kernel
theorem dX6_add_20 : decode cX6_add 20 = .ok (.getfield 25, 3) := by decide +kernel
theorem dX6_add_23 : decode cX6_add 23 = .ok (.aload_n 0, 1) := by decide +kernel
theorem dX6_add_24 : decode cX6_add 24 = .ok (.getfield 65, 3) := by decide +kernel
theorem dX6_add_27 : decode cX6_add 27 = .ok (.iload_n 2, 1) := by decide +kernel
theorem dX6_add_28 : decode cX6_add 28 = .ok (.iastore, 1) := by decide +kernel
theorem dX6_add_29 : decode cX6_add 29 = .ok (.aload_n 0, 1) := by decide +kernel
theorem dX6_add_30 : decode cX6_add 30 = .ok (.getfield 28, 3) := by decide +kernel
theorem dX6_add_33 : decode cX6_add 33 = .ok (.aload_n 0, 1) := by decide +kernel
theorem dX6_add_34 : decode cX6_add 34 = .ok (.getfield 65, 3) := by decide +kernel
theorem dX6_add_37 : decode cX6_add 37 = .ok (.iload_n 3, 1) := by decide +kernel
theorem dX6_add_38 : decode cX6_add 38 = .ok (.iastore, 1) := by decide +kernel
theorem dX6_add_39 : decode cX6_add 39 = .ok (.aload_n 0, 1) := by decide +kernel
theorem dX6_add_40 : decode cX6_add 40 = .ok (.getfield 31, 3) := by decide +kernel
theorem dX6_add_43 : decode cX6_add 43 = .ok (.aload_n 0, 1) := by decide +kernel
theorem dX6_add_44 : decode cX6_add 44 = .ok (.getfield 65, 3) := by decide +kernel
theorem dX6_add_47 : decode cX6_add 47 = .ok (.iload 4, 2) := by decide +kernel
theorem dX6_add_49 : decode cX6_add 49 = .ok (.iastore, 1) := by decide +kernel
theorem dX6_add_50 : decode cX6_add 50 = .ok (.aload_n 0, 1) := by decide +kernel
theorem dX6_add_51 : decode cX6_add 51 = .ok (.dup, 1) := by decide +kernel
theorem dX6_add_52 : decode cX6_add 52 = .ok (.getfield 65, 3) := by decide +kernel
theorem dX6_add_55 : decode cX6_add 55 = .ok (.iconst 1, 1) := by decide +kernel
theorem dX6_add_56 : decode cX6_add 56 = .ok (.iadd, 1) := by decide +kernel
theorem dX6_add_57 : decode cX6_add 57 = .ok (.putfield 65, 3) := by decide +kernel
theorem dX6_add_60 : decode cX6_add 60 = .ok (.return_, 1) := by decide +kernel
theorem dX6_sortOfMark_0 : decode cX6_sortOfMark 0 = .ok (.aload_n 0, 1) := by decide +kernel
theorem dX6_sortOfMark_1 : decode cX6_sortOfMark 1 = .ok (.iload_n 1, 1) := by decide +kernel
theorem dX6_sortOfMark_2 : decode cX6_sortOfMark 2 = .ok (.iconst 1, 1) := by decide +kernel
theorem dX6_sortOfMark_3 : decode cX6_sortOfMark 3 = .ok (.iadd, 1) := by decide +kernel
theorem dX6_sortOfMark_4 : decode cX6_sortOfMark 4 = .ok (.invokevirtual 62, 3) := by decide +kernel
theorem dX6_sortOfMark_7 : decode cX6_sortOfMark 7 = .ok (.istore_n 2, 1) := by decide +kernel
theorem dX6_sortOfMark_8 : decode cX6_sortOfMark 8 = .ok (.iload_n 2, 1) := by decide +kernel
theorem dX6_sortOfMark_9 : decode cX6_sortOfMark 9 = .ok (.bipush 63, 2) := by decide +kernel
theorem dX6_sortOfMark_11 : decode cX6_sortOfMark 11 = .ok (.if_icmp .ne 32, 3) := by decide +kernel
theorem dX6_sortOfMark_14 : decode cX6_sortOfMark 14 = .ok (.aload_n 0, 1) := by decide +kernel
theorem dX6_sortOfMark_15 : decode cX6_sortOfMark 15 = .ok (.iload_n 1, 1) := by decide +kernel
theorem dX6_sortOfMark_16 : decode cX6_sortOfMark 16 = .ok (.iconst 2, 1) := by decide +kernel
theorem dX6_sortOfMark_17 : decode cX6_sortOfMark 17 = .ok (.iadd, 1) := by decide +kernel
theorem dX6_sortOfMark_18 : decode cX6_sortOfMark 18 = .ok (.invokevirtual 68, 3) := by decide +kernel
theorem dX6_sortOfMark_21 : decode cX6_sortOfMark 21 = .ok (.ifCond .eq 20, 3) := by decide +kernel
theorem dX6_sortOfMark_24 : decode cX6_sortOfMark 24 = .ok (.aload_n 0, 1) := by decide +kernel
theorem dX6_sortOfMark_25 : decode cX6_sortOfMark 25 = .ok (.iload_n 1, 1) := by decide +kernel
theorem dX6_sortOfMark_26 : decode cX6_sortOfMark 26 = .ok (.iconst 3, 1) := by decide +kernel
theorem dX6_sortOfMark_27 : decode cX6_sortOfMark 27 = .ok (.iadd, 1) := by decide +kernel
theorem dX6_sortOfMark_28 : decode cX6_sortOfMark 28 = .ok (.invokevirtual 62, 3) := by decide +kernel
theorem dX6_sortOfMark_31 : decode cX6_sortOfMark 31 = .ok (.bipush 62, 2) := by decide +kernel
theorem dX6_sortOfMark_33 : decode cX6_sortOfMark 33 = .ok (.if_icmp .ne 8, 3) := by decide +kernel
theorem dX6_sortOfMark_36 : decode cX6_sortOfMark 36 = .ok (.bipush 6, 2) := by decide +kernel
theorem dX6_sortOfMark_38 : decode cX6_sortOfMark 38 = .ok (.goto 4, 3) := by decide +kernel
theorem dX6_sortOfMark_41 : decode cX6_sortOfMark 41 = .ok (.iconst (-1), 1) := by decide +kernel
theorem dX6_sortOfMark_42 : decode cX6_sortOfMark 42 = .ok (.ireturn, 1) := by decide +kernel
theorem dX6_sortOfMark_43 : decode cX6_sortOfMark 43 = .ok (.iload_n 2, 1) := by decide +kernel
theorem dX6_sortOfMark_44 : decode cX6_sortOfMark 44 = .ok (.bipush 43, 2) := by decide +kernel
theorem dX6_sortOfMark_46 : decode cX6_sortOfMark 46 = .ok (.if_icmp .ne 41, 3) := by decide +kernel
theorem dX6_sortOfMark_49 : decode cX6_sortOfMark 49 = .ok (.aload_n 0, 1) := by decide +kernel
theorem dX6_sortOfMark_50 : decode cX6_sortOfMark 50 = .ok (.iload_n 1, 1) := by decide +kernel
theorem dX6_sortOfMark_51 : decode cX6_sortOfMark 51 = .ok (.iconst 2, 1) := by decide +kernel
theorem dX6_sortOfMark_52 : decode cX6_sortOfMark 52 = .ok (.iadd, 1) := by decide +kernel
theorem dX6_sortOfMark_53 : decode cX6_sortOfMark 53 = .ok (.invokevirtual 68, 3) := by decide +kernel
theorem dX6_sortOfMark_56 : decode cX6_sortOfMark 56 = .ok (.ifCond .eq 29, 3) := by decide +kernel
theorem dX6_sortOfMark_59 : decode cX6_sortOfMark 59 = .ok (.aload_n 0, 1) := by decide +kernel
theorem dX6_sortOfMark_60 : decode cX6_sortOfMark 60 = .ok (.iload_n 1, 1) := by decide +kernel
theorem dX6_sortOfMark_61 : decode cX6_sortOfMark 61 = .ok (.iconst 3, 1) := by decide +kernel
theorem dX6_sortOfMark_62 : decode cX6_sortOfMark 62 = .ok (.iadd, 1) := by decide +kernel
theorem dX6_sortOfMark_63 : decode cX6_sortOfMark 63 = .ok (.invokevirtual 68, 3) := by decide +kernel
theorem dX6_sortOfMark_66 : decode cX6_sortOfMark 66 = .ok (.ifCond .eq 19, 3) := by decide +kernel
theorem dX6_sortOfMark_69 : decode cX6_sortOfMark 69 = .ok (.aload_n 0, 1) := by decide +kernel
theorem dX6_sortOfMark_70 : decode cX6_sortOfMark 70 = .ok (.iload_n 1, 1) := by decide +kernel
theorem dX6_sortOfMark_71 : decode cX6_sortOfMark 71 = .ok (.iconst 4, 1) := by decide +kernel
theorem dX6_sortOfMark_72 : decode cX6_sortOfMark 72 = .ok (.iadd, 1) := by decide +kernel
theorem dX6_sortOfMark_73 : decode cX6_sortOfMark 73 = .ok (.invokevirtual 62, 3) := by decide +kernel
theorem dX6_sortOfMark_76 : decode cX6_sortOfMark 76 = .ok (.bipush 62, 2) := by decide +kernel
theorem dX6_sortOfMark_78 : decode cX6_sortOfMark 78 = .ok (.if_icmp .ne 7, 3) := by decide +kernel
theorem dX6_sortOfMark_81 : decode cX6_sortOfMark 81 = .ok (.iconst 3, 1) := by decide +kernel
theorem dX6_sortOfMark_82 : decode cX6_sortOfMark 82 = .ok (.goto 4, 3) := by decide +kernel
theorem dX6_sortOfMark_85 : decode cX6_sortOfMark 85 = .ok (.iconst (-1), 1) := by decide +kernel
theorem dX6_sortOfMark_86 : decode cX6_sortOfMark 86 = .ok (.ireturn, 1) := by decide +kernel
theorem dX6_sortOfMark_87 : decode cX6_sortOfMark 87 = .ok (.aload_n 0, 1) := by decide +kernel
theorem dX6_sortOfMark_88 : decode cX6_sortOfMark 88 = .ok (.iload_n 1, 1) := by decide +kernel
theorem dX6_sortOfMark_89 : decode cX6_sortOfMark 89 = .ok (.iconst 2, 1) := by decide +kernel
theorem dX6_sortOfMark_90 : decode cX6_sortOfMark 90 = .ok (.iadd, 1) := by decide +kernel
theorem dX6_sortOfMark_91 : decode cX6_sortOfMark 91 = .ok (.invokevirtual 62, 3) := by decide +kernel
theorem dX6_sortOfMark_94 : decode cX6_sortOfMark 94 = .ok (.bipush 62, 2) := by decide +kernel
theorem dX6_sortOfMark_96 : decode cX6_sortOfMark 96 = .ok (.if_icmp .eq 5, 3) := by decide +kernel
theorem dX6_sortOfMark_99 : decode cX6_sortOfMark 99 = .ok (.iconst (-1), 1) := by decide +kernel
theorem dX6_sortOfMark_100 : decode cX6_sortOfMark 100 = .ok (.ireturn, 1) := by decide +kernel
theorem dX6_sortOfMark_101 : decode cX6_sortOfMark 101 = .ok (.iload_n 2, 1) := by decide +kernel
theorem dX6_sortOfMark_102 : decode cX6_sortOfMark 102 = .ok (.lookupswitch 51 #[(33, 46), (60, 49), (61, 44), (110, 42)], 42) := by decide +kernel
theorem dX6_sortOfMark_144 : decode cX6_sortOfMark 144 = .ok (.iconst 1, 1) := by decide +kernel
theorem dX6_sortOfMark_145 : decode cX6_sortOfMark 145 = .ok (.ireturn, 1) := by decide +kernel
theorem dX6_sortOfMark_146 : decode cX6_sortOfMark 146 = .ok (.iconst 4, 1) := by decide +kernel
theorem dX6_sortOfMark_147 : decode cX6_sortOfMark 147 = .ok (.ireturn, 1) := by decide +kernel
theorem dX6_sortOfMark_148 : decode cX6_sortOfMark 148 = .ok (.bipush 7, 2) := by decide +kernel
theorem dX6_sortOfMark_150 : decode cX6_sortOfMark 150 = .ok (.ireturn, 1) := by decide +kernel
theorem dX6_sortOfMark_151 : decode cX6_sortOfMark 151 = .ok (.iconst 0, 1) := by decide +kernel
theorem dX6_sortOfMark_152 : decode cX6_sortOfMark 152 = .ok (.ireturn, 1) := by decide +kernel
theorem dX6_sortOfMark_153 : decode cX6_sortOfMark 153 = .ok (.aload_n 0, 1) := by decide +kernel
theorem dX6_sortOfMark_154 : decode cX6_sortOfMark 154 = .ok (.iload_n 1, 1) := by decide +kernel
theorem dX6_sortOfMark_155 : decode cX6_sortOfMark 155 = .ok (.iconst 1, 1) := by decide +kernel
theorem dX6_sortOfMark_156 : decode cX6_sortOfMark 156 = .ok (.iadd, 1) := by decide +kernel
theorem dX6_sortOfMark_157 : decode cX6_sortOfMark 157 = .ok (.invokevirtual 68, 3) := by decide +kernel
theorem dX6_sortOfMark_160 : decode cX6_sortOfMark 160 = .ok (.ifCond .eq 5, 3) := by decide +kernel
theorem dX6_sortOfMark_163 : decode cX6_sortOfMark 163 = .ok (.iconst 2, 1) := by decide +kernel
theorem dX6_sortOfMark_164 : decode cX6_sortOfMark 164 = .ok (.ireturn, 1) := by decide +kernel
theorem dX6_sortOfMark_165 : decode cX6_sortOfMark 165 = .ok (.iload_n 2, 1) := by decide +kernel
theorem dX6_sortOfMark_166 : decode cX6_sortOfMark 166 = .ok (.bipush 97, 2) := by decide +kernel
theorem dX6_sortOfMark_168 : decode cX6_sortOfMark 168 = .ok (.if_icmp .lt 13, 3) := by decide +kernel
theorem dX6_sortOfMark_171 : decode cX6_sortOfMark 171 = .ok (.iload_n 2, 1) := by decide +kernel
theorem dX6_sortOfMark_172 : decode cX6_sortOfMark 172 = .ok (.bipush 105, 2) := by decide +kernel
theorem dX6_sortOfMark_174 : decode cX6_sortOfMark 174 = .ok (.if_icmp .ge 7, 3) := by decide +kernel
theorem dX6_sortOfMark_177 : decode cX6_sortOfMark 177 = .ok (.iconst 5, 1) := by decide +kernel
theorem dX6_sortOfMark_178 : decode cX6_sortOfMark 178 = .ok (.goto 4, 3) := by decide +kernel
theorem dX6_sortOfMark_181 : decode cX6_sortOfMark 181 = .ok (.iconst (-1), 1) := by decide +kernel
theorem dX6_sortOfMark_182 : decode cX6_sortOfMark 182 = .ok (.ireturn, 1) := by decide +kernel
theorem dX6_isIndex_0 : decode cX6_isIndex 0 = .ok (.aload_n 0, 1) := by decide +kernel
theorem dX6_isIndex_1 : decode cX6_isIndex 1 = .ok (.iload_n 1, 1) := by decide +kernel
theorem dX6_isIndex_2 : decode cX6_isIndex 2 = .ok (.invokevirtual 62, 3) := by decide +kernel
theorem dX6_isIndex_5 : decode cX6_isIndex 5 = .ok (.bipush 48, 2) := by decide +kernel
theorem dX6_isIndex_7 : decode cX6_isIndex 7 = .ok (.if_icmp .lt 17, 3) := by decide +kernel
theorem dX6_isIndex_10 : decode cX6_isIndex 10 = .ok (.aload_n 0, 1) := by decide +kernel
theorem dX6_isIndex_11 : decode cX6_isIndex 11 = .ok (.iload_n 1, 1) := by decide +kernel
theorem dX6_isIndex_12 : decode cX6_isIndex 12 = .ok (.invokevirtual 62, 3) := by decide +kernel
theorem dX6_isIndex_15 : decode cX6_isIndex 15 = .ok (.bipush 52, 2) := by decide +kernel
theorem dX6_isIndex_17 : decode cX6_isIndex 17 = .ok (.if_icmp .ge 7, 3) := by decide +kernel
theorem dX6_isIndex_20 : decode cX6_isIndex 20 = .ok (.iconst 1, 1) := by decide +kernel
theorem dX6_isIndex_21 : decode cX6_isIndex 21 = .ok (.goto 4, 3) := by decide +kernel
theorem dX6_isIndex_24 : decode cX6_isIndex 24 = .ok (.iconst 0, 1) := by decide +kernel
theorem dX6_isIndex_25 : decode cX6_isIndex 25 = .ok (.ireturn, 1) := by decide +kernel
theorem dX6_byteAt_0 : decode cX6_byteAt 0 = .ok (.aload_n 0, 1) := by decide +kernel
theorem dX6_byteAt_1 : decode cX6_byteAt 1 = .ok (.getfield 21, 3) := by decide +kernel
theorem dX6_byteAt_4 : decode cX6_byteAt 4 = .ok (.iload_n 1, 1) := by decide +kernel
theorem dX6_byteAt_5 : decode cX6_byteAt 5 = .ok (.invokestatic 72, 3) := by decide +kernel
theorem dX6_byteAt_8 : decode cX6_byteAt 8 = .ok (.ireturn, 1) := by decide +kernel
theorem dX6_blame_0 : decode cX6_blame 0 = .ok (.aload_n 0, 1) := by decide +kernel
theorem dX6_blame_1 : decode cX6_blame 1 = .ok (.getfield 34, 3) := by decide +kernel
theorem dX6_blame_4 : decode cX6_blame 4 = .ok (.ifCond .ne 13, 3) := by decide +kernel
theorem dX6_blame_7 : decode cX6_blame 7 = .ok (.aload_n 0, 1) := by decide +kernel
theorem dX6_blame_8 : decode cX6_blame 8 = .ok (.iload_n 1, 1) := by decide +kernel
theorem dX6_blame_9 : decode cX6_blame 9 = .ok (.putfield 34, 3) := by decide +kernel
theorem dX6_blame_12 : decode cX6_blame 12 = .ok (.aload_n 0, 1) := by decide +kernel
theorem dX6_blame_13 : decode cX6_blame 13 = .ok (.iload_n 2, 1) := by decide +kernel
theorem dX6_blame_14 : decode cX6_blame 14 = .ok (.putfield 9, 3) := by decide +kernel
theorem dX6_blame_17 : decode cX6_blame 17 = .ok (.return_, 1) := by decide +kernel
theorem dX7_init_0 : decode cX7_init 0 = .ok (.aload_n 0, 1) := by decide +kernel
theorem dX7_init_1 : decode cX7_init 1 = .ok (.invokespecial 3, 3) := by decide +kernel
theorem dX7_init_4 : decode cX7_init 4 = .ok (.aload_n 0, 1) := by decide +kernel
theorem dX7_init_5 : decode cX7_init 5 = .ok (.bipush 120, 2) := by decide +kernel
theorem dX7_init_7 : decode cX7_init 7 = .ok (.newarray .int, 2) := by decide +kernel
theorem dX7_init_9 : decode cX7_init 9 = .ok (.putfield 9, 3) := by decide +kernel
theorem dX7_init_12 : decode cX7_init 12 = .ok (.return_, 1) := by decide +kernel
theorem dX7_putFour_0 : decode cX7_putFour 0 = .ok (.bipush 24, 2) := by decide +kernel
theorem dX7_putFour_2 : decode cX7_putFour 2 = .ok (.istore_n 2, 1) := by decide +kernel
theorem dX7_putFour_3 : decode cX7_putFour 3 = .ok (.iload_n 2, 1) := by decide +kernel
theorem dX7_putFour_4 : decode cX7_putFour 4 = .ok (.ifCond .lt 44, 3) := by decide +kernel
theorem dX7_putFour_7 : decode cX7_putFour 7 = .ok (.aload_n 0, 1) := by decide +kernel
theorem dX7_putFour_8 : decode cX7_putFour 8 = .ok (.getfield 15, 3) := by decide +kernel
theorem dX7_putFour_11 : decode cX7_putFour 11 = .ok (.bipush 120, 2) := by decide +kernel
theorem dX7_putFour_13 : decode cX7_putFour 13 = .ok (.if_icmp .ge 35, 3) := by decide +kernel
theorem dX7_putFour_16 : decode cX7_putFour 16 = .ok (.aload_n 0, 1) := by decide +kernel
theorem dX7_putFour_17 : decode cX7_putFour 17 = .ok (.getfield 9, 3) := by decide +kernel
theorem dX7_putFour_20 : decode cX7_putFour 20 = .ok (.aload_n 0, 1) := by decide +kernel
theorem dX7_putFour_21 : decode cX7_putFour 21 = .ok (.getfield 15, 3) := by decide +kernel
theorem dX7_putFour_24 : decode cX7_putFour 24 = .ok (.iload_n 1, 1) := by decide +kernel
theorem dX7_putFour_25 : decode cX7_putFour 25 = .ok (.iload_n 2, 1) := by decide +kernel
theorem dX7_putFour_26 : decode cX7_putFour 26 = .ok (.iushr, 1) := by decide +kernel
theorem dX7_putFour_27 : decode cX7_putFour 27 = .ok (.sipush 255, 3) := by decide +kernel
theorem dX7_putFour_30 : decode cX7_putFour 30 = .ok (.iand, 1) := by decide +kernel
theorem dX7_putFour_31 : decode cX7_putFour 31 = .ok (.iastore, 1) := by decide +kernel
theorem dX7_putFour_32 : decode cX7_putFour 32 = .ok (.aload_n 0, 1) := by decide +kernel
theorem dX7_putFour_33 : decode cX7_putFour 33 = .ok (.dup, 1) := by decide +kernel
theorem dX7_putFour_34 : decode cX7_putFour 34 = .ok (.getfield 15, 3) := by decide +kernel
theorem dX7_putFour_37 : decode cX7_putFour 37 = .ok (.iconst 1, 1) := by decide +kernel
theorem dX7_putFour_38 : decode cX7_putFour 38 = .ok (.iadd, 1) := by decide +kernel
theorem dX7_putFour_39 : decode cX7_putFour 39 = .ok (.putfield 15, 3) := by decide +kernel
theorem dX7_putFour_42 : decode cX7_putFour 42 = .ok (.iinc 2 (-8), 3) := by decide +kernel
theorem dX7_putFour_45 : decode cX7_putFour 45 = .ok (.goto (-42), 3) := by decide +kernel
theorem dX7_putFour_48 : decode cX7_putFour 48 = .ok (.return_, 1) := by decide +kernel
theorem dX7_isName_0 : decode cX7_isName 0 = .ok (.iconst 0, 1) := by decide +kernel
theorem dX7_isName_1 : decode cX7_isName 1 = .ok (.istore_n 1, 1) := by decide +kernel
theorem dX7_isName_2 : decode cX7_isName 2 = .ok (.iload_n 1, 1) := by decide +kernel
theorem dX7_isName_3 : decode cX7_isName 3 = .ok (.aload_n 0, 1) := by decide +kernel
theorem dX7_isName_4 : decode cX7_isName 4 = .ok (.getfield 15, 3) := by decide +kernel
theorem dX7_isName_7 : decode cX7_isName 7 = .ok (.if_icmp .ge 75, 3) := by decide +kernel
theorem dX7_isName_10 : decode cX7_isName 10 = .ok (.aload_n 0, 1) := by decide +kernel
theorem dX7_isName_11 : decode cX7_isName 11 = .ok (.getfield 9, 3) := by decide +kernel
theorem dX7_isName_14 : decode cX7_isName 14 = .ok (.iload_n 1, 1) := by decide +kernel
theorem dX7_isName_15 : decode cX7_isName 15 = .ok (.iaload, 1) := by decide +kernel
theorem dX7_isName_16 : decode cX7_isName 16 = .ok (.bipush 97, 2) := by decide +kernel
theorem dX7_isName_18 : decode cX7_isName 18 = .ok (.if_icmp .lt 18, 3) := by decide +kernel
theorem dX7_isName_21 : decode cX7_isName 21 = .ok (.aload_n 0, 1) := by decide +kernel
theorem dX7_isName_22 : decode cX7_isName 22 = .ok (.getfield 9, 3) := by decide +kernel
theorem dX7_isName_25 : decode cX7_isName 25 = .ok (.iload_n 1, 1) := by decide +kernel
theorem dX7_isName_26 : decode cX7_isName 26 = .ok (.iaload, 1) := by decide +kernel
theorem dX7_isName_27 : decode cX7_isName 27 = .ok (.bipush 122, 2) := by decide +kernel
theorem dX7_isName_29 : decode cX7_isName 29 = .ok (.if_icmp .gt 7, 3) := by decide +kernel
theorem dX7_isName_32 : decode cX7_isName 32 = .ok (.iconst 1, 1) := by decide +kernel
theorem dX7_isName_33 : decode cX7_isName 33 = .ok (.goto 4, 3) := by decide +kernel
theorem dX7_isName_36 : decode cX7_isName 36 = .ok (.iconst 0, 1) := by decide +kernel
theorem dX7_isName_37 : decode cX7_isName 37 = .ok (.istore_n 2, 1) := by decide +kernel
theorem dX7_isName_38 : decode cX7_isName 38 = .ok (.aload_n 0, 1) := by decide +kernel
theorem dX7_isName_39 : decode cX7_isName 39 = .ok (.getfield 9, 3) := by decide +kernel
theorem dX7_isName_42 : decode cX7_isName 42 = .ok (.iload_n 1, 1) := by decide +kernel
theorem dX7_isName_43 : decode cX7_isName 43 = .ok (.iaload, 1) := by decide +kernel
theorem dX7_isName_44 : decode cX7_isName 44 = .ok (.bipush 65, 2) := by decide +kernel
theorem dX7_isName_46 : decode cX7_isName 46 = .ok (.if_icmp .lt 18, 3) := by decide +kernel
theorem dX7_isName_49 : decode cX7_isName 49 = .ok (.aload_n 0, 1) := by decide +kernel
theorem dX7_isName_50 : decode cX7_isName 50 = .ok (.getfield 9, 3) := by decide +kernel
theorem dX7_isName_53 : decode cX7_isName 53 = .ok (.iload_n 1, 1) := by decide +kernel
theorem dX7_isName_54 : decode cX7_isName 54 = .ok (.iaload, 1) := by decide +kernel
theorem dX7_isName_55 : decode cX7_isName 55 = .ok (.bipush 90, 2) := by decide +kernel
theorem dX7_isName_57 : decode cX7_isName 57 = .ok (.if_icmp .gt 7, 3) := by decide +kernel
theorem dX7_isName_60 : decode cX7_isName 60 = .ok (.iconst 1, 1) := by decide +kernel
theorem dX7_isName_61 : decode cX7_isName 61 = .ok (.goto 4, 3) := by decide +kernel
theorem dX7_isName_64 : decode cX7_isName 64 = .ok (.iconst 0, 1) := by decide +kernel
theorem dX7_isName_65 : decode cX7_isName 65 = .ok (.istore_n 3, 1) := by decide +kernel
theorem dX7_isName_66 : decode cX7_isName 66 = .ok (.iload_n 2, 1) := by decide +kernel
theorem dX7_isName_67 : decode cX7_isName 67 = .ok (.ifCond .ne 9, 3) := by decide +kernel
theorem dX7_isName_70 : decode cX7_isName 70 = .ok (.iload_n 3, 1) := by decide +kernel
theorem dX7_isName_71 : decode cX7_isName 71 = .ok (.ifCond .ne 5, 3) := by decide +kernel
theorem dX7_isName_74 : decode cX7_isName 74 = .ok (.iconst 0, 1) := by decide +kernel
theorem dX7_isName_75 : decode cX7_isName 75 = .ok (.ireturn, 1) := by decide +kernel
theorem dX7_isName_76 : decode cX7_isName 76 = .ok (.iinc 1 1, 3) := by decide +kernel
theorem dX7_isName_79 : decode cX7_isName 79 = .ok (.goto (-77), 3) := by decide +kernel
theorem dX7_isName_82 : decode cX7_isName 82 = .ok (.aload_n 0, 1) := by decide +kernel
theorem dX7_isName_83 : decode cX7_isName 83 = .ok (.getfield 15, 3) := by decide +kernel
theorem dX7_isName_86 : decode cX7_isName 86 = .ok (.iconst 1, 1) := by decide +kernel
theorem dX7_isName_87 : decode cX7_isName 87 = .ok (.if_icmp .lt 16, 3) := by decide +kernel
theorem dX7_isName_90 : decode cX7_isName 90 = .ok (.aload_n 0, 1) := by decide +kernel
theorem dX7_isName_91 : decode cX7_isName 91 = .ok (.getfield 15, 3) := by decide +kernel
theorem dX7_isName_94 : decode cX7_isName 94 = .ok (.bipush 6, 2) := by decide +kernel
theorem dX7_isName_96 : decode cX7_isName 96 = .ok (.if_icmp .gt 7, 3) := by decide +kernel
theorem dX7_isName_99 : decode cX7_isName 99 = .ok (.iconst 1, 1) := by decide +kernel
theorem dX7_isName_100 : decode cX7_isName 100 = .ok (.goto 4, 3) := by decide +kernel
theorem dX7_isName_103 : decode cX7_isName 103 = .ok (.iconst 0, 1) := by decide +kernel
theorem dX7_isName_104 : decode cX7_isName 104 = .ok (.ireturn, 1) := by decide +kernel
theorem dX7_cutAll_0 : decode cX7_cutAll 0 = .ok (.aload_n 0, 1) := by decide +kernel
theorem dX7_cutAll_1 : decode cX7_cutAll 1 = .ok (.getfield 15, 3) := by decide +kernel
theorem dX7_cutAll_4 : decode cX7_cutAll 4 = .ok (.newarray .int, 2) := by decide +kernel
theorem dX7_cutAll_6 : decode cX7_cutAll 6 = .ok (.astore_n 1, 1) := by decide +kernel
theorem dX7_cutAll_7 : decode cX7_cutAll 7 = .ok (.aload_n 0, 1) := by decide +kernel
theorem dX7_cutAll_8 : decode cX7_cutAll 8 = .ok (.getfield 9, 3) := by decide +kernel
theorem dX7_cutAll_11 : decode cX7_cutAll 11 = .ok (.iconst 0, 1) := by decide +kernel
theorem dX7_cutAll_12 : decode cX7_cutAll 12 = .ok (.aload_n 1, 1) := by decide +kernel
theorem dX7_cutAll_13 : decode cX7_cutAll 13 = .ok (.iconst 0, 1) := by decide +kernel
theorem dX7_cutAll_14 : decode cX7_cutAll 14 = .ok (.aload_n 0, 1) := by decide +kernel
theorem dX7_cutAll_15 : decode cX7_cutAll 15 = .ok (.getfield 15, 3) := by decide +kernel
theorem dX7_cutAll_18 : decode cX7_cutAll 18 = .ok (.invokestatic 19, 3) := by decide +kernel
theorem dX7_cutAll_21 : decode cX7_cutAll 21 = .ok (.aload_n 0, 1) := by decide +kernel
theorem dX7_cutAll_22 : decode cX7_cutAll 22 = .ok (.iconst 0, 1) := by decide +kernel
theorem dX7_cutAll_23 : decode cX7_cutAll 23 = .ok (.putfield 15, 3) := by decide +kernel
theorem dX7_cutAll_26 : decode cX7_cutAll 26 = .ok (.aload_n 1, 1) := by decide +kernel
theorem dX7_cutAll_27 : decode cX7_cutAll 27 = .ok (.areturn, 1) := by decide +kernel
theorem dX8_init_0 : decode cX8_init 0 = .ok (.aload_n 0, 1) := by decide +kernel
theorem dX8_init_1 : decode cX8_init 1 = .ok (.invokespecial 3, 3) := by decide +kernel
theorem dX8_init_4 : decode cX8_init 4 = .ok (.aload_n 0, 1) := by decide +kernel
theorem dX8_init_5 : decode cX8_init 5 = .ok (.sipush 250, 3) := by decide +kernel
theorem dX8_init_8 : decode cX8_init 8 = .ok (.anewarray 9, 3) := by decide +kernel
theorem dX8_init_11 : decode cX8_init 11 = .ok (.putfield 11, 3) := by decide +kernel
theorem dX8_init_14 : decode cX8_init 14 = .ok (.aload_n 0, 1) := by decide +kernel
theorem dX8_init_15 : decode cX8_init 15 = .ok (.sipush 3000, 3) := by decide +kernel
theorem dX8_init_18 : decode cX8_init 18 = .ok (.newarray .int, 2) := by decide +kernel
theorem dX8_init_20 : decode cX8_init 20 = .ok (.putfield 17, 3) := by decide +kernel
theorem dX8_init_23 : decode cX8_init 23 = .ok (.return_, 1) := by decide +kernel
theorem dX8_clear_0 : decode cX8_clear 0 = .ok (.aload_n 0, 1) := by decide +kernel
theorem dX8_clear_1 : decode cX8_clear 1 = .ok (.iconst 0, 1) := by decide +kernel
theorem dX8_clear_2 : decode cX8_clear 2 = .ok (.putfield 21, 3) := by decide +kernel
theorem dX8_clear_5 : decode cX8_clear 5 = .ok (.aload_n 0, 1) := by decide +kernel
theorem dX8_clear_6 : decode cX8_clear 6 = .ok (.iconst 0, 1) := by decide +kernel
theorem dX8_clear_7 : decode cX8_clear 7 = .ok (.putfield 25, 3) := by decide +kernel
theorem dX8_clear_10 : decode cX8_clear 10 = .ok (.aload_n 0, 1) := by decide +kernel
theorem dX8_clear_11 : decode cX8_clear 11 = .ok (.iconst 0, 1) := by decide +kernel
theorem dX8_clear_12 : decode cX8_clear 12 = .ok (.putfield 28, 3) := by decide +kernel
theorem dX8_clear_15 : decode cX8_clear 15 = .ok (.return_, 1) := by decide +kernel
theorem dX8_at_0 : decode cX8_at 0 = .ok (.iload_n 1, 1) := by decide +kernel
theorem dX8_at_1 : decode cX8_at 1 = .ok (.ifCond .lt 20, 3) := by decide +kernel
theorem dX8_at_4 : decode cX8_at 4 = .ok (.iload_n 1, 1) := by decide +kernel
theorem dX8_at_5 : decode cX8_at 5 = .ok (.aload_n 0, 1) := by decide +kernel
theorem dX8_at_6 : decode cX8_at 6 = .ok (.getfield 25, 3) := by decide +kernel
theorem dX8_at_9 : decode cX8_at 9 = .ok (.if_icmp .ge 12, 3) := by decide +kernel
theorem dX8_at_12 : decode cX8_at 12 = .ok (.aload_n 0, 1) := by decide +kernel
theorem dX8_at_13 : decode cX8_at 13 = .ok (.getfield 11, 3) := by decide +kernel
theorem dX8_at_16 : decode cX8_at 16 = .ok (.iload_n 1, 1) := by decide +kernel
theorem dX8_at_17 : decode cX8_at 17 = .ok (.aaload, 1) := by decide +kernel
theorem dX8_at_18 : decode cX8_at 18 = .ok (.goto 4, 3) := by decide +kernel
theorem dX8_at_21 : decode cX8_at 21 = .ok (.aconst_null, 1) := by decide +kernel
theorem dX8_at_22 : decode cX8_at 22 = .ok (.areturn, 1) := by decide +kernel
theorem dX8_open_0 : decode cX8_open 0 = .ok (.aload_n 0, 1) := by decide +kernel
theorem dX8_open_1 : decode cX8_open 1 = .ok (.getfield 25, 3) := by decide +kernel
theorem dX8_open_4 : decode cX8_open 4 = .ok (.sipush 250, 3) := by decide +kernel
theorem dX8_open_7 : decode cX8_open 7 = .ok (.if_icmp .lt 9, 3) := by decide +kernel
theorem dX8_open_10 : decode cX8_open 10 = .ok (.aload_n 0, 1) := by decide +kernel
theorem dX8_open_11 : decode cX8_open 11 = .ok (.iconst 1, 1) := by decide +kernel
theorem dX8_open_12 : decode cX8_open 12 = .ok (.putfield 28, 3) := by decide +kernel
theorem dX8_open_15 : decode cX8_open 15 = .ok (.return_, 1) := by decide +kernel
theorem dX8_open_16 : decode cX8_open 16 = .ok (.aload_n 0, 1) := by decide +kernel
theorem dX8_open_17 : decode cX8_open 17 = .ok (.getfield 11, 3) := by decide +kernel
theorem dX8_open_20 : decode cX8_open 20 = .ok (.aload_n 0, 1) := by decide +kernel
theorem dX8_open_21 : decode cX8_open 21 = .ok (.getfield 25, 3) := by decide +kernel
theorem dX8_open_24 : decode cX8_open 24 = .ok (.aaload, 1) := by decide +kernel
theorem dX8_open_25 : decode cX8_open 25 = .ok (.ifnonnull 20, 3) := by decide +kernel
theorem dX8_open_28 : decode cX8_open 28 = .ok (.aload_n 0, 1) := by decide +kernel
theorem dX8_open_29 : decode cX8_open 29 = .ok (.getfield 11, 3) := by decide +kernel
theorem dX8_open_32 : decode cX8_open 32 = .ok (.aload_n 0, 1) := by decide +kernel
theorem dX8_open_33 : decode cX8_open 33 = .ok (.getfield 25, 3) := by decide +kernel
theorem dX8_open_36 : decode cX8_open 36 = .ok (.new 9, 3) := by decide +kernel
theorem dX8_open_39 : decode cX8_open 39 = .ok (.dup, 1) := by decide +kernel
theorem dX8_open_40 : decode cX8_open 40 = .ok (.aload_n 1, 1) := by decide +kernel
theorem dX8_open_41 : decode cX8_open 41 = .ok (.invokespecial 32, 3) := by decide +kernel
theorem dX8_open_44 : decode cX8_open 44 = .ok (.aastore, 1) := by decide +kernel
theorem dX8_open_45 : decode cX8_open 45 = .ok (.aload_n 0, 1) := by decide +kernel
theorem dX8_open_46 : decode cX8_open 46 = .ok (.getfield 11, 3) := by decide +kernel
theorem dX8_open_49 : decode cX8_open 49 = .ok (.aload_n 0, 1) := by decide +kernel
theorem dX8_open_50 : decode cX8_open 50 = .ok (.getfield 25, 3) := by decide +kernel
theorem dX8_open_53 : decode cX8_open 53 = .ok (.aaload, 1) := by decide +kernel
theorem dX8_open_54 : decode cX8_open 54 = .ok (.astore 6, 2) := by decide +kernel
theorem dX8_open_56 : decode cX8_open 56 = .ok (.aload 6, 2) := by decide +kernel
theorem dX8_open_58 : decode cX8_open 58 = .ok (.aload_n 1, 1) := by decide +kernel
theorem dX8_open_59 : decode cX8_open 59 = .ok (.putfield 35, 3) := by decide +kernel
theorem dX8_open_62 : decode cX8_open 62 = .ok (.aload 6, 2) := by decide +kernel
theorem dX8_open_64 : decode cX8_open 64 = .ok (.iload_n 2, 1) := by decide +kernel
theorem dX8_open_65 : decode cX8_open 65 = .ok (.putfield 39, 3) := by decide +kernel
theorem dX8_open_68 : decode cX8_open 68 = .ok (.aload 6, 2) := by decide +kernel
theorem dX8_open_70 : decode cX8_open 70 = .ok (.iload_n 3, 1) := by decide +kernel
theorem dX8_open_71 : decode cX8_open 71 = .ok (.putfield 42, 3) := by decide +kernel
theorem dX8_open_74 : decode cX8_open 74 = .ok (.aload 6, 2) := by decide +kernel
theorem dX8_open_76 : decode cX8_open 76 = .ok (.iload 4, 2) := by decide +kernel
theorem dX8_open_78 : decode cX8_open 78 = .ok (.putfield 45, 3) := by decide +kernel
theorem dX8_open_81 : decode cX8_open 81 = .ok (.aload 6, 2) := by decide +kernel
theorem dX8_open_83 : decode cX8_open 83 = .ok (.iload 5, 2) := by decide +kernel
theorem dX8_open_85 : decode cX8_open 85 = .ok (.putfield 48, 3) := by decide +kernel
theorem dX8_open_88 : decode cX8_open 88 = .ok (.aload 6, 2) := by decide +kernel
theorem dX8_open_90 : decode cX8_open 90 = .ok (.aload_n 0, 1) := by decide +kernel
theorem dX8_open_91 : decode cX8_open 91 = .ok (.getfield 21, 3) := by decide +kernel
theorem dX8_open_94 : decode cX8_open 94 = .ok (.putfield 51, 3) := by decide +kernel
theorem dX8_open_97 : decode cX8_open 97 = .ok (.aload 6, 2) := by decide +kernel
theorem dX8_open_99 : decode cX8_open 99 = .ok (.iconst 0, 1) := by decide +kernel
theorem dX8_open_100 : decode cX8_open 100 = .ok (.putfield 54, 3) := by decide +kernel
theorem dX8_open_103 : decode cX8_open 103 = .ok (.aload 6, 2) := by decide +kernel
theorem dX8_open_105 : decode cX8_open 105 = .ok (.aconst_null, 1) := by decide +kernel
theorem dX8_open_106 : decode cX8_open 106 = .ok (.putfield 57, 3) := by decide +kernel
theorem dX8_open_109 : decode cX8_open 109 = .ok (.aload_n 0, 1) := by decide +kernel
theorem dX8_open_110 : decode cX8_open 110 = .ok (.dup, 1) := by decide +kernel
theorem dX8_open_111 : decode cX8_open 111 = .ok (.getfield 25, 3) := by decide +kernel
theorem dX8_open_114 : decode cX8_open 114 = .ok (.iconst 1, 1) := by decide +kernel
theorem dX8_open_115 : decode cX8_open 115 = .ok (.iadd, 1) := by decide +kernel
theorem dX8_open_116 : decode cX8_open 116 = .ok (.putfield 25, 3) := by decide +kernel
theorem dX8_open_119 : decode cX8_open 119 = .ok (.return_, 1) := by decide +kernel
theorem dX8_putMade_0 : decode cX8_putMade 0 = .ok (.iload_n 2, 1) := by decide +kernel
theorem dX8_putMade_1 : decode cX8_putMade 1 = .ok (.ifCond .lt 19, 3) := by decide +kernel
theorem dX8_putMade_4 : decode cX8_putMade 4 = .ok (.iload_n 3, 1) := by decide +kernel
theorem dX8_putMade_5 : decode cX8_putMade 5 = .ok (.ifCond .lt 15, 3) := by decide +kernel
theorem dX8_putMade_8 : decode cX8_putMade 8 = .ok (.iload_n 2, 1) := by decide +kernel
theorem dX8_putMade_9 : decode cX8_putMade 9 = .ok (.iload_n 3, 1) := by decide +kernel
theorem dX8_putMade_10 : decode cX8_putMade 10 = .ok (.iadd, 1) := by decide +kernel
theorem dX8_putMade_11 : decode cX8_putMade 11 = .ok (.aload_n 1, 1) := by decide +kernel
theorem dX8_putMade_12 : decode cX8_putMade 12 = .ok (.arraylength, 1) := by decide +kernel
theorem dX8_putMade_13 : decode cX8_putMade 13 = .ok (.if_icmp .gt 7, 3) := by decide +kernel
theorem dX8_putMade_16 : decode cX8_putMade 16 = .ok (.iconst 1, 1) := by decide +kernel
theorem dX8_putMade_17 : decode cX8_putMade 17 = .ok (.goto 4, 3) := by decide +kernel
theorem dX8_putMade_20 : decode cX8_putMade 20 = .ok (.iconst 0, 1) := by decide +kernel
theorem dX8_putMade_21 : decode cX8_putMade 21 = .ok (.istore 4, 2) := by decide +kernel
theorem dX8_putMade_23 : decode cX8_putMade 23 = .ok (.aload_n 0, 1) := by decide +kernel
theorem dX8_putMade_24 : decode cX8_putMade 24 = .ok (.getfield 28, 3) := by decide +kernel
theorem dX8_putMade_27 : decode cX8_putMade 27 = .ok (.ifCond .ne 27, 3) := by decide +kernel
theorem dX8_putMade_30 : decode cX8_putMade 30 = .ok (.aload_n 0, 1) := by decide +kernel
theorem dX8_putMade_31 : decode cX8_putMade 31 = .ok (.getfield 25, 3) := by decide +kernel
theorem dX8_putMade_34 : decode cX8_putMade 34 = .ok (.ifCond .eq 20, 3) := by decide +kernel
theorem dX8_putMade_37 : decode cX8_putMade 37 = .ok (.iload 4, 2) := by decide +kernel
theorem dX8_putMade_39 : decode cX8_putMade 39 = .ok (.ifCond .eq 15, 3) := by decide +kernel
theorem dX8_putMade_42 : decode cX8_putMade 42 = .ok (.aload_n 0, 1) := by decide +kernel
theorem dX8_putMade_43 : decode cX8_putMade 43 = .ok (.getfield 21, 3) := by decide +kernel
theorem dX8_putMade_46 : decode cX8_putMade 46 = .ok (.iload_n 3, 1) := by decide +kernel
theorem dX8_putMade_47 : decode cX8_putMade 47 = .ok (.iadd, 1) := by decide +kernel
theorem dX8_putMade_48 : decode cX8_putMade 48 = .ok (.sipush 3000, 3) := by decide +kernel
theorem dX8_putMade_51 : decode cX8_putMade 51 = .ok (.if_icmp .le 9, 3) := by decide +kernel
theorem dX8_putMade_54 : decode cX8_putMade 54 = .ok (.aload_n 0, 1) := by decide +kernel
theorem dX8_putMade_55 : decode cX8_putMade 55 = .ok (.iconst 1, 1) := by decide +kernel
theorem dX8_putMade_56 : decode cX8_putMade 56 = .ok (.putfield 28, 3) := by decide +kernel
theorem dX8_putMade_59 : decode cX8_putMade 59 = .ok (.return_, 1) := by decide +kernel
theorem dX8_putMade_60 : decode cX8_putMade 60 = .ok (.aload_n 1, 1) := by decide +kernel
theorem dX8_putMade_61 : decode cX8_putMade 61 = .ok (.iload_n 2, 1) := by decide +kernel
theorem dX8_putMade_62 : decode cX8_putMade 62 = .ok (.aload_n 0, 1) := by decide +kernel
theorem dX8_putMade_63 : decode cX8_putMade 63 = .ok (.getfield 17, 3) := by decide +kernel
theorem dX8_putMade_66 : decode cX8_putMade 66 = .ok (.aload_n 0, 1) := by decide +kernel
theorem dX8_putMade_67 : decode cX8_putMade 67 = .ok (.getfield 21, 3) := by decide +kernel
theorem dX8_putMade_70 : decode cX8_putMade 70 = .ok (.iload_n 3, 1) := by decide +kernel
theorem dX8_putMade_71 : decode cX8_putMade 71 = .ok (.invokestatic 61, 3) := by decide +kernel
theorem dX8_putMade_74 : decode cX8_putMade 74 = .ok (.aload_n 0, 1) := by decide +kernel
theorem dX8_putMade_75 : decode cX8_putMade 75 = .ok (.dup, 1) := by decide +kernel
theorem dX8_putMade_76 : decode cX8_putMade 76 = .ok (.getfield 21, 3) := by decide +kernel
theorem dX8_putMade_79 : decode cX8_putMade 79 = .ok (.iload_n 3, 1) := by decide +kernel
theorem dX8_putMade_80 : decode cX8_putMade 80 = .ok (.iadd, 1) := by decide +kernel
theorem dX8_putMade_81 : decode cX8_putMade 81 = .ok (.putfield 21, 3) := by decide +kernel
theorem dX8_putMade_84 : decode cX8_putMade 84 = .ok (.aload_n 0, 1) := by decide +kernel
theorem dX8_putMade_85 : decode cX8_putMade 85 = .ok (.getfield 11, 3) := by decide +kernel
theorem dX8_putMade_88 : decode cX8_putMade 88 = .ok (.aload_n 0, 1) := by decide +kernel
theorem dX8_putMade_89 : decode cX8_putMade 89 = .ok (.getfield 25, 3) := by decide +kernel
theorem dX8_putMade_92 : decode cX8_putMade 92 = .ok (.iconst 1, 1) := by decide +kernel
theorem dX8_putMade_93 : decode cX8_putMade 93 = .ok (.isub, 1) := by decide +kernel
theorem dX8_putMade_94 : decode cX8_putMade 94 = .ok (.aaload, 1) := by decide +kernel
theorem dX8_putMade_95 : decode cX8_putMade 95 = .ok (.iload_n 3, 1) := by decide +kernel
theorem dX8_putMade_96 : decode cX8_putMade 96 = .ok (.putfield 54, 3) := by decide +kernel
theorem dX8_putMade_99 : decode cX8_putMade 99 = .ok (.return_, 1) := by decide +kernel
theorem dX8_madeByte_0 : decode cX8_madeByte 0 = .ok (.iload_n 2, 1) := by decide +kernel
theorem dX8_madeByte_1 : decode cX8_madeByte 1 = .ok (.ifCond .lt 27, 3) := by decide +kernel
theorem dX8_madeByte_4 : decode cX8_madeByte 4 = .ok (.iload_n 2, 1) := by decide +kernel
theorem dX8_madeByte_5 : decode cX8_madeByte 5 = .ok (.aload_n 1, 1) := by decide +kernel
theorem dX8_madeByte_6 : decode cX8_madeByte 6 = .ok (.getfield 54, 3) := by decide +kernel
theorem dX8_madeByte_9 : decode cX8_madeByte 9 = .ok (.if_icmp .ge 19, 3) := by decide +kernel
theorem dX8_madeByte_12 : decode cX8_madeByte 12 = .ok (.aload_n 0, 1) := by decide +kernel
theorem dX8_madeByte_13 : decode cX8_madeByte 13 = .ok (.getfield 17, 3) := by decide +kernel
theorem dX8_madeByte_16 : decode cX8_madeByte 16 = .ok (.aload_n 1, 1) := by decide +kernel
theorem dX8_madeByte_17 : decode cX8_madeByte 17 = .ok (.getfield 51, 3) := by decide +kernel
theorem dX8_madeByte_20 : decode cX8_madeByte 20 = .ok (.iload_n 2, 1) := by decide +kernel
theorem dX8_madeByte_21 : decode cX8_madeByte 21 = .ok (.iadd, 1) := by decide +kernel
theorem dX8_madeByte_22 : decode cX8_madeByte 22 = .ok (.invokestatic 67, 3) := by decide +kernel
theorem dX8_madeByte_25 : decode cX8_madeByte 25 = .ok (.goto 4, 3) := by decide +kernel
theorem dX8_madeByte_28 : decode cX8_madeByte 28 = .ok (.iconst (-1), 1) := by decide +kernel
theorem dX8_madeByte_29 : decode cX8_madeByte 29 = .ok (.ireturn, 1) := by decide +kernel
theorem dX8_shownByte_0 : decode cX8_shownByte 0 = .ok (.aload_n 1, 1) := by decide +kernel
theorem dX8_shownByte_1 : decode cX8_shownByte 1 = .ok (.getfield 57, 3) := by decide +kernel
theorem dX8_shownByte_4 : decode cX8_shownByte 4 = .ok (.ifnonnull 12, 3) := by decide +kernel
theorem dX8_shownByte_7 : decode cX8_shownByte 7 = .ok (.aload_n 0, 1) := by decide +kernel
theorem dX8_shownByte_8 : decode cX8_shownByte 8 = .ok (.aload_n 1, 1) := by decide +kernel
theorem dX8_shownByte_9 : decode cX8_shownByte 9 = .ok (.iload_n 2, 1) := by decide +kernel
theorem dX8_shownByte_10 : decode cX8_shownByte 10 = .ok (.invokevirtual 71, 3) := by decide +kernel
theorem dX8_shownByte_13 : decode cX8_shownByte 13 = .ok (.goto 14, 3) := by decide +kernel
theorem dX8_shownByte_16 : decode cX8_shownByte 16 = .ok (.aload_n 1, 1) := by decide +kernel
theorem dX8_shownByte_17 : decode cX8_shownByte 17 = .ok (.getfield 57, 3) := by decide +kernel
theorem dX8_shownByte_20 : decode cX8_shownByte 20 = .ok (.getfield 75, 3) := by decide +kernel
theorem dX8_shownByte_23 : decode cX8_shownByte 23 = .ok (.iload_n 2, 1) := by decide +kernel
theorem dX8_shownByte_24 : decode cX8_shownByte 24 = .ok (.invokestatic 67, 3) := by decide +kernel
theorem dX8_shownByte_27 : decode cX8_shownByte 27 = .ok (.ireturn, 1) := by decide +kernel
theorem dX8_madeIs_0 : decode cX8_madeIs 0 = .ok (.aload_n 1, 1) := by decide +kernel
theorem dX8_madeIs_1 : decode cX8_madeIs 1 = .ok (.getfield 54, 3) := by decide +kernel
theorem dX8_madeIs_4 : decode cX8_madeIs 4 = .ok (.aload_n 2, 1) := by decide +kernel
theorem dX8_madeIs_5 : decode cX8_madeIs 5 = .ok (.arraylength, 1) := by decide +kernel
theorem dX8_madeIs_6 : decode cX8_madeIs 6 = .ok (.if_icmp .ne 7, 3) := by decide +kernel
theorem dX8_madeIs_9 : decode cX8_madeIs 9 = .ok (.iconst 1, 1) := by decide +kernel
theorem dX8_madeIs_10 : decode cX8_madeIs 10 = .ok (.goto 4, 3) := by decide +kernel
theorem dX8_madeIs_13 : decode cX8_madeIs 13 = .ok (.iconst 0, 1) := by decide +kernel
theorem dX8_madeIs_14 : decode cX8_madeIs 14 = .ok (.istore_n 3, 1) := by decide +kernel
theorem dX8_madeIs_15 : decode cX8_madeIs 15 = .ok (.iconst 0, 1) := by decide +kernel
theorem dX8_madeIs_16 : decode cX8_madeIs 16 = .ok (.istore 4, 2) := by decide +kernel
theorem dX8_madeIs_18 : decode cX8_madeIs 18 = .ok (.iload 4, 2) := by decide +kernel
theorem dX8_madeIs_20 : decode cX8_madeIs 20 = .ok (.aload_n 2, 1) := by decide +kernel
theorem dX8_madeIs_21 : decode cX8_madeIs 21 = .ok (.arraylength, 1) := by decide +kernel
theorem dX8_madeIs_22 : decode cX8_madeIs 22 = .ok (.if_icmp .ge 33, 3) := by decide +kernel
theorem dX8_madeIs_25 : decode cX8_madeIs 25 = .ok (.iload_n 3, 1) := by decide +kernel
theorem dX8_madeIs_26 : decode cX8_madeIs 26 = .ok (.ifCond .eq 29, 3) := by decide +kernel
theorem dX8_madeIs_29 : decode cX8_madeIs 29 = .ok (.aload_n 0, 1) := by decide +kernel
theorem dX8_madeIs_30 : decode cX8_madeIs 30 = .ok (.aload_n 1, 1) := by decide +kernel
theorem dX8_madeIs_31 : decode cX8_madeIs 31 = .ok (.iload 4, 2) := by decide +kernel
theorem dX8_madeIs_33 : decode cX8_madeIs 33 = .ok (.invokevirtual 71, 3) := by decide +kernel
theorem dX8_madeIs_36 : decode cX8_madeIs 36 = .ok (.aload_n 2, 1) := by decide +kernel
theorem dX8_madeIs_37 : decode cX8_madeIs 37 = .ok (.iload 4, 2) := by decide +kernel
theorem dX8_madeIs_39 : decode cX8_madeIs 39 = .ok (.iaload, 1) := by decide +kernel
theorem dX8_madeIs_40 : decode cX8_madeIs 40 = .ok (.if_icmp .ne 7, 3) := by decide +kernel
theorem dX8_madeIs_43 : decode cX8_madeIs 43 = .ok (.iconst 1, 1) := by decide +kernel
theorem dX8_madeIs_44 : decode cX8_madeIs 44 = .ok (.goto 4, 3) := by decide +kernel
theorem dX8_madeIs_47 : decode cX8_madeIs 47 = .ok (.iconst 0, 1) := by decide +kernel
theorem dX8_madeIs_48 : decode cX8_madeIs 48 = .ok (.istore_n 3, 1) := by decide +kernel
theorem dX8_madeIs_49 : decode cX8_madeIs 49 = .ok (.iinc 4 1, 3) := by decide +kernel
theorem dX8_madeIs_52 : decode cX8_madeIs 52 = .ok (.goto (-34), 3) := by decide +kernel
theorem dX8_madeIs_55 : decode cX8_madeIs 55 = .ok (.iload_n 3, 1) := by decide +kernel
theorem dX8_madeIs_56 : decode cX8_madeIs 56 = .ok (.ireturn, 1) := by decide +kernel
theorem dX8_copyOfMade_0 : decode cX8_copyOfMade 0 = .ok (.aload_n 1, 1) := by decide +kernel
theorem dX8_copyOfMade_1 : decode cX8_copyOfMade 1 = .ok (.getfield 54, 3) := by decide +kernel
theorem dX8_copyOfMade_4 : decode cX8_copyOfMade 4 = .ok (.newarray .int, 2) := by decide +kernel
theorem dX8_copyOfMade_6 : decode cX8_copyOfMade 6 = .ok (.astore_n 2, 1) := by decide +kernel
theorem dX8_copyOfMade_7 : decode cX8_copyOfMade 7 = .ok (.iconst 0, 1) := by decide +kernel
theorem dX8_copyOfMade_8 : decode cX8_copyOfMade 8 = .ok (.istore_n 3, 1) := by decide +kernel
theorem dX8_copyOfMade_9 : decode cX8_copyOfMade 9 = .ok (.iload_n 3, 1) := by decide +kernel
theorem dX8_copyOfMade_10 : decode cX8_copyOfMade 10 = .ok (.aload_n 2, 1) := by decide +kernel
theorem dX8_copyOfMade_11 : decode cX8_copyOfMade 11 = .ok (.arraylength, 1) := by decide +kernel
theorem dX8_copyOfMade_12 : decode cX8_copyOfMade 12 = .ok (.if_icmp .ge 18, 3) := by decide +kernel
theorem dX8_copyOfMade_15 : decode cX8_copyOfMade 15 = .ok (.aload_n 2, 1) := by decide +kernel
theorem dX8_copyOfMade_16 : decode cX8_copyOfMade 16 = .ok (.iload_n 3, 1) := by decide +kernel
theorem dX8_copyOfMade_17 : decode cX8_copyOfMade 17 = .ok (.aload_n 0, 1) := by decide +kernel
theorem dX8_copyOfMade_18 : decode cX8_copyOfMade 18 = .ok (.aload_n 1, 1) := by decide +kernel
theorem dX8_copyOfMade_19 : decode cX8_copyOfMade 19 = .ok (.iload_n 3, 1) := by decide +kernel
theorem dX8_copyOfMade_20 : decode cX8_copyOfMade 20 = .ok (.invokevirtual 71, 3) := by decide +kernel
theorem dX8_copyOfMade_23 : decode cX8_copyOfMade 23 = .ok (.iastore, 1) := by decide +kernel
theorem dX8_copyOfMade_24 : decode cX8_copyOfMade 24 = .ok (.iinc 3 1, 3) := by decide +kernel
theorem dX8_copyOfMade_27 : decode cX8_copyOfMade 27 = .ok (.goto (-18), 3) := by decide +kernel
theorem dX8_copyOfMade_30 : decode cX8_copyOfMade 30 = .ok (.aload_n 2, 1) := by decide +kernel
theorem dX8_copyOfMade_31 : decode cX8_copyOfMade 31 = .ok (.areturn, 1) := by decide +kernel
theorem dX8_isClash_0 : decode cX8_isClash 0 = .ok (.aload_n 1, 1) := by decide +kernel
theorem dX8_isClash_1 : decode cX8_isClash 1 = .ok (.getfield 57, 3) := by decide +kernel
theorem dX8_isClash_4 : decode cX8_isClash 4 = .ok (.ifnull 22, 3) := by decide +kernel
theorem dX8_isClash_7 : decode cX8_isClash 7 = .ok (.aload_n 0, 1) := by decide +kernel
theorem dX8_isClash_8 : decode cX8_isClash 8 = .ok (.aload_n 1, 1) := by decide +kernel
theorem dX8_isClash_9 : decode cX8_isClash 9 = .ok (.aload_n 1, 1) := by decide +kernel
theorem dX8_isClash_10 : decode cX8_isClash 10 = .ok (.getfield 57, 3) := by decide +kernel
theorem dX8_isClash_13 : decode cX8_isClash 13 = .ok (.getfield 80, 3) := by decide +kernel
theorem dX8_isClash_16 : decode cX8_isClash 16 = .ok (.invokevirtual 83, 3) := by decide +kernel
theorem dX8_isClash_19 : decode cX8_isClash 19 = .ok (.ifCond .ne 7, 3) := by decide +kernel
theorem dX8_isClash_22 : decode cX8_isClash 22 = .ok (.iconst 1, 1) := by decide +kernel
theorem dX8_isClash_23 : decode cX8_isClash 23 = .ok (.goto 4, 3) := by decide +kernel
theorem dX8_isClash_26 : decode cX8_isClash 26 = .ok (.iconst 0, 1) := by decide +kernel
theorem dX8_isClash_27 : decode cX8_isClash 27 = .ok (.ireturn, 1) := by decide +kernel
theorem dX8_countClashes_0 : decode cX8_countClashes 0 = .ok (.iconst 0, 1) := by decide +kernel
theorem dX8_countClashes_1 : decode cX8_countClashes 1 = .ok (.istore_n 1, 1) := by decide +kernel
theorem dX8_countClashes_2 : decode cX8_countClashes 2 = .ok (.iconst 0, 1) := by decide +kernel
theorem dX8_countClashes_3 : decode cX8_countClashes 3 = .ok (.istore_n 2, 1) := by decide +kernel
theorem dX8_countClashes_4 : decode cX8_countClashes 4 = .ok (.iload_n 2, 1) := by decide +kernel
theorem dX8_countClashes_5 : decode cX8_countClashes 5 = .ok (.aload_n 0, 1) := by decide +kernel
theorem dX8_countClashes_6 : decode cX8_countClashes 6 = .ok (.getfield 25, 3) := by decide +kernel
theorem dX8_countClashes_9 : decode cX8_countClashes 9 = .ok (.if_icmp .ge 25, 3) := by decide +kernel
theorem dX8_countClashes_12 : decode cX8_countClashes 12 = .ok (.aload_n 0, 1) := by decide +kernel
theorem dX8_countClashes_13 : decode cX8_countClashes 13 = .ok (.aload_n 0, 1) := by decide +kernel
theorem dX8_countClashes_14 : decode cX8_countClashes 14 = .ok (.getfield 11, 3) := by decide +kernel
theorem dX8_countClashes_17 : decode cX8_countClashes 17 = .ok (.iload_n 2, 1) := by decide +kernel
theorem dX8_countClashes_18 : decode cX8_countClashes 18 = .ok (.aaload, 1) := by decide +kernel
theorem dX8_countClashes_19 : decode cX8_countClashes 19 = .ok (.invokevirtual 87, 3) := by decide +kernel
theorem dX8_countClashes_22 : decode cX8_countClashes 22 = .ok (.ifCond .eq 6, 3) := by decide +kernel
theorem dX8_countClashes_25 : decode cX8_countClashes 25 = .ok (.iinc 1 1, 3) := by decide +kernel
theorem dX8_countClashes_28 : decode cX8_countClashes 28 = .ok (.iinc 2 1, 3) := by decide +kernel
theorem dX8_countClashes_31 : decode cX8_countClashes 31 = .ok (.goto (-27), 3) := by decide +kernel
theorem dX8_countClashes_34 : decode cX8_countClashes 34 = .ok (.iload_n 1, 1) := by decide +kernel
theorem dX8_countClashes_35 : decode cX8_countClashes 35 = .ok (.ireturn, 1) := by decide +kernel
theorem dX8_shownBefore_0 : decode cX8_shownBefore 0 = .ok (.iconst 0, 1) := by decide +kernel
theorem dX8_shownBefore_1 : decode cX8_shownBefore 1 = .ok (.istore_n 2, 1) := by decide +kernel
theorem dX8_shownBefore_2 : decode cX8_shownBefore 2 = .ok (.iconst 0, 1) := by decide +kernel
theorem dX8_shownBefore_3 : decode cX8_shownBefore 3 = .ok (.istore_n 3, 1) := by decide +kernel
theorem dX8_shownBefore_4 : decode cX8_shownBefore 4 = .ok (.iload_n 3, 1) := by decide +kernel
theorem dX8_shownBefore_5 : decode cX8_shownBefore 5 = .ok (.iload_n 1, 1) := by decide +kernel
theorem dX8_shownBefore_6 : decode cX8_shownBefore 6 = .ok (.if_icmp .ge 29, 3) := by decide +kernel
theorem dX8_shownBefore_9 : decode cX8_shownBefore 9 = .ok (.iload_n 3, 1) := by decide +kernel
theorem dX8_shownBefore_10 : decode cX8_shownBefore 10 = .ok (.aload_n 0, 1) := by decide +kernel
theorem dX8_shownBefore_11 : decode cX8_shownBefore 11 = .ok (.getfield 25, 3) := by decide +kernel
theorem dX8_shownBefore_14 : decode cX8_shownBefore 14 = .ok (.if_icmp .ge 21, 3) := by decide +kernel
theorem dX8_shownBefore_17 : decode cX8_shownBefore 17 = .ok (.iload_n 2, 1) := by decide +kernel
theorem dX8_shownBefore_18 : decode cX8_shownBefore 18 = .ok (.aload_n 0, 1) := by decide +kernel
theorem dX8_shownBefore_19 : decode cX8_shownBefore 19 = .ok (.getfield 11, 3) := by decide +kernel
theorem dX8_shownBefore_22 : decode cX8_shownBefore 22 = .ok (.iload_n 3, 1) := by decide +kernel
theorem dX8_shownBefore_23 : decode cX8_shownBefore 23 = .ok (.aaload, 1) := by decide +kernel
theorem dX8_shownBefore_24 : decode cX8_shownBefore 24 = .ok (.invokevirtual 91, 3) := by decide +kernel
theorem dX8_shownBefore_27 : decode cX8_shownBefore 27 = .ok (.iadd, 1) := by decide +kernel
theorem dX8_shownBefore_28 : decode cX8_shownBefore 28 = .ok (.istore_n 2, 1) := by decide +kernel
theorem dX8_shownBefore_29 : decode cX8_shownBefore 29 = .ok (.iinc 3 1, 3) := by decide +kernel
theorem dX8_shownBefore_32 : decode cX8_shownBefore 32 = .ok (.goto (-28), 3) := by decide +kernel
theorem dX8_shownBefore_35 : decode cX8_shownBefore 35 = .ok (.iload_n 2, 1) := by decide +kernel
theorem dX8_shownBefore_36 : decode cX8_shownBefore 36 = .ok (.ireturn, 1) := by decide +kernel
theorem dX8_showing_0 : decode cX8_showing 0 = .ok (.iload_n 1, 1) := by decide +kernel
theorem dX8_showing_1 : decode cX8_showing 1 = .ok (.istore_n 2, 1) := by decide +kernel
theorem dX8_showing_2 : decode cX8_showing 2 = .ok (.iconst 0, 1) := by decide +kernel
theorem dX8_showing_3 : decode cX8_showing 3 = .ok (.istore_n 3, 1) := by decide +kernel
theorem dX8_showing_4 : decode cX8_showing 4 = .ok (.iload_n 3, 1) := by decide +kernel
theorem dX8_showing_5 : decode cX8_showing 5 = .ok (.aload_n 0, 1) := by decide +kernel
theorem dX8_showing_6 : decode cX8_showing 6 = .ok (.getfield 25, 3) := by decide +kernel
theorem dX8_showing_9 : decode cX8_showing 9 = .ok (.if_icmp .ge 37, 3) := by decide +kernel
theorem dX8_showing_12 : decode cX8_showing 12 = .ok (.iload_n 2, 1) := by decide +kernel
theorem dX8_showing_13 : decode cX8_showing 13 = .ok (.ifCond .lt 33, 3) := by decide +kernel
theorem dX8_showing_16 : decode cX8_showing 16 = .ok (.aload_n 0, 1) := by decide +kernel
theorem dX8_showing_17 : decode cX8_showing 17 = .ok (.getfield 11, 3) := by decide +kernel
theorem dX8_showing_20 : decode cX8_showing 20 = .ok (.iload_n 3, 1) := by decide +kernel
theorem dX8_showing_21 : decode cX8_showing 21 = .ok (.aaload, 1) := by decide +kernel
theorem dX8_showing_22 : decode cX8_showing 22 = .ok (.invokevirtual 91, 3) := by decide +kernel
theorem dX8_showing_25 : decode cX8_showing 25 = .ok (.istore 4, 2) := by decide +kernel
theorem dX8_showing_27 : decode cX8_showing 27 = .ok (.iload_n 2, 1) := by decide +kernel
theorem dX8_showing_28 : decode cX8_showing 28 = .ok (.iload 4, 2) := by decide +kernel
theorem dX8_showing_30 : decode cX8_showing 30 = .ok (.if_icmp .ge 5, 3) := by decide +kernel
theorem dX8_showing_33 : decode cX8_showing 33 = .ok (.iload_n 3, 1) := by decide +kernel
theorem dX8_showing_34 : decode cX8_showing 34 = .ok (.ireturn, 1) := by decide +kernel
theorem dX8_showing_35 : decode cX8_showing 35 = .ok (.iload_n 2, 1) := by decide +kernel
theorem dX8_showing_36 : decode cX8_showing 36 = .ok (.iload 4, 2) := by decide +kernel
theorem dX8_showing_38 : decode cX8_showing 38 = .ok (.isub, 1) := by decide +kernel
theorem dX8_showing_39 : decode cX8_showing 39 = .ok (.istore_n 2, 1) := by decide +kernel
theorem dX8_showing_40 : decode cX8_showing 40 = .ok (.iinc 3 1, 3) := by decide +kernel
theorem dX8_showing_43 : decode cX8_showing 43 = .ok (.goto (-39), 3) := by decide +kernel
theorem dX8_showing_46 : decode cX8_showing 46 = .ok (.iconst (-1), 1) := by decide +kernel
theorem dX8_showing_47 : decode cX8_showing 47 = .ok (.ireturn, 1) := by decide +kernel
theorem dX8_takeHands_0 : decode cX8_takeHands 0 = .ok (.iconst 0, 1) := by decide +kernel
theorem dX8_takeHands_1 : decode cX8_takeHands 1 = .ok (.istore_n 2, 1) := by decide +kernel
theorem dX8_takeHands_2 : decode cX8_takeHands 2 = .ok (.iconst 0, 1) := by decide +kernel
theorem dX8_takeHands_3 : decode cX8_takeHands 3 = .ok (.istore_n 3, 1) := by decide +kernel
theorem dX8_takeHands_4 : decode cX8_takeHands 4 = .ok (.iconst 0, 1) := by decide +kernel
theorem dX8_takeHands_5 : decode cX8_takeHands 5 = .ok (.istore 4, 2) := by decide +kernel
theorem dX8_takeHands_7 : decode cX8_takeHands 7 = .ok (.iload 4, 2) := by decide +kernel
theorem dX8_takeHands_9 : decode cX8_takeHands 9 = .ok (.aload_n 1, 1) := by decide +kernel
theorem dX8_takeHands_10 : decode cX8_takeHands 10 = .ok (.getfield 25, 3) := by decide +kernel
theorem dX8_takeHands_13 : decode cX8_takeHands 13 = .ok (.if_icmp .ge 124, 3) := by decide +kernel
theorem dX8_takeHands_16 : decode cX8_takeHands 16 = .ok (.aload_n 1, 1) := by decide +kernel
theorem dX8_takeHands_17 : decode cX8_takeHands 17 = .ok (.getfield 11, 3) := by decide +kernel
theorem dX8_takeHands_20 : decode cX8_takeHands 20 = .ok (.iload 4, 2) := by decide +kernel
theorem dX8_takeHands_22 : decode cX8_takeHands 22 = .ok (.aaload, 1) := by decide +kernel
theorem dX8_takeHands_23 : decode cX8_takeHands 23 = .ok (.astore 5, 2) := by decide +kernel
theorem dX8_takeHands_25 : decode cX8_takeHands 25 = .ok (.aload 5, 2) := by decide +kernel
theorem dX8_takeHands_27 : decode cX8_takeHands 27 = .ok (.getfield 57, 3) := by decide +kernel
theorem dX8_takeHands_30 : decode cX8_takeHands 30 = .ok (.ifnonnull 7, 3) := by decide +kernel
theorem dX8_takeHands_33 : decode cX8_takeHands 33 = .ok (.iconst (-1), 1) := by decide +kernel
theorem dX8_takeHands_34 : decode cX8_takeHands 34 = .ok (.goto 10, 3) := by decide +kernel
theorem dX8_takeHands_37 : decode cX8_takeHands 37 = .ok (.aload_n 0, 1) := by decide +kernel
theorem dX8_takeHands_38 : decode cX8_takeHands 38 = .ok (.aload 5, 2) := by decide +kernel
theorem dX8_takeHands_40 : decode cX8_takeHands 40 = .ok (.iload_n 3, 1) := by decide +kernel
theorem dX8_takeHands_41 : decode cX8_takeHands 41 = .ok (.invokevirtual 95, 3) := by decide +kernel
theorem dX8_takeHands_44 : decode cX8_takeHands 44 = .ok (.istore 6, 2) := by decide +kernel
theorem dX8_takeHands_46 : decode cX8_takeHands 46 = .ok (.aload 5, 2) := by decide +kernel
theorem dX8_takeHands_48 : decode cX8_takeHands 48 = .ok (.aload 5, 2) := by decide +kernel
theorem dX8_takeHands_50 : decode cX8_takeHands 50 = .ok (.getfield 57, 3) := by decide +kernel
theorem dX8_takeHands_53 : decode cX8_takeHands 53 = .ok (.ifnull 13, 3) := by decide +kernel
theorem dX8_takeHands_56 : decode cX8_takeHands 56 = .ok (.iload 6, 2) := by decide +kernel
theorem dX8_takeHands_58 : decode cX8_takeHands 58 = .ok (.iconst (-1), 1) := by decide +kernel
theorem dX8_takeHands_59 : decode cX8_takeHands 59 = .ok (.if_icmp .ne 7, 3) := by decide +kernel
theorem dX8_takeHands_62 : decode cX8_takeHands 62 = .ok (.iconst 1, 1) := by decide +kernel
theorem dX8_takeHands_63 : decode cX8_takeHands 63 = .ok (.goto 4, 3) := by decide +kernel
theorem dX8_takeHands_66 : decode cX8_takeHands 66 = .ok (.iconst 0, 1) := by decide +kernel
theorem dX8_takeHands_67 : decode cX8_takeHands 67 = .ok (.putfield 98, 3) := by decide +kernel
theorem dX8_takeHands_70 : decode cX8_takeHands 70 = .ok (.aload 5, 2) := by decide +kernel
theorem dX8_takeHands_72 : decode cX8_takeHands 72 = .ok (.getfield 98, 3) := by decide +kernel
theorem dX8_takeHands_75 : decode cX8_takeHands 75 = .ok (.ifCond .eq 6, 3) := by decide +kernel
theorem dX8_takeHands_78 : decode cX8_takeHands 78 = .ok (.iinc 2 1, 3) := by decide +kernel
theorem dX8_takeHands_81 : decode cX8_takeHands 81 = .ok (.iload 6, 2) := by decide +kernel
theorem dX8_takeHands_83 : decode cX8_takeHands 83 = .ok (.iconst (-1), 1) := by decide +kernel
theorem dX8_takeHands_84 : decode cX8_takeHands 84 = .ok (.if_icmp .eq 47, 3) := by decide +kernel
theorem dX8_takeHands_87 : decode cX8_takeHands 87 = .ok (.aload_n 0, 1) := by decide +kernel
theorem dX8_takeHands_88 : decode cX8_takeHands 88 = .ok (.getfield 11, 3) := by decide +kernel
theorem dX8_takeHands_91 : decode cX8_takeHands 91 = .ok (.iload 6, 2) := by decide +kernel
theorem dX8_takeHands_93 : decode cX8_takeHands 93 = .ok (.aaload, 1) := by decide +kernel
theorem dX8_takeHands_94 : decode cX8_takeHands 94 = .ok (.aload_n 0, 1) := by decide +kernel
theorem dX8_takeHands_95 : decode cX8_takeHands 95 = .ok (.aload_n 0, 1) := by decide +kernel
theorem dX8_takeHands_96 : decode cX8_takeHands 96 = .ok (.getfield 11, 3) := by decide +kernel
theorem dX8_takeHands_99 : decode cX8_takeHands 99 = .ok (.iload 6, 2) := by decide +kernel
theorem dX8_takeHands_101 : decode cX8_takeHands 101 = .ok (.aaload, 1) := by decide +kernel
theorem dX8_takeHands_102 : decode cX8_takeHands 102 = .ok (.aload 5, 2) := by decide +kernel
theorem dX8_takeHands_104 : decode cX8_takeHands 104 = .ok (.getfield 57, 3) := by decide +kernel
theorem dX8_takeHands_107 : decode cX8_takeHands 107 = .ok (.getfield 75, 3) := by decide +kernel
theorem dX8_takeHands_110 : decode cX8_takeHands 110 = .ok (.invokevirtual 83, 3) := by decide +kernel
theorem dX8_takeHands_113 : decode cX8_takeHands 113 = .ok (.ifCond .eq 7, 3) := by decide +kernel
theorem dX8_takeHands_116 : decode cX8_takeHands 116 = .ok (.aconst_null, 1) := by decide +kernel
theorem dX8_takeHands_117 : decode cX8_takeHands 117 = .ok (.goto 8, 3) := by decide +kernel
theorem dX8_takeHands_120 : decode cX8_takeHands 120 = .ok (.aload 5, 2) := by decide +kernel
theorem dX8_takeHands_122 : decode cX8_takeHands 122 = .ok (.getfield 57, 3) := by decide +kernel
theorem dX8_takeHands_125 : decode cX8_takeHands 125 = .ok (.putfield 57, 3) := by decide +kernel
theorem dX8_takeHands_128 : decode cX8_takeHands 128 = .ok (.iload 6, 2) := by decide +kernel
theorem dX8_takeHands_130 : decode cX8_takeHands 130 = .ok (.istore_n 3, 1) := by decide +kernel
theorem dX8_takeHands_131 : decode cX8_takeHands 131 = .ok (.iinc 4 1, 3) := by decide +kernel
theorem dX8_takeHands_134 : decode cX8_takeHands 134 = .ok (.goto (-127), 3) := by decide +kernel
theorem dX8_takeHands_137 : decode cX8_takeHands 137 = .ok (.iload_n 2, 1) := by decide +kernel
theorem dX8_takeHands_138 : decode cX8_takeHands 138 = .ok (.ireturn, 1) := by decide +kernel
theorem dX8_find_0 : decode cX8_find 0 = .ok (.iconst 0, 1) := by decide +kernel
theorem dX8_find_1 : decode cX8_find 1 = .ok (.istore_n 3, 1) := by decide +kernel
theorem dX8_find_2 : decode cX8_find 2 = .ok (.iload_n 3, 1) := by decide +kernel
theorem dX8_find_3 : decode cX8_find 3 = .ok (.aload_n 0, 1) := by decide +kernel
theorem dX8_find_4 : decode cX8_find 4 = .ok (.getfield 25, 3) := by decide +kernel
theorem dX8_find_7 : decode cX8_find 7 = .ok (.if_icmp .ge 52, 3) := by decide +kernel
theorem dX8_find_10 : decode cX8_find 10 = .ok (.iload_n 2, 1) := by decide +kernel
theorem dX8_find_11 : decode cX8_find 11 = .ok (.iload_n 3, 1) := by decide +kernel
theorem dX8_find_12 : decode cX8_find 12 = .ok (.iadd, 1) := by decide +kernel
theorem dX8_find_13 : decode cX8_find 13 = .ok (.aload_n 0, 1) := by decide +kernel
theorem dX8_find_14 : decode cX8_find 14 = .ok (.getfield 25, 3) := by decide +kernel
theorem dX8_find_17 : decode cX8_find 17 = .ok (.if_icmp .ge 9, 3) := by decide +kernel
theorem dX8_find_20 : decode cX8_find 20 = .ok (.iload_n 2, 1) := by decide +kernel
theorem dX8_find_21 : decode cX8_find 21 = .ok (.iload_n 3, 1) := by decide +kernel
theorem dX8_find_22 : decode cX8_find 22 = .ok (.iadd, 1) := by decide +kernel
theorem dX8_find_23 : decode cX8_find 23 = .ok (.goto 11, 3) := by decide +kernel
theorem dX8_find_26 : decode cX8_find 26 = .ok (.iload_n 2, 1) := by decide +kernel
theorem dX8_find_27 : decode cX8_find 27 = .ok (.iload_n 3, 1) := by decide +kernel
theorem dX8_find_28 : decode cX8_find 28 = .ok (.iadd, 1) := by decide +kernel
theorem dX8_find_29 : decode cX8_find 29 = .ok (.aload_n 0, 1) := by decide +kernel
theorem dX8_find_30 : decode cX8_find 30 = .ok (.getfield 25, 3) := by decide +kernel
theorem dX8_find_33 : decode cX8_find 33 = .ok (.isub, 1) := by decide +kernel
theorem dX8_find_34 : decode cX8_find 34 = .ok (.istore 4, 2) := by decide +kernel
theorem dX8_find_36 : decode cX8_find 36 = .ok (.aload_n 0, 1) := by decide +kernel
theorem dX8_find_37 : decode cX8_find 37 = .ok (.getfield 11, 3) := by decide +kernel
theorem dX8_find_40 : decode cX8_find 40 = .ok (.iload 4, 2) := by decide +kernel
theorem dX8_find_42 : decode cX8_find 42 = .ok (.aaload, 1) := by decide +kernel
theorem dX8_find_43 : decode cX8_find 43 = .ok (.aload_n 1, 1) := by decide +kernel
theorem dX8_find_44 : decode cX8_find 44 = .ok (.invokevirtual 101, 3) := by decide +kernel
theorem dX8_find_47 : decode cX8_find 47 = .ok (.ifCond .eq 6, 3) := by decide +kernel
theorem dX8_find_50 : decode cX8_find 50 = .ok (.iload 4, 2) := by decide +kernel
theorem dX8_find_52 : decode cX8_find 52 = .ok (.ireturn, 1) := by decide +kernel
theorem dX8_find_53 : decode cX8_find 53 = .ok (.iinc 3 1, 3) := by decide +kernel
theorem dX8_find_56 : decode cX8_find 56 = .ok (.goto (-54), 3) := by decide +kernel
theorem dX8_find_59 : decode cX8_find 59 = .ok (.iconst (-1), 1) := by decide +kernel
theorem dX8_find_60 : decode cX8_find 60 = .ok (.ireturn, 1) := by decide +kernel
theorem dX8_countUnlike_0 : decode cX8_countUnlike 0 = .ok (.aload_n 0, 1) := by decide +kernel
theorem dX8_countUnlike_1 : decode cX8_countUnlike 1 = .ok (.getfield 25, 3) := by decide +kernel
theorem dX8_countUnlike_4 : decode cX8_countUnlike 4 = .ok (.aload_n 1, 1) := by decide +kernel
theorem dX8_countUnlike_5 : decode cX8_countUnlike 5 = .ok (.getfield 25, 3) := by decide +kernel
theorem dX8_countUnlike_8 : decode cX8_countUnlike 8 = .ok (.invokestatic 104, 3) := by decide +kernel
theorem dX8_countUnlike_11 : decode cX8_countUnlike 11 = .ok (.istore_n 2, 1) := by decide +kernel
theorem dX8_countUnlike_12 : decode cX8_countUnlike 12 = .ok (.aload_n 0, 1) := by decide +kernel
theorem dX8_countUnlike_13 : decode cX8_countUnlike 13 = .ok (.getfield 25, 3) := by decide +kernel
theorem dX8_countUnlike_16 : decode cX8_countUnlike 16 = .ok (.aload_n 1, 1) := by decide +kernel
theorem dX8_countUnlike_17 : decode cX8_countUnlike 17 = .ok (.getfield 25, 3) := by decide +kernel
theorem dX8_countUnlike_20 : decode cX8_countUnlike 20 = .ok (.invokestatic 110, 3) := by decide +kernel
theorem dX8_countUnlike_23 : decode cX8_countUnlike 23 = .ok (.iload_n 2, 1) := by decide +kernel
theorem dX8_countUnlike_24 : decode cX8_countUnlike 24 = .ok (.isub, 1) := by decide +kernel
theorem dX8_countUnlike_25 : decode cX8_countUnlike 25 = .ok (.istore_n 3, 1) := by decide +kernel
theorem dX8_countUnlike_26 : decode cX8_countUnlike 26 = .ok (.iconst 0, 1) := by decide +kernel
theorem dX8_countUnlike_27 : decode cX8_countUnlike 27 = .ok (.istore 4, 2) := by decide +kernel
theorem dX8_countUnlike_29 : decode cX8_countUnlike 29 = .ok (.iload 4, 2) := by decide +kernel
theorem dX8_countUnlike_31 : decode cX8_countUnlike 31 = .ok (.iload_n 2, 1) := by decide +kernel
theorem dX8_countUnlike_32 : decode cX8_countUnlike 32 = .ok (.if_icmp .ge 34, 3) := by decide +kernel
theorem dX8_countUnlike_35 : decode cX8_countUnlike 35 = .ok (.aload_n 0, 1) := by decide +kernel
theorem dX8_countUnlike_36 : decode cX8_countUnlike 36 = .ok (.aload_n 0, 1) := by decide +kernel
theorem dX8_countUnlike_37 : decode cX8_countUnlike 37 = .ok (.getfield 11, 3) := by decide +kernel
theorem dX8_countUnlike_40 : decode cX8_countUnlike 40 = .ok (.iload 4, 2) := by decide +kernel
theorem dX8_countUnlike_42 : decode cX8_countUnlike 42 = .ok (.aaload, 1) := by decide +kernel
theorem dX8_countUnlike_43 : decode cX8_countUnlike 43 = .ok (.aload_n 1, 1) := by decide +kernel
theorem dX8_countUnlike_44 : decode cX8_countUnlike 44 = .ok (.aload_n 1, 1) := by decide +kernel
theorem dX8_countUnlike_45 : decode cX8_countUnlike 45 = .ok (.getfield 11, 3) := by decide +kernel
theorem dX8_countUnlike_48 : decode cX8_countUnlike 48 = .ok (.iload 4, 2) := by decide +kernel
theorem dX8_countUnlike_50 : decode cX8_countUnlike 50 = .ok (.aaload, 1) := by decide +kernel
