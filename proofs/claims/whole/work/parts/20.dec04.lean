theorem dX11_drop_58 : decode cX11_drop 58 = .ok (.getfield 19, 3) := by decide +kernel
theorem dX11_drop_61 : decode cX11_drop 61 = .ok (.iload_n 2, 1) := by decide +kernel
theorem dX11_drop_62 : decode cX11_drop 62 = .ok (.dup2, 1) := by decide +kernel
theorem dX11_drop_63 : decode cX11_drop 63 = .ok (.iaload, 1) := by decide +kernel
theorem dX11_drop_64 : decode cX11_drop 64 = .ok (.iconst 1, 1) := by decide +kernel
theorem dX11_drop_65 : decode cX11_drop 65 = .ok (.isub, 1) := by decide +kernel
theorem dX11_drop_66 : decode cX11_drop 66 = .ok (.iastore, 1) := by decide +kernel
theorem dX11_drop_67 : decode cX11_drop 67 = .ok (.iinc 2 1, 3) := by decide +kernel
theorem dX11_drop_70 : decode cX11_drop 70 = .ok (.goto (-58), 3) := by decide +kernel
theorem dX11_drop_73 : decode cX11_drop 73 = .ok (.iconst 0, 1) := by decide +kernel
theorem dX11_drop_74 : decode cX11_drop 74 = .ok (.istore_n 2, 1) := by decide +kernel
theorem dX11_drop_75 : decode cX11_drop 75 = .ok (.iconst 1, 1) := by decide +kernel
theorem dX11_drop_76 : decode cX11_drop 76 = .ok (.istore_n 3, 1) := by decide +kernel
theorem dX11_drop_77 : decode cX11_drop 77 = .ok (.iload_n 3, 1) := by decide +kernel
theorem dX11_drop_78 : decode cX11_drop 78 = .ok (.ifCond .eq 75, 3) := by decide +kernel
theorem dX11_drop_81 : decode cX11_drop 81 = .ok (.iconst 0, 1) := by decide +kernel
theorem dX11_drop_82 : decode cX11_drop 82 = .ok (.istore_n 3, 1) := by decide +kernel
theorem dX11_drop_83 : decode cX11_drop 83 = .ok (.iconst 0, 1) := by decide +kernel
theorem dX11_drop_84 : decode cX11_drop 84 = .ok (.istore 4, 2) := by decide +kernel
theorem dX11_drop_86 : decode cX11_drop 86 = .ok (.iload 4, 2) := by decide +kernel
theorem dX11_drop_88 : decode cX11_drop 88 = .ok (.bipush 24, 2) := by decide +kernel
theorem dX11_drop_90 : decode cX11_drop 90 = .ok (.if_icmp .ge 60, 3) := by decide +kernel
theorem dX11_drop_93 : decode cX11_drop 93 = .ok (.aload_n 0, 1) := by decide +kernel
theorem dX11_drop_94 : decode cX11_drop 94 = .ok (.getfield 7, 3) := by decide +kernel
theorem dX11_drop_97 : decode cX11_drop 97 = .ok (.iload 4, 2) := by decide +kernel
theorem dX11_drop_99 : decode cX11_drop 99 = .ok (.iaload, 1) := by decide +kernel
theorem dX11_drop_100 : decode cX11_drop 100 = .ok (.ifCond .lt 44, 3) := by decide +kernel
theorem dX11_drop_103 : decode cX11_drop 103 = .ok (.iload 4, 2) := by decide +kernel
theorem dX11_drop_105 : decode cX11_drop 105 = .ok (.iload_n 1, 1) := by decide +kernel
theorem dX11_drop_106 : decode cX11_drop 106 = .ok (.if_icmp .eq 38, 3) := by decide +kernel
theorem dX11_drop_109 : decode cX11_drop 109 = .ok (.aload_n 0, 1) := by decide +kernel
theorem dX11_drop_110 : decode cX11_drop 110 = .ok (.iload 4, 2) := by decide +kernel
theorem dX11_drop_112 : decode cX11_drop 112 = .ok (.iload_n 1, 1) := by decide +kernel
theorem dX11_drop_113 : decode cX11_drop 113 = .ok (.invokevirtual 166, 3) := by decide +kernel
theorem dX11_drop_116 : decode cX11_drop 116 = .ok (.ifCond .eq 28, 3) := by decide +kernel
theorem dX11_drop_119 : decode cX11_drop 119 = .ok (.aload_n 0, 1) := by decide +kernel
theorem dX11_drop_120 : decode cX11_drop 120 = .ok (.iload 4, 2) := by decide +kernel
theorem dX11_drop_122 : decode cX11_drop 122 = .ok (.invokevirtual 156, 3) := by decide +kernel
theorem dX11_drop_125 : decode cX11_drop 125 = .ok (.ifCond .le 6, 3) := by decide +kernel
theorem dX11_drop_128 : decode cX11_drop 128 = .ok (.goto 16, 3) := by decide +kernel
theorem dX11_drop_131 : decode cX11_drop 131 = .ok (.aload_n 0, 1) := by decide +kernel
theorem dX11_drop_132 : decode cX11_drop 132 = .ok (.getfield 7, 3) := by decide +kernel
theorem dX11_drop_135 : decode cX11_drop 135 = .ok (.iload 4, 2) := by decide +kernel
theorem dX11_drop_137 : decode cX11_drop 137 = .ok (.iconst (-1), 1) := by decide +kernel
theorem dX11_drop_138 : decode cX11_drop 138 = .ok (.iastore, 1) := by decide +kernel
theorem dX11_drop_139 : decode cX11_drop 139 = .ok (.iinc 2 1, 3) := by decide +kernel
theorem dX11_drop_142 : decode cX11_drop 142 = .ok (.iconst 1, 1) := by decide +kernel
theorem dX11_drop_143 : decode cX11_drop 143 = .ok (.istore_n 3, 1) := by decide +kernel
theorem dX11_drop_144 : decode cX11_drop 144 = .ok (.iinc 4 1, 3) := by decide +kernel
theorem dX11_drop_147 : decode cX11_drop 147 = .ok (.goto (-61), 3) := by decide +kernel
theorem dX11_drop_150 : decode cX11_drop 150 = .ok (.goto (-73), 3) := by decide +kernel
theorem dX11_drop_153 : decode cX11_drop 153 = .ok (.aload_n 0, 1) := by decide +kernel
theorem dX11_drop_154 : decode cX11_drop 154 = .ok (.getfield 7, 3) := by decide +kernel
theorem dX11_drop_157 : decode cX11_drop 157 = .ok (.iload_n 1, 1) := by decide +kernel
theorem dX11_drop_158 : decode cX11_drop 158 = .ok (.iconst (-1), 1) := by decide +kernel
theorem dX11_drop_159 : decode cX11_drop 159 = .ok (.iastore, 1) := by decide +kernel
theorem dX11_drop_160 : decode cX11_drop 160 = .ok (.aload_n 0, 1) := by decide +kernel
theorem dX11_drop_161 : decode cX11_drop 161 = .ok (.dup, 1) := by decide +kernel
theorem dX11_drop_162 : decode cX11_drop 162 = .ok (.getfield 153, 3) := by decide +kernel
theorem dX11_drop_165 : decode cX11_drop 165 = .ok (.iload_n 2, 1) := by decide +kernel
theorem dX11_drop_166 : decode cX11_drop 166 = .ok (.iconst 1, 1) := by decide +kernel
theorem dX11_drop_167 : decode cX11_drop 167 = .ok (.iadd, 1) := by decide +kernel
theorem dX11_drop_168 : decode cX11_drop 168 = .ok (.isub, 1) := by decide +kernel
theorem dX11_drop_169 : decode cX11_drop 169 = .ok (.putfield 153, 3) := by decide +kernel
theorem dX11_drop_172 : decode cX11_drop 172 = .ok (.iload_n 2, 1) := by decide +kernel
theorem dX11_drop_173 : decode cX11_drop 173 = .ok (.iconst 1, 1) := by decide +kernel
theorem dX11_drop_174 : decode cX11_drop 174 = .ok (.iadd, 1) := by decide +kernel
theorem dX11_drop_175 : decode cX11_drop 175 = .ok (.ireturn, 1) := by decide +kernel
theorem dX11_see_0 : decode cX11_see 0 = .ok (.iload_n 1, 1) := by decide +kernel
theorem dX11_see_1 : decode cX11_see 1 = .ok (.aload_n 0, 1) := by decide +kernel
theorem dX11_see_2 : decode cX11_see 2 = .ok (.getfield 134, 3) := by decide +kernel
theorem dX11_see_5 : decode cX11_see 5 = .ok (.if_icmp .ge 12, 3) := by decide +kernel
theorem dX11_see_8 : decode cX11_see 8 = .ok (.aload_n 0, 1) := by decide +kernel
theorem dX11_see_9 : decode cX11_see 9 = .ok (.getfield 53, 3) := by decide +kernel
theorem dX11_see_12 : decode cX11_see 12 = .ok (.iload_n 1, 1) := by decide +kernel
theorem dX11_see_13 : decode cX11_see 13 = .ok (.iaload, 1) := by decide +kernel
theorem dX11_see_14 : decode cX11_see 14 = .ok (.goto 4, 3) := by decide +kernel
theorem dX11_see_17 : decode cX11_see 17 = .ok (.iconst (-1), 1) := by decide +kernel
theorem dX11_see_18 : decode cX11_see 18 = .ok (.ireturn, 1) := by decide +kernel
theorem dX11_put_0 : decode cX11_put 0 = .ok (.aload_n 0, 1) := by decide +kernel
theorem dX11_put_1 : decode cX11_put 1 = .ok (.getfield 170, 3) := by decide +kernel
theorem dX11_put_4 : decode cX11_put 4 = .ok (.bipush 20, 2) := by decide +kernel
theorem dX11_put_6 : decode cX11_put 6 = .ok (.if_icmp .ne 5, 3) := by decide +kernel
theorem dX11_put_9 : decode cX11_put 9 = .ok (.iconst 5, 1) := by decide +kernel
theorem dX11_put_10 : decode cX11_put 10 = .ok (.ireturn, 1) := by decide +kernel
theorem dX11_put_11 : decode cX11_put 11 = .ok (.aload_n 0, 1) := by decide +kernel
theorem dX11_put_12 : decode cX11_put 12 = .ok (.getfield 34, 3) := by decide +kernel
theorem dX11_put_15 : decode cX11_put 15 = .ok (.sipush 160, 3) := by decide +kernel
theorem dX11_put_18 : decode cX11_put 18 = .ok (.aload_n 0, 1) := by decide +kernel
theorem dX11_put_19 : decode cX11_put 19 = .ok (.getfield 170, 3) := by decide +kernel
theorem dX11_put_22 : decode cX11_put 22 = .ok (.iadd, 1) := by decide +kernel
theorem dX11_put_23 : decode cX11_put 23 = .ok (.iload_n 1, 1) := by decide +kernel
theorem dX11_put_24 : decode cX11_put 24 = .ok (.iastore, 1) := by decide +kernel
theorem dX11_put_25 : decode cX11_put 25 = .ok (.aload_n 0, 1) := by decide +kernel
theorem dX11_put_26 : decode cX11_put 26 = .ok (.getfield 37, 3) := by decide +kernel
theorem dX11_put_29 : decode cX11_put 29 = .ok (.sipush 160, 3) := by decide +kernel
theorem dX11_put_32 : decode cX11_put 32 = .ok (.aload_n 0, 1) := by decide +kernel
theorem dX11_put_33 : decode cX11_put 33 = .ok (.getfield 170, 3) := by decide +kernel
theorem dX11_put_36 : decode cX11_put 36 = .ok (.iadd, 1) := by decide +kernel
theorem dX11_put_37 : decode cX11_put 37 = .ok (.iload_n 2, 1) := by decide +kernel
theorem dX11_put_38 : decode cX11_put 38 = .ok (.iastore, 1) := by decide +kernel
theorem dX11_put_39 : decode cX11_put 39 = .ok (.aload_n 0, 1) := by decide +kernel
theorem dX11_put_40 : decode cX11_put 40 = .ok (.getfield 40, 3) := by decide +kernel
theorem dX11_put_43 : decode cX11_put 43 = .ok (.sipush 160, 3) := by decide +kernel
theorem dX11_put_46 : decode cX11_put 46 = .ok (.aload_n 0, 1) := by decide +kernel
theorem dX11_put_47 : decode cX11_put 47 = .ok (.getfield 170, 3) := by decide +kernel
theorem dX11_put_50 : decode cX11_put 50 = .ok (.iadd, 1) := by decide +kernel
theorem dX11_put_51 : decode cX11_put 51 = .ok (.iload_n 3, 1) := by decide +kernel
theorem dX11_put_52 : decode cX11_put 52 = .ok (.iastore, 1) := by decide +kernel
theorem dX11_put_53 : decode cX11_put 53 = .ok (.aload_n 0, 1) := by decide +kernel
theorem dX11_put_54 : decode cX11_put 54 = .ok (.dup, 1) := by decide +kernel
theorem dX11_put_55 : decode cX11_put 55 = .ok (.getfield 170, 3) := by decide +kernel
theorem dX11_put_58 : decode cX11_put 58 = .ok (.iconst 1, 1) := by decide +kernel
theorem dX11_put_59 : decode cX11_put 59 = .ok (.iadd, 1) := by decide +kernel
theorem dX11_put_60 : decode cX11_put 60 = .ok (.putfield 170, 3) := by decide +kernel
theorem dX11_put_63 : decode cX11_put 63 = .ok (.iconst 0, 1) := by decide +kernel
theorem dX11_put_64 : decode cX11_put 64 = .ok (.ireturn, 1) := by decide +kernel
theorem dX11_sign_0 : decode cX11_sign 0 = .ok (.aload_n 0, 1) := by decide +kernel
theorem dX11_sign_1 : decode cX11_sign 1 = .ok (.aload_n 0, 1) := by decide +kernel
theorem dX11_sign_2 : decode cX11_sign 2 = .ok (.getfield 173, 3) := by decide +kernel
theorem dX11_sign_5 : decode cX11_sign 5 = .ok (.iconst 1, 1) := by decide +kernel
theorem dX11_sign_6 : decode cX11_sign 6 = .ok (.iadd, 1) := by decide +kernel
theorem dX11_sign_7 : decode cX11_sign 7 = .ok (.invokevirtual 176, 3) := by decide +kernel
theorem dX11_sign_10 : decode cX11_sign 10 = .ok (.istore_n 1, 1) := by decide +kernel
theorem dX11_sign_11 : decode cX11_sign 11 = .ok (.aload_n 0, 1) := by decide +kernel
theorem dX11_sign_12 : decode cX11_sign 12 = .ok (.aload_n 0, 1) := by decide +kernel
theorem dX11_sign_13 : decode cX11_sign 13 = .ok (.getfield 173, 3) := by decide +kernel
theorem dX11_sign_16 : decode cX11_sign 16 = .ok (.iconst 2, 1) := by decide +kernel
theorem dX11_sign_17 : decode cX11_sign 17 = .ok (.iadd, 1) := by decide +kernel
theorem dX11_sign_18 : decode cX11_sign 18 = .ok (.invokevirtual 176, 3) := by decide +kernel
theorem dX11_sign_21 : decode cX11_sign 21 = .ok (.istore_n 2, 1) := by decide +kernel
theorem dX11_sign_22 : decode cX11_sign 22 = .ok (.iload_n 2, 1) := by decide +kernel
theorem dX11_sign_23 : decode cX11_sign 23 = .ok (.bipush 62, 2) := by decide +kernel
theorem dX11_sign_25 : decode cX11_sign 25 = .ok (.if_icmp .ne 7, 3) := by decide +kernel
theorem dX11_sign_28 : decode cX11_sign 28 = .ok (.iconst 1, 1) := by decide +kernel
theorem dX11_sign_29 : decode cX11_sign 29 = .ok (.goto 4, 3) := by decide +kernel
theorem dX11_sign_32 : decode cX11_sign 32 = .ok (.iconst 0, 1) := by decide +kernel
theorem dX11_sign_33 : decode cX11_sign 33 = .ok (.istore_n 3, 1) := by decide +kernel
theorem dX11_sign_34 : decode cX11_sign 34 = .ok (.iload_n 3, 1) := by decide +kernel
theorem dX11_sign_35 : decode cX11_sign 35 = .ok (.ifCond .eq 34, 3) := by decide +kernel
theorem dX11_sign_38 : decode cX11_sign 38 = .ok (.iload_n 1, 1) := by decide +kernel
theorem dX11_sign_39 : decode cX11_sign 39 = .ok (.bipush 60, 2) := by decide +kernel
theorem dX11_sign_41 : decode cX11_sign 41 = .ok (.if_icmp .ne 28, 3) := by decide +kernel
theorem dX11_sign_44 : decode cX11_sign 44 = .ok (.aload_n 0, 1) := by decide +kernel
theorem dX11_sign_45 : decode cX11_sign 45 = .ok (.iconst 0, 1) := by decide +kernel
theorem dX11_sign_46 : decode cX11_sign 46 = .ok (.aload_n 0, 1) := by decide +kernel
theorem dX11_sign_47 : decode cX11_sign 47 = .ok (.getfield 173, 3) := by decide +kernel
theorem dX11_sign_50 : decode cX11_sign 50 = .ok (.iconst 1, 1) := by decide +kernel
theorem dX11_sign_51 : decode cX11_sign 51 = .ok (.invokevirtual 179, 3) := by decide +kernel
theorem dX11_sign_54 : decode cX11_sign 54 = .ok (.istore 4, 2) := by decide +kernel
theorem dX11_sign_56 : decode cX11_sign 56 = .ok (.aload_n 0, 1) := by decide +kernel
theorem dX11_sign_57 : decode cX11_sign 57 = .ok (.dup, 1) := by decide +kernel
theorem dX11_sign_58 : decode cX11_sign 58 = .ok (.getfield 173, 3) := by decide +kernel
theorem dX11_sign_61 : decode cX11_sign 61 = .ok (.iconst 3, 1) := by decide +kernel
theorem dX11_sign_62 : decode cX11_sign 62 = .ok (.iadd, 1) := by decide +kernel
theorem dX11_sign_63 : decode cX11_sign 63 = .ok (.putfield 173, 3) := by decide +kernel
theorem dX11_sign_66 : decode cX11_sign 66 = .ok (.iload 4, 2) := by decide +kernel
theorem dX11_sign_68 : decode cX11_sign 68 = .ok (.ireturn, 1) := by decide +kernel
theorem dX11_sign_69 : decode cX11_sign 69 = .ok (.iconst (-1), 1) := by decide +kernel
theorem dX11_sign_70 : decode cX11_sign 70 = .ok (.istore 4, 2) := by decide +kernel
theorem dX11_sign_72 : decode cX11_sign 72 = .ok (.iconst 0, 1) := by decide +kernel
theorem dX11_sign_73 : decode cX11_sign 73 = .ok (.istore 5, 2) := by decide +kernel
theorem dX11_sign_75 : decode cX11_sign 75 = .ok (.iconst 0, 1) := by decide +kernel
theorem dX11_sign_76 : decode cX11_sign 76 = .ok (.istore 6, 2) := by decide +kernel
theorem dX11_sign_78 : decode cX11_sign 78 = .ok (.iconst 3, 1) := by decide +kernel
theorem dX11_sign_79 : decode cX11_sign 79 = .ok (.istore 7, 2) := by decide +kernel
theorem dX11_sign_81 : decode cX11_sign 81 = .ok (.iload_n 3, 1) := by decide +kernel
theorem dX11_sign_82 : decode cX11_sign 82 = .ok (.ifCond .eq 15, 3) := by decide +kernel
theorem dX11_sign_85 : decode cX11_sign 85 = .ok (.iload_n 1, 1) := by decide +kernel
theorem dX11_sign_86 : decode cX11_sign 86 = .ok (.bipush 110, 2) := by decide +kernel
theorem dX11_sign_88 : decode cX11_sign 88 = .ok (.if_icmp .ne 9, 3) := by decide +kernel
theorem dX11_sign_91 : decode cX11_sign 91 = .ok (.iconst 1, 1) := by decide +kernel
theorem dX11_sign_92 : decode cX11_sign 92 = .ok (.istore 4, 2) := by decide +kernel
theorem dX11_sign_94 : decode cX11_sign 94 = .ok (.goto 75, 3) := by decide +kernel
theorem dX11_sign_97 : decode cX11_sign 97 = .ok (.iload_n 3, 1) := by decide +kernel
theorem dX11_sign_98 : decode cX11_sign 98 = .ok (.ifCond .eq 20, 3) := by decide +kernel
theorem dX11_sign_101 : decode cX11_sign 101 = .ok (.iload_n 1, 1) := by decide +kernel
theorem dX11_sign_102 : decode cX11_sign 102 = .ok (.bipush 48, 2) := by decide +kernel
theorem dX11_sign_104 : decode cX11_sign 104 = .ok (.bipush 51, 2) := by decide +kernel
theorem dX11_sign_106 : decode cX11_sign 106 = .ok (.invokestatic 130, 3) := by decide +kernel
theorem dX11_sign_109 : decode cX11_sign 109 = .ok (.ifCond .eq 9, 3) := by decide +kernel
theorem dX11_sign_112 : decode cX11_sign 112 = .ok (.iconst 2, 1) := by decide +kernel
theorem dX11_sign_113 : decode cX11_sign 113 = .ok (.istore 4, 2) := by decide +kernel
theorem dX11_sign_115 : decode cX11_sign 115 = .ok (.goto 54, 3) := by decide +kernel
theorem dX11_sign_118 : decode cX11_sign 118 = .ok (.iload_n 3, 1) := by decide +kernel
theorem dX11_sign_119 : decode cX11_sign 119 = .ok (.ifCond .eq 15, 3) := by decide +kernel
theorem dX11_sign_122 : decode cX11_sign 122 = .ok (.iload_n 1, 1) := by decide +kernel
theorem dX11_sign_123 : decode cX11_sign 123 = .ok (.bipush 61, 2) := by decide +kernel
theorem dX11_sign_125 : decode cX11_sign 125 = .ok (.if_icmp .ne 9, 3) := by decide +kernel
theorem dX11_sign_128 : decode cX11_sign 128 = .ok (.iconst 4, 1) := by decide +kernel
theorem dX11_sign_129 : decode cX11_sign 129 = .ok (.istore 4, 2) := by decide +kernel
theorem dX11_sign_131 : decode cX11_sign 131 = .ok (.goto 38, 3) := by decide +kernel
theorem dX11_sign_134 : decode cX11_sign 134 = .ok (.iload_n 3, 1) := by decide +kernel
theorem dX11_sign_135 : decode cX11_sign 135 = .ok (.ifCond .eq 20, 3) := by decide +kernel
theorem dX11_sign_138 : decode cX11_sign 138 = .ok (.iload_n 1, 1) := by decide +kernel
theorem dX11_sign_139 : decode cX11_sign 139 = .ok (.bipush 97, 2) := by decide +kernel
theorem dX11_sign_141 : decode cX11_sign 141 = .ok (.bipush 104, 2) := by decide +kernel
theorem dX11_sign_143 : decode cX11_sign 143 = .ok (.invokestatic 130, 3) := by decide +kernel
theorem dX11_sign_146 : decode cX11_sign 146 = .ok (.ifCond .eq 9, 3) := by decide +kernel
theorem dX11_sign_149 : decode cX11_sign 149 = .ok (.iconst 5, 1) := by decide +kernel
theorem dX11_sign_150 : decode cX11_sign 150 = .ok (.istore 4, 2) := by decide +kernel
theorem dX11_sign_152 : decode cX11_sign 152 = .ok (.goto 17, 3) := by decide +kernel
theorem dX11_sign_155 : decode cX11_sign 155 = .ok (.iload_n 3, 1) := by decide +kernel
theorem dX11_sign_156 : decode cX11_sign 156 = .ok (.ifCond .eq 13, 3) := by decide +kernel
theorem dX11_sign_159 : decode cX11_sign 159 = .ok (.iload_n 1, 1) := by decide +kernel
theorem dX11_sign_160 : decode cX11_sign 160 = .ok (.bipush 33, 2) := by decide +kernel
theorem dX11_sign_162 : decode cX11_sign 162 = .ok (.if_icmp .ne 7, 3) := by decide +kernel
theorem dX11_sign_165 : decode cX11_sign 165 = .ok (.bipush 7, 2) := by decide +kernel
theorem dX11_sign_167 : decode cX11_sign 167 = .ok (.istore 4, 2) := by decide +kernel
theorem dX11_sign_169 : decode cX11_sign 169 = .ok (.iload 4, 2) := by decide +kernel
theorem dX11_sign_171 : decode cX11_sign 171 = .ok (.iconst 2, 1) := by decide +kernel
theorem dX11_sign_172 : decode cX11_sign 172 = .ok (.if_icmp .ne 9, 3) := by decide +kernel
theorem dX11_sign_175 : decode cX11_sign 175 = .ok (.iload_n 1, 1) := by decide +kernel
theorem dX11_sign_176 : decode cX11_sign 176 = .ok (.bipush 48, 2) := by decide +kernel
theorem dX11_sign_178 : decode cX11_sign 178 = .ok (.isub, 1) := by decide +kernel
theorem dX11_sign_179 : decode cX11_sign 179 = .ok (.istore 5, 2) := by decide +kernel
theorem dX11_sign_181 : decode cX11_sign 181 = .ok (.iload 4, 2) := by decide +kernel
theorem dX11_sign_183 : decode cX11_sign 183 = .ok (.iconst 5, 1) := by decide +kernel
theorem dX11_sign_184 : decode cX11_sign 184 = .ok (.if_icmp .ne 9, 3) := by decide +kernel
theorem dX11_sign_187 : decode cX11_sign 187 = .ok (.iload_n 1, 1) := by decide +kernel
theorem dX11_sign_188 : decode cX11_sign 188 = .ok (.bipush 97, 2) := by decide +kernel
theorem dX11_sign_190 : decode cX11_sign 190 = .ok (.isub, 1) := by decide +kernel
theorem dX11_sign_191 : decode cX11_sign 191 = .ok (.istore 5, 2) := by decide +kernel
theorem dX11_sign_193 : decode cX11_sign 193 = .ok (.iload 4, 2) := by decide +kernel
theorem dX11_sign_195 : decode cX11_sign 195 = .ok (.ifCond .ge 48, 3) := by decide +kernel
theorem dX11_sign_198 : decode cX11_sign 198 = .ok (.iload_n 1, 1) := by decide +kernel
theorem dX11_sign_199 : decode cX11_sign 199 = .ok (.bipush 63, 2) := by decide +kernel
theorem dX11_sign_201 : decode cX11_sign 201 = .ok (.if_icmp .ne 42, 3) := by decide +kernel
theorem dX11_sign_204 : decode cX11_sign 204 = .ok (.iload_n 2, 1) := by decide +kernel
theorem dX11_sign_205 : decode cX11_sign 205 = .ok (.bipush 48, 2) := by decide +kernel
theorem dX11_sign_207 : decode cX11_sign 207 = .ok (.bipush 51, 2) := by decide +kernel
theorem dX11_sign_209 : decode cX11_sign 209 = .ok (.invokestatic 130, 3) := by decide +kernel
theorem dX11_sign_212 : decode cX11_sign 212 = .ok (.ifCond .eq 31, 3) := by decide +kernel
theorem dX11_sign_215 : decode cX11_sign 215 = .ok (.aload_n 0, 1) := by decide +kernel
theorem dX11_sign_216 : decode cX11_sign 216 = .ok (.aload_n 0, 1) := by decide +kernel
theorem dX11_sign_217 : decode cX11_sign 217 = .ok (.getfield 173, 3) := by decide +kernel
theorem dX11_sign_220 : decode cX11_sign 220 = .ok (.iconst 3, 1) := by decide +kernel
theorem dX11_sign_221 : decode cX11_sign 221 = .ok (.iadd, 1) := by decide +kernel
theorem dX11_sign_222 : decode cX11_sign 222 = .ok (.invokevirtual 176, 3) := by decide +kernel
theorem dX11_sign_225 : decode cX11_sign 225 = .ok (.bipush 62, 2) := by decide +kernel
theorem dX11_sign_227 : decode cX11_sign 227 = .ok (.if_icmp .ne 16, 3) := by decide +kernel
theorem dX11_sign_230 : decode cX11_sign 230 = .ok (.bipush 6, 2) := by decide +kernel
theorem dX11_sign_232 : decode cX11_sign 232 = .ok (.istore 4, 2) := by decide +kernel
theorem dX11_sign_234 : decode cX11_sign 234 = .ok (.iload_n 2, 1) := by decide +kernel
theorem dX11_sign_235 : decode cX11_sign 235 = .ok (.bipush 48, 2) := by decide +kernel
theorem dX11_sign_237 : decode cX11_sign 237 = .ok (.isub, 1) := by decide +kernel
theorem dX11_sign_238 : decode cX11_sign 238 = .ok (.istore 5, 2) := by decide +kernel
theorem dX11_sign_240 : decode cX11_sign 240 = .ok (.iconst 4, 1) := by decide +kernel
theorem dX11_sign_241 : decode cX11_sign 241 = .ok (.istore 7, 2) := by decide +kernel
theorem dX11_sign_243 : decode cX11_sign 243 = .ok (.iload 4, 2) := by decide +kernel
theorem dX11_sign_245 : decode cX11_sign 245 = .ok (.ifCond .ge 82, 3) := by decide +kernel
theorem dX11_sign_248 : decode cX11_sign 248 = .ok (.iload_n 1, 1) := by decide +kernel
theorem dX11_sign_249 : decode cX11_sign 249 = .ok (.bipush 43, 2) := by decide +kernel
theorem dX11_sign_251 : decode cX11_sign 251 = .ok (.if_icmp .ne 76, 3) := by decide +kernel
theorem dX11_sign_254 : decode cX11_sign 254 = .ok (.iload_n 2, 1) := by decide +kernel
theorem dX11_sign_255 : decode cX11_sign 255 = .ok (.bipush 48, 2) := by decide +kernel
theorem dX11_sign_257 : decode cX11_sign 257 = .ok (.bipush 51, 2) := by decide +kernel
theorem dX11_sign_259 : decode cX11_sign 259 = .ok (.invokestatic 130, 3) := by decide +kernel
theorem dX11_sign_262 : decode cX11_sign 262 = .ok (.ifCond .eq 65, 3) := by decide +kernel
theorem dX11_sign_265 : decode cX11_sign 265 = .ok (.aload_n 0, 1) := by decide +kernel
theorem dX11_sign_266 : decode cX11_sign 266 = .ok (.aload_n 0, 1) := by decide +kernel
theorem dX11_sign_267 : decode cX11_sign 267 = .ok (.getfield 173, 3) := by decide +kernel
theorem dX11_sign_270 : decode cX11_sign 270 = .ok (.iconst 3, 1) := by decide +kernel
theorem dX11_sign_271 : decode cX11_sign 271 = .ok (.iadd, 1) := by decide +kernel
theorem dX11_sign_272 : decode cX11_sign 272 = .ok (.invokevirtual 176, 3) := by decide +kernel
theorem dX11_sign_275 : decode cX11_sign 275 = .ok (.bipush 48, 2) := by decide +kernel
theorem dX11_sign_277 : decode cX11_sign 277 = .ok (.bipush 51, 2) := by decide +kernel
theorem dX11_sign_279 : decode cX11_sign 279 = .ok (.invokestatic 130, 3) := by decide +kernel
theorem dX11_sign_282 : decode cX11_sign 282 = .ok (.ifCond .eq 45, 3) := by decide +kernel
theorem dX11_sign_285 : decode cX11_sign 285 = .ok (.aload_n 0, 1) := by decide +kernel
theorem dX11_sign_286 : decode cX11_sign 286 = .ok (.aload_n 0, 1) := by decide +kernel
theorem dX11_sign_287 : decode cX11_sign 287 = .ok (.getfield 173, 3) := by decide +kernel
theorem dX11_sign_290 : decode cX11_sign 290 = .ok (.iconst 4, 1) := by decide +kernel
theorem dX11_sign_291 : decode cX11_sign 291 = .ok (.iadd, 1) := by decide +kernel
theorem dX11_sign_292 : decode cX11_sign 292 = .ok (.invokevirtual 176, 3) := by decide +kernel
theorem dX11_sign_295 : decode cX11_sign 295 = .ok (.bipush 62, 2) := by decide +kernel
theorem dX11_sign_297 : decode cX11_sign 297 = .ok (.if_icmp .ne 30, 3) := by decide +kernel
theorem dX11_sign_300 : decode cX11_sign 300 = .ok (.iconst 3, 1) := by decide +kernel
theorem dX11_sign_301 : decode cX11_sign 301 = .ok (.istore 4, 2) := by decide +kernel
theorem dX11_sign_303 : decode cX11_sign 303 = .ok (.iload_n 2, 1) := by decide +kernel
theorem dX11_sign_304 : decode cX11_sign 304 = .ok (.bipush 48, 2) := by decide +kernel
theorem dX11_sign_306 : decode cX11_sign 306 = .ok (.isub, 1) := by decide +kernel
theorem dX11_sign_307 : decode cX11_sign 307 = .ok (.istore 5, 2) := by decide +kernel
theorem dX11_sign_309 : decode cX11_sign 309 = .ok (.aload_n 0, 1) := by decide +kernel
theorem dX11_sign_310 : decode cX11_sign 310 = .ok (.aload_n 0, 1) := by decide +kernel
theorem dX11_sign_311 : decode cX11_sign 311 = .ok (.getfield 173, 3) := by decide +kernel
theorem dX11_sign_314 : decode cX11_sign 314 = .ok (.iconst 3, 1) := by decide +kernel
theorem dX11_sign_315 : decode cX11_sign 315 = .ok (.iadd, 1) := by decide +kernel
theorem dX11_sign_316 : decode cX11_sign 316 = .ok (.invokevirtual 176, 3) := by decide +kernel
theorem dX11_sign_319 : decode cX11_sign 319 = .ok (.bipush 48, 2) := by decide +kernel
theorem dX11_sign_321 : decode cX11_sign 321 = .ok (.isub, 1) := by decide +kernel
theorem dX11_sign_322 : decode cX11_sign 322 = .ok (.istore 6, 2) := by decide +kernel
theorem dX11_sign_324 : decode cX11_sign 324 = .ok (.iconst 5, 1) := by decide +kernel
theorem dX11_sign_325 : decode cX11_sign 325 = .ok (.istore 7, 2) := by decide +kernel
theorem dX11_sign_327 : decode cX11_sign 327 = .ok (.iload 4, 2) := by decide +kernel
theorem dX11_sign_329 : decode cX11_sign 329 = .ok (.ifCond .ge 5, 3) := by decide +kernel
theorem dX11_sign_332 : decode cX11_sign 332 = .ok (.iconst 2, 1) := by decide +kernel
theorem dX11_sign_333 : decode cX11_sign 333 = .ok (.ireturn, 1) := by decide +kernel
theorem dX11_sign_334 : decode cX11_sign 334 = .ok (.iload 4, 2) := by decide +kernel
theorem dX11_sign_336 : decode cX11_sign 336 = .ok (.bipush 6, 2) := by decide +kernel
theorem dX11_sign_338 : decode cX11_sign 338 = .ok (.if_icmp .ne 10, 3) := by decide +kernel
theorem dX11_sign_341 : decode cX11_sign 341 = .ok (.aload_n 0, 1) := by decide +kernel
theorem dX11_sign_342 : decode cX11_sign 342 = .ok (.getfield 183, 3) := by decide +kernel
theorem dX11_sign_345 : decode cX11_sign 345 = .ok (.ifCond .ne 17, 3) := by decide +kernel
theorem dX11_sign_348 : decode cX11_sign 348 = .ok (.iload 4, 2) := by decide +kernel
theorem dX11_sign_350 : decode cX11_sign 350 = .ok (.bipush 7, 2) := by decide +kernel
theorem dX11_sign_352 : decode cX11_sign 352 = .ok (.if_icmp .ne 12, 3) := by decide +kernel
theorem dX11_sign_355 : decode cX11_sign 355 = .ok (.aload_n 0, 1) := by decide +kernel
theorem dX11_sign_356 : decode cX11_sign 356 = .ok (.getfield 183, 3) := by decide +kernel
theorem dX11_sign_359 : decode cX11_sign 359 = .ok (.ifCond .ne 5, 3) := by decide +kernel
theorem dX11_sign_362 : decode cX11_sign 362 = .ok (.iconst 3, 1) := by decide +kernel
theorem dX11_sign_363 : decode cX11_sign 363 = .ok (.ireturn, 1) := by decide +kernel
theorem dX11_sign_364 : decode cX11_sign 364 = .ok (.aload_n 0, 1) := by decide +kernel
theorem dX11_sign_365 : decode cX11_sign 365 = .ok (.iload 4, 2) := by decide +kernel
theorem dX11_sign_367 : decode cX11_sign 367 = .ok (.iload 5, 2) := by decide +kernel
theorem dX11_sign_369 : decode cX11_sign 369 = .ok (.iload 6, 2) := by decide +kernel
theorem dX11_sign_371 : decode cX11_sign 371 = .ok (.invokevirtual 179, 3) := by decide +kernel
theorem dX11_sign_374 : decode cX11_sign 374 = .ok (.istore 8, 2) := by decide +kernel
theorem dX11_sign_376 : decode cX11_sign 376 = .ok (.iload 8, 2) := by decide +kernel
theorem dX11_sign_378 : decode cX11_sign 378 = .ok (.ifCond .eq 6, 3) := by decide +kernel
theorem dX11_sign_381 : decode cX11_sign 381 = .ok (.iload 8, 2) := by decide +kernel
theorem dX11_sign_383 : decode cX11_sign 383 = .ok (.ireturn, 1) := by decide +kernel
theorem dX11_sign_384 : decode cX11_sign 384 = .ok (.iload 4, 2) := by decide +kernel
theorem dX11_sign_386 : decode cX11_sign 386 = .ok (.bipush 6, 2) := by decide +kernel
theorem dX11_sign_388 : decode cX11_sign 388 = .ok (.if_icmp .ne 8, 3) := by decide +kernel
theorem dX11_sign_391 : decode cX11_sign 391 = .ok (.aload_n 0, 1) := by decide +kernel
theorem dX11_sign_392 : decode cX11_sign 392 = .ok (.iconst 1, 1) := by decide +kernel
theorem dX11_sign_393 : decode cX11_sign 393 = .ok (.putfield 183, 3) := by decide +kernel
theorem dX11_sign_396 : decode cX11_sign 396 = .ok (.iload 4, 2) := by decide +kernel
theorem dX11_sign_398 : decode cX11_sign 398 = .ok (.bipush 7, 2) := by decide +kernel
theorem dX11_sign_400 : decode cX11_sign 400 = .ok (.if_icmp .ne 8, 3) := by decide +kernel
theorem dX11_sign_403 : decode cX11_sign 403 = .ok (.aload_n 0, 1) := by decide +kernel
theorem dX11_sign_404 : decode cX11_sign 404 = .ok (.iconst 0, 1) := by decide +kernel
theorem dX11_sign_405 : decode cX11_sign 405 = .ok (.putfield 183, 3) := by decide +kernel
theorem dX11_sign_408 : decode cX11_sign 408 = .ok (.aload_n 0, 1) := by decide +kernel
theorem dX11_sign_409 : decode cX11_sign 409 = .ok (.dup, 1) := by decide +kernel
theorem dX11_sign_410 : decode cX11_sign 410 = .ok (.getfield 173, 3) := by decide +kernel
theorem dX11_sign_413 : decode cX11_sign 413 = .ok (.iload 7, 2) := by decide +kernel
theorem dX11_sign_415 : decode cX11_sign 415 = .ok (.iadd, 1) := by decide +kernel
theorem dX11_sign_416 : decode cX11_sign 416 = .ok (.putfield 173, 3) := by decide +kernel
theorem dX11_sign_419 : decode cX11_sign 419 = .ok (.iconst 0, 1) := by decide +kernel
theorem dX11_sign_420 : decode cX11_sign 420 = .ok (.ireturn, 1) := by decide +kernel
theorem dX11_readRule_0 : decode cX11_readRule 0 = .ok (.aload_n 0, 1) := by decide +kernel
theorem dX11_readRule_1 : decode cX11_readRule 1 = .ok (.iconst 0, 1) := by decide +kernel
theorem dX11_readRule_2 : decode cX11_readRule 2 = .ok (.putfield 173, 3) := by decide +kernel
theorem dX11_readRule_5 : decode cX11_readRule 5 = .ok (.aload_n 0, 1) := by decide +kernel
theorem dX11_readRule_6 : decode cX11_readRule 6 = .ok (.iconst 0, 1) := by decide +kernel
theorem dX11_readRule_7 : decode cX11_readRule 7 = .ok (.putfield 170, 3) := by decide +kernel
theorem dX11_readRule_10 : decode cX11_readRule 10 = .ok (.aload_n 0, 1) := by decide +kernel
theorem dX11_readRule_11 : decode cX11_readRule 11 = .ok (.iconst 0, 1) := by decide +kernel
theorem dX11_readRule_12 : decode cX11_readRule 12 = .ok (.putfield 183, 3) := by decide +kernel
theorem dX11_readRule_15 : decode cX11_readRule 15 = .ok (.aload_n 0, 1) := by decide +kernel
theorem dX11_readRule_16 : decode cX11_readRule 16 = .ok (.getfield 173, 3) := by decide +kernel
theorem dX11_readRule_19 : decode cX11_readRule 19 = .ok (.aload_n 0, 1) := by decide +kernel
theorem dX11_readRule_20 : decode cX11_readRule 20 = .ok (.getfield 134, 3) := by decide +kernel
theorem dX11_readRule_23 : decode cX11_readRule 23 = .ok (.if_icmp .ge 167, 3) := by decide +kernel
theorem dX11_readRule_26 : decode cX11_readRule 26 = .ok (.aload_n 0, 1) := by decide +kernel
theorem dX11_readRule_27 : decode cX11_readRule 27 = .ok (.aload_n 0, 1) := by decide +kernel
theorem dX11_readRule_28 : decode cX11_readRule 28 = .ok (.getfield 173, 3) := by decide +kernel
theorem dX11_readRule_31 : decode cX11_readRule 31 = .ok (.putfield 50, 3) := by decide +kernel
theorem dX11_readRule_34 : decode cX11_readRule 34 = .ok (.aload_n 0, 1) := by decide +kernel
theorem dX11_readRule_35 : decode cX11_readRule 35 = .ok (.getfield 53, 3) := by decide +kernel
theorem dX11_readRule_38 : decode cX11_readRule 38 = .ok (.aload_n 0, 1) := by decide +kernel
theorem dX11_readRule_39 : decode cX11_readRule 39 = .ok (.getfield 173, 3) := by decide +kernel
theorem dX11_readRule_42 : decode cX11_readRule 42 = .ok (.iaload, 1) := by decide +kernel
theorem dX11_readRule_43 : decode cX11_readRule 43 = .ok (.bipush 60, 2) := by decide +kernel
theorem dX11_readRule_45 : decode cX11_readRule 45 = .ok (.if_icmp .ne 14, 3) := by decide +kernel
theorem dX11_readRule_48 : decode cX11_readRule 48 = .ok (.aload_n 0, 1) := by decide +kernel
theorem dX11_readRule_49 : decode cX11_readRule 49 = .ok (.invokevirtual 187, 3) := by decide +kernel
theorem dX11_readRule_52 : decode cX11_readRule 52 = .ok (.istore_n 1, 1) := by decide +kernel
theorem dX11_readRule_53 : decode cX11_readRule 53 = .ok (.iload_n 1, 1) := by decide +kernel
theorem dX11_readRule_54 : decode cX11_readRule 54 = .ok (.ifCond .eq (-39), 3) := by decide +kernel
theorem dX11_readRule_57 : decode cX11_readRule 57 = .ok (.iload_n 1, 1) := by decide +kernel
theorem dX11_readRule_58 : decode cX11_readRule 58 = .ok (.ireturn, 1) := by decide +kernel
theorem dX11_readRule_59 : decode cX11_readRule 59 = .ok (.aload_n 0, 1) := by decide +kernel
theorem dX11_readRule_60 : decode cX11_readRule 60 = .ok (.getfield 173, 3) := by decide +kernel
theorem dX11_readRule_63 : decode cX11_readRule 63 = .ok (.istore_n 1, 1) := by decide +kernel
theorem dX11_readRule_64 : decode cX11_readRule 64 = .ok (.aload_n 0, 1) := by decide +kernel
theorem dX11_readRule_65 : decode cX11_readRule 65 = .ok (.getfield 53, 3) := by decide +kernel
theorem dX11_readRule_68 : decode cX11_readRule 68 = .ok (.aload_n 0, 1) := by decide +kernel
theorem dX11_readRule_69 : decode cX11_readRule 69 = .ok (.getfield 173, 3) := by decide +kernel
theorem dX11_readRule_72 : decode cX11_readRule 72 = .ok (.iaload, 1) := by decide +kernel
theorem dX11_readRule_73 : decode cX11_readRule 73 = .ok (.bipush 32, 2) := by decide +kernel
theorem dX11_readRule_75 : decode cX11_readRule 75 = .ok (.bipush 126, 2) := by decide +kernel
theorem dX11_readRule_77 : decode cX11_readRule 77 = .ok (.invokestatic 130, 3) := by decide +kernel
theorem dX11_readRule_80 : decode cX11_readRule 80 = .ok (.ifCond .ne 5, 3) := by decide +kernel
theorem dX11_readRule_83 : decode cX11_readRule 83 = .ok (.iconst 1, 1) := by decide +kernel
theorem dX11_readRule_84 : decode cX11_readRule 84 = .ok (.ireturn, 1) := by decide +kernel
theorem dX11_readRule_85 : decode cX11_readRule 85 = .ok (.aload_n 0, 1) := by decide +kernel
theorem dX11_readRule_86 : decode cX11_readRule 86 = .ok (.iconst 0, 1) := by decide +kernel
theorem dX11_readRule_87 : decode cX11_readRule 87 = .ok (.iload_n 1, 1) := by decide +kernel
theorem dX11_readRule_88 : decode cX11_readRule 88 = .ok (.iconst 0, 1) := by decide +kernel
theorem dX11_readRule_89 : decode cX11_readRule 89 = .ok (.invokevirtual 179, 3) := by decide +kernel
theorem dX11_readRule_92 : decode cX11_readRule 92 = .ok (.istore_n 2, 1) := by decide +kernel
theorem dX11_readRule_93 : decode cX11_readRule 93 = .ok (.iload_n 2, 1) := by decide +kernel
theorem dX11_readRule_94 : decode cX11_readRule 94 = .ok (.ifCond .eq 5, 3) := by decide +kernel
theorem dX11_readRule_97 : decode cX11_readRule 97 = .ok (.iload_n 2, 1) := by decide +kernel
theorem dX11_readRule_98 : decode cX11_readRule 98 = .ok (.ireturn, 1) := by decide +kernel
theorem dX11_readRule_99 : decode cX11_readRule 99 = .ok (.aload_n 0, 1) := by decide +kernel
theorem dX11_readRule_100 : decode cX11_readRule 100 = .ok (.getfield 173, 3) := by decide +kernel
theorem dX11_readRule_103 : decode cX11_readRule 103 = .ok (.aload_n 0, 1) := by decide +kernel
theorem dX11_readRule_104 : decode cX11_readRule 104 = .ok (.getfield 134, 3) := by decide +kernel
theorem dX11_readRule_107 : decode cX11_readRule 107 = .ok (.if_icmp .ge 59, 3) := by decide +kernel
theorem dX11_readRule_110 : decode cX11_readRule 110 = .ok (.aload_n 0, 1) := by decide +kernel
theorem dX11_readRule_111 : decode cX11_readRule 111 = .ok (.getfield 53, 3) := by decide +kernel
theorem dX11_readRule_114 : decode cX11_readRule 114 = .ok (.aload_n 0, 1) := by decide +kernel
theorem dX11_readRule_115 : decode cX11_readRule 115 = .ok (.getfield 173, 3) := by decide +kernel
theorem dX11_readRule_118 : decode cX11_readRule 118 = .ok (.iaload, 1) := by decide +kernel
theorem dX11_readRule_119 : decode cX11_readRule 119 = .ok (.bipush 60, 2) := by decide +kernel
theorem dX11_readRule_121 : decode cX11_readRule 121 = .ok (.if_icmp .eq 45, 3) := by decide +kernel
theorem dX11_readRule_124 : decode cX11_readRule 124 = .ok (.aload_n 0, 1) := by decide +kernel
theorem dX11_readRule_125 : decode cX11_readRule 125 = .ok (.aload_n 0, 1) := by decide +kernel
theorem dX11_readRule_126 : decode cX11_readRule 126 = .ok (.getfield 173, 3) := by decide +kernel
theorem dX11_readRule_129 : decode cX11_readRule 129 = .ok (.putfield 50, 3) := by decide +kernel
theorem dX11_readRule_132 : decode cX11_readRule 132 = .ok (.aload_n 0, 1) := by decide +kernel
theorem dX11_readRule_133 : decode cX11_readRule 133 = .ok (.getfield 53, 3) := by decide +kernel
theorem dX11_readRule_136 : decode cX11_readRule 136 = .ok (.aload_n 0, 1) := by decide +kernel
theorem dX11_readRule_137 : decode cX11_readRule 137 = .ok (.getfield 173, 3) := by decide +kernel
theorem dX11_readRule_140 : decode cX11_readRule 140 = .ok (.iaload, 1) := by decide +kernel
theorem dX11_readRule_141 : decode cX11_readRule 141 = .ok (.bipush 32, 2) := by decide +kernel
theorem dX11_readRule_143 : decode cX11_readRule 143 = .ok (.bipush 126, 2) := by decide +kernel
theorem dX11_readRule_145 : decode cX11_readRule 145 = .ok (.invokestatic 130, 3) := by decide +kernel
theorem dX11_readRule_148 : decode cX11_readRule 148 = .ok (.ifCond .ne 5, 3) := by decide +kernel
theorem dX11_readRule_151 : decode cX11_readRule 151 = .ok (.iconst 1, 1) := by decide +kernel
theorem dX11_readRule_152 : decode cX11_readRule 152 = .ok (.ireturn, 1) := by decide +kernel
theorem dX11_readRule_153 : decode cX11_readRule 153 = .ok (.aload_n 0, 1) := by decide +kernel
theorem dX11_readRule_154 : decode cX11_readRule 154 = .ok (.dup, 1) := by decide +kernel
theorem dX11_readRule_155 : decode cX11_readRule 155 = .ok (.getfield 173, 3) := by decide +kernel
theorem dX11_readRule_158 : decode cX11_readRule 158 = .ok (.iconst 1, 1) := by decide +kernel
theorem dX11_readRule_159 : decode cX11_readRule 159 = .ok (.iadd, 1) := by decide +kernel
theorem dX11_readRule_160 : decode cX11_readRule 160 = .ok (.putfield 173, 3) := by decide +kernel
theorem dX11_readRule_163 : decode cX11_readRule 163 = .ok (.goto (-64), 3) := by decide +kernel
theorem dX11_readRule_166 : decode cX11_readRule 166 = .ok (.aload_n 0, 1) := by decide +kernel
theorem dX11_readRule_167 : decode cX11_readRule 167 = .ok (.getfield 40, 3) := by decide +kernel
theorem dX11_readRule_170 : decode cX11_readRule 170 = .ok (.sipush 160, 3) := by decide +kernel
theorem dX11_readRule_173 : decode cX11_readRule 173 = .ok (.aload_n 0, 1) := by decide +kernel
theorem dX11_readRule_174 : decode cX11_readRule 174 = .ok (.getfield 170, 3) := by decide +kernel
theorem dX11_readRule_177 : decode cX11_readRule 177 = .ok (.iadd, 1) := by decide +kernel
theorem dX11_readRule_178 : decode cX11_readRule 178 = .ok (.iconst 1, 1) := by decide +kernel
theorem dX11_readRule_179 : decode cX11_readRule 179 = .ok (.isub, 1) := by decide +kernel
theorem dX11_readRule_180 : decode cX11_readRule 180 = .ok (.aload_n 0, 1) := by decide +kernel
theorem dX11_readRule_181 : decode cX11_readRule 181 = .ok (.getfield 173, 3) := by decide +kernel
theorem dX11_readRule_184 : decode cX11_readRule 184 = .ok (.iload_n 1, 1) := by decide +kernel
theorem dX11_readRule_185 : decode cX11_readRule 185 = .ok (.isub, 1) := by decide +kernel
theorem dX11_readRule_186 : decode cX11_readRule 186 = .ok (.iastore, 1) := by decide +kernel
theorem dX11_readRule_187 : decode cX11_readRule 187 = .ok (.goto (-172), 3) := by decide +kernel
theorem dX11_readRule_190 : decode cX11_readRule 190 = .ok (.aload_n 0, 1) := by decide +kernel
theorem dX11_readRule_191 : decode cX11_readRule 191 = .ok (.aload_n 0, 1) := by decide +kernel
theorem dX11_readRule_192 : decode cX11_readRule 192 = .ok (.getfield 134, 3) := by decide +kernel
theorem dX11_readRule_195 : decode cX11_readRule 195 = .ok (.putfield 50, 3) := by decide +kernel
theorem dX11_readRule_198 : decode cX11_readRule 198 = .ok (.aload_n 0, 1) := by decide +kernel
theorem dX11_readRule_199 : decode cX11_readRule 199 = .ok (.getfield 183, 3) := by decide +kernel
theorem dX11_readRule_202 : decode cX11_readRule 202 = .ok (.ifCond .eq 7, 3) := by decide +kernel
theorem dX11_readRule_205 : decode cX11_readRule 205 = .ok (.iconst 4, 1) := by decide +kernel
theorem dX11_readRule_206 : decode cX11_readRule 206 = .ok (.goto 4, 3) := by decide +kernel
theorem dX11_readRule_209 : decode cX11_readRule 209 = .ok (.iconst 0, 1) := by decide +kernel
theorem dX11_readRule_210 : decode cX11_readRule 210 = .ok (.ireturn, 1) := by decide +kernel
theorem dX11_rule_0 : decode cX11_rule 0 = .ok (.iload_n 1, 1) := by decide +kernel
theorem dX11_rule_1 : decode cX11_rule 1 = .ok (.iconst 0, 1) := by decide +kernel
theorem dX11_rule_2 : decode cX11_rule 2 = .ok (.bipush 7, 2) := by decide +kernel
theorem dX11_rule_4 : decode cX11_rule 4 = .ok (.invokestatic 130, 3) := by decide +kernel
theorem dX11_rule_7 : decode cX11_rule 7 = .ok (.ifCond .ne 5, 3) := by decide +kernel
theorem dX11_rule_10 : decode cX11_rule 10 = .ok (.iconst (-1), 1) := by decide +kernel
theorem dX11_rule_11 : decode cX11_rule 11 = .ok (.ireturn, 1) := by decide +kernel
theorem dX11_rule_12 : decode cX11_rule 12 = .ok (.aload_n 0, 1) := by decide +kernel
theorem dX11_rule_13 : decode cX11_rule 13 = .ok (.aload_n 0, 1) := by decide +kernel
theorem dX11_rule_14 : decode cX11_rule 14 = .ok (.invokevirtual 191, 3) := by decide +kernel
theorem dX11_rule_17 : decode cX11_rule 17 = .ok (.putfield 46, 3) := by decide +kernel
theorem dX11_rule_20 : decode cX11_rule 20 = .ok (.aload_n 0, 1) := by decide +kernel
theorem dX11_rule_21 : decode cX11_rule 21 = .ok (.getfield 46, 3) := by decide +kernel
theorem dX11_rule_24 : decode cX11_rule 24 = .ok (.ifCond .ne 128, 3) := by decide +kernel
theorem dX11_rule_27 : decode cX11_rule 27 = .ok (.aload_n 0, 1) := by decide +kernel
theorem dX11_rule_28 : decode cX11_rule 28 = .ok (.iconst (-1), 1) := by decide +kernel
theorem dX11_rule_29 : decode cX11_rule 29 = .ok (.putfield 50, 3) := by decide +kernel
theorem dX11_rule_32 : decode cX11_rule 32 = .ok (.aload_n 0, 1) := by decide +kernel
theorem dX11_rule_33 : decode cX11_rule 33 = .ok (.getfield 31, 3) := by decide +kernel
theorem dX11_rule_36 : decode cX11_rule 36 = .ok (.iload_n 1, 1) := by decide +kernel
theorem dX11_rule_37 : decode cX11_rule 37 = .ok (.aload_n 0, 1) := by decide +kernel
theorem dX11_rule_38 : decode cX11_rule 38 = .ok (.getfield 170, 3) := by decide +kernel
theorem dX11_rule_41 : decode cX11_rule 41 = .ok (.iastore, 1) := by decide +kernel
theorem dX11_rule_42 : decode cX11_rule 42 = .ok (.iconst 0, 1) := by decide +kernel
theorem dX11_rule_43 : decode cX11_rule 43 = .ok (.istore_n 2, 1) := by decide +kernel
theorem dX11_rule_44 : decode cX11_rule 44 = .ok (.iload_n 2, 1) := by decide +kernel
theorem dX11_rule_45 : decode cX11_rule 45 = .ok (.bipush 20, 2) := by decide +kernel
theorem dX11_rule_47 : decode cX11_rule 47 = .ok (.if_icmp .ge 72, 3) := by decide +kernel
theorem dX11_rule_50 : decode cX11_rule 50 = .ok (.aload_n 0, 1) := by decide +kernel
theorem dX11_rule_51 : decode cX11_rule 51 = .ok (.getfield 34, 3) := by decide +kernel
theorem dX11_rule_54 : decode cX11_rule 54 = .ok (.bipush 20, 2) := by decide +kernel
theorem dX11_rule_56 : decode cX11_rule 56 = .ok (.iload_n 1, 1) := by decide +kernel
theorem dX11_rule_57 : decode cX11_rule 57 = .ok (.imul, 1) := by decide +kernel
theorem dX11_rule_58 : decode cX11_rule 58 = .ok (.iload_n 2, 1) := by decide +kernel
theorem dX11_rule_59 : decode cX11_rule 59 = .ok (.iadd, 1) := by decide +kernel
theorem dX11_rule_60 : decode cX11_rule 60 = .ok (.aload_n 0, 1) := by decide +kernel
theorem dX11_rule_61 : decode cX11_rule 61 = .ok (.getfield 34, 3) := by decide +kernel
theorem dX11_rule_64 : decode cX11_rule 64 = .ok (.sipush 160, 3) := by decide +kernel
theorem dX11_rule_67 : decode cX11_rule 67 = .ok (.iload_n 2, 1) := by decide +kernel
theorem dX11_rule_68 : decode cX11_rule 68 = .ok (.iadd, 1) := by decide +kernel
theorem dX11_rule_69 : decode cX11_rule 69 = .ok (.iaload, 1) := by decide +kernel
theorem dX11_rule_70 : decode cX11_rule 70 = .ok (.iastore, 1) := by decide +kernel
theorem dX11_rule_71 : decode cX11_rule 71 = .ok (.aload_n 0, 1) := by decide +kernel
theorem dX11_rule_72 : decode cX11_rule 72 = .ok (.getfield 37, 3) := by decide +kernel
theorem dX11_rule_75 : decode cX11_rule 75 = .ok (.bipush 20, 2) := by decide +kernel
theorem dX11_rule_77 : decode cX11_rule 77 = .ok (.iload_n 1, 1) := by decide +kernel
theorem dX11_rule_78 : decode cX11_rule 78 = .ok (.imul, 1) := by decide +kernel
theorem dX11_rule_79 : decode cX11_rule 79 = .ok (.iload_n 2, 1) := by decide +kernel
theorem dX11_rule_80 : decode cX11_rule 80 = .ok (.iadd, 1) := by decide +kernel
theorem dX11_rule_81 : decode cX11_rule 81 = .ok (.aload_n 0, 1) := by decide +kernel
theorem dX11_rule_82 : decode cX11_rule 82 = .ok (.getfield 37, 3) := by decide +kernel
theorem dX11_rule_85 : decode cX11_rule 85 = .ok (.sipush 160, 3) := by decide +kernel
theorem dX11_rule_88 : decode cX11_rule 88 = .ok (.iload_n 2, 1) := by decide +kernel
theorem dX11_rule_89 : decode cX11_rule 89 = .ok (.iadd, 1) := by decide +kernel
theorem dX11_rule_90 : decode cX11_rule 90 = .ok (.iaload, 1) := by decide +kernel
theorem dX11_rule_91 : decode cX11_rule 91 = .ok (.iastore, 1) := by decide +kernel
theorem dX11_rule_92 : decode cX11_rule 92 = .ok (.aload_n 0, 1) := by decide +kernel
theorem dX11_rule_93 : decode cX11_rule 93 = .ok (.getfield 40, 3) := by decide +kernel
theorem dX11_rule_96 : decode cX11_rule 96 = .ok (.bipush 20, 2) := by decide +kernel
theorem dX11_rule_98 : decode cX11_rule 98 = .ok (.iload_n 1, 1) := by decide +kernel
theorem dX11_rule_99 : decode cX11_rule 99 = .ok (.imul, 1) := by decide +kernel
theorem dX11_rule_100 : decode cX11_rule 100 = .ok (.iload_n 2, 1) := by decide +kernel
theorem dX11_rule_101 : decode cX11_rule 101 = .ok (.iadd, 1) := by decide +kernel
theorem dX11_rule_102 : decode cX11_rule 102 = .ok (.aload_n 0, 1) := by decide +kernel
theorem dX11_rule_103 : decode cX11_rule 103 = .ok (.getfield 40, 3) := by decide +kernel
theorem dX11_rule_106 : decode cX11_rule 106 = .ok (.sipush 160, 3) := by decide +kernel
theorem dX11_rule_109 : decode cX11_rule 109 = .ok (.iload_n 2, 1) := by decide +kernel
theorem dX11_rule_110 : decode cX11_rule 110 = .ok (.iadd, 1) := by decide +kernel
theorem dX11_rule_111 : decode cX11_rule 111 = .ok (.iaload, 1) := by decide +kernel
theorem dX11_rule_112 : decode cX11_rule 112 = .ok (.iastore, 1) := by decide +kernel
theorem dX11_rule_113 : decode cX11_rule 113 = .ok (.iinc 2 1, 3) := by decide +kernel
theorem dX11_rule_116 : decode cX11_rule 116 = .ok (.goto (-72), 3) := by decide +kernel
theorem dX11_rule_119 : decode cX11_rule 119 = .ok (.iconst 0, 1) := by decide +kernel
theorem dX11_rule_120 : decode cX11_rule 120 = .ok (.istore_n 2, 1) := by decide +kernel
theorem dX11_rule_121 : decode cX11_rule 121 = .ok (.iload_n 2, 1) := by decide +kernel
theorem dX11_rule_122 : decode cX11_rule 122 = .ok (.aload_n 0, 1) := by decide +kernel
theorem dX11_rule_123 : decode cX11_rule 123 = .ok (.getfield 134, 3) := by decide +kernel
theorem dX11_rule_126 : decode cX11_rule 126 = .ok (.if_icmp .ge 26, 3) := by decide +kernel
theorem dX11_rule_129 : decode cX11_rule 129 = .ok (.aload_n 0, 1) := by decide +kernel
theorem dX11_rule_130 : decode cX11_rule 130 = .ok (.getfield 43, 3) := by decide +kernel
theorem dX11_rule_133 : decode cX11_rule 133 = .ok (.bipush 120, 2) := by decide +kernel
theorem dX11_rule_135 : decode cX11_rule 135 = .ok (.iload_n 1, 1) := by decide +kernel
theorem dX11_rule_136 : decode cX11_rule 136 = .ok (.imul, 1) := by decide +kernel
theorem dX11_rule_137 : decode cX11_rule 137 = .ok (.iload_n 2, 1) := by decide +kernel
theorem dX11_rule_138 : decode cX11_rule 138 = .ok (.iadd, 1) := by decide +kernel
theorem dX11_rule_139 : decode cX11_rule 139 = .ok (.aload_n 0, 1) := by decide +kernel
theorem dX11_rule_140 : decode cX11_rule 140 = .ok (.getfield 53, 3) := by decide +kernel
theorem dX11_rule_143 : decode cX11_rule 143 = .ok (.iload_n 2, 1) := by decide +kernel
theorem dX11_rule_144 : decode cX11_rule 144 = .ok (.iaload, 1) := by decide +kernel
theorem dX11_rule_145 : decode cX11_rule 145 = .ok (.iastore, 1) := by decide +kernel
theorem dX11_rule_146 : decode cX11_rule 146 = .ok (.iinc 2 1, 3) := by decide +kernel
theorem dX11_rule_149 : decode cX11_rule 149 = .ok (.goto (-28), 3) := by decide +kernel
theorem dX11_rule_152 : decode cX11_rule 152 = .ok (.aload_n 0, 1) := by decide +kernel
theorem dX11_rule_153 : decode cX11_rule 153 = .ok (.iconst 0, 1) := by decide +kernel
theorem dX11_rule_154 : decode cX11_rule 154 = .ok (.putfield 134, 3) := by decide +kernel
theorem dX11_rule_157 : decode cX11_rule 157 = .ok (.aload_n 0, 1) := by decide +kernel
theorem dX11_rule_158 : decode cX11_rule 158 = .ok (.getfield 46, 3) := by decide +kernel
theorem dX11_rule_161 : decode cX11_rule 161 = .ok (.ifCond .ne 10, 3) := by decide +kernel
theorem dX11_rule_164 : decode cX11_rule 164 = .ok (.aload_n 0, 1) := by decide +kernel
theorem dX11_rule_165 : decode cX11_rule 165 = .ok (.getfield 170, 3) := by decide +kernel
theorem dX11_rule_168 : decode cX11_rule 168 = .ok (.goto 4, 3) := by decide +kernel
theorem dX11_rule_171 : decode cX11_rule 171 = .ok (.iconst (-1), 1) := by decide +kernel
theorem dX11_rule_172 : decode cX11_rule 172 = .ok (.ireturn, 1) := by decide +kernel
theorem dX11_fault_0 : decode cX11_fault 0 = .ok (.iload_n 1, 1) := by decide +kernel
theorem dX11_fault_1 : decode cX11_fault 1 = .ok (.ifCond .ne 10, 3) := by decide +kernel
theorem dX11_fault_4 : decode cX11_fault 4 = .ok (.aload_n 0, 1) := by decide +kernel
theorem dX11_fault_5 : decode cX11_fault 5 = .ok (.getfield 46, 3) := by decide +kernel
theorem dX11_fault_8 : decode cX11_fault 8 = .ok (.goto 16, 3) := by decide +kernel
theorem dX11_fault_11 : decode cX11_fault 11 = .ok (.iload_n 1, 1) := by decide +kernel
theorem dX11_fault_12 : decode cX11_fault 12 = .ok (.iconst 1, 1) := by decide +kernel
theorem dX11_fault_13 : decode cX11_fault 13 = .ok (.if_icmp .ne 10, 3) := by decide +kernel
theorem dX11_fault_16 : decode cX11_fault 16 = .ok (.aload_n 0, 1) := by decide +kernel
theorem dX11_fault_17 : decode cX11_fault 17 = .ok (.getfield 50, 3) := by decide +kernel
theorem dX11_fault_20 : decode cX11_fault 20 = .ok (.goto 4, 3) := by decide +kernel
theorem dX11_fault_23 : decode cX11_fault 23 = .ok (.iconst (-1), 1) := by decide +kernel
theorem dX11_fault_24 : decode cX11_fault 24 = .ok (.ireturn, 1) := by decide +kernel
theorem dX11_begin_0 : decode cX11_begin 0 = .ok (.aload_n 0, 1) := by decide +kernel
theorem dX11_begin_1 : decode cX11_begin 1 = .ok (.dup, 1) := by decide +kernel
theorem dX11_begin_2 : decode cX11_begin 2 = .ok (.getfield 194, 3) := by decide +kernel
theorem dX11_begin_5 : decode cX11_begin 5 = .ok (.iconst 1, 1) := by decide +kernel
theorem dX11_begin_6 : decode cX11_begin 6 = .ok (.iadd, 1) := by decide +kernel
theorem dX11_begin_7 : decode cX11_begin 7 = .ok (.putfield 194, 3) := by decide +kernel
theorem dX11_begin_10 : decode cX11_begin 10 = .ok (.aload_n 0, 1) := by decide +kernel
theorem dX11_begin_11 : decode cX11_begin 11 = .ok (.aload_n 0, 1) := by decide +kernel
theorem dX11_begin_12 : decode cX11_begin 12 = .ok (.getfield 197, 3) := by decide +kernel
theorem dX11_begin_15 : decode cX11_begin 15 = .ok (.ifCond .ne 13, 3) := by decide +kernel
theorem dX11_begin_18 : decode cX11_begin 18 = .ok (.aload_n 0, 1) := by decide +kernel
theorem dX11_begin_19 : decode cX11_begin 19 = .ok (.getfield 194, 3) := by decide +kernel
theorem dX11_begin_22 : decode cX11_begin 22 = .ok (.sipush 2000, 3) := by decide +kernel
theorem dX11_begin_25 : decode cX11_begin 25 = .ok (.if_icmp .le 7, 3) := by decide +kernel
theorem dX11_begin_28 : decode cX11_begin 28 = .ok (.iconst 1, 1) := by decide +kernel
theorem dX11_begin_29 : decode cX11_begin 29 = .ok (.goto 4, 3) := by decide +kernel
theorem dX11_begin_32 : decode cX11_begin 32 = .ok (.iconst 0, 1) := by decide +kernel
theorem dX11_begin_33 : decode cX11_begin 33 = .ok (.putfield 197, 3) := by decide +kernel
theorem dX11_begin_36 : decode cX11_begin 36 = .ok (.aload_n 0, 1) := by decide +kernel
theorem dX11_begin_37 : decode cX11_begin 37 = .ok (.getfield 106, 3) := by decide +kernel
theorem dX11_begin_40 : decode cX11_begin 40 = .ok (.aload_n 0, 1) := by decide +kernel
theorem dX11_begin_41 : decode cX11_begin 41 = .ok (.getfield 200, 3) := by decide +kernel
theorem dX11_begin_44 : decode cX11_begin 44 = .ok (.iload_n 1, 1) := by decide +kernel
theorem dX11_begin_45 : decode cX11_begin 45 = .ok (.iastore, 1) := by decide +kernel
theorem dX11_begin_46 : decode cX11_begin 46 = .ok (.aload_n 0, 1) := by decide +kernel
theorem dX11_begin_47 : decode cX11_begin 47 = .ok (.getfield 109, 3) := by decide +kernel
theorem dX11_begin_50 : decode cX11_begin 50 = .ok (.aload_n 0, 1) := by decide +kernel
theorem dX11_begin_51 : decode cX11_begin 51 = .ok (.getfield 200, 3) := by decide +kernel
theorem dX11_begin_54 : decode cX11_begin 54 = .ok (.iconst 0, 1) := by decide +kernel
theorem dX11_begin_55 : decode cX11_begin 55 = .ok (.iastore, 1) := by decide +kernel
theorem dX11_begin_56 : decode cX11_begin 56 = .ok (.aload_n 0, 1) := by decide +kernel
theorem dX11_begin_57 : decode cX11_begin 57 = .ok (.getfield 112, 3) := by decide +kernel
theorem dX11_begin_60 : decode cX11_begin 60 = .ok (.aload_n 0, 1) := by decide +kernel
theorem dX11_begin_61 : decode cX11_begin 61 = .ok (.getfield 200, 3) := by decide +kernel
theorem dX11_begin_64 : decode cX11_begin 64 = .ok (.iconst (-1), 1) := by decide +kernel
theorem dX11_begin_65 : decode cX11_begin 65 = .ok (.iastore, 1) := by decide +kernel
theorem dX11_begin_66 : decode cX11_begin 66 = .ok (.aload_n 0, 1) := by decide +kernel
theorem dX11_begin_67 : decode cX11_begin 67 = .ok (.getfield 115, 3) := by decide +kernel
theorem dX11_begin_70 : decode cX11_begin 70 = .ok (.aload_n 0, 1) := by decide +kernel
theorem dX11_begin_71 : decode cX11_begin 71 = .ok (.getfield 200, 3) := by decide +kernel
theorem dX11_begin_74 : decode cX11_begin 74 = .ok (.iconst 0, 1) := by decide +kernel
theorem dX11_begin_75 : decode cX11_begin 75 = .ok (.bastore, 1) := by decide +kernel
theorem dX11_begin_76 : decode cX11_begin 76 = .ok (.aload_n 0, 1) := by decide +kernel
theorem dX11_begin_77 : decode cX11_begin 77 = .ok (.dup, 1) := by decide +kernel
theorem dX11_begin_78 : decode cX11_begin 78 = .ok (.getfield 200, 3) := by decide +kernel
theorem dX11_begin_81 : decode cX11_begin 81 = .ok (.iconst 1, 1) := by decide +kernel
theorem dX11_begin_82 : decode cX11_begin 82 = .ok (.iadd, 1) := by decide +kernel
theorem dX11_begin_83 : decode cX11_begin 83 = .ok (.putfield 200, 3) := by decide +kernel
theorem dX11_begin_86 : decode cX11_begin 86 = .ok (.return_, 1) := by decide +kernel
theorem dX11_write_0 : decode cX11_write 0 = .ok (.aload_n 0, 1) := by decide +kernel
theorem dX11_write_1 : decode cX11_write 1 = .ok (.getfield 203, 3) := by decide +kernel
theorem dX11_write_4 : decode cX11_write 4 = .ok (.sipush 3000, 3) := by decide +kernel
theorem dX11_write_7 : decode cX11_write 7 = .ok (.if_icmp .ne 9, 3) := by decide +kernel
theorem dX11_write_10 : decode cX11_write 10 = .ok (.aload_n 0, 1) := by decide +kernel
theorem dX11_write_11 : decode cX11_write 11 = .ok (.iconst 1, 1) := by decide +kernel
theorem dX11_write_12 : decode cX11_write 12 = .ok (.putfield 197, 3) := by decide +kernel
theorem dX11_write_15 : decode cX11_write 15 = .ok (.return_, 1) := by decide +kernel
theorem dX11_write_16 : decode cX11_write 16 = .ok (.aload_n 0, 1) := by decide +kernel
theorem dX11_write_17 : decode cX11_write 17 = .ok (.getfield 86, 3) := by decide +kernel
theorem dX11_write_20 : decode cX11_write 20 = .ok (.sipush 3000, 3) := by decide +kernel
theorem dX11_write_23 : decode cX11_write 23 = .ok (.aload_n 0, 1) := by decide +kernel
theorem dX11_write_24 : decode cX11_write 24 = .ok (.getfield 203, 3) := by decide +kernel
theorem dX11_write_27 : decode cX11_write 27 = .ok (.iadd, 1) := by decide +kernel
theorem dX11_write_28 : decode cX11_write 28 = .ok (.iload_n 1, 1) := by decide +kernel
theorem dX11_write_29 : decode cX11_write 29 = .ok (.iastore, 1) := by decide +kernel
theorem dX11_write_30 : decode cX11_write 30 = .ok (.aload_n 0, 1) := by decide +kernel
theorem dX11_write_31 : decode cX11_write 31 = .ok (.dup, 1) := by decide +kernel
theorem dX11_write_32 : decode cX11_write 32 = .ok (.getfield 203, 3) := by decide +kernel
theorem dX11_write_35 : decode cX11_write 35 = .ok (.iconst 1, 1) := by decide +kernel
theorem dX11_write_36 : decode cX11_write 36 = .ok (.iadd, 1) := by decide +kernel
theorem dX11_write_37 : decode cX11_write 37 = .ok (.putfield 203, 3) := by decide +kernel
theorem dX11_write_40 : decode cX11_write 40 = .ok (.return_, 1) := by decide +kernel
theorem dX11_writeNumber_0 : decode cX11_writeNumber 0 = .ok (.iconst 1, 1) := by decide +kernel
theorem dX11_writeNumber_1 : decode cX11_writeNumber 1 = .ok (.istore_n 2, 1) := by decide +kernel
theorem dX11_writeNumber_2 : decode cX11_writeNumber 2 = .ok (.iload_n 1, 1) := by decide +kernel
theorem dX11_writeNumber_3 : decode cX11_writeNumber 3 = .ok (.iload_n 2, 1) := by decide +kernel
theorem dX11_writeNumber_4 : decode cX11_writeNumber 4 = .ok (.idiv, 1) := by decide +kernel
theorem dX11_writeNumber_5 : decode cX11_writeNumber 5 = .ok (.bipush 9, 2) := by decide +kernel
theorem dX11_writeNumber_7 : decode cX11_writeNumber 7 = .ok (.if_icmp .le 11, 3) := by decide +kernel
theorem dX11_writeNumber_10 : decode cX11_writeNumber 10 = .ok (.iload_n 2, 1) := by decide +kernel
theorem dX11_writeNumber_11 : decode cX11_writeNumber 11 = .ok (.bipush 10, 2) := by decide +kernel
theorem dX11_writeNumber_13 : decode cX11_writeNumber 13 = .ok (.imul, 1) := by decide +kernel
theorem dX11_writeNumber_14 : decode cX11_writeNumber 14 = .ok (.istore_n 2, 1) := by decide +kernel
theorem dX11_writeNumber_15 : decode cX11_writeNumber 15 = .ok (.goto (-13), 3) := by decide +kernel
theorem dX11_writeNumber_18 : decode cX11_writeNumber 18 = .ok (.iload_n 2, 1) := by decide +kernel
theorem dX11_writeNumber_19 : decode cX11_writeNumber 19 = .ok (.istore_n 3, 1) := by decide +kernel
theorem dX11_writeNumber_20 : decode cX11_writeNumber 20 = .ok (.iload_n 3, 1) := by decide +kernel
theorem dX11_writeNumber_21 : decode cX11_writeNumber 21 = .ok (.ifCond .le 24, 3) := by decide +kernel
theorem dX11_writeNumber_24 : decode cX11_writeNumber 24 = .ok (.aload_n 0, 1) := by decide +kernel
theorem dX11_writeNumber_25 : decode cX11_writeNumber 25 = .ok (.bipush 48, 2) := by decide +kernel
theorem dX11_writeNumber_27 : decode cX11_writeNumber 27 = .ok (.iload_n 1, 1) := by decide +kernel
theorem dX11_writeNumber_28 : decode cX11_writeNumber 28 = .ok (.iload_n 3, 1) := by decide +kernel
theorem dX11_writeNumber_29 : decode cX11_writeNumber 29 = .ok (.idiv, 1) := by decide +kernel
theorem dX11_writeNumber_30 : decode cX11_writeNumber 30 = .ok (.bipush 10, 2) := by decide +kernel
theorem dX11_writeNumber_32 : decode cX11_writeNumber 32 = .ok (.irem, 1) := by decide +kernel
theorem dX11_writeNumber_33 : decode cX11_writeNumber 33 = .ok (.iadd, 1) := by decide +kernel
theorem dX11_writeNumber_34 : decode cX11_writeNumber 34 = .ok (.invokevirtual 206, 3) := by decide +kernel
theorem dX11_writeNumber_37 : decode cX11_writeNumber 37 = .ok (.iload_n 3, 1) := by decide +kernel
theorem dX11_writeNumber_38 : decode cX11_writeNumber 38 = .ok (.bipush 10, 2) := by decide +kernel
theorem dX11_writeNumber_40 : decode cX11_writeNumber 40 = .ok (.idiv, 1) := by decide +kernel
theorem dX11_writeNumber_41 : decode cX11_writeNumber 41 = .ok (.istore_n 3, 1) := by decide +kernel
theorem dX11_writeNumber_42 : decode cX11_writeNumber 42 = .ok (.goto (-22), 3) := by decide +kernel
theorem dX11_writeNumber_45 : decode cX11_writeNumber 45 = .ok (.return_, 1) := by decide +kernel
theorem dX11_makePiece_0 : decode cX11_makePiece 0 = .ok (.aload_n 0, 1) := by decide +kernel
theorem dX11_makePiece_1 : decode cX11_makePiece 1 = .ok (.getfield 56, 3) := by decide +kernel
theorem dX11_makePiece_4 : decode cX11_makePiece 4 = .ok (.iconst 1, 1) := by decide +kernel
theorem dX11_makePiece_5 : decode cX11_makePiece 5 = .ok (.iaload, 1) := by decide +kernel
theorem dX11_makePiece_6 : decode cX11_makePiece 6 = .ok (.sipush 250, 3) := by decide +kernel
theorem dX11_makePiece_9 : decode cX11_makePiece 9 = .ok (.if_icmp .ne 8, 3) := by decide +kernel
theorem dX11_makePiece_12 : decode cX11_makePiece 12 = .ok (.aload_n 0, 1) := by decide +kernel
theorem dX11_makePiece_13 : decode cX11_makePiece 13 = .ok (.iconst 1, 1) := by decide +kernel
theorem dX11_makePiece_14 : decode cX11_makePiece 14 = .ok (.putfield 197, 3) := by decide +kernel
theorem dX11_makePiece_17 : decode cX11_makePiece 17 = .ok (.aload_n 0, 1) := by decide +kernel
theorem dX11_makePiece_18 : decode cX11_makePiece 18 = .ok (.getfield 197, 3) := by decide +kernel
theorem dX11_makePiece_21 : decode cX11_makePiece 21 = .ok (.ifCond .eq 4, 3) := by decide +kernel
theorem dX11_makePiece_24 : decode cX11_makePiece 24 = .ok (.return_, 1) := by decide +kernel
theorem dX11_makePiece_25 : decode cX11_makePiece 25 = .ok (.bipush 20, 2) := by decide +kernel
theorem dX11_makePiece_27 : decode cX11_makePiece 27 = .ok (.aload_n 0, 1) := by decide +kernel
theorem dX11_makePiece_28 : decode cX11_makePiece 28 = .ok (.getfield 13, 3) := by decide +kernel
theorem dX11_makePiece_31 : decode cX11_makePiece 31 = .ok (.iload_n 1, 1) := by decide +kernel
theorem dX11_makePiece_32 : decode cX11_makePiece 32 = .ok (.iaload, 1) := by decide +kernel
theorem dX11_makePiece_33 : decode cX11_makePiece 33 = .ok (.imul, 1) := by decide +kernel
theorem dX11_makePiece_34 : decode cX11_makePiece 34 = .ok (.iload_n 2, 1) := by decide +kernel
theorem dX11_makePiece_35 : decode cX11_makePiece 35 = .ok (.iadd, 1) := by decide +kernel
theorem dX11_makePiece_36 : decode cX11_makePiece 36 = .ok (.istore_n 3, 1) := by decide +kernel
theorem dX11_makePiece_37 : decode cX11_makePiece 37 = .ok (.sipush 250, 3) := by decide +kernel
theorem dX11_makePiece_40 : decode cX11_makePiece 40 = .ok (.aload_n 0, 1) := by decide +kernel
theorem dX11_makePiece_41 : decode cX11_makePiece 41 = .ok (.getfield 56, 3) := by decide +kernel
theorem dX11_makePiece_44 : decode cX11_makePiece 44 = .ok (.iconst 1, 1) := by decide +kernel
theorem dX11_makePiece_45 : decode cX11_makePiece 45 = .ok (.iaload, 1) := by decide +kernel
theorem dX11_makePiece_46 : decode cX11_makePiece 46 = .ok (.iadd, 1) := by decide +kernel
theorem dX11_makePiece_47 : decode cX11_makePiece 47 = .ok (.istore 4, 2) := by decide +kernel
theorem dX11_makePiece_49 : decode cX11_makePiece 49 = .ok (.aload_n 0, 1) := by decide +kernel
theorem dX11_makePiece_50 : decode cX11_makePiece 50 = .ok (.getfield 59, 3) := by decide +kernel
theorem dX11_makePiece_53 : decode cX11_makePiece 53 = .ok (.iload 4, 2) := by decide +kernel
theorem dX11_makePiece_55 : decode cX11_makePiece 55 = .ok (.iload_n 2, 1) := by decide +kernel
theorem dX11_makePiece_56 : decode cX11_makePiece 56 = .ok (.iastore, 1) := by decide +kernel
theorem dX11_makePiece_57 : decode cX11_makePiece 57 = .ok (.aload_n 0, 1) := by decide +kernel
theorem dX11_makePiece_58 : decode cX11_makePiece 58 = .ok (.getfield 62, 3) := by decide +kernel
theorem dX11_makePiece_61 : decode cX11_makePiece 61 = .ok (.iload 4, 2) := by decide +kernel
theorem dX11_makePiece_63 : decode cX11_makePiece 63 = .ok (.aload_n 0, 1) := by decide +kernel
theorem dX11_makePiece_64 : decode cX11_makePiece 64 = .ok (.getfield 34, 3) := by decide +kernel
theorem dX11_makePiece_67 : decode cX11_makePiece 67 = .ok (.iload_n 3, 1) := by decide +kernel
theorem dX11_makePiece_68 : decode cX11_makePiece 68 = .ok (.iaload, 1) := by decide +kernel
theorem dX11_makePiece_69 : decode cX11_makePiece 69 = .ok (.iastore, 1) := by decide +kernel
theorem dX11_makePiece_70 : decode cX11_makePiece 70 = .ok (.aload_n 0, 1) := by decide +kernel
theorem dX11_makePiece_71 : decode cX11_makePiece 71 = .ok (.getfield 65, 3) := by decide +kernel
theorem dX11_makePiece_74 : decode cX11_makePiece 74 = .ok (.iload 4, 2) := by decide +kernel
theorem dX11_makePiece_76 : decode cX11_makePiece 76 = .ok (.aload_n 0, 1) := by decide +kernel
theorem dX11_makePiece_77 : decode cX11_makePiece 77 = .ok (.getfield 13, 3) := by decide +kernel
theorem dX11_makePiece_80 : decode cX11_makePiece 80 = .ok (.iload_n 1, 1) := by decide +kernel
theorem dX11_makePiece_81 : decode cX11_makePiece 81 = .ok (.iaload, 1) := by decide +kernel
theorem dX11_makePiece_82 : decode cX11_makePiece 82 = .ok (.iastore, 1) := by decide +kernel
theorem dX11_makePiece_83 : decode cX11_makePiece 83 = .ok (.aload_n 0, 1) := by decide +kernel
theorem dX11_makePiece_84 : decode cX11_makePiece 84 = .ok (.getfield 68, 3) := by decide +kernel
theorem dX11_makePiece_87 : decode cX11_makePiece 87 = .ok (.iload 4, 2) := by decide +kernel
theorem dX11_makePiece_89 : decode cX11_makePiece 89 = .ok (.aload_n 0, 1) := by decide +kernel
theorem dX11_makePiece_90 : decode cX11_makePiece 90 = .ok (.getfield 37, 3) := by decide +kernel
theorem dX11_makePiece_93 : decode cX11_makePiece 93 = .ok (.iload_n 3, 1) := by decide +kernel
theorem dX11_makePiece_94 : decode cX11_makePiece 94 = .ok (.iaload, 1) := by decide +kernel
theorem dX11_makePiece_95 : decode cX11_makePiece 95 = .ok (.iastore, 1) := by decide +kernel
theorem dX11_makePiece_96 : decode cX11_makePiece 96 = .ok (.aload_n 0, 1) := by decide +kernel
theorem dX11_makePiece_97 : decode cX11_makePiece 97 = .ok (.getfield 71, 3) := by decide +kernel
theorem dX11_makePiece_100 : decode cX11_makePiece 100 = .ok (.iload 4, 2) := by decide +kernel
theorem dX11_makePiece_102 : decode cX11_makePiece 102 = .ok (.aload_n 0, 1) := by decide +kernel
theorem dX11_makePiece_103 : decode cX11_makePiece 103 = .ok (.getfield 200, 3) := by decide +kernel
theorem dX11_makePiece_106 : decode cX11_makePiece 106 = .ok (.iastore, 1) := by decide +kernel
theorem dX11_makePiece_107 : decode cX11_makePiece 107 = .ok (.aload_n 0, 1) := by decide +kernel
theorem dX11_makePiece_108 : decode cX11_makePiece 108 = .ok (.getfield 77, 3) := by decide +kernel
theorem dX11_makePiece_111 : decode cX11_makePiece 111 = .ok (.iload 4, 2) := by decide +kernel
theorem dX11_makePiece_113 : decode cX11_makePiece 113 = .ok (.iload_n 1, 1) := by decide +kernel
theorem dX11_makePiece_114 : decode cX11_makePiece 114 = .ok (.iastore, 1) := by decide +kernel
theorem dX11_makePiece_115 : decode cX11_makePiece 115 = .ok (.iconst 0, 1) := by decide +kernel
theorem dX11_makePiece_116 : decode cX11_makePiece 116 = .ok (.istore 5, 2) := by decide +kernel
theorem dX11_makePiece_118 : decode cX11_makePiece 118 = .ok (.iload 5, 2) := by decide +kernel
theorem dX11_makePiece_120 : decode cX11_makePiece 120 = .ok (.aload_n 0, 1) := by decide +kernel
theorem dX11_makePiece_121 : decode cX11_makePiece 121 = .ok (.getfield 200, 3) := by decide +kernel
theorem dX11_makePiece_124 : decode cX11_makePiece 124 = .ok (.if_icmp .ge 62, 3) := by decide +kernel
theorem dX11_makePiece_127 : decode cX11_makePiece 127 = .ok (.aload_n 0, 1) := by decide +kernel
theorem dX11_makePiece_128 : decode cX11_makePiece 128 = .ok (.getfield 74, 3) := by decide +kernel
theorem dX11_makePiece_131 : decode cX11_makePiece 131 = .ok (.bipush 12, 2) := by decide +kernel
theorem dX11_makePiece_133 : decode cX11_makePiece 133 = .ok (.iload 4, 2) := by decide +kernel
theorem dX11_makePiece_135 : decode cX11_makePiece 135 = .ok (.imul, 1) := by decide +kernel
theorem dX11_makePiece_136 : decode cX11_makePiece 136 = .ok (.iconst 2, 1) := by decide +kernel
theorem dX11_makePiece_137 : decode cX11_makePiece 137 = .ok (.iload 5, 2) := by decide +kernel
theorem dX11_makePiece_139 : decode cX11_makePiece 139 = .ok (.imul, 1) := by decide +kernel
theorem dX11_makePiece_140 : decode cX11_makePiece 140 = .ok (.iadd, 1) := by decide +kernel
theorem dX11_makePiece_141 : decode cX11_makePiece 141 = .ok (.aload_n 0, 1) := by decide +kernel
theorem dX11_makePiece_142 : decode cX11_makePiece 142 = .ok (.getfield 7, 3) := by decide +kernel
theorem dX11_makePiece_145 : decode cX11_makePiece 145 = .ok (.aload_n 0, 1) := by decide +kernel
theorem dX11_makePiece_146 : decode cX11_makePiece 146 = .ok (.getfield 106, 3) := by decide +kernel
theorem dX11_makePiece_149 : decode cX11_makePiece 149 = .ok (.iload 5, 2) := by decide +kernel
theorem dX11_makePiece_151 : decode cX11_makePiece 151 = .ok (.iaload, 1) := by decide +kernel
theorem dX11_makePiece_152 : decode cX11_makePiece 152 = .ok (.iaload, 1) := by decide +kernel
theorem dX11_makePiece_153 : decode cX11_makePiece 153 = .ok (.iastore, 1) := by decide +kernel
theorem dX11_makePiece_154 : decode cX11_makePiece 154 = .ok (.aload_n 0, 1) := by decide +kernel
theorem dX11_makePiece_155 : decode cX11_makePiece 155 = .ok (.getfield 74, 3) := by decide +kernel
theorem dX11_makePiece_158 : decode cX11_makePiece 158 = .ok (.bipush 12, 2) := by decide +kernel
theorem dX11_makePiece_160 : decode cX11_makePiece 160 = .ok (.iload 4, 2) := by decide +kernel
theorem dX11_makePiece_162 : decode cX11_makePiece 162 = .ok (.imul, 1) := by decide +kernel
theorem dX11_makePiece_163 : decode cX11_makePiece 163 = .ok (.iconst 2, 1) := by decide +kernel
theorem dX11_makePiece_164 : decode cX11_makePiece 164 = .ok (.iload 5, 2) := by decide +kernel
theorem dX11_makePiece_166 : decode cX11_makePiece 166 = .ok (.imul, 1) := by decide +kernel
theorem dX11_makePiece_167 : decode cX11_makePiece 167 = .ok (.iadd, 1) := by decide +kernel
theorem dX11_makePiece_168 : decode cX11_makePiece 168 = .ok (.iconst 1, 1) := by decide +kernel
theorem dX11_makePiece_169 : decode cX11_makePiece 169 = .ok (.iadd, 1) := by decide +kernel
theorem dX11_makePiece_170 : decode cX11_makePiece 170 = .ok (.aload_n 0, 1) := by decide +kernel
theorem dX11_makePiece_171 : decode cX11_makePiece 171 = .ok (.getfield 109, 3) := by decide +kernel
theorem dX11_makePiece_174 : decode cX11_makePiece 174 = .ok (.iload 5, 2) := by decide +kernel
theorem dX11_makePiece_176 : decode cX11_makePiece 176 = .ok (.iaload, 1) := by decide +kernel
theorem dX11_makePiece_177 : decode cX11_makePiece 177 = .ok (.iconst 1, 1) := by decide +kernel
theorem dX11_makePiece_178 : decode cX11_makePiece 178 = .ok (.isub, 1) := by decide +kernel
theorem dX11_makePiece_179 : decode cX11_makePiece 179 = .ok (.iastore, 1) := by decide +kernel
theorem dX11_makePiece_180 : decode cX11_makePiece 180 = .ok (.iinc 5 1, 3) := by decide +kernel
theorem dX11_makePiece_183 : decode cX11_makePiece 183 = .ok (.goto (-65), 3) := by decide +kernel
theorem dX11_makePiece_186 : decode cX11_makePiece 186 = .ok (.aload_n 0, 1) := by decide +kernel
theorem dX11_makePiece_187 : decode cX11_makePiece 187 = .ok (.getfield 80, 3) := by decide +kernel
theorem dX11_makePiece_190 : decode cX11_makePiece 190 = .ok (.iload 4, 2) := by decide +kernel
theorem dX11_makePiece_192 : decode cX11_makePiece 192 = .ok (.aload_n 0, 1) := by decide +kernel
theorem dX11_makePiece_193 : decode cX11_makePiece 193 = .ok (.getfield 203, 3) := by decide +kernel
theorem dX11_makePiece_196 : decode cX11_makePiece 196 = .ok (.iastore, 1) := by decide +kernel
theorem dX11_makePiece_197 : decode cX11_makePiece 197 = .ok (.aload_n 0, 1) := by decide +kernel
theorem dX11_makePiece_198 : decode cX11_makePiece 198 = .ok (.getfield 89, 3) := by decide +kernel
theorem dX11_makePiece_201 : decode cX11_makePiece 201 = .ok (.iload 4, 2) := by decide +kernel
theorem dX11_makePiece_203 : decode cX11_makePiece 203 = .ok (.iconst (-1), 1) := by decide +kernel
theorem dX11_makePiece_204 : decode cX11_makePiece 204 = .ok (.iastore, 1) := by decide +kernel
theorem dX11_makePiece_205 : decode cX11_makePiece 205 = .ok (.aload_n 0, 1) := by decide +kernel
