theorem dX11_touch_123 : decode cX11_touch 123 = .ok (.iaload, 1) := by decide +kernel
theorem dX11_touch_124 : decode cX11_touch 124 = .ok (.aload_n 0, 1) := by decide +kernel
theorem dX11_touch_125 : decode cX11_touch 125 = .ok (.getfield 56, 3) := by decide +kernel
theorem dX11_touch_128 : decode cX11_touch 128 = .ok (.iconst 1, 1) := by decide +kernel
theorem dX11_touch_129 : decode cX11_touch 129 = .ok (.iaload, 1) := by decide +kernel
theorem dX11_touch_130 : decode cX11_touch 130 = .ok (.if_icmp .le 19, 3) := by decide +kernel
theorem dX11_touch_133 : decode cX11_touch 133 = .ok (.aload_n 0, 1) := by decide +kernel
theorem dX11_touch_134 : decode cX11_touch 134 = .ok (.getfield 56, 3) := by decide +kernel
theorem dX11_touch_137 : decode cX11_touch 137 = .ok (.iconst 0, 1) := by decide +kernel
theorem dX11_touch_138 : decode cX11_touch 138 = .ok (.iaload, 1) := by decide +kernel
theorem dX11_touch_139 : decode cX11_touch 139 = .ok (.aload_n 0, 1) := by decide +kernel
theorem dX11_touch_140 : decode cX11_touch 140 = .ok (.getfield 56, 3) := by decide +kernel
theorem dX11_touch_143 : decode cX11_touch 143 = .ok (.iconst 1, 1) := by decide +kernel
theorem dX11_touch_144 : decode cX11_touch 144 = .ok (.iaload, 1) := by decide +kernel
theorem dX11_touch_145 : decode cX11_touch 145 = .ok (.isub, 1) := by decide +kernel
theorem dX11_touch_146 : decode cX11_touch 146 = .ok (.goto 16, 3) := by decide +kernel
theorem dX11_touch_149 : decode cX11_touch 149 = .ok (.aload_n 0, 1) := by decide +kernel
theorem dX11_touch_150 : decode cX11_touch 150 = .ok (.getfield 56, 3) := by decide +kernel
theorem dX11_touch_153 : decode cX11_touch 153 = .ok (.iconst 1, 1) := by decide +kernel
theorem dX11_touch_154 : decode cX11_touch 154 = .ok (.iaload, 1) := by decide +kernel
theorem dX11_touch_155 : decode cX11_touch 155 = .ok (.aload_n 0, 1) := by decide +kernel
theorem dX11_touch_156 : decode cX11_touch 156 = .ok (.getfield 56, 3) := by decide +kernel
theorem dX11_touch_159 : decode cX11_touch 159 = .ok (.iconst 0, 1) := by decide +kernel
theorem dX11_touch_160 : decode cX11_touch 160 = .ok (.iaload, 1) := by decide +kernel
theorem dX11_touch_161 : decode cX11_touch 161 = .ok (.isub, 1) := by decide +kernel
theorem dX11_touch_162 : decode cX11_touch 162 = .ok (.istore 9, 2) := by decide +kernel
theorem dX11_touch_164 : decode cX11_touch 164 = .ok (.iconst 0, 1) := by decide +kernel
theorem dX11_touch_165 : decode cX11_touch 165 = .ok (.istore 10, 2) := by decide +kernel
theorem dX11_touch_167 : decode cX11_touch 167 = .ok (.iload 10, 2) := by decide +kernel
theorem dX11_touch_169 : decode cX11_touch 169 = .ok (.aload_n 0, 1) := by decide +kernel
theorem dX11_touch_170 : decode cX11_touch 170 = .ok (.getfield 56, 3) := by decide +kernel
theorem dX11_touch_173 : decode cX11_touch 173 = .ok (.iconst 1, 1) := by decide +kernel
theorem dX11_touch_174 : decode cX11_touch 174 = .ok (.iaload, 1) := by decide +kernel
theorem dX11_touch_175 : decode cX11_touch 175 = .ok (.if_icmp .ge 62, 3) := by decide +kernel
theorem dX11_touch_178 : decode cX11_touch 178 = .ok (.iload 8, 2) := by decide +kernel
theorem dX11_touch_180 : decode cX11_touch 180 = .ok (.aload_n 0, 1) := by decide +kernel
theorem dX11_touch_181 : decode cX11_touch 181 = .ok (.getfield 102, 3) := by decide +kernel
theorem dX11_touch_184 : decode cX11_touch 184 = .ok (.sipush 250, 3) := by decide +kernel
theorem dX11_touch_187 : decode cX11_touch 187 = .ok (.iload 10, 2) := by decide +kernel
theorem dX11_touch_189 : decode cX11_touch 189 = .ok (.iadd, 1) := by decide +kernel
theorem dX11_touch_190 : decode cX11_touch 190 = .ok (.baload, 1) := by decide +kernel
theorem dX11_touch_191 : decode cX11_touch 191 = .ok (.ifCond .eq 7, 3) := by decide +kernel
theorem dX11_touch_194 : decode cX11_touch 194 = .ok (.iconst 1, 1) := by decide +kernel
theorem dX11_touch_195 : decode cX11_touch 195 = .ok (.goto 4, 3) := by decide +kernel
theorem dX11_touch_198 : decode cX11_touch 198 = .ok (.iconst 0, 1) := by decide +kernel
theorem dX11_touch_199 : decode cX11_touch 199 = .ok (.iadd, 1) := by decide +kernel
theorem dX11_touch_200 : decode cX11_touch 200 = .ok (.istore 8, 2) := by decide +kernel
theorem dX11_touch_202 : decode cX11_touch 202 = .ok (.iload 10, 2) := by decide +kernel
theorem dX11_touch_204 : decode cX11_touch 204 = .ok (.aload_n 0, 1) := by decide +kernel
theorem dX11_touch_205 : decode cX11_touch 205 = .ok (.getfield 56, 3) := by decide +kernel
theorem dX11_touch_208 : decode cX11_touch 208 = .ok (.iconst 0, 1) := by decide +kernel
theorem dX11_touch_209 : decode cX11_touch 209 = .ok (.iaload, 1) := by decide +kernel
theorem dX11_touch_210 : decode cX11_touch 210 = .ok (.if_icmp .ge 21, 3) := by decide +kernel
theorem dX11_touch_213 : decode cX11_touch 213 = .ok (.aload_n 0, 1) := by decide +kernel
theorem dX11_touch_214 : decode cX11_touch 214 = .ok (.iload 10, 2) := by decide +kernel
theorem dX11_touch_216 : decode cX11_touch 216 = .ok (.sipush 250, 3) := by decide +kernel
theorem dX11_touch_219 : decode cX11_touch 219 = .ok (.iload 10, 2) := by decide +kernel
theorem dX11_touch_221 : decode cX11_touch 221 = .ok (.iadd, 1) := by decide +kernel
theorem dX11_touch_222 : decode cX11_touch 222 = .ok (.invokevirtual 281, 3) := by decide +kernel
theorem dX11_touch_225 : decode cX11_touch 225 = .ok (.ifCond .ne 6, 3) := by decide +kernel
theorem dX11_touch_228 : decode cX11_touch 228 = .ok (.iinc 9 1, 3) := by decide +kernel
theorem dX11_touch_231 : decode cX11_touch 231 = .ok (.iinc 10 1, 3) := by decide +kernel
theorem dX11_touch_234 : decode cX11_touch 234 = .ok (.goto (-67), 3) := by decide +kernel
theorem dX11_touch_237 : decode cX11_touch 237 = .ok (.iload 4, 2) := by decide +kernel
theorem dX11_touch_239 : decode cX11_touch 239 = .ok (.ifCond .ne 8, 3) := by decide +kernel
theorem dX11_touch_242 : decode cX11_touch 242 = .ok (.iload 9, 2) := by decide +kernel
theorem dX11_touch_244 : decode cX11_touch 244 = .ok (.goto 5, 3) := by decide +kernel
theorem dX11_touch_247 : decode cX11_touch 247 = .ok (.iload 8, 2) := by decide +kernel
theorem dX11_touch_249 : decode cX11_touch 249 = .ok (.ireturn, 1) := by decide +kernel
theorem dX11_isShownAlike_0 : decode cX11_isShownAlike 0 = .ok (.aload_n 0, 1) := by decide +kernel
theorem dX11_isShownAlike_1 : decode cX11_isShownAlike 1 = .ok (.iload_n 1, 1) := by decide +kernel
theorem dX11_isShownAlike_2 : decode cX11_isShownAlike 2 = .ok (.invokevirtual 266, 3) := by decide +kernel
theorem dX11_isShownAlike_5 : decode cX11_isShownAlike 5 = .ok (.aload_n 0, 1) := by decide +kernel
theorem dX11_isShownAlike_6 : decode cX11_isShownAlike 6 = .ok (.iload_n 2, 1) := by decide +kernel
theorem dX11_isShownAlike_7 : decode cX11_isShownAlike 7 = .ok (.invokevirtual 266, 3) := by decide +kernel
theorem dX11_isShownAlike_10 : decode cX11_isShownAlike 10 = .ok (.if_icmp .eq 5, 3) := by decide +kernel
theorem dX11_isShownAlike_13 : decode cX11_isShownAlike 13 = .ok (.iconst 0, 1) := by decide +kernel
theorem dX11_isShownAlike_14 : decode cX11_isShownAlike 14 = .ok (.ireturn, 1) := by decide +kernel
theorem dX11_isShownAlike_15 : decode cX11_isShownAlike 15 = .ok (.iconst 0, 1) := by decide +kernel
theorem dX11_isShownAlike_16 : decode cX11_isShownAlike 16 = .ok (.istore_n 3, 1) := by decide +kernel
theorem dX11_isShownAlike_17 : decode cX11_isShownAlike 17 = .ok (.iload_n 3, 1) := by decide +kernel
theorem dX11_isShownAlike_18 : decode cX11_isShownAlike 18 = .ok (.aload_n 0, 1) := by decide +kernel
theorem dX11_isShownAlike_19 : decode cX11_isShownAlike 19 = .ok (.iload_n 1, 1) := by decide +kernel
theorem dX11_isShownAlike_20 : decode cX11_isShownAlike 20 = .ok (.invokevirtual 266, 3) := by decide +kernel
theorem dX11_isShownAlike_23 : decode cX11_isShownAlike 23 = .ok (.if_icmp .ge 26, 3) := by decide +kernel
theorem dX11_isShownAlike_26 : decode cX11_isShownAlike 26 = .ok (.aload_n 0, 1) := by decide +kernel
theorem dX11_isShownAlike_27 : decode cX11_isShownAlike 27 = .ok (.iload_n 1, 1) := by decide +kernel
theorem dX11_isShownAlike_28 : decode cX11_isShownAlike 28 = .ok (.iload_n 3, 1) := by decide +kernel
theorem dX11_isShownAlike_29 : decode cX11_isShownAlike 29 = .ok (.invokevirtual 269, 3) := by decide +kernel
theorem dX11_isShownAlike_32 : decode cX11_isShownAlike 32 = .ok (.aload_n 0, 1) := by decide +kernel
theorem dX11_isShownAlike_33 : decode cX11_isShownAlike 33 = .ok (.iload_n 2, 1) := by decide +kernel
theorem dX11_isShownAlike_34 : decode cX11_isShownAlike 34 = .ok (.iload_n 3, 1) := by decide +kernel
theorem dX11_isShownAlike_35 : decode cX11_isShownAlike 35 = .ok (.invokevirtual 269, 3) := by decide +kernel
theorem dX11_isShownAlike_38 : decode cX11_isShownAlike 38 = .ok (.if_icmp .eq 5, 3) := by decide +kernel
theorem dX11_isShownAlike_41 : decode cX11_isShownAlike 41 = .ok (.iconst 0, 1) := by decide +kernel
theorem dX11_isShownAlike_42 : decode cX11_isShownAlike 42 = .ok (.ireturn, 1) := by decide +kernel
theorem dX11_isShownAlike_43 : decode cX11_isShownAlike 43 = .ok (.iinc 3 1, 3) := by decide +kernel
theorem dX11_isShownAlike_46 : decode cX11_isShownAlike 46 = .ok (.goto (-29), 3) := by decide +kernel
theorem dX11_isShownAlike_49 : decode cX11_isShownAlike 49 = .ok (.iconst 1, 1) := by decide +kernel
theorem dX11_isShownAlike_50 : decode cX11_isShownAlike 50 = .ok (.ireturn, 1) := by decide +kernel
theorem dX11_pieceAt_0 : decode cX11_pieceAt 0 = .ok (.iload_n 1, 1) := by decide +kernel
theorem dX11_pieceAt_1 : decode cX11_pieceAt 1 = .ok (.istore_n 2, 1) := by decide +kernel
theorem dX11_pieceAt_2 : decode cX11_pieceAt 2 = .ok (.iconst 0, 1) := by decide +kernel
theorem dX11_pieceAt_3 : decode cX11_pieceAt 3 = .ok (.istore_n 3, 1) := by decide +kernel
theorem dX11_pieceAt_4 : decode cX11_pieceAt 4 = .ok (.iload_n 3, 1) := by decide +kernel
theorem dX11_pieceAt_5 : decode cX11_pieceAt 5 = .ok (.aload_n 0, 1) := by decide +kernel
theorem dX11_pieceAt_6 : decode cX11_pieceAt 6 = .ok (.getfield 56, 3) := by decide +kernel
theorem dX11_pieceAt_9 : decode cX11_pieceAt 9 = .ok (.iconst 0, 1) := by decide +kernel
theorem dX11_pieceAt_10 : decode cX11_pieceAt 10 = .ok (.iaload, 1) := by decide +kernel
theorem dX11_pieceAt_11 : decode cX11_pieceAt 11 = .ok (.if_icmp .ge 37, 3) := by decide +kernel
theorem dX11_pieceAt_14 : decode cX11_pieceAt 14 = .ok (.iload_n 1, 1) := by decide +kernel
theorem dX11_pieceAt_15 : decode cX11_pieceAt 15 = .ok (.ifCond .lt 33, 3) := by decide +kernel
theorem dX11_pieceAt_18 : decode cX11_pieceAt 18 = .ok (.iload_n 2, 1) := by decide +kernel
theorem dX11_pieceAt_19 : decode cX11_pieceAt 19 = .ok (.aload_n 0, 1) := by decide +kernel
theorem dX11_pieceAt_20 : decode cX11_pieceAt 20 = .ok (.iload_n 3, 1) := by decide +kernel
theorem dX11_pieceAt_21 : decode cX11_pieceAt 21 = .ok (.invokevirtual 266, 3) := by decide +kernel
theorem dX11_pieceAt_24 : decode cX11_pieceAt 24 = .ok (.if_icmp .ge 10, 3) := by decide +kernel
theorem dX11_pieceAt_27 : decode cX11_pieceAt 27 = .ok (.aload_n 0, 1) := by decide +kernel
theorem dX11_pieceAt_28 : decode cX11_pieceAt 28 = .ok (.iload_n 2, 1) := by decide +kernel
theorem dX11_pieceAt_29 : decode cX11_pieceAt 29 = .ok (.putfield 284, 3) := by decide +kernel
theorem dX11_pieceAt_32 : decode cX11_pieceAt 32 = .ok (.iload_n 3, 1) := by decide +kernel
theorem dX11_pieceAt_33 : decode cX11_pieceAt 33 = .ok (.ireturn, 1) := by decide +kernel
theorem dX11_pieceAt_34 : decode cX11_pieceAt 34 = .ok (.iload_n 2, 1) := by decide +kernel
theorem dX11_pieceAt_35 : decode cX11_pieceAt 35 = .ok (.aload_n 0, 1) := by decide +kernel
theorem dX11_pieceAt_36 : decode cX11_pieceAt 36 = .ok (.iload_n 3, 1) := by decide +kernel
theorem dX11_pieceAt_37 : decode cX11_pieceAt 37 = .ok (.invokevirtual 266, 3) := by decide +kernel
theorem dX11_pieceAt_40 : decode cX11_pieceAt 40 = .ok (.isub, 1) := by decide +kernel
theorem dX11_pieceAt_41 : decode cX11_pieceAt 41 = .ok (.istore_n 2, 1) := by decide +kernel
theorem dX11_pieceAt_42 : decode cX11_pieceAt 42 = .ok (.iinc 3 1, 3) := by decide +kernel
theorem dX11_pieceAt_45 : decode cX11_pieceAt 45 = .ok (.goto (-41), 3) := by decide +kernel
theorem dX11_pieceAt_48 : decode cX11_pieceAt 48 = .ok (.iconst (-1), 1) := by decide +kernel
theorem dX11_pieceAt_49 : decode cX11_pieceAt 49 = .ok (.ireturn, 1) := by decide +kernel
theorem dX11_text_0 : decode cX11_text 0 = .ok (.aload_n 0, 1) := by decide +kernel
theorem dX11_text_1 : decode cX11_text 1 = .ok (.iload_n 1, 1) := by decide +kernel
theorem dX11_text_2 : decode cX11_text 2 = .ok (.invokevirtual 287, 3) := by decide +kernel
theorem dX11_text_5 : decode cX11_text 5 = .ok (.istore_n 2, 1) := by decide +kernel
theorem dX11_text_6 : decode cX11_text 6 = .ok (.iload_n 2, 1) := by decide +kernel
theorem dX11_text_7 : decode cX11_text 7 = .ok (.ifCond .ge 7, 3) := by decide +kernel
theorem dX11_text_10 : decode cX11_text 10 = .ok (.iconst (-1), 1) := by decide +kernel
theorem dX11_text_11 : decode cX11_text 11 = .ok (.goto 12, 3) := by decide +kernel
theorem dX11_text_14 : decode cX11_text 14 = .ok (.aload_n 0, 1) := by decide +kernel
theorem dX11_text_15 : decode cX11_text 15 = .ok (.iload_n 2, 1) := by decide +kernel
theorem dX11_text_16 : decode cX11_text 16 = .ok (.aload_n 0, 1) := by decide +kernel
theorem dX11_text_17 : decode cX11_text 17 = .ok (.getfield 284, 3) := by decide +kernel
theorem dX11_text_20 : decode cX11_text 20 = .ok (.invokevirtual 269, 3) := by decide +kernel
theorem dX11_text_23 : decode cX11_text 23 = .ok (.ireturn, 1) := by decide +kernel
theorem dX11_maker_0 : decode cX11_maker 0 = .ok (.aload_n 0, 1) := by decide +kernel
theorem dX11_maker_1 : decode cX11_maker 1 = .ok (.iload_n 1, 1) := by decide +kernel
theorem dX11_maker_2 : decode cX11_maker 2 = .ok (.invokevirtual 287, 3) := by decide +kernel
theorem dX11_maker_5 : decode cX11_maker 5 = .ok (.ireturn, 1) := by decide +kernel
theorem dX11_lone_0 : decode cX11_lone 0 = .ok (.iload_n 1, 1) := by decide +kernel
theorem dX11_lone_1 : decode cX11_lone 1 = .ok (.iconst 0, 1) := by decide +kernel
theorem dX11_lone_2 : decode cX11_lone 2 = .ok (.aload_n 0, 1) := by decide +kernel
theorem dX11_lone_3 : decode cX11_lone 3 = .ok (.getfield 239, 3) := by decide +kernel
theorem dX11_lone_6 : decode cX11_lone 6 = .ok (.iconst 1, 1) := by decide +kernel
theorem dX11_lone_7 : decode cX11_lone 7 = .ok (.isub, 1) := by decide +kernel
theorem dX11_lone_8 : decode cX11_lone 8 = .ok (.invokestatic 130, 3) := by decide +kernel
theorem dX11_lone_11 : decode cX11_lone 11 = .ok (.ifCond .ne 5, 3) := by decide +kernel
theorem dX11_lone_14 : decode cX11_lone 14 = .ok (.iconst (-1), 1) := by decide +kernel
theorem dX11_lone_15 : decode cX11_lone 15 = .ok (.ireturn, 1) := by decide +kernel
theorem dX11_lone_16 : decode cX11_lone 16 = .ok (.iload_n 2, 1) := by decide +kernel
theorem dX11_lone_17 : decode cX11_lone 17 = .ok (.tableswitch 84 0 3 #[31, 63, 70, 77], 31) := by decide +kernel
theorem dX11_lone_48 : decode cX11_lone 48 = .ok (.iload_n 3, 1) := by decide +kernel
theorem dX11_lone_49 : decode cX11_lone 49 = .ok (.iconst 0, 1) := by decide +kernel
theorem dX11_lone_50 : decode cX11_lone 50 = .ok (.aload_n 0, 1) := by decide +kernel
theorem dX11_lone_51 : decode cX11_lone 51 = .ok (.getfield 124, 3) := by decide +kernel
theorem dX11_lone_54 : decode cX11_lone 54 = .ok (.iload_n 1, 1) := by decide +kernel
theorem dX11_lone_55 : decode cX11_lone 55 = .ok (.iaload, 1) := by decide +kernel
theorem dX11_lone_56 : decode cX11_lone 56 = .ok (.iconst 1, 1) := by decide +kernel
theorem dX11_lone_57 : decode cX11_lone 57 = .ok (.isub, 1) := by decide +kernel
theorem dX11_lone_58 : decode cX11_lone 58 = .ok (.invokestatic 130, 3) := by decide +kernel
theorem dX11_lone_61 : decode cX11_lone 61 = .ok (.ifCond .eq 17, 3) := by decide +kernel
theorem dX11_lone_64 : decode cX11_lone 64 = .ok (.aload_n 0, 1) := by decide +kernel
theorem dX11_lone_65 : decode cX11_lone 65 = .ok (.getfield 127, 3) := by decide +kernel
theorem dX11_lone_68 : decode cX11_lone 68 = .ok (.bipush 60, 2) := by decide +kernel
theorem dX11_lone_70 : decode cX11_lone 70 = .ok (.iload_n 1, 1) := by decide +kernel
theorem dX11_lone_71 : decode cX11_lone 71 = .ok (.imul, 1) := by decide +kernel
theorem dX11_lone_72 : decode cX11_lone 72 = .ok (.iload_n 3, 1) := by decide +kernel
theorem dX11_lone_73 : decode cX11_lone 73 = .ok (.iadd, 1) := by decide +kernel
theorem dX11_lone_74 : decode cX11_lone 74 = .ok (.iaload, 1) := by decide +kernel
theorem dX11_lone_75 : decode cX11_lone 75 = .ok (.goto 4, 3) := by decide +kernel
theorem dX11_lone_78 : decode cX11_lone 78 = .ok (.iconst (-1), 1) := by decide +kernel
theorem dX11_lone_79 : decode cX11_lone 79 = .ok (.ireturn, 1) := by decide +kernel
theorem dX11_lone_80 : decode cX11_lone 80 = .ok (.aload_n 0, 1) := by decide +kernel
theorem dX11_lone_81 : decode cX11_lone 81 = .ok (.getfield 118, 3) := by decide +kernel
theorem dX11_lone_84 : decode cX11_lone 84 = .ok (.iload_n 1, 1) := by decide +kernel
theorem dX11_lone_85 : decode cX11_lone 85 = .ok (.iaload, 1) := by decide +kernel
theorem dX11_lone_86 : decode cX11_lone 86 = .ok (.ireturn, 1) := by decide +kernel
theorem dX11_lone_87 : decode cX11_lone 87 = .ok (.aload_n 0, 1) := by decide +kernel
theorem dX11_lone_88 : decode cX11_lone 88 = .ok (.getfield 121, 3) := by decide +kernel
theorem dX11_lone_91 : decode cX11_lone 91 = .ok (.iload_n 1, 1) := by decide +kernel
theorem dX11_lone_92 : decode cX11_lone 92 = .ok (.iaload, 1) := by decide +kernel
theorem dX11_lone_93 : decode cX11_lone 93 = .ok (.ireturn, 1) := by decide +kernel
theorem dX11_lone_94 : decode cX11_lone 94 = .ok (.aload_n 0, 1) := by decide +kernel
theorem dX11_lone_95 : decode cX11_lone 95 = .ok (.getfield 124, 3) := by decide +kernel
theorem dX11_lone_98 : decode cX11_lone 98 = .ok (.iload_n 1, 1) := by decide +kernel
theorem dX11_lone_99 : decode cX11_lone 99 = .ok (.iaload, 1) := by decide +kernel
theorem dX11_lone_100 : decode cX11_lone 100 = .ok (.ireturn, 1) := by decide +kernel
theorem dX11_lone_101 : decode cX11_lone 101 = .ok (.iconst (-1), 1) := by decide +kernel
theorem dX11_lone_102 : decode cX11_lone 102 = .ok (.ireturn, 1) := by decide +kernel
theorem dX11_drops_0 : decode cX11_drops 0 = .ok (.iload_n 1, 1) := by decide +kernel
theorem dX11_drops_1 : decode cX11_drops 1 = .ok (.iconst 0, 1) := by decide +kernel
theorem dX11_drops_2 : decode cX11_drops 2 = .ok (.aload_n 0, 1) := by decide +kernel
theorem dX11_drops_3 : decode cX11_drops 3 = .ok (.getfield 239, 3) := by decide +kernel
theorem dX11_drops_6 : decode cX11_drops 6 = .ok (.iconst 1, 1) := by decide +kernel
theorem dX11_drops_7 : decode cX11_drops 7 = .ok (.isub, 1) := by decide +kernel
theorem dX11_drops_8 : decode cX11_drops 8 = .ok (.invokestatic 130, 3) := by decide +kernel
theorem dX11_drops_11 : decode cX11_drops 11 = .ok (.ifCond .ne 5, 3) := by decide +kernel
theorem dX11_drops_14 : decode cX11_drops 14 = .ok (.iconst 0, 1) := by decide +kernel
theorem dX11_drops_15 : decode cX11_drops 15 = .ok (.ireturn, 1) := by decide +kernel
theorem dX11_drops_16 : decode cX11_drops 16 = .ok (.aload_n 0, 1) := by decide +kernel
theorem dX11_drops_17 : decode cX11_drops 17 = .ok (.iload_n 1, 1) := by decide +kernel
theorem dX11_drops_18 : decode cX11_drops 18 = .ok (.invokevirtual 242, 3) := by decide +kernel
theorem dX11_drops_21 : decode cX11_drops 21 = .ok (.iconst 1, 1) := by decide +kernel
theorem dX11_drops_22 : decode cX11_drops 22 = .ok (.ireturn, 1) := by decide +kernel
theorem dX11_thingOf_0 : decode cX11_thingOf 0 = .ok (.aload_n 0, 1) := by decide +kernel
theorem dX11_thingOf_1 : decode cX11_thingOf 1 = .ok (.iload_n 1, 1) := by decide +kernel
theorem dX11_thingOf_2 : decode cX11_thingOf 2 = .ok (.invokevirtual 145, 3) := by decide +kernel
theorem dX11_thingOf_5 : decode cX11_thingOf 5 = .ok (.ifCond .ne 5, 3) := by decide +kernel
theorem dX11_thingOf_8 : decode cX11_thingOf 8 = .ok (.iconst (-1), 1) := by decide +kernel
theorem dX11_thingOf_9 : decode cX11_thingOf 9 = .ok (.ireturn, 1) := by decide +kernel
theorem dX11_thingOf_10 : decode cX11_thingOf 10 = .ok (.iload_n 2, 1) := by decide +kernel
theorem dX11_thingOf_11 : decode cX11_thingOf 11 = .ok (.bipush 10, 2) := by decide +kernel
theorem dX11_thingOf_13 : decode cX11_thingOf 13 = .ok (.bipush 13, 2) := by decide +kernel
theorem dX11_thingOf_15 : decode cX11_thingOf 15 = .ok (.invokestatic 130, 3) := by decide +kernel
theorem dX11_thingOf_18 : decode cX11_thingOf 18 = .ok (.ifCond .eq 17, 3) := by decide +kernel
theorem dX11_thingOf_21 : decode cX11_thingOf 21 = .ok (.aload_n 0, 1) := by decide +kernel
theorem dX11_thingOf_22 : decode cX11_thingOf 22 = .ok (.getfield 22, 3) := by decide +kernel
theorem dX11_thingOf_25 : decode cX11_thingOf 25 = .ok (.iconst 4, 1) := by decide +kernel
theorem dX11_thingOf_26 : decode cX11_thingOf 26 = .ok (.iload_n 1, 1) := by decide +kernel
theorem dX11_thingOf_27 : decode cX11_thingOf 27 = .ok (.imul, 1) := by decide +kernel
theorem dX11_thingOf_28 : decode cX11_thingOf 28 = .ok (.iload_n 2, 1) := by decide +kernel
theorem dX11_thingOf_29 : decode cX11_thingOf 29 = .ok (.iadd, 1) := by decide +kernel
theorem dX11_thingOf_30 : decode cX11_thingOf 30 = .ok (.bipush 10, 2) := by decide +kernel
theorem dX11_thingOf_32 : decode cX11_thingOf 32 = .ok (.isub, 1) := by decide +kernel
theorem dX11_thingOf_33 : decode cX11_thingOf 33 = .ok (.iaload, 1) := by decide +kernel
theorem dX11_thingOf_34 : decode cX11_thingOf 34 = .ok (.ireturn, 1) := by decide +kernel
theorem dX11_thingOf_35 : decode cX11_thingOf 35 = .ok (.iload_n 2, 1) := by decide +kernel
theorem dX11_thingOf_36 : decode cX11_thingOf 36 = .ok (.bipush 100, 2) := by decide +kernel
theorem dX11_thingOf_38 : decode cX11_thingOf 38 = .ok (.if_icmp .lt 35, 3) := by decide +kernel
theorem dX11_thingOf_41 : decode cX11_thingOf 41 = .ok (.iload_n 2, 1) := by decide +kernel
theorem dX11_thingOf_42 : decode cX11_thingOf 42 = .ok (.bipush 100, 2) := by decide +kernel
theorem dX11_thingOf_44 : decode cX11_thingOf 44 = .ok (.isub, 1) := by decide +kernel
theorem dX11_thingOf_45 : decode cX11_thingOf 45 = .ok (.aload_n 0, 1) := by decide +kernel
theorem dX11_thingOf_46 : decode cX11_thingOf 46 = .ok (.getfield 28, 3) := by decide +kernel
theorem dX11_thingOf_49 : decode cX11_thingOf 49 = .ok (.iload_n 1, 1) := by decide +kernel
theorem dX11_thingOf_50 : decode cX11_thingOf 50 = .ok (.iaload, 1) := by decide +kernel
theorem dX11_thingOf_51 : decode cX11_thingOf 51 = .ok (.if_icmp .ge 20, 3) := by decide +kernel
theorem dX11_thingOf_54 : decode cX11_thingOf 54 = .ok (.aload_n 0, 1) := by decide +kernel
theorem dX11_thingOf_55 : decode cX11_thingOf 55 = .ok (.getfield 25, 3) := by decide +kernel
theorem dX11_thingOf_58 : decode cX11_thingOf 58 = .ok (.bipush 6, 2) := by decide +kernel
theorem dX11_thingOf_60 : decode cX11_thingOf 60 = .ok (.iload_n 1, 1) := by decide +kernel
theorem dX11_thingOf_61 : decode cX11_thingOf 61 = .ok (.imul, 1) := by decide +kernel
theorem dX11_thingOf_62 : decode cX11_thingOf 62 = .ok (.iload_n 2, 1) := by decide +kernel
theorem dX11_thingOf_63 : decode cX11_thingOf 63 = .ok (.iadd, 1) := by decide +kernel
theorem dX11_thingOf_64 : decode cX11_thingOf 64 = .ok (.bipush 100, 2) := by decide +kernel
theorem dX11_thingOf_66 : decode cX11_thingOf 66 = .ok (.isub, 1) := by decide +kernel
theorem dX11_thingOf_67 : decode cX11_thingOf 67 = .ok (.iaload, 1) := by decide +kernel
theorem dX11_thingOf_68 : decode cX11_thingOf 68 = .ok (.goto 4, 3) := by decide +kernel
theorem dX11_thingOf_71 : decode cX11_thingOf 71 = .ok (.iconst (-1), 1) := by decide +kernel
theorem dX11_thingOf_72 : decode cX11_thingOf 72 = .ok (.ireturn, 1) := by decide +kernel
theorem dX11_thingOf_73 : decode cX11_thingOf 73 = .ok (.iload_n 2, 1) := by decide +kernel
theorem dX11_thingOf_74 : decode cX11_thingOf 74 = .ok (.ifCond .ne 12, 3) := by decide +kernel
theorem dX11_thingOf_77 : decode cX11_thingOf 77 = .ok (.aload_n 0, 1) := by decide +kernel
theorem dX11_thingOf_78 : decode cX11_thingOf 78 = .ok (.getfield 13, 3) := by decide +kernel
theorem dX11_thingOf_81 : decode cX11_thingOf 81 = .ok (.iload_n 1, 1) := by decide +kernel
theorem dX11_thingOf_82 : decode cX11_thingOf 82 = .ok (.iaload, 1) := by decide +kernel
theorem dX11_thingOf_83 : decode cX11_thingOf 83 = .ok (.goto 46, 3) := by decide +kernel
theorem dX11_thingOf_86 : decode cX11_thingOf 86 = .ok (.iload_n 2, 1) := by decide +kernel
theorem dX11_thingOf_87 : decode cX11_thingOf 87 = .ok (.iconst 1, 1) := by decide +kernel
theorem dX11_thingOf_88 : decode cX11_thingOf 88 = .ok (.if_icmp .ne 12, 3) := by decide +kernel
theorem dX11_thingOf_91 : decode cX11_thingOf 91 = .ok (.aload_n 0, 1) := by decide +kernel
theorem dX11_thingOf_92 : decode cX11_thingOf 92 = .ok (.getfield 16, 3) := by decide +kernel
theorem dX11_thingOf_95 : decode cX11_thingOf 95 = .ok (.iload_n 1, 1) := by decide +kernel
theorem dX11_thingOf_96 : decode cX11_thingOf 96 = .ok (.iaload, 1) := by decide +kernel
theorem dX11_thingOf_97 : decode cX11_thingOf 97 = .ok (.goto 32, 3) := by decide +kernel
theorem dX11_thingOf_100 : decode cX11_thingOf 100 = .ok (.iload_n 2, 1) := by decide +kernel
theorem dX11_thingOf_101 : decode cX11_thingOf 101 = .ok (.iconst 2, 1) := by decide +kernel
theorem dX11_thingOf_102 : decode cX11_thingOf 102 = .ok (.if_icmp .ne 12, 3) := by decide +kernel
theorem dX11_thingOf_105 : decode cX11_thingOf 105 = .ok (.aload_n 0, 1) := by decide +kernel
theorem dX11_thingOf_106 : decode cX11_thingOf 106 = .ok (.getfield 19, 3) := by decide +kernel
theorem dX11_thingOf_109 : decode cX11_thingOf 109 = .ok (.iload_n 1, 1) := by decide +kernel
theorem dX11_thingOf_110 : decode cX11_thingOf 110 = .ok (.iaload, 1) := by decide +kernel
theorem dX11_thingOf_111 : decode cX11_thingOf 111 = .ok (.goto 18, 3) := by decide +kernel
theorem dX11_thingOf_114 : decode cX11_thingOf 114 = .ok (.iload_n 2, 1) := by decide +kernel
theorem dX11_thingOf_115 : decode cX11_thingOf 115 = .ok (.iconst 3, 1) := by decide +kernel
theorem dX11_thingOf_116 : decode cX11_thingOf 116 = .ok (.if_icmp .ne 12, 3) := by decide +kernel
theorem dX11_thingOf_119 : decode cX11_thingOf 119 = .ok (.aload_n 0, 1) := by decide +kernel
theorem dX11_thingOf_120 : decode cX11_thingOf 120 = .ok (.getfield 28, 3) := by decide +kernel
theorem dX11_thingOf_123 : decode cX11_thingOf 123 = .ok (.iload_n 1, 1) := by decide +kernel
theorem dX11_thingOf_124 : decode cX11_thingOf 124 = .ok (.iaload, 1) := by decide +kernel
theorem dX11_thingOf_125 : decode cX11_thingOf 125 = .ok (.goto 4, 3) := by decide +kernel
theorem dX11_thingOf_128 : decode cX11_thingOf 128 = .ok (.iconst (-1), 1) := by decide +kernel
theorem dX11_thingOf_129 : decode cX11_thingOf 129 = .ok (.ireturn, 1) := by decide +kernel
theorem dX11_about_0 : decode cX11_about 0 = .ok (.iload_n 1, 1) := by decide +kernel
theorem dX11_about_1 : decode cX11_about 1 = .ok (.bipush 10, 2) := by decide +kernel
theorem dX11_about_3 : decode cX11_about 3 = .ok (.bipush 17, 2) := by decide +kernel
theorem dX11_about_5 : decode cX11_about 5 = .ok (.invokestatic 130, 3) := by decide +kernel
theorem dX11_about_8 : decode cX11_about 8 = .ok (.ifCond .eq 13, 3) := by decide +kernel
theorem dX11_about_11 : decode cX11_about 11 = .ok (.aload_n 0, 1) := by decide +kernel
theorem dX11_about_12 : decode cX11_about 12 = .ok (.getfield 31, 3) := by decide +kernel
theorem dX11_about_15 : decode cX11_about 15 = .ok (.iload_n 1, 1) := by decide +kernel
theorem dX11_about_16 : decode cX11_about 16 = .ok (.bipush 10, 2) := by decide +kernel
theorem dX11_about_18 : decode cX11_about 18 = .ok (.isub, 1) := by decide +kernel
theorem dX11_about_19 : decode cX11_about 19 = .ok (.iaload, 1) := by decide +kernel
theorem dX11_about_20 : decode cX11_about 20 = .ok (.ireturn, 1) := by decide +kernel
theorem dX11_about_21 : decode cX11_about 21 = .ok (.iconst 0, 1) := by decide +kernel
theorem dX11_about_22 : decode cX11_about 22 = .ok (.istore_n 2, 1) := by decide +kernel
theorem dX11_about_23 : decode cX11_about 23 = .ok (.iconst 0, 1) := by decide +kernel
theorem dX11_about_24 : decode cX11_about 24 = .ok (.istore_n 3, 1) := by decide +kernel
theorem dX11_about_25 : decode cX11_about 25 = .ok (.iconst 0, 1) := by decide +kernel
theorem dX11_about_26 : decode cX11_about 26 = .ok (.istore 4, 2) := by decide +kernel
theorem dX11_about_28 : decode cX11_about 28 = .ok (.iload 4, 2) := by decide +kernel
theorem dX11_about_30 : decode cX11_about 30 = .ok (.aload_n 0, 1) := by decide +kernel
theorem dX11_about_31 : decode cX11_about 31 = .ok (.getfield 56, 3) := by decide +kernel
theorem dX11_about_34 : decode cX11_about 34 = .ok (.iconst 0, 1) := by decide +kernel
theorem dX11_about_35 : decode cX11_about 35 = .ok (.iaload, 1) := by decide +kernel
theorem dX11_about_36 : decode cX11_about 36 = .ok (.if_icmp .ge 36, 3) := by decide +kernel
theorem dX11_about_39 : decode cX11_about 39 = .ok (.iload_n 2, 1) := by decide +kernel
theorem dX11_about_40 : decode cX11_about 40 = .ok (.aload_n 0, 1) := by decide +kernel
theorem dX11_about_41 : decode cX11_about 41 = .ok (.iload 4, 2) := by decide +kernel
theorem dX11_about_43 : decode cX11_about 43 = .ok (.invokevirtual 266, 3) := by decide +kernel
theorem dX11_about_46 : decode cX11_about 46 = .ok (.iadd, 1) := by decide +kernel
theorem dX11_about_47 : decode cX11_about 47 = .ok (.istore_n 2, 1) := by decide +kernel
theorem dX11_about_48 : decode cX11_about 48 = .ok (.iload_n 3, 1) := by decide +kernel
theorem dX11_about_49 : decode cX11_about 49 = .ok (.aload_n 0, 1) := by decide +kernel
theorem dX11_about_50 : decode cX11_about 50 = .ok (.getfield 102, 3) := by decide +kernel
theorem dX11_about_53 : decode cX11_about 53 = .ok (.iload 4, 2) := by decide +kernel
theorem dX11_about_55 : decode cX11_about 55 = .ok (.baload, 1) := by decide +kernel
theorem dX11_about_56 : decode cX11_about 56 = .ok (.ifCond .eq 7, 3) := by decide +kernel
theorem dX11_about_59 : decode cX11_about 59 = .ok (.iconst 1, 1) := by decide +kernel
theorem dX11_about_60 : decode cX11_about 60 = .ok (.goto 4, 3) := by decide +kernel
theorem dX11_about_63 : decode cX11_about 63 = .ok (.iconst 0, 1) := by decide +kernel
theorem dX11_about_64 : decode cX11_about 64 = .ok (.iadd, 1) := by decide +kernel
theorem dX11_about_65 : decode cX11_about 65 = .ok (.istore_n 3, 1) := by decide +kernel
theorem dX11_about_66 : decode cX11_about 66 = .ok (.iinc 4 1, 3) := by decide +kernel
theorem dX11_about_69 : decode cX11_about 69 = .ok (.goto (-41), 3) := by decide +kernel
theorem dX11_about_72 : decode cX11_about 72 = .ok (.iload_n 1, 1) := by decide +kernel
theorem dX11_about_73 : decode cX11_about 73 = .ok (.tableswitch 74 0 6 #[43, 48, 55, 57, 59, 64, 69], 43) := by decide +kernel
theorem dX11_about_116 : decode cX11_about 116 = .ok (.aload_n 0, 1) := by decide +kernel
theorem dX11_about_117 : decode cX11_about 117 = .ok (.getfield 153, 3) := by decide +kernel
theorem dX11_about_120 : decode cX11_about 120 = .ok (.ireturn, 1) := by decide +kernel
theorem dX11_about_121 : decode cX11_about 121 = .ok (.aload_n 0, 1) := by decide +kernel
theorem dX11_about_122 : decode cX11_about 122 = .ok (.getfield 56, 3) := by decide +kernel
theorem dX11_about_125 : decode cX11_about 125 = .ok (.iconst 0, 1) := by decide +kernel
theorem dX11_about_126 : decode cX11_about 126 = .ok (.iaload, 1) := by decide +kernel
theorem dX11_about_127 : decode cX11_about 127 = .ok (.ireturn, 1) := by decide +kernel
theorem dX11_about_128 : decode cX11_about 128 = .ok (.iload_n 2, 1) := by decide +kernel
theorem dX11_about_129 : decode cX11_about 129 = .ok (.ireturn, 1) := by decide +kernel
theorem dX11_about_130 : decode cX11_about 130 = .ok (.iload_n 3, 1) := by decide +kernel
theorem dX11_about_131 : decode cX11_about 131 = .ok (.ireturn, 1) := by decide +kernel
theorem dX11_about_132 : decode cX11_about 132 = .ok (.aload_n 0, 1) := by decide +kernel
theorem dX11_about_133 : decode cX11_about 133 = .ok (.getfield 239, 3) := by decide +kernel
theorem dX11_about_136 : decode cX11_about 136 = .ok (.ireturn, 1) := by decide +kernel
theorem dX11_about_137 : decode cX11_about 137 = .ok (.aload_n 0, 1) := by decide +kernel
theorem dX11_about_138 : decode cX11_about 138 = .ok (.getfield 245, 3) := by decide +kernel
theorem dX11_about_141 : decode cX11_about 141 = .ok (.ireturn, 1) := by decide +kernel
theorem dX11_about_142 : decode cX11_about 142 = .ok (.aload_n 0, 1) := by decide +kernel
theorem dX11_about_143 : decode cX11_about 143 = .ok (.getfield 134, 3) := by decide +kernel
theorem dX11_about_146 : decode cX11_about 146 = .ok (.ireturn, 1) := by decide +kernel
theorem dX11_about_147 : decode cX11_about 147 = .ok (.iconst (-1), 1) := by decide +kernel
theorem dX11_about_148 : decode cX11_about 148 = .ok (.ireturn, 1) := by decide +kernel
theorem dJ9_max_7cf53_0 : decode cJ9_max_7cf53 0 = .ok (.iload_n 0, 1) := by decide +kernel
theorem dJ9_max_7cf53_1 : decode cJ9_max_7cf53 1 = .ok (.iload_n 1, 1) := by decide +kernel
theorem dJ9_max_7cf53_2 : decode cJ9_max_7cf53 2 = .ok (.if_icmp .lt 7, 3) := by decide +kernel
theorem dJ9_max_7cf53_5 : decode cJ9_max_7cf53 5 = .ok (.iload_n 0, 1) := by decide +kernel
theorem dJ9_max_7cf53_6 : decode cJ9_max_7cf53 6 = .ok (.goto 4, 3) := by decide +kernel
theorem dJ9_max_7cf53_9 : decode cJ9_max_7cf53 9 = .ok (.iload_n 1, 1) := by decide +kernel
theorem dJ9_max_7cf53_10 : decode cJ9_max_7cf53 10 = .ok (.ireturn, 1) := by decide +kernel
theorem dJ9_min_7cf53_0 : decode cJ9_min_7cf53 0 = .ok (.iload_n 0, 1) := by decide +kernel
theorem dJ9_min_7cf53_1 : decode cJ9_min_7cf53 1 = .ok (.iload_n 1, 1) := by decide +kernel
theorem dJ9_min_7cf53_2 : decode cJ9_min_7cf53 2 = .ok (.if_icmp .gt 7, 3) := by decide +kernel
theorem dJ9_min_7cf53_5 : decode cJ9_min_7cf53 5 = .ok (.iload_n 0, 1) := by decide +kernel
theorem dJ9_min_7cf53_6 : decode cJ9_min_7cf53 6 = .ok (.goto 4, 3) := by decide +kernel
theorem dJ9_min_7cf53_9 : decode cJ9_min_7cf53 9 = .ok (.iload_n 1, 1) := by decide +kernel
theorem dJ9_min_7cf53_10 : decode cJ9_min_7cf53 10 = .ok (.ireturn, 1) := by decide +kernel
theorem dJxa1e45_init_da8c8_0 : decode cJxa1e45_init_da8c8 0 = .ok (.aload_n 0, 1) := by decide +kernel
theorem dJxa1e45_init_da8c8_1 : decode cJxa1e45_init_da8c8 1 = .ok (.invokespecial 1, 3) := by decide +kernel
theorem dJxa1e45_init_da8c8_4 : decode cJxa1e45_init_da8c8 4 = .ok (.return_, 1) := by decide +kernel
theorem dJxc12de_init_da8c8_0 : decode cJxc12de_init_da8c8 0 = .ok (.aload_n 0, 1) := by decide +kernel
theorem dJxc12de_init_da8c8_1 : decode cJxc12de_init_da8c8 1 = .ok (.invokespecial 1, 3) := by decide +kernel
theorem dJxc12de_init_da8c8_4 : decode cJxc12de_init_da8c8 4 = .ok (.aload_n 0, 1) := by decide +kernel
theorem dJxc12de_init_da8c8_5 : decode cJxc12de_init_da8c8 5 = .ok (.iconst 0, 1) := by decide +kernel
theorem dJxc12de_init_da8c8_6 : decode cJxc12de_init_da8c8 6 = .ok (.putfield 7, 3) := by decide +kernel
theorem dJxc12de_init_da8c8_9 : decode cJxc12de_init_da8c8 9 = .ok (.return_, 1) := by decide +kernel
theorem dJx4a65c_init_da8c8_0 : decode cJx4a65c_init_da8c8 0 = .ok (.aload_n 0, 1) := by decide +kernel
theorem dJx4a65c_init_da8c8_1 : decode cJx4a65c_init_da8c8 1 = .ok (.invokespecial 1, 3) := by decide +kernel
theorem dJx4a65c_init_da8c8_4 : decode cJx4a65c_init_da8c8 4 = .ok (.aload_n 0, 1) := by decide +kernel
theorem dJx4a65c_init_da8c8_5 : decode cJx4a65c_init_da8c8 5 = .ok (.getstatic 39, 3) := by decide +kernel
theorem dJx4a65c_init_da8c8_8 : decode cJx4a65c_init_da8c8 8 = .ok (.putfield 9, 3) := by decide +kernel
theorem dJx4a65c_init_da8c8_11 : decode cJx4a65c_init_da8c8 11 = .ok (.return_, 1) := by decide +kernel
theorem dJx4a65c_grow_92f84_0 : decode cJx4a65c_grow_92f84 0 = .ok (.aload_n 0, 1) := by decide +kernel
theorem dJx4a65c_grow_92f84_1 : decode cJx4a65c_grow_92f84 1 = .ok (.getfield 9, 3) := by decide +kernel
theorem dJx4a65c_grow_92f84_4 : decode cJx4a65c_grow_92f84 4 = .ok (.arraylength, 1) := by decide +kernel
theorem dJx4a65c_grow_92f84_5 : decode cJx4a65c_grow_92f84 5 = .ok (.istore_n 2, 1) := by decide +kernel
theorem dJx4a65c_grow_92f84_6 : decode cJx4a65c_grow_92f84 6 = .ok (.iload_n 2, 1) := by decide +kernel
theorem dJx4a65c_grow_92f84_7 : decode cJx4a65c_grow_92f84 7 = .ok (.ifCond .gt 13, 3) := by decide +kernel
theorem dJx4a65c_grow_92f84_10 : decode cJx4a65c_grow_92f84 10 = .ok (.aload_n 0, 1) := by decide +kernel
theorem dJx4a65c_grow_92f84_11 : decode cJx4a65c_grow_92f84 11 = .ok (.getfield 9, 3) := by decide +kernel
theorem dJx4a65c_grow_92f84_14 : decode cJx4a65c_grow_92f84 14 = .ok (.getstatic 39, 3) := by decide +kernel
theorem dJx4a65c_grow_92f84_17 : decode cJx4a65c_grow_92f84 17 = .ok (.if_acmp .eq 28, 3) := by decide +kernel
theorem dJx4a65c_grow_92f84_20 : decode cJx4a65c_grow_92f84 20 = .ok (.iload_n 2, 1) := by decide +kernel
theorem dJx4a65c_grow_92f84_21 : decode cJx4a65c_grow_92f84 21 = .ok (.iload_n 1, 1) := by decide +kernel
theorem dJx4a65c_grow_92f84_22 : decode cJx4a65c_grow_92f84 22 = .ok (.iload_n 2, 1) := by decide +kernel
theorem dJx4a65c_grow_92f84_23 : decode cJx4a65c_grow_92f84 23 = .ok (.isub, 1) := by decide +kernel
theorem dJx4a65c_grow_92f84_24 : decode cJx4a65c_grow_92f84 24 = .ok (.iload_n 2, 1) := by decide +kernel
theorem dJx4a65c_grow_92f84_25 : decode cJx4a65c_grow_92f84 25 = .ok (.iconst 1, 1) := by decide +kernel
theorem dJx4a65c_grow_92f84_26 : decode cJx4a65c_grow_92f84 26 = .ok (.ishr, 1) := by decide +kernel
theorem dJx4a65c_grow_92f84_27 : decode cJx4a65c_grow_92f84 27 = .ok (.invokestatic 73, 3) := by decide +kernel
theorem dJx4a65c_grow_92f84_30 : decode cJx4a65c_grow_92f84 30 = .ok (.istore_n 3, 1) := by decide +kernel
theorem dJx4a65c_grow_92f84_31 : decode cJx4a65c_grow_92f84 31 = .ok (.aload_n 0, 1) := by decide +kernel
theorem dJx4a65c_grow_92f84_32 : decode cJx4a65c_grow_92f84 32 = .ok (.aload_n 0, 1) := by decide +kernel
theorem dJx4a65c_grow_92f84_33 : decode cJx4a65c_grow_92f84 33 = .ok (.getfield 9, 3) := by decide +kernel
theorem dJx4a65c_grow_92f84_36 : decode cJx4a65c_grow_92f84 36 = .ok (.iload_n 3, 1) := by decide +kernel
theorem dJx4a65c_grow_92f84_37 : decode cJx4a65c_grow_92f84 37 = .ok (.invokestatic 66, 3) := by decide +kernel
theorem dJx4a65c_grow_92f84_40 : decode cJx4a65c_grow_92f84 40 = .ok (.dup_x1, 1) := by decide +kernel
theorem dJx4a65c_grow_92f84_41 : decode cJx4a65c_grow_92f84 41 = .ok (.putfield 9, 3) := by decide +kernel
theorem dJx4a65c_grow_92f84_44 : decode cJx4a65c_grow_92f84 44 = .ok (.areturn, 1) := by decide +kernel
theorem dJx4a65c_grow_92f84_45 : decode cJx4a65c_grow_92f84 45 = .ok (.aload_n 0, 1) := by decide +kernel
theorem dJx4a65c_grow_92f84_46 : decode cJx4a65c_grow_92f84 46 = .ok (.bipush 10, 2) := by decide +kernel
theorem dJx4a65c_grow_92f84_48 : decode cJx4a65c_grow_92f84 48 = .ok (.iload_n 1, 1) := by decide +kernel
theorem dJx4a65c_grow_92f84_49 : decode cJx4a65c_grow_92f84 49 = .ok (.invokestatic 79, 3) := by decide +kernel
theorem dJx4a65c_grow_92f84_52 : decode cJx4a65c_grow_92f84 52 = .ok (.anewarray 7, 3) := by decide +kernel
theorem dJx4a65c_grow_92f84_55 : decode cJx4a65c_grow_92f84 55 = .ok (.dup_x1, 1) := by decide +kernel
theorem dJx4a65c_grow_92f84_56 : decode cJx4a65c_grow_92f84 56 = .ok (.putfield 9, 3) := by decide +kernel
theorem dJx4a65c_grow_92f84_59 : decode cJx4a65c_grow_92f84 59 = .ok (.areturn, 1) := by decide +kernel
theorem dJx4a65c_grow_d5877_0 : decode cJx4a65c_grow_d5877 0 = .ok (.aload_n 0, 1) := by decide +kernel
theorem dJx4a65c_grow_d5877_1 : decode cJx4a65c_grow_d5877 1 = .ok (.aload_n 0, 1) := by decide +kernel
theorem dJx4a65c_grow_d5877_2 : decode cJx4a65c_grow_d5877 2 = .ok (.getfield 48, 3) := by decide +kernel
theorem dJx4a65c_grow_d5877_5 : decode cJx4a65c_grow_d5877 5 = .ok (.iconst 1, 1) := by decide +kernel
theorem dJx4a65c_grow_d5877_6 : decode cJx4a65c_grow_d5877 6 = .ok (.iadd, 1) := by decide +kernel
theorem dJx4a65c_grow_d5877_7 : decode cJx4a65c_grow_d5877 7 = .ok (.invokevirtual 69, 3) := by decide +kernel
theorem dJx4a65c_grow_d5877_10 : decode cJx4a65c_grow_d5877 10 = .ok (.areturn, 1) := by decide +kernel
theorem dJx4a65c_size_8abf5_0 : decode cJx4a65c_size_8abf5 0 = .ok (.aload_n 0, 1) := by decide +kernel
theorem dJx4a65c_size_8abf5_1 : decode cJx4a65c_size_8abf5 1 = .ok (.getfield 48, 3) := by decide +kernel
theorem dJx4a65c_size_8abf5_4 : decode cJx4a65c_size_8abf5 4 = .ok (.ireturn, 1) := by decide +kernel
theorem dJx4a65c_elementData_915e3_0 : decode cJx4a65c_elementData_915e3 0 = .ok (.aload_n 0, 1) := by decide +kernel
theorem dJx4a65c_elementData_915e3_1 : decode cJx4a65c_elementData_915e3 1 = .ok (.getfield 9, 3) := by decide +kernel
theorem dJx4a65c_elementData_915e3_4 : decode cJx4a65c_elementData_915e3 4 = .ok (.iload_n 1, 1) := by decide +kernel
theorem dJx4a65c_elementData_915e3_5 : decode cJx4a65c_elementData_915e3 5 = .ok (.aaload, 1) := by decide +kernel
theorem dJx4a65c_elementData_915e3_6 : decode cJx4a65c_elementData_915e3 6 = .ok (.areturn, 1) := by decide +kernel
theorem dJx4a65c_get_915e3_0 : decode cJx4a65c_get_915e3 0 = .ok (.iload_n 1, 1) := by decide +kernel
theorem dJx4a65c_get_915e3_1 : decode cJx4a65c_get_915e3 1 = .ok (.aload_n 0, 1) := by decide +kernel
theorem dJx4a65c_get_915e3_2 : decode cJx4a65c_get_915e3 2 = .ok (.getfield 48, 3) := by decide +kernel
theorem dJx4a65c_get_915e3_5 : decode cJx4a65c_get_915e3 5 = .ok (.invokestatic 118, 3) := by decide +kernel
theorem dJx4a65c_get_915e3_8 : decode cJx4a65c_get_915e3 8 = .ok (.pop, 1) := by decide +kernel
theorem dJx4a65c_get_915e3_9 : decode cJx4a65c_get_915e3 9 = .ok (.aload_n 0, 1) := by decide +kernel
theorem dJx4a65c_get_915e3_10 : decode cJx4a65c_get_915e3 10 = .ok (.iload_n 1, 1) := by decide +kernel
theorem dJx4a65c_get_915e3_11 : decode cJx4a65c_get_915e3 11 = .ok (.invokevirtual 123, 3) := by decide +kernel
theorem dJx4a65c_get_915e3_14 : decode cJx4a65c_get_915e3 14 = .ok (.areturn, 1) := by decide +kernel
theorem dJx4a65c_add_72be8_0 : decode cJx4a65c_add_72be8 0 = .ok (.iload_n 3, 1) := by decide +kernel
theorem dJx4a65c_add_72be8_1 : decode cJx4a65c_add_72be8 1 = .ok (.aload_n 2, 1) := by decide +kernel
theorem dJx4a65c_add_72be8_2 : decode cJx4a65c_add_72be8 2 = .ok (.arraylength, 1) := by decide +kernel
theorem dJx4a65c_add_72be8_3 : decode cJx4a65c_add_72be8 3 = .ok (.if_icmp .ne 8, 3) := by decide +kernel
theorem dJx4a65c_add_72be8_6 : decode cJx4a65c_add_72be8 6 = .ok (.aload_n 0, 1) := by decide +kernel
theorem dJx4a65c_add_72be8_7 : decode cJx4a65c_add_72be8 7 = .ok (.invokevirtual 129, 3) := by decide +kernel
theorem dJx4a65c_add_72be8_10 : decode cJx4a65c_add_72be8 10 = .ok (.astore_n 2, 1) := by decide +kernel
theorem dJx4a65c_add_72be8_11 : decode cJx4a65c_add_72be8 11 = .ok (.aload_n 2, 1) := by decide +kernel
theorem dJx4a65c_add_72be8_12 : decode cJx4a65c_add_72be8 12 = .ok (.iload_n 3, 1) := by decide +kernel
theorem dJx4a65c_add_72be8_13 : decode cJx4a65c_add_72be8 13 = .ok (.aload_n 1, 1) := by decide +kernel
theorem dJx4a65c_add_72be8_14 : decode cJx4a65c_add_72be8 14 = .ok (.aastore, 1) := by decide +kernel
theorem dJx4a65c_add_72be8_15 : decode cJx4a65c_add_72be8 15 = .ok (.aload_n 0, 1) := by decide +kernel
theorem dJx4a65c_add_72be8_16 : decode cJx4a65c_add_72be8 16 = .ok (.iload_n 3, 1) := by decide +kernel
theorem dJx4a65c_add_72be8_17 : decode cJx4a65c_add_72be8 17 = .ok (.iconst 1, 1) := by decide +kernel
theorem dJx4a65c_add_72be8_18 : decode cJx4a65c_add_72be8 18 = .ok (.iadd, 1) := by decide +kernel
theorem dJx4a65c_add_72be8_19 : decode cJx4a65c_add_72be8 19 = .ok (.putfield 48, 3) := by decide +kernel
theorem dJx4a65c_add_72be8_22 : decode cJx4a65c_add_72be8 22 = .ok (.return_, 1) := by decide +kernel
theorem dJx4a65c_add_9ea2d_0 : decode cJx4a65c_add_9ea2d 0 = .ok (.aload_n 0, 1) := by decide +kernel
theorem dJx4a65c_add_9ea2d_1 : decode cJx4a65c_add_9ea2d 1 = .ok (.dup, 1) := by decide +kernel
theorem dJx4a65c_add_9ea2d_2 : decode cJx4a65c_add_9ea2d 2 = .ok (.getfield 63, 3) := by decide +kernel
theorem dJx4a65c_add_9ea2d_5 : decode cJx4a65c_add_9ea2d 5 = .ok (.iconst 1, 1) := by decide +kernel
theorem dJx4a65c_add_9ea2d_6 : decode cJx4a65c_add_9ea2d 6 = .ok (.iadd, 1) := by decide +kernel
theorem dJx4a65c_add_9ea2d_7 : decode cJx4a65c_add_9ea2d 7 = .ok (.putfield 63, 3) := by decide +kernel
theorem dJx4a65c_add_9ea2d_10 : decode cJx4a65c_add_9ea2d 10 = .ok (.aload_n 0, 1) := by decide +kernel
theorem dJx4a65c_add_9ea2d_11 : decode cJx4a65c_add_9ea2d 11 = .ok (.aload_n 1, 1) := by decide +kernel
theorem dJx4a65c_add_9ea2d_12 : decode cJx4a65c_add_9ea2d 12 = .ok (.aload_n 0, 1) := by decide +kernel
theorem dJx4a65c_add_9ea2d_13 : decode cJx4a65c_add_9ea2d 13 = .ok (.getfield 9, 3) := by decide +kernel
theorem dJx4a65c_add_9ea2d_16 : decode cJx4a65c_add_9ea2d 16 = .ok (.aload_n 0, 1) := by decide +kernel
theorem dJx4a65c_add_9ea2d_17 : decode cJx4a65c_add_9ea2d 17 = .ok (.getfield 48, 3) := by decide +kernel
theorem dJx4a65c_add_9ea2d_20 : decode cJx4a65c_add_9ea2d 20 = .ok (.invokevirtual 131, 3) := by decide +kernel
theorem dJx4a65c_add_9ea2d_23 : decode cJx4a65c_add_9ea2d 23 = .ok (.iconst 1, 1) := by decide +kernel
theorem dJx4a65c_add_9ea2d_24 : decode cJx4a65c_add_9ea2d 24 = .ok (.ireturn, 1) := by decide +kernel
theorem dJx4a65c_add_7a177_0 : decode cJx4a65c_add_7a177 0 = .ok (.aload_n 0, 1) := by decide +kernel
theorem dJx4a65c_add_7a177_1 : decode cJx4a65c_add_7a177 1 = .ok (.iload_n 1, 1) := by decide +kernel
theorem dJx4a65c_add_7a177_2 : decode cJx4a65c_add_7a177 2 = .ok (.invokevirtual 135, 3) := by decide +kernel
theorem dJx4a65c_add_7a177_5 : decode cJx4a65c_add_7a177 5 = .ok (.aload_n 0, 1) := by decide +kernel
theorem dJx4a65c_add_7a177_6 : decode cJx4a65c_add_7a177 6 = .ok (.dup, 1) := by decide +kernel
theorem dJx4a65c_add_7a177_7 : decode cJx4a65c_add_7a177 7 = .ok (.getfield 63, 3) := by decide +kernel
theorem dJx4a65c_add_7a177_10 : decode cJx4a65c_add_7a177 10 = .ok (.iconst 1, 1) := by decide +kernel
theorem dJx4a65c_add_7a177_11 : decode cJx4a65c_add_7a177 11 = .ok (.iadd, 1) := by decide +kernel
theorem dJx4a65c_add_7a177_12 : decode cJx4a65c_add_7a177 12 = .ok (.putfield 63, 3) := by decide +kernel
theorem dJx4a65c_add_7a177_15 : decode cJx4a65c_add_7a177 15 = .ok (.aload_n 0, 1) := by decide +kernel
theorem dJx4a65c_add_7a177_16 : decode cJx4a65c_add_7a177 16 = .ok (.getfield 48, 3) := by decide +kernel
theorem dJx4a65c_add_7a177_19 : decode cJx4a65c_add_7a177 19 = .ok (.dup, 1) := by decide +kernel
theorem dJx4a65c_add_7a177_20 : decode cJx4a65c_add_7a177 20 = .ok (.istore_n 3, 1) := by decide +kernel
theorem dJx4a65c_add_7a177_21 : decode cJx4a65c_add_7a177 21 = .ok (.aload_n 0, 1) := by decide +kernel
theorem dJx4a65c_add_7a177_22 : decode cJx4a65c_add_7a177 22 = .ok (.getfield 9, 3) := by decide +kernel
theorem dJx4a65c_add_7a177_25 : decode cJx4a65c_add_7a177 25 = .ok (.dup, 1) := by decide +kernel
theorem dJx4a65c_add_7a177_26 : decode cJx4a65c_add_7a177 26 = .ok (.astore 4, 2) := by decide +kernel
theorem dJx4a65c_add_7a177_28 : decode cJx4a65c_add_7a177 28 = .ok (.arraylength, 1) := by decide +kernel
theorem dJx4a65c_add_7a177_29 : decode cJx4a65c_add_7a177 29 = .ok (.if_icmp .ne 9, 3) := by decide +kernel
theorem dJx4a65c_add_7a177_32 : decode cJx4a65c_add_7a177 32 = .ok (.aload_n 0, 1) := by decide +kernel
theorem dJx4a65c_add_7a177_33 : decode cJx4a65c_add_7a177 33 = .ok (.invokevirtual 129, 3) := by decide +kernel
theorem dJx4a65c_add_7a177_36 : decode cJx4a65c_add_7a177 36 = .ok (.astore 4, 2) := by decide +kernel
theorem dJx4a65c_add_7a177_38 : decode cJx4a65c_add_7a177 38 = .ok (.aload 4, 2) := by decide +kernel
theorem dJx4a65c_add_7a177_40 : decode cJx4a65c_add_7a177 40 = .ok (.iload_n 1, 1) := by decide +kernel
theorem dJx4a65c_add_7a177_41 : decode cJx4a65c_add_7a177 41 = .ok (.aload 4, 2) := by decide +kernel
theorem dJx4a65c_add_7a177_43 : decode cJx4a65c_add_7a177 43 = .ok (.iload_n 1, 1) := by decide +kernel
theorem dJx4a65c_add_7a177_44 : decode cJx4a65c_add_7a177 44 = .ok (.iconst 1, 1) := by decide +kernel
theorem dJx4a65c_add_7a177_45 : decode cJx4a65c_add_7a177 45 = .ok (.iadd, 1) := by decide +kernel
theorem dJx4a65c_add_7a177_46 : decode cJx4a65c_add_7a177 46 = .ok (.iload_n 3, 1) := by decide +kernel
theorem dJx4a65c_add_7a177_47 : decode cJx4a65c_add_7a177 47 = .ok (.iload_n 1, 1) := by decide +kernel
theorem dJx4a65c_add_7a177_48 : decode cJx4a65c_add_7a177 48 = .ok (.isub, 1) := by decide +kernel
theorem dJx4a65c_add_7a177_49 : decode cJx4a65c_add_7a177 49 = .ok (.invokestatic 112, 3) := by decide +kernel
theorem dJx4a65c_add_7a177_52 : decode cJx4a65c_add_7a177 52 = .ok (.aload 4, 2) := by decide +kernel
theorem dJx4a65c_add_7a177_54 : decode cJx4a65c_add_7a177 54 = .ok (.iload_n 1, 1) := by decide +kernel
theorem dJx4a65c_add_7a177_55 : decode cJx4a65c_add_7a177 55 = .ok (.aload_n 2, 1) := by decide +kernel
theorem dJx4a65c_add_7a177_56 : decode cJx4a65c_add_7a177 56 = .ok (.aastore, 1) := by decide +kernel
theorem dJx4a65c_add_7a177_57 : decode cJx4a65c_add_7a177 57 = .ok (.aload_n 0, 1) := by decide +kernel
theorem dJx4a65c_add_7a177_58 : decode cJx4a65c_add_7a177 58 = .ok (.iload_n 3, 1) := by decide +kernel
theorem dJx4a65c_add_7a177_59 : decode cJx4a65c_add_7a177 59 = .ok (.iconst 1, 1) := by decide +kernel
theorem dJx4a65c_add_7a177_60 : decode cJx4a65c_add_7a177 60 = .ok (.iadd, 1) := by decide +kernel
theorem dJx4a65c_add_7a177_61 : decode cJx4a65c_add_7a177 61 = .ok (.putfield 48, 3) := by decide +kernel
theorem dJx4a65c_add_7a177_64 : decode cJx4a65c_add_7a177 64 = .ok (.return_, 1) := by decide +kernel
theorem dJx4a65c_remove_915e3_0 : decode cJx4a65c_remove_915e3 0 = .ok (.iload_n 1, 1) := by decide +kernel
theorem dJx4a65c_remove_915e3_1 : decode cJx4a65c_remove_915e3 1 = .ok (.aload_n 0, 1) := by decide +kernel
theorem dJx4a65c_remove_915e3_2 : decode cJx4a65c_remove_915e3 2 = .ok (.getfield 48, 3) := by decide +kernel
theorem dJx4a65c_remove_915e3_5 : decode cJx4a65c_remove_915e3 5 = .ok (.invokestatic 118, 3) := by decide +kernel
theorem dJx4a65c_remove_915e3_8 : decode cJx4a65c_remove_915e3 8 = .ok (.pop, 1) := by decide +kernel
theorem dJx4a65c_remove_915e3_9 : decode cJx4a65c_remove_915e3 9 = .ok (.aload_n 0, 1) := by decide +kernel
theorem dJx4a65c_remove_915e3_10 : decode cJx4a65c_remove_915e3 10 = .ok (.getfield 9, 3) := by decide +kernel
theorem dJx4a65c_remove_915e3_13 : decode cJx4a65c_remove_915e3 13 = .ok (.astore_n 2, 1) := by decide +kernel
theorem dJx4a65c_remove_915e3_14 : decode cJx4a65c_remove_915e3 14 = .ok (.aload_n 2, 1) := by decide +kernel
theorem dJx4a65c_remove_915e3_15 : decode cJx4a65c_remove_915e3 15 = .ok (.iload_n 1, 1) := by decide +kernel
theorem dJx4a65c_remove_915e3_16 : decode cJx4a65c_remove_915e3 16 = .ok (.aaload, 1) := by decide +kernel
theorem dJx4a65c_remove_915e3_17 : decode cJx4a65c_remove_915e3 17 = .ok (.astore_n 3, 1) := by decide +kernel
theorem dJx4a65c_remove_915e3_18 : decode cJx4a65c_remove_915e3 18 = .ok (.aload_n 0, 1) := by decide +kernel
theorem dJx4a65c_remove_915e3_19 : decode cJx4a65c_remove_915e3 19 = .ok (.aload_n 2, 1) := by decide +kernel
theorem dJx4a65c_remove_915e3_20 : decode cJx4a65c_remove_915e3 20 = .ok (.iload_n 1, 1) := by decide +kernel
theorem dJx4a65c_remove_915e3_21 : decode cJx4a65c_remove_915e3 21 = .ok (.invokevirtual 144, 3) := by decide +kernel
theorem dJx4a65c_remove_915e3_24 : decode cJx4a65c_remove_915e3 24 = .ok (.aload_n 3, 1) := by decide +kernel
theorem dJx4a65c_remove_915e3_25 : decode cJx4a65c_remove_915e3 25 = .ok (.areturn, 1) := by decide +kernel
theorem dJx4a65c_fastRemove_b59b0_0 : decode cJx4a65c_fastRemove_b59b0 0 = .ok (.aload_n 0, 1) := by decide +kernel
theorem dJx4a65c_fastRemove_b59b0_1 : decode cJx4a65c_fastRemove_b59b0 1 = .ok (.dup, 1) := by decide +kernel
theorem dJx4a65c_fastRemove_b59b0_2 : decode cJx4a65c_fastRemove_b59b0 2 = .ok (.getfield 63, 3) := by decide +kernel
theorem dJx4a65c_fastRemove_b59b0_5 : decode cJx4a65c_fastRemove_b59b0 5 = .ok (.iconst 1, 1) := by decide +kernel
theorem dJx4a65c_fastRemove_b59b0_6 : decode cJx4a65c_fastRemove_b59b0 6 = .ok (.iadd, 1) := by decide +kernel
theorem dJx4a65c_fastRemove_b59b0_7 : decode cJx4a65c_fastRemove_b59b0 7 = .ok (.putfield 63, 3) := by decide +kernel
theorem dJx4a65c_fastRemove_b59b0_10 : decode cJx4a65c_fastRemove_b59b0 10 = .ok (.aload_n 0, 1) := by decide +kernel
theorem dJx4a65c_fastRemove_b59b0_11 : decode cJx4a65c_fastRemove_b59b0 11 = .ok (.getfield 48, 3) := by decide +kernel
theorem dJx4a65c_fastRemove_b59b0_14 : decode cJx4a65c_fastRemove_b59b0 14 = .ok (.iconst 1, 1) := by decide +kernel
theorem dJx4a65c_fastRemove_b59b0_15 : decode cJx4a65c_fastRemove_b59b0 15 = .ok (.isub, 1) := by decide +kernel
theorem dJx4a65c_fastRemove_b59b0_16 : decode cJx4a65c_fastRemove_b59b0 16 = .ok (.dup, 1) := by decide +kernel
theorem dJx4a65c_fastRemove_b59b0_17 : decode cJx4a65c_fastRemove_b59b0 17 = .ok (.istore_n 3, 1) := by decide +kernel
theorem dJx4a65c_fastRemove_b59b0_18 : decode cJx4a65c_fastRemove_b59b0 18 = .ok (.iload_n 2, 1) := by decide +kernel
theorem dJx4a65c_fastRemove_b59b0_19 : decode cJx4a65c_fastRemove_b59b0 19 = .ok (.if_icmp .le 15, 3) := by decide +kernel
theorem dJx4a65c_fastRemove_b59b0_22 : decode cJx4a65c_fastRemove_b59b0 22 = .ok (.aload_n 1, 1) := by decide +kernel
theorem dJx4a65c_fastRemove_b59b0_23 : decode cJx4a65c_fastRemove_b59b0 23 = .ok (.iload_n 2, 1) := by decide +kernel
theorem dJx4a65c_fastRemove_b59b0_24 : decode cJx4a65c_fastRemove_b59b0 24 = .ok (.iconst 1, 1) := by decide +kernel
theorem dJx4a65c_fastRemove_b59b0_25 : decode cJx4a65c_fastRemove_b59b0 25 = .ok (.iadd, 1) := by decide +kernel
theorem dJx4a65c_fastRemove_b59b0_26 : decode cJx4a65c_fastRemove_b59b0 26 = .ok (.aload_n 1, 1) := by decide +kernel
theorem dJx4a65c_fastRemove_b59b0_27 : decode cJx4a65c_fastRemove_b59b0 27 = .ok (.iload_n 2, 1) := by decide +kernel
theorem dJx4a65c_fastRemove_b59b0_28 : decode cJx4a65c_fastRemove_b59b0 28 = .ok (.iload_n 3, 1) := by decide +kernel
theorem dJx4a65c_fastRemove_b59b0_29 : decode cJx4a65c_fastRemove_b59b0 29 = .ok (.iload_n 2, 1) := by decide +kernel
theorem dJx4a65c_fastRemove_b59b0_30 : decode cJx4a65c_fastRemove_b59b0 30 = .ok (.isub, 1) := by decide +kernel
theorem dJx4a65c_fastRemove_b59b0_31 : decode cJx4a65c_fastRemove_b59b0 31 = .ok (.invokestatic 112, 3) := by decide +kernel
theorem dJx4a65c_fastRemove_b59b0_34 : decode cJx4a65c_fastRemove_b59b0 34 = .ok (.aload_n 1, 1) := by decide +kernel
theorem dJx4a65c_fastRemove_b59b0_35 : decode cJx4a65c_fastRemove_b59b0 35 = .ok (.aload_n 0, 1) := by decide +kernel
theorem dJx4a65c_fastRemove_b59b0_36 : decode cJx4a65c_fastRemove_b59b0 36 = .ok (.iload_n 3, 1) := by decide +kernel
theorem dJx4a65c_fastRemove_b59b0_37 : decode cJx4a65c_fastRemove_b59b0 37 = .ok (.dup_x1, 1) := by decide +kernel
theorem dJx4a65c_fastRemove_b59b0_38 : decode cJx4a65c_fastRemove_b59b0 38 = .ok (.putfield 48, 3) := by decide +kernel
theorem dJx4a65c_fastRemove_b59b0_41 : decode cJx4a65c_fastRemove_b59b0 41 = .ok (.aconst_null, 1) := by decide +kernel
theorem dJx4a65c_fastRemove_b59b0_42 : decode cJx4a65c_fastRemove_b59b0 42 = .ok (.aastore, 1) := by decide +kernel
theorem dJx4a65c_fastRemove_b59b0_43 : decode cJx4a65c_fastRemove_b59b0 43 = .ok (.return_, 1) := by decide +kernel
theorem dJx4a65c_rangeCheckForAdd_d00df_0 : decode cJx4a65c_rangeCheckForAdd_d00df 0 = .ok (.iload_n 1, 1) := by decide +kernel
theorem dJx4a65c_rangeCheckForAdd_d00df_1 : decode cJx4a65c_rangeCheckForAdd_d00df 1 = .ok (.aload_n 0, 1) := by decide +kernel
theorem dJx4a65c_rangeCheckForAdd_d00df_2 : decode cJx4a65c_rangeCheckForAdd_d00df 2 = .ok (.getfield 48, 3) := by decide +kernel
theorem dJx4a65c_rangeCheckForAdd_d00df_5 : decode cJx4a65c_rangeCheckForAdd_d00df 5 = .ok (.if_icmp .gt 7, 3) := by decide +kernel
theorem dJx4a65c_rangeCheckForAdd_d00df_8 : decode cJx4a65c_rangeCheckForAdd_d00df 8 = .ok (.iload_n 1, 1) := by decide +kernel
theorem dJx4a65c_rangeCheckForAdd_d00df_9 : decode cJx4a65c_rangeCheckForAdd_d00df 9 = .ok (.ifCond .ge 16, 3) := by decide +kernel
theorem dJx4a65c_rangeCheckForAdd_d00df_12 : decode cJx4a65c_rangeCheckForAdd_d00df 12 = .ok (.new 187, 3) := by decide +kernel
theorem dJx4a65c_rangeCheckForAdd_d00df_15 : decode cJx4a65c_rangeCheckForAdd_d00df 15 = .ok (.dup, 1) := by decide +kernel
theorem dJx4a65c_rangeCheckForAdd_d00df_16 : decode cJx4a65c_rangeCheckForAdd_d00df 16 = .ok (.aload_n 0, 1) := by decide +kernel
theorem dJx4a65c_rangeCheckForAdd_d00df_17 : decode cJx4a65c_rangeCheckForAdd_d00df 17 = .ok (.iload_n 1, 1) := by decide +kernel
theorem dJx4a65c_rangeCheckForAdd_d00df_18 : decode cJx4a65c_rangeCheckForAdd_d00df 18 = .ok (.invokevirtual 198, 3) := by decide +kernel
theorem dJx4a65c_rangeCheckForAdd_d00df_21 : decode cJx4a65c_rangeCheckForAdd_d00df 21 = .ok (.invokespecial 193, 3) := by decide +kernel
theorem dJx4a65c_rangeCheckForAdd_d00df_24 : decode cJx4a65c_rangeCheckForAdd_d00df 24 = .ok (.athrow, 1) := by decide +kernel
theorem dJx4a65c_rangeCheckForAdd_d00df_25 : decode cJx4a65c_rangeCheckForAdd_d00df 25 = .ok (.return_, 1) := by decide +kernel
theorem dJ7_copyOf_1904c_0 : decode cJ7_copyOf_1904c 0 = .ok (.aload_n 0, 1) := by decide +kernel
theorem dJ7_copyOf_1904c_1 : decode cJ7_copyOf_1904c 1 = .ok (.iload_n 1, 1) := by decide +kernel
theorem dJ7_copyOf_1904c_2 : decode cJ7_copyOf_1904c 2 = .ok (.aload_n 0, 1) := by decide +kernel
theorem dJ7_copyOf_1904c_3 : decode cJ7_copyOf_1904c 3 = .ok (.invokevirtual 86, 3) := by decide +kernel
theorem dJ7_copyOf_1904c_6 : decode cJ7_copyOf_1904c 6 = .ok (.invokestatic 300, 3) := by decide +kernel
theorem dJ7_copyOf_1904c_9 : decode cJ7_copyOf_1904c 9 = .ok (.areturn, 1) := by decide +kernel
theorem dJ7_copyOf_6403c_0 : decode cJ7_copyOf_6403c 0 = .ok (.aload_n 2, 1) := by decide +kernel
theorem dJ7_copyOf_6403c_1 : decode cJ7_copyOf_6403c 1 = .ok (.ldc 110, 2) := by decide +kernel
theorem dJ7_copyOf_6403c_3 : decode cJ7_copyOf_6403c 3 = .ok (.if_acmp .ne 10, 3) := by decide +kernel
theorem dJ7_copyOf_6403c_6 : decode cJ7_copyOf_6403c 6 = .ok (.iload_n 1, 1) := by decide +kernel
theorem dJ7_copyOf_6403c_7 : decode cJ7_copyOf_6403c 7 = .ok (.anewarray 2, 3) := by decide +kernel
theorem dJ7_copyOf_6403c_10 : decode cJ7_copyOf_6403c 10 = .ok (.goto 14, 3) := by decide +kernel
theorem dJ7_copyOf_6403c_13 : decode cJ7_copyOf_6403c 13 = .ok (.aload_n 2, 1) := by decide +kernel
theorem dJ7_copyOf_6403c_14 : decode cJ7_copyOf_6403c 14 = .ok (.invokevirtual 90, 3) := by decide +kernel
theorem dJ7_copyOf_6403c_17 : decode cJ7_copyOf_6403c 17 = .ok (.iload_n 1, 1) := by decide +kernel
theorem dJ7_copyOf_6403c_18 : decode cJ7_copyOf_6403c 18 = .ok (.invokestatic 95, 3) := by decide +kernel
theorem dJ7_copyOf_6403c_21 : decode cJ7_copyOf_6403c 21 = .ok (.checkcast 110, 3) := by decide +kernel
theorem dJ7_copyOf_6403c_24 : decode cJ7_copyOf_6403c 24 = .ok (.astore_n 3, 1) := by decide +kernel
theorem dJ7_copyOf_6403c_25 : decode cJ7_copyOf_6403c 25 = .ok (.aload_n 0, 1) := by decide +kernel
theorem dJ7_copyOf_6403c_26 : decode cJ7_copyOf_6403c 26 = .ok (.iconst 0, 1) := by decide +kernel
theorem dJ7_copyOf_6403c_27 : decode cJ7_copyOf_6403c 27 = .ok (.aload_n 3, 1) := by decide +kernel
theorem dJ7_copyOf_6403c_28 : decode cJ7_copyOf_6403c 28 = .ok (.iconst 0, 1) := by decide +kernel
theorem dJ7_copyOf_6403c_29 : decode cJ7_copyOf_6403c 29 = .ok (.aload_n 0, 1) := by decide +kernel
theorem dJ7_copyOf_6403c_30 : decode cJ7_copyOf_6403c 30 = .ok (.arraylength, 1) := by decide +kernel
theorem dJ7_copyOf_6403c_31 : decode cJ7_copyOf_6403c 31 = .ok (.iload_n 1, 1) := by decide +kernel
theorem dJ7_copyOf_6403c_32 : decode cJ7_copyOf_6403c 32 = .ok (.invokestatic 304, 3) := by decide +kernel
theorem dJ7_copyOf_6403c_35 : decode cJ7_copyOf_6403c 35 = .ok (.invokestatic 150, 3) := by decide +kernel
theorem dJ7_copyOf_6403c_38 : decode cJ7_copyOf_6403c 38 = .ok (.aload_n 3, 1) := by decide +kernel
theorem dJ7_copyOf_6403c_39 : decode cJ7_copyOf_6403c 39 = .ok (.areturn, 1) := by decide +kernel
theorem dJ15_checkIndex_7cf53_0 : decode cJ15_checkIndex_7cf53 0 = .ok (.iload_n 0, 1) := by decide +kernel
theorem dJ15_checkIndex_7cf53_1 : decode cJ15_checkIndex_7cf53 1 = .ok (.iload_n 1, 1) := by decide +kernel
theorem dJ15_checkIndex_7cf53_2 : decode cJ15_checkIndex_7cf53 2 = .ok (.aconst_null, 1) := by decide +kernel
theorem dJ15_checkIndex_7cf53_3 : decode cJ15_checkIndex_7cf53 3 = .ok (.invokestatic 105, 3) := by decide +kernel
theorem dJ15_checkIndex_7cf53_6 : decode cJ15_checkIndex_7cf53 6 = .ok (.ireturn, 1) := by decide +kernel
theorem dJ8_newLength_cabcc_0 : decode cJ8_newLength_cabcc 0 = .ok (.iload_n 0, 1) := by decide +kernel
theorem dJ8_newLength_cabcc_1 : decode cJ8_newLength_cabcc 1 = .ok (.iload_n 1, 1) := by decide +kernel
theorem dJ8_newLength_cabcc_2 : decode cJ8_newLength_cabcc 2 = .ok (.iload_n 2, 1) := by decide +kernel
theorem dJ8_newLength_cabcc_3 : decode cJ8_newLength_cabcc 3 = .ok (.invokestatic 194, 3) := by decide +kernel
theorem dJ8_newLength_cabcc_6 : decode cJ8_newLength_cabcc 6 = .ok (.iadd, 1) := by decide +kernel
theorem dJ8_newLength_cabcc_7 : decode cJ8_newLength_cabcc 7 = .ok (.istore_n 3, 1) := by decide +kernel
theorem dJ8_newLength_cabcc_8 : decode cJ8_newLength_cabcc 8 = .ok (.iconst 0, 1) := by decide +kernel
theorem dJ8_newLength_cabcc_9 : decode cJ8_newLength_cabcc 9 = .ok (.iload_n 3, 1) := by decide +kernel
theorem dJ8_newLength_cabcc_10 : decode cJ8_newLength_cabcc 10 = .ok (.if_icmp .ge 11, 3) := by decide +kernel
theorem dJ8_newLength_cabcc_13 : decode cJ8_newLength_cabcc 13 = .ok (.iload_n 3, 1) := by decide +kernel
theorem dJ8_newLength_cabcc_14 : decode cJ8_newLength_cabcc 14 = .ok (.ldc 200, 2) := by decide +kernel
theorem dJ8_newLength_cabcc_16 : decode cJ8_newLength_cabcc 16 = .ok (.if_icmp .gt 5, 3) := by decide +kernel
theorem dJ8_newLength_cabcc_19 : decode cJ8_newLength_cabcc 19 = .ok (.iload_n 3, 1) := by decide +kernel
theorem dJ8_newLength_cabcc_20 : decode cJ8_newLength_cabcc 20 = .ok (.ireturn, 1) := by decide +kernel
theorem dJ8_newLength_cabcc_21 : decode cJ8_newLength_cabcc 21 = .ok (.iload_n 0, 1) := by decide +kernel
theorem dJ8_newLength_cabcc_22 : decode cJ8_newLength_cabcc 22 = .ok (.iload_n 1, 1) := by decide +kernel
theorem dJ8_newLength_cabcc_23 : decode cJ8_newLength_cabcc 23 = .ok (.invokestatic 201, 3) := by decide +kernel
theorem dJ8_newLength_cabcc_26 : decode cJ8_newLength_cabcc 26 = .ok (.ireturn, 1) := by decide +kernel
theorem dJ8_hugeLength_7cf53_0 : decode cJ8_hugeLength_7cf53 0 = .ok (.iload_n 0, 1) := by decide +kernel
theorem dJ8_hugeLength_7cf53_1 : decode cJ8_hugeLength_7cf53 1 = .ok (.iload_n 1, 1) := by decide +kernel
theorem dJ8_hugeLength_7cf53_2 : decode cJ8_hugeLength_7cf53 2 = .ok (.iadd, 1) := by decide +kernel
theorem dJ8_hugeLength_7cf53_3 : decode cJ8_hugeLength_7cf53 3 = .ok (.istore_n 2, 1) := by decide +kernel
theorem dJ8_hugeLength_7cf53_4 : decode cJ8_hugeLength_7cf53 4 = .ok (.iload_n 2, 1) := by decide +kernel
theorem dJ8_hugeLength_7cf53_5 : decode cJ8_hugeLength_7cf53 5 = .ok (.ifCond .ge 44, 3) := by decide +kernel
theorem dJ8_hugeLength_7cf53_8 : decode cJ8_hugeLength_7cf53 8 = .ok (.new 204, 3) := by decide +kernel
theorem dJ8_hugeLength_7cf53_11 : decode cJ8_hugeLength_7cf53 11 = .ok (.dup, 1) := by decide +kernel
theorem dJ8_hugeLength_7cf53_12 : decode cJ8_hugeLength_7cf53 12 = .ok (.new 89, 3) := by decide +kernel
theorem dJ8_hugeLength_7cf53_15 : decode cJ8_hugeLength_7cf53 15 = .ok (.dup, 1) := by decide +kernel
theorem dJ8_hugeLength_7cf53_16 : decode cJ8_hugeLength_7cf53 16 = .ok (.invokespecial 91, 3) := by decide +kernel
theorem dJ8_hugeLength_7cf53_19 : decode cJ8_hugeLength_7cf53 19 = .ok (.ldc 206, 2) := by decide +kernel
theorem dJ8_hugeLength_7cf53_21 : decode cJ8_hugeLength_7cf53 21 = .ok (.invokevirtual 94, 3) := by decide +kernel
theorem dJ8_hugeLength_7cf53_24 : decode cJ8_hugeLength_7cf53 24 = .ok (.iload_n 0, 1) := by decide +kernel
theorem dJ8_hugeLength_7cf53_25 : decode cJ8_hugeLength_7cf53 25 = .ok (.invokevirtual 98, 3) := by decide +kernel
theorem dJ8_hugeLength_7cf53_28 : decode cJ8_hugeLength_7cf53 28 = .ok (.ldc 208, 2) := by decide +kernel
theorem dJ8_hugeLength_7cf53_30 : decode cJ8_hugeLength_7cf53 30 = .ok (.invokevirtual 94, 3) := by decide +kernel
theorem dJ8_hugeLength_7cf53_33 : decode cJ8_hugeLength_7cf53 33 = .ok (.iload_n 1, 1) := by decide +kernel
theorem dJ8_hugeLength_7cf53_34 : decode cJ8_hugeLength_7cf53 34 = .ok (.invokevirtual 98, 3) := by decide +kernel
theorem dJ8_hugeLength_7cf53_37 : decode cJ8_hugeLength_7cf53 37 = .ok (.ldc 210, 2) := by decide +kernel
theorem dJ8_hugeLength_7cf53_39 : decode cJ8_hugeLength_7cf53 39 = .ok (.invokevirtual 94, 3) := by decide +kernel
theorem dJ8_hugeLength_7cf53_42 : decode cJ8_hugeLength_7cf53 42 = .ok (.invokevirtual 101, 3) := by decide +kernel
theorem dJ8_hugeLength_7cf53_45 : decode cJ8_hugeLength_7cf53 45 = .ok (.invokespecial 212, 3) := by decide +kernel
theorem dJ8_hugeLength_7cf53_48 : decode cJ8_hugeLength_7cf53 48 = .ok (.athrow, 1) := by decide +kernel
theorem dJ8_hugeLength_7cf53_49 : decode cJ8_hugeLength_7cf53 49 = .ok (.iload_n 2, 1) := by decide +kernel
theorem dJ8_hugeLength_7cf53_50 : decode cJ8_hugeLength_7cf53 50 = .ok (.ldc 200, 2) := by decide +kernel
theorem dJ8_hugeLength_7cf53_52 : decode cJ8_hugeLength_7cf53 52 = .ok (.if_icmp .gt 6, 3) := by decide +kernel
theorem dJ8_hugeLength_7cf53_55 : decode cJ8_hugeLength_7cf53 55 = .ok (.ldc 200, 2) := by decide +kernel
theorem dJ8_hugeLength_7cf53_57 : decode cJ8_hugeLength_7cf53 57 = .ok (.ireturn, 1) := by decide +kernel
theorem dJ8_hugeLength_7cf53_58 : decode cJ8_hugeLength_7cf53 58 = .ok (.iload_n 2, 1) := by decide +kernel
theorem dJ8_hugeLength_7cf53_59 : decode cJ8_hugeLength_7cf53 59 = .ok (.ireturn, 1) := by decide +kernel
theorem dJ3_checkIndex_8e157_0 : decode cJ3_checkIndex_8e157 0 = .ok (.iload_n 0, 1) := by decide +kernel
theorem dJ3_checkIndex_8e157_1 : decode cJ3_checkIndex_8e157 1 = .ok (.ifCond .lt 8, 3) := by decide +kernel
theorem dJ3_checkIndex_8e157_4 : decode cJ3_checkIndex_8e157 4 = .ok (.iload_n 0, 1) := by decide +kernel
theorem dJ3_checkIndex_8e157_5 : decode cJ3_checkIndex_8e157 5 = .ok (.iload_n 1, 1) := by decide +kernel
theorem dJ3_checkIndex_8e157_6 : decode cJ3_checkIndex_8e157 6 = .ok (.if_icmp .lt 10, 3) := by decide +kernel
theorem dJ3_checkIndex_8e157_9 : decode cJ3_checkIndex_8e157 9 = .ok (.aload_n 2, 1) := by decide +kernel
theorem dJ3_checkIndex_8e157_10 : decode cJ3_checkIndex_8e157 10 = .ok (.iload_n 0, 1) := by decide +kernel
theorem dJ3_checkIndex_8e157_11 : decode cJ3_checkIndex_8e157 11 = .ok (.iload_n 1, 1) := by decide +kernel
theorem dJ3_checkIndex_8e157_12 : decode cJ3_checkIndex_8e157 12 = .ok (.invokestatic 95, 3) := by decide +kernel
theorem dJ3_checkIndex_8e157_15 : decode cJ3_checkIndex_8e157 15 = .ok (.athrow, 1) := by decide +kernel
theorem dJ3_checkIndex_8e157_16 : decode cJ3_checkIndex_8e157 16 = .ok (.iload_n 0, 1) := by decide +kernel
theorem dJ3_checkIndex_8e157_17 : decode cJ3_checkIndex_8e157 17 = .ok (.ireturn, 1) := by decide +kernel
theorem dL_law_0 : decode cL_law 0 = .ok (.new 7, 3) := by decide +kernel
theorem dL_law_3 : decode cL_law 3 = .ok (.dup, 1) := by decide +kernel
theorem dL_law_4 : decode cL_law 4 = .ok (.invokespecial 9, 3) := by decide +kernel
theorem dL_law_7 : decode cL_law 7 = .ok (.astore_n 1, 1) := by decide +kernel
theorem dL_law_8 : decode cL_law 8 = .ok (.new 10, 3) := by decide +kernel
theorem dL_law_11 : decode cL_law 11 = .ok (.dup, 1) := by decide +kernel
theorem dL_law_12 : decode cL_law 12 = .ok (.invokespecial 12, 3) := by decide +kernel
theorem dL_law_15 : decode cL_law 15 = .ok (.astore_n 2, 1) := by decide +kernel
theorem dL_law_16 : decode cL_law 16 = .ok (.iconst 0, 1) := by decide +kernel
theorem dL_law_17 : decode cL_law 17 = .ok (.istore_n 3, 1) := by decide +kernel
theorem dL_law_18 : decode cL_law 18 = .ok (.iload_n 3, 1) := by decide +kernel
theorem dL_law_19 : decode cL_law 19 = .ok (.aload_n 0, 1) := by decide +kernel
theorem dL_law_20 : decode cL_law 20 = .ok (.arraylength, 1) := by decide +kernel
theorem dL_law_21 : decode cL_law 21 = .ok (.bipush 6, 2) := by decide +kernel
theorem dL_law_23 : decode cL_law 23 = .ok (.isub, 1) := by decide +kernel
theorem dL_law_24 : decode cL_law 24 = .ok (.if_icmp .gt 794, 3) := by decide +kernel
theorem dL_law_27 : decode cL_law 27 = .ok (.aload_n 0, 1) := by decide +kernel
theorem dL_law_28 : decode cL_law 28 = .ok (.iload_n 3, 1) := by decide +kernel
theorem dL_law_29 : decode cL_law 29 = .ok (.iaload, 1) := by decide +kernel
theorem dL_law_30 : decode cL_law 30 = .ok (.bipush 31, 2) := by decide +kernel
theorem dL_law_32 : decode cL_law 32 = .ok (.iand, 1) := by decide +kernel
theorem dL_law_33 : decode cL_law 33 = .ok (.tableswitch 779 0 21 #[103, 166, 189, 222, 265, 288, 321, 344, 367, 390, 403, 436, 479, 502, 535, 558, 611, 634, 657, 700, 723, 756], 103) := by decide +kernel
theorem dL_law_136 : decode cL_law 136 = .ok (.aload_n 1, 1) := by decide +kernel
theorem dL_law_137 : decode cL_law 137 = .ok (.aload_n 0, 1) := by decide +kernel
theorem dL_law_138 : decode cL_law 138 = .ok (.iload_n 3, 1) := by decide +kernel
theorem dL_law_139 : decode cL_law 139 = .ok (.iconst 1, 1) := by decide +kernel
theorem dL_law_140 : decode cL_law 140 = .ok (.iadd, 1) := by decide +kernel
theorem dL_law_141 : decode cL_law 141 = .ok (.iaload, 1) := by decide +kernel
theorem dL_law_142 : decode cL_law 142 = .ok (.aload_n 0, 1) := by decide +kernel
theorem dL_law_143 : decode cL_law 143 = .ok (.iload_n 3, 1) := by decide +kernel
theorem dL_law_144 : decode cL_law 144 = .ok (.iconst 2, 1) := by decide +kernel
theorem dL_law_145 : decode cL_law 145 = .ok (.iadd, 1) := by decide +kernel
theorem dL_law_146 : decode cL_law 146 = .ok (.iaload, 1) := by decide +kernel
theorem dL_law_147 : decode cL_law 147 = .ok (.aload_n 0, 1) := by decide +kernel
theorem dL_law_148 : decode cL_law 148 = .ok (.iload_n 3, 1) := by decide +kernel
theorem dL_law_149 : decode cL_law 149 = .ok (.iconst 3, 1) := by decide +kernel
theorem dL_law_150 : decode cL_law 150 = .ok (.iadd, 1) := by decide +kernel
theorem dL_law_151 : decode cL_law 151 = .ok (.iaload, 1) := by decide +kernel
theorem dL_law_152 : decode cL_law 152 = .ok (.aload_n 0, 1) := by decide +kernel
theorem dL_law_153 : decode cL_law 153 = .ok (.iload_n 3, 1) := by decide +kernel
theorem dL_law_154 : decode cL_law 154 = .ok (.iconst 4, 1) := by decide +kernel
theorem dL_law_155 : decode cL_law 155 = .ok (.iadd, 1) := by decide +kernel
theorem dL_law_156 : decode cL_law 156 = .ok (.iaload, 1) := by decide +kernel
theorem dL_law_157 : decode cL_law 157 = .ok (.aload_n 0, 1) := by decide +kernel
theorem dL_law_158 : decode cL_law 158 = .ok (.iload_n 3, 1) := by decide +kernel
theorem dL_law_159 : decode cL_law 159 = .ok (.iconst 5, 1) := by decide +kernel
theorem dL_law_160 : decode cL_law 160 = .ok (.iadd, 1) := by decide +kernel
theorem dL_law_161 : decode cL_law 161 = .ok (.iaload, 1) := by decide +kernel
theorem dL_law_162 : decode cL_law 162 = .ok (.invokevirtual 13, 3) := by decide +kernel
theorem dL_law_165 : decode cL_law 165 = .ok (.aload_n 2, 1) := by decide +kernel
theorem dL_law_166 : decode cL_law 166 = .ok (.aload_n 0, 1) := by decide +kernel
theorem dL_law_167 : decode cL_law 167 = .ok (.iload_n 3, 1) := by decide +kernel
theorem dL_law_168 : decode cL_law 168 = .ok (.iconst 1, 1) := by decide +kernel
theorem dL_law_169 : decode cL_law 169 = .ok (.iadd, 1) := by decide +kernel
theorem dL_law_170 : decode cL_law 170 = .ok (.iaload, 1) := by decide +kernel
theorem dL_law_171 : decode cL_law 171 = .ok (.aload_n 0, 1) := by decide +kernel
theorem dL_law_172 : decode cL_law 172 = .ok (.iload_n 3, 1) := by decide +kernel
theorem dL_law_173 : decode cL_law 173 = .ok (.iconst 2, 1) := by decide +kernel
theorem dL_law_174 : decode cL_law 174 = .ok (.iadd, 1) := by decide +kernel
theorem dL_law_175 : decode cL_law 175 = .ok (.iaload, 1) := by decide +kernel
theorem dL_law_176 : decode cL_law 176 = .ok (.aload_n 0, 1) := by decide +kernel
theorem dL_law_177 : decode cL_law 177 = .ok (.iload_n 3, 1) := by decide +kernel
theorem dL_law_178 : decode cL_law 178 = .ok (.iconst 3, 1) := by decide +kernel
theorem dL_law_179 : decode cL_law 179 = .ok (.iadd, 1) := by decide +kernel
theorem dL_law_180 : decode cL_law 180 = .ok (.iaload, 1) := by decide +kernel
theorem dL_law_181 : decode cL_law 181 = .ok (.aload_n 0, 1) := by decide +kernel
theorem dL_law_182 : decode cL_law 182 = .ok (.iload_n 3, 1) := by decide +kernel
theorem dL_law_183 : decode cL_law 183 = .ok (.iconst 4, 1) := by decide +kernel
theorem dL_law_184 : decode cL_law 184 = .ok (.iadd, 1) := by decide +kernel
theorem dL_law_185 : decode cL_law 185 = .ok (.iaload, 1) := by decide +kernel
theorem dL_law_186 : decode cL_law 186 = .ok (.aload_n 0, 1) := by decide +kernel
theorem dL_law_187 : decode cL_law 187 = .ok (.iload_n 3, 1) := by decide +kernel
theorem dL_law_188 : decode cL_law 188 = .ok (.iconst 5, 1) := by decide +kernel
theorem dL_law_189 : decode cL_law 189 = .ok (.iadd, 1) := by decide +kernel
theorem dL_law_190 : decode cL_law 190 = .ok (.iaload, 1) := by decide +kernel
theorem dL_law_191 : decode cL_law 191 = .ok (.invokevirtual 17, 3) := by decide +kernel
theorem dL_law_194 : decode cL_law 194 = .ok (.if_icmp .eq 618, 3) := by decide +kernel
theorem dL_law_197 : decode cL_law 197 = .ok (.iconst 0, 1) := by decide +kernel
theorem dL_law_198 : decode cL_law 198 = .ok (.ireturn, 1) := by decide +kernel
theorem dL_law_199 : decode cL_law 199 = .ok (.aload_n 1, 1) := by decide +kernel
theorem dL_law_200 : decode cL_law 200 = .ok (.aload_n 0, 1) := by decide +kernel
theorem dL_law_201 : decode cL_law 201 = .ok (.iload_n 3, 1) := by decide +kernel
theorem dL_law_202 : decode cL_law 202 = .ok (.iconst 1, 1) := by decide +kernel
theorem dL_law_203 : decode cL_law 203 = .ok (.iadd, 1) := by decide +kernel
theorem dL_law_204 : decode cL_law 204 = .ok (.iaload, 1) := by decide +kernel
theorem dL_law_205 : decode cL_law 205 = .ok (.invokevirtual 18, 3) := by decide +kernel
theorem dL_law_208 : decode cL_law 208 = .ok (.aload_n 2, 1) := by decide +kernel
theorem dL_law_209 : decode cL_law 209 = .ok (.aload_n 0, 1) := by decide +kernel
theorem dL_law_210 : decode cL_law 210 = .ok (.iload_n 3, 1) := by decide +kernel
theorem dL_law_211 : decode cL_law 211 = .ok (.iconst 1, 1) := by decide +kernel
theorem dL_law_212 : decode cL_law 212 = .ok (.iadd, 1) := by decide +kernel
theorem dL_law_213 : decode cL_law 213 = .ok (.iaload, 1) := by decide +kernel
theorem dL_law_214 : decode cL_law 214 = .ok (.invokevirtual 22, 3) := by decide +kernel
theorem dL_law_217 : decode cL_law 217 = .ok (.if_icmp .eq 595, 3) := by decide +kernel
theorem dL_law_220 : decode cL_law 220 = .ok (.iconst 0, 1) := by decide +kernel
theorem dL_law_221 : decode cL_law 221 = .ok (.ireturn, 1) := by decide +kernel
theorem dL_law_222 : decode cL_law 222 = .ok (.aload_n 1, 1) := by decide +kernel
theorem dL_law_223 : decode cL_law 223 = .ok (.aload_n 0, 1) := by decide +kernel
theorem dL_law_224 : decode cL_law 224 = .ok (.iload_n 3, 1) := by decide +kernel
theorem dL_law_225 : decode cL_law 225 = .ok (.iconst 1, 1) := by decide +kernel
theorem dL_law_226 : decode cL_law 226 = .ok (.iadd, 1) := by decide +kernel
theorem dL_law_227 : decode cL_law 227 = .ok (.iaload, 1) := by decide +kernel
theorem dL_law_228 : decode cL_law 228 = .ok (.aload_n 0, 1) := by decide +kernel
theorem dL_law_229 : decode cL_law 229 = .ok (.iload_n 3, 1) := by decide +kernel
theorem dL_law_230 : decode cL_law 230 = .ok (.iconst 2, 1) := by decide +kernel
theorem dL_law_231 : decode cL_law 231 = .ok (.iadd, 1) := by decide +kernel
theorem dL_law_232 : decode cL_law 232 = .ok (.iaload, 1) := by decide +kernel
theorem dL_law_233 : decode cL_law 233 = .ok (.invokevirtual 23, 3) := by decide +kernel
theorem dL_law_236 : decode cL_law 236 = .ok (.aload_n 2, 1) := by decide +kernel
theorem dL_law_237 : decode cL_law 237 = .ok (.aload_n 0, 1) := by decide +kernel
theorem dL_law_238 : decode cL_law 238 = .ok (.iload_n 3, 1) := by decide +kernel
theorem dL_law_239 : decode cL_law 239 = .ok (.iconst 1, 1) := by decide +kernel
theorem dL_law_240 : decode cL_law 240 = .ok (.iadd, 1) := by decide +kernel
theorem dL_law_241 : decode cL_law 241 = .ok (.iaload, 1) := by decide +kernel
theorem dL_law_242 : decode cL_law 242 = .ok (.aload_n 0, 1) := by decide +kernel
theorem dL_law_243 : decode cL_law 243 = .ok (.iload_n 3, 1) := by decide +kernel
theorem dL_law_244 : decode cL_law 244 = .ok (.iconst 2, 1) := by decide +kernel
