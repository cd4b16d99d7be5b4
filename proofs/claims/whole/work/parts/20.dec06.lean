theorem dX11_turn_17 : decode cX11_turn 17 = .ok (.aload_n 0, 1) := by decide +kernel
theorem dX11_turn_18 : decode cX11_turn 18 = .ok (.getfield 89, 3) := by decide +kernel
theorem dX11_turn_21 : decode cX11_turn 21 = .ok (.iload_n 1, 1) := by decide +kernel
theorem dX11_turn_22 : decode cX11_turn 22 = .ok (.iaload, 1) := by decide +kernel
theorem dX11_turn_23 : decode cX11_turn 23 = .ok (.ifCond .lt 29, 3) := by decide +kernel
theorem dX11_turn_26 : decode cX11_turn 26 = .ok (.aload_n 0, 1) := by decide +kernel
theorem dX11_turn_27 : decode cX11_turn 27 = .ok (.sipush 250, 3) := by decide +kernel
theorem dX11_turn_30 : decode cX11_turn 30 = .ok (.sipush 250, 3) := by decide +kernel
theorem dX11_turn_33 : decode cX11_turn 33 = .ok (.aload_n 0, 1) := by decide +kernel
theorem dX11_turn_34 : decode cX11_turn 34 = .ok (.getfield 56, 3) := by decide +kernel
theorem dX11_turn_37 : decode cX11_turn 37 = .ok (.iconst 1, 1) := by decide +kernel
theorem dX11_turn_38 : decode cX11_turn 38 = .ok (.iaload, 1) := by decide +kernel
theorem dX11_turn_39 : decode cX11_turn 39 = .ok (.iadd, 1) := by decide +kernel
theorem dX11_turn_40 : decode cX11_turn 40 = .ok (.iload_n 1, 1) := by decide +kernel
theorem dX11_turn_41 : decode cX11_turn 41 = .ok (.invokevirtual 233, 3) := by decide +kernel
theorem dX11_turn_44 : decode cX11_turn 44 = .ok (.ifCond .ge 8, 3) := by decide +kernel
theorem dX11_turn_47 : decode cX11_turn 47 = .ok (.aload_n 0, 1) := by decide +kernel
theorem dX11_turn_48 : decode cX11_turn 48 = .ok (.iload_n 1, 1) := by decide +kernel
theorem dX11_turn_49 : decode cX11_turn 49 = .ok (.invokevirtual 251, 3) := by decide +kernel
theorem dX11_turn_52 : decode cX11_turn 52 = .ok (.iinc 1 1, 3) := by decide +kernel
theorem dX11_turn_55 : decode cX11_turn 55 = .ok (.goto (-48), 3) := by decide +kernel
theorem dX11_turn_58 : decode cX11_turn 58 = .ok (.aload_n 0, 1) := by decide +kernel
theorem dX11_turn_59 : decode cX11_turn 59 = .ok (.getfield 56, 3) := by decide +kernel
theorem dX11_turn_62 : decode cX11_turn 62 = .ok (.iconst 0, 1) := by decide +kernel
theorem dX11_turn_63 : decode cX11_turn 63 = .ok (.aload_n 0, 1) := by decide +kernel
theorem dX11_turn_64 : decode cX11_turn 64 = .ok (.getfield 56, 3) := by decide +kernel
theorem dX11_turn_67 : decode cX11_turn 67 = .ok (.iconst 1, 1) := by decide +kernel
theorem dX11_turn_68 : decode cX11_turn 68 = .ok (.iaload, 1) := by decide +kernel
theorem dX11_turn_69 : decode cX11_turn 69 = .ok (.iastore, 1) := by decide +kernel
theorem dX11_turn_70 : decode cX11_turn 70 = .ok (.iconst 0, 1) := by decide +kernel
theorem dX11_turn_71 : decode cX11_turn 71 = .ok (.istore_n 1, 1) := by decide +kernel
theorem dX11_turn_72 : decode cX11_turn 72 = .ok (.iload_n 1, 1) := by decide +kernel
theorem dX11_turn_73 : decode cX11_turn 73 = .ok (.aload_n 0, 1) := by decide +kernel
theorem dX11_turn_74 : decode cX11_turn 74 = .ok (.getfield 56, 3) := by decide +kernel
theorem dX11_turn_77 : decode cX11_turn 77 = .ok (.iconst 0, 1) := by decide +kernel
theorem dX11_turn_78 : decode cX11_turn 78 = .ok (.iaload, 1) := by decide +kernel
theorem dX11_turn_79 : decode cX11_turn 79 = .ok (.if_icmp .ge 19, 3) := by decide +kernel
theorem dX11_turn_82 : decode cX11_turn 82 = .ok (.aload_n 0, 1) := by decide +kernel
theorem dX11_turn_83 : decode cX11_turn 83 = .ok (.sipush 250, 3) := by decide +kernel
theorem dX11_turn_86 : decode cX11_turn 86 = .ok (.iload_n 1, 1) := by decide +kernel
theorem dX11_turn_87 : decode cX11_turn 87 = .ok (.iadd, 1) := by decide +kernel
theorem dX11_turn_88 : decode cX11_turn 88 = .ok (.iload_n 1, 1) := by decide +kernel
theorem dX11_turn_89 : decode cX11_turn 89 = .ok (.invokevirtual 254, 3) := by decide +kernel
theorem dX11_turn_92 : decode cX11_turn 92 = .ok (.iinc 1 1, 3) := by decide +kernel
theorem dX11_turn_95 : decode cX11_turn 95 = .ok (.goto (-23), 3) := by decide +kernel
theorem dX11_turn_98 : decode cX11_turn 98 = .ok (.iconst 0, 1) := by decide +kernel
theorem dX11_turn_99 : decode cX11_turn 99 = .ok (.istore_n 1, 1) := by decide +kernel
theorem dX11_turn_100 : decode cX11_turn 100 = .ok (.iload_n 1, 1) := by decide +kernel
theorem dX11_turn_101 : decode cX11_turn 101 = .ok (.aload_n 0, 1) := by decide +kernel
theorem dX11_turn_102 : decode cX11_turn 102 = .ok (.getfield 203, 3) := by decide +kernel
theorem dX11_turn_105 : decode cX11_turn 105 = .ok (.if_icmp .ge 25, 3) := by decide +kernel
theorem dX11_turn_108 : decode cX11_turn 108 = .ok (.aload_n 0, 1) := by decide +kernel
theorem dX11_turn_109 : decode cX11_turn 109 = .ok (.getfield 86, 3) := by decide +kernel
theorem dX11_turn_112 : decode cX11_turn 112 = .ok (.iload_n 1, 1) := by decide +kernel
theorem dX11_turn_113 : decode cX11_turn 113 = .ok (.aload_n 0, 1) := by decide +kernel
theorem dX11_turn_114 : decode cX11_turn 114 = .ok (.getfield 86, 3) := by decide +kernel
theorem dX11_turn_117 : decode cX11_turn 117 = .ok (.sipush 3000, 3) := by decide +kernel
theorem dX11_turn_120 : decode cX11_turn 120 = .ok (.iload_n 1, 1) := by decide +kernel
theorem dX11_turn_121 : decode cX11_turn 121 = .ok (.iadd, 1) := by decide +kernel
theorem dX11_turn_122 : decode cX11_turn 122 = .ok (.iaload, 1) := by decide +kernel
theorem dX11_turn_123 : decode cX11_turn 123 = .ok (.iastore, 1) := by decide +kernel
theorem dX11_turn_124 : decode cX11_turn 124 = .ok (.iinc 1 1, 3) := by decide +kernel
theorem dX11_turn_127 : decode cX11_turn 127 = .ok (.goto (-27), 3) := by decide +kernel
theorem dX11_turn_130 : decode cX11_turn 130 = .ok (.aload_n 0, 1) := by decide +kernel
theorem dX11_turn_131 : decode cX11_turn 131 = .ok (.getfield 56, 3) := by decide +kernel
theorem dX11_turn_134 : decode cX11_turn 134 = .ok (.iconst 0, 1) := by decide +kernel
theorem dX11_turn_135 : decode cX11_turn 135 = .ok (.iaload, 1) := by decide +kernel
theorem dX11_turn_136 : decode cX11_turn 136 = .ok (.ireturn, 1) := by decide +kernel
theorem dX11_copy_0 : decode cX11_copy 0 = .ok (.aload_n 0, 1) := by decide +kernel
theorem dX11_copy_1 : decode cX11_copy 1 = .ok (.getfield 59, 3) := by decide +kernel
theorem dX11_copy_4 : decode cX11_copy 4 = .ok (.iload_n 2, 1) := by decide +kernel
theorem dX11_copy_5 : decode cX11_copy 5 = .ok (.aload_n 0, 1) := by decide +kernel
theorem dX11_copy_6 : decode cX11_copy 6 = .ok (.getfield 59, 3) := by decide +kernel
theorem dX11_copy_9 : decode cX11_copy 9 = .ok (.iload_n 1, 1) := by decide +kernel
theorem dX11_copy_10 : decode cX11_copy 10 = .ok (.iaload, 1) := by decide +kernel
theorem dX11_copy_11 : decode cX11_copy 11 = .ok (.iastore, 1) := by decide +kernel
theorem dX11_copy_12 : decode cX11_copy 12 = .ok (.aload_n 0, 1) := by decide +kernel
theorem dX11_copy_13 : decode cX11_copy 13 = .ok (.getfield 62, 3) := by decide +kernel
theorem dX11_copy_16 : decode cX11_copy 16 = .ok (.iload_n 2, 1) := by decide +kernel
theorem dX11_copy_17 : decode cX11_copy 17 = .ok (.aload_n 0, 1) := by decide +kernel
theorem dX11_copy_18 : decode cX11_copy 18 = .ok (.getfield 62, 3) := by decide +kernel
theorem dX11_copy_21 : decode cX11_copy 21 = .ok (.iload_n 1, 1) := by decide +kernel
theorem dX11_copy_22 : decode cX11_copy 22 = .ok (.iaload, 1) := by decide +kernel
theorem dX11_copy_23 : decode cX11_copy 23 = .ok (.iastore, 1) := by decide +kernel
theorem dX11_copy_24 : decode cX11_copy 24 = .ok (.aload_n 0, 1) := by decide +kernel
theorem dX11_copy_25 : decode cX11_copy 25 = .ok (.getfield 65, 3) := by decide +kernel
theorem dX11_copy_28 : decode cX11_copy 28 = .ok (.iload_n 2, 1) := by decide +kernel
theorem dX11_copy_29 : decode cX11_copy 29 = .ok (.aload_n 0, 1) := by decide +kernel
theorem dX11_copy_30 : decode cX11_copy 30 = .ok (.getfield 65, 3) := by decide +kernel
theorem dX11_copy_33 : decode cX11_copy 33 = .ok (.iload_n 1, 1) := by decide +kernel
theorem dX11_copy_34 : decode cX11_copy 34 = .ok (.iaload, 1) := by decide +kernel
theorem dX11_copy_35 : decode cX11_copy 35 = .ok (.iastore, 1) := by decide +kernel
theorem dX11_copy_36 : decode cX11_copy 36 = .ok (.aload_n 0, 1) := by decide +kernel
theorem dX11_copy_37 : decode cX11_copy 37 = .ok (.getfield 68, 3) := by decide +kernel
theorem dX11_copy_40 : decode cX11_copy 40 = .ok (.iload_n 2, 1) := by decide +kernel
theorem dX11_copy_41 : decode cX11_copy 41 = .ok (.aload_n 0, 1) := by decide +kernel
theorem dX11_copy_42 : decode cX11_copy 42 = .ok (.getfield 68, 3) := by decide +kernel
theorem dX11_copy_45 : decode cX11_copy 45 = .ok (.iload_n 1, 1) := by decide +kernel
theorem dX11_copy_46 : decode cX11_copy 46 = .ok (.iaload, 1) := by decide +kernel
theorem dX11_copy_47 : decode cX11_copy 47 = .ok (.iastore, 1) := by decide +kernel
theorem dX11_copy_48 : decode cX11_copy 48 = .ok (.aload_n 0, 1) := by decide +kernel
theorem dX11_copy_49 : decode cX11_copy 49 = .ok (.getfield 71, 3) := by decide +kernel
theorem dX11_copy_52 : decode cX11_copy 52 = .ok (.iload_n 2, 1) := by decide +kernel
theorem dX11_copy_53 : decode cX11_copy 53 = .ok (.aload_n 0, 1) := by decide +kernel
theorem dX11_copy_54 : decode cX11_copy 54 = .ok (.getfield 71, 3) := by decide +kernel
theorem dX11_copy_57 : decode cX11_copy 57 = .ok (.iload_n 1, 1) := by decide +kernel
theorem dX11_copy_58 : decode cX11_copy 58 = .ok (.iaload, 1) := by decide +kernel
theorem dX11_copy_59 : decode cX11_copy 59 = .ok (.iastore, 1) := by decide +kernel
theorem dX11_copy_60 : decode cX11_copy 60 = .ok (.aload_n 0, 1) := by decide +kernel
theorem dX11_copy_61 : decode cX11_copy 61 = .ok (.getfield 77, 3) := by decide +kernel
theorem dX11_copy_64 : decode cX11_copy 64 = .ok (.iload_n 2, 1) := by decide +kernel
theorem dX11_copy_65 : decode cX11_copy 65 = .ok (.aload_n 0, 1) := by decide +kernel
theorem dX11_copy_66 : decode cX11_copy 66 = .ok (.getfield 77, 3) := by decide +kernel
theorem dX11_copy_69 : decode cX11_copy 69 = .ok (.iload_n 1, 1) := by decide +kernel
theorem dX11_copy_70 : decode cX11_copy 70 = .ok (.iaload, 1) := by decide +kernel
theorem dX11_copy_71 : decode cX11_copy 71 = .ok (.iastore, 1) := by decide +kernel
theorem dX11_copy_72 : decode cX11_copy 72 = .ok (.iconst 0, 1) := by decide +kernel
theorem dX11_copy_73 : decode cX11_copy 73 = .ok (.istore_n 3, 1) := by decide +kernel
theorem dX11_copy_74 : decode cX11_copy 74 = .ok (.iload_n 3, 1) := by decide +kernel
theorem dX11_copy_75 : decode cX11_copy 75 = .ok (.bipush 12, 2) := by decide +kernel
theorem dX11_copy_77 : decode cX11_copy 77 = .ok (.if_icmp .ge 31, 3) := by decide +kernel
theorem dX11_copy_80 : decode cX11_copy 80 = .ok (.aload_n 0, 1) := by decide +kernel
theorem dX11_copy_81 : decode cX11_copy 81 = .ok (.getfield 74, 3) := by decide +kernel
theorem dX11_copy_84 : decode cX11_copy 84 = .ok (.bipush 12, 2) := by decide +kernel
theorem dX11_copy_86 : decode cX11_copy 86 = .ok (.iload_n 2, 1) := by decide +kernel
theorem dX11_copy_87 : decode cX11_copy 87 = .ok (.imul, 1) := by decide +kernel
theorem dX11_copy_88 : decode cX11_copy 88 = .ok (.iload_n 3, 1) := by decide +kernel
theorem dX11_copy_89 : decode cX11_copy 89 = .ok (.iadd, 1) := by decide +kernel
theorem dX11_copy_90 : decode cX11_copy 90 = .ok (.aload_n 0, 1) := by decide +kernel
theorem dX11_copy_91 : decode cX11_copy 91 = .ok (.getfield 74, 3) := by decide +kernel
theorem dX11_copy_94 : decode cX11_copy 94 = .ok (.bipush 12, 2) := by decide +kernel
theorem dX11_copy_96 : decode cX11_copy 96 = .ok (.iload_n 1, 1) := by decide +kernel
theorem dX11_copy_97 : decode cX11_copy 97 = .ok (.imul, 1) := by decide +kernel
theorem dX11_copy_98 : decode cX11_copy 98 = .ok (.iload_n 3, 1) := by decide +kernel
theorem dX11_copy_99 : decode cX11_copy 99 = .ok (.iadd, 1) := by decide +kernel
theorem dX11_copy_100 : decode cX11_copy 100 = .ok (.iaload, 1) := by decide +kernel
theorem dX11_copy_101 : decode cX11_copy 101 = .ok (.iastore, 1) := by decide +kernel
theorem dX11_copy_102 : decode cX11_copy 102 = .ok (.iinc 3 1, 3) := by decide +kernel
theorem dX11_copy_105 : decode cX11_copy 105 = .ok (.goto (-31), 3) := by decide +kernel
theorem dX11_copy_108 : decode cX11_copy 108 = .ok (.aload_n 0, 1) := by decide +kernel
theorem dX11_copy_109 : decode cX11_copy 109 = .ok (.getfield 80, 3) := by decide +kernel
theorem dX11_copy_112 : decode cX11_copy 112 = .ok (.iload_n 2, 1) := by decide +kernel
theorem dX11_copy_113 : decode cX11_copy 113 = .ok (.aload_n 0, 1) := by decide +kernel
theorem dX11_copy_114 : decode cX11_copy 114 = .ok (.getfield 80, 3) := by decide +kernel
theorem dX11_copy_117 : decode cX11_copy 117 = .ok (.iload_n 1, 1) := by decide +kernel
theorem dX11_copy_118 : decode cX11_copy 118 = .ok (.iaload, 1) := by decide +kernel
theorem dX11_copy_119 : decode cX11_copy 119 = .ok (.iastore, 1) := by decide +kernel
theorem dX11_copy_120 : decode cX11_copy 120 = .ok (.aload_n 0, 1) := by decide +kernel
theorem dX11_copy_121 : decode cX11_copy 121 = .ok (.getfield 83, 3) := by decide +kernel
theorem dX11_copy_124 : decode cX11_copy 124 = .ok (.iload_n 2, 1) := by decide +kernel
theorem dX11_copy_125 : decode cX11_copy 125 = .ok (.aload_n 0, 1) := by decide +kernel
theorem dX11_copy_126 : decode cX11_copy 126 = .ok (.getfield 83, 3) := by decide +kernel
theorem dX11_copy_129 : decode cX11_copy 129 = .ok (.iload_n 1, 1) := by decide +kernel
theorem dX11_copy_130 : decode cX11_copy 130 = .ok (.iaload, 1) := by decide +kernel
theorem dX11_copy_131 : decode cX11_copy 131 = .ok (.iastore, 1) := by decide +kernel
theorem dX11_copy_132 : decode cX11_copy 132 = .ok (.aload_n 0, 1) := by decide +kernel
theorem dX11_copy_133 : decode cX11_copy 133 = .ok (.getfield 89, 3) := by decide +kernel
theorem dX11_copy_136 : decode cX11_copy 136 = .ok (.iload_n 2, 1) := by decide +kernel
theorem dX11_copy_137 : decode cX11_copy 137 = .ok (.aload_n 0, 1) := by decide +kernel
theorem dX11_copy_138 : decode cX11_copy 138 = .ok (.getfield 89, 3) := by decide +kernel
theorem dX11_copy_141 : decode cX11_copy 141 = .ok (.iload_n 1, 1) := by decide +kernel
theorem dX11_copy_142 : decode cX11_copy 142 = .ok (.iaload, 1) := by decide +kernel
theorem dX11_copy_143 : decode cX11_copy 143 = .ok (.iastore, 1) := by decide +kernel
theorem dX11_copy_144 : decode cX11_copy 144 = .ok (.iconst 0, 1) := by decide +kernel
theorem dX11_copy_145 : decode cX11_copy 145 = .ok (.istore_n 3, 1) := by decide +kernel
theorem dX11_copy_146 : decode cX11_copy 146 = .ok (.iload_n 3, 1) := by decide +kernel
theorem dX11_copy_147 : decode cX11_copy 147 = .ok (.aload_n 0, 1) := by decide +kernel
theorem dX11_copy_148 : decode cX11_copy 148 = .ok (.getfield 89, 3) := by decide +kernel
theorem dX11_copy_151 : decode cX11_copy 151 = .ok (.iload_n 1, 1) := by decide +kernel
theorem dX11_copy_152 : decode cX11_copy 152 = .ok (.iaload, 1) := by decide +kernel
theorem dX11_copy_153 : decode cX11_copy 153 = .ok (.if_icmp .ge 31, 3) := by decide +kernel
theorem dX11_copy_156 : decode cX11_copy 156 = .ok (.aload_n 0, 1) := by decide +kernel
theorem dX11_copy_157 : decode cX11_copy 157 = .ok (.getfield 92, 3) := by decide +kernel
theorem dX11_copy_160 : decode cX11_copy 160 = .ok (.bipush 60, 2) := by decide +kernel
theorem dX11_copy_162 : decode cX11_copy 162 = .ok (.iload_n 2, 1) := by decide +kernel
theorem dX11_copy_163 : decode cX11_copy 163 = .ok (.imul, 1) := by decide +kernel
theorem dX11_copy_164 : decode cX11_copy 164 = .ok (.iload_n 3, 1) := by decide +kernel
theorem dX11_copy_165 : decode cX11_copy 165 = .ok (.iadd, 1) := by decide +kernel
theorem dX11_copy_166 : decode cX11_copy 166 = .ok (.aload_n 0, 1) := by decide +kernel
theorem dX11_copy_167 : decode cX11_copy 167 = .ok (.getfield 92, 3) := by decide +kernel
theorem dX11_copy_170 : decode cX11_copy 170 = .ok (.bipush 60, 2) := by decide +kernel
theorem dX11_copy_172 : decode cX11_copy 172 = .ok (.iload_n 1, 1) := by decide +kernel
theorem dX11_copy_173 : decode cX11_copy 173 = .ok (.imul, 1) := by decide +kernel
theorem dX11_copy_174 : decode cX11_copy 174 = .ok (.iload_n 3, 1) := by decide +kernel
theorem dX11_copy_175 : decode cX11_copy 175 = .ok (.iadd, 1) := by decide +kernel
theorem dX11_copy_176 : decode cX11_copy 176 = .ok (.iaload, 1) := by decide +kernel
theorem dX11_copy_177 : decode cX11_copy 177 = .ok (.iastore, 1) := by decide +kernel
theorem dX11_copy_178 : decode cX11_copy 178 = .ok (.iinc 3 1, 3) := by decide +kernel
theorem dX11_copy_181 : decode cX11_copy 181 = .ok (.goto (-35), 3) := by decide +kernel
theorem dX11_copy_184 : decode cX11_copy 184 = .ok (.aload_n 0, 1) := by decide +kernel
theorem dX11_copy_185 : decode cX11_copy 185 = .ok (.getfield 89, 3) := by decide +kernel
theorem dX11_copy_188 : decode cX11_copy 188 = .ok (.iload_n 1, 1) := by decide +kernel
theorem dX11_copy_189 : decode cX11_copy 189 = .ok (.iaload, 1) := by decide +kernel
theorem dX11_copy_190 : decode cX11_copy 190 = .ok (.ifCond .lt 55, 3) := by decide +kernel
theorem dX11_copy_193 : decode cX11_copy 193 = .ok (.aload_n 0, 1) := by decide +kernel
theorem dX11_copy_194 : decode cX11_copy 194 = .ok (.getfield 95, 3) := by decide +kernel
theorem dX11_copy_197 : decode cX11_copy 197 = .ok (.iload_n 2, 1) := by decide +kernel
theorem dX11_copy_198 : decode cX11_copy 198 = .ok (.aload_n 0, 1) := by decide +kernel
theorem dX11_copy_199 : decode cX11_copy 199 = .ok (.getfield 95, 3) := by decide +kernel
theorem dX11_copy_202 : decode cX11_copy 202 = .ok (.iload_n 1, 1) := by decide +kernel
theorem dX11_copy_203 : decode cX11_copy 203 = .ok (.iaload, 1) := by decide +kernel
theorem dX11_copy_204 : decode cX11_copy 204 = .ok (.iastore, 1) := by decide +kernel
theorem dX11_copy_205 : decode cX11_copy 205 = .ok (.iconst 0, 1) := by decide +kernel
theorem dX11_copy_206 : decode cX11_copy 206 = .ok (.istore_n 3, 1) := by decide +kernel
theorem dX11_copy_207 : decode cX11_copy 207 = .ok (.iload_n 3, 1) := by decide +kernel
theorem dX11_copy_208 : decode cX11_copy 208 = .ok (.aload_n 0, 1) := by decide +kernel
theorem dX11_copy_209 : decode cX11_copy 209 = .ok (.getfield 95, 3) := by decide +kernel
theorem dX11_copy_212 : decode cX11_copy 212 = .ok (.iload_n 1, 1) := by decide +kernel
theorem dX11_copy_213 : decode cX11_copy 213 = .ok (.iaload, 1) := by decide +kernel
theorem dX11_copy_214 : decode cX11_copy 214 = .ok (.if_icmp .ge 31, 3) := by decide +kernel
theorem dX11_copy_217 : decode cX11_copy 217 = .ok (.aload_n 0, 1) := by decide +kernel
theorem dX11_copy_218 : decode cX11_copy 218 = .ok (.getfield 99, 3) := by decide +kernel
theorem dX11_copy_221 : decode cX11_copy 221 = .ok (.bipush 120, 2) := by decide +kernel
theorem dX11_copy_223 : decode cX11_copy 223 = .ok (.iload_n 2, 1) := by decide +kernel
theorem dX11_copy_224 : decode cX11_copy 224 = .ok (.imul, 1) := by decide +kernel
theorem dX11_copy_225 : decode cX11_copy 225 = .ok (.iload_n 3, 1) := by decide +kernel
theorem dX11_copy_226 : decode cX11_copy 226 = .ok (.iadd, 1) := by decide +kernel
theorem dX11_copy_227 : decode cX11_copy 227 = .ok (.aload_n 0, 1) := by decide +kernel
theorem dX11_copy_228 : decode cX11_copy 228 = .ok (.getfield 99, 3) := by decide +kernel
theorem dX11_copy_231 : decode cX11_copy 231 = .ok (.bipush 120, 2) := by decide +kernel
theorem dX11_copy_233 : decode cX11_copy 233 = .ok (.iload_n 1, 1) := by decide +kernel
theorem dX11_copy_234 : decode cX11_copy 234 = .ok (.imul, 1) := by decide +kernel
theorem dX11_copy_235 : decode cX11_copy 235 = .ok (.iload_n 3, 1) := by decide +kernel
theorem dX11_copy_236 : decode cX11_copy 236 = .ok (.iadd, 1) := by decide +kernel
theorem dX11_copy_237 : decode cX11_copy 237 = .ok (.iaload, 1) := by decide +kernel
theorem dX11_copy_238 : decode cX11_copy 238 = .ok (.iastore, 1) := by decide +kernel
theorem dX11_copy_239 : decode cX11_copy 239 = .ok (.iinc 3 1, 3) := by decide +kernel
theorem dX11_copy_242 : decode cX11_copy 242 = .ok (.goto (-35), 3) := by decide +kernel
theorem dX11_copy_245 : decode cX11_copy 245 = .ok (.aload_n 0, 1) := by decide +kernel
theorem dX11_copy_246 : decode cX11_copy 246 = .ok (.getfield 102, 3) := by decide +kernel
theorem dX11_copy_249 : decode cX11_copy 249 = .ok (.iload_n 2, 1) := by decide +kernel
theorem dX11_copy_250 : decode cX11_copy 250 = .ok (.aload_n 0, 1) := by decide +kernel
theorem dX11_copy_251 : decode cX11_copy 251 = .ok (.getfield 102, 3) := by decide +kernel
theorem dX11_copy_254 : decode cX11_copy 254 = .ok (.iload_n 1, 1) := by decide +kernel
theorem dX11_copy_255 : decode cX11_copy 255 = .ok (.baload, 1) := by decide +kernel
theorem dX11_copy_256 : decode cX11_copy 256 = .ok (.bastore, 1) := by decide +kernel
theorem dX11_copy_257 : decode cX11_copy 257 = .ok (.return_, 1) := by decide +kernel
theorem dX11_make_0 : decode cX11_make 0 = .ok (.aload_n 0, 1) := by decide +kernel
theorem dX11_make_1 : decode cX11_make 1 = .ok (.invokevirtual 257, 3) := by decide +kernel
theorem dX11_make_4 : decode cX11_make 4 = .ok (.ifCond .eq 10, 3) := by decide +kernel
theorem dX11_make_7 : decode cX11_make 7 = .ok (.aload_n 0, 1) := by decide +kernel
theorem dX11_make_8 : decode cX11_make 8 = .ok (.invokevirtual 260, 3) := by decide +kernel
theorem dX11_make_11 : decode cX11_make 11 = .ok (.goto 4, 3) := by decide +kernel
theorem dX11_make_14 : decode cX11_make 14 = .ok (.iconst (-1), 1) := by decide +kernel
theorem dX11_make_15 : decode cX11_make 15 = .ok (.ireturn, 1) := by decide +kernel
theorem dX11_isPiece_0 : decode cX11_isPiece 0 = .ok (.iload_n 1, 1) := by decide +kernel
theorem dX11_isPiece_1 : decode cX11_isPiece 1 = .ok (.iconst 0, 1) := by decide +kernel
theorem dX11_isPiece_2 : decode cX11_isPiece 2 = .ok (.aload_n 0, 1) := by decide +kernel
theorem dX11_isPiece_3 : decode cX11_isPiece 3 = .ok (.getfield 56, 3) := by decide +kernel
theorem dX11_isPiece_6 : decode cX11_isPiece 6 = .ok (.iconst 0, 1) := by decide +kernel
theorem dX11_isPiece_7 : decode cX11_isPiece 7 = .ok (.iaload, 1) := by decide +kernel
theorem dX11_isPiece_8 : decode cX11_isPiece 8 = .ok (.iconst 1, 1) := by decide +kernel
theorem dX11_isPiece_9 : decode cX11_isPiece 9 = .ok (.isub, 1) := by decide +kernel
theorem dX11_isPiece_10 : decode cX11_isPiece 10 = .ok (.invokestatic 130, 3) := by decide +kernel
theorem dX11_isPiece_13 : decode cX11_isPiece 13 = .ok (.ireturn, 1) := by decide +kernel
theorem dX11_shownLong_0 : decode cX11_shownLong 0 = .ok (.aload_n 0, 1) := by decide +kernel
theorem dX11_shownLong_1 : decode cX11_shownLong 1 = .ok (.getfield 89, 3) := by decide +kernel
theorem dX11_shownLong_4 : decode cX11_shownLong 4 = .ok (.iload_n 1, 1) := by decide +kernel
theorem dX11_shownLong_5 : decode cX11_shownLong 5 = .ok (.iaload, 1) := by decide +kernel
theorem dX11_shownLong_6 : decode cX11_shownLong 6 = .ok (.ifCond .lt 12, 3) := by decide +kernel
theorem dX11_shownLong_9 : decode cX11_shownLong 9 = .ok (.aload_n 0, 1) := by decide +kernel
theorem dX11_shownLong_10 : decode cX11_shownLong 10 = .ok (.getfield 89, 3) := by decide +kernel
theorem dX11_shownLong_13 : decode cX11_shownLong 13 = .ok (.iload_n 1, 1) := by decide +kernel
theorem dX11_shownLong_14 : decode cX11_shownLong 14 = .ok (.iaload, 1) := by decide +kernel
theorem dX11_shownLong_15 : decode cX11_shownLong 15 = .ok (.goto 9, 3) := by decide +kernel
theorem dX11_shownLong_18 : decode cX11_shownLong 18 = .ok (.aload_n 0, 1) := by decide +kernel
theorem dX11_shownLong_19 : decode cX11_shownLong 19 = .ok (.getfield 83, 3) := by decide +kernel
theorem dX11_shownLong_22 : decode cX11_shownLong 22 = .ok (.iload_n 1, 1) := by decide +kernel
theorem dX11_shownLong_23 : decode cX11_shownLong 23 = .ok (.iaload, 1) := by decide +kernel
theorem dX11_shownLong_24 : decode cX11_shownLong 24 = .ok (.ireturn, 1) := by decide +kernel
theorem dX11_shown_0 : decode cX11_shown 0 = .ok (.aload_n 0, 1) := by decide +kernel
theorem dX11_shown_1 : decode cX11_shown 1 = .ok (.getfield 89, 3) := by decide +kernel
theorem dX11_shown_4 : decode cX11_shown 4 = .ok (.iload_n 1, 1) := by decide +kernel
theorem dX11_shown_5 : decode cX11_shown 5 = .ok (.iaload, 1) := by decide +kernel
theorem dX11_shown_6 : decode cX11_shown 6 = .ok (.ifCond .lt 17, 3) := by decide +kernel
theorem dX11_shown_9 : decode cX11_shown 9 = .ok (.aload_n 0, 1) := by decide +kernel
theorem dX11_shown_10 : decode cX11_shown 10 = .ok (.getfield 92, 3) := by decide +kernel
theorem dX11_shown_13 : decode cX11_shown 13 = .ok (.bipush 60, 2) := by decide +kernel
theorem dX11_shown_15 : decode cX11_shown 15 = .ok (.iload_n 1, 1) := by decide +kernel
theorem dX11_shown_16 : decode cX11_shown 16 = .ok (.imul, 1) := by decide +kernel
theorem dX11_shown_17 : decode cX11_shown 17 = .ok (.iload_n 2, 1) := by decide +kernel
theorem dX11_shown_18 : decode cX11_shown 18 = .ok (.iadd, 1) := by decide +kernel
theorem dX11_shown_19 : decode cX11_shown 19 = .ok (.iaload, 1) := by decide +kernel
theorem dX11_shown_20 : decode cX11_shown 20 = .ok (.goto 31, 3) := by decide +kernel
theorem dX11_shown_23 : decode cX11_shown 23 = .ok (.aload_n 0, 1) := by decide +kernel
theorem dX11_shown_24 : decode cX11_shown 24 = .ok (.getfield 86, 3) := by decide +kernel
theorem dX11_shown_27 : decode cX11_shown 27 = .ok (.iload_n 1, 1) := by decide +kernel
theorem dX11_shown_28 : decode cX11_shown 28 = .ok (.sipush 250, 3) := by decide +kernel
theorem dX11_shown_31 : decode cX11_shown 31 = .ok (.if_icmp .ge 7, 3) := by decide +kernel
theorem dX11_shown_34 : decode cX11_shown 34 = .ok (.iconst 0, 1) := by decide +kernel
theorem dX11_shown_35 : decode cX11_shown 35 = .ok (.goto 6, 3) := by decide +kernel
theorem dX11_shown_38 : decode cX11_shown 38 = .ok (.sipush 3000, 3) := by decide +kernel
theorem dX11_shown_41 : decode cX11_shown 41 = .ok (.aload_n 0, 1) := by decide +kernel
theorem dX11_shown_42 : decode cX11_shown 42 = .ok (.getfield 80, 3) := by decide +kernel
theorem dX11_shown_45 : decode cX11_shown 45 = .ok (.iload_n 1, 1) := by decide +kernel
theorem dX11_shown_46 : decode cX11_shown 46 = .ok (.iaload, 1) := by decide +kernel
theorem dX11_shown_47 : decode cX11_shown 47 = .ok (.iadd, 1) := by decide +kernel
theorem dX11_shown_48 : decode cX11_shown 48 = .ok (.iload_n 2, 1) := by decide +kernel
theorem dX11_shown_49 : decode cX11_shown 49 = .ok (.iadd, 1) := by decide +kernel
theorem dX11_shown_50 : decode cX11_shown 50 = .ok (.iaload, 1) := by decide +kernel
theorem dX11_shown_51 : decode cX11_shown 51 = .ok (.ireturn, 1) := by decide +kernel
theorem dX11_piece_0 : decode cX11_piece 0 = .ok (.aload_n 0, 1) := by decide +kernel
theorem dX11_piece_1 : decode cX11_piece 1 = .ok (.iload_n 1, 1) := by decide +kernel
theorem dX11_piece_2 : decode cX11_piece 2 = .ok (.invokevirtual 263, 3) := by decide +kernel
theorem dX11_piece_5 : decode cX11_piece 5 = .ok (.ifCond .ne 5, 3) := by decide +kernel
theorem dX11_piece_8 : decode cX11_piece 8 = .ok (.iconst (-1), 1) := by decide +kernel
theorem dX11_piece_9 : decode cX11_piece 9 = .ok (.ireturn, 1) := by decide +kernel
theorem dX11_piece_10 : decode cX11_piece 10 = .ok (.iload_n 2, 1) := by decide +kernel
theorem dX11_piece_11 : decode cX11_piece 11 = .ok (.tableswitch 165 0 8 #[49, 94, 101, 108, 114, 121, 136, 151, 158], 49) := by decide +kernel
theorem dX11_piece_60 : decode cX11_piece 60 = .ok (.aload_n 0, 1) := by decide +kernel
theorem dX11_piece_61 : decode cX11_piece 61 = .ok (.getfield 7, 3) := by decide +kernel
theorem dX11_piece_64 : decode cX11_piece 64 = .ok (.aload_n 0, 1) := by decide +kernel
theorem dX11_piece_65 : decode cX11_piece 65 = .ok (.getfield 77, 3) := by decide +kernel
theorem dX11_piece_68 : decode cX11_piece 68 = .ok (.iload_n 1, 1) := by decide +kernel
theorem dX11_piece_69 : decode cX11_piece 69 = .ok (.iaload, 1) := by decide +kernel
theorem dX11_piece_70 : decode cX11_piece 70 = .ok (.iaload, 1) := by decide +kernel
theorem dX11_piece_71 : decode cX11_piece 71 = .ok (.aload_n 0, 1) := by decide +kernel
theorem dX11_piece_72 : decode cX11_piece 72 = .ok (.getfield 74, 3) := by decide +kernel
theorem dX11_piece_75 : decode cX11_piece 75 = .ok (.bipush 12, 2) := by decide +kernel
theorem dX11_piece_77 : decode cX11_piece 77 = .ok (.iload_n 1, 1) := by decide +kernel
theorem dX11_piece_78 : decode cX11_piece 78 = .ok (.imul, 1) := by decide +kernel
theorem dX11_piece_79 : decode cX11_piece 79 = .ok (.iconst 2, 1) := by decide +kernel
theorem dX11_piece_80 : decode cX11_piece 80 = .ok (.aload_n 0, 1) := by decide +kernel
theorem dX11_piece_81 : decode cX11_piece 81 = .ok (.getfield 71, 3) := by decide +kernel
theorem dX11_piece_84 : decode cX11_piece 84 = .ok (.iload_n 1, 1) := by decide +kernel
theorem dX11_piece_85 : decode cX11_piece 85 = .ok (.iaload, 1) := by decide +kernel
theorem dX11_piece_86 : decode cX11_piece 86 = .ok (.imul, 1) := by decide +kernel
theorem dX11_piece_87 : decode cX11_piece 87 = .ok (.iadd, 1) := by decide +kernel
theorem dX11_piece_88 : decode cX11_piece 88 = .ok (.iconst 2, 1) := by decide +kernel
theorem dX11_piece_89 : decode cX11_piece 89 = .ok (.isub, 1) := by decide +kernel
theorem dX11_piece_90 : decode cX11_piece 90 = .ok (.iaload, 1) := by decide +kernel
theorem dX11_piece_91 : decode cX11_piece 91 = .ok (.if_icmp .ne 12, 3) := by decide +kernel
theorem dX11_piece_94 : decode cX11_piece 94 = .ok (.aload_n 0, 1) := by decide +kernel
theorem dX11_piece_95 : decode cX11_piece 95 = .ok (.getfield 77, 3) := by decide +kernel
theorem dX11_piece_98 : decode cX11_piece 98 = .ok (.iload_n 1, 1) := by decide +kernel
theorem dX11_piece_99 : decode cX11_piece 99 = .ok (.iaload, 1) := by decide +kernel
theorem dX11_piece_100 : decode cX11_piece 100 = .ok (.goto 4, 3) := by decide +kernel
theorem dX11_piece_103 : decode cX11_piece 103 = .ok (.iconst (-1), 1) := by decide +kernel
theorem dX11_piece_104 : decode cX11_piece 104 = .ok (.ireturn, 1) := by decide +kernel
theorem dX11_piece_105 : decode cX11_piece 105 = .ok (.aload_n 0, 1) := by decide +kernel
theorem dX11_piece_106 : decode cX11_piece 106 = .ok (.getfield 59, 3) := by decide +kernel
theorem dX11_piece_109 : decode cX11_piece 109 = .ok (.iload_n 1, 1) := by decide +kernel
theorem dX11_piece_110 : decode cX11_piece 110 = .ok (.iaload, 1) := by decide +kernel
theorem dX11_piece_111 : decode cX11_piece 111 = .ok (.ireturn, 1) := by decide +kernel
theorem dX11_piece_112 : decode cX11_piece 112 = .ok (.aload_n 0, 1) := by decide +kernel
theorem dX11_piece_113 : decode cX11_piece 113 = .ok (.getfield 62, 3) := by decide +kernel
theorem dX11_piece_116 : decode cX11_piece 116 = .ok (.iload_n 1, 1) := by decide +kernel
theorem dX11_piece_117 : decode cX11_piece 117 = .ok (.iaload, 1) := by decide +kernel
theorem dX11_piece_118 : decode cX11_piece 118 = .ok (.ireturn, 1) := by decide +kernel
theorem dX11_piece_119 : decode cX11_piece 119 = .ok (.aload_n 0, 1) := by decide +kernel
theorem dX11_piece_120 : decode cX11_piece 120 = .ok (.iload_n 1, 1) := by decide +kernel
theorem dX11_piece_121 : decode cX11_piece 121 = .ok (.invokevirtual 266, 3) := by decide +kernel
theorem dX11_piece_124 : decode cX11_piece 124 = .ok (.ireturn, 1) := by decide +kernel
theorem dX11_piece_125 : decode cX11_piece 125 = .ok (.aload_n 0, 1) := by decide +kernel
theorem dX11_piece_126 : decode cX11_piece 126 = .ok (.getfield 83, 3) := by decide +kernel
theorem dX11_piece_129 : decode cX11_piece 129 = .ok (.iload_n 1, 1) := by decide +kernel
theorem dX11_piece_130 : decode cX11_piece 130 = .ok (.iaload, 1) := by decide +kernel
theorem dX11_piece_131 : decode cX11_piece 131 = .ok (.ireturn, 1) := by decide +kernel
theorem dX11_piece_132 : decode cX11_piece 132 = .ok (.aload_n 0, 1) := by decide +kernel
theorem dX11_piece_133 : decode cX11_piece 133 = .ok (.getfield 89, 3) := by decide +kernel
theorem dX11_piece_136 : decode cX11_piece 136 = .ok (.iload_n 1, 1) := by decide +kernel
theorem dX11_piece_137 : decode cX11_piece 137 = .ok (.iaload, 1) := by decide +kernel
theorem dX11_piece_138 : decode cX11_piece 138 = .ok (.ifCond .lt 7, 3) := by decide +kernel
theorem dX11_piece_141 : decode cX11_piece 141 = .ok (.iconst 1, 1) := by decide +kernel
theorem dX11_piece_142 : decode cX11_piece 142 = .ok (.goto 4, 3) := by decide +kernel
theorem dX11_piece_145 : decode cX11_piece 145 = .ok (.iconst 0, 1) := by decide +kernel
theorem dX11_piece_146 : decode cX11_piece 146 = .ok (.ireturn, 1) := by decide +kernel
theorem dX11_piece_147 : decode cX11_piece 147 = .ok (.aload_n 0, 1) := by decide +kernel
theorem dX11_piece_148 : decode cX11_piece 148 = .ok (.getfield 102, 3) := by decide +kernel
theorem dX11_piece_151 : decode cX11_piece 151 = .ok (.iload_n 1, 1) := by decide +kernel
theorem dX11_piece_152 : decode cX11_piece 152 = .ok (.baload, 1) := by decide +kernel
theorem dX11_piece_153 : decode cX11_piece 153 = .ok (.ifCond .eq 7, 3) := by decide +kernel
theorem dX11_piece_156 : decode cX11_piece 156 = .ok (.iconst 1, 1) := by decide +kernel
theorem dX11_piece_157 : decode cX11_piece 157 = .ok (.goto 4, 3) := by decide +kernel
theorem dX11_piece_160 : decode cX11_piece 160 = .ok (.iconst 0, 1) := by decide +kernel
theorem dX11_piece_161 : decode cX11_piece 161 = .ok (.ireturn, 1) := by decide +kernel
theorem dX11_piece_162 : decode cX11_piece 162 = .ok (.aload_n 0, 1) := by decide +kernel
theorem dX11_piece_163 : decode cX11_piece 163 = .ok (.getfield 71, 3) := by decide +kernel
theorem dX11_piece_166 : decode cX11_piece 166 = .ok (.iload_n 1, 1) := by decide +kernel
theorem dX11_piece_167 : decode cX11_piece 167 = .ok (.iaload, 1) := by decide +kernel
theorem dX11_piece_168 : decode cX11_piece 168 = .ok (.ireturn, 1) := by decide +kernel
theorem dX11_piece_169 : decode cX11_piece 169 = .ok (.aload_n 0, 1) := by decide +kernel
theorem dX11_piece_170 : decode cX11_piece 170 = .ok (.getfield 65, 3) := by decide +kernel
theorem dX11_piece_173 : decode cX11_piece 173 = .ok (.iload_n 1, 1) := by decide +kernel
theorem dX11_piece_174 : decode cX11_piece 174 = .ok (.iaload, 1) := by decide +kernel
theorem dX11_piece_175 : decode cX11_piece 175 = .ok (.ireturn, 1) := by decide +kernel
theorem dX11_piece_176 : decode cX11_piece 176 = .ok (.iconst (-1), 1) := by decide +kernel
theorem dX11_piece_177 : decode cX11_piece 177 = .ok (.ireturn, 1) := by decide +kernel
theorem dX11_byteOf_0 : decode cX11_byteOf 0 = .ok (.aload_n 0, 1) := by decide +kernel
theorem dX11_byteOf_1 : decode cX11_byteOf 1 = .ok (.iload_n 1, 1) := by decide +kernel
theorem dX11_byteOf_2 : decode cX11_byteOf 2 = .ok (.invokevirtual 263, 3) := by decide +kernel
theorem dX11_byteOf_5 : decode cX11_byteOf 5 = .ok (.ifCond .eq 7, 3) := by decide +kernel
theorem dX11_byteOf_8 : decode cX11_byteOf 8 = .ok (.iload_n 3, 1) := by decide +kernel
theorem dX11_byteOf_9 : decode cX11_byteOf 9 = .ok (.ifCond .ge 5, 3) := by decide +kernel
theorem dX11_byteOf_12 : decode cX11_byteOf 12 = .ok (.iconst (-1), 1) := by decide +kernel
theorem dX11_byteOf_13 : decode cX11_byteOf 13 = .ok (.ireturn, 1) := by decide +kernel
theorem dX11_byteOf_14 : decode cX11_byteOf 14 = .ok (.iload_n 2, 1) := by decide +kernel
theorem dX11_byteOf_15 : decode cX11_byteOf 15 = .ok (.ifCond .ne 23, 3) := by decide +kernel
theorem dX11_byteOf_18 : decode cX11_byteOf 18 = .ok (.iload_n 3, 1) := by decide +kernel
theorem dX11_byteOf_19 : decode cX11_byteOf 19 = .ok (.aload_n 0, 1) := by decide +kernel
theorem dX11_byteOf_20 : decode cX11_byteOf 20 = .ok (.iload_n 1, 1) := by decide +kernel
theorem dX11_byteOf_21 : decode cX11_byteOf 21 = .ok (.invokevirtual 266, 3) := by decide +kernel
theorem dX11_byteOf_24 : decode cX11_byteOf 24 = .ok (.if_icmp .ge 12, 3) := by decide +kernel
theorem dX11_byteOf_27 : decode cX11_byteOf 27 = .ok (.aload_n 0, 1) := by decide +kernel
theorem dX11_byteOf_28 : decode cX11_byteOf 28 = .ok (.iload_n 1, 1) := by decide +kernel
theorem dX11_byteOf_29 : decode cX11_byteOf 29 = .ok (.iload_n 3, 1) := by decide +kernel
theorem dX11_byteOf_30 : decode cX11_byteOf 30 = .ok (.invokevirtual 269, 3) := by decide +kernel
theorem dX11_byteOf_33 : decode cX11_byteOf 33 = .ok (.goto 4, 3) := by decide +kernel
theorem dX11_byteOf_36 : decode cX11_byteOf 36 = .ok (.iconst (-1), 1) := by decide +kernel
theorem dX11_byteOf_37 : decode cX11_byteOf 37 = .ok (.ireturn, 1) := by decide +kernel
theorem dX11_byteOf_38 : decode cX11_byteOf 38 = .ok (.iload_n 2, 1) := by decide +kernel
theorem dX11_byteOf_39 : decode cX11_byteOf 39 = .ok (.iconst 1, 1) := by decide +kernel
theorem dX11_byteOf_40 : decode cX11_byteOf 40 = .ok (.if_icmp .ne 31, 3) := by decide +kernel
theorem dX11_byteOf_43 : decode cX11_byteOf 43 = .ok (.iload_n 3, 1) := by decide +kernel
theorem dX11_byteOf_44 : decode cX11_byteOf 44 = .ok (.aload_n 0, 1) := by decide +kernel
theorem dX11_byteOf_45 : decode cX11_byteOf 45 = .ok (.getfield 83, 3) := by decide +kernel
theorem dX11_byteOf_48 : decode cX11_byteOf 48 = .ok (.iload_n 1, 1) := by decide +kernel
theorem dX11_byteOf_49 : decode cX11_byteOf 49 = .ok (.iaload, 1) := by decide +kernel
theorem dX11_byteOf_50 : decode cX11_byteOf 50 = .ok (.if_icmp .ge 19, 3) := by decide +kernel
theorem dX11_byteOf_53 : decode cX11_byteOf 53 = .ok (.aload_n 0, 1) := by decide +kernel
theorem dX11_byteOf_54 : decode cX11_byteOf 54 = .ok (.getfield 86, 3) := by decide +kernel
theorem dX11_byteOf_57 : decode cX11_byteOf 57 = .ok (.aload_n 0, 1) := by decide +kernel
theorem dX11_byteOf_58 : decode cX11_byteOf 58 = .ok (.getfield 80, 3) := by decide +kernel
theorem dX11_byteOf_61 : decode cX11_byteOf 61 = .ok (.iload_n 1, 1) := by decide +kernel
theorem dX11_byteOf_62 : decode cX11_byteOf 62 = .ok (.iaload, 1) := by decide +kernel
theorem dX11_byteOf_63 : decode cX11_byteOf 63 = .ok (.iload_n 3, 1) := by decide +kernel
theorem dX11_byteOf_64 : decode cX11_byteOf 64 = .ok (.iadd, 1) := by decide +kernel
theorem dX11_byteOf_65 : decode cX11_byteOf 65 = .ok (.iaload, 1) := by decide +kernel
theorem dX11_byteOf_66 : decode cX11_byteOf 66 = .ok (.goto 4, 3) := by decide +kernel
theorem dX11_byteOf_69 : decode cX11_byteOf 69 = .ok (.iconst (-1), 1) := by decide +kernel
theorem dX11_byteOf_70 : decode cX11_byteOf 70 = .ok (.ireturn, 1) := by decide +kernel
theorem dX11_byteOf_71 : decode cX11_byteOf 71 = .ok (.iload_n 2, 1) := by decide +kernel
theorem dX11_byteOf_72 : decode cX11_byteOf 72 = .ok (.iconst 2, 1) := by decide +kernel
theorem dX11_byteOf_73 : decode cX11_byteOf 73 = .ok (.if_icmp .ne 36, 3) := by decide +kernel
theorem dX11_byteOf_76 : decode cX11_byteOf 76 = .ok (.aload_n 0, 1) := by decide +kernel
theorem dX11_byteOf_77 : decode cX11_byteOf 77 = .ok (.getfield 89, 3) := by decide +kernel
theorem dX11_byteOf_80 : decode cX11_byteOf 80 = .ok (.iload_n 1, 1) := by decide +kernel
theorem dX11_byteOf_81 : decode cX11_byteOf 81 = .ok (.iaload, 1) := by decide +kernel
theorem dX11_byteOf_82 : decode cX11_byteOf 82 = .ok (.ifCond .lt 27, 3) := by decide +kernel
theorem dX11_byteOf_85 : decode cX11_byteOf 85 = .ok (.iload_n 3, 1) := by decide +kernel
theorem dX11_byteOf_86 : decode cX11_byteOf 86 = .ok (.aload_n 0, 1) := by decide +kernel
theorem dX11_byteOf_87 : decode cX11_byteOf 87 = .ok (.getfield 95, 3) := by decide +kernel
theorem dX11_byteOf_90 : decode cX11_byteOf 90 = .ok (.iload_n 1, 1) := by decide +kernel
theorem dX11_byteOf_91 : decode cX11_byteOf 91 = .ok (.iaload, 1) := by decide +kernel
theorem dX11_byteOf_92 : decode cX11_byteOf 92 = .ok (.if_icmp .ge 17, 3) := by decide +kernel
theorem dX11_byteOf_95 : decode cX11_byteOf 95 = .ok (.aload_n 0, 1) := by decide +kernel
theorem dX11_byteOf_96 : decode cX11_byteOf 96 = .ok (.getfield 99, 3) := by decide +kernel
theorem dX11_byteOf_99 : decode cX11_byteOf 99 = .ok (.bipush 120, 2) := by decide +kernel
theorem dX11_byteOf_101 : decode cX11_byteOf 101 = .ok (.iload_n 1, 1) := by decide +kernel
theorem dX11_byteOf_102 : decode cX11_byteOf 102 = .ok (.imul, 1) := by decide +kernel
theorem dX11_byteOf_103 : decode cX11_byteOf 103 = .ok (.iload_n 3, 1) := by decide +kernel
theorem dX11_byteOf_104 : decode cX11_byteOf 104 = .ok (.iadd, 1) := by decide +kernel
theorem dX11_byteOf_105 : decode cX11_byteOf 105 = .ok (.iaload, 1) := by decide +kernel
theorem dX11_byteOf_106 : decode cX11_byteOf 106 = .ok (.goto 4, 3) := by decide +kernel
theorem dX11_byteOf_109 : decode cX11_byteOf 109 = .ok (.iconst (-1), 1) := by decide +kernel
theorem dX11_byteOf_110 : decode cX11_byteOf 110 = .ok (.ireturn, 1) := by decide +kernel
theorem dX11_setBase_0 : decode cX11_setBase 0 = .ok (.aload_n 0, 1) := by decide +kernel
theorem dX11_setBase_1 : decode cX11_setBase 1 = .ok (.getfield 95, 3) := by decide +kernel
theorem dX11_setBase_4 : decode cX11_setBase 4 = .ok (.iload_n 1, 1) := by decide +kernel
theorem dX11_setBase_5 : decode cX11_setBase 5 = .ok (.aload_n 0, 1) := by decide +kernel
theorem dX11_setBase_6 : decode cX11_setBase 6 = .ok (.getfield 83, 3) := by decide +kernel
theorem dX11_setBase_9 : decode cX11_setBase 9 = .ok (.iload_n 1, 1) := by decide +kernel
theorem dX11_setBase_10 : decode cX11_setBase 10 = .ok (.iaload, 1) := by decide +kernel
theorem dX11_setBase_11 : decode cX11_setBase 11 = .ok (.iastore, 1) := by decide +kernel
theorem dX11_setBase_12 : decode cX11_setBase 12 = .ok (.iconst 0, 1) := by decide +kernel
theorem dX11_setBase_13 : decode cX11_setBase 13 = .ok (.istore_n 2, 1) := by decide +kernel
theorem dX11_setBase_14 : decode cX11_setBase 14 = .ok (.iload_n 2, 1) := by decide +kernel
theorem dX11_setBase_15 : decode cX11_setBase 15 = .ok (.aload_n 0, 1) := by decide +kernel
theorem dX11_setBase_16 : decode cX11_setBase 16 = .ok (.getfield 83, 3) := by decide +kernel
theorem dX11_setBase_19 : decode cX11_setBase 19 = .ok (.iload_n 1, 1) := by decide +kernel
theorem dX11_setBase_20 : decode cX11_setBase 20 = .ok (.iaload, 1) := by decide +kernel
theorem dX11_setBase_21 : decode cX11_setBase 21 = .ok (.if_icmp .ge 33, 3) := by decide +kernel
theorem dX11_setBase_24 : decode cX11_setBase 24 = .ok (.aload_n 0, 1) := by decide +kernel
theorem dX11_setBase_25 : decode cX11_setBase 25 = .ok (.getfield 99, 3) := by decide +kernel
theorem dX11_setBase_28 : decode cX11_setBase 28 = .ok (.bipush 120, 2) := by decide +kernel
theorem dX11_setBase_30 : decode cX11_setBase 30 = .ok (.iload_n 1, 1) := by decide +kernel
theorem dX11_setBase_31 : decode cX11_setBase 31 = .ok (.imul, 1) := by decide +kernel
theorem dX11_setBase_32 : decode cX11_setBase 32 = .ok (.iload_n 2, 1) := by decide +kernel
theorem dX11_setBase_33 : decode cX11_setBase 33 = .ok (.iadd, 1) := by decide +kernel
theorem dX11_setBase_34 : decode cX11_setBase 34 = .ok (.aload_n 0, 1) := by decide +kernel
theorem dX11_setBase_35 : decode cX11_setBase 35 = .ok (.getfield 86, 3) := by decide +kernel
theorem dX11_setBase_38 : decode cX11_setBase 38 = .ok (.aload_n 0, 1) := by decide +kernel
theorem dX11_setBase_39 : decode cX11_setBase 39 = .ok (.getfield 80, 3) := by decide +kernel
theorem dX11_setBase_42 : decode cX11_setBase 42 = .ok (.iload_n 1, 1) := by decide +kernel
theorem dX11_setBase_43 : decode cX11_setBase 43 = .ok (.iaload, 1) := by decide +kernel
theorem dX11_setBase_44 : decode cX11_setBase 44 = .ok (.iload_n 2, 1) := by decide +kernel
theorem dX11_setBase_45 : decode cX11_setBase 45 = .ok (.iadd, 1) := by decide +kernel
theorem dX11_setBase_46 : decode cX11_setBase 46 = .ok (.iaload, 1) := by decide +kernel
theorem dX11_setBase_47 : decode cX11_setBase 47 = .ok (.iastore, 1) := by decide +kernel
theorem dX11_setBase_48 : decode cX11_setBase 48 = .ok (.iinc 2 1, 3) := by decide +kernel
theorem dX11_setBase_51 : decode cX11_setBase 51 = .ok (.goto (-37), 3) := by decide +kernel
theorem dX11_setBase_54 : decode cX11_setBase 54 = .ok (.return_, 1) := by decide +kernel
theorem dX11_hand_0 : decode cX11_hand 0 = .ok (.aload_n 0, 1) := by decide +kernel
theorem dX11_hand_1 : decode cX11_hand 1 = .ok (.iload_n 1, 1) := by decide +kernel
theorem dX11_hand_2 : decode cX11_hand 2 = .ok (.invokevirtual 263, 3) := by decide +kernel
theorem dX11_hand_5 : decode cX11_hand 5 = .ok (.ifCond .eq 12, 3) := by decide +kernel
theorem dX11_hand_8 : decode cX11_hand 8 = .ok (.aload_n 0, 1) := by decide +kernel
theorem dX11_hand_9 : decode cX11_hand 9 = .ok (.getfield 134, 3) := by decide +kernel
theorem dX11_hand_12 : decode cX11_hand 12 = .ok (.bipush 60, 2) := by decide +kernel
theorem dX11_hand_14 : decode cX11_hand 14 = .ok (.if_icmp .le 5, 3) := by decide +kernel
theorem dX11_hand_17 : decode cX11_hand 17 = .ok (.iconst 0, 1) := by decide +kernel
theorem dX11_hand_18 : decode cX11_hand 18 = .ok (.ireturn, 1) := by decide +kernel
theorem dX11_hand_19 : decode cX11_hand 19 = .ok (.aload_n 0, 1) := by decide +kernel
theorem dX11_hand_20 : decode cX11_hand 20 = .ok (.getfield 89, 3) := by decide +kernel
theorem dX11_hand_23 : decode cX11_hand 23 = .ok (.iload_n 1, 1) := by decide +kernel
theorem dX11_hand_24 : decode cX11_hand 24 = .ok (.aload_n 0, 1) := by decide +kernel
theorem dX11_hand_25 : decode cX11_hand 25 = .ok (.iload_n 1, 1) := by decide +kernel
theorem dX11_hand_26 : decode cX11_hand 26 = .ok (.aload_n 0, 1) := by decide +kernel
theorem dX11_hand_27 : decode cX11_hand 27 = .ok (.getfield 53, 3) := by decide +kernel
theorem dX11_hand_30 : decode cX11_hand 30 = .ok (.iconst 0, 1) := by decide +kernel
theorem dX11_hand_31 : decode cX11_hand 31 = .ok (.aload_n 0, 1) := by decide +kernel
theorem dX11_hand_32 : decode cX11_hand 32 = .ok (.getfield 134, 3) := by decide +kernel
theorem dX11_hand_35 : decode cX11_hand 35 = .ok (.invokevirtual 229, 3) := by decide +kernel
theorem dX11_hand_38 : decode cX11_hand 38 = .ok (.ifCond .eq 7, 3) := by decide +kernel
theorem dX11_hand_41 : decode cX11_hand 41 = .ok (.iconst (-1), 1) := by decide +kernel
theorem dX11_hand_42 : decode cX11_hand 42 = .ok (.goto 7, 3) := by decide +kernel
theorem dX11_hand_45 : decode cX11_hand 45 = .ok (.aload_n 0, 1) := by decide +kernel
theorem dX11_hand_46 : decode cX11_hand 46 = .ok (.getfield 134, 3) := by decide +kernel
theorem dX11_hand_49 : decode cX11_hand 49 = .ok (.iastore, 1) := by decide +kernel
theorem dX11_hand_50 : decode cX11_hand 50 = .ok (.iconst 0, 1) := by decide +kernel
theorem dX11_hand_51 : decode cX11_hand 51 = .ok (.istore_n 2, 1) := by decide +kernel
theorem dX11_hand_52 : decode cX11_hand 52 = .ok (.iload_n 2, 1) := by decide +kernel
theorem dX11_hand_53 : decode cX11_hand 53 = .ok (.aload_n 0, 1) := by decide +kernel
theorem dX11_hand_54 : decode cX11_hand 54 = .ok (.getfield 134, 3) := by decide +kernel
theorem dX11_hand_57 : decode cX11_hand 57 = .ok (.if_icmp .ge 26, 3) := by decide +kernel
theorem dX11_hand_60 : decode cX11_hand 60 = .ok (.aload_n 0, 1) := by decide +kernel
theorem dX11_hand_61 : decode cX11_hand 61 = .ok (.getfield 92, 3) := by decide +kernel
theorem dX11_hand_64 : decode cX11_hand 64 = .ok (.bipush 60, 2) := by decide +kernel
theorem dX11_hand_66 : decode cX11_hand 66 = .ok (.iload_n 1, 1) := by decide +kernel
theorem dX11_hand_67 : decode cX11_hand 67 = .ok (.imul, 1) := by decide +kernel
theorem dX11_hand_68 : decode cX11_hand 68 = .ok (.iload_n 2, 1) := by decide +kernel
theorem dX11_hand_69 : decode cX11_hand 69 = .ok (.iadd, 1) := by decide +kernel
theorem dX11_hand_70 : decode cX11_hand 70 = .ok (.aload_n 0, 1) := by decide +kernel
theorem dX11_hand_71 : decode cX11_hand 71 = .ok (.getfield 53, 3) := by decide +kernel
theorem dX11_hand_74 : decode cX11_hand 74 = .ok (.iload_n 2, 1) := by decide +kernel
theorem dX11_hand_75 : decode cX11_hand 75 = .ok (.iaload, 1) := by decide +kernel
theorem dX11_hand_76 : decode cX11_hand 76 = .ok (.iastore, 1) := by decide +kernel
theorem dX11_hand_77 : decode cX11_hand 77 = .ok (.iinc 2 1, 3) := by decide +kernel
theorem dX11_hand_80 : decode cX11_hand 80 = .ok (.goto (-28), 3) := by decide +kernel
theorem dX11_hand_83 : decode cX11_hand 83 = .ok (.aload_n 0, 1) := by decide +kernel
theorem dX11_hand_84 : decode cX11_hand 84 = .ok (.iload_n 1, 1) := by decide +kernel
theorem dX11_hand_85 : decode cX11_hand 85 = .ok (.invokevirtual 272, 3) := by decide +kernel
theorem dX11_hand_88 : decode cX11_hand 88 = .ok (.aload_n 0, 1) := by decide +kernel
theorem dX11_hand_89 : decode cX11_hand 89 = .ok (.getfield 102, 3) := by decide +kernel
theorem dX11_hand_92 : decode cX11_hand 92 = .ok (.iload_n 1, 1) := by decide +kernel
theorem dX11_hand_93 : decode cX11_hand 93 = .ok (.iconst 0, 1) := by decide +kernel
theorem dX11_hand_94 : decode cX11_hand 94 = .ok (.bastore, 1) := by decide +kernel
theorem dX11_hand_95 : decode cX11_hand 95 = .ok (.aload_n 0, 1) := by decide +kernel
theorem dX11_hand_96 : decode cX11_hand 96 = .ok (.iconst 0, 1) := by decide +kernel
theorem dX11_hand_97 : decode cX11_hand 97 = .ok (.putfield 134, 3) := by decide +kernel
theorem dX11_hand_100 : decode cX11_hand 100 = .ok (.iconst 1, 1) := by decide +kernel
theorem dX11_hand_101 : decode cX11_hand 101 = .ok (.ireturn, 1) := by decide +kernel
theorem dX11_take_0 : decode cX11_take 0 = .ok (.aload_n 0, 1) := by decide +kernel
theorem dX11_take_1 : decode cX11_take 1 = .ok (.iload_n 1, 1) := by decide +kernel
theorem dX11_take_2 : decode cX11_take 2 = .ok (.invokevirtual 263, 3) := by decide +kernel
theorem dX11_take_5 : decode cX11_take 5 = .ok (.ifCond .eq 21, 3) := by decide +kernel
theorem dX11_take_8 : decode cX11_take 8 = .ok (.aload_n 0, 1) := by decide +kernel
theorem dX11_take_9 : decode cX11_take 9 = .ok (.getfield 102, 3) := by decide +kernel
theorem dX11_take_12 : decode cX11_take 12 = .ok (.iload_n 1, 1) := by decide +kernel
theorem dX11_take_13 : decode cX11_take 13 = .ok (.baload, 1) := by decide +kernel
theorem dX11_take_14 : decode cX11_take 14 = .ok (.ifCond .eq 12, 3) := by decide +kernel
theorem dX11_take_17 : decode cX11_take 17 = .ok (.iload_n 2, 1) := by decide +kernel
theorem dX11_take_18 : decode cX11_take 18 = .ok (.iconst 0, 1) := by decide +kernel
theorem dX11_take_19 : decode cX11_take 19 = .ok (.iconst 1, 1) := by decide +kernel
theorem dX11_take_20 : decode cX11_take 20 = .ok (.invokestatic 130, 3) := by decide +kernel
theorem dX11_take_23 : decode cX11_take 23 = .ok (.ifCond .ne 5, 3) := by decide +kernel
theorem dX11_take_26 : decode cX11_take 26 = .ok (.iconst 0, 1) := by decide +kernel
theorem dX11_take_27 : decode cX11_take 27 = .ok (.ireturn, 1) := by decide +kernel
theorem dX11_take_28 : decode cX11_take 28 = .ok (.iload_n 2, 1) := by decide +kernel
theorem dX11_take_29 : decode cX11_take 29 = .ok (.iconst 1, 1) := by decide +kernel
theorem dX11_take_30 : decode cX11_take 30 = .ok (.if_icmp .ne 10, 3) := by decide +kernel
theorem dX11_take_33 : decode cX11_take 33 = .ok (.aload_n 0, 1) := by decide +kernel
theorem dX11_take_34 : decode cX11_take 34 = .ok (.getfield 89, 3) := by decide +kernel
theorem dX11_take_37 : decode cX11_take 37 = .ok (.iload_n 1, 1) := by decide +kernel
theorem dX11_take_38 : decode cX11_take 38 = .ok (.iconst (-1), 1) := by decide +kernel
theorem dX11_take_39 : decode cX11_take 39 = .ok (.iastore, 1) := by decide +kernel
theorem dX11_take_40 : decode cX11_take 40 = .ok (.aload_n 0, 1) := by decide +kernel
theorem dX11_take_41 : decode cX11_take 41 = .ok (.iload_n 1, 1) := by decide +kernel
theorem dX11_take_42 : decode cX11_take 42 = .ok (.invokevirtual 272, 3) := by decide +kernel
theorem dX11_take_45 : decode cX11_take 45 = .ok (.aload_n 0, 1) := by decide +kernel
theorem dX11_take_46 : decode cX11_take 46 = .ok (.getfield 102, 3) := by decide +kernel
theorem dX11_take_49 : decode cX11_take 49 = .ok (.iload_n 1, 1) := by decide +kernel
theorem dX11_take_50 : decode cX11_take 50 = .ok (.iconst 0, 1) := by decide +kernel
theorem dX11_take_51 : decode cX11_take 51 = .ok (.bastore, 1) := by decide +kernel
theorem dX11_take_52 : decode cX11_take 52 = .ok (.iconst 1, 1) := by decide +kernel
theorem dX11_take_53 : decode cX11_take 53 = .ok (.ireturn, 1) := by decide +kernel
theorem dX11_numberOf_0 : decode cX11_numberOf 0 = .ok (.aload_n 0, 1) := by decide +kernel
theorem dX11_numberOf_1 : decode cX11_numberOf 1 = .ok (.getfield 89, 3) := by decide +kernel
theorem dX11_numberOf_4 : decode cX11_numberOf 4 = .ok (.iload_n 1, 1) := by decide +kernel
theorem dX11_numberOf_5 : decode cX11_numberOf 5 = .ok (.iaload, 1) := by decide +kernel
theorem dX11_numberOf_6 : decode cX11_numberOf 6 = .ok (.istore_n 2, 1) := by decide +kernel
theorem dX11_numberOf_7 : decode cX11_numberOf 7 = .ok (.iload_n 2, 1) := by decide +kernel
theorem dX11_numberOf_8 : decode cX11_numberOf 8 = .ok (.iconst 1, 1) := by decide +kernel
theorem dX11_numberOf_9 : decode cX11_numberOf 9 = .ok (.iconst 5, 1) := by decide +kernel
theorem dX11_numberOf_10 : decode cX11_numberOf 10 = .ok (.invokestatic 130, 3) := by decide +kernel
theorem dX11_numberOf_13 : decode cX11_numberOf 13 = .ok (.ifCond .eq 22, 3) := by decide +kernel
theorem dX11_numberOf_16 : decode cX11_numberOf 16 = .ok (.iload_n 2, 1) := by decide +kernel
theorem dX11_numberOf_17 : decode cX11_numberOf 17 = .ok (.iconst 1, 1) := by decide +kernel
theorem dX11_numberOf_18 : decode cX11_numberOf 18 = .ok (.if_icmp .le 19, 3) := by decide +kernel
theorem dX11_numberOf_21 : decode cX11_numberOf 21 = .ok (.aload_n 0, 1) := by decide +kernel
theorem dX11_numberOf_22 : decode cX11_numberOf 22 = .ok (.getfield 92, 3) := by decide +kernel
theorem dX11_numberOf_25 : decode cX11_numberOf 25 = .ok (.bipush 60, 2) := by decide +kernel
theorem dX11_numberOf_27 : decode cX11_numberOf 27 = .ok (.iload_n 1, 1) := by decide +kernel
theorem dX11_numberOf_28 : decode cX11_numberOf 28 = .ok (.imul, 1) := by decide +kernel
theorem dX11_numberOf_29 : decode cX11_numberOf 29 = .ok (.iaload, 1) := by decide +kernel
theorem dX11_numberOf_30 : decode cX11_numberOf 30 = .ok (.bipush 48, 2) := by decide +kernel
theorem dX11_numberOf_32 : decode cX11_numberOf 32 = .ok (.if_icmp .ne 5, 3) := by decide +kernel
theorem dX11_numberOf_35 : decode cX11_numberOf 35 = .ok (.iconst (-1), 1) := by decide +kernel
theorem dX11_numberOf_36 : decode cX11_numberOf 36 = .ok (.ireturn, 1) := by decide +kernel
theorem dX11_numberOf_37 : decode cX11_numberOf 37 = .ok (.iconst 0, 1) := by decide +kernel
theorem dX11_numberOf_38 : decode cX11_numberOf 38 = .ok (.istore_n 3, 1) := by decide +kernel
theorem dX11_numberOf_39 : decode cX11_numberOf 39 = .ok (.iconst 0, 1) := by decide +kernel
theorem dX11_numberOf_40 : decode cX11_numberOf 40 = .ok (.istore 4, 2) := by decide +kernel
theorem dX11_numberOf_42 : decode cX11_numberOf 42 = .ok (.iload 4, 2) := by decide +kernel
theorem dX11_numberOf_44 : decode cX11_numberOf 44 = .ok (.iload_n 2, 1) := by decide +kernel
theorem dX11_numberOf_45 : decode cX11_numberOf 45 = .ok (.if_icmp .ge 48, 3) := by decide +kernel
theorem dX11_numberOf_48 : decode cX11_numberOf 48 = .ok (.aload_n 0, 1) := by decide +kernel
theorem dX11_numberOf_49 : decode cX11_numberOf 49 = .ok (.getfield 92, 3) := by decide +kernel
theorem dX11_numberOf_52 : decode cX11_numberOf 52 = .ok (.bipush 60, 2) := by decide +kernel
theorem dX11_numberOf_54 : decode cX11_numberOf 54 = .ok (.iload_n 1, 1) := by decide +kernel
theorem dX11_numberOf_55 : decode cX11_numberOf 55 = .ok (.imul, 1) := by decide +kernel
theorem dX11_numberOf_56 : decode cX11_numberOf 56 = .ok (.iload 4, 2) := by decide +kernel
theorem dX11_numberOf_58 : decode cX11_numberOf 58 = .ok (.iadd, 1) := by decide +kernel
theorem dX11_numberOf_59 : decode cX11_numberOf 59 = .ok (.iaload, 1) := by decide +kernel
theorem dX11_numberOf_60 : decode cX11_numberOf 60 = .ok (.istore 5, 2) := by decide +kernel
theorem dX11_numberOf_62 : decode cX11_numberOf 62 = .ok (.iload 5, 2) := by decide +kernel
theorem dX11_numberOf_64 : decode cX11_numberOf 64 = .ok (.bipush 48, 2) := by decide +kernel
theorem dX11_numberOf_66 : decode cX11_numberOf 66 = .ok (.bipush 57, 2) := by decide +kernel
theorem dX11_numberOf_68 : decode cX11_numberOf 68 = .ok (.invokestatic 130, 3) := by decide +kernel
theorem dX11_numberOf_71 : decode cX11_numberOf 71 = .ok (.ifCond .ne 5, 3) := by decide +kernel
theorem dX11_numberOf_74 : decode cX11_numberOf 74 = .ok (.iconst (-1), 1) := by decide +kernel
theorem dX11_numberOf_75 : decode cX11_numberOf 75 = .ok (.ireturn, 1) := by decide +kernel
theorem dX11_numberOf_76 : decode cX11_numberOf 76 = .ok (.bipush 10, 2) := by decide +kernel
theorem dX11_numberOf_78 : decode cX11_numberOf 78 = .ok (.iload_n 3, 1) := by decide +kernel
theorem dX11_numberOf_79 : decode cX11_numberOf 79 = .ok (.imul, 1) := by decide +kernel
theorem dX11_numberOf_80 : decode cX11_numberOf 80 = .ok (.iload 5, 2) := by decide +kernel
theorem dX11_numberOf_82 : decode cX11_numberOf 82 = .ok (.iadd, 1) := by decide +kernel
theorem dX11_numberOf_83 : decode cX11_numberOf 83 = .ok (.bipush 48, 2) := by decide +kernel
theorem dX11_numberOf_85 : decode cX11_numberOf 85 = .ok (.isub, 1) := by decide +kernel
theorem dX11_numberOf_86 : decode cX11_numberOf 86 = .ok (.istore_n 3, 1) := by decide +kernel
theorem dX11_numberOf_87 : decode cX11_numberOf 87 = .ok (.iinc 4 1, 3) := by decide +kernel
theorem dX11_numberOf_90 : decode cX11_numberOf 90 = .ok (.goto (-48), 3) := by decide +kernel
theorem dX11_numberOf_93 : decode cX11_numberOf 93 = .ok (.iload_n 3, 1) := by decide +kernel
theorem dX11_numberOf_94 : decode cX11_numberOf 94 = .ok (.ireturn, 1) := by decide +kernel
theorem dX11_back_0 : decode cX11_back 0 = .ok (.aload_n 0, 1) := by decide +kernel
theorem dX11_back_1 : decode cX11_back 1 = .ok (.iload_n 1, 1) := by decide +kernel
theorem dX11_back_2 : decode cX11_back 2 = .ok (.invokevirtual 263, 3) := by decide +kernel
theorem dX11_back_5 : decode cX11_back 5 = .ok (.ifCond .eq 22, 3) := by decide +kernel
theorem dX11_back_8 : decode cX11_back 8 = .ok (.aload_n 0, 1) := by decide +kernel
theorem dX11_back_9 : decode cX11_back 9 = .ok (.getfield 62, 3) := by decide +kernel
theorem dX11_back_12 : decode cX11_back 12 = .ok (.iload_n 1, 1) := by decide +kernel
theorem dX11_back_13 : decode cX11_back 13 = .ok (.iaload, 1) := by decide +kernel
theorem dX11_back_14 : decode cX11_back 14 = .ok (.iconst 2, 1) := by decide +kernel
theorem dX11_back_15 : decode cX11_back 15 = .ok (.if_icmp .ne 12, 3) := by decide +kernel
theorem dX11_back_18 : decode cX11_back 18 = .ok (.aload_n 0, 1) := by decide +kernel
theorem dX11_back_19 : decode cX11_back 19 = .ok (.iload_n 1, 1) := by decide +kernel
theorem dX11_back_20 : decode cX11_back 20 = .ok (.iconst 0, 1) := by decide +kernel
theorem dX11_back_21 : decode cX11_back 21 = .ok (.invokevirtual 275, 3) := by decide +kernel
theorem dX11_back_24 : decode cX11_back 24 = .ok (.ifCond .ge 5, 3) := by decide +kernel
theorem dX11_back_27 : decode cX11_back 27 = .ok (.iconst (-1), 1) := by decide +kernel
theorem dX11_back_28 : decode cX11_back 28 = .ok (.ireturn, 1) := by decide +kernel
theorem dX11_back_29 : decode cX11_back 29 = .ok (.aload_n 0, 1) := by decide +kernel
theorem dX11_back_30 : decode cX11_back 30 = .ok (.iload_n 1, 1) := by decide +kernel
theorem dX11_back_31 : decode cX11_back 31 = .ok (.invokevirtual 278, 3) := by decide +kernel
theorem dX11_back_34 : decode cX11_back 34 = .ok (.istore_n 2, 1) := by decide +kernel
theorem dX11_back_35 : decode cX11_back 35 = .ok (.iload_n 2, 1) := by decide +kernel
theorem dX11_back_36 : decode cX11_back 36 = .ok (.ifCond .ge 5, 3) := by decide +kernel
theorem dX11_back_39 : decode cX11_back 39 = .ok (.iconst (-1), 1) := by decide +kernel
theorem dX11_back_40 : decode cX11_back 40 = .ok (.ireturn, 1) := by decide +kernel
theorem dX11_back_41 : decode cX11_back 41 = .ok (.aload_n 0, 1) := by decide +kernel
theorem dX11_back_42 : decode cX11_back 42 = .ok (.getfield 68, 3) := by decide +kernel
theorem dX11_back_45 : decode cX11_back 45 = .ok (.iload_n 1, 1) := by decide +kernel
theorem dX11_back_46 : decode cX11_back 46 = .ok (.iaload, 1) := by decide +kernel
theorem dX11_back_47 : decode cX11_back 47 = .ok (.istore_n 3, 1) := by decide +kernel
theorem dX11_back_48 : decode cX11_back 48 = .ok (.aload_n 0, 1) := by decide +kernel
theorem dX11_back_49 : decode cX11_back 49 = .ok (.getfield 77, 3) := by decide +kernel
theorem dX11_back_52 : decode cX11_back 52 = .ok (.iload_n 1, 1) := by decide +kernel
theorem dX11_back_53 : decode cX11_back 53 = .ok (.iaload, 1) := by decide +kernel
theorem dX11_back_54 : decode cX11_back 54 = .ok (.istore 4, 2) := by decide +kernel
theorem dX11_back_56 : decode cX11_back 56 = .ok (.aload_n 0, 1) := by decide +kernel
theorem dX11_back_57 : decode cX11_back 57 = .ok (.getfield 22, 3) := by decide +kernel
theorem dX11_back_60 : decode cX11_back 60 = .ok (.iconst 4, 1) := by decide +kernel
theorem dX11_back_61 : decode cX11_back 61 = .ok (.iload 4, 2) := by decide +kernel
theorem dX11_back_63 : decode cX11_back 63 = .ok (.imul, 1) := by decide +kernel
theorem dX11_back_64 : decode cX11_back 64 = .ok (.iload_n 3, 1) := by decide +kernel
theorem dX11_back_65 : decode cX11_back 65 = .ok (.iadd, 1) := by decide +kernel
theorem dX11_back_66 : decode cX11_back 66 = .ok (.iaload, 1) := by decide +kernel
theorem dX11_back_67 : decode cX11_back 67 = .ok (.istore 5, 2) := by decide +kernel
theorem dX11_back_69 : decode cX11_back 69 = .ok (.aload_n 0, 1) := by decide +kernel
theorem dX11_back_70 : decode cX11_back 70 = .ok (.getfield 22, 3) := by decide +kernel
theorem dX11_back_73 : decode cX11_back 73 = .ok (.iconst 4, 1) := by decide +kernel
theorem dX11_back_74 : decode cX11_back 74 = .ok (.iload 4, 2) := by decide +kernel
theorem dX11_back_76 : decode cX11_back 76 = .ok (.imul, 1) := by decide +kernel
theorem dX11_back_77 : decode cX11_back 77 = .ok (.iload_n 3, 1) := by decide +kernel
theorem dX11_back_78 : decode cX11_back 78 = .ok (.iadd, 1) := by decide +kernel
theorem dX11_back_79 : decode cX11_back 79 = .ok (.iload_n 2, 1) := by decide +kernel
theorem dX11_back_80 : decode cX11_back 80 = .ok (.iastore, 1) := by decide +kernel
theorem dX11_back_81 : decode cX11_back 81 = .ok (.aload_n 0, 1) := by decide +kernel
theorem dX11_back_82 : decode cX11_back 82 = .ok (.invokevirtual 257, 3) := by decide +kernel
theorem dX11_back_85 : decode cX11_back 85 = .ok (.ifCond .ne 18, 3) := by decide +kernel
theorem dX11_back_88 : decode cX11_back 88 = .ok (.aload_n 0, 1) := by decide +kernel
theorem dX11_back_89 : decode cX11_back 89 = .ok (.getfield 22, 3) := by decide +kernel
theorem dX11_back_92 : decode cX11_back 92 = .ok (.iconst 4, 1) := by decide +kernel
theorem dX11_back_93 : decode cX11_back 93 = .ok (.iload 4, 2) := by decide +kernel
theorem dX11_back_95 : decode cX11_back 95 = .ok (.imul, 1) := by decide +kernel
theorem dX11_back_96 : decode cX11_back 96 = .ok (.iload_n 3, 1) := by decide +kernel
theorem dX11_back_97 : decode cX11_back 97 = .ok (.iadd, 1) := by decide +kernel
theorem dX11_back_98 : decode cX11_back 98 = .ok (.iload 5, 2) := by decide +kernel
theorem dX11_back_100 : decode cX11_back 100 = .ok (.iastore, 1) := by decide +kernel
theorem dX11_back_101 : decode cX11_back 101 = .ok (.iconst (-1), 1) := by decide +kernel
theorem dX11_back_102 : decode cX11_back 102 = .ok (.ireturn, 1) := by decide +kernel
theorem dX11_back_103 : decode cX11_back 103 = .ok (.aload_n 0, 1) := by decide +kernel
theorem dX11_back_104 : decode cX11_back 104 = .ok (.getfield 89, 3) := by decide +kernel
theorem dX11_back_107 : decode cX11_back 107 = .ok (.iload_n 1, 1) := by decide +kernel
theorem dX11_back_108 : decode cX11_back 108 = .ok (.iconst (-1), 1) := by decide +kernel
theorem dX11_back_109 : decode cX11_back 109 = .ok (.iastore, 1) := by decide +kernel
theorem dX11_back_110 : decode cX11_back 110 = .ok (.aload_n 0, 1) := by decide +kernel
theorem dX11_back_111 : decode cX11_back 111 = .ok (.getfield 102, 3) := by decide +kernel
theorem dX11_back_114 : decode cX11_back 114 = .ok (.iload_n 1, 1) := by decide +kernel
theorem dX11_back_115 : decode cX11_back 115 = .ok (.iconst 0, 1) := by decide +kernel
theorem dX11_back_116 : decode cX11_back 116 = .ok (.bastore, 1) := by decide +kernel
theorem dX11_back_117 : decode cX11_back 117 = .ok (.aload_n 0, 1) := by decide +kernel
theorem dX11_back_118 : decode cX11_back 118 = .ok (.invokevirtual 260, 3) := by decide +kernel
theorem dX11_back_121 : decode cX11_back 121 = .ok (.ireturn, 1) := by decide +kernel
theorem dX11_touch_0 : decode cX11_touch 0 = .ok (.aload_n 0, 1) := by decide +kernel
theorem dX11_touch_1 : decode cX11_touch 1 = .ok (.iload_n 1, 1) := by decide +kernel
theorem dX11_touch_2 : decode cX11_touch 2 = .ok (.invokevirtual 145, 3) := by decide +kernel
theorem dX11_touch_5 : decode cX11_touch 5 = .ok (.ifCond .eq 32, 3) := by decide +kernel
theorem dX11_touch_8 : decode cX11_touch 8 = .ok (.iload_n 2, 1) := by decide +kernel
theorem dX11_touch_9 : decode cX11_touch 9 = .ok (.iconst 0, 1) := by decide +kernel
theorem dX11_touch_10 : decode cX11_touch 10 = .ok (.iconst 3, 1) := by decide +kernel
theorem dX11_touch_11 : decode cX11_touch 11 = .ok (.invokestatic 130, 3) := by decide +kernel
theorem dX11_touch_14 : decode cX11_touch 14 = .ok (.ifCond .eq 23, 3) := by decide +kernel
theorem dX11_touch_17 : decode cX11_touch 17 = .ok (.iload_n 3, 1) := by decide +kernel
theorem dX11_touch_18 : decode cX11_touch 18 = .ok (.iconst 0, 1) := by decide +kernel
theorem dX11_touch_19 : decode cX11_touch 19 = .ok (.ldc 165, 2) := by decide +kernel
theorem dX11_touch_21 : decode cX11_touch 21 = .ok (.invokestatic 130, 3) := by decide +kernel
theorem dX11_touch_24 : decode cX11_touch 24 = .ok (.ifCond .eq 13, 3) := by decide +kernel
theorem dX11_touch_27 : decode cX11_touch 27 = .ok (.iload 4, 2) := by decide +kernel
theorem dX11_touch_29 : decode cX11_touch 29 = .ok (.iconst 0, 1) := by decide +kernel
theorem dX11_touch_30 : decode cX11_touch 30 = .ok (.iconst 3, 1) := by decide +kernel
theorem dX11_touch_31 : decode cX11_touch 31 = .ok (.invokestatic 130, 3) := by decide +kernel
theorem dX11_touch_34 : decode cX11_touch 34 = .ok (.ifCond .ne 5, 3) := by decide +kernel
theorem dX11_touch_37 : decode cX11_touch 37 = .ok (.iconst (-1), 1) := by decide +kernel
theorem dX11_touch_38 : decode cX11_touch 38 = .ok (.ireturn, 1) := by decide +kernel
theorem dX11_touch_39 : decode cX11_touch 39 = .ok (.aload_n 0, 1) := by decide +kernel
theorem dX11_touch_40 : decode cX11_touch 40 = .ok (.getfield 22, 3) := by decide +kernel
theorem dX11_touch_43 : decode cX11_touch 43 = .ok (.iconst 4, 1) := by decide +kernel
theorem dX11_touch_44 : decode cX11_touch 44 = .ok (.iload_n 1, 1) := by decide +kernel
theorem dX11_touch_45 : decode cX11_touch 45 = .ok (.imul, 1) := by decide +kernel
theorem dX11_touch_46 : decode cX11_touch 46 = .ok (.iload_n 2, 1) := by decide +kernel
theorem dX11_touch_47 : decode cX11_touch 47 = .ok (.iadd, 1) := by decide +kernel
theorem dX11_touch_48 : decode cX11_touch 48 = .ok (.iaload, 1) := by decide +kernel
theorem dX11_touch_49 : decode cX11_touch 49 = .ok (.istore 5, 2) := by decide +kernel
theorem dX11_touch_51 : decode cX11_touch 51 = .ok (.aload_n 0, 1) := by decide +kernel
theorem dX11_touch_52 : decode cX11_touch 52 = .ok (.getfield 22, 3) := by decide +kernel
theorem dX11_touch_55 : decode cX11_touch 55 = .ok (.iconst 4, 1) := by decide +kernel
theorem dX11_touch_56 : decode cX11_touch 56 = .ok (.iload_n 1, 1) := by decide +kernel
theorem dX11_touch_57 : decode cX11_touch 57 = .ok (.imul, 1) := by decide +kernel
theorem dX11_touch_58 : decode cX11_touch 58 = .ok (.iload_n 2, 1) := by decide +kernel
theorem dX11_touch_59 : decode cX11_touch 59 = .ok (.iadd, 1) := by decide +kernel
theorem dX11_touch_60 : decode cX11_touch 60 = .ok (.iload_n 3, 1) := by decide +kernel
theorem dX11_touch_61 : decode cX11_touch 61 = .ok (.iastore, 1) := by decide +kernel
theorem dX11_touch_62 : decode cX11_touch 62 = .ok (.aload_n 0, 1) := by decide +kernel
theorem dX11_touch_63 : decode cX11_touch 63 = .ok (.invokevirtual 257, 3) := by decide +kernel
theorem dX11_touch_66 : decode cX11_touch 66 = .ok (.istore 6, 2) := by decide +kernel
theorem dX11_touch_68 : decode cX11_touch 68 = .ok (.aload_n 0, 1) := by decide +kernel
theorem dX11_touch_69 : decode cX11_touch 69 = .ok (.getfield 22, 3) := by decide +kernel
theorem dX11_touch_72 : decode cX11_touch 72 = .ok (.iconst 4, 1) := by decide +kernel
theorem dX11_touch_73 : decode cX11_touch 73 = .ok (.iload_n 1, 1) := by decide +kernel
theorem dX11_touch_74 : decode cX11_touch 74 = .ok (.imul, 1) := by decide +kernel
theorem dX11_touch_75 : decode cX11_touch 75 = .ok (.iload_n 2, 1) := by decide +kernel
theorem dX11_touch_76 : decode cX11_touch 76 = .ok (.iadd, 1) := by decide +kernel
theorem dX11_touch_77 : decode cX11_touch 77 = .ok (.iload 5, 2) := by decide +kernel
theorem dX11_touch_79 : decode cX11_touch 79 = .ok (.iastore, 1) := by decide +kernel
theorem dX11_touch_80 : decode cX11_touch 80 = .ok (.iload 6, 2) := by decide +kernel
theorem dX11_touch_82 : decode cX11_touch 82 = .ok (.ifCond .ne 5, 3) := by decide +kernel
theorem dX11_touch_85 : decode cX11_touch 85 = .ok (.iconst (-1), 1) := by decide +kernel
theorem dX11_touch_86 : decode cX11_touch 86 = .ok (.ireturn, 1) := by decide +kernel
theorem dX11_touch_87 : decode cX11_touch 87 = .ok (.aload_n 0, 1) := by decide +kernel
theorem dX11_touch_88 : decode cX11_touch 88 = .ok (.invokevirtual 248, 3) := by decide +kernel
theorem dX11_touch_91 : decode cX11_touch 91 = .ok (.istore 7, 2) := by decide +kernel
theorem dX11_touch_93 : decode cX11_touch 93 = .ok (.iload 4, 2) := by decide +kernel
theorem dX11_touch_95 : decode cX11_touch 95 = .ok (.iconst 2, 1) := by decide +kernel
theorem dX11_touch_96 : decode cX11_touch 96 = .ok (.if_icmp .ne 6, 3) := by decide +kernel
theorem dX11_touch_99 : decode cX11_touch 99 = .ok (.iload 7, 2) := by decide +kernel
theorem dX11_touch_101 : decode cX11_touch 101 = .ok (.ireturn, 1) := by decide +kernel
theorem dX11_touch_102 : decode cX11_touch 102 = .ok (.iload 4, 2) := by decide +kernel
theorem dX11_touch_104 : decode cX11_touch 104 = .ok (.iconst 3, 1) := by decide +kernel
theorem dX11_touch_105 : decode cX11_touch 105 = .ok (.if_icmp .ne 10, 3) := by decide +kernel
theorem dX11_touch_108 : decode cX11_touch 108 = .ok (.aload_n 0, 1) := by decide +kernel
theorem dX11_touch_109 : decode cX11_touch 109 = .ok (.getfield 56, 3) := by decide +kernel
theorem dX11_touch_112 : decode cX11_touch 112 = .ok (.iconst 1, 1) := by decide +kernel
theorem dX11_touch_113 : decode cX11_touch 113 = .ok (.iaload, 1) := by decide +kernel
theorem dX11_touch_114 : decode cX11_touch 114 = .ok (.ireturn, 1) := by decide +kernel
theorem dX11_touch_115 : decode cX11_touch 115 = .ok (.iconst 0, 1) := by decide +kernel
theorem dX11_touch_116 : decode cX11_touch 116 = .ok (.istore 8, 2) := by decide +kernel
theorem dX11_touch_118 : decode cX11_touch 118 = .ok (.aload_n 0, 1) := by decide +kernel
theorem dX11_touch_119 : decode cX11_touch 119 = .ok (.getfield 56, 3) := by decide +kernel
theorem dX11_touch_122 : decode cX11_touch 122 = .ok (.iconst 0, 1) := by decide +kernel
