theorem dX7_weigh_74 : decode cX7_weigh 74 = .ok (.iastore, 1) := by decide +kernel
theorem dX7_weigh_75 : decode cX7_weigh 75 = .ok (.lload_n 2, 1) := by decide +kernel
theorem dX7_weigh_76 : decode cX7_weigh 76 = .ok (.iload 4, 2) := by decide +kernel
theorem dX7_weigh_78 : decode cX7_weigh 78 = .ok (.lushr, 1) := by decide +kernel
theorem dX7_weigh_79 : decode cX7_weigh 79 = .ok (.lconst 1, 1) := by decide +kernel
theorem dX7_weigh_80 : decode cX7_weigh 80 = .ok (.land, 1) := by decide +kernel
theorem dX7_weigh_81 : decode cX7_weigh 81 = .ok (.lconst 1, 1) := by decide +kernel
theorem dX7_weigh_82 : decode cX7_weigh 82 = .ok (.lcmp, 1) := by decide +kernel
theorem dX7_weigh_83 : decode cX7_weigh 83 = .ok (.ifCond .ne 14, 3) := by decide +kernel
theorem dX7_weigh_86 : decode cX7_weigh 86 = .ok (.aload_n 0, 1) := by decide +kernel
theorem dX7_weigh_87 : decode cX7_weigh 87 = .ok (.getfield 9, 3) := by decide +kernel
theorem dX7_weigh_90 : decode cX7_weigh 90 = .ok (.iload 4, 2) := by decide +kernel
theorem dX7_weigh_92 : decode cX7_weigh 92 = .ok (.dup2, 1) := by decide +kernel
theorem dX7_weigh_93 : decode cX7_weigh 93 = .ok (.iaload, 1) := by decide +kernel
theorem dX7_weigh_94 : decode cX7_weigh 94 = .ok (.iconst 1, 1) := by decide +kernel
theorem dX7_weigh_95 : decode cX7_weigh 95 = .ok (.iadd, 1) := by decide +kernel
theorem dX7_weigh_96 : decode cX7_weigh 96 = .ok (.iastore, 1) := by decide +kernel
theorem dX7_weigh_97 : decode cX7_weigh 97 = .ok (.aload_n 0, 1) := by decide +kernel
theorem dX7_weigh_98 : decode cX7_weigh 98 = .ok (.getfield 15, 3) := by decide +kernel
theorem dX7_weigh_101 : decode cX7_weigh 101 = .ok (.iload 4, 2) := by decide +kernel
theorem dX7_weigh_103 : decode cX7_weigh 103 = .ok (.iload 5, 2) := by decide +kernel
theorem dX7_weigh_105 : decode cX7_weigh 105 = .ok (.iconst 3, 1) := by decide +kernel
theorem dX7_weigh_106 : decode cX7_weigh 106 = .ok (.if_icmp .ne 7, 3) := by decide +kernel
theorem dX7_weigh_109 : decode cX7_weigh 109 = .ok (.iconst 3, 1) := by decide +kernel
theorem dX7_weigh_110 : decode cX7_weigh 110 = .ok (.goto 4, 3) := by decide +kernel
theorem dX7_weigh_113 : decode cX7_weigh 113 = .ok (.iconst 0, 1) := by decide +kernel
theorem dX7_weigh_114 : decode cX7_weigh 114 = .ok (.iastore, 1) := by decide +kernel
theorem dX7_weigh_115 : decode cX7_weigh 115 = .ok (.iinc 4 1, 3) := by decide +kernel
theorem dX7_weigh_118 : decode cX7_weigh 118 = .ok (.goto (-98), 3) := by decide +kernel
theorem dX7_weigh_121 : decode cX7_weigh 121 = .ok (.iconst 0, 1) := by decide +kernel
theorem dX7_weigh_122 : decode cX7_weigh 122 = .ok (.istore 4, 2) := by decide +kernel
theorem dX7_weigh_124 : decode cX7_weigh 124 = .ok (.iload 4, 2) := by decide +kernel
theorem dX7_weigh_126 : decode cX7_weigh 126 = .ok (.aload_n 0, 1) := by decide +kernel
theorem dX7_weigh_127 : decode cX7_weigh 127 = .ok (.getfield 48, 3) := by decide +kernel
theorem dX7_weigh_130 : decode cX7_weigh 130 = .ok (.getfield 74, 3) := by decide +kernel
theorem dX7_weigh_133 : decode cX7_weigh 133 = .ok (.if_icmp .ge 75, 3) := by decide +kernel
theorem dX7_weigh_136 : decode cX7_weigh 136 = .ok (.aload_n 0, 1) := by decide +kernel
theorem dX7_weigh_137 : decode cX7_weigh 137 = .ok (.getfield 38, 3) := by decide +kernel
theorem dX7_weigh_140 : decode cX7_weigh 140 = .ok (.iload 4, 2) := by decide +kernel
theorem dX7_weigh_142 : decode cX7_weigh 142 = .ok (.ishr, 1) := by decide +kernel
theorem dX7_weigh_143 : decode cX7_weigh 143 = .ok (.iconst 1, 1) := by decide +kernel
theorem dX7_weigh_144 : decode cX7_weigh 144 = .ok (.iand, 1) := by decide +kernel
theorem dX7_weigh_145 : decode cX7_weigh 145 = .ok (.iconst 1, 1) := by decide +kernel
theorem dX7_weigh_146 : decode cX7_weigh 146 = .ok (.if_icmp .ne 56, 3) := by decide +kernel
theorem dX7_weigh_149 : decode cX7_weigh 149 = .ok (.aload_n 0, 1) := by decide +kernel
theorem dX7_weigh_150 : decode cX7_weigh 150 = .ok (.getfield 48, 3) := by decide +kernel
theorem dX7_weigh_153 : decode cX7_weigh 153 = .ok (.getfield 79, 3) := by decide +kernel
theorem dX7_weigh_156 : decode cX7_weigh 156 = .ok (.iload 4, 2) := by decide +kernel
theorem dX7_weigh_158 : decode cX7_weigh 158 = .ok (.iaload, 1) := by decide +kernel
theorem dX7_weigh_159 : decode cX7_weigh 159 = .ok (.iload_n 1, 1) := by decide +kernel
theorem dX7_weigh_160 : decode cX7_weigh 160 = .ok (.if_icmp .ne 42, 3) := by decide +kernel
theorem dX7_weigh_163 : decode cX7_weigh 163 = .ok (.aload_n 0, 1) := by decide +kernel
theorem dX7_weigh_164 : decode cX7_weigh 164 = .ok (.getfield 48, 3) := by decide +kernel
theorem dX7_weigh_167 : decode cX7_weigh 167 = .ok (.getfield 82, 3) := by decide +kernel
theorem dX7_weigh_170 : decode cX7_weigh 170 = .ok (.iload 4, 2) := by decide +kernel
theorem dX7_weigh_172 : decode cX7_weigh 172 = .ok (.iaload, 1) := by decide +kernel
theorem dX7_weigh_173 : decode cX7_weigh 173 = .ok (.aload_n 0, 1) := by decide +kernel
theorem dX7_weigh_174 : decode cX7_weigh 174 = .ok (.getfield 44, 3) := by decide +kernel
theorem dX7_weigh_177 : decode cX7_weigh 177 = .ok (.getfield 66, 3) := by decide +kernel
theorem dX7_weigh_180 : decode cX7_weigh 180 = .ok (.if_icmp .ge 22, 3) := by decide +kernel
theorem dX7_weigh_183 : decode cX7_weigh 183 = .ok (.aload_n 0, 1) := by decide +kernel
theorem dX7_weigh_184 : decode cX7_weigh 184 = .ok (.getfield 15, 3) := by decide +kernel
theorem dX7_weigh_187 : decode cX7_weigh 187 = .ok (.aload_n 0, 1) := by decide +kernel
theorem dX7_weigh_188 : decode cX7_weigh 188 = .ok (.getfield 48, 3) := by decide +kernel
theorem dX7_weigh_191 : decode cX7_weigh 191 = .ok (.getfield 82, 3) := by decide +kernel
theorem dX7_weigh_194 : decode cX7_weigh 194 = .ok (.iload 4, 2) := by decide +kernel
theorem dX7_weigh_196 : decode cX7_weigh 196 = .ok (.iaload, 1) := by decide +kernel
theorem dX7_weigh_197 : decode cX7_weigh 197 = .ok (.dup2, 1) := by decide +kernel
theorem dX7_weigh_198 : decode cX7_weigh 198 = .ok (.iaload, 1) := by decide +kernel
theorem dX7_weigh_199 : decode cX7_weigh 199 = .ok (.iconst 4, 1) := by decide +kernel
theorem dX7_weigh_200 : decode cX7_weigh 200 = .ok (.iadd, 1) := by decide +kernel
theorem dX7_weigh_201 : decode cX7_weigh 201 = .ok (.iastore, 1) := by decide +kernel
theorem dX7_weigh_202 : decode cX7_weigh 202 = .ok (.iinc 4 1, 3) := by decide +kernel
theorem dX7_weigh_205 : decode cX7_weigh 205 = .ok (.goto (-81), 3) := by decide +kernel
theorem dX7_weigh_208 : decode cX7_weigh 208 = .ok (.iconst 0, 1) := by decide +kernel
theorem dX7_weigh_209 : decode cX7_weigh 209 = .ok (.istore 4, 2) := by decide +kernel
theorem dX7_weigh_211 : decode cX7_weigh 211 = .ok (.iload 4, 2) := by decide +kernel
theorem dX7_weigh_213 : decode cX7_weigh 213 = .ok (.aload_n 0, 1) := by decide +kernel
theorem dX7_weigh_214 : decode cX7_weigh 214 = .ok (.getfield 52, 3) := by decide +kernel
theorem dX7_weigh_217 : decode cX7_weigh 217 = .ok (.getfield 74, 3) := by decide +kernel
theorem dX7_weigh_220 : decode cX7_weigh 220 = .ok (.if_icmp .ge 62, 3) := by decide +kernel
theorem dX7_weigh_223 : decode cX7_weigh 223 = .ok (.aload_n 0, 1) := by decide +kernel
theorem dX7_weigh_224 : decode cX7_weigh 224 = .ok (.getfield 52, 3) := by decide +kernel
theorem dX7_weigh_227 : decode cX7_weigh 227 = .ok (.getfield 79, 3) := by decide +kernel
theorem dX7_weigh_230 : decode cX7_weigh 230 = .ok (.iload 4, 2) := by decide +kernel
theorem dX7_weigh_232 : decode cX7_weigh 232 = .ok (.iaload, 1) := by decide +kernel
theorem dX7_weigh_233 : decode cX7_weigh 233 = .ok (.iload_n 1, 1) := by decide +kernel
theorem dX7_weigh_234 : decode cX7_weigh 234 = .ok (.if_icmp .ne 42, 3) := by decide +kernel
theorem dX7_weigh_237 : decode cX7_weigh 237 = .ok (.aload_n 0, 1) := by decide +kernel
theorem dX7_weigh_238 : decode cX7_weigh 238 = .ok (.getfield 52, 3) := by decide +kernel
theorem dX7_weigh_241 : decode cX7_weigh 241 = .ok (.getfield 82, 3) := by decide +kernel
theorem dX7_weigh_244 : decode cX7_weigh 244 = .ok (.iload 4, 2) := by decide +kernel
theorem dX7_weigh_246 : decode cX7_weigh 246 = .ok (.iaload, 1) := by decide +kernel
theorem dX7_weigh_247 : decode cX7_weigh 247 = .ok (.aload_n 0, 1) := by decide +kernel
theorem dX7_weigh_248 : decode cX7_weigh 248 = .ok (.getfield 44, 3) := by decide +kernel
theorem dX7_weigh_251 : decode cX7_weigh 251 = .ok (.getfield 66, 3) := by decide +kernel
theorem dX7_weigh_254 : decode cX7_weigh 254 = .ok (.if_icmp .ge 22, 3) := by decide +kernel
theorem dX7_weigh_257 : decode cX7_weigh 257 = .ok (.aload_n 0, 1) := by decide +kernel
theorem dX7_weigh_258 : decode cX7_weigh 258 = .ok (.getfield 9, 3) := by decide +kernel
theorem dX7_weigh_261 : decode cX7_weigh 261 = .ok (.aload_n 0, 1) := by decide +kernel
theorem dX7_weigh_262 : decode cX7_weigh 262 = .ok (.getfield 52, 3) := by decide +kernel
theorem dX7_weigh_265 : decode cX7_weigh 265 = .ok (.getfield 82, 3) := by decide +kernel
theorem dX7_weigh_268 : decode cX7_weigh 268 = .ok (.iload 4, 2) := by decide +kernel
theorem dX7_weigh_270 : decode cX7_weigh 270 = .ok (.iaload, 1) := by decide +kernel
theorem dX7_weigh_271 : decode cX7_weigh 271 = .ok (.dup2, 1) := by decide +kernel
theorem dX7_weigh_272 : decode cX7_weigh 272 = .ok (.iaload, 1) := by decide +kernel
theorem dX7_weigh_273 : decode cX7_weigh 273 = .ok (.iconst 5, 1) := by decide +kernel
theorem dX7_weigh_274 : decode cX7_weigh 274 = .ok (.isub, 1) := by decide +kernel
theorem dX7_weigh_275 : decode cX7_weigh 275 = .ok (.iastore, 1) := by decide +kernel
theorem dX7_weigh_276 : decode cX7_weigh 276 = .ok (.iinc 4 1, 3) := by decide +kernel
theorem dX7_weigh_279 : decode cX7_weigh 279 = .ok (.goto (-68), 3) := by decide +kernel
theorem dX7_weigh_282 : decode cX7_weigh 282 = .ok (.return_, 1) := by decide +kernel
theorem dX7_stroll_0 : decode cX7_stroll 0 = .ok (.aload_n 0, 1) := by decide +kernel
theorem dX7_stroll_1 : decode cX7_stroll 1 = .ok (.iload_n 1, 1) := by decide +kernel
theorem dX7_stroll_2 : decode cX7_stroll 2 = .ok (.invokevirtual 85, 3) := by decide +kernel
theorem dX7_stroll_5 : decode cX7_stroll 5 = .ok (.iload_n 1, 1) := by decide +kernel
theorem dX7_stroll_6 : decode cX7_stroll 6 = .ok (.aload_n 0, 1) := by decide +kernel
theorem dX7_stroll_7 : decode cX7_stroll 7 = .ok (.getfield 35, 3) := by decide +kernel
theorem dX7_stroll_10 : decode cX7_stroll 10 = .ok (.if_icmp .ge 10, 3) := by decide +kernel
theorem dX7_stroll_13 : decode cX7_stroll 13 = .ok (.aload_n 0, 1) := by decide +kernel
theorem dX7_stroll_14 : decode cX7_stroll 14 = .ok (.invokevirtual 88, 3) := by decide +kernel
theorem dX7_stroll_17 : decode cX7_stroll 17 = .ok (.goto 4, 3) := by decide +kernel
theorem dX7_stroll_20 : decode cX7_stroll 20 = .ok (.iconst (-1), 1) := by decide +kernel
theorem dX7_stroll_21 : decode cX7_stroll 21 = .ok (.istore_n 2, 1) := by decide +kernel
theorem dX7_stroll_22 : decode cX7_stroll 22 = .ok (.iconst (-1), 1) := by decide +kernel
theorem dX7_stroll_23 : decode cX7_stroll 23 = .ok (.istore_n 3, 1) := by decide +kernel
theorem dX7_stroll_24 : decode cX7_stroll 24 = .ok (.lconst 0, 1) := by decide +kernel
theorem dX7_stroll_25 : decode cX7_stroll 25 = .ok (.lstore 4, 2) := by decide +kernel
theorem dX7_stroll_27 : decode cX7_stroll 27 = .ok (.iconst 0, 1) := by decide +kernel
theorem dX7_stroll_28 : decode cX7_stroll 28 = .ok (.istore 6, 2) := by decide +kernel
theorem dX7_stroll_30 : decode cX7_stroll 30 = .ok (.iload 6, 2) := by decide +kernel
theorem dX7_stroll_32 : decode cX7_stroll 32 = .ok (.bipush 24, 2) := by decide +kernel
theorem dX7_stroll_34 : decode cX7_stroll 34 = .ok (.if_icmp .gt 123, 3) := by decide +kernel
theorem dX7_stroll_37 : decode cX7_stroll 37 = .ok (.aload_n 0, 1) := by decide +kernel
theorem dX7_stroll_38 : decode cX7_stroll 38 = .ok (.getfield 18, 3) := by decide +kernel
theorem dX7_stroll_41 : decode cX7_stroll 41 = .ok (.iload_n 1, 1) := by decide +kernel
theorem dX7_stroll_42 : decode cX7_stroll 42 = .ok (.bipush 25, 2) := by decide +kernel
theorem dX7_stroll_44 : decode cX7_stroll 44 = .ok (.imul, 1) := by decide +kernel
theorem dX7_stroll_45 : decode cX7_stroll 45 = .ok (.iload 6, 2) := by decide +kernel
theorem dX7_stroll_47 : decode cX7_stroll 47 = .ok (.iadd, 1) := by decide +kernel
theorem dX7_stroll_48 : decode cX7_stroll 48 = .ok (.iload_n 2, 1) := by decide +kernel
theorem dX7_stroll_49 : decode cX7_stroll 49 = .ok (.iastore, 1) := by decide +kernel
theorem dX7_stroll_50 : decode cX7_stroll 50 = .ok (.aload_n 0, 1) := by decide +kernel
theorem dX7_stroll_51 : decode cX7_stroll 51 = .ok (.getfield 21, 3) := by decide +kernel
theorem dX7_stroll_54 : decode cX7_stroll 54 = .ok (.iload_n 1, 1) := by decide +kernel
theorem dX7_stroll_55 : decode cX7_stroll 55 = .ok (.iload 6, 2) := by decide +kernel
theorem dX7_stroll_57 : decode cX7_stroll 57 = .ok (.iastore, 1) := by decide +kernel
theorem dX7_stroll_58 : decode cX7_stroll 58 = .ok (.iload_n 2, 1) := by decide +kernel
theorem dX7_stroll_59 : decode cX7_stroll 59 = .ok (.iconst (-1), 1) := by decide +kernel
theorem dX7_stroll_60 : decode cX7_stroll 60 = .ok (.if_icmp .ne 6, 3) := by decide +kernel
theorem dX7_stroll_63 : decode cX7_stroll 63 = .ok (.goto 94, 3) := by decide +kernel
theorem dX7_stroll_66 : decode cX7_stroll 66 = .ok (.lload 4, 2) := by decide +kernel
theorem dX7_stroll_68 : decode cX7_stroll 68 = .ok (.lconst 1, 1) := by decide +kernel
theorem dX7_stroll_69 : decode cX7_stroll 69 = .ok (.iload_n 2, 1) := by decide +kernel
theorem dX7_stroll_70 : decode cX7_stroll 70 = .ok (.lshl, 1) := by decide +kernel
theorem dX7_stroll_71 : decode cX7_stroll 71 = .ok (.lor, 1) := by decide +kernel
theorem dX7_stroll_72 : decode cX7_stroll 72 = .ok (.lstore 4, 2) := by decide +kernel
theorem dX7_stroll_74 : decode cX7_stroll 74 = .ok (.aload_n 0, 1) := by decide +kernel
theorem dX7_stroll_75 : decode cX7_stroll 75 = .ok (.getfield 28, 3) := by decide +kernel
theorem dX7_stroll_78 : decode cX7_stroll 78 = .ok (.iload_n 1, 1) := by decide +kernel
theorem dX7_stroll_79 : decode cX7_stroll 79 = .ok (.bipush 6, 2) := by decide +kernel
theorem dX7_stroll_81 : decode cX7_stroll 81 = .ok (.imul, 1) := by decide +kernel
theorem dX7_stroll_82 : decode cX7_stroll 82 = .ok (.aload_n 0, 1) := by decide +kernel
theorem dX7_stroll_83 : decode cX7_stroll 83 = .ok (.getfield 44, 3) := by decide +kernel
theorem dX7_stroll_86 : decode cX7_stroll 86 = .ok (.getfield 92, 3) := by decide +kernel
theorem dX7_stroll_89 : decode cX7_stroll 89 = .ok (.iload_n 2, 1) := by decide +kernel
theorem dX7_stroll_90 : decode cX7_stroll 90 = .ok (.iaload, 1) := by decide +kernel
theorem dX7_stroll_91 : decode cX7_stroll 91 = .ok (.iadd, 1) := by decide +kernel
theorem dX7_stroll_92 : decode cX7_stroll 92 = .ok (.aload_n 0, 1) := by decide +kernel
theorem dX7_stroll_93 : decode cX7_stroll 93 = .ok (.getfield 44, 3) := by decide +kernel
theorem dX7_stroll_96 : decode cX7_stroll 96 = .ok (.getfield 95, 3) := by decide +kernel
theorem dX7_stroll_99 : decode cX7_stroll 99 = .ok (.iload_n 2, 1) := by decide +kernel
theorem dX7_stroll_100 : decode cX7_stroll 100 = .ok (.iaload, 1) := by decide +kernel
theorem dX7_stroll_101 : decode cX7_stroll 101 = .ok (.iastore, 1) := by decide +kernel
theorem dX7_stroll_102 : decode cX7_stroll 102 = .ok (.aload_n 0, 1) := by decide +kernel
theorem dX7_stroll_103 : decode cX7_stroll 103 = .ok (.getfield 44, 3) := by decide +kernel
theorem dX7_stroll_106 : decode cX7_stroll 106 = .ok (.getfield 92, 3) := by decide +kernel
theorem dX7_stroll_109 : decode cX7_stroll 109 = .ok (.iload_n 2, 1) := by decide +kernel
theorem dX7_stroll_110 : decode cX7_stroll 110 = .ok (.iaload, 1) := by decide +kernel
theorem dX7_stroll_111 : decode cX7_stroll 111 = .ok (.aload_n 0, 1) := by decide +kernel
theorem dX7_stroll_112 : decode cX7_stroll 112 = .ok (.getfield 44, 3) := by decide +kernel
theorem dX7_stroll_115 : decode cX7_stroll 115 = .ok (.getfield 98, 3) := by decide +kernel
theorem dX7_stroll_118 : decode cX7_stroll 118 = .ok (.iconst 1, 1) := by decide +kernel
theorem dX7_stroll_119 : decode cX7_stroll 119 = .ok (.isub, 1) := by decide +kernel
theorem dX7_stroll_120 : decode cX7_stroll 120 = .ok (.if_icmp .ge 14, 3) := by decide +kernel
theorem dX7_stroll_123 : decode cX7_stroll 123 = .ok (.aload_n 0, 1) := by decide +kernel
theorem dX7_stroll_124 : decode cX7_stroll 124 = .ok (.iload_n 2, 1) := by decide +kernel
theorem dX7_stroll_125 : decode cX7_stroll 125 = .ok (.iload_n 3, 1) := by decide +kernel
theorem dX7_stroll_126 : decode cX7_stroll 126 = .ok (.lload 4, 2) := by decide +kernel
theorem dX7_stroll_128 : decode cX7_stroll 128 = .ok (.invokevirtual 101, 3) := by decide +kernel
theorem dX7_stroll_131 : decode cX7_stroll 131 = .ok (.goto 4, 3) := by decide +kernel
theorem dX7_stroll_134 : decode cX7_stroll 134 = .ok (.iconst (-1), 1) := by decide +kernel
theorem dX7_stroll_135 : decode cX7_stroll 135 = .ok (.istore 7, 2) := by decide +kernel
theorem dX7_stroll_137 : decode cX7_stroll 137 = .ok (.iload 7, 2) := by decide +kernel
theorem dX7_stroll_139 : decode cX7_stroll 139 = .ok (.iconst (-1), 1) := by decide +kernel
theorem dX7_stroll_140 : decode cX7_stroll 140 = .ok (.if_icmp .ne 6, 3) := by decide +kernel
theorem dX7_stroll_143 : decode cX7_stroll 143 = .ok (.goto 14, 3) := by decide +kernel
theorem dX7_stroll_146 : decode cX7_stroll 146 = .ok (.iload_n 2, 1) := by decide +kernel
theorem dX7_stroll_147 : decode cX7_stroll 147 = .ok (.istore_n 3, 1) := by decide +kernel
theorem dX7_stroll_148 : decode cX7_stroll 148 = .ok (.iload 7, 2) := by decide +kernel
theorem dX7_stroll_150 : decode cX7_stroll 150 = .ok (.istore_n 2, 1) := by decide +kernel
theorem dX7_stroll_151 : decode cX7_stroll 151 = .ok (.iinc 6 1, 3) := by decide +kernel
theorem dX7_stroll_154 : decode cX7_stroll 154 = .ok (.goto (-124), 3) := by decide +kernel
theorem dX7_stroll_157 : decode cX7_stroll 157 = .ok (.aload_n 0, 1) := by decide +kernel
theorem dX7_stroll_158 : decode cX7_stroll 158 = .ok (.getfield 24, 3) := by decide +kernel
theorem dX7_stroll_161 : decode cX7_stroll 161 = .ok (.iload_n 1, 1) := by decide +kernel
theorem dX7_stroll_162 : decode cX7_stroll 162 = .ok (.lload 4, 2) := by decide +kernel
theorem dX7_stroll_164 : decode cX7_stroll 164 = .ok (.lastore, 1) := by decide +kernel
theorem dX7_stroll_165 : decode cX7_stroll 165 = .ok (.return_, 1) := by decide +kernel
theorem dX7_inheritLine_0 : decode cX7_inheritLine 0 = .ok (.iconst 0, 1) := by decide +kernel
theorem dX7_inheritLine_1 : decode cX7_inheritLine 1 = .ok (.istore_n 2, 1) := by decide +kernel
theorem dX7_inheritLine_2 : decode cX7_inheritLine 2 = .ok (.iload_n 2, 1) := by decide +kernel
theorem dX7_inheritLine_3 : decode cX7_inheritLine 3 = .ok (.aload_n 0, 1) := by decide +kernel
theorem dX7_inheritLine_4 : decode cX7_inheritLine 4 = .ok (.getfield 44, 3) := by decide +kernel
theorem dX7_inheritLine_7 : decode cX7_inheritLine 7 = .ok (.getfield 98, 3) := by decide +kernel
theorem dX7_inheritLine_10 : decode cX7_inheritLine 10 = .ok (.if_icmp .ge 47, 3) := by decide +kernel
theorem dX7_inheritLine_13 : decode cX7_inheritLine 13 = .ok (.iload_n 1, 1) := by decide +kernel
theorem dX7_inheritLine_14 : decode cX7_inheritLine 14 = .ok (.bipush 6, 2) := by decide +kernel
theorem dX7_inheritLine_16 : decode cX7_inheritLine 16 = .ok (.imul, 1) := by decide +kernel
theorem dX7_inheritLine_17 : decode cX7_inheritLine 17 = .ok (.iload_n 2, 1) := by decide +kernel
theorem dX7_inheritLine_18 : decode cX7_inheritLine 18 = .ok (.iadd, 1) := by decide +kernel
theorem dX7_inheritLine_19 : decode cX7_inheritLine 19 = .ok (.istore_n 3, 1) := by decide +kernel
theorem dX7_inheritLine_20 : decode cX7_inheritLine 20 = .ok (.aload_n 0, 1) := by decide +kernel
theorem dX7_inheritLine_21 : decode cX7_inheritLine 21 = .ok (.getfield 28, 3) := by decide +kernel
theorem dX7_inheritLine_24 : decode cX7_inheritLine 24 = .ok (.iload_n 3, 1) := by decide +kernel
theorem dX7_inheritLine_25 : decode cX7_inheritLine 25 = .ok (.iload_n 1, 1) := by decide +kernel
theorem dX7_inheritLine_26 : decode cX7_inheritLine 26 = .ok (.ifCond .le 15, 3) := by decide +kernel
theorem dX7_inheritLine_29 : decode cX7_inheritLine 29 = .ok (.aload_n 0, 1) := by decide +kernel
theorem dX7_inheritLine_30 : decode cX7_inheritLine 30 = .ok (.getfield 28, 3) := by decide +kernel
theorem dX7_inheritLine_33 : decode cX7_inheritLine 33 = .ok (.iload_n 3, 1) := by decide +kernel
theorem dX7_inheritLine_34 : decode cX7_inheritLine 34 = .ok (.bipush 6, 2) := by decide +kernel
theorem dX7_inheritLine_36 : decode cX7_inheritLine 36 = .ok (.isub, 1) := by decide +kernel
theorem dX7_inheritLine_37 : decode cX7_inheritLine 37 = .ok (.iaload, 1) := by decide +kernel
theorem dX7_inheritLine_38 : decode cX7_inheritLine 38 = .ok (.goto 12, 3) := by decide +kernel
theorem dX7_inheritLine_41 : decode cX7_inheritLine 41 = .ok (.aload_n 0, 1) := by decide +kernel
theorem dX7_inheritLine_42 : decode cX7_inheritLine 42 = .ok (.getfield 44, 3) := by decide +kernel
theorem dX7_inheritLine_45 : decode cX7_inheritLine 45 = .ok (.getfield 105, 3) := by decide +kernel
theorem dX7_inheritLine_48 : decode cX7_inheritLine 48 = .ok (.iconst 2, 1) := by decide +kernel
theorem dX7_inheritLine_49 : decode cX7_inheritLine 49 = .ok (.idiv, 1) := by decide +kernel
theorem dX7_inheritLine_50 : decode cX7_inheritLine 50 = .ok (.iastore, 1) := by decide +kernel
theorem dX7_inheritLine_51 : decode cX7_inheritLine 51 = .ok (.iinc 2 1, 3) := by decide +kernel
theorem dX7_inheritLine_54 : decode cX7_inheritLine 54 = .ok (.goto (-52), 3) := by decide +kernel
theorem dX7_inheritLine_57 : decode cX7_inheritLine 57 = .ok (.return_, 1) := by decide +kernel
theorem dX7_choose_0 : decode cX7_choose 0 = .ok (.iconst (-1), 1) := by decide +kernel
theorem dX7_choose_1 : decode cX7_choose 1 = .ok (.istore 5, 2) := by decide +kernel
theorem dX7_choose_3 : decode cX7_choose 3 = .ok (.iconst 0, 1) := by decide +kernel
theorem dX7_choose_4 : decode cX7_choose 4 = .ok (.istore 6, 2) := by decide +kernel
theorem dX7_choose_6 : decode cX7_choose 6 = .ok (.iconst 0, 1) := by decide +kernel
theorem dX7_choose_7 : decode cX7_choose 7 = .ok (.istore 7, 2) := by decide +kernel
theorem dX7_choose_9 : decode cX7_choose 9 = .ok (.iload 7, 2) := by decide +kernel
theorem dX7_choose_11 : decode cX7_choose 11 = .ok (.aload_n 0, 1) := by decide +kernel
theorem dX7_choose_12 : decode cX7_choose 12 = .ok (.getfield 44, 3) := by decide +kernel
theorem dX7_choose_15 : decode cX7_choose 15 = .ok (.getfield 108, 3) := by decide +kernel
theorem dX7_choose_18 : decode cX7_choose 18 = .ok (.iload_n 1, 1) := by decide +kernel
theorem dX7_choose_19 : decode cX7_choose 19 = .ok (.iaload, 1) := by decide +kernel
theorem dX7_choose_20 : decode cX7_choose 20 = .ok (.if_icmp .ge 90, 3) := by decide +kernel
theorem dX7_choose_23 : decode cX7_choose 23 = .ok (.aload_n 0, 1) := by decide +kernel
theorem dX7_choose_24 : decode cX7_choose 24 = .ok (.getfield 44, 3) := by decide +kernel
theorem dX7_choose_27 : decode cX7_choose 27 = .ok (.getfield 111, 3) := by decide +kernel
theorem dX7_choose_30 : decode cX7_choose 30 = .ok (.iload_n 1, 1) := by decide +kernel
theorem dX7_choose_31 : decode cX7_choose 31 = .ok (.iconst 4, 1) := by decide +kernel
theorem dX7_choose_32 : decode cX7_choose 32 = .ok (.imul, 1) := by decide +kernel
theorem dX7_choose_33 : decode cX7_choose 33 = .ok (.iload 7, 2) := by decide +kernel
theorem dX7_choose_35 : decode cX7_choose 35 = .ok (.iadd, 1) := by decide +kernel
theorem dX7_choose_36 : decode cX7_choose 36 = .ok (.iaload, 1) := by decide +kernel
theorem dX7_choose_37 : decode cX7_choose 37 = .ok (.istore 8, 2) := by decide +kernel
theorem dX7_choose_39 : decode cX7_choose 39 = .ok (.lload_n 3, 1) := by decide +kernel
theorem dX7_choose_40 : decode cX7_choose 40 = .ok (.iload 8, 2) := by decide +kernel
theorem dX7_choose_42 : decode cX7_choose 42 = .ok (.lushr, 1) := by decide +kernel
theorem dX7_choose_43 : decode cX7_choose 43 = .ok (.lconst 1, 1) := by decide +kernel
theorem dX7_choose_44 : decode cX7_choose 44 = .ok (.land, 1) := by decide +kernel
theorem dX7_choose_45 : decode cX7_choose 45 = .ok (.lconst 1, 1) := by decide +kernel
theorem dX7_choose_46 : decode cX7_choose 46 = .ok (.lcmp, 1) := by decide +kernel
theorem dX7_choose_47 : decode cX7_choose 47 = .ok (.ifCond .ne 13, 3) := by decide +kernel
theorem dX7_choose_50 : decode cX7_choose 50 = .ok (.aload_n 0, 1) := by decide +kernel
theorem dX7_choose_51 : decode cX7_choose 51 = .ok (.getfield 9, 3) := by decide +kernel
theorem dX7_choose_54 : decode cX7_choose 54 = .ok (.iload 8, 2) := by decide +kernel
theorem dX7_choose_56 : decode cX7_choose 56 = .ok (.iaload, 1) := by decide +kernel
theorem dX7_choose_57 : decode cX7_choose 57 = .ok (.goto 18, 3) := by decide +kernel
theorem dX7_choose_60 : decode cX7_choose 60 = .ok (.aload_n 0, 1) := by decide +kernel
theorem dX7_choose_61 : decode cX7_choose 61 = .ok (.getfield 9, 3) := by decide +kernel
theorem dX7_choose_64 : decode cX7_choose 64 = .ok (.iload 8, 2) := by decide +kernel
theorem dX7_choose_66 : decode cX7_choose 66 = .ok (.iaload, 1) := by decide +kernel
theorem dX7_choose_67 : decode cX7_choose 67 = .ok (.aload_n 0, 1) := by decide +kernel
theorem dX7_choose_68 : decode cX7_choose 68 = .ok (.getfield 15, 3) := by decide +kernel
theorem dX7_choose_71 : decode cX7_choose 71 = .ok (.iload 8, 2) := by decide +kernel
theorem dX7_choose_73 : decode cX7_choose 73 = .ok (.iaload, 1) := by decide +kernel
theorem dX7_choose_74 : decode cX7_choose 74 = .ok (.iadd, 1) := by decide +kernel
theorem dX7_choose_75 : decode cX7_choose 75 = .ok (.istore 9, 2) := by decide +kernel
theorem dX7_choose_77 : decode cX7_choose 77 = .ok (.iload 8, 2) := by decide +kernel
theorem dX7_choose_79 : decode cX7_choose 79 = .ok (.iload_n 2, 1) := by decide +kernel
theorem dX7_choose_80 : decode cX7_choose 80 = .ok (.if_icmp .eq 24, 3) := by decide +kernel
theorem dX7_choose_83 : decode cX7_choose 83 = .ok (.iload 5, 2) := by decide +kernel
theorem dX7_choose_85 : decode cX7_choose 85 = .ok (.iconst (-1), 1) := by decide +kernel
theorem dX7_choose_86 : decode cX7_choose 86 = .ok (.if_icmp .eq 10, 3) := by decide +kernel
theorem dX7_choose_89 : decode cX7_choose 89 = .ok (.iload 9, 2) := by decide +kernel
theorem dX7_choose_91 : decode cX7_choose 91 = .ok (.iload 6, 2) := by decide +kernel
theorem dX7_choose_93 : decode cX7_choose 93 = .ok (.if_icmp .le 11, 3) := by decide +kernel
theorem dX7_choose_96 : decode cX7_choose 96 = .ok (.iload 8, 2) := by decide +kernel
theorem dX7_choose_98 : decode cX7_choose 98 = .ok (.istore 5, 2) := by decide +kernel
theorem dX7_choose_100 : decode cX7_choose 100 = .ok (.iload 9, 2) := by decide +kernel
theorem dX7_choose_102 : decode cX7_choose 102 = .ok (.istore 6, 2) := by decide +kernel
theorem dX7_choose_104 : decode cX7_choose 104 = .ok (.iinc 7 1, 3) := by decide +kernel
theorem dX7_choose_107 : decode cX7_choose 107 = .ok (.goto (-98), 3) := by decide +kernel
theorem dX7_choose_110 : decode cX7_choose 110 = .ok (.iload 5, 2) := by decide +kernel
theorem dX7_choose_112 : decode cX7_choose 112 = .ok (.iconst (-1), 1) := by decide +kernel
theorem dX7_choose_113 : decode cX7_choose 113 = .ok (.if_icmp .ne 7, 3) := by decide +kernel
theorem dX7_choose_116 : decode cX7_choose 116 = .ok (.iload_n 2, 1) := by decide +kernel
theorem dX7_choose_117 : decode cX7_choose 117 = .ok (.goto 5, 3) := by decide +kernel
theorem dX7_choose_120 : decode cX7_choose 120 = .ok (.iload 5, 2) := by decide +kernel
theorem dX7_choose_122 : decode cX7_choose 122 = .ok (.ireturn, 1) := by decide +kernel
theorem dX7_firstCell_0 : decode cX7_firstCell 0 = .ok (.aload_n 0, 1) := by decide +kernel
theorem dX7_firstCell_1 : decode cX7_firstCell 1 = .ok (.getfield 31, 3) := by decide +kernel
theorem dX7_firstCell_4 : decode cX7_firstCell 4 = .ok (.aload_n 0, 1) := by decide +kernel
theorem dX7_firstCell_5 : decode cX7_firstCell 5 = .ok (.getfield 44, 3) := by decide +kernel
theorem dX7_firstCell_8 : decode cX7_firstCell 8 = .ok (.getfield 105, 3) := by decide +kernel
theorem dX7_firstCell_11 : decode cX7_firstCell 11 = .ok (.if_icmp .lt 5, 3) := by decide +kernel
theorem dX7_firstCell_14 : decode cX7_firstCell 14 = .ok (.iconst (-1), 1) := by decide +kernel
theorem dX7_firstCell_15 : decode cX7_firstCell 15 = .ok (.ireturn, 1) := by decide +kernel
theorem dX7_firstCell_16 : decode cX7_firstCell 16 = .ok (.aload_n 0, 1) := by decide +kernel
theorem dX7_firstCell_17 : decode cX7_firstCell 17 = .ok (.getfield 31, 3) := by decide +kernel
theorem dX7_firstCell_20 : decode cX7_firstCell 20 = .ok (.aload_n 0, 1) := by decide +kernel
theorem dX7_firstCell_21 : decode cX7_firstCell 21 = .ok (.getfield 44, 3) := by decide +kernel
theorem dX7_firstCell_24 : decode cX7_firstCell 24 = .ok (.getfield 98, 3) := by decide +kernel
theorem dX7_firstCell_27 : decode cX7_firstCell 27 = .ok (.imul, 1) := by decide +kernel
theorem dX7_firstCell_28 : decode cX7_firstCell 28 = .ok (.istore_n 1, 1) := by decide +kernel
theorem dX7_firstCell_29 : decode cX7_firstCell 29 = .ok (.aload_n 0, 1) := by decide +kernel
theorem dX7_firstCell_30 : decode cX7_firstCell 30 = .ok (.getfield 44, 3) := by decide +kernel
theorem dX7_firstCell_33 : decode cX7_firstCell 33 = .ok (.getfield 71, 3) := by decide +kernel
theorem dX7_firstCell_36 : decode cX7_firstCell 36 = .ok (.iload_n 1, 1) := by decide +kernel
theorem dX7_firstCell_37 : decode cX7_firstCell 37 = .ok (.iaload, 1) := by decide +kernel
theorem dX7_firstCell_38 : decode cX7_firstCell 38 = .ok (.iconst 1, 1) := by decide +kernel
theorem dX7_firstCell_39 : decode cX7_firstCell 39 = .ok (.if_icmp .ne 7, 3) := by decide +kernel
theorem dX7_firstCell_42 : decode cX7_firstCell 42 = .ok (.iconst (-1), 1) := by decide +kernel
theorem dX7_firstCell_43 : decode cX7_firstCell 43 = .ok (.goto 4, 3) := by decide +kernel
theorem dX7_firstCell_46 : decode cX7_firstCell 46 = .ok (.iload_n 1, 1) := by decide +kernel
theorem dX7_firstCell_47 : decode cX7_firstCell 47 = .ok (.ireturn, 1) := by decide +kernel
theorem dX7_trackAt_0 : decode cX7_trackAt 0 = .ok (.aload_n 0, 1) := by decide +kernel
theorem dX7_trackAt_1 : decode cX7_trackAt 1 = .ok (.getfield 18, 3) := by decide +kernel
theorem dX7_trackAt_4 : decode cX7_trackAt 4 = .ok (.iload_n 1, 1) := by decide +kernel
theorem dX7_trackAt_5 : decode cX7_trackAt 5 = .ok (.bipush 25, 2) := by decide +kernel
theorem dX7_trackAt_7 : decode cX7_trackAt 7 = .ok (.imul, 1) := by decide +kernel
theorem dX7_trackAt_8 : decode cX7_trackAt 8 = .ok (.iload_n 2, 1) := by decide +kernel
theorem dX7_trackAt_9 : decode cX7_trackAt 9 = .ok (.aload_n 0, 1) := by decide +kernel
theorem dX7_trackAt_10 : decode cX7_trackAt 10 = .ok (.getfield 21, 3) := by decide +kernel
theorem dX7_trackAt_13 : decode cX7_trackAt 13 = .ok (.iload_n 1, 1) := by decide +kernel
theorem dX7_trackAt_14 : decode cX7_trackAt 14 = .ok (.iaload, 1) := by decide +kernel
theorem dX7_trackAt_15 : decode cX7_trackAt 15 = .ok (.invokestatic 114, 3) := by decide +kernel
theorem dX7_trackAt_18 : decode cX7_trackAt 18 = .ok (.iadd, 1) := by decide +kernel
theorem dX7_trackAt_19 : decode cX7_trackAt 19 = .ok (.iaload, 1) := by decide +kernel
theorem dX7_trackAt_20 : decode cX7_trackAt 20 = .ok (.ireturn, 1) := by decide +kernel
theorem dX7_realmOf_0 : decode cX7_realmOf 0 = .ok (.iload_n 2, 1) := by decide +kernel
theorem dX7_realmOf_1 : decode cX7_realmOf 1 = .ok (.aload_n 0, 1) := by decide +kernel
theorem dX7_realmOf_2 : decode cX7_realmOf 2 = .ok (.getfield 44, 3) := by decide +kernel
theorem dX7_realmOf_5 : decode cX7_realmOf 5 = .ok (.getfield 66, 3) := by decide +kernel
theorem dX7_realmOf_8 : decode cX7_realmOf 8 = .ok (.if_icmp .lt 5, 3) := by decide +kernel
theorem dX7_realmOf_11 : decode cX7_realmOf 11 = .ok (.iconst (-1), 1) := by decide +kernel
theorem dX7_realmOf_12 : decode cX7_realmOf 12 = .ok (.ireturn, 1) := by decide +kernel
theorem dX7_realmOf_13 : decode cX7_realmOf 13 = .ok (.aload_n 0, 1) := by decide +kernel
theorem dX7_realmOf_14 : decode cX7_realmOf 14 = .ok (.getfield 44, 3) := by decide +kernel
theorem dX7_realmOf_17 : decode cX7_realmOf 17 = .ok (.getfield 95, 3) := by decide +kernel
theorem dX7_realmOf_20 : decode cX7_realmOf 20 = .ok (.iload_n 2, 1) := by decide +kernel
theorem dX7_realmOf_21 : decode cX7_realmOf 21 = .ok (.iaload, 1) := by decide +kernel
theorem dX7_realmOf_22 : decode cX7_realmOf 22 = .ok (.istore_n 3, 1) := by decide +kernel
theorem dX7_realmOf_23 : decode cX7_realmOf 23 = .ok (.aload_n 0, 1) := by decide +kernel
theorem dX7_realmOf_24 : decode cX7_realmOf 24 = .ok (.getfield 28, 3) := by decide +kernel
theorem dX7_realmOf_27 : decode cX7_realmOf 27 = .ok (.iload_n 1, 1) := by decide +kernel
theorem dX7_realmOf_28 : decode cX7_realmOf 28 = .ok (.bipush 6, 2) := by decide +kernel
theorem dX7_realmOf_30 : decode cX7_realmOf 30 = .ok (.imul, 1) := by decide +kernel
theorem dX7_realmOf_31 : decode cX7_realmOf 31 = .ok (.aload_n 0, 1) := by decide +kernel
theorem dX7_realmOf_32 : decode cX7_realmOf 32 = .ok (.getfield 44, 3) := by decide +kernel
theorem dX7_realmOf_35 : decode cX7_realmOf 35 = .ok (.getfield 92, 3) := by decide +kernel
theorem dX7_realmOf_38 : decode cX7_realmOf 38 = .ok (.iload_n 2, 1) := by decide +kernel
theorem dX7_realmOf_39 : decode cX7_realmOf 39 = .ok (.iaload, 1) := by decide +kernel
theorem dX7_realmOf_40 : decode cX7_realmOf 40 = .ok (.iadd, 1) := by decide +kernel
theorem dX7_realmOf_41 : decode cX7_realmOf 41 = .ok (.iaload, 1) := by decide +kernel
theorem dX7_realmOf_42 : decode cX7_realmOf 42 = .ok (.istore 4, 2) := by decide +kernel
theorem dX7_realmOf_44 : decode cX7_realmOf 44 = .ok (.iload_n 3, 1) := by decide +kernel
theorem dX7_realmOf_45 : decode cX7_realmOf 45 = .ok (.iload 4, 2) := by decide +kernel
theorem dX7_realmOf_47 : decode cX7_realmOf 47 = .ok (.if_icmp .ne 5, 3) := by decide +kernel
theorem dX7_realmOf_50 : decode cX7_realmOf 50 = .ok (.iconst 2, 1) := by decide +kernel
theorem dX7_realmOf_51 : decode cX7_realmOf 51 = .ok (.ireturn, 1) := by decide +kernel
theorem dX7_realmOf_52 : decode cX7_realmOf 52 = .ok (.iload_n 3, 1) := by decide +kernel
theorem dX7_realmOf_53 : decode cX7_realmOf 53 = .ok (.iload 4, 2) := by decide +kernel
theorem dX7_realmOf_55 : decode cX7_realmOf 55 = .ok (.if_icmp .ge 7, 3) := by decide +kernel
theorem dX7_realmOf_58 : decode cX7_realmOf 58 = .ok (.iconst 0, 1) := by decide +kernel
theorem dX7_realmOf_59 : decode cX7_realmOf 59 = .ok (.goto 4, 3) := by decide +kernel
theorem dX7_realmOf_62 : decode cX7_realmOf 62 = .ok (.iconst 1, 1) := by decide +kernel
theorem dX7_realmOf_63 : decode cX7_realmOf 63 = .ok (.ireturn, 1) := by decide +kernel
theorem dX7_nightsIn_0 : decode cX7_nightsIn 0 = .ok (.iconst 0, 1) := by decide +kernel
theorem dX7_nightsIn_1 : decode cX7_nightsIn 1 = .ok (.istore_n 3, 1) := by decide +kernel
theorem dX7_nightsIn_2 : decode cX7_nightsIn 2 = .ok (.iconst 0, 1) := by decide +kernel
theorem dX7_nightsIn_3 : decode cX7_nightsIn 3 = .ok (.istore 4, 2) := by decide +kernel
theorem dX7_nightsIn_5 : decode cX7_nightsIn 5 = .ok (.iload 4, 2) := by decide +kernel
theorem dX7_nightsIn_7 : decode cX7_nightsIn 7 = .ok (.bipush 10, 2) := by decide +kernel
theorem dX7_nightsIn_9 : decode cX7_nightsIn 9 = .ok (.if_icmp .ge 23, 3) := by decide +kernel
theorem dX7_nightsIn_12 : decode cX7_nightsIn 12 = .ok (.aload_n 0, 1) := by decide +kernel
theorem dX7_nightsIn_13 : decode cX7_nightsIn 13 = .ok (.iload 4, 2) := by decide +kernel
theorem dX7_nightsIn_15 : decode cX7_nightsIn 15 = .ok (.iload_n 2, 1) := by decide +kernel
theorem dX7_nightsIn_16 : decode cX7_nightsIn 16 = .ok (.invokevirtual 62, 3) := by decide +kernel
theorem dX7_nightsIn_19 : decode cX7_nightsIn 19 = .ok (.iload_n 1, 1) := by decide +kernel
theorem dX7_nightsIn_20 : decode cX7_nightsIn 20 = .ok (.if_icmp .ne 6, 3) := by decide +kernel
theorem dX7_nightsIn_23 : decode cX7_nightsIn 23 = .ok (.iinc 3 1, 3) := by decide +kernel
theorem dX7_nightsIn_26 : decode cX7_nightsIn 26 = .ok (.iinc 4 1, 3) := by decide +kernel
theorem dX7_nightsIn_29 : decode cX7_nightsIn 29 = .ok (.goto (-24), 3) := by decide +kernel
theorem dX7_nightsIn_32 : decode cX7_nightsIn 32 = .ok (.iload_n 3, 1) := by decide +kernel
theorem dX7_nightsIn_33 : decode cX7_nightsIn 33 = .ok (.ireturn, 1) := by decide +kernel
theorem dX8_init_0 : decode cX8_init 0 = .ok (.aload_n 0, 1) := by decide +kernel
theorem dX8_init_1 : decode cX8_init 1 = .ok (.invokespecial 3, 3) := by decide +kernel
theorem dX8_init_4 : decode cX8_init 4 = .ok (.aload_n 0, 1) := by decide +kernel
theorem dX8_init_5 : decode cX8_init 5 = .ok (.iconst 2, 1) := by decide +kernel
theorem dX8_init_6 : decode cX8_init 6 = .ok (.anewarray 9, 3) := by decide +kernel
theorem dX8_init_9 : decode cX8_init 9 = .ok (.putfield 11, 3) := by decide +kernel
theorem dX8_init_12 : decode cX8_init 12 = .ok (.aload_n 0, 1) := by decide +kernel
theorem dX8_init_13 : decode cX8_init 13 = .ok (.getfield 11, 3) := by decide +kernel
theorem dX8_init_16 : decode cX8_init 16 = .ok (.iconst 0, 1) := by decide +kernel
theorem dX8_init_17 : decode cX8_init 17 = .ok (.new 9, 3) := by decide +kernel
theorem dX8_init_20 : decode cX8_init 20 = .ok (.dup, 1) := by decide +kernel
theorem dX8_init_21 : decode cX8_init 21 = .ok (.bipush 41, 2) := by decide +kernel
theorem dX8_init_23 : decode cX8_init 23 = .ok (.invokespecial 15, 3) := by decide +kernel
theorem dX8_init_26 : decode cX8_init 26 = .ok (.aastore, 1) := by decide +kernel
theorem dX8_init_27 : decode cX8_init 27 = .ok (.aload_n 0, 1) := by decide +kernel
theorem dX8_init_28 : decode cX8_init 28 = .ok (.getfield 11, 3) := by decide +kernel
theorem dX8_init_31 : decode cX8_init 31 = .ok (.iconst 1, 1) := by decide +kernel
theorem dX8_init_32 : decode cX8_init 32 = .ok (.new 9, 3) := by decide +kernel
theorem dX8_init_35 : decode cX8_init 35 = .ok (.dup, 1) := by decide +kernel
theorem dX8_init_36 : decode cX8_init 36 = .ok (.bipush 31, 2) := by decide +kernel
theorem dX8_init_38 : decode cX8_init 38 = .ok (.invokespecial 15, 3) := by decide +kernel
theorem dX8_init_41 : decode cX8_init 41 = .ok (.aastore, 1) := by decide +kernel
theorem dX8_init_42 : decode cX8_init 42 = .ok (.aload_n 0, 1) := by decide +kernel
theorem dX8_init_43 : decode cX8_init 43 = .ok (.new 18, 3) := by decide +kernel
theorem dX8_init_46 : decode cX8_init 46 = .ok (.dup, 1) := by decide +kernel
theorem dX8_init_47 : decode cX8_init 47 = .ok (.invokespecial 20, 3) := by decide +kernel
theorem dX8_init_50 : decode cX8_init 50 = .ok (.putfield 21, 3) := by decide +kernel
theorem dX8_init_53 : decode cX8_init 53 = .ok (.aload_n 0, 1) := by decide +kernel
theorem dX8_init_54 : decode cX8_init 54 = .ok (.new 25, 3) := by decide +kernel
theorem dX8_init_57 : decode cX8_init 57 = .ok (.dup, 1) := by decide +kernel
theorem dX8_init_58 : decode cX8_init 58 = .ok (.invokespecial 27, 3) := by decide +kernel
theorem dX8_init_61 : decode cX8_init 61 = .ok (.putfield 28, 3) := by decide +kernel
theorem dX8_init_64 : decode cX8_init 64 = .ok (.aload_n 0, 1) := by decide +kernel
theorem dX8_init_65 : decode cX8_init 65 = .ok (.new 32, 3) := by decide +kernel
theorem dX8_init_68 : decode cX8_init 68 = .ok (.dup, 1) := by decide +kernel
theorem dX8_init_69 : decode cX8_init 69 = .ok (.invokespecial 34, 3) := by decide +kernel
theorem dX8_init_72 : decode cX8_init 72 = .ok (.putfield 35, 3) := by decide +kernel
theorem dX8_init_75 : decode cX8_init 75 = .ok (.aload_n 0, 1) := by decide +kernel
theorem dX8_init_76 : decode cX8_init 76 = .ok (.new 32, 3) := by decide +kernel
theorem dX8_init_79 : decode cX8_init 79 = .ok (.dup, 1) := by decide +kernel
theorem dX8_init_80 : decode cX8_init 80 = .ok (.invokespecial 34, 3) := by decide +kernel
theorem dX8_init_83 : decode cX8_init 83 = .ok (.putfield 39, 3) := by decide +kernel
theorem dX8_init_86 : decode cX8_init 86 = .ok (.aload_n 0, 1) := by decide +kernel
theorem dX8_init_87 : decode cX8_init 87 = .ok (.new 32, 3) := by decide +kernel
theorem dX8_init_90 : decode cX8_init 90 = .ok (.dup, 1) := by decide +kernel
theorem dX8_init_91 : decode cX8_init 91 = .ok (.invokespecial 34, 3) := by decide +kernel
theorem dX8_init_94 : decode cX8_init 94 = .ok (.putfield 42, 3) := by decide +kernel
theorem dX8_init_97 : decode cX8_init 97 = .ok (.aload_n 0, 1) := by decide +kernel
theorem dX8_init_98 : decode cX8_init 98 = .ok (.new 45, 3) := by decide +kernel
theorem dX8_init_101 : decode cX8_init 101 = .ok (.dup, 1) := by decide +kernel
theorem dX8_init_102 : decode cX8_init 102 = .ok (.aload_n 0, 1) := by decide +kernel
theorem dX8_init_103 : decode cX8_init 103 = .ok (.getfield 21, 3) := by decide +kernel
theorem dX8_init_106 : decode cX8_init 106 = .ok (.aload_n 0, 1) := by decide +kernel
theorem dX8_init_107 : decode cX8_init 107 = .ok (.getfield 35, 3) := by decide +kernel
theorem dX8_init_110 : decode cX8_init 110 = .ok (.aload_n 0, 1) := by decide +kernel
theorem dX8_init_111 : decode cX8_init 111 = .ok (.getfield 39, 3) := by decide +kernel
theorem dX8_init_114 : decode cX8_init 114 = .ok (.invokespecial 47, 3) := by decide +kernel
theorem dX8_init_117 : decode cX8_init 117 = .ok (.putfield 50, 3) := by decide +kernel
theorem dX8_init_120 : decode cX8_init 120 = .ok (.aload_n 0, 1) := by decide +kernel
theorem dX8_init_121 : decode cX8_init 121 = .ok (.new 45, 3) := by decide +kernel
theorem dX8_init_124 : decode cX8_init 124 = .ok (.dup, 1) := by decide +kernel
theorem dX8_init_125 : decode cX8_init 125 = .ok (.aload_n 0, 1) := by decide +kernel
theorem dX8_init_126 : decode cX8_init 126 = .ok (.getfield 21, 3) := by decide +kernel
theorem dX8_init_129 : decode cX8_init 129 = .ok (.aload_n 0, 1) := by decide +kernel
theorem dX8_init_130 : decode cX8_init 130 = .ok (.getfield 35, 3) := by decide +kernel
theorem dX8_init_133 : decode cX8_init 133 = .ok (.aload_n 0, 1) := by decide +kernel
theorem dX8_init_134 : decode cX8_init 134 = .ok (.getfield 39, 3) := by decide +kernel
theorem dX8_init_137 : decode cX8_init 137 = .ok (.invokespecial 47, 3) := by decide +kernel
theorem dX8_init_140 : decode cX8_init 140 = .ok (.putfield 54, 3) := by decide +kernel
theorem dX8_init_143 : decode cX8_init 143 = .ok (.aload_n 0, 1) := by decide +kernel
theorem dX8_init_144 : decode cX8_init 144 = .ok (.new 57, 3) := by decide +kernel
theorem dX8_init_147 : decode cX8_init 147 = .ok (.dup, 1) := by decide +kernel
theorem dX8_init_148 : decode cX8_init 148 = .ok (.invokespecial 59, 3) := by decide +kernel
theorem dX8_init_151 : decode cX8_init 151 = .ok (.putfield 60, 3) := by decide +kernel
theorem dX8_init_154 : decode cX8_init 154 = .ok (.aload_n 0, 1) := by decide +kernel
theorem dX8_init_155 : decode cX8_init 155 = .ok (.new 64, 3) := by decide +kernel
theorem dX8_init_158 : decode cX8_init 158 = .ok (.dup, 1) := by decide +kernel
theorem dX8_init_159 : decode cX8_init 159 = .ok (.invokespecial 66, 3) := by decide +kernel
theorem dX8_init_162 : decode cX8_init 162 = .ok (.putfield 67, 3) := by decide +kernel
theorem dX8_init_165 : decode cX8_init 165 = .ok (.aload_n 0, 1) := by decide +kernel
theorem dX8_init_166 : decode cX8_init 166 = .ok (.bipush 32, 2) := by decide +kernel
theorem dX8_init_168 : decode cX8_init 168 = .ok (.newarray .int, 2) := by decide +kernel
theorem dX8_init_170 : decode cX8_init 170 = .ok (.putfield 71, 3) := by decide +kernel
theorem dX8_init_173 : decode cX8_init 173 = .ok (.aload_n 0, 1) := by decide +kernel
theorem dX8_init_174 : decode cX8_init 174 = .ok (.iconst 4, 1) := by decide +kernel
theorem dX8_init_175 : decode cX8_init 175 = .ok (.anewarray 75, 3) := by decide +kernel
theorem dX8_init_178 : decode cX8_init 178 = .ok (.putfield 77, 3) := by decide +kernel
theorem dX8_init_181 : decode cX8_init 181 = .ok (.iconst 0, 1) := by decide +kernel
theorem dX8_init_182 : decode cX8_init 182 = .ok (.istore_n 1, 1) := by decide +kernel
theorem dX8_init_183 : decode cX8_init 183 = .ok (.iload_n 1, 1) := by decide +kernel
theorem dX8_init_184 : decode cX8_init 184 = .ok (.iconst 4, 1) := by decide +kernel
theorem dX8_init_185 : decode cX8_init 185 = .ok (.if_icmp .ge 22, 3) := by decide +kernel
theorem dX8_init_188 : decode cX8_init 188 = .ok (.aload_n 0, 1) := by decide +kernel
theorem dX8_init_189 : decode cX8_init 189 = .ok (.getfield 77, 3) := by decide +kernel
theorem dX8_init_192 : decode cX8_init 192 = .ok (.iload_n 1, 1) := by decide +kernel
theorem dX8_init_193 : decode cX8_init 193 = .ok (.new 75, 3) := by decide +kernel
theorem dX8_init_196 : decode cX8_init 196 = .ok (.dup, 1) := by decide +kernel
theorem dX8_init_197 : decode cX8_init 197 = .ok (.invokespecial 81, 3) := by decide +kernel
theorem dX8_init_200 : decode cX8_init 200 = .ok (.aastore, 1) := by decide +kernel
theorem dX8_init_201 : decode cX8_init 201 = .ok (.iinc 1 1, 3) := by decide +kernel
theorem dX8_init_204 : decode cX8_init 204 = .ok (.goto (-21), 3) := by decide +kernel
theorem dX8_init_207 : decode cX8_init 207 = .ok (.aload_n 0, 1) := by decide +kernel
theorem dX8_init_208 : decode cX8_init 208 = .ok (.iconst 1, 1) := by decide +kernel
theorem dX8_init_209 : decode cX8_init 209 = .ok (.putfield 82, 3) := by decide +kernel
theorem dX8_init_212 : decode cX8_init 212 = .ok (.aload_n 0, 1) := by decide +kernel
theorem dX8_init_213 : decode cX8_init 213 = .ok (.iconst 0, 1) := by decide +kernel
theorem dX8_init_214 : decode cX8_init 214 = .ok (.putfield 86, 3) := by decide +kernel
theorem dX8_init_217 : decode cX8_init 217 = .ok (.return_, 1) := by decide +kernel
theorem dX8_type_0 : decode cX8_type 0 = .ok (.iload_n 1, 1) := by decide +kernel
theorem dX8_type_1 : decode cX8_type 1 = .ok (.iconst 1, 1) := by decide +kernel
theorem dX8_type_2 : decode cX8_type 2 = .ok (.invokestatic 90, 3) := by decide +kernel
theorem dX8_type_5 : decode cX8_type 5 = .ok (.ifCond .eq 13, 3) := by decide +kernel
theorem dX8_type_8 : decode cX8_type 8 = .ok (.iload_n 2, 1) := by decide +kernel
theorem dX8_type_9 : decode cX8_type 9 = .ok (.sipush 255, 3) := by decide +kernel
theorem dX8_type_12 : decode cX8_type 12 = .ok (.invokestatic 90, 3) := by decide +kernel
theorem dX8_type_15 : decode cX8_type 15 = .ok (.ifCond .ne 6, 3) := by decide +kernel
theorem dX8_type_18 : decode cX8_type 18 = .ok (.bipush (-2), 2) := by decide +kernel
theorem dX8_type_20 : decode cX8_type 20 = .ok (.ireturn, 1) := by decide +kernel
theorem dX8_type_21 : decode cX8_type 21 = .ok (.aload_n 0, 1) := by decide +kernel
theorem dX8_type_22 : decode cX8_type 22 = .ok (.getfield 11, 3) := by decide +kernel
theorem dX8_type_25 : decode cX8_type 25 = .ok (.iload_n 1, 1) := by decide +kernel
theorem dX8_type_26 : decode cX8_type 26 = .ok (.aaload, 1) := by decide +kernel
theorem dX8_type_27 : decode cX8_type 27 = .ok (.iload_n 2, 1) := by decide +kernel
theorem dX8_type_28 : decode cX8_type 28 = .ok (.invokevirtual 94, 3) := by decide +kernel
theorem dX8_type_31 : decode cX8_type 31 = .ok (.ifCond .ne 6, 3) := by decide +kernel
theorem dX8_type_34 : decode cX8_type 34 = .ok (.bipush (-4), 2) := by decide +kernel
theorem dX8_type_36 : decode cX8_type 36 = .ok (.ireturn, 1) := by decide +kernel
theorem dX8_type_37 : decode cX8_type 37 = .ok (.aload_n 0, 1) := by decide +kernel
theorem dX8_type_38 : decode cX8_type 38 = .ok (.iload_n 1, 1) := by decide +kernel
theorem dX8_type_39 : decode cX8_type 39 = .ok (.invokevirtual 98, 3) := by decide +kernel
theorem dX8_type_42 : decode cX8_type 42 = .ok (.aload_n 0, 1) := by decide +kernel
theorem dX8_type_43 : decode cX8_type 43 = .ok (.getfield 11, 3) := by decide +kernel
theorem dX8_type_46 : decode cX8_type 46 = .ok (.iload_n 1, 1) := by decide +kernel
theorem dX8_type_47 : decode cX8_type 47 = .ok (.aaload, 1) := by decide +kernel
theorem dX8_type_48 : decode cX8_type 48 = .ok (.getfield 101, 3) := by decide +kernel
theorem dX8_type_51 : decode cX8_type 51 = .ok (.ireturn, 1) := by decide +kernel
theorem dX8_wipe_0 : decode cX8_wipe 0 = .ok (.iload_n 1, 1) := by decide +kernel
theorem dX8_wipe_1 : decode cX8_wipe 1 = .ok (.iconst 1, 1) := by decide +kernel
theorem dX8_wipe_2 : decode cX8_wipe 2 = .ok (.invokestatic 90, 3) := by decide +kernel
theorem dX8_wipe_5 : decode cX8_wipe 5 = .ok (.ifCond .ne 6, 3) := by decide +kernel
theorem dX8_wipe_8 : decode cX8_wipe 8 = .ok (.bipush (-2), 2) := by decide +kernel
theorem dX8_wipe_10 : decode cX8_wipe 10 = .ok (.ireturn, 1) := by decide +kernel
theorem dX8_wipe_11 : decode cX8_wipe 11 = .ok (.aload_n 0, 1) := by decide +kernel
theorem dX8_wipe_12 : decode cX8_wipe 12 = .ok (.getfield 11, 3) := by decide +kernel
theorem dX8_wipe_15 : decode cX8_wipe 15 = .ok (.iload_n 1, 1) := by decide +kernel
theorem dX8_wipe_16 : decode cX8_wipe 16 = .ok (.aaload, 1) := by decide +kernel
theorem dX8_wipe_17 : decode cX8_wipe 17 = .ok (.getfield 101, 3) := by decide +kernel
theorem dX8_wipe_20 : decode cX8_wipe 20 = .ok (.istore_n 2, 1) := by decide +kernel
theorem dX8_wipe_21 : decode cX8_wipe 21 = .ok (.aload_n 0, 1) := by decide +kernel
theorem dX8_wipe_22 : decode cX8_wipe 22 = .ok (.getfield 11, 3) := by decide +kernel
theorem dX8_wipe_25 : decode cX8_wipe 25 = .ok (.iload_n 1, 1) := by decide +kernel
theorem dX8_wipe_26 : decode cX8_wipe 26 = .ok (.aaload, 1) := by decide +kernel
theorem dX8_wipe_27 : decode cX8_wipe 27 = .ok (.iconst 0, 1) := by decide +kernel
theorem dX8_wipe_28 : decode cX8_wipe 28 = .ok (.putfield 101, 3) := by decide +kernel
theorem dX8_wipe_31 : decode cX8_wipe 31 = .ok (.aload_n 0, 1) := by decide +kernel
theorem dX8_wipe_32 : decode cX8_wipe 32 = .ok (.iload_n 1, 1) := by decide +kernel
theorem dX8_wipe_33 : decode cX8_wipe 33 = .ok (.invokevirtual 98, 3) := by decide +kernel
theorem dX8_wipe_36 : decode cX8_wipe 36 = .ok (.iload_n 2, 1) := by decide +kernel
theorem dX8_wipe_37 : decode cX8_wipe 37 = .ok (.ireturn, 1) := by decide +kernel
theorem dX8_undo_0 : decode cX8_undo 0 = .ok (.iload_n 1, 1) := by decide +kernel
theorem dX8_undo_1 : decode cX8_undo 1 = .ok (.iconst 1, 1) := by decide +kernel
theorem dX8_undo_2 : decode cX8_undo 2 = .ok (.invokestatic 90, 3) := by decide +kernel
theorem dX8_undo_5 : decode cX8_undo 5 = .ok (.ifCond .ne 6, 3) := by decide +kernel
theorem dX8_undo_8 : decode cX8_undo 8 = .ok (.bipush (-2), 2) := by decide +kernel
theorem dX8_undo_10 : decode cX8_undo 10 = .ok (.ireturn, 1) := by decide +kernel
theorem dX8_undo_11 : decode cX8_undo 11 = .ok (.aload_n 0, 1) := by decide +kernel
theorem dX8_undo_12 : decode cX8_undo 12 = .ok (.getfield 11, 3) := by decide +kernel
theorem dX8_undo_15 : decode cX8_undo 15 = .ok (.iload_n 1, 1) := by decide +kernel
theorem dX8_undo_16 : decode cX8_undo 16 = .ok (.aaload, 1) := by decide +kernel
theorem dX8_undo_17 : decode cX8_undo 17 = .ok (.getfield 101, 3) := by decide +kernel
theorem dX8_undo_20 : decode cX8_undo 20 = .ok (.ifCond .ne 6, 3) := by decide +kernel
theorem dX8_undo_23 : decode cX8_undo 23 = .ok (.bipush (-3), 2) := by decide +kernel
theorem dX8_undo_25 : decode cX8_undo 25 = .ok (.ireturn, 1) := by decide +kernel
theorem dX8_undo_26 : decode cX8_undo 26 = .ok (.aload_n 0, 1) := by decide +kernel
theorem dX8_undo_27 : decode cX8_undo 27 = .ok (.getfield 11, 3) := by decide +kernel
theorem dX8_undo_30 : decode cX8_undo 30 = .ok (.iload_n 1, 1) := by decide +kernel
theorem dX8_undo_31 : decode cX8_undo 31 = .ok (.aaload, 1) := by decide +kernel
theorem dX8_undo_32 : decode cX8_undo 32 = .ok (.dup, 1) := by decide +kernel
theorem dX8_undo_33 : decode cX8_undo 33 = .ok (.getfield 101, 3) := by decide +kernel
theorem dX8_undo_36 : decode cX8_undo 36 = .ok (.iconst 1, 1) := by decide +kernel
theorem dX8_undo_37 : decode cX8_undo 37 = .ok (.isub, 1) := by decide +kernel
theorem dX8_undo_38 : decode cX8_undo 38 = .ok (.putfield 101, 3) := by decide +kernel
theorem dX8_undo_41 : decode cX8_undo 41 = .ok (.aload_n 0, 1) := by decide +kernel
theorem dX8_undo_42 : decode cX8_undo 42 = .ok (.iload_n 1, 1) := by decide +kernel
theorem dX8_undo_43 : decode cX8_undo 43 = .ok (.invokevirtual 98, 3) := by decide +kernel
theorem dX8_undo_46 : decode cX8_undo 46 = .ok (.aload_n 0, 1) := by decide +kernel
theorem dX8_undo_47 : decode cX8_undo 47 = .ok (.getfield 11, 3) := by decide +kernel
theorem dX8_undo_50 : decode cX8_undo 50 = .ok (.iload_n 1, 1) := by decide +kernel
theorem dX8_undo_51 : decode cX8_undo 51 = .ok (.aaload, 1) := by decide +kernel
theorem dX8_undo_52 : decode cX8_undo 52 = .ok (.getfield 101, 3) := by decide +kernel
theorem dX8_undo_55 : decode cX8_undo 55 = .ok (.ireturn, 1) := by decide +kernel
theorem dX8_fault_0 : decode cX8_fault 0 = .ok (.iload_n 1, 1) := by decide +kernel
theorem dX8_fault_1 : decode cX8_fault 1 = .ok (.iconst 1, 1) := by decide +kernel
theorem dX8_fault_2 : decode cX8_fault 2 = .ok (.invokestatic 90, 3) := by decide +kernel
theorem dX8_fault_5 : decode cX8_fault 5 = .ok (.ifCond .ne 6, 3) := by decide +kernel
theorem dX8_fault_8 : decode cX8_fault 8 = .ok (.bipush (-2), 2) := by decide +kernel
theorem dX8_fault_10 : decode cX8_fault 10 = .ok (.ireturn, 1) := by decide +kernel
theorem dX8_fault_11 : decode cX8_fault 11 = .ok (.iload_n 1, 1) := by decide +kernel
theorem dX8_fault_12 : decode cX8_fault 12 = .ok (.ifCond .ne 13, 3) := by decide +kernel
theorem dX8_fault_15 : decode cX8_fault 15 = .ok (.aload_n 0, 1) := by decide +kernel
theorem dX8_fault_16 : decode cX8_fault 16 = .ok (.getfield 21, 3) := by decide +kernel
theorem dX8_fault_19 : decode cX8_fault 19 = .ok (.getfield 104, 3) := by decide +kernel
theorem dX8_fault_22 : decode cX8_fault 22 = .ok (.goto 10, 3) := by decide +kernel
theorem dX8_fault_25 : decode cX8_fault 25 = .ok (.aload_n 0, 1) := by decide +kernel
theorem dX8_fault_26 : decode cX8_fault 26 = .ok (.getfield 28, 3) := by decide +kernel
theorem dX8_fault_29 : decode cX8_fault 29 = .ok (.getfield 107, 3) := by decide +kernel
theorem dX8_fault_32 : decode cX8_fault 32 = .ok (.ireturn, 1) := by decide +kernel
theorem dX8_cell_0 : decode cX8_cell 0 = .ok (.iload_n 1, 1) := by decide +kernel
theorem dX8_cell_1 : decode cX8_cell 1 = .ok (.bipush 35, 2) := by decide +kernel
theorem dX8_cell_3 : decode cX8_cell 3 = .ok (.invokestatic 90, 3) := by decide +kernel
theorem dX8_cell_6 : decode cX8_cell 6 = .ok (.ifCond .ne 6, 3) := by decide +kernel
theorem dX8_cell_9 : decode cX8_cell 9 = .ok (.bipush (-2), 2) := by decide +kernel
theorem dX8_cell_11 : decode cX8_cell 11 = .ok (.ireturn, 1) := by decide +kernel
theorem dX8_cell_12 : decode cX8_cell 12 = .ok (.iload_n 1, 1) := by decide +kernel
theorem dX8_cell_13 : decode cX8_cell 13 = .ok (.aload_n 0, 1) := by decide +kernel
theorem dX8_cell_14 : decode cX8_cell 14 = .ok (.getfield 21, 3) := by decide +kernel
theorem dX8_cell_17 : decode cX8_cell 17 = .ok (.getfield 108, 3) := by decide +kernel
theorem dX8_cell_20 : decode cX8_cell 20 = .ok (.if_icmp .ge 15, 3) := by decide +kernel
theorem dX8_cell_23 : decode cX8_cell 23 = .ok (.aload_n 0, 1) := by decide +kernel
theorem dX8_cell_24 : decode cX8_cell 24 = .ok (.getfield 21, 3) := by decide +kernel
theorem dX8_cell_27 : decode cX8_cell 27 = .ok (.getfield 111, 3) := by decide +kernel
theorem dX8_cell_30 : decode cX8_cell 30 = .ok (.iload_n 1, 1) := by decide +kernel
theorem dX8_cell_31 : decode cX8_cell 31 = .ok (.iaload, 1) := by decide +kernel
theorem dX8_cell_32 : decode cX8_cell 32 = .ok (.goto 4, 3) := by decide +kernel
theorem dX8_cell_35 : decode cX8_cell 35 = .ok (.iconst (-1), 1) := by decide +kernel
theorem dX8_cell_36 : decode cX8_cell 36 = .ok (.ireturn, 1) := by decide +kernel
theorem dX8_house_0 : decode cX8_house 0 = .ok (.aload_n 0, 1) := by decide +kernel
theorem dX8_house_1 : decode cX8_house 1 = .ok (.iload_n 1, 1) := by decide +kernel
theorem dX8_house_2 : decode cX8_house 2 = .ok (.invokevirtual 114, 3) := by decide +kernel
theorem dX8_house_5 : decode cX8_house 5 = .ok (.ifCond .eq 11, 3) := by decide +kernel
theorem dX8_house_8 : decode cX8_house 8 = .ok (.iload_n 2, 1) := by decide +kernel
theorem dX8_house_9 : decode cX8_house 9 = .ok (.iconst 1, 1) := by decide +kernel
theorem dX8_house_10 : decode cX8_house 10 = .ok (.invokestatic 90, 3) := by decide +kernel
theorem dX8_house_13 : decode cX8_house 13 = .ok (.ifCond .ne 6, 3) := by decide +kernel
theorem dX8_house_16 : decode cX8_house 16 = .ok (.bipush (-2), 2) := by decide +kernel
theorem dX8_house_18 : decode cX8_house 18 = .ok (.ireturn, 1) := by decide +kernel
theorem dX8_house_19 : decode cX8_house 19 = .ok (.iload_n 2, 1) := by decide +kernel
theorem dX8_house_20 : decode cX8_house 20 = .ok (.ifCond .ne 15, 3) := by decide +kernel
theorem dX8_house_23 : decode cX8_house 23 = .ok (.aload_n 0, 1) := by decide +kernel
theorem dX8_house_24 : decode cX8_house 24 = .ok (.getfield 28, 3) := by decide +kernel
theorem dX8_house_27 : decode cX8_house 27 = .ok (.getfield 117, 3) := by decide +kernel
theorem dX8_house_30 : decode cX8_house 30 = .ok (.iload_n 1, 1) := by decide +kernel
theorem dX8_house_31 : decode cX8_house 31 = .ok (.iaload, 1) := by decide +kernel
theorem dX8_house_32 : decode cX8_house 32 = .ok (.goto 12, 3) := by decide +kernel
theorem dX8_house_35 : decode cX8_house 35 = .ok (.aload_n 0, 1) := by decide +kernel
theorem dX8_house_36 : decode cX8_house 36 = .ok (.getfield 28, 3) := by decide +kernel
theorem dX8_house_39 : decode cX8_house 39 = .ok (.getfield 120, 3) := by decide +kernel
theorem dX8_house_42 : decode cX8_house 42 = .ok (.iload_n 1, 1) := by decide +kernel
theorem dX8_house_43 : decode cX8_house 43 = .ok (.iaload, 1) := by decide +kernel
theorem dX8_house_44 : decode cX8_house 44 = .ok (.ireturn, 1) := by decide +kernel
theorem dX8_set_0 : decode cX8_set 0 = .ok (.iload_n 1, 1) := by decide +kernel
theorem dX8_set_1 : decode cX8_set 1 = .ok (.iconst 1, 1) := by decide +kernel
theorem dX8_set_2 : decode cX8_set 2 = .ok (.invokestatic 90, 3) := by decide +kernel
theorem dX8_set_5 : decode cX8_set 5 = .ok (.ifCond .eq 20, 3) := by decide +kernel
theorem dX8_set_8 : decode cX8_set 8 = .ok (.iload_n 2, 1) := by decide +kernel
theorem dX8_set_9 : decode cX8_set 9 = .ok (.iload_n 1, 1) := by decide +kernel
theorem dX8_set_10 : decode cX8_set 10 = .ok (.ifCond .ne 7, 3) := by decide +kernel
theorem dX8_set_13 : decode cX8_set 13 = .ok (.iconst 5, 1) := by decide +kernel
theorem dX8_set_14 : decode cX8_set 14 = .ok (.goto 5, 3) := by decide +kernel
theorem dX8_set_17 : decode cX8_set 17 = .ok (.bipush 10, 2) := by decide +kernel
theorem dX8_set_19 : decode cX8_set 19 = .ok (.invokestatic 90, 3) := by decide +kernel
theorem dX8_set_22 : decode cX8_set 22 = .ok (.ifCond .ne 6, 3) := by decide +kernel
theorem dX8_set_25 : decode cX8_set 25 = .ok (.bipush (-2), 2) := by decide +kernel
theorem dX8_set_27 : decode cX8_set 27 = .ok (.ireturn, 1) := by decide +kernel
theorem dX8_set_28 : decode cX8_set 28 = .ok (.iload_n 1, 1) := by decide +kernel
theorem dX8_set_29 : decode cX8_set 29 = .ok (.ifCond .ne 22, 3) := by decide +kernel
theorem dX8_set_32 : decode cX8_set 32 = .ok (.aload_n 0, 1) := by decide +kernel
theorem dX8_set_33 : decode cX8_set 33 = .ok (.getfield 50, 3) := by decide +kernel
theorem dX8_set_36 : decode cX8_set 36 = .ok (.getfield 123, 3) := by decide +kernel
theorem dX8_set_39 : decode cX8_set 39 = .ok (.istore_n 3, 1) := by decide +kernel
theorem dX8_set_40 : decode cX8_set 40 = .ok (.aload_n 0, 1) := by decide +kernel
theorem dX8_set_41 : decode cX8_set 41 = .ok (.getfield 50, 3) := by decide +kernel
theorem dX8_set_44 : decode cX8_set 44 = .ok (.iload_n 2, 1) := by decide +kernel
theorem dX8_set_45 : decode cX8_set 45 = .ok (.putfield 123, 3) := by decide +kernel
theorem dX8_set_48 : decode cX8_set 48 = .ok (.goto 19, 3) := by decide +kernel
theorem dX8_set_51 : decode cX8_set 51 = .ok (.aload_n 0, 1) := by decide +kernel
theorem dX8_set_52 : decode cX8_set 52 = .ok (.getfield 50, 3) := by decide +kernel
theorem dX8_set_55 : decode cX8_set 55 = .ok (.getfield 126, 3) := by decide +kernel
theorem dX8_set_58 : decode cX8_set 58 = .ok (.istore_n 3, 1) := by decide +kernel
theorem dX8_set_59 : decode cX8_set 59 = .ok (.aload_n 0, 1) := by decide +kernel
theorem dX8_set_60 : decode cX8_set 60 = .ok (.getfield 50, 3) := by decide +kernel
theorem dX8_set_63 : decode cX8_set 63 = .ok (.iload_n 2, 1) := by decide +kernel
theorem dX8_set_64 : decode cX8_set 64 = .ok (.putfield 126, 3) := by decide +kernel
theorem dX8_set_67 : decode cX8_set 67 = .ok (.aload_n 0, 1) := by decide +kernel
theorem dX8_set_68 : decode cX8_set 68 = .ok (.iconst 1, 1) := by decide +kernel
theorem dX8_set_69 : decode cX8_set 69 = .ok (.putfield 82, 3) := by decide +kernel
theorem dX8_set_72 : decode cX8_set 72 = .ok (.iload_n 3, 1) := by decide +kernel
theorem dX8_set_73 : decode cX8_set 73 = .ok (.ireturn, 1) := by decide +kernel
theorem dX8_bowl_0 : decode cX8_bowl 0 = .ok (.aload_n 0, 1) := by decide +kernel
theorem dX8_bowl_1 : decode cX8_bowl 1 = .ok (.aload_n 0, 1) := by decide +kernel
theorem dX8_bowl_2 : decode cX8_bowl 2 = .ok (.getfield 35, 3) := by decide +kernel
theorem dX8_bowl_5 : decode cX8_bowl 5 = .ok (.iload_n 1, 1) := by decide +kernel
theorem dX8_bowl_6 : decode cX8_bowl 6 = .ok (.iload_n 2, 1) := by decide +kernel
theorem dX8_bowl_7 : decode cX8_bowl 7 = .ok (.invokevirtual 129, 3) := by decide +kernel
theorem dX8_bowl_10 : decode cX8_bowl 10 = .ok (.ireturn, 1) := by decide +kernel
theorem dX8_dog_0 : decode cX8_dog 0 = .ok (.aload_n 0, 1) := by decide +kernel
theorem dX8_dog_1 : decode cX8_dog 1 = .ok (.aload_n 0, 1) := by decide +kernel
theorem dX8_dog_2 : decode cX8_dog 2 = .ok (.getfield 39, 3) := by decide +kernel
theorem dX8_dog_5 : decode cX8_dog 5 = .ok (.iload_n 1, 1) := by decide +kernel
theorem dX8_dog_6 : decode cX8_dog 6 = .ok (.iload_n 2, 1) := by decide +kernel
theorem dX8_dog_7 : decode cX8_dog 7 = .ok (.invokevirtual 129, 3) := by decide +kernel
theorem dX8_dog_10 : decode cX8_dog 10 = .ok (.ireturn, 1) := by decide +kernel
theorem dX8_back_0 : decode cX8_back 0 = .ok (.iload_n 1, 1) := by decide +kernel
theorem dX8_back_1 : decode cX8_back 1 = .ok (.iconst 1, 1) := by decide +kernel
theorem dX8_back_2 : decode cX8_back 2 = .ok (.invokestatic 90, 3) := by decide +kernel
theorem dX8_back_5 : decode cX8_back 5 = .ok (.ifCond .ne 6, 3) := by decide +kernel
theorem dX8_back_8 : decode cX8_back 8 = .ok (.bipush (-2), 2) := by decide +kernel
theorem dX8_back_10 : decode cX8_back 10 = .ok (.ireturn, 1) := by decide +kernel
theorem dX8_back_11 : decode cX8_back 11 = .ok (.iload_n 1, 1) := by decide +kernel
theorem dX8_back_12 : decode cX8_back 12 = .ok (.ifCond .ne 10, 3) := by decide +kernel
theorem dX8_back_15 : decode cX8_back 15 = .ok (.aload_n 0, 1) := by decide +kernel
theorem dX8_back_16 : decode cX8_back 16 = .ok (.getfield 35, 3) := by decide +kernel
theorem dX8_back_19 : decode cX8_back 19 = .ok (.goto 7, 3) := by decide +kernel
theorem dX8_back_22 : decode cX8_back 22 = .ok (.aload_n 0, 1) := by decide +kernel
theorem dX8_back_23 : decode cX8_back 23 = .ok (.getfield 39, 3) := by decide +kernel
theorem dX8_back_26 : decode cX8_back 26 = .ok (.astore_n 2, 1) := by decide +kernel
theorem dX8_back_27 : decode cX8_back 27 = .ok (.aload_n 2, 1) := by decide +kernel
theorem dX8_back_28 : decode cX8_back 28 = .ok (.getfield 133, 3) := by decide +kernel
theorem dX8_back_31 : decode cX8_back 31 = .ok (.ifCond .ne 6, 3) := by decide +kernel
theorem dX8_back_34 : decode cX8_back 34 = .ok (.bipush (-3), 2) := by decide +kernel
theorem dX8_back_36 : decode cX8_back 36 = .ok (.ireturn, 1) := by decide +kernel
theorem dX8_back_37 : decode cX8_back 37 = .ok (.aload_n 2, 1) := by decide +kernel
theorem dX8_back_38 : decode cX8_back 38 = .ok (.dup, 1) := by decide +kernel
theorem dX8_back_39 : decode cX8_back 39 = .ok (.getfield 133, 3) := by decide +kernel
theorem dX8_back_42 : decode cX8_back 42 = .ok (.iconst 1, 1) := by decide +kernel
theorem dX8_back_43 : decode cX8_back 43 = .ok (.isub, 1) := by decide +kernel
theorem dX8_back_44 : decode cX8_back 44 = .ok (.putfield 133, 3) := by decide +kernel
theorem dX8_back_47 : decode cX8_back 47 = .ok (.aload_n 0, 1) := by decide +kernel
theorem dX8_back_48 : decode cX8_back 48 = .ok (.iconst 1, 1) := by decide +kernel
theorem dX8_back_49 : decode cX8_back 49 = .ok (.putfield 82, 3) := by decide +kernel
theorem dX8_back_52 : decode cX8_back 52 = .ok (.aload_n 2, 1) := by decide +kernel
theorem dX8_back_53 : decode cX8_back 53 = .ok (.getfield 133, 3) := by decide +kernel
theorem dX8_back_56 : decode cX8_back 56 = .ok (.ireturn, 1) := by decide +kernel
theorem dX8_read_0 : decode cX8_read 0 = .ok (.iload_n 1, 1) := by decide +kernel
theorem dX8_read_1 : decode cX8_read 1 = .ok (.iconst 3, 1) := by decide +kernel
theorem dX8_read_2 : decode cX8_read 2 = .ok (.invokestatic 90, 3) := by decide +kernel
theorem dX8_read_5 : decode cX8_read 5 = .ok (.ifCond .ne 6, 3) := by decide +kernel
theorem dX8_read_8 : decode cX8_read 8 = .ok (.bipush (-2), 2) := by decide +kernel
theorem dX8_read_10 : decode cX8_read 10 = .ok (.ireturn, 1) := by decide +kernel
theorem dX8_read_11 : decode cX8_read 11 = .ok (.aload_n 0, 1) := by decide +kernel
theorem dX8_read_12 : decode cX8_read 12 = .ok (.getfield 77, 3) := by decide +kernel
theorem dX8_read_15 : decode cX8_read 15 = .ok (.iload_n 1, 1) := by decide +kernel
theorem dX8_read_16 : decode cX8_read 16 = .ok (.aaload, 1) := by decide +kernel
theorem dX8_read_17 : decode cX8_read 17 = .ok (.astore_n 2, 1) := by decide +kernel
theorem dX8_read_18 : decode cX8_read 18 = .ok (.aload_n 2, 1) := by decide +kernel
theorem dX8_read_19 : decode cX8_read 19 = .ok (.getfield 136, 3) := by decide +kernel
theorem dX8_read_22 : decode cX8_read 22 = .ok (.ifCond .eq 9, 3) := by decide +kernel
theorem dX8_read_25 : decode cX8_read 25 = .ok (.aload_n 0, 1) := by decide +kernel
theorem dX8_read_26 : decode cX8_read 26 = .ok (.iconst 1, 1) := by decide +kernel
theorem dX8_read_27 : decode cX8_read 27 = .ok (.invokevirtual 139, 3) := by decide +kernel
theorem dX8_read_30 : decode cX8_read 30 = .ok (.ireturn, 1) := by decide +kernel
theorem dX8_read_31 : decode cX8_read 31 = .ok (.aload_n 2, 1) := by decide +kernel
theorem dX8_read_32 : decode cX8_read 32 = .ok (.getfield 143, 3) := by decide +kernel
theorem dX8_read_35 : decode cX8_read 35 = .ok (.iconst 2, 1) := by decide +kernel
theorem dX8_read_36 : decode cX8_read 36 = .ok (.idiv, 1) := by decide +kernel
theorem dX8_read_37 : decode cX8_read 37 = .ok (.istore_n 3, 1) := by decide +kernel
theorem dX8_read_38 : decode cX8_read 38 = .ok (.iconst 0, 1) := by decide +kernel
theorem dX8_read_39 : decode cX8_read 39 = .ok (.istore 4, 2) := by decide +kernel
theorem dX8_read_41 : decode cX8_read 41 = .ok (.iload 4, 2) := by decide +kernel
theorem dX8_read_43 : decode cX8_read 43 = .ok (.iload_n 3, 1) := by decide +kernel
theorem dX8_read_44 : decode cX8_read 44 = .ok (.if_icmp .ge 40, 3) := by decide +kernel
theorem dX8_read_47 : decode cX8_read 47 = .ok (.aload_n 0, 1) := by decide +kernel
theorem dX8_read_48 : decode cX8_read 48 = .ok (.aload_n 0, 1) := by decide +kernel
theorem dX8_read_49 : decode cX8_read 49 = .ok (.getfield 35, 3) := by decide +kernel
theorem dX8_read_52 : decode cX8_read 52 = .ok (.aload_n 2, 1) := by decide +kernel
theorem dX8_read_53 : decode cX8_read 53 = .ok (.getfield 146, 3) := by decide +kernel
theorem dX8_read_56 : decode cX8_read 56 = .ok (.iconst 2, 1) := by decide +kernel
theorem dX8_read_57 : decode cX8_read 57 = .ok (.iload 4, 2) := by decide +kernel
theorem dX8_read_59 : decode cX8_read 59 = .ok (.imul, 1) := by decide +kernel
theorem dX8_read_60 : decode cX8_read 60 = .ok (.iaload, 1) := by decide +kernel
theorem dX8_read_61 : decode cX8_read 61 = .ok (.aload_n 2, 1) := by decide +kernel
theorem dX8_read_62 : decode cX8_read 62 = .ok (.getfield 146, 3) := by decide +kernel
theorem dX8_read_65 : decode cX8_read 65 = .ok (.iconst 2, 1) := by decide +kernel
theorem dX8_read_66 : decode cX8_read 66 = .ok (.iload 4, 2) := by decide +kernel
theorem dX8_read_68 : decode cX8_read 68 = .ok (.imul, 1) := by decide +kernel
theorem dX8_read_69 : decode cX8_read 69 = .ok (.iconst 1, 1) := by decide +kernel
theorem dX8_read_70 : decode cX8_read 70 = .ok (.iadd, 1) := by decide +kernel
theorem dX8_read_71 : decode cX8_read 71 = .ok (.iaload, 1) := by decide +kernel
theorem dX8_read_72 : decode cX8_read 72 = .ok (.invokevirtual 129, 3) := by decide +kernel
theorem dX8_read_75 : decode cX8_read 75 = .ok (.ifCond .le 9, 3) := by decide +kernel
theorem dX8_read_78 : decode cX8_read 78 = .ok (.iinc 4 1, 3) := by decide +kernel
theorem dX8_read_81 : decode cX8_read 81 = .ok (.goto (-40), 3) := by decide +kernel
theorem dX8_read_84 : decode cX8_read 84 = .ok (.iload 4, 2) := by decide +kernel
theorem dX8_read_86 : decode cX8_read 86 = .ok (.ireturn, 1) := by decide +kernel
theorem dX8_putMark_0 : decode cX8_putMark 0 = .ok (.iload_n 2, 1) := by decide +kernel
theorem dX8_putMark_1 : decode cX8_putMark 1 = .ok (.invokestatic 149, 3) := by decide +kernel
theorem dX8_putMark_4 : decode cX8_putMark 4 = .ok (.ifCond .eq 12, 3) := by decide +kernel
theorem dX8_putMark_7 : decode cX8_putMark 7 = .ok (.iload_n 3, 1) := by decide +kernel
theorem dX8_putMark_8 : decode cX8_putMark 8 = .ok (.bipush 35, 2) := by decide +kernel
theorem dX8_putMark_10 : decode cX8_putMark 10 = .ok (.invokestatic 90, 3) := by decide +kernel
theorem dX8_putMark_13 : decode cX8_putMark 13 = .ok (.ifCond .ne 6, 3) := by decide +kernel
theorem dX8_putMark_16 : decode cX8_putMark 16 = .ok (.bipush (-2), 2) := by decide +kernel
theorem dX8_putMark_18 : decode cX8_putMark 18 = .ok (.ireturn, 1) := by decide +kernel
theorem dX8_putMark_19 : decode cX8_putMark 19 = .ok (.aload_n 1, 1) := by decide +kernel
theorem dX8_putMark_20 : decode cX8_putMark 20 = .ok (.iload_n 2, 1) := by decide +kernel
theorem dX8_putMark_21 : decode cX8_putMark 21 = .ok (.iload_n 3, 1) := by decide +kernel
theorem dX8_putMark_22 : decode cX8_putMark 22 = .ok (.iconst 0, 1) := by decide +kernel
theorem dX8_putMark_23 : decode cX8_putMark 23 = .ok (.invokevirtual 152, 3) := by decide +kernel
theorem dX8_putMark_26 : decode cX8_putMark 26 = .ok (.ifCond .ne 6, 3) := by decide +kernel
theorem dX8_putMark_29 : decode cX8_putMark 29 = .ok (.bipush (-4), 2) := by decide +kernel
theorem dX8_putMark_31 : decode cX8_putMark 31 = .ok (.ireturn, 1) := by decide +kernel
theorem dX8_putMark_32 : decode cX8_putMark 32 = .ok (.aload_n 0, 1) := by decide +kernel
theorem dX8_putMark_33 : decode cX8_putMark 33 = .ok (.iconst 1, 1) := by decide +kernel
theorem dX8_putMark_34 : decode cX8_putMark 34 = .ok (.putfield 82, 3) := by decide +kernel
theorem dX8_putMark_37 : decode cX8_putMark 37 = .ok (.aload_n 1, 1) := by decide +kernel
theorem dX8_putMark_38 : decode cX8_putMark 38 = .ok (.getfield 133, 3) := by decide +kernel
theorem dX8_putMark_41 : decode cX8_putMark 41 = .ok (.ireturn, 1) := by decide +kernel
theorem dX8_understand_0 : decode cX8_understand 0 = .ok (.iload_n 1, 1) := by decide +kernel
theorem dX8_understand_1 : decode cX8_understand 1 = .ok (.ifCond .ne 24, 3) := by decide +kernel
theorem dX8_understand_4 : decode cX8_understand 4 = .ok (.aload_n 0, 1) := by decide +kernel
theorem dX8_understand_5 : decode cX8_understand 5 = .ok (.getfield 21, 3) := by decide +kernel
theorem dX8_understand_8 : decode cX8_understand 8 = .ok (.aload_n 0, 1) := by decide +kernel
theorem dX8_understand_9 : decode cX8_understand 9 = .ok (.getfield 11, 3) := by decide +kernel
theorem dX8_understand_12 : decode cX8_understand 12 = .ok (.iconst 0, 1) := by decide +kernel
theorem dX8_understand_13 : decode cX8_understand 13 = .ok (.aaload, 1) := by decide +kernel
theorem dX8_understand_14 : decode cX8_understand 14 = .ok (.invokevirtual 155, 3) := by decide +kernel
theorem dX8_understand_17 : decode cX8_understand 17 = .ok (.aload_n 0, 1) := by decide +kernel
theorem dX8_understand_18 : decode cX8_understand 18 = .ok (.iconst 1, 1) := by decide +kernel
theorem dX8_understand_19 : decode cX8_understand 19 = .ok (.putfield 82, 3) := by decide +kernel
theorem dX8_understand_22 : decode cX8_understand 22 = .ok (.goto 16, 3) := by decide +kernel
theorem dX8_understand_25 : decode cX8_understand 25 = .ok (.aload_n 0, 1) := by decide +kernel
theorem dX8_understand_26 : decode cX8_understand 26 = .ok (.getfield 28, 3) := by decide +kernel
theorem dX8_understand_29 : decode cX8_understand 29 = .ok (.aload_n 0, 1) := by decide +kernel
theorem dX8_understand_30 : decode cX8_understand 30 = .ok (.getfield 11, 3) := by decide +kernel
theorem dX8_understand_33 : decode cX8_understand 33 = .ok (.iconst 1, 1) := by decide +kernel
theorem dX8_understand_34 : decode cX8_understand 34 = .ok (.aaload, 1) := by decide +kernel
theorem dX8_understand_35 : decode cX8_understand 35 = .ok (.invokevirtual 158, 3) := by decide +kernel
theorem dX8_understand_38 : decode cX8_understand 38 = .ok (.return_, 1) := by decide +kernel
theorem dX8_at_0 : decode cX8_at 0 = .ok (.iload_n 1, 1) := by decide +kernel
theorem dX8_at_1 : decode cX8_at 1 = .ok (.invokestatic 149, 3) := by decide +kernel
theorem dX8_at_4 : decode cX8_at 4 = .ok (.ifCond .eq 12, 3) := by decide +kernel
theorem dX8_at_7 : decode cX8_at 7 = .ok (.iload_n 2, 1) := by decide +kernel
theorem dX8_at_8 : decode cX8_at 8 = .ok (.bipush 24, 2) := by decide +kernel
theorem dX8_at_10 : decode cX8_at 10 = .ok (.invokestatic 90, 3) := by decide +kernel
theorem dX8_at_13 : decode cX8_at 13 = .ok (.ifCond .ne 6, 3) := by decide +kernel
theorem dX8_at_16 : decode cX8_at 16 = .ok (.bipush (-2), 2) := by decide +kernel
theorem dX8_at_18 : decode cX8_at 18 = .ok (.ireturn, 1) := by decide +kernel
theorem dX8_at_19 : decode cX8_at 19 = .ok (.aload_n 0, 1) := by decide +kernel
theorem dX8_at_20 : decode cX8_at 20 = .ok (.invokevirtual 159, 3) := by decide +kernel
theorem dX8_at_23 : decode cX8_at 23 = .ok (.iload_n 1, 1) := by decide +kernel
theorem dX8_at_24 : decode cX8_at 24 = .ok (.iload_n 2, 1) := by decide +kernel
theorem dX8_at_25 : decode cX8_at 25 = .ok (.invokevirtual 163, 3) := by decide +kernel
theorem dX8_at_28 : decode cX8_at 28 = .ok (.ireturn, 1) := by decide +kernel
theorem dX8_goes_0 : decode cX8_goes 0 = .ok (.iload_n 1, 1) := by decide +kernel
theorem dX8_goes_1 : decode cX8_goes 1 = .ok (.invokestatic 149, 3) := by decide +kernel
theorem dX8_goes_4 : decode cX8_goes 4 = .ok (.ifCond .eq 15, 3) := by decide +kernel
theorem dX8_goes_7 : decode cX8_goes 7 = .ok (.aload_n 0, 1) := by decide +kernel
theorem dX8_goes_8 : decode cX8_goes 8 = .ok (.invokevirtual 159, 3) := by decide +kernel
theorem dX8_goes_11 : decode cX8_goes 11 = .ok (.getfield 167, 3) := by decide +kernel
theorem dX8_goes_14 : decode cX8_goes 14 = .ok (.iload_n 1, 1) := by decide +kernel
theorem dX8_goes_15 : decode cX8_goes 15 = .ok (.iaload, 1) := by decide +kernel
theorem dX8_goes_16 : decode cX8_goes 16 = .ok (.goto 5, 3) := by decide +kernel
theorem dX8_goes_19 : decode cX8_goes 19 = .ok (.bipush (-2), 2) := by decide +kernel
theorem dX8_goes_21 : decode cX8_goes 21 = .ok (.ireturn, 1) := by decide +kernel
theorem dX8_line_0 : decode cX8_line 0 = .ok (.iload_n 1, 1) := by decide +kernel
theorem dX8_line_1 : decode cX8_line 1 = .ok (.invokestatic 149, 3) := by decide +kernel
theorem dX8_line_4 : decode cX8_line 4 = .ok (.ifCond .eq 19, 3) := by decide +kernel
theorem dX8_line_7 : decode cX8_line 7 = .ok (.iload_n 2, 1) := by decide +kernel
theorem dX8_line_8 : decode cX8_line 8 = .ok (.aload_n 0, 1) := by decide +kernel
theorem dX8_line_9 : decode cX8_line 9 = .ok (.getfield 21, 3) := by decide +kernel
theorem dX8_line_12 : decode cX8_line 12 = .ok (.getfield 170, 3) := by decide +kernel
theorem dX8_line_15 : decode cX8_line 15 = .ok (.iconst 1, 1) := by decide +kernel
theorem dX8_line_16 : decode cX8_line 16 = .ok (.isub, 1) := by decide +kernel
theorem dX8_line_17 : decode cX8_line 17 = .ok (.invokestatic 90, 3) := by decide +kernel
theorem dX8_line_20 : decode cX8_line 20 = .ok (.ifCond .ne 6, 3) := by decide +kernel
theorem dX8_line_23 : decode cX8_line 23 = .ok (.bipush (-2), 2) := by decide +kernel
theorem dX8_line_25 : decode cX8_line 25 = .ok (.ireturn, 1) := by decide +kernel
theorem dX8_line_26 : decode cX8_line 26 = .ok (.aload_n 0, 1) := by decide +kernel
theorem dX8_line_27 : decode cX8_line 27 = .ok (.invokevirtual 159, 3) := by decide +kernel
theorem dX8_line_30 : decode cX8_line 30 = .ok (.getfield 173, 3) := by decide +kernel
theorem dX8_line_33 : decode cX8_line 33 = .ok (.iload_n 1, 1) := by decide +kernel
theorem dX8_line_34 : decode cX8_line 34 = .ok (.bipush 6, 2) := by decide +kernel
theorem dX8_line_36 : decode cX8_line 36 = .ok (.imul, 1) := by decide +kernel
theorem dX8_line_37 : decode cX8_line 37 = .ok (.iload_n 2, 1) := by decide +kernel
theorem dX8_line_38 : decode cX8_line 38 = .ok (.iadd, 1) := by decide +kernel
theorem dX8_line_39 : decode cX8_line 39 = .ok (.iaload, 1) := by decide +kernel
theorem dX8_line_40 : decode cX8_line 40 = .ok (.ireturn, 1) := by decide +kernel
theorem dX8_realm_0 : decode cX8_realm 0 = .ok (.iload_n 1, 1) := by decide +kernel
theorem dX8_realm_1 : decode cX8_realm 1 = .ok (.invokestatic 149, 3) := by decide +kernel
theorem dX8_realm_4 : decode cX8_realm 4 = .ok (.ifCond .eq 19, 3) := by decide +kernel
theorem dX8_realm_7 : decode cX8_realm 7 = .ok (.iload_n 2, 1) := by decide +kernel
theorem dX8_realm_8 : decode cX8_realm 8 = .ok (.aload_n 0, 1) := by decide +kernel
theorem dX8_realm_9 : decode cX8_realm 9 = .ok (.getfield 21, 3) := by decide +kernel
theorem dX8_realm_12 : decode cX8_realm 12 = .ok (.getfield 108, 3) := by decide +kernel
theorem dX8_realm_15 : decode cX8_realm 15 = .ok (.iconst 1, 1) := by decide +kernel
theorem dX8_realm_16 : decode cX8_realm 16 = .ok (.isub, 1) := by decide +kernel
theorem dX8_realm_17 : decode cX8_realm 17 = .ok (.invokestatic 90, 3) := by decide +kernel
theorem dX8_realm_20 : decode cX8_realm 20 = .ok (.ifCond .ne 6, 3) := by decide +kernel
theorem dX8_realm_23 : decode cX8_realm 23 = .ok (.bipush (-2), 2) := by decide +kernel
theorem dX8_realm_25 : decode cX8_realm 25 = .ok (.ireturn, 1) := by decide +kernel
theorem dX8_realm_26 : decode cX8_realm 26 = .ok (.aload_n 0, 1) := by decide +kernel
theorem dX8_realm_27 : decode cX8_realm 27 = .ok (.invokevirtual 159, 3) := by decide +kernel
theorem dX8_realm_30 : decode cX8_realm 30 = .ok (.iload_n 1, 1) := by decide +kernel
