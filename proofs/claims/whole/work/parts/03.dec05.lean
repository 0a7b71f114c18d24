theorem dX9_beside_28 : decode cX9_beside 28 = .ok (.iload_n 2, 1) := by decide +kernel
theorem dX9_beside_29 : decode cX9_beside 29 = .ok (.iconst 1, 1) := by decide +kernel
theorem dX9_beside_30 : decode cX9_beside 30 = .ok (.if_icmp .ne 30, 3) := by decide +kernel
theorem dX9_beside_33 : decode cX9_beside 33 = .ok (.iload_n 1, 1) := by decide +kernel
theorem dX9_beside_34 : decode cX9_beside 34 = .ok (.aload_n 0, 1) := by decide +kernel
theorem dX9_beside_35 : decode cX9_beside 35 = .ok (.getfield 97, 3) := by decide +kernel
theorem dX9_beside_38 : decode cX9_beside 38 = .ok (.iadd, 1) := by decide +kernel
theorem dX9_beside_39 : decode cX9_beside 39 = .ok (.aload_n 0, 1) := by decide +kernel
theorem dX9_beside_40 : decode cX9_beside 40 = .ok (.getfield 94, 3) := by decide +kernel
theorem dX9_beside_43 : decode cX9_beside 43 = .ok (.if_icmp .ge 12, 3) := by decide +kernel
theorem dX9_beside_46 : decode cX9_beside 46 = .ok (.iload_n 1, 1) := by decide +kernel
theorem dX9_beside_47 : decode cX9_beside 47 = .ok (.aload_n 0, 1) := by decide +kernel
theorem dX9_beside_48 : decode cX9_beside 48 = .ok (.getfield 97, 3) := by decide +kernel
theorem dX9_beside_51 : decode cX9_beside 51 = .ok (.iadd, 1) := by decide +kernel
theorem dX9_beside_52 : decode cX9_beside 52 = .ok (.goto 4, 3) := by decide +kernel
theorem dX9_beside_55 : decode cX9_beside 55 = .ok (.iconst (-1), 1) := by decide +kernel
theorem dX9_beside_56 : decode cX9_beside 56 = .ok (.istore_n 3, 1) := by decide +kernel
theorem dX9_beside_57 : decode cX9_beside 57 = .ok (.goto 47, 3) := by decide +kernel
theorem dX9_beside_60 : decode cX9_beside 60 = .ok (.iload_n 2, 1) := by decide +kernel
theorem dX9_beside_61 : decode cX9_beside 61 = .ok (.iconst 2, 1) := by decide +kernel
theorem dX9_beside_62 : decode cX9_beside 62 = .ok (.if_icmp .ne 25, 3) := by decide +kernel
theorem dX9_beside_65 : decode cX9_beside 65 = .ok (.iload_n 1, 1) := by decide +kernel
theorem dX9_beside_66 : decode cX9_beside 66 = .ok (.aload_n 0, 1) := by decide +kernel
theorem dX9_beside_67 : decode cX9_beside 67 = .ok (.getfield 97, 3) := by decide +kernel
theorem dX9_beside_70 : decode cX9_beside 70 = .ok (.if_icmp .lt 12, 3) := by decide +kernel
theorem dX9_beside_73 : decode cX9_beside 73 = .ok (.iload_n 1, 1) := by decide +kernel
theorem dX9_beside_74 : decode cX9_beside 74 = .ok (.aload_n 0, 1) := by decide +kernel
theorem dX9_beside_75 : decode cX9_beside 75 = .ok (.getfield 97, 3) := by decide +kernel
theorem dX9_beside_78 : decode cX9_beside 78 = .ok (.isub, 1) := by decide +kernel
theorem dX9_beside_79 : decode cX9_beside 79 = .ok (.goto 4, 3) := by decide +kernel
theorem dX9_beside_82 : decode cX9_beside 82 = .ok (.iconst (-1), 1) := by decide +kernel
theorem dX9_beside_83 : decode cX9_beside 83 = .ok (.istore_n 3, 1) := by decide +kernel
theorem dX9_beside_84 : decode cX9_beside 84 = .ok (.goto 20, 3) := by decide +kernel
theorem dX9_beside_87 : decode cX9_beside 87 = .ok (.iload_n 1, 1) := by decide +kernel
theorem dX9_beside_88 : decode cX9_beside 88 = .ok (.aload_n 0, 1) := by decide +kernel
theorem dX9_beside_89 : decode cX9_beside 89 = .ok (.getfield 97, 3) := by decide +kernel
theorem dX9_beside_92 : decode cX9_beside 92 = .ok (.irem, 1) := by decide +kernel
theorem dX9_beside_93 : decode cX9_beside 93 = .ok (.ifCond .le 9, 3) := by decide +kernel
theorem dX9_beside_96 : decode cX9_beside 96 = .ok (.iload_n 1, 1) := by decide +kernel
theorem dX9_beside_97 : decode cX9_beside 97 = .ok (.iconst 1, 1) := by decide +kernel
theorem dX9_beside_98 : decode cX9_beside 98 = .ok (.isub, 1) := by decide +kernel
theorem dX9_beside_99 : decode cX9_beside 99 = .ok (.goto 4, 3) := by decide +kernel
theorem dX9_beside_102 : decode cX9_beside 102 = .ok (.iconst (-1), 1) := by decide +kernel
theorem dX9_beside_103 : decode cX9_beside 103 = .ok (.istore_n 3, 1) := by decide +kernel
theorem dX9_beside_104 : decode cX9_beside 104 = .ok (.iload_n 3, 1) := by decide +kernel
theorem dX9_beside_105 : decode cX9_beside 105 = .ok (.iconst (-1), 1) := by decide +kernel
theorem dX9_beside_106 : decode cX9_beside 106 = .ok (.if_icmp .eq 17, 3) := by decide +kernel
theorem dX9_beside_109 : decode cX9_beside 109 = .ok (.aload_n 0, 1) := by decide +kernel
theorem dX9_beside_110 : decode cX9_beside 110 = .ok (.getfield 28, 3) := by decide +kernel
theorem dX9_beside_113 : decode cX9_beside 113 = .ok (.iload_n 3, 1) := by decide +kernel
theorem dX9_beside_114 : decode cX9_beside 114 = .ok (.iaload, 1) := by decide +kernel
theorem dX9_beside_115 : decode cX9_beside 115 = .ok (.iconst 1, 1) := by decide +kernel
theorem dX9_beside_116 : decode cX9_beside 116 = .ok (.if_icmp .ne 7, 3) := by decide +kernel
theorem dX9_beside_119 : decode cX9_beside 119 = .ok (.iconst (-1), 1) := by decide +kernel
theorem dX9_beside_120 : decode cX9_beside 120 = .ok (.goto 4, 3) := by decide +kernel
theorem dX9_beside_123 : decode cX9_beside 123 = .ok (.iload_n 3, 1) := by decide +kernel
theorem dX9_beside_124 : decode cX9_beside 124 = .ok (.ireturn, 1) := by decide +kernel
theorem dX9_wasOn_0 : decode cX9_wasOn 0 = .ok (.iconst 0, 1) := by decide +kernel
theorem dX9_wasOn_1 : decode cX9_wasOn 1 = .ok (.istore 4, 2) := by decide +kernel
theorem dX9_wasOn_3 : decode cX9_wasOn 3 = .ok (.iconst 0, 1) := by decide +kernel
theorem dX9_wasOn_4 : decode cX9_wasOn 4 = .ok (.istore 5, 2) := by decide +kernel
theorem dX9_wasOn_6 : decode cX9_wasOn 6 = .ok (.iload 5, 2) := by decide +kernel
theorem dX9_wasOn_8 : decode cX9_wasOn 8 = .ok (.iload_n 3, 1) := by decide +kernel
theorem dX9_wasOn_9 : decode cX9_wasOn 9 = .ok (.if_icmp .gt 37, 3) := by decide +kernel
theorem dX9_wasOn_12 : decode cX9_wasOn 12 = .ok (.iload 4, 2) := by decide +kernel
theorem dX9_wasOn_14 : decode cX9_wasOn 14 = .ok (.ifCond .ne 19, 3) := by decide +kernel
theorem dX9_wasOn_17 : decode cX9_wasOn 17 = .ok (.aload_n 0, 1) := by decide +kernel
theorem dX9_wasOn_18 : decode cX9_wasOn 18 = .ok (.getfield 43, 3) := by decide +kernel
theorem dX9_wasOn_21 : decode cX9_wasOn 21 = .ok (.bipush 25, 2) := by decide +kernel
theorem dX9_wasOn_23 : decode cX9_wasOn 23 = .ok (.iload_n 1, 1) := by decide +kernel
theorem dX9_wasOn_24 : decode cX9_wasOn 24 = .ok (.imul, 1) := by decide +kernel
theorem dX9_wasOn_25 : decode cX9_wasOn 25 = .ok (.iload 5, 2) := by decide +kernel
theorem dX9_wasOn_27 : decode cX9_wasOn 27 = .ok (.iadd, 1) := by decide +kernel
theorem dX9_wasOn_28 : decode cX9_wasOn 28 = .ok (.iaload, 1) := by decide +kernel
theorem dX9_wasOn_29 : decode cX9_wasOn 29 = .ok (.iload_n 2, 1) := by decide +kernel
theorem dX9_wasOn_30 : decode cX9_wasOn 30 = .ok (.if_icmp .ne 7, 3) := by decide +kernel
theorem dX9_wasOn_33 : decode cX9_wasOn 33 = .ok (.iconst 1, 1) := by decide +kernel
theorem dX9_wasOn_34 : decode cX9_wasOn 34 = .ok (.goto 4, 3) := by decide +kernel
theorem dX9_wasOn_37 : decode cX9_wasOn 37 = .ok (.iconst 0, 1) := by decide +kernel
theorem dX9_wasOn_38 : decode cX9_wasOn 38 = .ok (.istore 4, 2) := by decide +kernel
theorem dX9_wasOn_40 : decode cX9_wasOn 40 = .ok (.iinc 5 1, 3) := by decide +kernel
theorem dX9_wasOn_43 : decode cX9_wasOn 43 = .ok (.goto (-37), 3) := by decide +kernel
theorem dX9_wasOn_46 : decode cX9_wasOn 46 = .ok (.iload 4, 2) := by decide +kernel
theorem dX9_wasOn_48 : decode cX9_wasOn 48 = .ok (.ireturn, 1) := by decide +kernel
theorem dX9_worth_0 : decode cX9_worth 0 = .ok (.aload_n 0, 1) := by decide +kernel
theorem dX9_worth_1 : decode cX9_worth 1 = .ok (.iload_n 1, 1) := by decide +kernel
theorem dX9_worth_2 : decode cX9_worth 2 = .ok (.iload_n 2, 1) := by decide +kernel
theorem dX9_worth_3 : decode cX9_worth 3 = .ok (.iload_n 3, 1) := by decide +kernel
theorem dX9_worth_4 : decode cX9_worth 4 = .ok (.invokevirtual 148, 3) := by decide +kernel
theorem dX9_worth_7 : decode cX9_worth 7 = .ok (.ifCond .ne 7, 3) := by decide +kernel
theorem dX9_worth_10 : decode cX9_worth 10 = .ok (.iconst 1, 1) := by decide +kernel
theorem dX9_worth_11 : decode cX9_worth 11 = .ok (.goto 4, 3) := by decide +kernel
theorem dX9_worth_14 : decode cX9_worth 14 = .ok (.iconst 0, 1) := by decide +kernel
theorem dX9_worth_15 : decode cX9_worth 15 = .ok (.istore 4, 2) := by decide +kernel
theorem dX9_worth_17 : decode cX9_worth 17 = .ok (.aload_n 0, 1) := by decide +kernel
theorem dX9_worth_18 : decode cX9_worth 18 = .ok (.getfield 28, 3) := by decide +kernel
theorem dX9_worth_21 : decode cX9_worth 21 = .ok (.iload_n 2, 1) := by decide +kernel
theorem dX9_worth_22 : decode cX9_worth 22 = .ok (.iaload, 1) := by decide +kernel
theorem dX9_worth_23 : decode cX9_worth 23 = .ok (.iconst 2, 1) := by decide +kernel
theorem dX9_worth_24 : decode cX9_worth 24 = .ok (.if_icmp .ne 7, 3) := by decide +kernel
theorem dX9_worth_27 : decode cX9_worth 27 = .ok (.iconst 2, 1) := by decide +kernel
theorem dX9_worth_28 : decode cX9_worth 28 = .ok (.goto 23, 3) := by decide +kernel
theorem dX9_worth_31 : decode cX9_worth 31 = .ok (.aload_n 0, 1) := by decide +kernel
theorem dX9_worth_32 : decode cX9_worth 32 = .ok (.getfield 28, 3) := by decide +kernel
theorem dX9_worth_35 : decode cX9_worth 35 = .ok (.iload_n 2, 1) := by decide +kernel
theorem dX9_worth_36 : decode cX9_worth 36 = .ok (.iaload, 1) := by decide +kernel
theorem dX9_worth_37 : decode cX9_worth 37 = .ok (.iconst 3, 1) := by decide +kernel
theorem dX9_worth_38 : decode cX9_worth 38 = .ok (.if_icmp .ne 12, 3) := by decide +kernel
theorem dX9_worth_41 : decode cX9_worth 41 = .ok (.iload 4, 2) := by decide +kernel
theorem dX9_worth_43 : decode cX9_worth 43 = .ok (.ifCond .eq 7, 3) := by decide +kernel
theorem dX9_worth_46 : decode cX9_worth 46 = .ok (.iconst 3, 1) := by decide +kernel
theorem dX9_worth_47 : decode cX9_worth 47 = .ok (.goto 4, 3) := by decide +kernel
theorem dX9_worth_50 : decode cX9_worth 50 = .ok (.iconst 0, 1) := by decide +kernel
theorem dX9_worth_51 : decode cX9_worth 51 = .ok (.istore 5, 2) := by decide +kernel
theorem dX9_worth_53 : decode cX9_worth 53 = .ok (.iconst 0, 1) := by decide +kernel
theorem dX9_worth_54 : decode cX9_worth 54 = .ok (.istore 6, 2) := by decide +kernel
theorem dX9_worth_56 : decode cX9_worth 56 = .ok (.iload 6, 2) := by decide +kernel
theorem dX9_worth_58 : decode cX9_worth 58 = .ok (.aload_n 0, 1) := by decide +kernel
theorem dX9_worth_59 : decode cX9_worth 59 = .ok (.getfield 133, 3) := by decide +kernel
theorem dX9_worth_62 : decode cX9_worth 62 = .ok (.if_icmp .ge 64, 3) := by decide +kernel
theorem dX9_worth_65 : decode cX9_worth 65 = .ok (.iload 5, 2) := by decide +kernel
theorem dX9_worth_67 : decode cX9_worth 67 = .ok (.iload 4, 2) := by decide +kernel
theorem dX9_worth_69 : decode cX9_worth 69 = .ok (.ifCond .eq 47, 3) := by decide +kernel
theorem dX9_worth_72 : decode cX9_worth 72 = .ok (.aload_n 0, 1) := by decide +kernel
theorem dX9_worth_73 : decode cX9_worth 73 = .ok (.getfield 152, 3) := by decide +kernel
theorem dX9_worth_76 : decode cX9_worth 76 = .ok (.iload 6, 2) := by decide +kernel
theorem dX9_worth_78 : decode cX9_worth 78 = .ok (.invokestatic 155, 3) := by decide +kernel
theorem dX9_worth_81 : decode cX9_worth 81 = .ok (.ifCond .ne 35, 3) := by decide +kernel
theorem dX9_worth_84 : decode cX9_worth 84 = .ok (.aload_n 0, 1) := by decide +kernel
theorem dX9_worth_85 : decode cX9_worth 85 = .ok (.getfield 37, 3) := by decide +kernel
theorem dX9_worth_88 : decode cX9_worth 88 = .ok (.iconst 2, 1) := by decide +kernel
theorem dX9_worth_89 : decode cX9_worth 89 = .ok (.iload 6, 2) := by decide +kernel
theorem dX9_worth_91 : decode cX9_worth 91 = .ok (.imul, 1) := by decide +kernel
theorem dX9_worth_92 : decode cX9_worth 92 = .ok (.iaload, 1) := by decide +kernel
theorem dX9_worth_93 : decode cX9_worth 93 = .ok (.iload_n 1, 1) := by decide +kernel
theorem dX9_worth_94 : decode cX9_worth 94 = .ok (.if_icmp .ne 22, 3) := by decide +kernel
theorem dX9_worth_97 : decode cX9_worth 97 = .ok (.aload_n 0, 1) := by decide +kernel
theorem dX9_worth_98 : decode cX9_worth 98 = .ok (.getfield 37, 3) := by decide +kernel
theorem dX9_worth_101 : decode cX9_worth 101 = .ok (.iconst 2, 1) := by decide +kernel
theorem dX9_worth_102 : decode cX9_worth 102 = .ok (.iload 6, 2) := by decide +kernel
theorem dX9_worth_104 : decode cX9_worth 104 = .ok (.imul, 1) := by decide +kernel
theorem dX9_worth_105 : decode cX9_worth 105 = .ok (.iconst 1, 1) := by decide +kernel
theorem dX9_worth_106 : decode cX9_worth 106 = .ok (.iadd, 1) := by decide +kernel
theorem dX9_worth_107 : decode cX9_worth 107 = .ok (.iaload, 1) := by decide +kernel
theorem dX9_worth_108 : decode cX9_worth 108 = .ok (.iload_n 2, 1) := by decide +kernel
theorem dX9_worth_109 : decode cX9_worth 109 = .ok (.if_icmp .ne 7, 3) := by decide +kernel
theorem dX9_worth_112 : decode cX9_worth 112 = .ok (.iconst 4, 1) := by decide +kernel
theorem dX9_worth_113 : decode cX9_worth 113 = .ok (.goto 4, 3) := by decide +kernel
theorem dX9_worth_116 : decode cX9_worth 116 = .ok (.iconst 0, 1) := by decide +kernel
theorem dX9_worth_117 : decode cX9_worth 117 = .ok (.iadd, 1) := by decide +kernel
theorem dX9_worth_118 : decode cX9_worth 118 = .ok (.istore 5, 2) := by decide +kernel
theorem dX9_worth_120 : decode cX9_worth 120 = .ok (.iinc 6 1, 3) := by decide +kernel
theorem dX9_worth_123 : decode cX9_worth 123 = .ok (.goto (-67), 3) := by decide +kernel
theorem dX9_worth_126 : decode cX9_worth 126 = .ok (.iconst 0, 1) := by decide +kernel
theorem dX9_worth_127 : decode cX9_worth 127 = .ok (.istore 6, 2) := by decide +kernel
theorem dX9_worth_129 : decode cX9_worth 129 = .ok (.iload 6, 2) := by decide +kernel
theorem dX9_worth_131 : decode cX9_worth 131 = .ok (.aload_n 0, 1) := by decide +kernel
theorem dX9_worth_132 : decode cX9_worth 132 = .ok (.getfield 143, 3) := by decide +kernel
theorem dX9_worth_135 : decode cX9_worth 135 = .ok (.if_icmp .ge 47, 3) := by decide +kernel
theorem dX9_worth_138 : decode cX9_worth 138 = .ok (.iload 5, 2) := by decide +kernel
theorem dX9_worth_140 : decode cX9_worth 140 = .ok (.aload_n 0, 1) := by decide +kernel
theorem dX9_worth_141 : decode cX9_worth 141 = .ok (.getfield 40, 3) := by decide +kernel
theorem dX9_worth_144 : decode cX9_worth 144 = .ok (.iconst 2, 1) := by decide +kernel
theorem dX9_worth_145 : decode cX9_worth 145 = .ok (.iload 6, 2) := by decide +kernel
theorem dX9_worth_147 : decode cX9_worth 147 = .ok (.imul, 1) := by decide +kernel
theorem dX9_worth_148 : decode cX9_worth 148 = .ok (.iaload, 1) := by decide +kernel
theorem dX9_worth_149 : decode cX9_worth 149 = .ok (.iload_n 1, 1) := by decide +kernel
theorem dX9_worth_150 : decode cX9_worth 150 = .ok (.if_icmp .ne 22, 3) := by decide +kernel
theorem dX9_worth_153 : decode cX9_worth 153 = .ok (.aload_n 0, 1) := by decide +kernel
theorem dX9_worth_154 : decode cX9_worth 154 = .ok (.getfield 40, 3) := by decide +kernel
theorem dX9_worth_157 : decode cX9_worth 157 = .ok (.iconst 2, 1) := by decide +kernel
theorem dX9_worth_158 : decode cX9_worth 158 = .ok (.iload 6, 2) := by decide +kernel
theorem dX9_worth_160 : decode cX9_worth 160 = .ok (.imul, 1) := by decide +kernel
theorem dX9_worth_161 : decode cX9_worth 161 = .ok (.iconst 1, 1) := by decide +kernel
theorem dX9_worth_162 : decode cX9_worth 162 = .ok (.iadd, 1) := by decide +kernel
theorem dX9_worth_163 : decode cX9_worth 163 = .ok (.iaload, 1) := by decide +kernel
theorem dX9_worth_164 : decode cX9_worth 164 = .ok (.iload_n 2, 1) := by decide +kernel
theorem dX9_worth_165 : decode cX9_worth 165 = .ok (.if_icmp .ne 7, 3) := by decide +kernel
theorem dX9_worth_168 : decode cX9_worth 168 = .ok (.iconst 5, 1) := by decide +kernel
theorem dX9_worth_169 : decode cX9_worth 169 = .ok (.goto 4, 3) := by decide +kernel
theorem dX9_worth_172 : decode cX9_worth 172 = .ok (.iconst 0, 1) := by decide +kernel
theorem dX9_worth_173 : decode cX9_worth 173 = .ok (.isub, 1) := by decide +kernel
theorem dX9_worth_174 : decode cX9_worth 174 = .ok (.istore 5, 2) := by decide +kernel
theorem dX9_worth_176 : decode cX9_worth 176 = .ok (.iinc 6 1, 3) := by decide +kernel
theorem dX9_worth_179 : decode cX9_worth 179 = .ok (.goto (-50), 3) := by decide +kernel
theorem dX9_worth_182 : decode cX9_worth 182 = .ok (.iload 5, 2) := by decide +kernel
theorem dX9_worth_184 : decode cX9_worth 184 = .ok (.iload_n 1, 1) := by decide +kernel
theorem dX9_worth_185 : decode cX9_worth 185 = .ok (.ifCond .le 26, 3) := by decide +kernel
theorem dX9_worth_188 : decode cX9_worth 188 = .ok (.aload_n 0, 1) := by decide +kernel
theorem dX9_worth_189 : decode cX9_worth 189 = .ok (.iload_n 1, 1) := by decide +kernel
theorem dX9_worth_190 : decode cX9_worth 190 = .ok (.iconst 1, 1) := by decide +kernel
theorem dX9_worth_191 : decode cX9_worth 191 = .ok (.isub, 1) := by decide +kernel
theorem dX9_worth_192 : decode cX9_worth 192 = .ok (.iload_n 2, 1) := by decide +kernel
theorem dX9_worth_193 : decode cX9_worth 193 = .ok (.aload_n 0, 1) := by decide +kernel
theorem dX9_worth_194 : decode cX9_worth 194 = .ok (.getfield 46, 3) := by decide +kernel
theorem dX9_worth_197 : decode cX9_worth 197 = .ok (.iload_n 1, 1) := by decide +kernel
theorem dX9_worth_198 : decode cX9_worth 198 = .ok (.iconst 1, 1) := by decide +kernel
theorem dX9_worth_199 : decode cX9_worth 199 = .ok (.isub, 1) := by decide +kernel
theorem dX9_worth_200 : decode cX9_worth 200 = .ok (.iaload, 1) := by decide +kernel
theorem dX9_worth_201 : decode cX9_worth 201 = .ok (.invokevirtual 148, 3) := by decide +kernel
theorem dX9_worth_204 : decode cX9_worth 204 = .ok (.ifCond .eq 7, 3) := by decide +kernel
theorem dX9_worth_207 : decode cX9_worth 207 = .ok (.iconst 1, 1) := by decide +kernel
theorem dX9_worth_208 : decode cX9_worth 208 = .ok (.goto 4, 3) := by decide +kernel
theorem dX9_worth_211 : decode cX9_worth 211 = .ok (.iconst 0, 1) := by decide +kernel
theorem dX9_worth_212 : decode cX9_worth 212 = .ok (.iadd, 1) := by decide +kernel
theorem dX9_worth_213 : decode cX9_worth 213 = .ok (.ireturn, 1) := by decide +kernel
theorem dX9_next_0 : decode cX9_next 0 = .ok (.aload_n 0, 1) := by decide +kernel
theorem dX9_next_1 : decode cX9_next 1 = .ok (.getfield 43, 3) := by decide +kernel
theorem dX9_next_4 : decode cX9_next 4 = .ok (.bipush 25, 2) := by decide +kernel
theorem dX9_next_6 : decode cX9_next 6 = .ok (.iload_n 1, 1) := by decide +kernel
theorem dX9_next_7 : decode cX9_next 7 = .ok (.imul, 1) := by decide +kernel
theorem dX9_next_8 : decode cX9_next 8 = .ok (.iload_n 2, 1) := by decide +kernel
theorem dX9_next_9 : decode cX9_next 9 = .ok (.iadd, 1) := by decide +kernel
theorem dX9_next_10 : decode cX9_next 10 = .ok (.iaload, 1) := by decide +kernel
theorem dX9_next_11 : decode cX9_next 11 = .ok (.istore_n 3, 1) := by decide +kernel
theorem dX9_next_12 : decode cX9_next 12 = .ok (.iload_n 2, 1) := by decide +kernel
theorem dX9_next_13 : decode cX9_next 13 = .ok (.ifCond .ne 7, 3) := by decide +kernel
theorem dX9_next_16 : decode cX9_next 16 = .ok (.iconst (-1), 1) := by decide +kernel
theorem dX9_next_17 : decode cX9_next 17 = .ok (.goto 16, 3) := by decide +kernel
theorem dX9_next_20 : decode cX9_next 20 = .ok (.aload_n 0, 1) := by decide +kernel
theorem dX9_next_21 : decode cX9_next 21 = .ok (.getfield 43, 3) := by decide +kernel
theorem dX9_next_24 : decode cX9_next 24 = .ok (.bipush 25, 2) := by decide +kernel
theorem dX9_next_26 : decode cX9_next 26 = .ok (.iload_n 1, 1) := by decide +kernel
theorem dX9_next_27 : decode cX9_next 27 = .ok (.imul, 1) := by decide +kernel
theorem dX9_next_28 : decode cX9_next 28 = .ok (.iload_n 2, 1) := by decide +kernel
theorem dX9_next_29 : decode cX9_next 29 = .ok (.iadd, 1) := by decide +kernel
theorem dX9_next_30 : decode cX9_next 30 = .ok (.iconst 1, 1) := by decide +kernel
theorem dX9_next_31 : decode cX9_next 31 = .ok (.isub, 1) := by decide +kernel
theorem dX9_next_32 : decode cX9_next 32 = .ok (.iaload, 1) := by decide +kernel
theorem dX9_next_33 : decode cX9_next 33 = .ok (.istore 4, 2) := by decide +kernel
theorem dX9_next_35 : decode cX9_next 35 = .ok (.iconst (-1), 1) := by decide +kernel
theorem dX9_next_36 : decode cX9_next 36 = .ok (.istore 5, 2) := by decide +kernel
theorem dX9_next_38 : decode cX9_next 38 = .ok (.iconst 0, 1) := by decide +kernel
theorem dX9_next_39 : decode cX9_next 39 = .ok (.istore 6, 2) := by decide +kernel
theorem dX9_next_41 : decode cX9_next 41 = .ok (.iconst 0, 1) := by decide +kernel
theorem dX9_next_42 : decode cX9_next 42 = .ok (.istore 7, 2) := by decide +kernel
theorem dX9_next_44 : decode cX9_next 44 = .ok (.iload 7, 2) := by decide +kernel
theorem dX9_next_46 : decode cX9_next 46 = .ok (.iconst 4, 1) := by decide +kernel
theorem dX9_next_47 : decode cX9_next 47 = .ok (.if_icmp .ge 89, 3) := by decide +kernel
theorem dX9_next_50 : decode cX9_next 50 = .ok (.aload_n 0, 1) := by decide +kernel
theorem dX9_next_51 : decode cX9_next 51 = .ok (.iload_n 3, 1) := by decide +kernel
theorem dX9_next_52 : decode cX9_next 52 = .ok (.iload 7, 2) := by decide +kernel
theorem dX9_next_54 : decode cX9_next 54 = .ok (.invokevirtual 159, 3) := by decide +kernel
theorem dX9_next_57 : decode cX9_next 57 = .ok (.istore 8, 2) := by decide +kernel
theorem dX9_next_59 : decode cX9_next 59 = .ok (.iload 8, 2) := by decide +kernel
theorem dX9_next_61 : decode cX9_next 61 = .ok (.iconst (-1), 1) := by decide +kernel
theorem dX9_next_62 : decode cX9_next 62 = .ok (.if_icmp .eq 68, 3) := by decide +kernel
theorem dX9_next_65 : decode cX9_next 65 = .ok (.iload 8, 2) := by decide +kernel
theorem dX9_next_67 : decode cX9_next 67 = .ok (.iload 4, 2) := by decide +kernel
theorem dX9_next_69 : decode cX9_next 69 = .ok (.if_icmp .eq 61, 3) := by decide +kernel
theorem dX9_next_72 : decode cX9_next 72 = .ok (.aload_n 0, 1) := by decide +kernel
theorem dX9_next_73 : decode cX9_next 73 = .ok (.iload_n 1, 1) := by decide +kernel
theorem dX9_next_74 : decode cX9_next 74 = .ok (.iload 8, 2) := by decide +kernel
theorem dX9_next_76 : decode cX9_next 76 = .ok (.iload_n 2, 1) := by decide +kernel
theorem dX9_next_77 : decode cX9_next 77 = .ok (.invokevirtual 162, 3) := by decide +kernel
theorem dX9_next_80 : decode cX9_next 80 = .ok (.istore 9, 2) := by decide +kernel
theorem dX9_next_82 : decode cX9_next 82 = .ok (.iload 5, 2) := by decide +kernel
theorem dX9_next_84 : decode cX9_next 84 = .ok (.iconst (-1), 1) := by decide +kernel
theorem dX9_next_85 : decode cX9_next 85 = .ok (.if_icmp .eq 10, 3) := by decide +kernel
theorem dX9_next_88 : decode cX9_next 88 = .ok (.iload 9, 2) := by decide +kernel
theorem dX9_next_90 : decode cX9_next 90 = .ok (.iload 6, 2) := by decide +kernel
theorem dX9_next_92 : decode cX9_next 92 = .ok (.if_icmp .le 7, 3) := by decide +kernel
theorem dX9_next_95 : decode cX9_next 95 = .ok (.iconst 1, 1) := by decide +kernel
theorem dX9_next_96 : decode cX9_next 96 = .ok (.goto 4, 3) := by decide +kernel
theorem dX9_next_99 : decode cX9_next 99 = .ok (.iconst 0, 1) := by decide +kernel
theorem dX9_next_100 : decode cX9_next 100 = .ok (.istore 10, 2) := by decide +kernel
theorem dX9_next_102 : decode cX9_next 102 = .ok (.iload 10, 2) := by decide +kernel
theorem dX9_next_104 : decode cX9_next 104 = .ok (.ifCond .eq 8, 3) := by decide +kernel
theorem dX9_next_107 : decode cX9_next 107 = .ok (.iload 8, 2) := by decide +kernel
theorem dX9_next_109 : decode cX9_next 109 = .ok (.goto 5, 3) := by decide +kernel
theorem dX9_next_112 : decode cX9_next 112 = .ok (.iload 5, 2) := by decide +kernel
theorem dX9_next_114 : decode cX9_next 114 = .ok (.istore 5, 2) := by decide +kernel
theorem dX9_next_116 : decode cX9_next 116 = .ok (.iload 10, 2) := by decide +kernel
theorem dX9_next_118 : decode cX9_next 118 = .ok (.ifCond .eq 8, 3) := by decide +kernel
theorem dX9_next_121 : decode cX9_next 121 = .ok (.iload 9, 2) := by decide +kernel
theorem dX9_next_123 : decode cX9_next 123 = .ok (.goto 5, 3) := by decide +kernel
theorem dX9_next_126 : decode cX9_next 126 = .ok (.iload 6, 2) := by decide +kernel
theorem dX9_next_128 : decode cX9_next 128 = .ok (.istore 6, 2) := by decide +kernel
theorem dX9_next_130 : decode cX9_next 130 = .ok (.iinc 7 1, 3) := by decide +kernel
theorem dX9_next_133 : decode cX9_next 133 = .ok (.goto (-89), 3) := by decide +kernel
theorem dX9_next_136 : decode cX9_next 136 = .ok (.iload 5, 2) := by decide +kernel
theorem dX9_next_138 : decode cX9_next 138 = .ok (.iconst (-1), 1) := by decide +kernel
theorem dX9_next_139 : decode cX9_next 139 = .ok (.if_icmp .ne 8, 3) := by decide +kernel
theorem dX9_next_142 : decode cX9_next 142 = .ok (.iload 4, 2) := by decide +kernel
theorem dX9_next_144 : decode cX9_next 144 = .ok (.goto 5, 3) := by decide +kernel
theorem dX9_next_147 : decode cX9_next 147 = .ok (.iload 5, 2) := by decide +kernel
theorem dX9_next_149 : decode cX9_next 149 = .ok (.ireturn, 1) := by decide +kernel
theorem dX9_walks_0 : decode cX9_walks 0 = .ok (.aload_n 0, 1) := by decide +kernel
theorem dX9_walks_1 : decode cX9_walks 1 = .ok (.getfield 34, 3) := by decide +kernel
theorem dX9_walks_4 : decode cX9_walks 4 = .ok (.iconst 0, 1) := by decide +kernel
theorem dX9_walks_5 : decode cX9_walks 5 = .ok (.iaload, 1) := by decide +kernel
theorem dX9_walks_6 : decode cX9_walks 6 = .ok (.aload_n 0, 1) := by decide +kernel
theorem dX9_walks_7 : decode cX9_walks 7 = .ok (.getfield 97, 3) := by decide +kernel
theorem dX9_walks_10 : decode cX9_walks 10 = .ok (.imul, 1) := by decide +kernel
theorem dX9_walks_11 : decode cX9_walks 11 = .ok (.istore_n 2, 1) := by decide +kernel
theorem dX9_walks_12 : decode cX9_walks 12 = .ok (.aload_n 0, 1) := by decide +kernel
theorem dX9_walks_13 : decode cX9_walks 13 = .ok (.getfield 46, 3) := by decide +kernel
theorem dX9_walks_16 : decode cX9_walks 16 = .ok (.iload_n 1, 1) := by decide +kernel
theorem dX9_walks_17 : decode cX9_walks 17 = .ok (.iconst (-1), 1) := by decide +kernel
theorem dX9_walks_18 : decode cX9_walks 18 = .ok (.iastore, 1) := by decide +kernel
theorem dX9_walks_19 : decode cX9_walks 19 = .ok (.iload_n 1, 1) := by decide +kernel
theorem dX9_walks_20 : decode cX9_walks 20 = .ok (.aload_n 0, 1) := by decide +kernel
theorem dX9_walks_21 : decode cX9_walks 21 = .ok (.getfield 34, 3) := by decide +kernel
theorem dX9_walks_24 : decode cX9_walks 24 = .ok (.iconst 1, 1) := by decide +kernel
theorem dX9_walks_25 : decode cX9_walks 25 = .ok (.iaload, 1) := by decide +kernel
theorem dX9_walks_26 : decode cX9_walks 26 = .ok (.if_icmp .ge 21, 3) := by decide +kernel
theorem dX9_walks_29 : decode cX9_walks 29 = .ok (.aload_n 0, 1) := by decide +kernel
theorem dX9_walks_30 : decode cX9_walks 30 = .ok (.iload_n 2, 1) := by decide +kernel
theorem dX9_walks_31 : decode cX9_walks 31 = .ok (.invokevirtual 165, 3) := by decide +kernel
theorem dX9_walks_34 : decode cX9_walks 34 = .ok (.ifCond .eq 13, 3) := by decide +kernel
theorem dX9_walks_37 : decode cX9_walks 37 = .ok (.aload_n 0, 1) := by decide +kernel
theorem dX9_walks_38 : decode cX9_walks 38 = .ok (.getfield 28, 3) := by decide +kernel
theorem dX9_walks_41 : decode cX9_walks 41 = .ok (.iload_n 2, 1) := by decide +kernel
theorem dX9_walks_42 : decode cX9_walks 42 = .ok (.iaload, 1) := by decide +kernel
theorem dX9_walks_43 : decode cX9_walks 43 = .ok (.iconst 1, 1) := by decide +kernel
theorem dX9_walks_44 : decode cX9_walks 44 = .ok (.if_icmp .ne 4, 3) := by decide +kernel
theorem dX9_walks_47 : decode cX9_walks 47 = .ok (.return_, 1) := by decide +kernel
theorem dX9_walks_48 : decode cX9_walks 48 = .ok (.aload_n 0, 1) := by decide +kernel
theorem dX9_walks_49 : decode cX9_walks 49 = .ok (.getfield 46, 3) := by decide +kernel
theorem dX9_walks_52 : decode cX9_walks 52 = .ok (.iload_n 1, 1) := by decide +kernel
theorem dX9_walks_53 : decode cX9_walks 53 = .ok (.iconst 0, 1) := by decide +kernel
theorem dX9_walks_54 : decode cX9_walks 54 = .ok (.iastore, 1) := by decide +kernel
theorem dX9_walks_55 : decode cX9_walks 55 = .ok (.aload_n 0, 1) := by decide +kernel
theorem dX9_walks_56 : decode cX9_walks 56 = .ok (.getfield 43, 3) := by decide +kernel
theorem dX9_walks_59 : decode cX9_walks 59 = .ok (.bipush 25, 2) := by decide +kernel
theorem dX9_walks_61 : decode cX9_walks 61 = .ok (.iload_n 1, 1) := by decide +kernel
theorem dX9_walks_62 : decode cX9_walks 62 = .ok (.imul, 1) := by decide +kernel
theorem dX9_walks_63 : decode cX9_walks 63 = .ok (.iload_n 2, 1) := by decide +kernel
theorem dX9_walks_64 : decode cX9_walks 64 = .ok (.iastore, 1) := by decide +kernel
theorem dX9_walks_65 : decode cX9_walks 65 = .ok (.iconst 1, 1) := by decide +kernel
theorem dX9_walks_66 : decode cX9_walks 66 = .ok (.istore_n 3, 1) := by decide +kernel
theorem dX9_walks_67 : decode cX9_walks 67 = .ok (.iload_n 3, 1) := by decide +kernel
theorem dX9_walks_68 : decode cX9_walks 68 = .ok (.ifCond .eq 100, 3) := by decide +kernel
theorem dX9_walks_71 : decode cX9_walks 71 = .ok (.aload_n 0, 1) := by decide +kernel
theorem dX9_walks_72 : decode cX9_walks 72 = .ok (.getfield 46, 3) := by decide +kernel
theorem dX9_walks_75 : decode cX9_walks 75 = .ok (.iload_n 1, 1) := by decide +kernel
theorem dX9_walks_76 : decode cX9_walks 76 = .ok (.iaload, 1) := by decide +kernel
theorem dX9_walks_77 : decode cX9_walks 77 = .ok (.bipush 24, 2) := by decide +kernel
theorem dX9_walks_79 : decode cX9_walks 79 = .ok (.if_icmp .ge 89, 3) := by decide +kernel
theorem dX9_walks_82 : decode cX9_walks 82 = .ok (.aload_n 0, 1) := by decide +kernel
theorem dX9_walks_83 : decode cX9_walks 83 = .ok (.getfield 43, 3) := by decide +kernel
theorem dX9_walks_86 : decode cX9_walks 86 = .ok (.bipush 25, 2) := by decide +kernel
theorem dX9_walks_88 : decode cX9_walks 88 = .ok (.iload_n 1, 1) := by decide +kernel
theorem dX9_walks_89 : decode cX9_walks 89 = .ok (.imul, 1) := by decide +kernel
theorem dX9_walks_90 : decode cX9_walks 90 = .ok (.aload_n 0, 1) := by decide +kernel
theorem dX9_walks_91 : decode cX9_walks 91 = .ok (.getfield 46, 3) := by decide +kernel
theorem dX9_walks_94 : decode cX9_walks 94 = .ok (.iload_n 1, 1) := by decide +kernel
theorem dX9_walks_95 : decode cX9_walks 95 = .ok (.iaload, 1) := by decide +kernel
theorem dX9_walks_96 : decode cX9_walks 96 = .ok (.iadd, 1) := by decide +kernel
theorem dX9_walks_97 : decode cX9_walks 97 = .ok (.iaload, 1) := by decide +kernel
theorem dX9_walks_98 : decode cX9_walks 98 = .ok (.iconst 1, 1) := by decide +kernel
theorem dX9_walks_99 : decode cX9_walks 99 = .ok (.iadd, 1) := by decide +kernel
theorem dX9_walks_100 : decode cX9_walks 100 = .ok (.aload_n 0, 1) := by decide +kernel
theorem dX9_walks_101 : decode cX9_walks 101 = .ok (.getfield 97, 3) := by decide +kernel
theorem dX9_walks_104 : decode cX9_walks 104 = .ok (.irem, 1) := by decide +kernel
theorem dX9_walks_105 : decode cX9_walks 105 = .ok (.ifCond .le 63, 3) := by decide +kernel
theorem dX9_walks_108 : decode cX9_walks 108 = .ok (.aload_n 0, 1) := by decide +kernel
theorem dX9_walks_109 : decode cX9_walks 109 = .ok (.iload_n 1, 1) := by decide +kernel
theorem dX9_walks_110 : decode cX9_walks 110 = .ok (.aload_n 0, 1) := by decide +kernel
theorem dX9_walks_111 : decode cX9_walks 111 = .ok (.getfield 46, 3) := by decide +kernel
theorem dX9_walks_114 : decode cX9_walks 114 = .ok (.iload_n 1, 1) := by decide +kernel
theorem dX9_walks_115 : decode cX9_walks 115 = .ok (.iaload, 1) := by decide +kernel
theorem dX9_walks_116 : decode cX9_walks 116 = .ok (.invokevirtual 168, 3) := by decide +kernel
theorem dX9_walks_119 : decode cX9_walks 119 = .ok (.istore 4, 2) := by decide +kernel
theorem dX9_walks_121 : decode cX9_walks 121 = .ok (.iload 4, 2) := by decide +kernel
theorem dX9_walks_123 : decode cX9_walks 123 = .ok (.iconst (-1), 1) := by decide +kernel
theorem dX9_walks_124 : decode cX9_walks 124 = .ok (.if_icmp .eq 7, 3) := by decide +kernel
theorem dX9_walks_127 : decode cX9_walks 127 = .ok (.iconst 1, 1) := by decide +kernel
theorem dX9_walks_128 : decode cX9_walks 128 = .ok (.goto 4, 3) := by decide +kernel
theorem dX9_walks_131 : decode cX9_walks 131 = .ok (.iconst 0, 1) := by decide +kernel
theorem dX9_walks_132 : decode cX9_walks 132 = .ok (.istore_n 3, 1) := by decide +kernel
theorem dX9_walks_133 : decode cX9_walks 133 = .ok (.iload_n 3, 1) := by decide +kernel
theorem dX9_walks_134 : decode cX9_walks 134 = .ok (.ifCond .eq 31, 3) := by decide +kernel
theorem dX9_walks_137 : decode cX9_walks 137 = .ok (.aload_n 0, 1) := by decide +kernel
theorem dX9_walks_138 : decode cX9_walks 138 = .ok (.getfield 46, 3) := by decide +kernel
theorem dX9_walks_141 : decode cX9_walks 141 = .ok (.iload_n 1, 1) := by decide +kernel
theorem dX9_walks_142 : decode cX9_walks 142 = .ok (.dup2, 1) := by decide +kernel
theorem dX9_walks_143 : decode cX9_walks 143 = .ok (.iaload, 1) := by decide +kernel
theorem dX9_walks_144 : decode cX9_walks 144 = .ok (.iconst 1, 1) := by decide +kernel
theorem dX9_walks_145 : decode cX9_walks 145 = .ok (.iadd, 1) := by decide +kernel
theorem dX9_walks_146 : decode cX9_walks 146 = .ok (.iastore, 1) := by decide +kernel
theorem dX9_walks_147 : decode cX9_walks 147 = .ok (.aload_n 0, 1) := by decide +kernel
theorem dX9_walks_148 : decode cX9_walks 148 = .ok (.getfield 43, 3) := by decide +kernel
theorem dX9_walks_151 : decode cX9_walks 151 = .ok (.bipush 25, 2) := by decide +kernel
theorem dX9_walks_153 : decode cX9_walks 153 = .ok (.iload_n 1, 1) := by decide +kernel
theorem dX9_walks_154 : decode cX9_walks 154 = .ok (.imul, 1) := by decide +kernel
theorem dX9_walks_155 : decode cX9_walks 155 = .ok (.aload_n 0, 1) := by decide +kernel
theorem dX9_walks_156 : decode cX9_walks 156 = .ok (.getfield 46, 3) := by decide +kernel
theorem dX9_walks_159 : decode cX9_walks 159 = .ok (.iload_n 1, 1) := by decide +kernel
theorem dX9_walks_160 : decode cX9_walks 160 = .ok (.iaload, 1) := by decide +kernel
theorem dX9_walks_161 : decode cX9_walks 161 = .ok (.iadd, 1) := by decide +kernel
theorem dX9_walks_162 : decode cX9_walks 162 = .ok (.iload 4, 2) := by decide +kernel
theorem dX9_walks_164 : decode cX9_walks 164 = .ok (.iastore, 1) := by decide +kernel
theorem dX9_walks_165 : decode cX9_walks 165 = .ok (.goto (-98), 3) := by decide +kernel
theorem dX9_walks_168 : decode cX9_walks 168 = .ok (.return_, 1) := by decide +kernel
theorem dX9_draws_0 : decode cX9_draws 0 = .ok (.iconst 0, 1) := by decide +kernel
theorem dX9_draws_1 : decode cX9_draws 1 = .ok (.istore_n 2, 1) := by decide +kernel
theorem dX9_draws_2 : decode cX9_draws 2 = .ok (.iload_n 2, 1) := by decide +kernel
theorem dX9_draws_3 : decode cX9_draws 3 = .ok (.aload_n 0, 1) := by decide +kernel
theorem dX9_draws_4 : decode cX9_draws 4 = .ok (.getfield 97, 3) := by decide +kernel
theorem dX9_draws_7 : decode cX9_draws 7 = .ok (.if_icmp .ge 52, 3) := by decide +kernel
theorem dX9_draws_10 : decode cX9_draws 10 = .ok (.aload_n 0, 1) := by decide +kernel
theorem dX9_draws_11 : decode cX9_draws 11 = .ok (.getfield 49, 3) := by decide +kernel
theorem dX9_draws_14 : decode cX9_draws 14 = .ok (.bipush 6, 2) := by decide +kernel
theorem dX9_draws_16 : decode cX9_draws 16 = .ok (.iload_n 1, 1) := by decide +kernel
theorem dX9_draws_17 : decode cX9_draws 17 = .ok (.imul, 1) := by decide +kernel
theorem dX9_draws_18 : decode cX9_draws 18 = .ok (.iload_n 2, 1) := by decide +kernel
theorem dX9_draws_19 : decode cX9_draws 19 = .ok (.iadd, 1) := by decide +kernel
theorem dX9_draws_20 : decode cX9_draws 20 = .ok (.iload_n 1, 1) := by decide +kernel
theorem dX9_draws_21 : decode cX9_draws 21 = .ok (.ifCond .ne 17, 3) := by decide +kernel
theorem dX9_draws_24 : decode cX9_draws 24 = .ok (.aload_n 0, 1) := by decide +kernel
theorem dX9_draws_25 : decode cX9_draws 25 = .ok (.getfield 94, 3) := by decide +kernel
theorem dX9_draws_28 : decode cX9_draws 28 = .ok (.aload_n 0, 1) := by decide +kernel
theorem dX9_draws_29 : decode cX9_draws 29 = .ok (.getfield 97, 3) := by decide +kernel
theorem dX9_draws_32 : decode cX9_draws 32 = .ok (.idiv, 1) := by decide +kernel
theorem dX9_draws_33 : decode cX9_draws 33 = .ok (.iconst 2, 1) := by decide +kernel
theorem dX9_draws_34 : decode cX9_draws 34 = .ok (.idiv, 1) := by decide +kernel
theorem dX9_draws_35 : decode cX9_draws 35 = .ok (.goto 17, 3) := by decide +kernel
theorem dX9_draws_38 : decode cX9_draws 38 = .ok (.aload_n 0, 1) := by decide +kernel
theorem dX9_draws_39 : decode cX9_draws 39 = .ok (.getfield 49, 3) := by decide +kernel
theorem dX9_draws_42 : decode cX9_draws 42 = .ok (.bipush 6, 2) := by decide +kernel
theorem dX9_draws_44 : decode cX9_draws 44 = .ok (.iload_n 1, 1) := by decide +kernel
theorem dX9_draws_45 : decode cX9_draws 45 = .ok (.imul, 1) := by decide +kernel
theorem dX9_draws_46 : decode cX9_draws 46 = .ok (.bipush 6, 2) := by decide +kernel
theorem dX9_draws_48 : decode cX9_draws 48 = .ok (.isub, 1) := by decide +kernel
theorem dX9_draws_49 : decode cX9_draws 49 = .ok (.iload_n 2, 1) := by decide +kernel
theorem dX9_draws_50 : decode cX9_draws 50 = .ok (.iadd, 1) := by decide +kernel
theorem dX9_draws_51 : decode cX9_draws 51 = .ok (.iaload, 1) := by decide +kernel
theorem dX9_draws_52 : decode cX9_draws 52 = .ok (.iastore, 1) := by decide +kernel
theorem dX9_draws_53 : decode cX9_draws 53 = .ok (.iinc 2 1, 3) := by decide +kernel
theorem dX9_draws_56 : decode cX9_draws 56 = .ok (.goto (-54), 3) := by decide +kernel
theorem dX9_draws_59 : decode cX9_draws 59 = .ok (.iconst 0, 1) := by decide +kernel
theorem dX9_draws_60 : decode cX9_draws 60 = .ok (.istore_n 2, 1) := by decide +kernel
theorem dX9_draws_61 : decode cX9_draws 61 = .ok (.iload_n 2, 1) := by decide +kernel
theorem dX9_draws_62 : decode cX9_draws 62 = .ok (.aload_n 0, 1) := by decide +kernel
theorem dX9_draws_63 : decode cX9_draws 63 = .ok (.getfield 46, 3) := by decide +kernel
theorem dX9_draws_66 : decode cX9_draws 66 = .ok (.iload_n 1, 1) := by decide +kernel
theorem dX9_draws_67 : decode cX9_draws 67 = .ok (.iaload, 1) := by decide +kernel
theorem dX9_draws_68 : decode cX9_draws 68 = .ok (.if_icmp .gt 43, 3) := by decide +kernel
theorem dX9_draws_71 : decode cX9_draws 71 = .ok (.aload_n 0, 1) := by decide +kernel
theorem dX9_draws_72 : decode cX9_draws 72 = .ok (.getfield 43, 3) := by decide +kernel
theorem dX9_draws_75 : decode cX9_draws 75 = .ok (.bipush 25, 2) := by decide +kernel
theorem dX9_draws_77 : decode cX9_draws 77 = .ok (.iload_n 1, 1) := by decide +kernel
theorem dX9_draws_78 : decode cX9_draws 78 = .ok (.imul, 1) := by decide +kernel
theorem dX9_draws_79 : decode cX9_draws 79 = .ok (.iload_n 2, 1) := by decide +kernel
theorem dX9_draws_80 : decode cX9_draws 80 = .ok (.iadd, 1) := by decide +kernel
theorem dX9_draws_81 : decode cX9_draws 81 = .ok (.iaload, 1) := by decide +kernel
theorem dX9_draws_82 : decode cX9_draws 82 = .ok (.istore_n 3, 1) := by decide +kernel
theorem dX9_draws_83 : decode cX9_draws 83 = .ok (.aload_n 0, 1) := by decide +kernel
theorem dX9_draws_84 : decode cX9_draws 84 = .ok (.getfield 49, 3) := by decide +kernel
theorem dX9_draws_87 : decode cX9_draws 87 = .ok (.bipush 6, 2) := by decide +kernel
theorem dX9_draws_89 : decode cX9_draws 89 = .ok (.iload_n 1, 1) := by decide +kernel
theorem dX9_draws_90 : decode cX9_draws 90 = .ok (.imul, 1) := by decide +kernel
theorem dX9_draws_91 : decode cX9_draws 91 = .ok (.iload_n 3, 1) := by decide +kernel
theorem dX9_draws_92 : decode cX9_draws 92 = .ok (.aload_n 0, 1) := by decide +kernel
theorem dX9_draws_93 : decode cX9_draws 93 = .ok (.getfield 97, 3) := by decide +kernel
theorem dX9_draws_96 : decode cX9_draws 96 = .ok (.irem, 1) := by decide +kernel
theorem dX9_draws_97 : decode cX9_draws 97 = .ok (.iadd, 1) := by decide +kernel
theorem dX9_draws_98 : decode cX9_draws 98 = .ok (.iload_n 3, 1) := by decide +kernel
theorem dX9_draws_99 : decode cX9_draws 99 = .ok (.aload_n 0, 1) := by decide +kernel
theorem dX9_draws_100 : decode cX9_draws 100 = .ok (.getfield 97, 3) := by decide +kernel
theorem dX9_draws_103 : decode cX9_draws 103 = .ok (.idiv, 1) := by decide +kernel
theorem dX9_draws_104 : decode cX9_draws 104 = .ok (.iastore, 1) := by decide +kernel
theorem dX9_draws_105 : decode cX9_draws 105 = .ok (.iinc 2 1, 3) := by decide +kernel
theorem dX9_draws_108 : decode cX9_draws 108 = .ok (.goto (-47), 3) := by decide +kernel
theorem dX9_draws_111 : decode cX9_draws 111 = .ok (.return_, 1) := by decide +kernel
theorem dX9_lives_0 : decode cX9_lives 0 = .ok (.iconst 0, 1) := by decide +kernel
theorem dX9_lives_1 : decode cX9_lives 1 = .ok (.istore_n 2, 1) := by decide +kernel
theorem dX9_lives_2 : decode cX9_lives 2 = .ok (.iload_n 2, 1) := by decide +kernel
theorem dX9_lives_3 : decode cX9_lives 3 = .ok (.iload_n 1, 1) := by decide +kernel
theorem dX9_lives_4 : decode cX9_lives 4 = .ok (.if_icmp .gt 19, 3) := by decide +kernel
theorem dX9_lives_7 : decode cX9_lives 7 = .ok (.aload_n 0, 1) := by decide +kernel
theorem dX9_lives_8 : decode cX9_lives 8 = .ok (.iload_n 2, 1) := by decide +kernel
theorem dX9_lives_9 : decode cX9_lives 9 = .ok (.invokevirtual 171, 3) := by decide +kernel
theorem dX9_lives_12 : decode cX9_lives 12 = .ok (.aload_n 0, 1) := by decide +kernel
theorem dX9_lives_13 : decode cX9_lives 13 = .ok (.iload_n 2, 1) := by decide +kernel
theorem dX9_lives_14 : decode cX9_lives 14 = .ok (.invokevirtual 175, 3) := by decide +kernel
theorem dX9_lives_17 : decode cX9_lives 17 = .ok (.iinc 2 1, 3) := by decide +kernel
theorem dX9_lives_20 : decode cX9_lives 20 = .ok (.goto (-18), 3) := by decide +kernel
theorem dX9_lives_23 : decode cX9_lives 23 = .ok (.return_, 1) := by decide +kernel
theorem dX9_find_0 : decode cX9_find 0 = .ok (.aload_n 0, 1) := by decide +kernel
theorem dX9_find_1 : decode cX9_find 1 = .ok (.invokevirtual 115, 3) := by decide +kernel
theorem dX9_find_4 : decode cX9_find 4 = .ok (.pop, 1) := by decide +kernel
theorem dX9_find_5 : decode cX9_find 5 = .ok (.aload_n 0, 1) := by decide +kernel
theorem dX9_find_6 : decode cX9_find 6 = .ok (.invokevirtual 119, 3) := by decide +kernel
theorem dX9_find_9 : decode cX9_find 9 = .ok (.pop, 1) := by decide +kernel
theorem dX9_find_10 : decode cX9_find 10 = .ok (.aload_n 0, 1) := by decide +kernel
theorem dX9_find_11 : decode cX9_find 11 = .ok (.bipush 9, 2) := by decide +kernel
theorem dX9_find_13 : decode cX9_find 13 = .ok (.invokevirtual 178, 3) := by decide +kernel
theorem dX9_find_16 : decode cX9_find 16 = .ok (.return_, 1) := by decide +kernel
theorem dX9_atOf_0 : decode cX9_atOf 0 = .ok (.aload_n 0, 1) := by decide +kernel
theorem dX9_atOf_1 : decode cX9_atOf 1 = .ok (.getfield 46, 3) := by decide +kernel
theorem dX9_atOf_4 : decode cX9_atOf 4 = .ok (.iload_n 1, 1) := by decide +kernel
theorem dX9_atOf_5 : decode cX9_atOf 5 = .ok (.iaload, 1) := by decide +kernel
theorem dX9_atOf_6 : decode cX9_atOf 6 = .ok (.iconst (-1), 1) := by decide +kernel
theorem dX9_atOf_7 : decode cX9_atOf 7 = .ok (.if_icmp .ne 7, 3) := by decide +kernel
theorem dX9_atOf_10 : decode cX9_atOf 10 = .ok (.iconst (-1), 1) := by decide +kernel
theorem dX9_atOf_11 : decode cX9_atOf 11 = .ok (.goto 23, 3) := by decide +kernel
theorem dX9_atOf_14 : decode cX9_atOf 14 = .ok (.aload_n 0, 1) := by decide +kernel
theorem dX9_atOf_15 : decode cX9_atOf 15 = .ok (.getfield 43, 3) := by decide +kernel
theorem dX9_atOf_18 : decode cX9_atOf 18 = .ok (.bipush 25, 2) := by decide +kernel
theorem dX9_atOf_20 : decode cX9_atOf 20 = .ok (.iload_n 1, 1) := by decide +kernel
theorem dX9_atOf_21 : decode cX9_atOf 21 = .ok (.imul, 1) := by decide +kernel
theorem dX9_atOf_22 : decode cX9_atOf 22 = .ok (.iload_n 2, 1) := by decide +kernel
theorem dX9_atOf_23 : decode cX9_atOf 23 = .ok (.aload_n 0, 1) := by decide +kernel
theorem dX9_atOf_24 : decode cX9_atOf 24 = .ok (.getfield 46, 3) := by decide +kernel
theorem dX9_atOf_27 : decode cX9_atOf 27 = .ok (.iload_n 1, 1) := by decide +kernel
theorem dX9_atOf_28 : decode cX9_atOf 28 = .ok (.iaload, 1) := by decide +kernel
theorem dX9_atOf_29 : decode cX9_atOf 29 = .ok (.invokestatic 181, 3) := by decide +kernel
theorem dX9_atOf_32 : decode cX9_atOf 32 = .ok (.iadd, 1) := by decide +kernel
theorem dX9_atOf_33 : decode cX9_atOf 33 = .ok (.iaload, 1) := by decide +kernel
theorem dX9_atOf_34 : decode cX9_atOf 34 = .ok (.ireturn, 1) := by decide +kernel
theorem dX9_at_0 : decode cX9_at 0 = .ok (.aload_n 0, 1) := by decide +kernel
theorem dX9_at_1 : decode cX9_at 1 = .ok (.invokevirtual 184, 3) := by decide +kernel
theorem dX9_at_4 : decode cX9_at 4 = .ok (.iload_n 1, 1) := by decide +kernel
theorem dX9_at_5 : decode cX9_at 5 = .ok (.invokestatic 136, 3) := by decide +kernel
theorem dX9_at_8 : decode cX9_at 8 = .ok (.ifCond .eq 24, 3) := by decide +kernel
theorem dX9_at_11 : decode cX9_at 11 = .ok (.iload_n 2, 1) := by decide +kernel
theorem dX9_at_12 : decode cX9_at 12 = .ok (.i2l, 1) := by decide +kernel
theorem dX9_at_13 : decode cX9_at 13 = .ok (.lconst 0, 1) := by decide +kernel
theorem dX9_at_14 : decode cX9_at 14 = .ok (.ldc2_w 187, 3) := by decide +kernel
theorem dX9_at_17 : decode cX9_at 17 = .ok (.invokestatic 60, 3) := by decide +kernel
theorem dX9_at_20 : decode cX9_at 20 = .ok (.ifCond .eq 12, 3) := by decide +kernel
theorem dX9_at_23 : decode cX9_at 23 = .ok (.aload_n 0, 1) := by decide +kernel
theorem dX9_at_24 : decode cX9_at 24 = .ok (.iload_n 1, 1) := by decide +kernel
theorem dX9_at_25 : decode cX9_at 25 = .ok (.iload_n 2, 1) := by decide +kernel
theorem dX9_at_26 : decode cX9_at 26 = .ok (.invokevirtual 189, 3) := by decide +kernel
theorem dX9_at_29 : decode cX9_at 29 = .ok (.goto 5, 3) := by decide +kernel
theorem dX9_at_32 : decode cX9_at 32 = .ok (.bipush (-2), 2) := by decide +kernel
theorem dX9_at_34 : decode cX9_at 34 = .ok (.ireturn, 1) := by decide +kernel
theorem dX9_goesOf_0 : decode cX9_goesOf 0 = .ok (.aload_n 0, 1) := by decide +kernel
theorem dX9_goesOf_1 : decode cX9_goesOf 1 = .ok (.getfield 46, 3) := by decide +kernel
theorem dX9_goesOf_4 : decode cX9_goesOf 4 = .ok (.iload_n 1, 1) := by decide +kernel
theorem dX9_goesOf_5 : decode cX9_goesOf 5 = .ok (.iaload, 1) := by decide +kernel
theorem dX9_goesOf_6 : decode cX9_goesOf 6 = .ok (.iconst (-1), 1) := by decide +kernel
theorem dX9_goesOf_7 : decode cX9_goesOf 7 = .ok (.if_icmp .ne 7, 3) := by decide +kernel
theorem dX9_goesOf_10 : decode cX9_goesOf 10 = .ok (.iconst 0, 1) := by decide +kernel
theorem dX9_goesOf_11 : decode cX9_goesOf 11 = .ok (.goto 9, 3) := by decide +kernel
theorem dX9_goesOf_14 : decode cX9_goesOf 14 = .ok (.aload_n 0, 1) := by decide +kernel
theorem dX9_goesOf_15 : decode cX9_goesOf 15 = .ok (.getfield 46, 3) := by decide +kernel
theorem dX9_goesOf_18 : decode cX9_goesOf 18 = .ok (.iload_n 1, 1) := by decide +kernel
theorem dX9_goesOf_19 : decode cX9_goesOf 19 = .ok (.iaload, 1) := by decide +kernel
theorem dX9_goesOf_20 : decode cX9_goesOf 20 = .ok (.ireturn, 1) := by decide +kernel
theorem dX9_goes_0 : decode cX9_goes 0 = .ok (.aload_n 0, 1) := by decide +kernel
theorem dX9_goes_1 : decode cX9_goes 1 = .ok (.invokevirtual 184, 3) := by decide +kernel
theorem dX9_goes_4 : decode cX9_goes 4 = .ok (.iload_n 1, 1) := by decide +kernel
theorem dX9_goes_5 : decode cX9_goes 5 = .ok (.invokestatic 136, 3) := by decide +kernel
theorem dX9_goes_8 : decode cX9_goes 8 = .ok (.ifCond .eq 11, 3) := by decide +kernel
theorem dX9_goes_11 : decode cX9_goes 11 = .ok (.aload_n 0, 1) := by decide +kernel
theorem dX9_goes_12 : decode cX9_goes 12 = .ok (.iload_n 1, 1) := by decide +kernel
theorem dX9_goes_13 : decode cX9_goes 13 = .ok (.invokevirtual 192, 3) := by decide +kernel
theorem dX9_goes_16 : decode cX9_goes 16 = .ok (.goto 5, 3) := by decide +kernel
theorem dX9_goes_19 : decode cX9_goes 19 = .ok (.bipush (-2), 2) := by decide +kernel
theorem dX9_goes_21 : decode cX9_goes 21 = .ok (.ireturn, 1) := by decide +kernel
theorem dX9_line_0 : decode cX9_line 0 = .ok (.aload_n 0, 1) := by decide +kernel
theorem dX9_line_1 : decode cX9_line 1 = .ok (.invokevirtual 184, 3) := by decide +kernel
theorem dX9_line_4 : decode cX9_line 4 = .ok (.iload_n 1, 1) := by decide +kernel
theorem dX9_line_5 : decode cX9_line 5 = .ok (.invokestatic 136, 3) := by decide +kernel
theorem dX9_line_8 : decode cX9_line 8 = .ok (.ifCond .eq 33, 3) := by decide +kernel
theorem dX9_line_11 : decode cX9_line 11 = .ok (.iload_n 2, 1) := by decide +kernel
theorem dX9_line_12 : decode cX9_line 12 = .ok (.i2l, 1) := by decide +kernel
theorem dX9_line_13 : decode cX9_line 13 = .ok (.lconst 0, 1) := by decide +kernel
theorem dX9_line_14 : decode cX9_line 14 = .ok (.aload_n 0, 1) := by decide +kernel
theorem dX9_line_15 : decode cX9_line 15 = .ok (.getfield 97, 3) := by decide +kernel
theorem dX9_line_18 : decode cX9_line 18 = .ok (.iconst 1, 1) := by decide +kernel
theorem dX9_line_19 : decode cX9_line 19 = .ok (.isub, 1) := by decide +kernel
theorem dX9_line_20 : decode cX9_line 20 = .ok (.i2l, 1) := by decide +kernel
theorem dX9_line_21 : decode cX9_line 21 = .ok (.invokestatic 60, 3) := by decide +kernel
theorem dX9_line_24 : decode cX9_line 24 = .ok (.ifCond .eq 17, 3) := by decide +kernel
theorem dX9_line_27 : decode cX9_line 27 = .ok (.aload_n 0, 1) := by decide +kernel
theorem dX9_line_28 : decode cX9_line 28 = .ok (.getfield 49, 3) := by decide +kernel
theorem dX9_line_31 : decode cX9_line 31 = .ok (.bipush 6, 2) := by decide +kernel
theorem dX9_line_33 : decode cX9_line 33 = .ok (.iload_n 1, 1) := by decide +kernel
theorem dX9_line_34 : decode cX9_line 34 = .ok (.imul, 1) := by decide +kernel
theorem dX9_line_35 : decode cX9_line 35 = .ok (.iload_n 2, 1) := by decide +kernel
theorem dX9_line_36 : decode cX9_line 36 = .ok (.iadd, 1) := by decide +kernel
theorem dX9_line_37 : decode cX9_line 37 = .ok (.iaload, 1) := by decide +kernel
theorem dX9_line_38 : decode cX9_line 38 = .ok (.goto 5, 3) := by decide +kernel
theorem dX9_line_41 : decode cX9_line 41 = .ok (.bipush (-2), 2) := by decide +kernel
theorem dX9_line_43 : decode cX9_line 43 = .ok (.ireturn, 1) := by decide +kernel
theorem dX9_realmOf_0 : decode cX9_realmOf 0 = .ok (.aload_n 0, 1) := by decide +kernel
theorem dX9_realmOf_1 : decode cX9_realmOf 1 = .ok (.getfield 49, 3) := by decide +kernel
theorem dX9_realmOf_4 : decode cX9_realmOf 4 = .ok (.bipush 6, 2) := by decide +kernel
theorem dX9_realmOf_6 : decode cX9_realmOf 6 = .ok (.iload_n 1, 1) := by decide +kernel
theorem dX9_realmOf_7 : decode cX9_realmOf 7 = .ok (.imul, 1) := by decide +kernel
theorem dX9_realmOf_8 : decode cX9_realmOf 8 = .ok (.iload_n 2, 1) := by decide +kernel
theorem dX9_realmOf_9 : decode cX9_realmOf 9 = .ok (.aload_n 0, 1) := by decide +kernel
theorem dX9_realmOf_10 : decode cX9_realmOf 10 = .ok (.getfield 97, 3) := by decide +kernel
theorem dX9_realmOf_13 : decode cX9_realmOf 13 = .ok (.irem, 1) := by decide +kernel
theorem dX9_realmOf_14 : decode cX9_realmOf 14 = .ok (.iadd, 1) := by decide +kernel
theorem dX9_realmOf_15 : decode cX9_realmOf 15 = .ok (.iaload, 1) := by decide +kernel
theorem dX9_realmOf_16 : decode cX9_realmOf 16 = .ok (.istore_n 3, 1) := by decide +kernel
theorem dX9_realmOf_17 : decode cX9_realmOf 17 = .ok (.iload_n 2, 1) := by decide +kernel
theorem dX9_realmOf_18 : decode cX9_realmOf 18 = .ok (.aload_n 0, 1) := by decide +kernel
theorem dX9_realmOf_19 : decode cX9_realmOf 19 = .ok (.getfield 97, 3) := by decide +kernel
theorem dX9_realmOf_22 : decode cX9_realmOf 22 = .ok (.idiv, 1) := by decide +kernel
theorem dX9_realmOf_23 : decode cX9_realmOf 23 = .ok (.iload_n 3, 1) := by decide +kernel
theorem dX9_realmOf_24 : decode cX9_realmOf 24 = .ok (.if_icmp .ge 7, 3) := by decide +kernel
theorem dX9_realmOf_27 : decode cX9_realmOf 27 = .ok (.iconst 0, 1) := by decide +kernel
theorem dX9_realmOf_28 : decode cX9_realmOf 28 = .ok (.goto 18, 3) := by decide +kernel
theorem dX9_realmOf_31 : decode cX9_realmOf 31 = .ok (.iload_n 2, 1) := by decide +kernel
theorem dX9_realmOf_32 : decode cX9_realmOf 32 = .ok (.aload_n 0, 1) := by decide +kernel
theorem dX9_realmOf_33 : decode cX9_realmOf 33 = .ok (.getfield 97, 3) := by decide +kernel
theorem dX9_realmOf_36 : decode cX9_realmOf 36 = .ok (.idiv, 1) := by decide +kernel
theorem dX9_realmOf_37 : decode cX9_realmOf 37 = .ok (.iload_n 3, 1) := by decide +kernel
theorem dX9_realmOf_38 : decode cX9_realmOf 38 = .ok (.if_icmp .le 7, 3) := by decide +kernel
theorem dX9_realmOf_41 : decode cX9_realmOf 41 = .ok (.iconst 1, 1) := by decide +kernel
theorem dX9_realmOf_42 : decode cX9_realmOf 42 = .ok (.goto 4, 3) := by decide +kernel
theorem dX9_realmOf_45 : decode cX9_realmOf 45 = .ok (.iconst 2, 1) := by decide +kernel
theorem dX9_realmOf_46 : decode cX9_realmOf 46 = .ok (.ireturn, 1) := by decide +kernel
theorem dX9_realm_0 : decode cX9_realm 0 = .ok (.aload_n 0, 1) := by decide +kernel
theorem dX9_realm_1 : decode cX9_realm 1 = .ok (.invokevirtual 184, 3) := by decide +kernel
theorem dX9_realm_4 : decode cX9_realm 4 = .ok (.iload_n 1, 1) := by decide +kernel
theorem dX9_realm_5 : decode cX9_realm 5 = .ok (.invokestatic 136, 3) := by decide +kernel
theorem dX9_realm_8 : decode cX9_realm 8 = .ok (.ifCond .eq 20, 3) := by decide +kernel
theorem dX9_realm_11 : decode cX9_realm 11 = .ok (.aload_n 0, 1) := by decide +kernel
theorem dX9_realm_12 : decode cX9_realm 12 = .ok (.iload_n 2, 1) := by decide +kernel
theorem dX9_realm_13 : decode cX9_realm 13 = .ok (.invokevirtual 165, 3) := by decide +kernel
theorem dX9_realm_16 : decode cX9_realm 16 = .ok (.ifCond .eq 12, 3) := by decide +kernel
theorem dX9_realm_19 : decode cX9_realm 19 = .ok (.aload_n 0, 1) := by decide +kernel
theorem dX9_realm_20 : decode cX9_realm 20 = .ok (.iload_n 1, 1) := by decide +kernel
theorem dX9_realm_21 : decode cX9_realm 21 = .ok (.iload_n 2, 1) := by decide +kernel
theorem dX9_realm_22 : decode cX9_realm 22 = .ok (.invokevirtual 195, 3) := by decide +kernel
theorem dX9_realm_25 : decode cX9_realm 25 = .ok (.goto 5, 3) := by decide +kernel
theorem dX9_realm_28 : decode cX9_realm 28 = .ok (.bipush (-2), 2) := by decide +kernel
theorem dX9_realm_30 : decode cX9_realm 30 = .ok (.ireturn, 1) := by decide +kernel
theorem dX9_liesOf_0 : decode cX9_liesOf 0 = .ok (.aload_n 0, 1) := by decide +kernel
theorem dX9_liesOf_1 : decode cX9_liesOf 1 = .ok (.aload_n 0, 1) := by decide +kernel
theorem dX9_liesOf_2 : decode cX9_liesOf 2 = .ok (.getfield 31, 3) := by decide +kernel
theorem dX9_liesOf_5 : decode cX9_liesOf 5 = .ok (.iconst 2, 1) := by decide +kernel
theorem dX9_liesOf_6 : decode cX9_liesOf 6 = .ok (.iload_n 2, 1) := by decide +kernel
theorem dX9_liesOf_7 : decode cX9_liesOf 7 = .ok (.imul, 1) := by decide +kernel
theorem dX9_liesOf_8 : decode cX9_liesOf 8 = .ok (.iaload, 1) := by decide +kernel
theorem dX9_liesOf_9 : decode cX9_liesOf 9 = .ok (.invokevirtual 165, 3) := by decide +kernel
theorem dX9_liesOf_12 : decode cX9_liesOf 12 = .ok (.ifCond .eq 19, 3) := by decide +kernel
theorem dX9_liesOf_15 : decode cX9_liesOf 15 = .ok (.aload_n 0, 1) := by decide +kernel
theorem dX9_liesOf_16 : decode cX9_liesOf 16 = .ok (.iload_n 1, 1) := by decide +kernel
theorem dX9_liesOf_17 : decode cX9_liesOf 17 = .ok (.aload_n 0, 1) := by decide +kernel
theorem dX9_liesOf_18 : decode cX9_liesOf 18 = .ok (.getfield 31, 3) := by decide +kernel
theorem dX9_liesOf_21 : decode cX9_liesOf 21 = .ok (.iconst 2, 1) := by decide +kernel
theorem dX9_liesOf_22 : decode cX9_liesOf 22 = .ok (.iload_n 2, 1) := by decide +kernel
theorem dX9_liesOf_23 : decode cX9_liesOf 23 = .ok (.imul, 1) := by decide +kernel
theorem dX9_liesOf_24 : decode cX9_liesOf 24 = .ok (.iaload, 1) := by decide +kernel
theorem dX9_liesOf_25 : decode cX9_liesOf 25 = .ok (.invokevirtual 195, 3) := by decide +kernel
theorem dX9_liesOf_28 : decode cX9_liesOf 28 = .ok (.goto 4, 3) := by decide +kernel
theorem dX9_liesOf_31 : decode cX9_liesOf 31 = .ok (.iconst (-1), 1) := by decide +kernel
theorem dX9_liesOf_32 : decode cX9_liesOf 32 = .ok (.ireturn, 1) := by decide +kernel
theorem dX9_lies_0 : decode cX9_lies 0 = .ok (.aload_n 0, 1) := by decide +kernel
theorem dX9_lies_1 : decode cX9_lies 1 = .ok (.invokevirtual 184, 3) := by decide +kernel
theorem dX9_lies_4 : decode cX9_lies 4 = .ok (.iload_n 1, 1) := by decide +kernel
theorem dX9_lies_5 : decode cX9_lies 5 = .ok (.invokestatic 136, 3) := by decide +kernel
theorem dX9_lies_8 : decode cX9_lies 8 = .ok (.ifCond .eq 20, 3) := by decide +kernel
theorem dX9_lies_11 : decode cX9_lies 11 = .ok (.aload_n 0, 1) := by decide +kernel
theorem dX9_lies_12 : decode cX9_lies 12 = .ok (.iload_n 2, 1) := by decide +kernel
theorem dX9_lies_13 : decode cX9_lies 13 = .ok (.invokevirtual 126, 3) := by decide +kernel
theorem dX9_lies_16 : decode cX9_lies 16 = .ok (.ifCond .eq 12, 3) := by decide +kernel
theorem dX9_lies_19 : decode cX9_lies 19 = .ok (.aload_n 0, 1) := by decide +kernel
theorem dX9_lies_20 : decode cX9_lies 20 = .ok (.iload_n 1, 1) := by decide +kernel
theorem dX9_lies_21 : decode cX9_lies 21 = .ok (.iload_n 2, 1) := by decide +kernel
theorem dX9_lies_22 : decode cX9_lies 22 = .ok (.invokevirtual 198, 3) := by decide +kernel
theorem dX9_lies_25 : decode cX9_lies 25 = .ok (.goto 5, 3) := by decide +kernel
theorem dX9_lies_28 : decode cX9_lies 28 = .ok (.bipush (-2), 2) := by decide +kernel
theorem dX9_lies_30 : decode cX9_lies 30 = .ok (.ireturn, 1) := by decide +kernel
theorem dX9_changesOf_0 : decode cX9_changesOf 0 = .ok (.iconst 0, 1) := by decide +kernel
theorem dX9_changesOf_1 : decode cX9_changesOf 1 = .ok (.istore_n 2, 1) := by decide +kernel
theorem dX9_changesOf_2 : decode cX9_changesOf 2 = .ok (.iconst 1, 1) := by decide +kernel
theorem dX9_changesOf_3 : decode cX9_changesOf 3 = .ok (.istore_n 3, 1) := by decide +kernel
theorem dX9_changesOf_4 : decode cX9_changesOf 4 = .ok (.iload_n 3, 1) := by decide +kernel
theorem dX9_changesOf_5 : decode cX9_changesOf 5 = .ok (.bipush 10, 2) := by decide +kernel
theorem dX9_changesOf_7 : decode cX9_changesOf 7 = .ok (.if_icmp .ge 34, 3) := by decide +kernel
theorem dX9_changesOf_10 : decode cX9_changesOf 10 = .ok (.iload_n 2, 1) := by decide +kernel
theorem dX9_changesOf_11 : decode cX9_changesOf 11 = .ok (.aload_n 0, 1) := by decide +kernel
theorem dX9_changesOf_12 : decode cX9_changesOf 12 = .ok (.iload_n 3, 1) := by decide +kernel
theorem dX9_changesOf_13 : decode cX9_changesOf 13 = .ok (.iload_n 1, 1) := by decide +kernel
theorem dX9_changesOf_14 : decode cX9_changesOf 14 = .ok (.invokevirtual 198, 3) := by decide +kernel
theorem dX9_changesOf_17 : decode cX9_changesOf 17 = .ok (.aload_n 0, 1) := by decide +kernel
theorem dX9_changesOf_18 : decode cX9_changesOf 18 = .ok (.iload_n 3, 1) := by decide +kernel
theorem dX9_changesOf_19 : decode cX9_changesOf 19 = .ok (.iconst 1, 1) := by decide +kernel
theorem dX9_changesOf_20 : decode cX9_changesOf 20 = .ok (.isub, 1) := by decide +kernel
theorem dX9_changesOf_21 : decode cX9_changesOf 21 = .ok (.iload_n 1, 1) := by decide +kernel
theorem dX9_changesOf_22 : decode cX9_changesOf 22 = .ok (.invokevirtual 198, 3) := by decide +kernel
theorem dX9_changesOf_25 : decode cX9_changesOf 25 = .ok (.if_icmp .ne 7, 3) := by decide +kernel
theorem dX9_changesOf_28 : decode cX9_changesOf 28 = .ok (.iconst 0, 1) := by decide +kernel
theorem dX9_changesOf_29 : decode cX9_changesOf 29 = .ok (.goto 4, 3) := by decide +kernel
theorem dX9_changesOf_32 : decode cX9_changesOf 32 = .ok (.iconst 1, 1) := by decide +kernel
theorem dX9_changesOf_33 : decode cX9_changesOf 33 = .ok (.iadd, 1) := by decide +kernel
theorem dX9_changesOf_34 : decode cX9_changesOf 34 = .ok (.istore_n 2, 1) := by decide +kernel
theorem dX9_changesOf_35 : decode cX9_changesOf 35 = .ok (.iinc 3 1, 3) := by decide +kernel
theorem dX9_changesOf_38 : decode cX9_changesOf 38 = .ok (.goto (-34), 3) := by decide +kernel
theorem dX9_changesOf_41 : decode cX9_changesOf 41 = .ok (.iload_n 2, 1) := by decide +kernel
theorem dX9_changesOf_42 : decode cX9_changesOf 42 = .ok (.ireturn, 1) := by decide +kernel
theorem dX9_changes_0 : decode cX9_changes 0 = .ok (.aload_n 0, 1) := by decide +kernel
theorem dX9_changes_1 : decode cX9_changes 1 = .ok (.invokevirtual 184, 3) := by decide +kernel
theorem dX9_changes_4 : decode cX9_changes 4 = .ok (.aload_n 0, 1) := by decide +kernel
theorem dX9_changes_5 : decode cX9_changes 5 = .ok (.iload_n 1, 1) := by decide +kernel
theorem dX9_changes_6 : decode cX9_changes 6 = .ok (.invokevirtual 126, 3) := by decide +kernel
theorem dX9_changes_9 : decode cX9_changes 9 = .ok (.ifCond .eq 11, 3) := by decide +kernel
theorem dX9_changes_12 : decode cX9_changes 12 = .ok (.aload_n 0, 1) := by decide +kernel
theorem dX9_changes_13 : decode cX9_changes 13 = .ok (.iload_n 1, 1) := by decide +kernel
theorem dX9_changes_14 : decode cX9_changes 14 = .ok (.invokevirtual 201, 3) := by decide +kernel
theorem dX9_changes_17 : decode cX9_changes 17 = .ok (.goto 5, 3) := by decide +kernel
theorem dX9_changes_20 : decode cX9_changes 20 = .ok (.bipush (-2), 2) := by decide +kernel
theorem dX9_changes_22 : decode cX9_changes 22 = .ok (.ireturn, 1) := by decide +kernel
theorem dX9_taxesOf_0 : decode cX9_taxesOf 0 = .ok (.iconst 0, 1) := by decide +kernel
theorem dX9_taxesOf_1 : decode cX9_taxesOf 1 = .ok (.istore_n 3, 1) := by decide +kernel
theorem dX9_taxesOf_2 : decode cX9_taxesOf 2 = .ok (.iconst 0, 1) := by decide +kernel
theorem dX9_taxesOf_3 : decode cX9_taxesOf 3 = .ok (.istore 4, 2) := by decide +kernel
theorem dX9_taxesOf_5 : decode cX9_taxesOf 5 = .ok (.iload 4, 2) := by decide +kernel
theorem dX9_taxesOf_7 : decode cX9_taxesOf 7 = .ok (.iload_n 1, 1) := by decide +kernel
theorem dX9_taxesOf_8 : decode cX9_taxesOf 8 = .ok (.if_icmp .gt 57, 3) := by decide +kernel
theorem dX9_taxesOf_11 : decode cX9_taxesOf 11 = .ok (.iconst 0, 1) := by decide +kernel
theorem dX9_taxesOf_12 : decode cX9_taxesOf 12 = .ok (.istore 5, 2) := by decide +kernel
theorem dX9_taxesOf_14 : decode cX9_taxesOf 14 = .ok (.iload 5, 2) := by decide +kernel
theorem dX9_taxesOf_16 : decode cX9_taxesOf 16 = .ok (.aload_n 0, 1) := by decide +kernel
theorem dX9_taxesOf_17 : decode cX9_taxesOf 17 = .ok (.getfield 106, 3) := by decide +kernel
theorem dX9_taxesOf_20 : decode cX9_taxesOf 20 = .ok (.if_icmp .ge 39, 3) := by decide +kernel
theorem dX9_taxesOf_23 : decode cX9_taxesOf 23 = .ok (.iload_n 3, 1) := by decide +kernel
theorem dX9_taxesOf_24 : decode cX9_taxesOf 24 = .ok (.aload_n 0, 1) := by decide +kernel
theorem dX9_taxesOf_25 : decode cX9_taxesOf 25 = .ok (.iload 4, 2) := by decide +kernel
theorem dX9_taxesOf_27 : decode cX9_taxesOf 27 = .ok (.iload 5, 2) := by decide +kernel
theorem dX9_taxesOf_29 : decode cX9_taxesOf 29 = .ok (.invokevirtual 198, 3) := by decide +kernel
theorem dX9_taxesOf_32 : decode cX9_taxesOf 32 = .ok (.iload_n 2, 1) := by decide +kernel
theorem dX9_taxesOf_33 : decode cX9_taxesOf 33 = .ok (.if_icmp .ne 17, 3) := by decide +kernel
theorem dX9_taxesOf_36 : decode cX9_taxesOf 36 = .ok (.aload_n 0, 1) := by decide +kernel
theorem dX9_taxesOf_37 : decode cX9_taxesOf 37 = .ok (.getfield 31, 3) := by decide +kernel
theorem dX9_taxesOf_40 : decode cX9_taxesOf 40 = .ok (.iconst 2, 1) := by decide +kernel
theorem dX9_taxesOf_41 : decode cX9_taxesOf 41 = .ok (.iload 5, 2) := by decide +kernel
theorem dX9_taxesOf_43 : decode cX9_taxesOf 43 = .ok (.imul, 1) := by decide +kernel
theorem dX9_taxesOf_44 : decode cX9_taxesOf 44 = .ok (.iconst 1, 1) := by decide +kernel
theorem dX9_taxesOf_45 : decode cX9_taxesOf 45 = .ok (.iadd, 1) := by decide +kernel
theorem dX9_taxesOf_46 : decode cX9_taxesOf 46 = .ok (.iaload, 1) := by decide +kernel
theorem dX9_taxesOf_47 : decode cX9_taxesOf 47 = .ok (.goto 4, 3) := by decide +kernel
theorem dX9_taxesOf_50 : decode cX9_taxesOf 50 = .ok (.iconst 0, 1) := by decide +kernel
theorem dX9_taxesOf_51 : decode cX9_taxesOf 51 = .ok (.iadd, 1) := by decide +kernel
theorem dX9_taxesOf_52 : decode cX9_taxesOf 52 = .ok (.istore_n 3, 1) := by decide +kernel
theorem dX9_taxesOf_53 : decode cX9_taxesOf 53 = .ok (.iinc 5 1, 3) := by decide +kernel
theorem dX9_taxesOf_56 : decode cX9_taxesOf 56 = .ok (.goto (-42), 3) := by decide +kernel
theorem dX9_taxesOf_59 : decode cX9_taxesOf 59 = .ok (.iinc 4 1, 3) := by decide +kernel
theorem dX9_taxesOf_62 : decode cX9_taxesOf 62 = .ok (.goto (-57), 3) := by decide +kernel
theorem dX9_taxesOf_65 : decode cX9_taxesOf 65 = .ok (.iload_n 3, 1) := by decide +kernel
theorem dX9_taxesOf_66 : decode cX9_taxesOf 66 = .ok (.ireturn, 1) := by decide +kernel
theorem dX9_taxes_0 : decode cX9_taxes 0 = .ok (.aload_n 0, 1) := by decide +kernel
theorem dX9_taxes_1 : decode cX9_taxes 1 = .ok (.invokevirtual 184, 3) := by decide +kernel
theorem dX9_taxes_4 : decode cX9_taxes 4 = .ok (.iload_n 1, 1) := by decide +kernel
theorem dX9_taxes_5 : decode cX9_taxes 5 = .ok (.invokestatic 136, 3) := by decide +kernel
theorem dX9_taxes_8 : decode cX9_taxes 8 = .ok (.ifCond .eq 19, 3) := by decide +kernel
theorem dX9_taxes_11 : decode cX9_taxes 11 = .ok (.iload_n 2, 1) := by decide +kernel
theorem dX9_taxes_12 : decode cX9_taxes 12 = .ok (.invokestatic 89, 3) := by decide +kernel
theorem dX9_taxes_15 : decode cX9_taxes 15 = .ok (.ifCond .eq 12, 3) := by decide +kernel
theorem dX9_taxes_18 : decode cX9_taxes 18 = .ok (.aload_n 0, 1) := by decide +kernel
theorem dX9_taxes_19 : decode cX9_taxes 19 = .ok (.iload_n 1, 1) := by decide +kernel
theorem dX9_taxes_20 : decode cX9_taxes 20 = .ok (.iload_n 2, 1) := by decide +kernel
theorem dX9_taxes_21 : decode cX9_taxes 21 = .ok (.invokevirtual 204, 3) := by decide +kernel
theorem dX9_taxes_24 : decode cX9_taxes 24 = .ok (.goto 5, 3) := by decide +kernel
theorem dX9_taxes_27 : decode cX9_taxes 27 = .ok (.bipush (-2), 2) := by decide +kernel
theorem dX9_taxes_29 : decode cX9_taxes 29 = .ok (.ireturn, 1) := by decide +kernel
theorem dX9_firstOf_0 : decode cX9_firstOf 0 = .ok (.iconst 0, 1) := by decide +kernel
theorem dX9_firstOf_1 : decode cX9_firstOf 1 = .ok (.istore_n 2, 1) := by decide +kernel
theorem dX9_firstOf_2 : decode cX9_firstOf 2 = .ok (.iload_n 2, 1) := by decide +kernel
theorem dX9_firstOf_3 : decode cX9_firstOf 3 = .ok (.bipush 10, 2) := by decide +kernel
theorem dX9_firstOf_5 : decode cX9_firstOf 5 = .ok (.if_icmp .ge 45, 3) := by decide +kernel
theorem dX9_firstOf_8 : decode cX9_firstOf 8 = .ok (.iconst 0, 1) := by decide +kernel
theorem dX9_firstOf_9 : decode cX9_firstOf 9 = .ok (.istore_n 3, 1) := by decide +kernel
theorem dX9_firstOf_10 : decode cX9_firstOf 10 = .ok (.iload_n 3, 1) := by decide +kernel
theorem dX9_firstOf_11 : decode cX9_firstOf 11 = .ok (.aload_n 0, 1) := by decide +kernel
theorem dX9_firstOf_12 : decode cX9_firstOf 12 = .ok (.getfield 106, 3) := by decide +kernel
theorem dX9_firstOf_15 : decode cX9_firstOf 15 = .ok (.if_icmp .ge 29, 3) := by decide +kernel
theorem dX9_firstOf_18 : decode cX9_firstOf 18 = .ok (.aload_n 0, 1) := by decide +kernel
theorem dX9_firstOf_19 : decode cX9_firstOf 19 = .ok (.iload_n 2, 1) := by decide +kernel
theorem dX9_firstOf_20 : decode cX9_firstOf 20 = .ok (.iload_n 3, 1) := by decide +kernel
theorem dX9_firstOf_21 : decode cX9_firstOf 21 = .ok (.invokevirtual 198, 3) := by decide +kernel
theorem dX9_firstOf_24 : decode cX9_firstOf 24 = .ok (.iconst 2, 1) := by decide +kernel
theorem dX9_firstOf_25 : decode cX9_firstOf 25 = .ok (.if_icmp .ne 13, 3) := by decide +kernel
theorem dX9_firstOf_28 : decode cX9_firstOf 28 = .ok (.iload_n 1, 1) := by decide +kernel
theorem dX9_firstOf_29 : decode cX9_firstOf 29 = .ok (.ifCond .ne 7, 3) := by decide +kernel
theorem dX9_firstOf_32 : decode cX9_firstOf 32 = .ok (.iload_n 2, 1) := by decide +kernel
theorem dX9_firstOf_33 : decode cX9_firstOf 33 = .ok (.goto 4, 3) := by decide +kernel
theorem dX9_firstOf_36 : decode cX9_firstOf 36 = .ok (.iload_n 3, 1) := by decide +kernel
theorem dX9_firstOf_37 : decode cX9_firstOf 37 = .ok (.ireturn, 1) := by decide +kernel
theorem dX9_firstOf_38 : decode cX9_firstOf 38 = .ok (.iinc 3 1, 3) := by decide +kernel
theorem dX9_firstOf_41 : decode cX9_firstOf 41 = .ok (.goto (-31), 3) := by decide +kernel
theorem dX9_firstOf_44 : decode cX9_firstOf 44 = .ok (.iinc 2 1, 3) := by decide +kernel
theorem dX9_firstOf_47 : decode cX9_firstOf 47 = .ok (.goto (-45), 3) := by decide +kernel
theorem dX9_firstOf_50 : decode cX9_firstOf 50 = .ok (.iconst (-1), 1) := by decide +kernel
theorem dX9_firstOf_51 : decode cX9_firstOf 51 = .ok (.ireturn, 1) := by decide +kernel
theorem dX9_first_0 : decode cX9_first 0 = .ok (.aload_n 0, 1) := by decide +kernel
theorem dX9_first_1 : decode cX9_first 1 = .ok (.invokevirtual 184, 3) := by decide +kernel
theorem dX9_first_4 : decode cX9_first 4 = .ok (.iload_n 1, 1) := by decide +kernel
theorem dX9_first_5 : decode cX9_first 5 = .ok (.invokestatic 89, 3) := by decide +kernel
theorem dX9_first_8 : decode cX9_first 8 = .ok (.ifCond .eq 11, 3) := by decide +kernel
theorem dX9_first_11 : decode cX9_first 11 = .ok (.aload_n 0, 1) := by decide +kernel
theorem dX9_first_12 : decode cX9_first 12 = .ok (.iload_n 1, 1) := by decide +kernel
theorem dX9_first_13 : decode cX9_first 13 = .ok (.invokevirtual 207, 3) := by decide +kernel
theorem dX9_first_16 : decode cX9_first 16 = .ok (.goto 5, 3) := by decide +kernel
theorem dX9_first_19 : decode cX9_first 19 = .ok (.bipush (-2), 2) := by decide +kernel
theorem dX9_first_21 : decode cX9_first 21 = .ok (.ireturn, 1) := by decide +kernel
theorem dX9_isSo_0 : decode cX9_isSo 0 = .ok (.aload_n 0, 1) := by decide +kernel
theorem dX9_isSo_1 : decode cX9_isSo 1 = .ok (.iload_n 1, 1) := by decide +kernel
theorem dX9_isSo_2 : decode cX9_isSo 2 = .ok (.invokevirtual 178, 3) := by decide +kernel
theorem dX9_isSo_5 : decode cX9_isSo 5 = .ok (.aload_n 0, 1) := by decide +kernel
theorem dX9_isSo_6 : decode cX9_isSo 6 = .ok (.iload_n 1, 1) := by decide +kernel
theorem dX9_isSo_7 : decode cX9_isSo 7 = .ok (.iload_n 2, 1) := by decide +kernel
theorem dX9_isSo_8 : decode cX9_isSo 8 = .ok (.invokevirtual 198, 3) := by decide +kernel
theorem dX9_isSo_11 : decode cX9_isSo 11 = .ok (.iload_n 3, 1) := by decide +kernel
theorem dX9_isSo_12 : decode cX9_isSo 12 = .ok (.if_icmp .ne 7, 3) := by decide +kernel
theorem dX9_isSo_15 : decode cX9_isSo 15 = .ok (.iconst 1, 1) := by decide +kernel
theorem dX9_isSo_16 : decode cX9_isSo 16 = .ok (.goto 4, 3) := by decide +kernel
theorem dX9_isSo_19 : decode cX9_isSo 19 = .ok (.iconst 0, 1) := by decide +kernel
theorem dX9_isSo_20 : decode cX9_isSo 20 = .ok (.ireturn, 1) := by decide +kernel
theorem dX9_layOutOf_0 : decode cX9_layOutOf 0 = .ok (.aload_n 0, 1) := by decide +kernel
theorem dX9_layOutOf_1 : decode cX9_layOutOf 1 = .ok (.iload_n 1, 1) := by decide +kernel
theorem dX9_layOutOf_2 : decode cX9_layOutOf 2 = .ok (.iload_n 2, 1) := by decide +kernel
theorem dX9_layOutOf_3 : decode cX9_layOutOf 3 = .ok (.iload_n 3, 1) := by decide +kernel
theorem dX9_layOutOf_4 : decode cX9_layOutOf 4 = .ok (.invokevirtual 210, 3) := by decide +kernel
theorem dX9_layOutOf_7 : decode cX9_layOutOf 7 = .ok (.ifCond .eq 15, 3) := by decide +kernel
theorem dX9_layOutOf_10 : decode cX9_layOutOf 10 = .ok (.iload 4, 2) := by decide +kernel
theorem dX9_layOutOf_12 : decode cX9_layOutOf 12 = .ok (.iconst (-1), 1) := by decide +kernel
theorem dX9_layOutOf_13 : decode cX9_layOutOf 13 = .ok (.if_icmp .ne 7, 3) := by decide +kernel
theorem dX9_layOutOf_16 : decode cX9_layOutOf 16 = .ok (.iconst 0, 1) := by decide +kernel
theorem dX9_layOutOf_17 : decode cX9_layOutOf 17 = .ok (.goto 4, 3) := by decide +kernel
theorem dX9_layOutOf_20 : decode cX9_layOutOf 20 = .ok (.iconst (-1), 1) := by decide +kernel
theorem dX9_layOutOf_21 : decode cX9_layOutOf 21 = .ok (.ireturn, 1) := by decide +kernel
theorem dX9_layOutOf_22 : decode cX9_layOutOf 22 = .ok (.aload_n 0, 1) := by decide +kernel
theorem dX9_layOutOf_23 : decode cX9_layOutOf 23 = .ok (.getfield 133, 3) := by decide +kernel
theorem dX9_layOutOf_26 : decode cX9_layOutOf 26 = .ok (.istore 5, 2) := by decide +kernel
theorem dX9_layOutOf_28 : decode cX9_layOutOf 28 = .ok (.iconst 0, 1) := by decide +kernel
theorem dX9_layOutOf_29 : decode cX9_layOutOf 29 = .ok (.istore 6, 2) := by decide +kernel
theorem dX9_layOutOf_31 : decode cX9_layOutOf 31 = .ok (.iload 6, 2) := by decide +kernel
theorem dX9_layOutOf_33 : decode cX9_layOutOf 33 = .ok (.aload_n 0, 1) := by decide +kernel
theorem dX9_layOutOf_34 : decode cX9_layOutOf 34 = .ok (.getfield 94, 3) := by decide +kernel
theorem dX9_layOutOf_37 : decode cX9_layOutOf 37 = .ok (.if_icmp .ge 58, 3) := by decide +kernel
theorem dX9_layOutOf_40 : decode cX9_layOutOf 40 = .ok (.aload_n 0, 1) := by decide +kernel
theorem dX9_layOutOf_41 : decode cX9_layOutOf 41 = .ok (.iload_n 1, 1) := by decide +kernel
theorem dX9_layOutOf_42 : decode cX9_layOutOf 42 = .ok (.iload 6, 2) := by decide +kernel
theorem dX9_layOutOf_44 : decode cX9_layOutOf 44 = .ok (.invokevirtual 139, 3) := by decide +kernel
theorem dX9_layOutOf_47 : decode cX9_layOutOf 47 = .ok (.aload_n 0, 1) := by decide +kernel
theorem dX9_layOutOf_48 : decode cX9_layOutOf 48 = .ok (.iload_n 1, 1) := by decide +kernel
theorem dX9_layOutOf_49 : decode cX9_layOutOf 49 = .ok (.iload_n 2, 1) := by decide +kernel
theorem dX9_layOutOf_50 : decode cX9_layOutOf 50 = .ok (.iload_n 3, 1) := by decide +kernel
theorem dX9_layOutOf_51 : decode cX9_layOutOf 51 = .ok (.invokevirtual 210, 3) := by decide +kernel
theorem dX9_layOutOf_54 : decode cX9_layOutOf 54 = .ok (.istore 7, 2) := by decide +kernel
theorem dX9_layOutOf_56 : decode cX9_layOutOf 56 = .ok (.aload_n 0, 1) := by decide +kernel
theorem dX9_layOutOf_57 : decode cX9_layOutOf 57 = .ok (.iload 5, 2) := by decide +kernel
theorem dX9_layOutOf_59 : decode cX9_layOutOf 59 = .ok (.putfield 133, 3) := by decide +kernel
theorem dX9_layOutOf_62 : decode cX9_layOutOf 62 = .ok (.iload 7, 2) := by decide +kernel
theorem dX9_layOutOf_64 : decode cX9_layOutOf 64 = .ok (.ifCond .eq 25, 3) := by decide +kernel
theorem dX9_layOutOf_67 : decode cX9_layOutOf 67 = .ok (.iload 4, 2) := by decide +kernel
theorem dX9_layOutOf_69 : decode cX9_layOutOf 69 = .ok (.iconst (-1), 1) := by decide +kernel
theorem dX9_layOutOf_70 : decode cX9_layOutOf 70 = .ok (.if_icmp .ne 7, 3) := by decide +kernel
theorem dX9_layOutOf_73 : decode cX9_layOutOf 73 = .ok (.iconst 1, 1) := by decide +kernel
theorem dX9_layOutOf_74 : decode cX9_layOutOf 74 = .ok (.goto 14, 3) := by decide +kernel
theorem dX9_layOutOf_77 : decode cX9_layOutOf 77 = .ok (.iload 4, 2) := by decide +kernel
theorem dX9_layOutOf_79 : decode cX9_layOutOf 79 = .ok (.ifCond .ne 8, 3) := by decide +kernel
theorem dX9_layOutOf_82 : decode cX9_layOutOf 82 = .ok (.iload 6, 2) := by decide +kernel
theorem dX9_layOutOf_84 : decode cX9_layOutOf 84 = .ok (.goto 4, 3) := by decide +kernel
theorem dX9_layOutOf_87 : decode cX9_layOutOf 87 = .ok (.iconst (-1), 1) := by decide +kernel
theorem dX9_layOutOf_88 : decode cX9_layOutOf 88 = .ok (.ireturn, 1) := by decide +kernel
theorem dX9_layOutOf_89 : decode cX9_layOutOf 89 = .ok (.iinc 6 1, 3) := by decide +kernel
theorem dX9_layOutOf_92 : decode cX9_layOutOf 92 = .ok (.goto (-61), 3) := by decide +kernel
theorem dX9_layOutOf_95 : decode cX9_layOutOf 95 = .ok (.iconst 0, 1) := by decide +kernel
theorem dX9_layOutOf_96 : decode cX9_layOutOf 96 = .ok (.istore 6, 2) := by decide +kernel
theorem dX9_layOutOf_98 : decode cX9_layOutOf 98 = .ok (.iload 6, 2) := by decide +kernel
theorem dX9_layOutOf_100 : decode cX9_layOutOf 100 = .ok (.aload_n 0, 1) := by decide +kernel
theorem dX9_layOutOf_101 : decode cX9_layOutOf 101 = .ok (.getfield 94, 3) := by decide +kernel
theorem dX9_layOutOf_104 : decode cX9_layOutOf 104 = .ok (.if_icmp .ge 85, 3) := by decide +kernel
theorem dX9_layOutOf_107 : decode cX9_layOutOf 107 = .ok (.iload 6, 2) := by decide +kernel
theorem dX9_layOutOf_109 : decode cX9_layOutOf 109 = .ok (.istore 7, 2) := by decide +kernel
theorem dX9_layOutOf_111 : decode cX9_layOutOf 111 = .ok (.iload 7, 2) := by decide +kernel
theorem dX9_layOutOf_113 : decode cX9_layOutOf 113 = .ok (.aload_n 0, 1) := by decide +kernel
theorem dX9_layOutOf_114 : decode cX9_layOutOf 114 = .ok (.getfield 94, 3) := by decide +kernel
theorem dX9_layOutOf_117 : decode cX9_layOutOf 117 = .ok (.if_icmp .ge 66, 3) := by decide +kernel
theorem dX9_layOutOf_120 : decode cX9_layOutOf 120 = .ok (.aload_n 0, 1) := by decide +kernel
theorem dX9_layOutOf_121 : decode cX9_layOutOf 121 = .ok (.iload_n 1, 1) := by decide +kernel
theorem dX9_layOutOf_122 : decode cX9_layOutOf 122 = .ok (.iload 6, 2) := by decide +kernel
theorem dX9_layOutOf_124 : decode cX9_layOutOf 124 = .ok (.invokevirtual 139, 3) := by decide +kernel
theorem dX9_layOutOf_127 : decode cX9_layOutOf 127 = .ok (.aload_n 0, 1) := by decide +kernel
theorem dX9_layOutOf_128 : decode cX9_layOutOf 128 = .ok (.iload_n 1, 1) := by decide +kernel
theorem dX9_layOutOf_129 : decode cX9_layOutOf 129 = .ok (.iload 7, 2) := by decide +kernel
theorem dX9_layOutOf_131 : decode cX9_layOutOf 131 = .ok (.invokevirtual 139, 3) := by decide +kernel
theorem dX9_layOutOf_134 : decode cX9_layOutOf 134 = .ok (.aload_n 0, 1) := by decide +kernel
theorem dX9_layOutOf_135 : decode cX9_layOutOf 135 = .ok (.iload_n 1, 1) := by decide +kernel
theorem dX9_layOutOf_136 : decode cX9_layOutOf 136 = .ok (.iload_n 2, 1) := by decide +kernel
theorem dX9_layOutOf_137 : decode cX9_layOutOf 137 = .ok (.iload_n 3, 1) := by decide +kernel
theorem dX9_layOutOf_138 : decode cX9_layOutOf 138 = .ok (.invokevirtual 210, 3) := by decide +kernel
theorem dX9_layOutOf_141 : decode cX9_layOutOf 141 = .ok (.istore 8, 2) := by decide +kernel
theorem dX9_layOutOf_143 : decode cX9_layOutOf 143 = .ok (.aload_n 0, 1) := by decide +kernel
theorem dX9_layOutOf_144 : decode cX9_layOutOf 144 = .ok (.iload 5, 2) := by decide +kernel
theorem dX9_layOutOf_146 : decode cX9_layOutOf 146 = .ok (.putfield 133, 3) := by decide +kernel
theorem dX9_layOutOf_149 : decode cX9_layOutOf 149 = .ok (.iload 8, 2) := by decide +kernel
theorem dX9_layOutOf_151 : decode cX9_layOutOf 151 = .ok (.ifCond .eq 26, 3) := by decide +kernel
theorem dX9_layOutOf_154 : decode cX9_layOutOf 154 = .ok (.iload 4, 2) := by decide +kernel
theorem dX9_layOutOf_156 : decode cX9_layOutOf 156 = .ok (.iconst (-1), 1) := by decide +kernel
theorem dX9_layOutOf_157 : decode cX9_layOutOf 157 = .ok (.if_icmp .ne 7, 3) := by decide +kernel
theorem dX9_layOutOf_160 : decode cX9_layOutOf 160 = .ok (.iconst 2, 1) := by decide +kernel
theorem dX9_layOutOf_161 : decode cX9_layOutOf 161 = .ok (.goto 15, 3) := by decide +kernel
theorem dX9_layOutOf_164 : decode cX9_layOutOf 164 = .ok (.iload 4, 2) := by decide +kernel
theorem dX9_layOutOf_166 : decode cX9_layOutOf 166 = .ok (.ifCond .ne 8, 3) := by decide +kernel
theorem dX9_layOutOf_169 : decode cX9_layOutOf 169 = .ok (.iload 6, 2) := by decide +kernel
theorem dX9_layOutOf_171 : decode cX9_layOutOf 171 = .ok (.goto 5, 3) := by decide +kernel
theorem dX9_layOutOf_174 : decode cX9_layOutOf 174 = .ok (.iload 7, 2) := by decide +kernel
