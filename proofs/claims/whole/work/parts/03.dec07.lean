theorem dX9_tellsHouse_0 : decode cX9_tellsHouse 0 = .ok (.aload_n 0, 1) := by decide +kernel
theorem dX9_tellsHouse_1 : decode cX9_tellsHouse 1 = .ok (.bipush 9, 2) := by decide +kernel
theorem dX9_tellsHouse_3 : decode cX9_tellsHouse 3 = .ok (.invokevirtual 178, 3) := by decide +kernel
theorem dX9_tellsHouse_6 : decode cX9_tellsHouse 6 = .ok (.ldc2_w 275, 3) := by decide +kernel
theorem dX9_tellsHouse_9 : decode cX9_tellsHouse 9 = .ok (.lload_n 1, 1) := by decide +kernel
theorem dX9_tellsHouse_10 : decode cX9_tellsHouse 10 = .ok (.lmul, 1) := by decide +kernel
theorem dX9_tellsHouse_11 : decode cX9_tellsHouse 11 = .ok (.aload_n 0, 1) := by decide +kernel
theorem dX9_tellsHouse_12 : decode cX9_tellsHouse 12 = .ok (.getfield 31, 3) := by decide +kernel
theorem dX9_tellsHouse_15 : decode cX9_tellsHouse 15 = .ok (.iconst 2, 1) := by decide +kernel
theorem dX9_tellsHouse_16 : decode cX9_tellsHouse 16 = .ok (.iload_n 3, 1) := by decide +kernel
theorem dX9_tellsHouse_17 : decode cX9_tellsHouse 17 = .ok (.imul, 1) := by decide +kernel
theorem dX9_tellsHouse_18 : decode cX9_tellsHouse 18 = .ok (.iaload, 1) := by decide +kernel
theorem dX9_tellsHouse_19 : decode cX9_tellsHouse 19 = .ok (.i2l, 1) := by decide +kernel
theorem dX9_tellsHouse_20 : decode cX9_tellsHouse 20 = .ok (.ladd, 1) := by decide +kernel
theorem dX9_tellsHouse_21 : decode cX9_tellsHouse 21 = .ok (.lstore 4, 2) := by decide +kernel
theorem dX9_tellsHouse_23 : decode cX9_tellsHouse 23 = .ok (.ldc2_w 275, 3) := by decide +kernel
theorem dX9_tellsHouse_26 : decode cX9_tellsHouse 26 = .ok (.lload 4, 2) := by decide +kernel
theorem dX9_tellsHouse_28 : decode cX9_tellsHouse 28 = .ok (.lmul, 1) := by decide +kernel
theorem dX9_tellsHouse_29 : decode cX9_tellsHouse 29 = .ok (.aload_n 0, 1) := by decide +kernel
theorem dX9_tellsHouse_30 : decode cX9_tellsHouse 30 = .ok (.getfield 31, 3) := by decide +kernel
theorem dX9_tellsHouse_33 : decode cX9_tellsHouse 33 = .ok (.iconst 2, 1) := by decide +kernel
theorem dX9_tellsHouse_34 : decode cX9_tellsHouse 34 = .ok (.iload_n 3, 1) := by decide +kernel
theorem dX9_tellsHouse_35 : decode cX9_tellsHouse 35 = .ok (.imul, 1) := by decide +kernel
theorem dX9_tellsHouse_36 : decode cX9_tellsHouse 36 = .ok (.iconst 1, 1) := by decide +kernel
theorem dX9_tellsHouse_37 : decode cX9_tellsHouse 37 = .ok (.iadd, 1) := by decide +kernel
theorem dX9_tellsHouse_38 : decode cX9_tellsHouse 38 = .ok (.iaload, 1) := by decide +kernel
theorem dX9_tellsHouse_39 : decode cX9_tellsHouse 39 = .ok (.i2l, 1) := by decide +kernel
theorem dX9_tellsHouse_40 : decode cX9_tellsHouse 40 = .ok (.ladd, 1) := by decide +kernel
theorem dX9_tellsHouse_41 : decode cX9_tellsHouse 41 = .ok (.lstore 4, 2) := by decide +kernel
theorem dX9_tellsHouse_43 : decode cX9_tellsHouse 43 = .ok (.ldc2_w 275, 3) := by decide +kernel
theorem dX9_tellsHouse_46 : decode cX9_tellsHouse 46 = .ok (.lload 4, 2) := by decide +kernel
theorem dX9_tellsHouse_48 : decode cX9_tellsHouse 48 = .ok (.lmul, 1) := by decide +kernel
theorem dX9_tellsHouse_49 : decode cX9_tellsHouse 49 = .ok (.aload_n 0, 1) := by decide +kernel
theorem dX9_tellsHouse_50 : decode cX9_tellsHouse 50 = .ok (.iconst 0, 1) := by decide +kernel
theorem dX9_tellsHouse_51 : decode cX9_tellsHouse 51 = .ok (.iload_n 3, 1) := by decide +kernel
theorem dX9_tellsHouse_52 : decode cX9_tellsHouse 52 = .ok (.invokevirtual 198, 3) := by decide +kernel
theorem dX9_tellsHouse_55 : decode cX9_tellsHouse 55 = .ok (.i2l, 1) := by decide +kernel
theorem dX9_tellsHouse_56 : decode cX9_tellsHouse 56 = .ok (.ladd, 1) := by decide +kernel
theorem dX9_tellsHouse_57 : decode cX9_tellsHouse 57 = .ok (.lstore 4, 2) := by decide +kernel
theorem dX9_tellsHouse_59 : decode cX9_tellsHouse 59 = .ok (.ldc2_w 275, 3) := by decide +kernel
theorem dX9_tellsHouse_62 : decode cX9_tellsHouse 62 = .ok (.lload 4, 2) := by decide +kernel
theorem dX9_tellsHouse_64 : decode cX9_tellsHouse 64 = .ok (.lmul, 1) := by decide +kernel
theorem dX9_tellsHouse_65 : decode cX9_tellsHouse 65 = .ok (.aload_n 0, 1) := by decide +kernel
theorem dX9_tellsHouse_66 : decode cX9_tellsHouse 66 = .ok (.bipush 9, 2) := by decide +kernel
theorem dX9_tellsHouse_68 : decode cX9_tellsHouse 68 = .ok (.iload_n 3, 1) := by decide +kernel
theorem dX9_tellsHouse_69 : decode cX9_tellsHouse 69 = .ok (.invokevirtual 198, 3) := by decide +kernel
theorem dX9_tellsHouse_72 : decode cX9_tellsHouse 72 = .ok (.i2l, 1) := by decide +kernel
theorem dX9_tellsHouse_73 : decode cX9_tellsHouse 73 = .ok (.ladd, 1) := by decide +kernel
theorem dX9_tellsHouse_74 : decode cX9_tellsHouse 74 = .ok (.lstore 4, 2) := by decide +kernel
theorem dX9_tellsHouse_76 : decode cX9_tellsHouse 76 = .ok (.ldc2_w 275, 3) := by decide +kernel
theorem dX9_tellsHouse_79 : decode cX9_tellsHouse 79 = .ok (.lload 4, 2) := by decide +kernel
theorem dX9_tellsHouse_81 : decode cX9_tellsHouse 81 = .ok (.lmul, 1) := by decide +kernel
theorem dX9_tellsHouse_82 : decode cX9_tellsHouse 82 = .ok (.aload_n 0, 1) := by decide +kernel
theorem dX9_tellsHouse_83 : decode cX9_tellsHouse 83 = .ok (.iload_n 3, 1) := by decide +kernel
theorem dX9_tellsHouse_84 : decode cX9_tellsHouse 84 = .ok (.invokevirtual 201, 3) := by decide +kernel
theorem dX9_tellsHouse_87 : decode cX9_tellsHouse 87 = .ok (.i2l, 1) := by decide +kernel
theorem dX9_tellsHouse_88 : decode cX9_tellsHouse 88 = .ok (.ladd, 1) := by decide +kernel
theorem dX9_tellsHouse_89 : decode cX9_tellsHouse 89 = .ok (.lstore 4, 2) := by decide +kernel
theorem dX9_tellsHouse_91 : decode cX9_tellsHouse 91 = .ok (.ldc2_w 275, 3) := by decide +kernel
theorem dX9_tellsHouse_94 : decode cX9_tellsHouse 94 = .ok (.lload 4, 2) := by decide +kernel
theorem dX9_tellsHouse_96 : decode cX9_tellsHouse 96 = .ok (.lmul, 1) := by decide +kernel
theorem dX9_tellsHouse_97 : decode cX9_tellsHouse 97 = .ok (.aload_n 0, 1) := by decide +kernel
theorem dX9_tellsHouse_98 : decode cX9_tellsHouse 98 = .ok (.iconst 3, 1) := by decide +kernel
theorem dX9_tellsHouse_99 : decode cX9_tellsHouse 99 = .ok (.iload_n 3, 1) := by decide +kernel
theorem dX9_tellsHouse_100 : decode cX9_tellsHouse 100 = .ok (.iconst 0, 1) := by decide +kernel
theorem dX9_tellsHouse_101 : decode cX9_tellsHouse 101 = .ok (.iconst (-1), 1) := by decide +kernel
theorem dX9_tellsHouse_102 : decode cX9_tellsHouse 102 = .ok (.invokevirtual 215, 3) := by decide +kernel
theorem dX9_tellsHouse_105 : decode cX9_tellsHouse 105 = .ok (.i2l, 1) := by decide +kernel
theorem dX9_tellsHouse_106 : decode cX9_tellsHouse 106 = .ok (.ladd, 1) := by decide +kernel
theorem dX9_tellsHouse_107 : decode cX9_tellsHouse 107 = .ok (.lstore 4, 2) := by decide +kernel
theorem dX9_tellsHouse_109 : decode cX9_tellsHouse 109 = .ok (.ldc2_w 275, 3) := by decide +kernel
theorem dX9_tellsHouse_112 : decode cX9_tellsHouse 112 = .ok (.lload 4, 2) := by decide +kernel
theorem dX9_tellsHouse_114 : decode cX9_tellsHouse 114 = .ok (.lmul, 1) := by decide +kernel
theorem dX9_tellsHouse_115 : decode cX9_tellsHouse 115 = .ok (.aload_n 0, 1) := by decide +kernel
theorem dX9_tellsHouse_116 : decode cX9_tellsHouse 116 = .ok (.iconst 3, 1) := by decide +kernel
theorem dX9_tellsHouse_117 : decode cX9_tellsHouse 117 = .ok (.iload_n 3, 1) := by decide +kernel
theorem dX9_tellsHouse_118 : decode cX9_tellsHouse 118 = .ok (.iconst 0, 1) := by decide +kernel
theorem dX9_tellsHouse_119 : decode cX9_tellsHouse 119 = .ok (.iconst 0, 1) := by decide +kernel
theorem dX9_tellsHouse_120 : decode cX9_tellsHouse 120 = .ok (.invokevirtual 215, 3) := by decide +kernel
theorem dX9_tellsHouse_123 : decode cX9_tellsHouse 123 = .ok (.i2l, 1) := by decide +kernel
theorem dX9_tellsHouse_124 : decode cX9_tellsHouse 124 = .ok (.ladd, 1) := by decide +kernel
theorem dX9_tellsHouse_125 : decode cX9_tellsHouse 125 = .ok (.lstore 4, 2) := by decide +kernel
theorem dX9_tellsHouse_127 : decode cX9_tellsHouse 127 = .ok (.ldc2_w 275, 3) := by decide +kernel
theorem dX9_tellsHouse_130 : decode cX9_tellsHouse 130 = .ok (.lload 4, 2) := by decide +kernel
theorem dX9_tellsHouse_132 : decode cX9_tellsHouse 132 = .ok (.lmul, 1) := by decide +kernel
theorem dX9_tellsHouse_133 : decode cX9_tellsHouse 133 = .ok (.aload_n 0, 1) := by decide +kernel
theorem dX9_tellsHouse_134 : decode cX9_tellsHouse 134 = .ok (.iconst 3, 1) := by decide +kernel
theorem dX9_tellsHouse_135 : decode cX9_tellsHouse 135 = .ok (.iload_n 3, 1) := by decide +kernel
theorem dX9_tellsHouse_136 : decode cX9_tellsHouse 136 = .ok (.iconst 1, 1) := by decide +kernel
theorem dX9_tellsHouse_137 : decode cX9_tellsHouse 137 = .ok (.invokevirtual 219, 3) := by decide +kernel
theorem dX9_tellsHouse_140 : decode cX9_tellsHouse 140 = .ok (.i2l, 1) := by decide +kernel
theorem dX9_tellsHouse_141 : decode cX9_tellsHouse 141 = .ok (.ladd, 1) := by decide +kernel
theorem dX9_tellsHouse_142 : decode cX9_tellsHouse 142 = .ok (.lstore 4, 2) := by decide +kernel
theorem dX9_tellsHouse_144 : decode cX9_tellsHouse 144 = .ok (.ldc2_w 275, 3) := by decide +kernel
theorem dX9_tellsHouse_147 : decode cX9_tellsHouse 147 = .ok (.lload 4, 2) := by decide +kernel
theorem dX9_tellsHouse_149 : decode cX9_tellsHouse 149 = .ok (.lmul, 1) := by decide +kernel
theorem dX9_tellsHouse_150 : decode cX9_tellsHouse 150 = .ok (.aload_n 0, 1) := by decide +kernel
theorem dX9_tellsHouse_151 : decode cX9_tellsHouse 151 = .ok (.iconst 5, 1) := by decide +kernel
theorem dX9_tellsHouse_152 : decode cX9_tellsHouse 152 = .ok (.iconst 4, 1) := by decide +kernel
theorem dX9_tellsHouse_153 : decode cX9_tellsHouse 153 = .ok (.iload_n 3, 1) := by decide +kernel
theorem dX9_tellsHouse_154 : decode cX9_tellsHouse 154 = .ok (.iconst 0, 1) := by decide +kernel
theorem dX9_tellsHouse_155 : decode cX9_tellsHouse 155 = .ok (.iconst 0, 1) := by decide +kernel
theorem dX9_tellsHouse_156 : decode cX9_tellsHouse 156 = .ok (.invokevirtual 252, 3) := by decide +kernel
theorem dX9_tellsHouse_159 : decode cX9_tellsHouse 159 = .ok (.ladd, 1) := by decide +kernel
theorem dX9_tellsHouse_160 : decode cX9_tellsHouse 160 = .ok (.lstore 4, 2) := by decide +kernel
theorem dX9_tellsHouse_162 : decode cX9_tellsHouse 162 = .ok (.ldc2_w 275, 3) := by decide +kernel
theorem dX9_tellsHouse_165 : decode cX9_tellsHouse 165 = .ok (.lload 4, 2) := by decide +kernel
theorem dX9_tellsHouse_167 : decode cX9_tellsHouse 167 = .ok (.lmul, 1) := by decide +kernel
theorem dX9_tellsHouse_168 : decode cX9_tellsHouse 168 = .ok (.aload_n 0, 1) := by decide +kernel
theorem dX9_tellsHouse_169 : decode cX9_tellsHouse 169 = .ok (.iconst 5, 1) := by decide +kernel
theorem dX9_tellsHouse_170 : decode cX9_tellsHouse 170 = .ok (.iconst 4, 1) := by decide +kernel
theorem dX9_tellsHouse_171 : decode cX9_tellsHouse 171 = .ok (.iload_n 3, 1) := by decide +kernel
theorem dX9_tellsHouse_172 : decode cX9_tellsHouse 172 = .ok (.iconst 0, 1) := by decide +kernel
theorem dX9_tellsHouse_173 : decode cX9_tellsHouse 173 = .ok (.iconst 1, 1) := by decide +kernel
theorem dX9_tellsHouse_174 : decode cX9_tellsHouse 174 = .ok (.invokevirtual 252, 3) := by decide +kernel
theorem dX9_tellsHouse_177 : decode cX9_tellsHouse 177 = .ok (.ladd, 1) := by decide +kernel
theorem dX9_tellsHouse_178 : decode cX9_tellsHouse 178 = .ok (.lreturn, 1) := by decide +kernel
theorem dX9_tellsNight_0 : decode cX9_tellsNight 0 = .ok (.aload_n 0, 1) := by decide +kernel
theorem dX9_tellsNight_1 : decode cX9_tellsNight 1 = .ok (.bipush 9, 2) := by decide +kernel
theorem dX9_tellsNight_3 : decode cX9_tellsNight 3 = .ok (.invokevirtual 178, 3) := by decide +kernel
theorem dX9_tellsNight_6 : decode cX9_tellsNight 6 = .ok (.ldc2_w 275, 3) := by decide +kernel
theorem dX9_tellsNight_9 : decode cX9_tellsNight 9 = .ok (.lload_n 1, 1) := by decide +kernel
theorem dX9_tellsNight_10 : decode cX9_tellsNight 10 = .ok (.lmul, 1) := by decide +kernel
theorem dX9_tellsNight_11 : decode cX9_tellsNight 11 = .ok (.aload_n 0, 1) := by decide +kernel
theorem dX9_tellsNight_12 : decode cX9_tellsNight 12 = .ok (.iload_n 3, 1) := by decide +kernel
theorem dX9_tellsNight_13 : decode cX9_tellsNight 13 = .ok (.iconst 3, 1) := by decide +kernel
theorem dX9_tellsNight_14 : decode cX9_tellsNight 14 = .ok (.invokevirtual 189, 3) := by decide +kernel
theorem dX9_tellsNight_17 : decode cX9_tellsNight 17 = .ok (.i2l, 1) := by decide +kernel
theorem dX9_tellsNight_18 : decode cX9_tellsNight 18 = .ok (.ladd, 1) := by decide +kernel
theorem dX9_tellsNight_19 : decode cX9_tellsNight 19 = .ok (.lstore 4, 2) := by decide +kernel
theorem dX9_tellsNight_21 : decode cX9_tellsNight 21 = .ok (.ldc2_w 275, 3) := by decide +kernel
theorem dX9_tellsNight_24 : decode cX9_tellsNight 24 = .ok (.lload 4, 2) := by decide +kernel
theorem dX9_tellsNight_26 : decode cX9_tellsNight 26 = .ok (.lmul, 1) := by decide +kernel
theorem dX9_tellsNight_27 : decode cX9_tellsNight 27 = .ok (.aload_n 0, 1) := by decide +kernel
theorem dX9_tellsNight_28 : decode cX9_tellsNight 28 = .ok (.iload_n 3, 1) := by decide +kernel
theorem dX9_tellsNight_29 : decode cX9_tellsNight 29 = .ok (.bipush 24, 2) := by decide +kernel
theorem dX9_tellsNight_31 : decode cX9_tellsNight 31 = .ok (.invokevirtual 189, 3) := by decide +kernel
theorem dX9_tellsNight_34 : decode cX9_tellsNight 34 = .ok (.i2l, 1) := by decide +kernel
theorem dX9_tellsNight_35 : decode cX9_tellsNight 35 = .ok (.ladd, 1) := by decide +kernel
theorem dX9_tellsNight_36 : decode cX9_tellsNight 36 = .ok (.lstore 4, 2) := by decide +kernel
theorem dX9_tellsNight_38 : decode cX9_tellsNight 38 = .ok (.ldc2_w 275, 3) := by decide +kernel
theorem dX9_tellsNight_41 : decode cX9_tellsNight 41 = .ok (.lload 4, 2) := by decide +kernel
theorem dX9_tellsNight_43 : decode cX9_tellsNight 43 = .ok (.lmul, 1) := by decide +kernel
theorem dX9_tellsNight_44 : decode cX9_tellsNight 44 = .ok (.aload_n 0, 1) := by decide +kernel
theorem dX9_tellsNight_45 : decode cX9_tellsNight 45 = .ok (.iload_n 3, 1) := by decide +kernel
theorem dX9_tellsNight_46 : decode cX9_tellsNight 46 = .ok (.invokevirtual 192, 3) := by decide +kernel
theorem dX9_tellsNight_49 : decode cX9_tellsNight 49 = .ok (.i2l, 1) := by decide +kernel
theorem dX9_tellsNight_50 : decode cX9_tellsNight 50 = .ok (.ladd, 1) := by decide +kernel
theorem dX9_tellsNight_51 : decode cX9_tellsNight 51 = .ok (.lstore 4, 2) := by decide +kernel
theorem dX9_tellsNight_53 : decode cX9_tellsNight 53 = .ok (.ldc2_w 275, 3) := by decide +kernel
theorem dX9_tellsNight_56 : decode cX9_tellsNight 56 = .ok (.lload 4, 2) := by decide +kernel
theorem dX9_tellsNight_58 : decode cX9_tellsNight 58 = .ok (.lmul, 1) := by decide +kernel
theorem dX9_tellsNight_59 : decode cX9_tellsNight 59 = .ok (.aload_n 0, 1) := by decide +kernel
theorem dX9_tellsNight_60 : decode cX9_tellsNight 60 = .ok (.iload_n 3, 1) := by decide +kernel
theorem dX9_tellsNight_61 : decode cX9_tellsNight 61 = .ok (.invokevirtual 243, 3) := by decide +kernel
theorem dX9_tellsNight_64 : decode cX9_tellsNight 64 = .ok (.i2l, 1) := by decide +kernel
theorem dX9_tellsNight_65 : decode cX9_tellsNight 65 = .ok (.ladd, 1) := by decide +kernel
theorem dX9_tellsNight_66 : decode cX9_tellsNight 66 = .ok (.lstore 4, 2) := by decide +kernel
theorem dX9_tellsNight_68 : decode cX9_tellsNight 68 = .ok (.aload_n 0, 1) := by decide +kernel
theorem dX9_tellsNight_69 : decode cX9_tellsNight 69 = .ok (.bipush 9, 2) := by decide +kernel
theorem dX9_tellsNight_71 : decode cX9_tellsNight 71 = .ok (.invokevirtual 178, 3) := by decide +kernel
theorem dX9_tellsNight_74 : decode cX9_tellsNight 74 = .ok (.ldc2_w 275, 3) := by decide +kernel
theorem dX9_tellsNight_77 : decode cX9_tellsNight 77 = .ok (.lload 4, 2) := by decide +kernel
theorem dX9_tellsNight_79 : decode cX9_tellsNight 79 = .ok (.lmul, 1) := by decide +kernel
theorem dX9_tellsNight_80 : decode cX9_tellsNight 80 = .ok (.aload_n 0, 1) := by decide +kernel
theorem dX9_tellsNight_81 : decode cX9_tellsNight 81 = .ok (.iload_n 3, 1) := by decide +kernel
theorem dX9_tellsNight_82 : decode cX9_tellsNight 82 = .ok (.iconst 0, 1) := by decide +kernel
theorem dX9_tellsNight_83 : decode cX9_tellsNight 83 = .ok (.invokevirtual 204, 3) := by decide +kernel
theorem dX9_tellsNight_86 : decode cX9_tellsNight 86 = .ok (.i2l, 1) := by decide +kernel
theorem dX9_tellsNight_87 : decode cX9_tellsNight 87 = .ok (.ladd, 1) := by decide +kernel
theorem dX9_tellsNight_88 : decode cX9_tellsNight 88 = .ok (.lstore 4, 2) := by decide +kernel
theorem dX9_tellsNight_90 : decode cX9_tellsNight 90 = .ok (.ldc2_w 275, 3) := by decide +kernel
theorem dX9_tellsNight_93 : decode cX9_tellsNight 93 = .ok (.lload 4, 2) := by decide +kernel
theorem dX9_tellsNight_95 : decode cX9_tellsNight 95 = .ok (.lmul, 1) := by decide +kernel
theorem dX9_tellsNight_96 : decode cX9_tellsNight 96 = .ok (.aload_n 0, 1) := by decide +kernel
theorem dX9_tellsNight_97 : decode cX9_tellsNight 97 = .ok (.iload_n 3, 1) := by decide +kernel
theorem dX9_tellsNight_98 : decode cX9_tellsNight 98 = .ok (.iconst 1, 1) := by decide +kernel
theorem dX9_tellsNight_99 : decode cX9_tellsNight 99 = .ok (.invokevirtual 204, 3) := by decide +kernel
theorem dX9_tellsNight_102 : decode cX9_tellsNight 102 = .ok (.i2l, 1) := by decide +kernel
theorem dX9_tellsNight_103 : decode cX9_tellsNight 103 = .ok (.ladd, 1) := by decide +kernel
theorem dX9_tellsNight_104 : decode cX9_tellsNight 104 = .ok (.lstore 4, 2) := by decide +kernel
theorem dX9_tellsNight_106 : decode cX9_tellsNight 106 = .ok (.iconst 0, 1) := by decide +kernel
theorem dX9_tellsNight_107 : decode cX9_tellsNight 107 = .ok (.istore 6, 2) := by decide +kernel
theorem dX9_tellsNight_109 : decode cX9_tellsNight 109 = .ok (.iload 6, 2) := by decide +kernel
theorem dX9_tellsNight_111 : decode cX9_tellsNight 111 = .ok (.aload_n 0, 1) := by decide +kernel
theorem dX9_tellsNight_112 : decode cX9_tellsNight 112 = .ok (.getfield 97, 3) := by decide +kernel
theorem dX9_tellsNight_115 : decode cX9_tellsNight 115 = .ok (.if_icmp .ge 31, 3) := by decide +kernel
theorem dX9_tellsNight_118 : decode cX9_tellsNight 118 = .ok (.ldc2_w 275, 3) := by decide +kernel
theorem dX9_tellsNight_121 : decode cX9_tellsNight 121 = .ok (.lload 4, 2) := by decide +kernel
theorem dX9_tellsNight_123 : decode cX9_tellsNight 123 = .ok (.lmul, 1) := by decide +kernel
theorem dX9_tellsNight_124 : decode cX9_tellsNight 124 = .ok (.aload_n 0, 1) := by decide +kernel
theorem dX9_tellsNight_125 : decode cX9_tellsNight 125 = .ok (.getfield 49, 3) := by decide +kernel
theorem dX9_tellsNight_128 : decode cX9_tellsNight 128 = .ok (.bipush 6, 2) := by decide +kernel
theorem dX9_tellsNight_130 : decode cX9_tellsNight 130 = .ok (.iload_n 3, 1) := by decide +kernel
theorem dX9_tellsNight_131 : decode cX9_tellsNight 131 = .ok (.imul, 1) := by decide +kernel
theorem dX9_tellsNight_132 : decode cX9_tellsNight 132 = .ok (.iload 6, 2) := by decide +kernel
theorem dX9_tellsNight_134 : decode cX9_tellsNight 134 = .ok (.iadd, 1) := by decide +kernel
theorem dX9_tellsNight_135 : decode cX9_tellsNight 135 = .ok (.iaload, 1) := by decide +kernel
theorem dX9_tellsNight_136 : decode cX9_tellsNight 136 = .ok (.i2l, 1) := by decide +kernel
theorem dX9_tellsNight_137 : decode cX9_tellsNight 137 = .ok (.ladd, 1) := by decide +kernel
theorem dX9_tellsNight_138 : decode cX9_tellsNight 138 = .ok (.lstore 4, 2) := by decide +kernel
theorem dX9_tellsNight_140 : decode cX9_tellsNight 140 = .ok (.iinc 6 1, 3) := by decide +kernel
theorem dX9_tellsNight_143 : decode cX9_tellsNight 143 = .ok (.goto (-34), 3) := by decide +kernel
theorem dX9_tellsNight_146 : decode cX9_tellsNight 146 = .ok (.lload 4, 2) := by decide +kernel
theorem dX9_tellsNight_148 : decode cX9_tellsNight 148 = .ok (.lreturn, 1) := by decide +kernel
theorem dX9_digest_0 : decode cX9_digest 0 = .ok (.ldc2_w 277, 3) := by decide +kernel
theorem dX9_digest_3 : decode cX9_digest 3 = .ok (.lstore_n 1, 1) := by decide +kernel
theorem dX9_digest_4 : decode cX9_digest 4 = .ok (.iconst 0, 1) := by decide +kernel
theorem dX9_digest_5 : decode cX9_digest 5 = .ok (.istore_n 3, 1) := by decide +kernel
theorem dX9_digest_6 : decode cX9_digest 6 = .ok (.iload_n 3, 1) := by decide +kernel
theorem dX9_digest_7 : decode cX9_digest 7 = .ok (.bipush 8, 2) := by decide +kernel
theorem dX9_digest_9 : decode cX9_digest 9 = .ok (.if_icmp .ge 22, 3) := by decide +kernel
theorem dX9_digest_12 : decode cX9_digest 12 = .ok (.ldc2_w 275, 3) := by decide +kernel
theorem dX9_digest_15 : decode cX9_digest 15 = .ok (.lload_n 1, 1) := by decide +kernel
theorem dX9_digest_16 : decode cX9_digest 16 = .ok (.lmul, 1) := by decide +kernel
theorem dX9_digest_17 : decode cX9_digest 17 = .ok (.aload_n 0, 1) := by decide +kernel
theorem dX9_digest_18 : decode cX9_digest 18 = .ok (.iload_n 3, 1) := by decide +kernel
theorem dX9_digest_19 : decode cX9_digest 19 = .ok (.invokevirtual 279, 3) := by decide +kernel
theorem dX9_digest_22 : decode cX9_digest 22 = .ok (.i2l, 1) := by decide +kernel
theorem dX9_digest_23 : decode cX9_digest 23 = .ok (.ladd, 1) := by decide +kernel
theorem dX9_digest_24 : decode cX9_digest 24 = .ok (.lstore_n 1, 1) := by decide +kernel
theorem dX9_digest_25 : decode cX9_digest 25 = .ok (.iinc 3 1, 3) := by decide +kernel
theorem dX9_digest_28 : decode cX9_digest 28 = .ok (.goto (-22), 3) := by decide +kernel
theorem dX9_digest_31 : decode cX9_digest 31 = .ok (.ldc2_w 275, 3) := by decide +kernel
theorem dX9_digest_34 : decode cX9_digest 34 = .ok (.lload_n 1, 1) := by decide +kernel
theorem dX9_digest_35 : decode cX9_digest 35 = .ok (.lmul, 1) := by decide +kernel
theorem dX9_digest_36 : decode cX9_digest 36 = .ok (.aload_n 0, 1) := by decide +kernel
theorem dX9_digest_37 : decode cX9_digest 37 = .ok (.invokevirtual 115, 3) := by decide +kernel
theorem dX9_digest_40 : decode cX9_digest 40 = .ok (.i2l, 1) := by decide +kernel
theorem dX9_digest_41 : decode cX9_digest 41 = .ok (.ladd, 1) := by decide +kernel
theorem dX9_digest_42 : decode cX9_digest 42 = .ok (.lstore_n 1, 1) := by decide +kernel
theorem dX9_digest_43 : decode cX9_digest 43 = .ok (.ldc2_w 275, 3) := by decide +kernel
theorem dX9_digest_46 : decode cX9_digest 46 = .ok (.lload_n 1, 1) := by decide +kernel
theorem dX9_digest_47 : decode cX9_digest 47 = .ok (.lmul, 1) := by decide +kernel
theorem dX9_digest_48 : decode cX9_digest 48 = .ok (.aload_n 0, 1) := by decide +kernel
theorem dX9_digest_49 : decode cX9_digest 49 = .ok (.invokevirtual 119, 3) := by decide +kernel
theorem dX9_digest_52 : decode cX9_digest 52 = .ok (.i2l, 1) := by decide +kernel
theorem dX9_digest_53 : decode cX9_digest 53 = .ok (.ladd, 1) := by decide +kernel
theorem dX9_digest_54 : decode cX9_digest 54 = .ok (.lstore_n 1, 1) := by decide +kernel
theorem dX9_digest_55 : decode cX9_digest 55 = .ok (.iconst 0, 1) := by decide +kernel
theorem dX9_digest_56 : decode cX9_digest 56 = .ok (.istore_n 3, 1) := by decide +kernel
theorem dX9_digest_57 : decode cX9_digest 57 = .ok (.iload_n 3, 1) := by decide +kernel
theorem dX9_digest_58 : decode cX9_digest 58 = .ok (.aload_n 0, 1) := by decide +kernel
theorem dX9_digest_59 : decode cX9_digest 59 = .ok (.getfield 94, 3) := by decide +kernel
theorem dX9_digest_62 : decode cX9_digest 62 = .ok (.if_icmp .ge 52, 3) := by decide +kernel
theorem dX9_digest_65 : decode cX9_digest 65 = .ok (.ldc2_w 275, 3) := by decide +kernel
theorem dX9_digest_68 : decode cX9_digest 68 = .ok (.lload_n 1, 1) := by decide +kernel
theorem dX9_digest_69 : decode cX9_digest 69 = .ok (.lmul, 1) := by decide +kernel
theorem dX9_digest_70 : decode cX9_digest 70 = .ok (.aload_n 0, 1) := by decide +kernel
theorem dX9_digest_71 : decode cX9_digest 71 = .ok (.getfield 28, 3) := by decide +kernel
theorem dX9_digest_74 : decode cX9_digest 74 = .ok (.iload_n 3, 1) := by decide +kernel
theorem dX9_digest_75 : decode cX9_digest 75 = .ok (.iaload, 1) := by decide +kernel
theorem dX9_digest_76 : decode cX9_digest 76 = .ok (.i2l, 1) := by decide +kernel
theorem dX9_digest_77 : decode cX9_digest 77 = .ok (.ladd, 1) := by decide +kernel
theorem dX9_digest_78 : decode cX9_digest 78 = .ok (.lstore_n 1, 1) := by decide +kernel
theorem dX9_digest_79 : decode cX9_digest 79 = .ok (.ldc2_w 275, 3) := by decide +kernel
theorem dX9_digest_82 : decode cX9_digest 82 = .ok (.lload_n 1, 1) := by decide +kernel
theorem dX9_digest_83 : decode cX9_digest 83 = .ok (.lmul, 1) := by decide +kernel
theorem dX9_digest_84 : decode cX9_digest 84 = .ok (.aload_n 0, 1) := by decide +kernel
theorem dX9_digest_85 : decode cX9_digest 85 = .ok (.iconst 0, 1) := by decide +kernel
theorem dX9_digest_86 : decode cX9_digest 86 = .ok (.iload_n 3, 1) := by decide +kernel
theorem dX9_digest_87 : decode cX9_digest 87 = .ok (.invokevirtual 195, 3) := by decide +kernel
theorem dX9_digest_90 : decode cX9_digest 90 = .ok (.i2l, 1) := by decide +kernel
theorem dX9_digest_91 : decode cX9_digest 91 = .ok (.ladd, 1) := by decide +kernel
theorem dX9_digest_92 : decode cX9_digest 92 = .ok (.lstore_n 1, 1) := by decide +kernel
theorem dX9_digest_93 : decode cX9_digest 93 = .ok (.ldc2_w 275, 3) := by decide +kernel
theorem dX9_digest_96 : decode cX9_digest 96 = .ok (.lload_n 1, 1) := by decide +kernel
theorem dX9_digest_97 : decode cX9_digest 97 = .ok (.lmul, 1) := by decide +kernel
theorem dX9_digest_98 : decode cX9_digest 98 = .ok (.aload_n 0, 1) := by decide +kernel
theorem dX9_digest_99 : decode cX9_digest 99 = .ok (.bipush 9, 2) := by decide +kernel
theorem dX9_digest_101 : decode cX9_digest 101 = .ok (.iload_n 3, 1) := by decide +kernel
theorem dX9_digest_102 : decode cX9_digest 102 = .ok (.invokevirtual 195, 3) := by decide +kernel
theorem dX9_digest_105 : decode cX9_digest 105 = .ok (.i2l, 1) := by decide +kernel
theorem dX9_digest_106 : decode cX9_digest 106 = .ok (.ladd, 1) := by decide +kernel
theorem dX9_digest_107 : decode cX9_digest 107 = .ok (.lstore_n 1, 1) := by decide +kernel
theorem dX9_digest_108 : decode cX9_digest 108 = .ok (.iinc 3 1, 3) := by decide +kernel
theorem dX9_digest_111 : decode cX9_digest 111 = .ok (.goto (-54), 3) := by decide +kernel
theorem dX9_digest_114 : decode cX9_digest 114 = .ok (.iconst 0, 1) := by decide +kernel
theorem dX9_digest_115 : decode cX9_digest 115 = .ok (.istore_n 3, 1) := by decide +kernel
theorem dX9_digest_116 : decode cX9_digest 116 = .ok (.iload_n 3, 1) := by decide +kernel
theorem dX9_digest_117 : decode cX9_digest 117 = .ok (.aload_n 0, 1) := by decide +kernel
theorem dX9_digest_118 : decode cX9_digest 118 = .ok (.getfield 106, 3) := by decide +kernel
theorem dX9_digest_121 : decode cX9_digest 121 = .ok (.if_icmp .ge 16, 3) := by decide +kernel
theorem dX9_digest_124 : decode cX9_digest 124 = .ok (.aload_n 0, 1) := by decide +kernel
theorem dX9_digest_125 : decode cX9_digest 125 = .ok (.lload_n 1, 1) := by decide +kernel
theorem dX9_digest_126 : decode cX9_digest 126 = .ok (.iload_n 3, 1) := by decide +kernel
theorem dX9_digest_127 : decode cX9_digest 127 = .ok (.invokevirtual 282, 3) := by decide +kernel
theorem dX9_digest_130 : decode cX9_digest 130 = .ok (.lstore_n 1, 1) := by decide +kernel
theorem dX9_digest_131 : decode cX9_digest 131 = .ok (.iinc 3 1, 3) := by decide +kernel
theorem dX9_digest_134 : decode cX9_digest 134 = .ok (.goto (-18), 3) := by decide +kernel
theorem dX9_digest_137 : decode cX9_digest 137 = .ok (.aload_n 0, 1) := by decide +kernel
theorem dX9_digest_138 : decode cX9_digest 138 = .ok (.aload_n 0, 1) := by decide +kernel
theorem dX9_digest_139 : decode cX9_digest 139 = .ok (.aload_n 0, 1) := by decide +kernel
theorem dX9_digest_140 : decode cX9_digest 140 = .ok (.lload_n 1, 1) := by decide +kernel
theorem dX9_digest_141 : decode cX9_digest 141 = .ok (.iconst 0, 1) := by decide +kernel
theorem dX9_digest_142 : decode cX9_digest 142 = .ok (.invokevirtual 286, 3) := by decide +kernel
theorem dX9_digest_145 : decode cX9_digest 145 = .ok (.iconst 3, 1) := by decide +kernel
theorem dX9_digest_146 : decode cX9_digest 146 = .ok (.invokevirtual 286, 3) := by decide +kernel
theorem dX9_digest_149 : decode cX9_digest 149 = .ok (.bipush 9, 2) := by decide +kernel
theorem dX9_digest_151 : decode cX9_digest 151 = .ok (.invokevirtual 286, 3) := by decide +kernel
theorem dX9_digest_154 : decode cX9_digest 154 = .ok (.lstore_n 1, 1) := by decide +kernel
theorem dX9_digest_155 : decode cX9_digest 155 = .ok (.aload_n 0, 1) := by decide +kernel
theorem dX9_digest_156 : decode cX9_digest 156 = .ok (.bipush 9, 2) := by decide +kernel
theorem dX9_digest_158 : decode cX9_digest 158 = .ok (.invokevirtual 178, 3) := by decide +kernel
theorem dX9_digest_161 : decode cX9_digest 161 = .ok (.ldc2_w 275, 3) := by decide +kernel
theorem dX9_digest_164 : decode cX9_digest 164 = .ok (.lload_n 1, 1) := by decide +kernel
theorem dX9_digest_165 : decode cX9_digest 165 = .ok (.lmul, 1) := by decide +kernel
theorem dX9_digest_166 : decode cX9_digest 166 = .ok (.aload_n 0, 1) := by decide +kernel
theorem dX9_digest_167 : decode cX9_digest 167 = .ok (.iconst 0, 1) := by decide +kernel
theorem dX9_digest_168 : decode cX9_digest 168 = .ok (.invokevirtual 207, 3) := by decide +kernel
theorem dX9_digest_171 : decode cX9_digest 171 = .ok (.i2l, 1) := by decide +kernel
theorem dX9_digest_172 : decode cX9_digest 172 = .ok (.ladd, 1) := by decide +kernel
theorem dX9_digest_173 : decode cX9_digest 173 = .ok (.lstore_n 1, 1) := by decide +kernel
theorem dX9_digest_174 : decode cX9_digest 174 = .ok (.ldc2_w 275, 3) := by decide +kernel
theorem dX9_digest_177 : decode cX9_digest 177 = .ok (.lload_n 1, 1) := by decide +kernel
theorem dX9_digest_178 : decode cX9_digest 178 = .ok (.lmul, 1) := by decide +kernel
theorem dX9_digest_179 : decode cX9_digest 179 = .ok (.aload_n 0, 1) := by decide +kernel
theorem dX9_digest_180 : decode cX9_digest 180 = .ok (.iconst 1, 1) := by decide +kernel
theorem dX9_digest_181 : decode cX9_digest 181 = .ok (.invokevirtual 207, 3) := by decide +kernel
theorem dX9_digest_184 : decode cX9_digest 184 = .ok (.i2l, 1) := by decide +kernel
theorem dX9_digest_185 : decode cX9_digest 185 = .ok (.ladd, 1) := by decide +kernel
theorem dX9_digest_186 : decode cX9_digest 186 = .ok (.lstore_n 1, 1) := by decide +kernel
theorem dX9_digest_187 : decode cX9_digest 187 = .ok (.iconst 0, 1) := by decide +kernel
theorem dX9_digest_188 : decode cX9_digest 188 = .ok (.istore_n 3, 1) := by decide +kernel
theorem dX9_digest_189 : decode cX9_digest 189 = .ok (.iload_n 3, 1) := by decide +kernel
theorem dX9_digest_190 : decode cX9_digest 190 = .ok (.iconst 4, 1) := by decide +kernel
theorem dX9_digest_191 : decode cX9_digest 191 = .ok (.if_icmp .ge 27, 3) := by decide +kernel
theorem dX9_digest_194 : decode cX9_digest 194 = .ok (.ldc2_w 275, 3) := by decide +kernel
theorem dX9_digest_197 : decode cX9_digest 197 = .ok (.lload_n 1, 1) := by decide +kernel
theorem dX9_digest_198 : decode cX9_digest 198 = .ok (.lmul, 1) := by decide +kernel
theorem dX9_digest_199 : decode cX9_digest 199 = .ok (.aload_n 0, 1) := by decide +kernel
theorem dX9_digest_200 : decode cX9_digest 200 = .ok (.iload_n 3, 1) := by decide +kernel
theorem dX9_digest_201 : decode cX9_digest 201 = .ok (.iconst 2, 1) := by decide +kernel
theorem dX9_digest_202 : decode cX9_digest 202 = .ok (.idiv, 1) := by decide +kernel
theorem dX9_digest_203 : decode cX9_digest 203 = .ok (.iload_n 3, 1) := by decide +kernel
theorem dX9_digest_204 : decode cX9_digest 204 = .ok (.iconst 2, 1) := by decide +kernel
theorem dX9_digest_205 : decode cX9_digest 205 = .ok (.irem, 1) := by decide +kernel
theorem dX9_digest_206 : decode cX9_digest 206 = .ok (.invokevirtual 225, 3) := by decide +kernel
theorem dX9_digest_209 : decode cX9_digest 209 = .ok (.i2l, 1) := by decide +kernel
theorem dX9_digest_210 : decode cX9_digest 210 = .ok (.ladd, 1) := by decide +kernel
theorem dX9_digest_211 : decode cX9_digest 211 = .ok (.lstore_n 1, 1) := by decide +kernel
theorem dX9_digest_212 : decode cX9_digest 212 = .ok (.iinc 3 1, 3) := by decide +kernel
theorem dX9_digest_215 : decode cX9_digest 215 = .ok (.goto (-26), 3) := by decide +kernel
theorem dX9_digest_218 : decode cX9_digest 218 = .ok (.ldc2_w 275, 3) := by decide +kernel
theorem dX9_digest_221 : decode cX9_digest 221 = .ok (.lload_n 1, 1) := by decide +kernel
theorem dX9_digest_222 : decode cX9_digest 222 = .ok (.lmul, 1) := by decide +kernel
theorem dX9_digest_223 : decode cX9_digest 223 = .ok (.aload_n 0, 1) := by decide +kernel
theorem dX9_digest_224 : decode cX9_digest 224 = .ok (.invokevirtual 237, 3) := by decide +kernel
theorem dX9_digest_227 : decode cX9_digest 227 = .ok (.i2l, 1) := by decide +kernel
theorem dX9_digest_228 : decode cX9_digest 228 = .ok (.ladd, 1) := by decide +kernel
theorem dX9_digest_229 : decode cX9_digest 229 = .ok (.lstore_n 1, 1) := by decide +kernel
theorem dX9_digest_230 : decode cX9_digest 230 = .ok (.ldc2_w 275, 3) := by decide +kernel
theorem dX9_digest_233 : decode cX9_digest 233 = .ok (.lload_n 1, 1) := by decide +kernel
theorem dX9_digest_234 : decode cX9_digest 234 = .ok (.lmul, 1) := by decide +kernel
theorem dX9_digest_235 : decode cX9_digest 235 = .ok (.aload_n 0, 1) := by decide +kernel
theorem dX9_digest_236 : decode cX9_digest 236 = .ok (.invokevirtual 240, 3) := by decide +kernel
theorem dX9_digest_239 : decode cX9_digest 239 = .ok (.i2l, 1) := by decide +kernel
theorem dX9_digest_240 : decode cX9_digest 240 = .ok (.ladd, 1) := by decide +kernel
theorem dX9_digest_241 : decode cX9_digest 241 = .ok (.lstore_n 1, 1) := by decide +kernel
theorem dX9_digest_242 : decode cX9_digest 242 = .ok (.ldc2_w 275, 3) := by decide +kernel
theorem dX9_digest_245 : decode cX9_digest 245 = .ok (.lload_n 1, 1) := by decide +kernel
theorem dX9_digest_246 : decode cX9_digest 246 = .ok (.lmul, 1) := by decide +kernel
theorem dX9_digest_247 : decode cX9_digest 247 = .ok (.aload_n 0, 1) := by decide +kernel
theorem dX9_digest_248 : decode cX9_digest 248 = .ok (.bipush 7, 2) := by decide +kernel
theorem dX9_digest_250 : decode cX9_digest 250 = .ok (.bipush 20, 2) := by decide +kernel
theorem dX9_digest_252 : decode cX9_digest 252 = .ok (.iconst 0, 1) := by decide +kernel
theorem dX9_digest_253 : decode cX9_digest 253 = .ok (.invokevirtual 272, 3) := by decide +kernel
theorem dX9_digest_256 : decode cX9_digest 256 = .ok (.i2l, 1) := by decide +kernel
theorem dX9_digest_257 : decode cX9_digest 257 = .ok (.ladd, 1) := by decide +kernel
theorem dX9_digest_258 : decode cX9_digest 258 = .ok (.lstore_n 1, 1) := by decide +kernel
theorem dX9_digest_259 : decode cX9_digest 259 = .ok (.ldc2_w 275, 3) := by decide +kernel
theorem dX9_digest_262 : decode cX9_digest 262 = .ok (.lload_n 1, 1) := by decide +kernel
theorem dX9_digest_263 : decode cX9_digest 263 = .ok (.lmul, 1) := by decide +kernel
theorem dX9_digest_264 : decode cX9_digest 264 = .ok (.aload_n 0, 1) := by decide +kernel
theorem dX9_digest_265 : decode cX9_digest 265 = .ok (.bipush 7, 2) := by decide +kernel
theorem dX9_digest_267 : decode cX9_digest 267 = .ok (.bipush 20, 2) := by decide +kernel
theorem dX9_digest_269 : decode cX9_digest 269 = .ok (.iconst 1, 1) := by decide +kernel
theorem dX9_digest_270 : decode cX9_digest 270 = .ok (.invokevirtual 272, 3) := by decide +kernel
theorem dX9_digest_273 : decode cX9_digest 273 = .ok (.i2l, 1) := by decide +kernel
theorem dX9_digest_274 : decode cX9_digest 274 = .ok (.ladd, 1) := by decide +kernel
theorem dX9_digest_275 : decode cX9_digest 275 = .ok (.lreturn, 1) := by decide +kernel
theorem dJ6_bitCount_0f7a4_0 : decode cJ6_bitCount_0f7a4 0 = .ok (.iload_n 0, 1) := by decide +kernel
theorem dJ6_bitCount_0f7a4_1 : decode cJ6_bitCount_0f7a4 1 = .ok (.iload_n 0, 1) := by decide +kernel
theorem dJ6_bitCount_0f7a4_2 : decode cJ6_bitCount_0f7a4 2 = .ok (.iconst 1, 1) := by decide +kernel
theorem dJ6_bitCount_0f7a4_3 : decode cJ6_bitCount_0f7a4 3 = .ok (.iushr, 1) := by decide +kernel
theorem dJ6_bitCount_0f7a4_4 : decode cJ6_bitCount_0f7a4 4 = .ok (.ldc_w 265, 3) := by decide +kernel
theorem dJ6_bitCount_0f7a4_7 : decode cJ6_bitCount_0f7a4 7 = .ok (.iand, 1) := by decide +kernel
theorem dJ6_bitCount_0f7a4_8 : decode cJ6_bitCount_0f7a4 8 = .ok (.isub, 1) := by decide +kernel
theorem dJ6_bitCount_0f7a4_9 : decode cJ6_bitCount_0f7a4 9 = .ok (.istore_n 0, 1) := by decide +kernel
theorem dJ6_bitCount_0f7a4_10 : decode cJ6_bitCount_0f7a4 10 = .ok (.iload_n 0, 1) := by decide +kernel
theorem dJ6_bitCount_0f7a4_11 : decode cJ6_bitCount_0f7a4 11 = .ok (.ldc_w 266, 3) := by decide +kernel
theorem dJ6_bitCount_0f7a4_14 : decode cJ6_bitCount_0f7a4 14 = .ok (.iand, 1) := by decide +kernel
theorem dJ6_bitCount_0f7a4_15 : decode cJ6_bitCount_0f7a4 15 = .ok (.iload_n 0, 1) := by decide +kernel
theorem dJ6_bitCount_0f7a4_16 : decode cJ6_bitCount_0f7a4 16 = .ok (.iconst 2, 1) := by decide +kernel
theorem dJ6_bitCount_0f7a4_17 : decode cJ6_bitCount_0f7a4 17 = .ok (.iushr, 1) := by decide +kernel
theorem dJ6_bitCount_0f7a4_18 : decode cJ6_bitCount_0f7a4 18 = .ok (.ldc_w 266, 3) := by decide +kernel
theorem dJ6_bitCount_0f7a4_21 : decode cJ6_bitCount_0f7a4 21 = .ok (.iand, 1) := by decide +kernel
theorem dJ6_bitCount_0f7a4_22 : decode cJ6_bitCount_0f7a4 22 = .ok (.iadd, 1) := by decide +kernel
theorem dJ6_bitCount_0f7a4_23 : decode cJ6_bitCount_0f7a4 23 = .ok (.istore_n 0, 1) := by decide +kernel
theorem dJ6_bitCount_0f7a4_24 : decode cJ6_bitCount_0f7a4 24 = .ok (.iload_n 0, 1) := by decide +kernel
theorem dJ6_bitCount_0f7a4_25 : decode cJ6_bitCount_0f7a4 25 = .ok (.iload_n 0, 1) := by decide +kernel
theorem dJ6_bitCount_0f7a4_26 : decode cJ6_bitCount_0f7a4 26 = .ok (.iconst 4, 1) := by decide +kernel
theorem dJ6_bitCount_0f7a4_27 : decode cJ6_bitCount_0f7a4 27 = .ok (.iushr, 1) := by decide +kernel
theorem dJ6_bitCount_0f7a4_28 : decode cJ6_bitCount_0f7a4 28 = .ok (.iadd, 1) := by decide +kernel
theorem dJ6_bitCount_0f7a4_29 : decode cJ6_bitCount_0f7a4 29 = .ok (.ldc_w 267, 3) := by decide +kernel
theorem dJ6_bitCount_0f7a4_32 : decode cJ6_bitCount_0f7a4 32 = .ok (.iand, 1) := by decide +kernel
theorem dJ6_bitCount_0f7a4_33 : decode cJ6_bitCount_0f7a4 33 = .ok (.istore_n 0, 1) := by decide +kernel
theorem dJ6_bitCount_0f7a4_34 : decode cJ6_bitCount_0f7a4 34 = .ok (.iload_n 0, 1) := by decide +kernel
theorem dJ6_bitCount_0f7a4_35 : decode cJ6_bitCount_0f7a4 35 = .ok (.iload_n 0, 1) := by decide +kernel
theorem dJ6_bitCount_0f7a4_36 : decode cJ6_bitCount_0f7a4 36 = .ok (.bipush 8, 2) := by decide +kernel
theorem dJ6_bitCount_0f7a4_38 : decode cJ6_bitCount_0f7a4 38 = .ok (.iushr, 1) := by decide +kernel
theorem dJ6_bitCount_0f7a4_39 : decode cJ6_bitCount_0f7a4 39 = .ok (.iadd, 1) := by decide +kernel
theorem dJ6_bitCount_0f7a4_40 : decode cJ6_bitCount_0f7a4 40 = .ok (.istore_n 0, 1) := by decide +kernel
theorem dJ6_bitCount_0f7a4_41 : decode cJ6_bitCount_0f7a4 41 = .ok (.iload_n 0, 1) := by decide +kernel
theorem dJ6_bitCount_0f7a4_42 : decode cJ6_bitCount_0f7a4 42 = .ok (.iload_n 0, 1) := by decide +kernel
theorem dJ6_bitCount_0f7a4_43 : decode cJ6_bitCount_0f7a4 43 = .ok (.bipush 16, 2) := by decide +kernel
theorem dJ6_bitCount_0f7a4_45 : decode cJ6_bitCount_0f7a4 45 = .ok (.iushr, 1) := by decide +kernel
theorem dJ6_bitCount_0f7a4_46 : decode cJ6_bitCount_0f7a4 46 = .ok (.iadd, 1) := by decide +kernel
theorem dJ6_bitCount_0f7a4_47 : decode cJ6_bitCount_0f7a4 47 = .ok (.istore_n 0, 1) := by decide +kernel
theorem dJ6_bitCount_0f7a4_48 : decode cJ6_bitCount_0f7a4 48 = .ok (.iload_n 0, 1) := by decide +kernel
theorem dJ6_bitCount_0f7a4_49 : decode cJ6_bitCount_0f7a4 49 = .ok (.bipush 63, 2) := by decide +kernel
theorem dJ6_bitCount_0f7a4_51 : decode cJ6_bitCount_0f7a4 51 = .ok (.iand, 1) := by decide +kernel
theorem dJ6_bitCount_0f7a4_52 : decode cJ6_bitCount_0f7a4 52 = .ok (.ireturn, 1) := by decide +kernel
theorem dJ13_bitCount_95d88_0 : decode cJ13_bitCount_95d88 0 = .ok (.lload_n 0, 1) := by decide +kernel
theorem dJ13_bitCount_95d88_1 : decode cJ13_bitCount_95d88 1 = .ok (.lload_n 0, 1) := by decide +kernel
theorem dJ13_bitCount_95d88_2 : decode cJ13_bitCount_95d88 2 = .ok (.iconst 1, 1) := by decide +kernel
theorem dJ13_bitCount_95d88_3 : decode cJ13_bitCount_95d88 3 = .ok (.lushr, 1) := by decide +kernel
theorem dJ13_bitCount_95d88_4 : decode cJ13_bitCount_95d88 4 = .ok (.ldc2_w 314, 3) := by decide +kernel
theorem dJ13_bitCount_95d88_7 : decode cJ13_bitCount_95d88 7 = .ok (.land, 1) := by decide +kernel
theorem dJ13_bitCount_95d88_8 : decode cJ13_bitCount_95d88 8 = .ok (.lsub, 1) := by decide +kernel
theorem dJ13_bitCount_95d88_9 : decode cJ13_bitCount_95d88 9 = .ok (.lstore_n 0, 1) := by decide +kernel
theorem dJ13_bitCount_95d88_10 : decode cJ13_bitCount_95d88 10 = .ok (.lload_n 0, 1) := by decide +kernel
theorem dJ13_bitCount_95d88_11 : decode cJ13_bitCount_95d88 11 = .ok (.ldc2_w 316, 3) := by decide +kernel
theorem dJ13_bitCount_95d88_14 : decode cJ13_bitCount_95d88 14 = .ok (.land, 1) := by decide +kernel
theorem dJ13_bitCount_95d88_15 : decode cJ13_bitCount_95d88 15 = .ok (.lload_n 0, 1) := by decide +kernel
theorem dJ13_bitCount_95d88_16 : decode cJ13_bitCount_95d88 16 = .ok (.iconst 2, 1) := by decide +kernel
theorem dJ13_bitCount_95d88_17 : decode cJ13_bitCount_95d88 17 = .ok (.lushr, 1) := by decide +kernel
theorem dJ13_bitCount_95d88_18 : decode cJ13_bitCount_95d88 18 = .ok (.ldc2_w 316, 3) := by decide +kernel
theorem dJ13_bitCount_95d88_21 : decode cJ13_bitCount_95d88 21 = .ok (.land, 1) := by decide +kernel
theorem dJ13_bitCount_95d88_22 : decode cJ13_bitCount_95d88 22 = .ok (.ladd, 1) := by decide +kernel
theorem dJ13_bitCount_95d88_23 : decode cJ13_bitCount_95d88 23 = .ok (.lstore_n 0, 1) := by decide +kernel
theorem dJ13_bitCount_95d88_24 : decode cJ13_bitCount_95d88 24 = .ok (.lload_n 0, 1) := by decide +kernel
theorem dJ13_bitCount_95d88_25 : decode cJ13_bitCount_95d88 25 = .ok (.lload_n 0, 1) := by decide +kernel
theorem dJ13_bitCount_95d88_26 : decode cJ13_bitCount_95d88 26 = .ok (.iconst 4, 1) := by decide +kernel
theorem dJ13_bitCount_95d88_27 : decode cJ13_bitCount_95d88 27 = .ok (.lushr, 1) := by decide +kernel
theorem dJ13_bitCount_95d88_28 : decode cJ13_bitCount_95d88 28 = .ok (.ladd, 1) := by decide +kernel
theorem dJ13_bitCount_95d88_29 : decode cJ13_bitCount_95d88 29 = .ok (.ldc2_w 318, 3) := by decide +kernel
theorem dJ13_bitCount_95d88_32 : decode cJ13_bitCount_95d88 32 = .ok (.land, 1) := by decide +kernel
theorem dJ13_bitCount_95d88_33 : decode cJ13_bitCount_95d88 33 = .ok (.lstore_n 0, 1) := by decide +kernel
theorem dJ13_bitCount_95d88_34 : decode cJ13_bitCount_95d88 34 = .ok (.lload_n 0, 1) := by decide +kernel
theorem dJ13_bitCount_95d88_35 : decode cJ13_bitCount_95d88 35 = .ok (.lload_n 0, 1) := by decide +kernel
theorem dJ13_bitCount_95d88_36 : decode cJ13_bitCount_95d88 36 = .ok (.bipush 8, 2) := by decide +kernel
theorem dJ13_bitCount_95d88_38 : decode cJ13_bitCount_95d88 38 = .ok (.lushr, 1) := by decide +kernel
theorem dJ13_bitCount_95d88_39 : decode cJ13_bitCount_95d88 39 = .ok (.ladd, 1) := by decide +kernel
theorem dJ13_bitCount_95d88_40 : decode cJ13_bitCount_95d88 40 = .ok (.lstore_n 0, 1) := by decide +kernel
theorem dJ13_bitCount_95d88_41 : decode cJ13_bitCount_95d88 41 = .ok (.lload_n 0, 1) := by decide +kernel
theorem dJ13_bitCount_95d88_42 : decode cJ13_bitCount_95d88 42 = .ok (.lload_n 0, 1) := by decide +kernel
theorem dJ13_bitCount_95d88_43 : decode cJ13_bitCount_95d88 43 = .ok (.bipush 16, 2) := by decide +kernel
theorem dJ13_bitCount_95d88_45 : decode cJ13_bitCount_95d88 45 = .ok (.lushr, 1) := by decide +kernel
theorem dJ13_bitCount_95d88_46 : decode cJ13_bitCount_95d88 46 = .ok (.ladd, 1) := by decide +kernel
theorem dJ13_bitCount_95d88_47 : decode cJ13_bitCount_95d88 47 = .ok (.lstore_n 0, 1) := by decide +kernel
theorem dJ13_bitCount_95d88_48 : decode cJ13_bitCount_95d88 48 = .ok (.lload_n 0, 1) := by decide +kernel
theorem dJ13_bitCount_95d88_49 : decode cJ13_bitCount_95d88 49 = .ok (.lload_n 0, 1) := by decide +kernel
theorem dJ13_bitCount_95d88_50 : decode cJ13_bitCount_95d88 50 = .ok (.bipush 32, 2) := by decide +kernel
theorem dJ13_bitCount_95d88_52 : decode cJ13_bitCount_95d88 52 = .ok (.lushr, 1) := by decide +kernel
theorem dJ13_bitCount_95d88_53 : decode cJ13_bitCount_95d88 53 = .ok (.ladd, 1) := by decide +kernel
theorem dJ13_bitCount_95d88_54 : decode cJ13_bitCount_95d88 54 = .ok (.lstore_n 0, 1) := by decide +kernel
theorem dJ13_bitCount_95d88_55 : decode cJ13_bitCount_95d88 55 = .ok (.lload_n 0, 1) := by decide +kernel
theorem dJ13_bitCount_95d88_56 : decode cJ13_bitCount_95d88 56 = .ok (.l2i, 1) := by decide +kernel
theorem dJ13_bitCount_95d88_57 : decode cJ13_bitCount_95d88 57 = .ok (.bipush 127, 2) := by decide +kernel
theorem dJ13_bitCount_95d88_59 : decode cJ13_bitCount_95d88 59 = .ok (.iand, 1) := by decide +kernel
theorem dJ13_bitCount_95d88_60 : decode cJ13_bitCount_95d88 60 = .ok (.ireturn, 1) := by decide +kernel
theorem dJ9_max_7cf53_0 : decode cJ9_max_7cf53 0 = .ok (.iload_n 0, 1) := by decide +kernel
theorem dJ9_max_7cf53_1 : decode cJ9_max_7cf53 1 = .ok (.iload_n 1, 1) := by decide +kernel
theorem dJ9_max_7cf53_2 : decode cJ9_max_7cf53 2 = .ok (.if_icmp .lt 7, 3) := by decide +kernel
theorem dJ9_max_7cf53_5 : decode cJ9_max_7cf53 5 = .ok (.iload_n 0, 1) := by decide +kernel
theorem dJ9_max_7cf53_6 : decode cJ9_max_7cf53 6 = .ok (.goto 4, 3) := by decide +kernel
theorem dJ9_max_7cf53_9 : decode cJ9_max_7cf53 9 = .ok (.iload_n 1, 1) := by decide +kernel
theorem dJ9_max_7cf53_10 : decode cJ9_max_7cf53 10 = .ok (.ireturn, 1) := by decide +kernel
theorem dJ9_min_7cf53_0 : decode cJ9_min_7cf53 0 = .ok (.iload_n 0, 1) := by decide +kernel
theorem dJ9_min_7cf53_1 : decode cJ9_min_7cf53 1 = .ok (.iload_n 1, 1) := by decide +kernel
theorem dJ9_min_7cf53_2 : decode cJ9_min_7cf53 2 = .ok (.if_icmp .gt 7, 3) := by decide +kernel
theorem dJ9_min_7cf53_5 : decode cJ9_min_7cf53 5 = .ok (.iload_n 0, 1) := by decide +kernel
theorem dJ9_min_7cf53_6 : decode cJ9_min_7cf53 6 = .ok (.goto 4, 3) := by decide +kernel
theorem dJ9_min_7cf53_9 : decode cJ9_min_7cf53 9 = .ok (.iload_n 1, 1) := by decide +kernel
theorem dJ9_min_7cf53_10 : decode cJ9_min_7cf53 10 = .ok (.ireturn, 1) := by decide +kernel
theorem dJ7_fill_d0a16_0 : decode cJ7_fill_d0a16 0 = .ok (.iconst 0, 1) := by decide +kernel
theorem dJ7_fill_d0a16_1 : decode cJ7_fill_d0a16 1 = .ok (.istore_n 3, 1) := by decide +kernel
theorem dJ7_fill_d0a16_2 : decode cJ7_fill_d0a16 2 = .ok (.aload_n 0, 1) := by decide +kernel
theorem dJ7_fill_d0a16_3 : decode cJ7_fill_d0a16 3 = .ok (.arraylength, 1) := by decide +kernel
theorem dJ7_fill_d0a16_4 : decode cJ7_fill_d0a16 4 = .ok (.istore 4, 2) := by decide +kernel
theorem dJ7_fill_d0a16_6 : decode cJ7_fill_d0a16 6 = .ok (.iload_n 3, 1) := by decide +kernel
theorem dJ7_fill_d0a16_7 : decode cJ7_fill_d0a16 7 = .ok (.iload 4, 2) := by decide +kernel
theorem dJ7_fill_d0a16_9 : decode cJ7_fill_d0a16 9 = .ok (.if_icmp .ge 13, 3) := by decide +kernel
theorem dJ7_fill_d0a16_12 : decode cJ7_fill_d0a16 12 = .ok (.aload_n 0, 1) := by decide +kernel
theorem dJ7_fill_d0a16_13 : decode cJ7_fill_d0a16 13 = .ok (.iload_n 3, 1) := by decide +kernel
theorem dJ7_fill_d0a16_14 : decode cJ7_fill_d0a16 14 = .ok (.lload_n 1, 1) := by decide +kernel
theorem dJ7_fill_d0a16_15 : decode cJ7_fill_d0a16 15 = .ok (.lastore, 1) := by decide +kernel
theorem dJ7_fill_d0a16_16 : decode cJ7_fill_d0a16 16 = .ok (.iinc 3 1, 3) := by decide +kernel
theorem dJ7_fill_d0a16_19 : decode cJ7_fill_d0a16 19 = .ok (.goto (-13), 3) := by decide +kernel
theorem dJ7_fill_d0a16_22 : decode cJ7_fill_d0a16 22 = .ok (.return_, 1) := by decide +kernel
theorem dJ7_fill_53178_0 : decode cJ7_fill_53178 0 = .ok (.iconst 0, 1) := by decide +kernel
theorem dJ7_fill_53178_1 : decode cJ7_fill_53178 1 = .ok (.istore_n 2, 1) := by decide +kernel
theorem dJ7_fill_53178_2 : decode cJ7_fill_53178 2 = .ok (.aload_n 0, 1) := by decide +kernel
theorem dJ7_fill_53178_3 : decode cJ7_fill_53178 3 = .ok (.arraylength, 1) := by decide +kernel
theorem dJ7_fill_53178_4 : decode cJ7_fill_53178 4 = .ok (.istore_n 3, 1) := by decide +kernel
theorem dJ7_fill_53178_5 : decode cJ7_fill_53178 5 = .ok (.iload_n 2, 1) := by decide +kernel
theorem dJ7_fill_53178_6 : decode cJ7_fill_53178 6 = .ok (.iload_n 3, 1) := by decide +kernel
theorem dJ7_fill_53178_7 : decode cJ7_fill_53178 7 = .ok (.if_icmp .ge 13, 3) := by decide +kernel
theorem dJ7_fill_53178_10 : decode cJ7_fill_53178 10 = .ok (.aload_n 0, 1) := by decide +kernel
theorem dJ7_fill_53178_11 : decode cJ7_fill_53178 11 = .ok (.iload_n 2, 1) := by decide +kernel
theorem dJ7_fill_53178_12 : decode cJ7_fill_53178 12 = .ok (.iload_n 1, 1) := by decide +kernel
theorem dJ7_fill_53178_13 : decode cJ7_fill_53178 13 = .ok (.iastore, 1) := by decide +kernel
theorem dJ7_fill_53178_14 : decode cJ7_fill_53178 14 = .ok (.iinc 2 1, 3) := by decide +kernel
theorem dJ7_fill_53178_17 : decode cJ7_fill_53178 17 = .ok (.goto (-12), 3) := by decide +kernel
theorem dJ7_fill_53178_20 : decode cJ7_fill_53178 20 = .ok (.return_, 1) := by decide +kernel
