theorem dX9_lose_30 : decode cX9_lose 30 = .ok (.iconst (-1), 1) := by decide +kernel
theorem dX9_lose_31 : decode cX9_lose 31 = .ok (.iastore, 1) := by decide +kernel
theorem dX9_lose_32 : decode cX9_lose 32 = .ok (.aload_n 0, 1) := by decide +kernel
theorem dX9_lose_33 : decode cX9_lose 33 = .ok (.getfield 13, 3) := by decide +kernel
theorem dX9_lose_36 : decode cX9_lose 36 = .ok (.iload_n 1, 1) := by decide +kernel
theorem dX9_lose_37 : decode cX9_lose 37 = .ok (.iaload, 1) := by decide +kernel
theorem dX9_lose_38 : decode cX9_lose 38 = .ok (.ireturn, 1) := by decide +kernel
theorem dX9_lacks_0 : decode cX9_lacks 0 = .ok (.aload_n 0, 1) := by decide +kernel
theorem dX9_lacks_1 : decode cX9_lacks 1 = .ok (.getfield 7, 3) := by decide +kernel
theorem dX9_lacks_4 : decode cX9_lacks 4 = .ok (.iload_n 1, 1) := by decide +kernel
theorem dX9_lacks_5 : decode cX9_lacks 5 = .ok (.iaload, 1) := by decide +kernel
theorem dX9_lacks_6 : decode cX9_lacks 6 = .ok (.ifCond .ge 9, 3) := by decide +kernel
theorem dX9_lacks_9 : decode cX9_lacks 9 = .ok (.aload_n 0, 1) := by decide +kernel
theorem dX9_lacks_10 : decode cX9_lacks 10 = .ok (.iconst 1, 1) := by decide +kernel
theorem dX9_lacks_11 : decode cX9_lacks 11 = .ok (.invokevirtual 76, 3) := by decide +kernel
theorem dX9_lacks_14 : decode cX9_lacks 14 = .ok (.ireturn, 1) := by decide +kernel
theorem dX9_lacks_15 : decode cX9_lacks 15 = .ok (.aload_n 0, 1) := by decide +kernel
theorem dX9_lacks_16 : decode cX9_lacks 16 = .ok (.getfield 7, 3) := by decide +kernel
theorem dX9_lacks_19 : decode cX9_lacks 19 = .ok (.iload_n 1, 1) := by decide +kernel
theorem dX9_lacks_20 : decode cX9_lacks 20 = .ok (.iaload, 1) := by decide +kernel
theorem dX9_lacks_21 : decode cX9_lacks 21 = .ok (.iload_n 2, 1) := by decide +kernel
theorem dX9_lacks_22 : decode cX9_lacks 22 = .ok (.if_icmp .eq 9, 3) := by decide +kernel
theorem dX9_lacks_25 : decode cX9_lacks 25 = .ok (.aload_n 0, 1) := by decide +kernel
theorem dX9_lacks_26 : decode cX9_lacks 26 = .ok (.iconst 3, 1) := by decide +kernel
theorem dX9_lacks_27 : decode cX9_lacks 27 = .ok (.invokevirtual 76, 3) := by decide +kernel
theorem dX9_lacks_30 : decode cX9_lacks 30 = .ok (.ireturn, 1) := by decide +kernel
theorem dX9_lacks_31 : decode cX9_lacks 31 = .ok (.iload_n 3, 1) := by decide +kernel
theorem dX9_lacks_32 : decode cX9_lacks 32 = .ok (.i2l, 1) := by decide +kernel
theorem dX9_lacks_33 : decode cX9_lacks 33 = .ok (.lconst 0, 1) := by decide +kernel
theorem dX9_lacks_34 : decode cX9_lacks 34 = .ok (.aload_n 0, 1) := by decide +kernel
theorem dX9_lacks_35 : decode cX9_lacks 35 = .ok (.getfield 13, 3) := by decide +kernel
theorem dX9_lacks_38 : decode cX9_lacks 38 = .ok (.iload_n 1, 1) := by decide +kernel
theorem dX9_lacks_39 : decode cX9_lacks 39 = .ok (.iaload, 1) := by decide +kernel
theorem dX9_lacks_40 : decode cX9_lacks 40 = .ok (.iconst 1, 1) := by decide +kernel
theorem dX9_lacks_41 : decode cX9_lacks 41 = .ok (.isub, 1) := by decide +kernel
theorem dX9_lacks_42 : decode cX9_lacks 42 = .ok (.i2l, 1) := by decide +kernel
theorem dX9_lacks_43 : decode cX9_lacks 43 = .ok (.invokestatic 60, 3) := by decide +kernel
theorem dX9_lacks_46 : decode cX9_lacks 46 = .ok (.ifCond .eq 7, 3) := by decide +kernel
theorem dX9_lacks_49 : decode cX9_lacks 49 = .ok (.iconst 0, 1) := by decide +kernel
theorem dX9_lacks_50 : decode cX9_lacks 50 = .ok (.goto 8, 3) := by decide +kernel
theorem dX9_lacks_53 : decode cX9_lacks 53 = .ok (.aload_n 0, 1) := by decide +kernel
theorem dX9_lacks_54 : decode cX9_lacks 54 = .ok (.iconst 2, 1) := by decide +kernel
theorem dX9_lacks_55 : decode cX9_lacks 55 = .ok (.invokevirtual 76, 3) := by decide +kernel
theorem dX9_lacks_58 : decode cX9_lacks 58 = .ok (.ireturn, 1) := by decide +kernel
theorem dX9_cut_0 : decode cX9_cut 0 = .ok (.iload_n 0, 1) := by decide +kernel
theorem dX9_cut_1 : decode cX9_cut 1 = .ok (.ifCond .ne 8, 3) := by decide +kernel
theorem dX9_cut_4 : decode cX9_cut 4 = .ok (.iload_n 1, 1) := by decide +kernel
theorem dX9_cut_5 : decode cX9_cut 5 = .ok (.i2b, 1) := by decide +kernel
theorem dX9_cut_6 : decode cX9_cut 6 = .ok (.goto 14, 3) := by decide +kernel
theorem dX9_cut_9 : decode cX9_cut 9 = .ok (.iload_n 0, 1) := by decide +kernel
theorem dX9_cut_10 : decode cX9_cut 10 = .ok (.iconst 1, 1) := by decide +kernel
theorem dX9_cut_11 : decode cX9_cut 11 = .ok (.if_icmp .ne 8, 3) := by decide +kernel
theorem dX9_cut_14 : decode cX9_cut 14 = .ok (.iload_n 1, 1) := by decide +kernel
theorem dX9_cut_15 : decode cX9_cut 15 = .ok (.i2s, 1) := by decide +kernel
theorem dX9_cut_16 : decode cX9_cut 16 = .ok (.goto 4, 3) := by decide +kernel
theorem dX9_cut_19 : decode cX9_cut 19 = .ok (.iload_n 1, 1) := by decide +kernel
theorem dX9_cut_20 : decode cX9_cut 20 = .ok (.ireturn, 1) := by decide +kernel
theorem dX9_lay_0 : decode cX9_lay 0 = .ok (.iload_n 1, 1) := by decide +kernel
theorem dX9_lay_1 : decode cX9_lay 1 = .ok (.invokestatic 70, 3) := by decide +kernel
theorem dX9_lay_4 : decode cX9_lay 4 = .ok (.ifCond .eq 15, 3) := by decide +kernel
theorem dX9_lay_7 : decode cX9_lay 7 = .ok (.iload_n 2, 1) := by decide +kernel
theorem dX9_lay_8 : decode cX9_lay 8 = .ok (.i2l, 1) := by decide +kernel
theorem dX9_lay_9 : decode cX9_lay 9 = .ok (.lconst 0, 1) := by decide +kernel
theorem dX9_lay_10 : decode cX9_lay 10 = .ok (.ldc2_w 74, 3) := by decide +kernel
theorem dX9_lay_13 : decode cX9_lay 13 = .ok (.invokestatic 60, 3) := by decide +kernel
theorem dX9_lay_16 : decode cX9_lay 16 = .ok (.ifCond .ne 6, 3) := by decide +kernel
theorem dX9_lay_19 : decode cX9_lay 19 = .ok (.bipush (-2), 2) := by decide +kernel
theorem dX9_lay_21 : decode cX9_lay 21 = .ok (.ireturn, 1) := by decide +kernel
theorem dX9_lay_22 : decode cX9_lay 22 = .ok (.aload_n 0, 1) := by decide +kernel
theorem dX9_lay_23 : decode cX9_lay 23 = .ok (.iload_n 1, 1) := by decide +kernel
theorem dX9_lay_24 : decode cX9_lay 24 = .ok (.iload_n 2, 1) := by decide +kernel
theorem dX9_lay_25 : decode cX9_lay 25 = .ok (.iload_n 3, 1) := by decide +kernel
theorem dX9_lay_26 : decode cX9_lay 26 = .ok (.invokevirtual 80, 3) := by decide +kernel
theorem dX9_lay_29 : decode cX9_lay 29 = .ok (.istore 5, 2) := by decide +kernel
theorem dX9_lay_31 : decode cX9_lay 31 = .ok (.iload 5, 2) := by decide +kernel
theorem dX9_lay_33 : decode cX9_lay 33 = .ok (.ifCond .eq 6, 3) := by decide +kernel
theorem dX9_lay_36 : decode cX9_lay 36 = .ok (.iload 5, 2) := by decide +kernel
theorem dX9_lay_38 : decode cX9_lay 38 = .ok (.ireturn, 1) := by decide +kernel
theorem dX9_lay_39 : decode cX9_lay 39 = .ok (.aload_n 0, 1) := by decide +kernel
theorem dX9_lay_40 : decode cX9_lay 40 = .ok (.getfield 16, 3) := by decide +kernel
theorem dX9_lay_43 : decode cX9_lay 43 = .ok (.bipush 60, 2) := by decide +kernel
theorem dX9_lay_45 : decode cX9_lay 45 = .ok (.iload_n 1, 1) := by decide +kernel
theorem dX9_lay_46 : decode cX9_lay 46 = .ok (.imul, 1) := by decide +kernel
theorem dX9_lay_47 : decode cX9_lay 47 = .ok (.iload_n 3, 1) := by decide +kernel
theorem dX9_lay_48 : decode cX9_lay 48 = .ok (.iadd, 1) := by decide +kernel
theorem dX9_lay_49 : decode cX9_lay 49 = .ok (.iload_n 2, 1) := by decide +kernel
theorem dX9_lay_50 : decode cX9_lay 50 = .ok (.iload 4, 2) := by decide +kernel
theorem dX9_lay_52 : decode cX9_lay 52 = .ok (.invokestatic 84, 3) := by decide +kernel
theorem dX9_lay_55 : decode cX9_lay 55 = .ok (.iastore, 1) := by decide +kernel
theorem dX9_lay_56 : decode cX9_lay 56 = .ok (.iconst 1, 1) := by decide +kernel
theorem dX9_lay_57 : decode cX9_lay 57 = .ok (.ireturn, 1) := by decide +kernel
theorem dX9_get_0 : decode cX9_get 0 = .ok (.iload_n 1, 1) := by decide +kernel
theorem dX9_get_1 : decode cX9_get 1 = .ok (.invokestatic 70, 3) := by decide +kernel
theorem dX9_get_4 : decode cX9_get 4 = .ok (.ifCond .eq 25, 3) := by decide +kernel
theorem dX9_get_7 : decode cX9_get 7 = .ok (.iload_n 2, 1) := by decide +kernel
theorem dX9_get_8 : decode cX9_get 8 = .ok (.i2l, 1) := by decide +kernel
theorem dX9_get_9 : decode cX9_get 9 = .ok (.lconst 0, 1) := by decide +kernel
theorem dX9_get_10 : decode cX9_get 10 = .ok (.ldc2_w 74, 3) := by decide +kernel
theorem dX9_get_13 : decode cX9_get 13 = .ok (.invokestatic 60, 3) := by decide +kernel
theorem dX9_get_16 : decode cX9_get 16 = .ok (.ifCond .eq 13, 3) := by decide +kernel
theorem dX9_get_19 : decode cX9_get 19 = .ok (.aload_n 0, 1) := by decide +kernel
theorem dX9_get_20 : decode cX9_get 20 = .ok (.iload_n 1, 1) := by decide +kernel
theorem dX9_get_21 : decode cX9_get 21 = .ok (.iload_n 2, 1) := by decide +kernel
theorem dX9_get_22 : decode cX9_get 22 = .ok (.iload_n 3, 1) := by decide +kernel
theorem dX9_get_23 : decode cX9_get 23 = .ok (.invokevirtual 80, 3) := by decide +kernel
theorem dX9_get_26 : decode cX9_get 26 = .ok (.ifCond .eq 6, 3) := by decide +kernel
theorem dX9_get_29 : decode cX9_get 29 = .ok (.ldc 88, 2) := by decide +kernel
theorem dX9_get_31 : decode cX9_get 31 = .ok (.ireturn, 1) := by decide +kernel
theorem dX9_get_32 : decode cX9_get 32 = .ok (.aload_n 0, 1) := by decide +kernel
theorem dX9_get_33 : decode cX9_get 33 = .ok (.getfield 16, 3) := by decide +kernel
theorem dX9_get_36 : decode cX9_get 36 = .ok (.bipush 60, 2) := by decide +kernel
theorem dX9_get_38 : decode cX9_get 38 = .ok (.iload_n 1, 1) := by decide +kernel
theorem dX9_get_39 : decode cX9_get 39 = .ok (.imul, 1) := by decide +kernel
theorem dX9_get_40 : decode cX9_get 40 = .ok (.iload_n 3, 1) := by decide +kernel
theorem dX9_get_41 : decode cX9_get 41 = .ok (.iadd, 1) := by decide +kernel
theorem dX9_get_42 : decode cX9_get 42 = .ok (.iaload, 1) := by decide +kernel
theorem dX9_get_43 : decode cX9_get 43 = .ok (.ireturn, 1) := by decide +kernel
theorem dX9_copy_0 : decode cX9_copy 0 = .ok (.iload_n 1, 1) := by decide +kernel
theorem dX9_copy_1 : decode cX9_copy 1 = .ok (.invokestatic 70, 3) := by decide +kernel
theorem dX9_copy_4 : decode cX9_copy 4 = .ok (.ifCond .eq 10, 3) := by decide +kernel
theorem dX9_copy_7 : decode cX9_copy 7 = .ok (.iload_n 3, 1) := by decide +kernel
theorem dX9_copy_8 : decode cX9_copy 8 = .ok (.invokestatic 70, 3) := by decide +kernel
theorem dX9_copy_11 : decode cX9_copy 11 = .ok (.ifCond .ne 6, 3) := by decide +kernel
theorem dX9_copy_14 : decode cX9_copy 14 = .ok (.bipush (-2), 2) := by decide +kernel
theorem dX9_copy_16 : decode cX9_copy 16 = .ok (.ireturn, 1) := by decide +kernel
theorem dX9_copy_17 : decode cX9_copy 17 = .ok (.aload_n 0, 1) := by decide +kernel
theorem dX9_copy_18 : decode cX9_copy 18 = .ok (.getfield 7, 3) := by decide +kernel
theorem dX9_copy_21 : decode cX9_copy 21 = .ok (.iload_n 1, 1) := by decide +kernel
theorem dX9_copy_22 : decode cX9_copy 22 = .ok (.iaload, 1) := by decide +kernel
theorem dX9_copy_23 : decode cX9_copy 23 = .ok (.ifCond .lt 12, 3) := by decide +kernel
theorem dX9_copy_26 : decode cX9_copy 26 = .ok (.aload_n 0, 1) := by decide +kernel
theorem dX9_copy_27 : decode cX9_copy 27 = .ok (.getfield 7, 3) := by decide +kernel
theorem dX9_copy_30 : decode cX9_copy 30 = .ok (.iload_n 3, 1) := by decide +kernel
theorem dX9_copy_31 : decode cX9_copy 31 = .ok (.iaload, 1) := by decide +kernel
theorem dX9_copy_32 : decode cX9_copy 32 = .ok (.ifCond .ge 9, 3) := by decide +kernel
theorem dX9_copy_35 : decode cX9_copy 35 = .ok (.aload_n 0, 1) := by decide +kernel
theorem dX9_copy_36 : decode cX9_copy 36 = .ok (.iconst 1, 1) := by decide +kernel
theorem dX9_copy_37 : decode cX9_copy 37 = .ok (.invokevirtual 76, 3) := by decide +kernel
theorem dX9_copy_40 : decode cX9_copy 40 = .ok (.ireturn, 1) := by decide +kernel
theorem dX9_copy_41 : decode cX9_copy 41 = .ok (.aload_n 0, 1) := by decide +kernel
theorem dX9_copy_42 : decode cX9_copy 42 = .ok (.getfield 7, 3) := by decide +kernel
theorem dX9_copy_45 : decode cX9_copy 45 = .ok (.iload_n 1, 1) := by decide +kernel
theorem dX9_copy_46 : decode cX9_copy 46 = .ok (.iaload, 1) := by decide +kernel
theorem dX9_copy_47 : decode cX9_copy 47 = .ok (.aload_n 0, 1) := by decide +kernel
theorem dX9_copy_48 : decode cX9_copy 48 = .ok (.getfield 7, 3) := by decide +kernel
theorem dX9_copy_51 : decode cX9_copy 51 = .ok (.iload_n 3, 1) := by decide +kernel
theorem dX9_copy_52 : decode cX9_copy 52 = .ok (.iaload, 1) := by decide +kernel
theorem dX9_copy_53 : decode cX9_copy 53 = .ok (.if_icmp .eq 9, 3) := by decide +kernel
theorem dX9_copy_56 : decode cX9_copy 56 = .ok (.aload_n 0, 1) := by decide +kernel
theorem dX9_copy_57 : decode cX9_copy 57 = .ok (.iconst 4, 1) := by decide +kernel
theorem dX9_copy_58 : decode cX9_copy 58 = .ok (.invokevirtual 76, 3) := by decide +kernel
theorem dX9_copy_61 : decode cX9_copy 61 = .ok (.ireturn, 1) := by decide +kernel
theorem dX9_copy_62 : decode cX9_copy 62 = .ok (.iload_n 2, 1) := by decide +kernel
theorem dX9_copy_63 : decode cX9_copy 63 = .ok (.ifCond .lt 48, 3) := by decide +kernel
theorem dX9_copy_66 : decode cX9_copy 66 = .ok (.iload 4, 2) := by decide +kernel
theorem dX9_copy_68 : decode cX9_copy 68 = .ok (.ifCond .lt 43, 3) := by decide +kernel
theorem dX9_copy_71 : decode cX9_copy 71 = .ok (.iload 5, 2) := by decide +kernel
theorem dX9_copy_73 : decode cX9_copy 73 = .ok (.ifCond .lt 38, 3) := by decide +kernel
theorem dX9_copy_76 : decode cX9_copy 76 = .ok (.iload_n 2, 1) := by decide +kernel
theorem dX9_copy_77 : decode cX9_copy 77 = .ok (.i2l, 1) := by decide +kernel
theorem dX9_copy_78 : decode cX9_copy 78 = .ok (.iload 5, 2) := by decide +kernel
theorem dX9_copy_80 : decode cX9_copy 80 = .ok (.i2l, 1) := by decide +kernel
theorem dX9_copy_81 : decode cX9_copy 81 = .ok (.ladd, 1) := by decide +kernel
theorem dX9_copy_82 : decode cX9_copy 82 = .ok (.aload_n 0, 1) := by decide +kernel
theorem dX9_copy_83 : decode cX9_copy 83 = .ok (.getfield 13, 3) := by decide +kernel
theorem dX9_copy_86 : decode cX9_copy 86 = .ok (.iload_n 1, 1) := by decide +kernel
theorem dX9_copy_87 : decode cX9_copy 87 = .ok (.iaload, 1) := by decide +kernel
theorem dX9_copy_88 : decode cX9_copy 88 = .ok (.i2l, 1) := by decide +kernel
theorem dX9_copy_89 : decode cX9_copy 89 = .ok (.lcmp, 1) := by decide +kernel
theorem dX9_copy_90 : decode cX9_copy 90 = .ok (.ifCond .gt 21, 3) := by decide +kernel
theorem dX9_copy_93 : decode cX9_copy 93 = .ok (.iload 4, 2) := by decide +kernel
theorem dX9_copy_95 : decode cX9_copy 95 = .ok (.i2l, 1) := by decide +kernel
theorem dX9_copy_96 : decode cX9_copy 96 = .ok (.iload 5, 2) := by decide +kernel
theorem dX9_copy_98 : decode cX9_copy 98 = .ok (.i2l, 1) := by decide +kernel
theorem dX9_copy_99 : decode cX9_copy 99 = .ok (.ladd, 1) := by decide +kernel
theorem dX9_copy_100 : decode cX9_copy 100 = .ok (.aload_n 0, 1) := by decide +kernel
theorem dX9_copy_101 : decode cX9_copy 101 = .ok (.getfield 13, 3) := by decide +kernel
theorem dX9_copy_104 : decode cX9_copy 104 = .ok (.iload_n 3, 1) := by decide +kernel
theorem dX9_copy_105 : decode cX9_copy 105 = .ok (.iaload, 1) := by decide +kernel
theorem dX9_copy_106 : decode cX9_copy 106 = .ok (.i2l, 1) := by decide +kernel
theorem dX9_copy_107 : decode cX9_copy 107 = .ok (.lcmp, 1) := by decide +kernel
theorem dX9_copy_108 : decode cX9_copy 108 = .ok (.ifCond .le 9, 3) := by decide +kernel
theorem dX9_copy_111 : decode cX9_copy 111 = .ok (.aload_n 0, 1) := by decide +kernel
theorem dX9_copy_112 : decode cX9_copy 112 = .ok (.iconst 2, 1) := by decide +kernel
theorem dX9_copy_113 : decode cX9_copy 113 = .ok (.invokevirtual 76, 3) := by decide +kernel
theorem dX9_copy_116 : decode cX9_copy 116 = .ok (.ireturn, 1) := by decide +kernel
theorem dX9_copy_117 : decode cX9_copy 117 = .ok (.iconst 0, 1) := by decide +kernel
theorem dX9_copy_118 : decode cX9_copy 118 = .ok (.istore 6, 2) := by decide +kernel
theorem dX9_copy_120 : decode cX9_copy 120 = .ok (.iload 6, 2) := by decide +kernel
theorem dX9_copy_122 : decode cX9_copy 122 = .ok (.iload 5, 2) := by decide +kernel
theorem dX9_copy_124 : decode cX9_copy 124 = .ok (.if_icmp .ge 30, 3) := by decide +kernel
theorem dX9_copy_127 : decode cX9_copy 127 = .ok (.aload_n 0, 1) := by decide +kernel
theorem dX9_copy_128 : decode cX9_copy 128 = .ok (.getfield 19, 3) := by decide +kernel
theorem dX9_copy_131 : decode cX9_copy 131 = .ok (.iload 6, 2) := by decide +kernel
theorem dX9_copy_133 : decode cX9_copy 133 = .ok (.aload_n 0, 1) := by decide +kernel
theorem dX9_copy_134 : decode cX9_copy 134 = .ok (.getfield 16, 3) := by decide +kernel
theorem dX9_copy_137 : decode cX9_copy 137 = .ok (.bipush 60, 2) := by decide +kernel
theorem dX9_copy_139 : decode cX9_copy 139 = .ok (.iload_n 1, 1) := by decide +kernel
theorem dX9_copy_140 : decode cX9_copy 140 = .ok (.imul, 1) := by decide +kernel
theorem dX9_copy_141 : decode cX9_copy 141 = .ok (.iload_n 2, 1) := by decide +kernel
theorem dX9_copy_142 : decode cX9_copy 142 = .ok (.iadd, 1) := by decide +kernel
theorem dX9_copy_143 : decode cX9_copy 143 = .ok (.iload 6, 2) := by decide +kernel
theorem dX9_copy_145 : decode cX9_copy 145 = .ok (.iadd, 1) := by decide +kernel
theorem dX9_copy_146 : decode cX9_copy 146 = .ok (.iaload, 1) := by decide +kernel
theorem dX9_copy_147 : decode cX9_copy 147 = .ok (.iastore, 1) := by decide +kernel
theorem dX9_copy_148 : decode cX9_copy 148 = .ok (.iinc 6 1, 3) := by decide +kernel
theorem dX9_copy_151 : decode cX9_copy 151 = .ok (.goto (-31), 3) := by decide +kernel
theorem dX9_copy_154 : decode cX9_copy 154 = .ok (.iconst 0, 1) := by decide +kernel
theorem dX9_copy_155 : decode cX9_copy 155 = .ok (.istore 6, 2) := by decide +kernel
theorem dX9_copy_157 : decode cX9_copy 157 = .ok (.iload 6, 2) := by decide +kernel
theorem dX9_copy_159 : decode cX9_copy 159 = .ok (.iload 5, 2) := by decide +kernel
theorem dX9_copy_161 : decode cX9_copy 161 = .ok (.if_icmp .ge 31, 3) := by decide +kernel
theorem dX9_copy_164 : decode cX9_copy 164 = .ok (.aload_n 0, 1) := by decide +kernel
theorem dX9_copy_165 : decode cX9_copy 165 = .ok (.getfield 16, 3) := by decide +kernel
theorem dX9_copy_168 : decode cX9_copy 168 = .ok (.bipush 60, 2) := by decide +kernel
theorem dX9_copy_170 : decode cX9_copy 170 = .ok (.iload_n 3, 1) := by decide +kernel
theorem dX9_copy_171 : decode cX9_copy 171 = .ok (.imul, 1) := by decide +kernel
theorem dX9_copy_172 : decode cX9_copy 172 = .ok (.iload 4, 2) := by decide +kernel
theorem dX9_copy_174 : decode cX9_copy 174 = .ok (.iadd, 1) := by decide +kernel
theorem dX9_copy_175 : decode cX9_copy 175 = .ok (.iload 6, 2) := by decide +kernel
theorem dX9_copy_177 : decode cX9_copy 177 = .ok (.iadd, 1) := by decide +kernel
theorem dX9_copy_178 : decode cX9_copy 178 = .ok (.aload_n 0, 1) := by decide +kernel
theorem dX9_copy_179 : decode cX9_copy 179 = .ok (.getfield 19, 3) := by decide +kernel
theorem dX9_copy_182 : decode cX9_copy 182 = .ok (.iload 6, 2) := by decide +kernel
theorem dX9_copy_184 : decode cX9_copy 184 = .ok (.iaload, 1) := by decide +kernel
theorem dX9_copy_185 : decode cX9_copy 185 = .ok (.iastore, 1) := by decide +kernel
theorem dX9_copy_186 : decode cX9_copy 186 = .ok (.iinc 6 1, 3) := by decide +kernel
theorem dX9_copy_189 : decode cX9_copy 189 = .ok (.goto (-32), 3) := by decide +kernel
theorem dX9_copy_192 : decode cX9_copy 192 = .ok (.iconst 1, 1) := by decide +kernel
theorem dX9_copy_193 : decode cX9_copy 193 = .ok (.ireturn, 1) := by decide +kernel
theorem dX9_type_0 : decode cX9_type 0 = .ok (.iload_n 1, 1) := by decide +kernel
theorem dX9_type_1 : decode cX9_type 1 = .ok (.invokestatic 89, 3) := by decide +kernel
theorem dX9_type_4 : decode cX9_type 4 = .ok (.ifCond .eq 15, 3) := by decide +kernel
theorem dX9_type_7 : decode cX9_type 7 = .ok (.iload_n 2, 1) := by decide +kernel
theorem dX9_type_8 : decode cX9_type 8 = .ok (.i2l, 1) := by decide +kernel
theorem dX9_type_9 : decode cX9_type 9 = .ok (.lconst 0, 1) := by decide +kernel
theorem dX9_type_10 : decode cX9_type 10 = .ok (.ldc2_w 92, 3) := by decide +kernel
theorem dX9_type_13 : decode cX9_type 13 = .ok (.invokestatic 60, 3) := by decide +kernel
theorem dX9_type_16 : decode cX9_type 16 = .ok (.ifCond .ne 6, 3) := by decide +kernel
theorem dX9_type_19 : decode cX9_type 19 = .ok (.bipush (-2), 2) := by decide +kernel
theorem dX9_type_21 : decode cX9_type 21 = .ok (.ireturn, 1) := by decide +kernel
theorem dX9_type_22 : decode cX9_type 22 = .ok (.aload_n 0, 1) := by decide +kernel
theorem dX9_type_23 : decode cX9_type 23 = .ok (.getfield 25, 3) := by decide +kernel
theorem dX9_type_26 : decode cX9_type 26 = .ok (.iload_n 1, 1) := by decide +kernel
theorem dX9_type_27 : decode cX9_type 27 = .ok (.iaload, 1) := by decide +kernel
theorem dX9_type_28 : decode cX9_type 28 = .ok (.iload_n 1, 1) := by decide +kernel
theorem dX9_type_29 : decode cX9_type 29 = .ok (.ifCond .ne 8, 3) := by decide +kernel
theorem dX9_type_32 : decode cX9_type 32 = .ok (.bipush 41, 2) := by decide +kernel
theorem dX9_type_34 : decode cX9_type 34 = .ok (.goto 5, 3) := by decide +kernel
theorem dX9_type_37 : decode cX9_type 37 = .ok (.bipush 31, 2) := by decide +kernel
theorem dX9_type_39 : decode cX9_type 39 = .ok (.if_icmp .ne 6, 3) := by decide +kernel
theorem dX9_type_42 : decode cX9_type 42 = .ok (.bipush (-4), 2) := by decide +kernel
theorem dX9_type_44 : decode cX9_type 44 = .ok (.ireturn, 1) := by decide +kernel
theorem dX9_type_45 : decode cX9_type 45 = .ok (.aload_n 0, 1) := by decide +kernel
theorem dX9_type_46 : decode cX9_type 46 = .ok (.getfield 22, 3) := by decide +kernel
theorem dX9_type_49 : decode cX9_type 49 = .ok (.bipush 42, 2) := by decide +kernel
theorem dX9_type_51 : decode cX9_type 51 = .ok (.iload_n 1, 1) := by decide +kernel
theorem dX9_type_52 : decode cX9_type 52 = .ok (.imul, 1) := by decide +kernel
theorem dX9_type_53 : decode cX9_type 53 = .ok (.aload_n 0, 1) := by decide +kernel
theorem dX9_type_54 : decode cX9_type 54 = .ok (.getfield 25, 3) := by decide +kernel
theorem dX9_type_57 : decode cX9_type 57 = .ok (.iload_n 1, 1) := by decide +kernel
theorem dX9_type_58 : decode cX9_type 58 = .ok (.iaload, 1) := by decide +kernel
theorem dX9_type_59 : decode cX9_type 59 = .ok (.iadd, 1) := by decide +kernel
theorem dX9_type_60 : decode cX9_type 60 = .ok (.iload_n 2, 1) := by decide +kernel
theorem dX9_type_61 : decode cX9_type 61 = .ok (.iastore, 1) := by decide +kernel
theorem dX9_type_62 : decode cX9_type 62 = .ok (.aload_n 0, 1) := by decide +kernel
theorem dX9_type_63 : decode cX9_type 63 = .ok (.getfield 25, 3) := by decide +kernel
theorem dX9_type_66 : decode cX9_type 66 = .ok (.iload_n 1, 1) := by decide +kernel
theorem dX9_type_67 : decode cX9_type 67 = .ok (.dup2, 1) := by decide +kernel
theorem dX9_type_68 : decode cX9_type 68 = .ok (.iaload, 1) := by decide +kernel
theorem dX9_type_69 : decode cX9_type 69 = .ok (.iconst 1, 1) := by decide +kernel
theorem dX9_type_70 : decode cX9_type 70 = .ok (.iadd, 1) := by decide +kernel
theorem dX9_type_71 : decode cX9_type 71 = .ok (.iastore, 1) := by decide +kernel
theorem dX9_type_72 : decode cX9_type 72 = .ok (.aload_n 0, 1) := by decide +kernel
theorem dX9_type_73 : decode cX9_type 73 = .ok (.getfield 25, 3) := by decide +kernel
theorem dX9_type_76 : decode cX9_type 76 = .ok (.iload_n 1, 1) := by decide +kernel
theorem dX9_type_77 : decode cX9_type 77 = .ok (.iaload, 1) := by decide +kernel
theorem dX9_type_78 : decode cX9_type 78 = .ok (.ireturn, 1) := by decide +kernel
theorem dX9_wipe_0 : decode cX9_wipe 0 = .ok (.iload_n 1, 1) := by decide +kernel
theorem dX9_wipe_1 : decode cX9_wipe 1 = .ok (.invokestatic 89, 3) := by decide +kernel
theorem dX9_wipe_4 : decode cX9_wipe 4 = .ok (.ifCond .ne 6, 3) := by decide +kernel
theorem dX9_wipe_7 : decode cX9_wipe 7 = .ok (.bipush (-2), 2) := by decide +kernel
theorem dX9_wipe_9 : decode cX9_wipe 9 = .ok (.ireturn, 1) := by decide +kernel
theorem dX9_wipe_10 : decode cX9_wipe 10 = .ok (.aload_n 0, 1) := by decide +kernel
theorem dX9_wipe_11 : decode cX9_wipe 11 = .ok (.getfield 25, 3) := by decide +kernel
theorem dX9_wipe_14 : decode cX9_wipe 14 = .ok (.iload_n 1, 1) := by decide +kernel
theorem dX9_wipe_15 : decode cX9_wipe 15 = .ok (.iaload, 1) := by decide +kernel
theorem dX9_wipe_16 : decode cX9_wipe 16 = .ok (.istore_n 2, 1) := by decide +kernel
theorem dX9_wipe_17 : decode cX9_wipe 17 = .ok (.aload_n 0, 1) := by decide +kernel
theorem dX9_wipe_18 : decode cX9_wipe 18 = .ok (.getfield 25, 3) := by decide +kernel
theorem dX9_wipe_21 : decode cX9_wipe 21 = .ok (.iload_n 1, 1) := by decide +kernel
theorem dX9_wipe_22 : decode cX9_wipe 22 = .ok (.iconst 0, 1) := by decide +kernel
theorem dX9_wipe_23 : decode cX9_wipe 23 = .ok (.iastore, 1) := by decide +kernel
theorem dX9_wipe_24 : decode cX9_wipe 24 = .ok (.iload_n 2, 1) := by decide +kernel
theorem dX9_wipe_25 : decode cX9_wipe 25 = .ok (.ireturn, 1) := by decide +kernel
theorem dX9_undo_0 : decode cX9_undo 0 = .ok (.iload_n 1, 1) := by decide +kernel
theorem dX9_undo_1 : decode cX9_undo 1 = .ok (.invokestatic 89, 3) := by decide +kernel
theorem dX9_undo_4 : decode cX9_undo 4 = .ok (.ifCond .ne 6, 3) := by decide +kernel
theorem dX9_undo_7 : decode cX9_undo 7 = .ok (.bipush (-2), 2) := by decide +kernel
theorem dX9_undo_9 : decode cX9_undo 9 = .ok (.ireturn, 1) := by decide +kernel
theorem dX9_undo_10 : decode cX9_undo 10 = .ok (.aload_n 0, 1) := by decide +kernel
theorem dX9_undo_11 : decode cX9_undo 11 = .ok (.getfield 25, 3) := by decide +kernel
theorem dX9_undo_14 : decode cX9_undo 14 = .ok (.iload_n 1, 1) := by decide +kernel
theorem dX9_undo_15 : decode cX9_undo 15 = .ok (.iaload, 1) := by decide +kernel
theorem dX9_undo_16 : decode cX9_undo 16 = .ok (.ifCond .ne 6, 3) := by decide +kernel
theorem dX9_undo_19 : decode cX9_undo 19 = .ok (.bipush (-3), 2) := by decide +kernel
theorem dX9_undo_21 : decode cX9_undo 21 = .ok (.ireturn, 1) := by decide +kernel
theorem dX9_undo_22 : decode cX9_undo 22 = .ok (.aload_n 0, 1) := by decide +kernel
theorem dX9_undo_23 : decode cX9_undo 23 = .ok (.getfield 25, 3) := by decide +kernel
theorem dX9_undo_26 : decode cX9_undo 26 = .ok (.iload_n 1, 1) := by decide +kernel
theorem dX9_undo_27 : decode cX9_undo 27 = .ok (.dup2, 1) := by decide +kernel
theorem dX9_undo_28 : decode cX9_undo 28 = .ok (.iaload, 1) := by decide +kernel
theorem dX9_undo_29 : decode cX9_undo 29 = .ok (.iconst 1, 1) := by decide +kernel
theorem dX9_undo_30 : decode cX9_undo 30 = .ok (.isub, 1) := by decide +kernel
theorem dX9_undo_31 : decode cX9_undo 31 = .ok (.iastore, 1) := by decide +kernel
theorem dX9_undo_32 : decode cX9_undo 32 = .ok (.aload_n 0, 1) := by decide +kernel
theorem dX9_undo_33 : decode cX9_undo 33 = .ok (.getfield 25, 3) := by decide +kernel
theorem dX9_undo_36 : decode cX9_undo 36 = .ok (.iload_n 1, 1) := by decide +kernel
theorem dX9_undo_37 : decode cX9_undo 37 = .ok (.iaload, 1) := by decide +kernel
theorem dX9_undo_38 : decode cX9_undo 38 = .ok (.ireturn, 1) := by decide +kernel
theorem dX9_cellOf_0 : decode cX9_cellOf 0 = .ok (.iload_n 0, 1) := by decide +kernel
theorem dX9_cellOf_1 : decode cX9_cellOf 1 = .ok (.bipush 46, 2) := by decide +kernel
theorem dX9_cellOf_3 : decode cX9_cellOf 3 = .ok (.if_icmp .ne 7, 3) := by decide +kernel
theorem dX9_cellOf_6 : decode cX9_cellOf 6 = .ok (.iconst 0, 1) := by decide +kernel
theorem dX9_cellOf_7 : decode cX9_cellOf 7 = .ok (.goto 35, 3) := by decide +kernel
theorem dX9_cellOf_10 : decode cX9_cellOf 10 = .ok (.iload_n 0, 1) := by decide +kernel
theorem dX9_cellOf_11 : decode cX9_cellOf 11 = .ok (.bipush 35, 2) := by decide +kernel
theorem dX9_cellOf_13 : decode cX9_cellOf 13 = .ok (.if_icmp .ne 7, 3) := by decide +kernel
theorem dX9_cellOf_16 : decode cX9_cellOf 16 = .ok (.iconst 1, 1) := by decide +kernel
theorem dX9_cellOf_17 : decode cX9_cellOf 17 = .ok (.goto 25, 3) := by decide +kernel
theorem dX9_cellOf_20 : decode cX9_cellOf 20 = .ok (.iload_n 0, 1) := by decide +kernel
theorem dX9_cellOf_21 : decode cX9_cellOf 21 = .ok (.bipush 108, 2) := by decide +kernel
theorem dX9_cellOf_23 : decode cX9_cellOf 23 = .ok (.if_icmp .ne 7, 3) := by decide +kernel
theorem dX9_cellOf_26 : decode cX9_cellOf 26 = .ok (.iconst 2, 1) := by decide +kernel
theorem dX9_cellOf_27 : decode cX9_cellOf 27 = .ok (.goto 15, 3) := by decide +kernel
theorem dX9_cellOf_30 : decode cX9_cellOf 30 = .ok (.iload_n 0, 1) := by decide +kernel
theorem dX9_cellOf_31 : decode cX9_cellOf 31 = .ok (.bipush 119, 2) := by decide +kernel
theorem dX9_cellOf_33 : decode cX9_cellOf 33 = .ok (.if_icmp .ne 7, 3) := by decide +kernel
theorem dX9_cellOf_36 : decode cX9_cellOf 36 = .ok (.iconst 3, 1) := by decide +kernel
theorem dX9_cellOf_37 : decode cX9_cellOf 37 = .ok (.goto 5, 3) := by decide +kernel
theorem dX9_cellOf_40 : decode cX9_cellOf 40 = .ok (.bipush (-9), 2) := by decide +kernel
theorem dX9_cellOf_42 : decode cX9_cellOf 42 = .ok (.ireturn, 1) := by decide +kernel
theorem dX9_torn_0 : decode cX9_torn 0 = .ok (.aload_n 0, 1) := by decide +kernel
theorem dX9_torn_1 : decode cX9_torn 1 = .ok (.iconst 0, 1) := by decide +kernel
theorem dX9_torn_2 : decode cX9_torn 2 = .ok (.putfield 94, 3) := by decide +kernel
theorem dX9_torn_5 : decode cX9_torn 5 = .ok (.aload_n 0, 1) := by decide +kernel
theorem dX9_torn_6 : decode cX9_torn 6 = .ok (.iconst 0, 1) := by decide +kernel
theorem dX9_torn_7 : decode cX9_torn 7 = .ok (.putfield 97, 3) := by decide +kernel
theorem dX9_torn_10 : decode cX9_torn 10 = .ok (.iload_n 1, 1) := by decide +kernel
theorem dX9_torn_11 : decode cX9_torn 11 = .ok (.ireturn, 1) := by decide +kernel
theorem dX9_readsLand_0 : decode cX9_readsLand 0 = .ok (.aload_n 0, 1) := by decide +kernel
theorem dX9_readsLand_1 : decode cX9_readsLand 1 = .ok (.iconst 0, 1) := by decide +kernel
theorem dX9_readsLand_2 : decode cX9_readsLand 2 = .ok (.putfield 94, 3) := by decide +kernel
theorem dX9_readsLand_5 : decode cX9_readsLand 5 = .ok (.aload_n 0, 1) := by decide +kernel
theorem dX9_readsLand_6 : decode cX9_readsLand 6 = .ok (.iconst 0, 1) := by decide +kernel
theorem dX9_readsLand_7 : decode cX9_readsLand 7 = .ok (.putfield 97, 3) := by decide +kernel
theorem dX9_readsLand_10 : decode cX9_readsLand 10 = .ok (.aload_n 0, 1) := by decide +kernel
theorem dX9_readsLand_11 : decode cX9_readsLand 11 = .ok (.getfield 25, 3) := by decide +kernel
theorem dX9_readsLand_14 : decode cX9_readsLand 14 = .ok (.iconst 0, 1) := by decide +kernel
theorem dX9_readsLand_15 : decode cX9_readsLand 15 = .ok (.iaload, 1) := by decide +kernel
theorem dX9_readsLand_16 : decode cX9_readsLand 16 = .ok (.istore_n 1, 1) := by decide +kernel
theorem dX9_readsLand_17 : decode cX9_readsLand 17 = .ok (.iconst 0, 1) := by decide +kernel
theorem dX9_readsLand_18 : decode cX9_readsLand 18 = .ok (.istore_n 2, 1) := by decide +kernel
theorem dX9_readsLand_19 : decode cX9_readsLand 19 = .ok (.iconst 0, 1) := by decide +kernel
theorem dX9_readsLand_20 : decode cX9_readsLand 20 = .ok (.istore_n 3, 1) := by decide +kernel
theorem dX9_readsLand_21 : decode cX9_readsLand 21 = .ok (.iconst 0, 1) := by decide +kernel
theorem dX9_readsLand_22 : decode cX9_readsLand 22 = .ok (.istore 4, 2) := by decide +kernel
theorem dX9_readsLand_24 : decode cX9_readsLand 24 = .ok (.iload 4, 2) := by decide +kernel
theorem dX9_readsLand_26 : decode cX9_readsLand 26 = .ok (.iload_n 1, 1) := by decide +kernel
theorem dX9_readsLand_27 : decode cX9_readsLand 27 = .ok (.if_icmp .ge 135, 3) := by decide +kernel
theorem dX9_readsLand_30 : decode cX9_readsLand 30 = .ok (.aload_n 0, 1) := by decide +kernel
theorem dX9_readsLand_31 : decode cX9_readsLand 31 = .ok (.getfield 22, 3) := by decide +kernel
theorem dX9_readsLand_34 : decode cX9_readsLand 34 = .ok (.iload 4, 2) := by decide +kernel
theorem dX9_readsLand_36 : decode cX9_readsLand 36 = .ok (.iaload, 1) := by decide +kernel
theorem dX9_readsLand_37 : decode cX9_readsLand 37 = .ok (.istore 5, 2) := by decide +kernel
theorem dX9_readsLand_39 : decode cX9_readsLand 39 = .ok (.iload 5, 2) := by decide +kernel
theorem dX9_readsLand_41 : decode cX9_readsLand 41 = .ok (.bipush 59, 2) := by decide +kernel
theorem dX9_readsLand_43 : decode cX9_readsLand 43 = .ok (.if_icmp .ne 42, 3) := by decide +kernel
theorem dX9_readsLand_46 : decode cX9_readsLand 46 = .ok (.iload_n 3, 1) := by decide +kernel
theorem dX9_readsLand_47 : decode cX9_readsLand 47 = .ok (.ifCond .eq 18, 3) := by decide +kernel
theorem dX9_readsLand_50 : decode cX9_readsLand 50 = .ok (.aload_n 0, 1) := by decide +kernel
theorem dX9_readsLand_51 : decode cX9_readsLand 51 = .ok (.getfield 97, 3) := by decide +kernel
theorem dX9_readsLand_54 : decode cX9_readsLand 54 = .ok (.ifCond .le 18, 3) := by decide +kernel
theorem dX9_readsLand_57 : decode cX9_readsLand 57 = .ok (.iload_n 3, 1) := by decide +kernel
theorem dX9_readsLand_58 : decode cX9_readsLand 58 = .ok (.aload_n 0, 1) := by decide +kernel
theorem dX9_readsLand_59 : decode cX9_readsLand 59 = .ok (.getfield 97, 3) := by decide +kernel
theorem dX9_readsLand_62 : decode cX9_readsLand 62 = .ok (.if_icmp .ge 10, 3) := by decide +kernel
theorem dX9_readsLand_65 : decode cX9_readsLand 65 = .ok (.aload_n 0, 1) := by decide +kernel
theorem dX9_readsLand_66 : decode cX9_readsLand 66 = .ok (.iload 4, 2) := by decide +kernel
theorem dX9_readsLand_68 : decode cX9_readsLand 68 = .ok (.invokevirtual 100, 3) := by decide +kernel
theorem dX9_readsLand_71 : decode cX9_readsLand 71 = .ok (.ireturn, 1) := by decide +kernel
theorem dX9_readsLand_72 : decode cX9_readsLand 72 = .ok (.aload_n 0, 1) := by decide +kernel
theorem dX9_readsLand_73 : decode cX9_readsLand 73 = .ok (.iload_n 3, 1) := by decide +kernel
theorem dX9_readsLand_74 : decode cX9_readsLand 74 = .ok (.putfield 97, 3) := by decide +kernel
theorem dX9_readsLand_77 : decode cX9_readsLand 77 = .ok (.iconst 0, 1) := by decide +kernel
theorem dX9_readsLand_78 : decode cX9_readsLand 78 = .ok (.istore_n 3, 1) := by decide +kernel
theorem dX9_readsLand_79 : decode cX9_readsLand 79 = .ok (.iinc 2 1, 3) := by decide +kernel
theorem dX9_readsLand_82 : decode cX9_readsLand 82 = .ok (.goto 74, 3) := by decide +kernel
theorem dX9_readsLand_85 : decode cX9_readsLand 85 = .ok (.iload 5, 2) := by decide +kernel
theorem dX9_readsLand_87 : decode cX9_readsLand 87 = .ok (.invokestatic 103, 3) := by decide +kernel
theorem dX9_readsLand_90 : decode cX9_readsLand 90 = .ok (.istore 6, 2) := by decide +kernel
theorem dX9_readsLand_92 : decode cX9_readsLand 92 = .ok (.iload 6, 2) := by decide +kernel
theorem dX9_readsLand_94 : decode cX9_readsLand 94 = .ok (.bipush (-9), 2) := by decide +kernel
theorem dX9_readsLand_96 : decode cX9_readsLand 96 = .ok (.if_icmp .eq 29, 3) := by decide +kernel
theorem dX9_readsLand_99 : decode cX9_readsLand 99 = .ok (.iload_n 2, 1) := by decide +kernel
theorem dX9_readsLand_100 : decode cX9_readsLand 100 = .ok (.bipush 6, 2) := by decide +kernel
theorem dX9_readsLand_102 : decode cX9_readsLand 102 = .ok (.if_icmp .eq 23, 3) := by decide +kernel
theorem dX9_readsLand_105 : decode cX9_readsLand 105 = .ok (.iload_n 3, 1) := by decide +kernel
theorem dX9_readsLand_106 : decode cX9_readsLand 106 = .ok (.aload_n 0, 1) := by decide +kernel
theorem dX9_readsLand_107 : decode cX9_readsLand 107 = .ok (.getfield 97, 3) := by decide +kernel
theorem dX9_readsLand_110 : decode cX9_readsLand 110 = .ok (.ifCond .ne 8, 3) := by decide +kernel
theorem dX9_readsLand_113 : decode cX9_readsLand 113 = .ok (.bipush 6, 2) := by decide +kernel
theorem dX9_readsLand_115 : decode cX9_readsLand 115 = .ok (.goto 7, 3) := by decide +kernel
theorem dX9_readsLand_118 : decode cX9_readsLand 118 = .ok (.aload_n 0, 1) := by decide +kernel
theorem dX9_readsLand_119 : decode cX9_readsLand 119 = .ok (.getfield 97, 3) := by decide +kernel
theorem dX9_readsLand_122 : decode cX9_readsLand 122 = .ok (.if_icmp .ne 10, 3) := by decide +kernel
theorem dX9_readsLand_125 : decode cX9_readsLand 125 = .ok (.aload_n 0, 1) := by decide +kernel
theorem dX9_readsLand_126 : decode cX9_readsLand 126 = .ok (.iload 4, 2) := by decide +kernel
theorem dX9_readsLand_128 : decode cX9_readsLand 128 = .ok (.invokevirtual 100, 3) := by decide +kernel
theorem dX9_readsLand_131 : decode cX9_readsLand 131 = .ok (.ireturn, 1) := by decide +kernel
theorem dX9_readsLand_132 : decode cX9_readsLand 132 = .ok (.aload_n 0, 1) := by decide +kernel
theorem dX9_readsLand_133 : decode cX9_readsLand 133 = .ok (.getfield 28, 3) := by decide +kernel
theorem dX9_readsLand_136 : decode cX9_readsLand 136 = .ok (.aload_n 0, 1) := by decide +kernel
theorem dX9_readsLand_137 : decode cX9_readsLand 137 = .ok (.getfield 94, 3) := by decide +kernel
theorem dX9_readsLand_140 : decode cX9_readsLand 140 = .ok (.iload 6, 2) := by decide +kernel
theorem dX9_readsLand_142 : decode cX9_readsLand 142 = .ok (.iastore, 1) := by decide +kernel
theorem dX9_readsLand_143 : decode cX9_readsLand 143 = .ok (.aload_n 0, 1) := by decide +kernel
theorem dX9_readsLand_144 : decode cX9_readsLand 144 = .ok (.dup, 1) := by decide +kernel
theorem dX9_readsLand_145 : decode cX9_readsLand 145 = .ok (.getfield 94, 3) := by decide +kernel
theorem dX9_readsLand_148 : decode cX9_readsLand 148 = .ok (.iconst 1, 1) := by decide +kernel
theorem dX9_readsLand_149 : decode cX9_readsLand 149 = .ok (.iadd, 1) := by decide +kernel
theorem dX9_readsLand_150 : decode cX9_readsLand 150 = .ok (.putfield 94, 3) := by decide +kernel
theorem dX9_readsLand_153 : decode cX9_readsLand 153 = .ok (.iinc 3 1, 3) := by decide +kernel
theorem dX9_readsLand_156 : decode cX9_readsLand 156 = .ok (.iinc 4 1, 3) := by decide +kernel
theorem dX9_readsLand_159 : decode cX9_readsLand 159 = .ok (.goto (-135), 3) := by decide +kernel
theorem dX9_readsLand_162 : decode cX9_readsLand 162 = .ok (.iload_n 1, 1) := by decide +kernel
theorem dX9_readsLand_163 : decode cX9_readsLand 163 = .ok (.ifCond .le 21, 3) := by decide +kernel
theorem dX9_readsLand_166 : decode cX9_readsLand 166 = .ok (.iload_n 3, 1) := by decide +kernel
theorem dX9_readsLand_167 : decode cX9_readsLand 167 = .ok (.ifCond .eq 11, 3) := by decide +kernel
theorem dX9_readsLand_170 : decode cX9_readsLand 170 = .ok (.iload_n 3, 1) := by decide +kernel
theorem dX9_readsLand_171 : decode cX9_readsLand 171 = .ok (.aload_n 0, 1) := by decide +kernel
theorem dX9_readsLand_172 : decode cX9_readsLand 172 = .ok (.getfield 97, 3) := by decide +kernel
theorem dX9_readsLand_175 : decode cX9_readsLand 175 = .ok (.if_icmp .ge 9, 3) := by decide +kernel
theorem dX9_readsLand_178 : decode cX9_readsLand 178 = .ok (.aload_n 0, 1) := by decide +kernel
theorem dX9_readsLand_179 : decode cX9_readsLand 179 = .ok (.iload_n 1, 1) := by decide +kernel
theorem dX9_readsLand_180 : decode cX9_readsLand 180 = .ok (.invokevirtual 100, 3) := by decide +kernel
theorem dX9_readsLand_183 : decode cX9_readsLand 183 = .ok (.ireturn, 1) := by decide +kernel
theorem dX9_readsLand_184 : decode cX9_readsLand 184 = .ok (.aload_n 0, 1) := by decide +kernel
theorem dX9_readsLand_185 : decode cX9_readsLand 185 = .ok (.iload_n 1, 1) := by decide +kernel
theorem dX9_readsLand_186 : decode cX9_readsLand 186 = .ok (.ifCond .le 7, 3) := by decide +kernel
theorem dX9_readsLand_189 : decode cX9_readsLand 189 = .ok (.iload_n 3, 1) := by decide +kernel
theorem dX9_readsLand_190 : decode cX9_readsLand 190 = .ok (.goto 4, 3) := by decide +kernel
theorem dX9_readsLand_193 : decode cX9_readsLand 193 = .ok (.iconst 0, 1) := by decide +kernel
theorem dX9_readsLand_194 : decode cX9_readsLand 194 = .ok (.putfield 97, 3) := by decide +kernel
theorem dX9_readsLand_197 : decode cX9_readsLand 197 = .ok (.iconst (-1), 1) := by decide +kernel
theorem dX9_readsLand_198 : decode cX9_readsLand 198 = .ok (.ireturn, 1) := by decide +kernel
theorem dX9_readsHouses_0 : decode cX9_readsHouses 0 = .ok (.aload_n 0, 1) := by decide +kernel
theorem dX9_readsHouses_1 : decode cX9_readsHouses 1 = .ok (.iconst 0, 1) := by decide +kernel
theorem dX9_readsHouses_2 : decode cX9_readsHouses 2 = .ok (.putfield 106, 3) := by decide +kernel
theorem dX9_readsHouses_5 : decode cX9_readsHouses 5 = .ok (.aload_n 0, 1) := by decide +kernel
theorem dX9_readsHouses_6 : decode cX9_readsHouses 6 = .ok (.getfield 25, 3) := by decide +kernel
theorem dX9_readsHouses_9 : decode cX9_readsHouses 9 = .ok (.iconst 1, 1) := by decide +kernel
theorem dX9_readsHouses_10 : decode cX9_readsHouses 10 = .ok (.iaload, 1) := by decide +kernel
theorem dX9_readsHouses_11 : decode cX9_readsHouses 11 = .ok (.istore_n 1, 1) := by decide +kernel
theorem dX9_readsHouses_12 : decode cX9_readsHouses 12 = .ok (.iconst 0, 1) := by decide +kernel
theorem dX9_readsHouses_13 : decode cX9_readsHouses 13 = .ok (.istore_n 2, 1) := by decide +kernel
theorem dX9_readsHouses_14 : decode cX9_readsHouses 14 = .ok (.iload_n 2, 1) := by decide +kernel
theorem dX9_readsHouses_15 : decode cX9_readsHouses 15 = .ok (.iload_n 1, 1) := by decide +kernel
theorem dX9_readsHouses_16 : decode cX9_readsHouses 16 = .ok (.if_icmp .ge 161, 3) := by decide +kernel
theorem dX9_readsHouses_19 : decode cX9_readsHouses 19 = .ok (.aload_n 0, 1) := by decide +kernel
theorem dX9_readsHouses_20 : decode cX9_readsHouses 20 = .ok (.getfield 22, 3) := by decide +kernel
theorem dX9_readsHouses_23 : decode cX9_readsHouses 23 = .ok (.bipush 42, 2) := by decide +kernel
theorem dX9_readsHouses_25 : decode cX9_readsHouses 25 = .ok (.iload_n 2, 1) := by decide +kernel
theorem dX9_readsHouses_26 : decode cX9_readsHouses 26 = .ok (.iadd, 1) := by decide +kernel
theorem dX9_readsHouses_27 : decode cX9_readsHouses 27 = .ok (.iaload, 1) := by decide +kernel
theorem dX9_readsHouses_28 : decode cX9_readsHouses 28 = .ok (.istore_n 3, 1) := by decide +kernel
theorem dX9_readsHouses_29 : decode cX9_readsHouses 29 = .ok (.iload_n 2, 1) := by decide +kernel
theorem dX9_readsHouses_30 : decode cX9_readsHouses 30 = .ok (.iconst 4, 1) := by decide +kernel
theorem dX9_readsHouses_31 : decode cX9_readsHouses 31 = .ok (.irem, 1) := by decide +kernel
theorem dX9_readsHouses_32 : decode cX9_readsHouses 32 = .ok (.istore 4, 2) := by decide +kernel
theorem dX9_readsHouses_34 : decode cX9_readsHouses 34 = .ok (.iload 4, 2) := by decide +kernel
theorem dX9_readsHouses_36 : decode cX9_readsHouses 36 = .ok (.iconst 3, 1) := by decide +kernel
theorem dX9_readsHouses_37 : decode cX9_readsHouses 37 = .ok (.if_icmp .ne 17, 3) := by decide +kernel
theorem dX9_readsHouses_40 : decode cX9_readsHouses 40 = .ok (.iload_n 3, 1) := by decide +kernel
theorem dX9_readsHouses_41 : decode cX9_readsHouses 41 = .ok (.bipush 59, 2) := by decide +kernel
theorem dX9_readsHouses_43 : decode cX9_readsHouses 43 = .ok (.if_icmp .ne 7, 3) := by decide +kernel
theorem dX9_readsHouses_46 : decode cX9_readsHouses 46 = .ok (.iconst 1, 1) := by decide +kernel
theorem dX9_readsHouses_47 : decode cX9_readsHouses 47 = .ok (.goto 29, 3) := by decide +kernel
theorem dX9_readsHouses_50 : decode cX9_readsHouses 50 = .ok (.iconst 0, 1) := by decide +kernel
theorem dX9_readsHouses_51 : decode cX9_readsHouses 51 = .ok (.goto 25, 3) := by decide +kernel
theorem dX9_readsHouses_54 : decode cX9_readsHouses 54 = .ok (.iload_n 3, 1) := by decide +kernel
theorem dX9_readsHouses_55 : decode cX9_readsHouses 55 = .ok (.i2l, 1) := by decide +kernel
theorem dX9_readsHouses_56 : decode cX9_readsHouses 56 = .ok (.ldc2_w 109, 3) := by decide +kernel
theorem dX9_readsHouses_59 : decode cX9_readsHouses 59 = .ok (.iload 4, 2) := by decide +kernel
theorem dX9_readsHouses_61 : decode cX9_readsHouses 61 = .ok (.ifCond .ne 9, 3) := by decide +kernel
theorem dX9_readsHouses_64 : decode cX9_readsHouses 64 = .ok (.ldc2_w 111, 3) := by decide +kernel
theorem dX9_readsHouses_67 : decode cX9_readsHouses 67 = .ok (.goto 6, 3) := by decide +kernel
theorem dX9_readsHouses_70 : decode cX9_readsHouses 70 = .ok (.ldc2_w 113, 3) := by decide +kernel
theorem dX9_readsHouses_73 : decode cX9_readsHouses 73 = .ok (.invokestatic 60, 3) := by decide +kernel
theorem dX9_readsHouses_76 : decode cX9_readsHouses 76 = .ok (.istore 5, 2) := by decide +kernel
theorem dX9_readsHouses_78 : decode cX9_readsHouses 78 = .ok (.iload 5, 2) := by decide +kernel
theorem dX9_readsHouses_80 : decode cX9_readsHouses 80 = .ok (.ifCond .ne 10, 3) := by decide +kernel
theorem dX9_readsHouses_83 : decode cX9_readsHouses 83 = .ok (.aload_n 0, 1) := by decide +kernel
theorem dX9_readsHouses_84 : decode cX9_readsHouses 84 = .ok (.iconst 0, 1) := by decide +kernel
theorem dX9_readsHouses_85 : decode cX9_readsHouses 85 = .ok (.putfield 106, 3) := by decide +kernel
theorem dX9_readsHouses_88 : decode cX9_readsHouses 88 = .ok (.iload_n 2, 1) := by decide +kernel
theorem dX9_readsHouses_89 : decode cX9_readsHouses 89 = .ok (.ireturn, 1) := by decide +kernel
theorem dX9_readsHouses_90 : decode cX9_readsHouses 90 = .ok (.iconst 2, 1) := by decide +kernel
theorem dX9_readsHouses_91 : decode cX9_readsHouses 91 = .ok (.iload_n 2, 1) := by decide +kernel
theorem dX9_readsHouses_92 : decode cX9_readsHouses 92 = .ok (.iconst 4, 1) := by decide +kernel
theorem dX9_readsHouses_93 : decode cX9_readsHouses 93 = .ok (.idiv, 1) := by decide +kernel
theorem dX9_readsHouses_94 : decode cX9_readsHouses 94 = .ok (.imul, 1) := by decide +kernel
theorem dX9_readsHouses_95 : decode cX9_readsHouses 95 = .ok (.istore 6, 2) := by decide +kernel
theorem dX9_readsHouses_97 : decode cX9_readsHouses 97 = .ok (.iload 4, 2) := by decide +kernel
theorem dX9_readsHouses_99 : decode cX9_readsHouses 99 = .ok (.ifCond .ne 20, 3) := by decide +kernel
theorem dX9_readsHouses_102 : decode cX9_readsHouses 102 = .ok (.aload_n 0, 1) := by decide +kernel
theorem dX9_readsHouses_103 : decode cX9_readsHouses 103 = .ok (.getfield 31, 3) := by decide +kernel
theorem dX9_readsHouses_106 : decode cX9_readsHouses 106 = .ok (.iload 6, 2) := by decide +kernel
theorem dX9_readsHouses_108 : decode cX9_readsHouses 108 = .ok (.bipush 10, 2) := by decide +kernel
theorem dX9_readsHouses_110 : decode cX9_readsHouses 110 = .ok (.iload_n 3, 1) := by decide +kernel
theorem dX9_readsHouses_111 : decode cX9_readsHouses 111 = .ok (.bipush 48, 2) := by decide +kernel
theorem dX9_readsHouses_113 : decode cX9_readsHouses 113 = .ok (.isub, 1) := by decide +kernel
theorem dX9_readsHouses_114 : decode cX9_readsHouses 114 = .ok (.imul, 1) := by decide +kernel
theorem dX9_readsHouses_115 : decode cX9_readsHouses 115 = .ok (.iastore, 1) := by decide +kernel
theorem dX9_readsHouses_116 : decode cX9_readsHouses 116 = .ok (.goto 55, 3) := by decide +kernel
theorem dX9_readsHouses_119 : decode cX9_readsHouses 119 = .ok (.iload 4, 2) := by decide +kernel
theorem dX9_readsHouses_121 : decode cX9_readsHouses 121 = .ok (.iconst 1, 1) := by decide +kernel
theorem dX9_readsHouses_122 : decode cX9_readsHouses 122 = .ok (.if_icmp .ne 20, 3) := by decide +kernel
theorem dX9_readsHouses_125 : decode cX9_readsHouses 125 = .ok (.aload_n 0, 1) := by decide +kernel
theorem dX9_readsHouses_126 : decode cX9_readsHouses 126 = .ok (.getfield 31, 3) := by decide +kernel
theorem dX9_readsHouses_129 : decode cX9_readsHouses 129 = .ok (.iload 6, 2) := by decide +kernel
theorem dX9_readsHouses_131 : decode cX9_readsHouses 131 = .ok (.dup2, 1) := by decide +kernel
theorem dX9_readsHouses_132 : decode cX9_readsHouses 132 = .ok (.iaload, 1) := by decide +kernel
theorem dX9_readsHouses_133 : decode cX9_readsHouses 133 = .ok (.iload_n 3, 1) := by decide +kernel
theorem dX9_readsHouses_134 : decode cX9_readsHouses 134 = .ok (.bipush 48, 2) := by decide +kernel
theorem dX9_readsHouses_136 : decode cX9_readsHouses 136 = .ok (.isub, 1) := by decide +kernel
theorem dX9_readsHouses_137 : decode cX9_readsHouses 137 = .ok (.iadd, 1) := by decide +kernel
theorem dX9_readsHouses_138 : decode cX9_readsHouses 138 = .ok (.iastore, 1) := by decide +kernel
theorem dX9_readsHouses_139 : decode cX9_readsHouses 139 = .ok (.goto 32, 3) := by decide +kernel
theorem dX9_readsHouses_142 : decode cX9_readsHouses 142 = .ok (.iload 4, 2) := by decide +kernel
theorem dX9_readsHouses_144 : decode cX9_readsHouses 144 = .ok (.iconst 2, 1) := by decide +kernel
theorem dX9_readsHouses_145 : decode cX9_readsHouses 145 = .ok (.if_icmp .ne 26, 3) := by decide +kernel
theorem dX9_readsHouses_148 : decode cX9_readsHouses 148 = .ok (.aload_n 0, 1) := by decide +kernel
theorem dX9_readsHouses_149 : decode cX9_readsHouses 149 = .ok (.getfield 31, 3) := by decide +kernel
theorem dX9_readsHouses_152 : decode cX9_readsHouses 152 = .ok (.iload 6, 2) := by decide +kernel
theorem dX9_readsHouses_154 : decode cX9_readsHouses 154 = .ok (.iconst 1, 1) := by decide +kernel
theorem dX9_readsHouses_155 : decode cX9_readsHouses 155 = .ok (.iadd, 1) := by decide +kernel
theorem dX9_readsHouses_156 : decode cX9_readsHouses 156 = .ok (.iload_n 3, 1) := by decide +kernel
theorem dX9_readsHouses_157 : decode cX9_readsHouses 157 = .ok (.bipush 48, 2) := by decide +kernel
theorem dX9_readsHouses_159 : decode cX9_readsHouses 159 = .ok (.isub, 1) := by decide +kernel
theorem dX9_readsHouses_160 : decode cX9_readsHouses 160 = .ok (.iastore, 1) := by decide +kernel
theorem dX9_readsHouses_161 : decode cX9_readsHouses 161 = .ok (.aload_n 0, 1) := by decide +kernel
theorem dX9_readsHouses_162 : decode cX9_readsHouses 162 = .ok (.dup, 1) := by decide +kernel
theorem dX9_readsHouses_163 : decode cX9_readsHouses 163 = .ok (.getfield 106, 3) := by decide +kernel
theorem dX9_readsHouses_166 : decode cX9_readsHouses 166 = .ok (.iconst 1, 1) := by decide +kernel
theorem dX9_readsHouses_167 : decode cX9_readsHouses 167 = .ok (.iadd, 1) := by decide +kernel
theorem dX9_readsHouses_168 : decode cX9_readsHouses 168 = .ok (.putfield 106, 3) := by decide +kernel
theorem dX9_readsHouses_171 : decode cX9_readsHouses 171 = .ok (.iinc 2 1, 3) := by decide +kernel
theorem dX9_readsHouses_174 : decode cX9_readsHouses 174 = .ok (.goto (-160), 3) := by decide +kernel
theorem dX9_readsHouses_177 : decode cX9_readsHouses 177 = .ok (.iload_n 1, 1) := by decide +kernel
theorem dX9_readsHouses_178 : decode cX9_readsHouses 178 = .ok (.ifCond .le 17, 3) := by decide +kernel
theorem dX9_readsHouses_181 : decode cX9_readsHouses 181 = .ok (.iload_n 1, 1) := by decide +kernel
theorem dX9_readsHouses_182 : decode cX9_readsHouses 182 = .ok (.iconst 4, 1) := by decide +kernel
theorem dX9_readsHouses_183 : decode cX9_readsHouses 183 = .ok (.irem, 1) := by decide +kernel
theorem dX9_readsHouses_184 : decode cX9_readsHouses 184 = .ok (.iconst 3, 1) := by decide +kernel
theorem dX9_readsHouses_185 : decode cX9_readsHouses 185 = .ok (.if_icmp .eq 10, 3) := by decide +kernel
theorem dX9_readsHouses_188 : decode cX9_readsHouses 188 = .ok (.aload_n 0, 1) := by decide +kernel
theorem dX9_readsHouses_189 : decode cX9_readsHouses 189 = .ok (.iconst 0, 1) := by decide +kernel
theorem dX9_readsHouses_190 : decode cX9_readsHouses 190 = .ok (.putfield 106, 3) := by decide +kernel
theorem dX9_readsHouses_193 : decode cX9_readsHouses 193 = .ok (.iload_n 1, 1) := by decide +kernel
theorem dX9_readsHouses_194 : decode cX9_readsHouses 194 = .ok (.ireturn, 1) := by decide +kernel
theorem dX9_readsHouses_195 : decode cX9_readsHouses 195 = .ok (.iconst (-1), 1) := by decide +kernel
theorem dX9_readsHouses_196 : decode cX9_readsHouses 196 = .ok (.ireturn, 1) := by decide +kernel
theorem dX9_fault_0 : decode cX9_fault 0 = .ok (.iload_n 1, 1) := by decide +kernel
theorem dX9_fault_1 : decode cX9_fault 1 = .ok (.invokestatic 89, 3) := by decide +kernel
theorem dX9_fault_4 : decode cX9_fault 4 = .ok (.ifCond .ne 8, 3) := by decide +kernel
theorem dX9_fault_7 : decode cX9_fault 7 = .ok (.bipush (-2), 2) := by decide +kernel
theorem dX9_fault_9 : decode cX9_fault 9 = .ok (.goto 18, 3) := by decide +kernel
theorem dX9_fault_12 : decode cX9_fault 12 = .ok (.iload_n 1, 1) := by decide +kernel
theorem dX9_fault_13 : decode cX9_fault 13 = .ok (.ifCond .ne 10, 3) := by decide +kernel
theorem dX9_fault_16 : decode cX9_fault 16 = .ok (.aload_n 0, 1) := by decide +kernel
theorem dX9_fault_17 : decode cX9_fault 17 = .ok (.invokevirtual 115, 3) := by decide +kernel
theorem dX9_fault_20 : decode cX9_fault 20 = .ok (.goto 7, 3) := by decide +kernel
theorem dX9_fault_23 : decode cX9_fault 23 = .ok (.aload_n 0, 1) := by decide +kernel
theorem dX9_fault_24 : decode cX9_fault 24 = .ok (.invokevirtual 119, 3) := by decide +kernel
theorem dX9_fault_27 : decode cX9_fault 27 = .ok (.ireturn, 1) := by decide +kernel
theorem dX9_isCell_0 : decode cX9_isCell 0 = .ok (.iload_n 1, 1) := by decide +kernel
theorem dX9_isCell_1 : decode cX9_isCell 1 = .ok (.i2l, 1) := by decide +kernel
theorem dX9_isCell_2 : decode cX9_isCell 2 = .ok (.lconst 0, 1) := by decide +kernel
theorem dX9_isCell_3 : decode cX9_isCell 3 = .ok (.aload_n 0, 1) := by decide +kernel
theorem dX9_isCell_4 : decode cX9_isCell 4 = .ok (.getfield 94, 3) := by decide +kernel
theorem dX9_isCell_7 : decode cX9_isCell 7 = .ok (.iconst 1, 1) := by decide +kernel
theorem dX9_isCell_8 : decode cX9_isCell 8 = .ok (.isub, 1) := by decide +kernel
theorem dX9_isCell_9 : decode cX9_isCell 9 = .ok (.i2l, 1) := by decide +kernel
theorem dX9_isCell_10 : decode cX9_isCell 10 = .ok (.invokestatic 60, 3) := by decide +kernel
theorem dX9_isCell_13 : decode cX9_isCell 13 = .ok (.ireturn, 1) := by decide +kernel
theorem dX9_isHouse_0 : decode cX9_isHouse 0 = .ok (.iload_n 1, 1) := by decide +kernel
theorem dX9_isHouse_1 : decode cX9_isHouse 1 = .ok (.i2l, 1) := by decide +kernel
theorem dX9_isHouse_2 : decode cX9_isHouse 2 = .ok (.lconst 0, 1) := by decide +kernel
theorem dX9_isHouse_3 : decode cX9_isHouse 3 = .ok (.aload_n 0, 1) := by decide +kernel
theorem dX9_isHouse_4 : decode cX9_isHouse 4 = .ok (.getfield 106, 3) := by decide +kernel
theorem dX9_isHouse_7 : decode cX9_isHouse 7 = .ok (.iconst 1, 1) := by decide +kernel
theorem dX9_isHouse_8 : decode cX9_isHouse 8 = .ok (.isub, 1) := by decide +kernel
theorem dX9_isHouse_9 : decode cX9_isHouse 9 = .ok (.i2l, 1) := by decide +kernel
theorem dX9_isHouse_10 : decode cX9_isHouse 10 = .ok (.invokestatic 60, 3) := by decide +kernel
theorem dX9_isHouse_13 : decode cX9_isHouse 13 = .ok (.ireturn, 1) := by decide +kernel
theorem dX9_isNight_0 : decode cX9_isNight 0 = .ok (.iload_n 0, 1) := by decide +kernel
theorem dX9_isNight_1 : decode cX9_isNight 1 = .ok (.i2l, 1) := by decide +kernel
theorem dX9_isNight_2 : decode cX9_isNight 2 = .ok (.lconst 0, 1) := by decide +kernel
theorem dX9_isNight_3 : decode cX9_isNight 3 = .ok (.ldc2_w 122, 3) := by decide +kernel
theorem dX9_isNight_6 : decode cX9_isNight 6 = .ok (.invokestatic 60, 3) := by decide +kernel
theorem dX9_isNight_9 : decode cX9_isNight 9 = .ok (.ireturn, 1) := by decide +kernel
theorem dX9_cell_0 : decode cX9_cell 0 = .ok (.aload_n 0, 1) := by decide +kernel
theorem dX9_cell_1 : decode cX9_cell 1 = .ok (.invokevirtual 115, 3) := by decide +kernel
theorem dX9_cell_4 : decode cX9_cell 4 = .ok (.pop, 1) := by decide +kernel
theorem dX9_cell_5 : decode cX9_cell 5 = .ok (.iload_n 1, 1) := by decide +kernel
theorem dX9_cell_6 : decode cX9_cell 6 = .ok (.i2l, 1) := by decide +kernel
theorem dX9_cell_7 : decode cX9_cell 7 = .ok (.lconst 0, 1) := by decide +kernel
theorem dX9_cell_8 : decode cX9_cell 8 = .ok (.ldc2_w 124, 3) := by decide +kernel
theorem dX9_cell_11 : decode cX9_cell 11 = .ok (.invokestatic 60, 3) := by decide +kernel
theorem dX9_cell_14 : decode cX9_cell 14 = .ok (.ifCond .ne 8, 3) := by decide +kernel
theorem dX9_cell_17 : decode cX9_cell 17 = .ok (.bipush (-2), 2) := by decide +kernel
theorem dX9_cell_19 : decode cX9_cell 19 = .ok (.goto 21, 3) := by decide +kernel
theorem dX9_cell_22 : decode cX9_cell 22 = .ok (.iload_n 1, 1) := by decide +kernel
theorem dX9_cell_23 : decode cX9_cell 23 = .ok (.aload_n 0, 1) := by decide +kernel
theorem dX9_cell_24 : decode cX9_cell 24 = .ok (.getfield 94, 3) := by decide +kernel
theorem dX9_cell_27 : decode cX9_cell 27 = .ok (.if_icmp .ge 12, 3) := by decide +kernel
theorem dX9_cell_30 : decode cX9_cell 30 = .ok (.aload_n 0, 1) := by decide +kernel
theorem dX9_cell_31 : decode cX9_cell 31 = .ok (.getfield 28, 3) := by decide +kernel
theorem dX9_cell_34 : decode cX9_cell 34 = .ok (.iload_n 1, 1) := by decide +kernel
theorem dX9_cell_35 : decode cX9_cell 35 = .ok (.iaload, 1) := by decide +kernel
theorem dX9_cell_36 : decode cX9_cell 36 = .ok (.goto 4, 3) := by decide +kernel
theorem dX9_cell_39 : decode cX9_cell 39 = .ok (.iconst (-1), 1) := by decide +kernel
theorem dX9_cell_40 : decode cX9_cell 40 = .ok (.ireturn, 1) := by decide +kernel
theorem dX9_house_0 : decode cX9_house 0 = .ok (.aload_n 0, 1) := by decide +kernel
theorem dX9_house_1 : decode cX9_house 1 = .ok (.invokevirtual 119, 3) := by decide +kernel
theorem dX9_house_4 : decode cX9_house 4 = .ok (.pop, 1) := by decide +kernel
theorem dX9_house_5 : decode cX9_house 5 = .ok (.aload_n 0, 1) := by decide +kernel
theorem dX9_house_6 : decode cX9_house 6 = .ok (.iload_n 1, 1) := by decide +kernel
theorem dX9_house_7 : decode cX9_house 7 = .ok (.invokevirtual 126, 3) := by decide +kernel
theorem dX9_house_10 : decode cX9_house 10 = .ok (.ifCond .eq 23, 3) := by decide +kernel
theorem dX9_house_13 : decode cX9_house 13 = .ok (.iload_n 2, 1) := by decide +kernel
theorem dX9_house_14 : decode cX9_house 14 = .ok (.invokestatic 89, 3) := by decide +kernel
theorem dX9_house_17 : decode cX9_house 17 = .ok (.ifCond .eq 16, 3) := by decide +kernel
theorem dX9_house_20 : decode cX9_house 20 = .ok (.aload_n 0, 1) := by decide +kernel
theorem dX9_house_21 : decode cX9_house 21 = .ok (.getfield 31, 3) := by decide +kernel
theorem dX9_house_24 : decode cX9_house 24 = .ok (.iconst 2, 1) := by decide +kernel
theorem dX9_house_25 : decode cX9_house 25 = .ok (.iload_n 1, 1) := by decide +kernel
theorem dX9_house_26 : decode cX9_house 26 = .ok (.imul, 1) := by decide +kernel
theorem dX9_house_27 : decode cX9_house 27 = .ok (.iload_n 2, 1) := by decide +kernel
theorem dX9_house_28 : decode cX9_house 28 = .ok (.iadd, 1) := by decide +kernel
theorem dX9_house_29 : decode cX9_house 29 = .ok (.iaload, 1) := by decide +kernel
theorem dX9_house_30 : decode cX9_house 30 = .ok (.goto 5, 3) := by decide +kernel
theorem dX9_house_33 : decode cX9_house 33 = .ok (.bipush (-2), 2) := by decide +kernel
theorem dX9_house_35 : decode cX9_house 35 = .ok (.ireturn, 1) := by decide +kernel
theorem dX9_set_0 : decode cX9_set 0 = .ok (.iload_n 1, 1) := by decide +kernel
theorem dX9_set_1 : decode cX9_set 1 = .ok (.invokestatic 89, 3) := by decide +kernel
theorem dX9_set_4 : decode cX9_set 4 = .ok (.ifCond .eq 25, 3) := by decide +kernel
theorem dX9_set_7 : decode cX9_set 7 = .ok (.iload_n 2, 1) := by decide +kernel
theorem dX9_set_8 : decode cX9_set 8 = .ok (.i2l, 1) := by decide +kernel
theorem dX9_set_9 : decode cX9_set 9 = .ok (.lconst 0, 1) := by decide +kernel
theorem dX9_set_10 : decode cX9_set 10 = .ok (.iload_n 1, 1) := by decide +kernel
theorem dX9_set_11 : decode cX9_set 11 = .ok (.ifCond .ne 9, 3) := by decide +kernel
theorem dX9_set_14 : decode cX9_set 14 = .ok (.ldc2_w 129, 3) := by decide +kernel
theorem dX9_set_17 : decode cX9_set 17 = .ok (.goto 6, 3) := by decide +kernel
theorem dX9_set_20 : decode cX9_set 20 = .ok (.ldc2_w 131, 3) := by decide +kernel
theorem dX9_set_23 : decode cX9_set 23 = .ok (.invokestatic 60, 3) := by decide +kernel
theorem dX9_set_26 : decode cX9_set 26 = .ok (.ifCond .ne 6, 3) := by decide +kernel
theorem dX9_set_29 : decode cX9_set 29 = .ok (.bipush (-2), 2) := by decide +kernel
theorem dX9_set_31 : decode cX9_set 31 = .ok (.ireturn, 1) := by decide +kernel
theorem dX9_set_32 : decode cX9_set 32 = .ok (.aload_n 0, 1) := by decide +kernel
theorem dX9_set_33 : decode cX9_set 33 = .ok (.getfield 34, 3) := by decide +kernel
theorem dX9_set_36 : decode cX9_set 36 = .ok (.iload_n 1, 1) := by decide +kernel
theorem dX9_set_37 : decode cX9_set 37 = .ok (.iaload, 1) := by decide +kernel
theorem dX9_set_38 : decode cX9_set 38 = .ok (.istore_n 3, 1) := by decide +kernel
theorem dX9_set_39 : decode cX9_set 39 = .ok (.aload_n 0, 1) := by decide +kernel
theorem dX9_set_40 : decode cX9_set 40 = .ok (.getfield 34, 3) := by decide +kernel
theorem dX9_set_43 : decode cX9_set 43 = .ok (.iload_n 1, 1) := by decide +kernel
theorem dX9_set_44 : decode cX9_set 44 = .ok (.iload_n 2, 1) := by decide +kernel
theorem dX9_set_45 : decode cX9_set 45 = .ok (.iastore, 1) := by decide +kernel
theorem dX9_set_46 : decode cX9_set 46 = .ok (.iload_n 3, 1) := by decide +kernel
theorem dX9_set_47 : decode cX9_set 47 = .ok (.ireturn, 1) := by decide +kernel
theorem dX9_puts_0 : decode cX9_puts 0 = .ok (.aload_n 0, 1) := by decide +kernel
theorem dX9_puts_1 : decode cX9_puts 1 = .ok (.getfield 37, 3) := by decide +kernel
theorem dX9_puts_4 : decode cX9_puts 4 = .ok (.iconst 2, 1) := by decide +kernel
theorem dX9_puts_5 : decode cX9_puts 5 = .ok (.aload_n 0, 1) := by decide +kernel
theorem dX9_puts_6 : decode cX9_puts 6 = .ok (.getfield 133, 3) := by decide +kernel
theorem dX9_puts_9 : decode cX9_puts 9 = .ok (.imul, 1) := by decide +kernel
theorem dX9_puts_10 : decode cX9_puts 10 = .ok (.iload_n 1, 1) := by decide +kernel
theorem dX9_puts_11 : decode cX9_puts 11 = .ok (.iastore, 1) := by decide +kernel
theorem dX9_puts_12 : decode cX9_puts 12 = .ok (.aload_n 0, 1) := by decide +kernel
theorem dX9_puts_13 : decode cX9_puts 13 = .ok (.getfield 37, 3) := by decide +kernel
theorem dX9_puts_16 : decode cX9_puts 16 = .ok (.iconst 2, 1) := by decide +kernel
theorem dX9_puts_17 : decode cX9_puts 17 = .ok (.aload_n 0, 1) := by decide +kernel
theorem dX9_puts_18 : decode cX9_puts 18 = .ok (.getfield 133, 3) := by decide +kernel
theorem dX9_puts_21 : decode cX9_puts 21 = .ok (.imul, 1) := by decide +kernel
theorem dX9_puts_22 : decode cX9_puts 22 = .ok (.iconst 1, 1) := by decide +kernel
theorem dX9_puts_23 : decode cX9_puts 23 = .ok (.iadd, 1) := by decide +kernel
theorem dX9_puts_24 : decode cX9_puts 24 = .ok (.iload_n 2, 1) := by decide +kernel
theorem dX9_puts_25 : decode cX9_puts 25 = .ok (.iastore, 1) := by decide +kernel
theorem dX9_puts_26 : decode cX9_puts 26 = .ok (.aload_n 0, 1) := by decide +kernel
theorem dX9_puts_27 : decode cX9_puts 27 = .ok (.dup, 1) := by decide +kernel
theorem dX9_puts_28 : decode cX9_puts 28 = .ok (.getfield 133, 3) := by decide +kernel
theorem dX9_puts_31 : decode cX9_puts 31 = .ok (.iconst 1, 1) := by decide +kernel
theorem dX9_puts_32 : decode cX9_puts 32 = .ok (.iadd, 1) := by decide +kernel
theorem dX9_puts_33 : decode cX9_puts 33 = .ok (.putfield 133, 3) := by decide +kernel
theorem dX9_puts_36 : decode cX9_puts 36 = .ok (.return_, 1) := by decide +kernel
theorem dX9_bowl_0 : decode cX9_bowl 0 = .ok (.iload_n 1, 1) := by decide +kernel
theorem dX9_bowl_1 : decode cX9_bowl 1 = .ok (.invokestatic 136, 3) := by decide +kernel
theorem dX9_bowl_4 : decode cX9_bowl 4 = .ok (.ifCond .eq 15, 3) := by decide +kernel
theorem dX9_bowl_7 : decode cX9_bowl 7 = .ok (.iload_n 2, 1) := by decide +kernel
theorem dX9_bowl_8 : decode cX9_bowl 8 = .ok (.i2l, 1) := by decide +kernel
theorem dX9_bowl_9 : decode cX9_bowl 9 = .ok (.lconst 0, 1) := by decide +kernel
theorem dX9_bowl_10 : decode cX9_bowl 10 = .ok (.ldc2_w 124, 3) := by decide +kernel
theorem dX9_bowl_13 : decode cX9_bowl 13 = .ok (.invokestatic 60, 3) := by decide +kernel
theorem dX9_bowl_16 : decode cX9_bowl 16 = .ok (.ifCond .ne 6, 3) := by decide +kernel
theorem dX9_bowl_19 : decode cX9_bowl 19 = .ok (.bipush (-2), 2) := by decide +kernel
theorem dX9_bowl_21 : decode cX9_bowl 21 = .ok (.ireturn, 1) := by decide +kernel
theorem dX9_bowl_22 : decode cX9_bowl 22 = .ok (.aload_n 0, 1) := by decide +kernel
theorem dX9_bowl_23 : decode cX9_bowl 23 = .ok (.getfield 133, 3) := by decide +kernel
theorem dX9_bowl_26 : decode cX9_bowl 26 = .ok (.bipush 8, 2) := by decide +kernel
theorem dX9_bowl_28 : decode cX9_bowl 28 = .ok (.if_icmp .ne 6, 3) := by decide +kernel
theorem dX9_bowl_31 : decode cX9_bowl 31 = .ok (.bipush (-4), 2) := by decide +kernel
theorem dX9_bowl_33 : decode cX9_bowl 33 = .ok (.ireturn, 1) := by decide +kernel
theorem dX9_bowl_34 : decode cX9_bowl 34 = .ok (.aload_n 0, 1) := by decide +kernel
theorem dX9_bowl_35 : decode cX9_bowl 35 = .ok (.iload_n 1, 1) := by decide +kernel
theorem dX9_bowl_36 : decode cX9_bowl 36 = .ok (.iload_n 2, 1) := by decide +kernel
theorem dX9_bowl_37 : decode cX9_bowl 37 = .ok (.invokevirtual 139, 3) := by decide +kernel
theorem dX9_bowl_40 : decode cX9_bowl 40 = .ok (.aload_n 0, 1) := by decide +kernel
theorem dX9_bowl_41 : decode cX9_bowl 41 = .ok (.getfield 133, 3) := by decide +kernel
theorem dX9_bowl_44 : decode cX9_bowl 44 = .ok (.ireturn, 1) := by decide +kernel
theorem dX9_dog_0 : decode cX9_dog 0 = .ok (.iload_n 1, 1) := by decide +kernel
theorem dX9_dog_1 : decode cX9_dog 1 = .ok (.invokestatic 136, 3) := by decide +kernel
theorem dX9_dog_4 : decode cX9_dog 4 = .ok (.ifCond .eq 15, 3) := by decide +kernel
theorem dX9_dog_7 : decode cX9_dog 7 = .ok (.iload_n 2, 1) := by decide +kernel
theorem dX9_dog_8 : decode cX9_dog 8 = .ok (.i2l, 1) := by decide +kernel
theorem dX9_dog_9 : decode cX9_dog 9 = .ok (.lconst 0, 1) := by decide +kernel
theorem dX9_dog_10 : decode cX9_dog 10 = .ok (.ldc2_w 124, 3) := by decide +kernel
theorem dX9_dog_13 : decode cX9_dog 13 = .ok (.invokestatic 60, 3) := by decide +kernel
theorem dX9_dog_16 : decode cX9_dog 16 = .ok (.ifCond .ne 6, 3) := by decide +kernel
theorem dX9_dog_19 : decode cX9_dog 19 = .ok (.bipush (-2), 2) := by decide +kernel
theorem dX9_dog_21 : decode cX9_dog 21 = .ok (.ireturn, 1) := by decide +kernel
theorem dX9_dog_22 : decode cX9_dog 22 = .ok (.aload_n 0, 1) := by decide +kernel
theorem dX9_dog_23 : decode cX9_dog 23 = .ok (.getfield 143, 3) := by decide +kernel
theorem dX9_dog_26 : decode cX9_dog 26 = .ok (.bipush 8, 2) := by decide +kernel
theorem dX9_dog_28 : decode cX9_dog 28 = .ok (.if_icmp .ne 6, 3) := by decide +kernel
theorem dX9_dog_31 : decode cX9_dog 31 = .ok (.bipush (-4), 2) := by decide +kernel
theorem dX9_dog_33 : decode cX9_dog 33 = .ok (.ireturn, 1) := by decide +kernel
theorem dX9_dog_34 : decode cX9_dog 34 = .ok (.aload_n 0, 1) := by decide +kernel
theorem dX9_dog_35 : decode cX9_dog 35 = .ok (.getfield 40, 3) := by decide +kernel
theorem dX9_dog_38 : decode cX9_dog 38 = .ok (.iconst 2, 1) := by decide +kernel
theorem dX9_dog_39 : decode cX9_dog 39 = .ok (.aload_n 0, 1) := by decide +kernel
theorem dX9_dog_40 : decode cX9_dog 40 = .ok (.getfield 143, 3) := by decide +kernel
theorem dX9_dog_43 : decode cX9_dog 43 = .ok (.imul, 1) := by decide +kernel
theorem dX9_dog_44 : decode cX9_dog 44 = .ok (.iload_n 1, 1) := by decide +kernel
theorem dX9_dog_45 : decode cX9_dog 45 = .ok (.iastore, 1) := by decide +kernel
theorem dX9_dog_46 : decode cX9_dog 46 = .ok (.aload_n 0, 1) := by decide +kernel
theorem dX9_dog_47 : decode cX9_dog 47 = .ok (.getfield 40, 3) := by decide +kernel
theorem dX9_dog_50 : decode cX9_dog 50 = .ok (.iconst 2, 1) := by decide +kernel
theorem dX9_dog_51 : decode cX9_dog 51 = .ok (.aload_n 0, 1) := by decide +kernel
theorem dX9_dog_52 : decode cX9_dog 52 = .ok (.getfield 143, 3) := by decide +kernel
theorem dX9_dog_55 : decode cX9_dog 55 = .ok (.imul, 1) := by decide +kernel
theorem dX9_dog_56 : decode cX9_dog 56 = .ok (.iconst 1, 1) := by decide +kernel
theorem dX9_dog_57 : decode cX9_dog 57 = .ok (.iadd, 1) := by decide +kernel
theorem dX9_dog_58 : decode cX9_dog 58 = .ok (.iload_n 2, 1) := by decide +kernel
theorem dX9_dog_59 : decode cX9_dog 59 = .ok (.iastore, 1) := by decide +kernel
theorem dX9_dog_60 : decode cX9_dog 60 = .ok (.aload_n 0, 1) := by decide +kernel
theorem dX9_dog_61 : decode cX9_dog 61 = .ok (.dup, 1) := by decide +kernel
theorem dX9_dog_62 : decode cX9_dog 62 = .ok (.getfield 143, 3) := by decide +kernel
theorem dX9_dog_65 : decode cX9_dog 65 = .ok (.iconst 1, 1) := by decide +kernel
theorem dX9_dog_66 : decode cX9_dog 66 = .ok (.iadd, 1) := by decide +kernel
theorem dX9_dog_67 : decode cX9_dog 67 = .ok (.putfield 143, 3) := by decide +kernel
theorem dX9_dog_70 : decode cX9_dog 70 = .ok (.aload_n 0, 1) := by decide +kernel
theorem dX9_dog_71 : decode cX9_dog 71 = .ok (.getfield 143, 3) := by decide +kernel
theorem dX9_dog_74 : decode cX9_dog 74 = .ok (.ireturn, 1) := by decide +kernel
theorem dX9_back_0 : decode cX9_back 0 = .ok (.iload_n 1, 1) := by decide +kernel
theorem dX9_back_1 : decode cX9_back 1 = .ok (.invokestatic 89, 3) := by decide +kernel
theorem dX9_back_4 : decode cX9_back 4 = .ok (.ifCond .ne 6, 3) := by decide +kernel
theorem dX9_back_7 : decode cX9_back 7 = .ok (.bipush (-2), 2) := by decide +kernel
theorem dX9_back_9 : decode cX9_back 9 = .ok (.ireturn, 1) := by decide +kernel
theorem dX9_back_10 : decode cX9_back 10 = .ok (.iload_n 1, 1) := by decide +kernel
theorem dX9_back_11 : decode cX9_back 11 = .ok (.ifCond .ne 10, 3) := by decide +kernel
theorem dX9_back_14 : decode cX9_back 14 = .ok (.aload_n 0, 1) := by decide +kernel
theorem dX9_back_15 : decode cX9_back 15 = .ok (.getfield 133, 3) := by decide +kernel
theorem dX9_back_18 : decode cX9_back 18 = .ok (.goto 7, 3) := by decide +kernel
theorem dX9_back_21 : decode cX9_back 21 = .ok (.aload_n 0, 1) := by decide +kernel
theorem dX9_back_22 : decode cX9_back 22 = .ok (.getfield 143, 3) := by decide +kernel
theorem dX9_back_25 : decode cX9_back 25 = .ok (.istore_n 2, 1) := by decide +kernel
theorem dX9_back_26 : decode cX9_back 26 = .ok (.iload_n 2, 1) := by decide +kernel
theorem dX9_back_27 : decode cX9_back 27 = .ok (.ifCond .ne 6, 3) := by decide +kernel
theorem dX9_back_30 : decode cX9_back 30 = .ok (.bipush (-3), 2) := by decide +kernel
theorem dX9_back_32 : decode cX9_back 32 = .ok (.ireturn, 1) := by decide +kernel
theorem dX9_back_33 : decode cX9_back 33 = .ok (.aload_n 0, 1) := by decide +kernel
theorem dX9_back_34 : decode cX9_back 34 = .ok (.dup, 1) := by decide +kernel
theorem dX9_back_35 : decode cX9_back 35 = .ok (.getfield 133, 3) := by decide +kernel
theorem dX9_back_38 : decode cX9_back 38 = .ok (.iload_n 1, 1) := by decide +kernel
theorem dX9_back_39 : decode cX9_back 39 = .ok (.ifCond .ne 7, 3) := by decide +kernel
theorem dX9_back_42 : decode cX9_back 42 = .ok (.iconst 1, 1) := by decide +kernel
theorem dX9_back_43 : decode cX9_back 43 = .ok (.goto 4, 3) := by decide +kernel
theorem dX9_back_46 : decode cX9_back 46 = .ok (.iconst 0, 1) := by decide +kernel
theorem dX9_back_47 : decode cX9_back 47 = .ok (.isub, 1) := by decide +kernel
theorem dX9_back_48 : decode cX9_back 48 = .ok (.putfield 133, 3) := by decide +kernel
theorem dX9_back_51 : decode cX9_back 51 = .ok (.aload_n 0, 1) := by decide +kernel
theorem dX9_back_52 : decode cX9_back 52 = .ok (.dup, 1) := by decide +kernel
theorem dX9_back_53 : decode cX9_back 53 = .ok (.getfield 143, 3) := by decide +kernel
theorem dX9_back_56 : decode cX9_back 56 = .ok (.iload_n 1, 1) := by decide +kernel
theorem dX9_back_57 : decode cX9_back 57 = .ok (.isub, 1) := by decide +kernel
theorem dX9_back_58 : decode cX9_back 58 = .ok (.putfield 143, 3) := by decide +kernel
theorem dX9_back_61 : decode cX9_back 61 = .ok (.iload_n 2, 1) := by decide +kernel
theorem dX9_back_62 : decode cX9_back 62 = .ok (.iconst 1, 1) := by decide +kernel
theorem dX9_back_63 : decode cX9_back 63 = .ok (.isub, 1) := by decide +kernel
theorem dX9_back_64 : decode cX9_back 64 = .ok (.ireturn, 1) := by decide +kernel
theorem dX9_read_0 : decode cX9_read 0 = .ok (.iload_n 1, 1) := by decide +kernel
theorem dX9_read_1 : decode cX9_read 1 = .ok (.invokestatic 70, 3) := by decide +kernel
theorem dX9_read_4 : decode cX9_read 4 = .ok (.ifCond .ne 6, 3) := by decide +kernel
theorem dX9_read_7 : decode cX9_read 7 = .ok (.bipush (-2), 2) := by decide +kernel
theorem dX9_read_9 : decode cX9_read 9 = .ok (.ireturn, 1) := by decide +kernel
theorem dX9_read_10 : decode cX9_read 10 = .ok (.aload_n 0, 1) := by decide +kernel
theorem dX9_read_11 : decode cX9_read 11 = .ok (.getfield 7, 3) := by decide +kernel
theorem dX9_read_14 : decode cX9_read 14 = .ok (.iload_n 1, 1) := by decide +kernel
theorem dX9_read_15 : decode cX9_read 15 = .ok (.iaload, 1) := by decide +kernel
theorem dX9_read_16 : decode cX9_read 16 = .ok (.ifCond .ge 9, 3) := by decide +kernel
theorem dX9_read_19 : decode cX9_read 19 = .ok (.aload_n 0, 1) := by decide +kernel
theorem dX9_read_20 : decode cX9_read 20 = .ok (.iconst 1, 1) := by decide +kernel
theorem dX9_read_21 : decode cX9_read 21 = .ok (.invokevirtual 76, 3) := by decide +kernel
theorem dX9_read_24 : decode cX9_read 24 = .ok (.ireturn, 1) := by decide +kernel
theorem dX9_read_25 : decode cX9_read 25 = .ok (.iconst 0, 1) := by decide +kernel
theorem dX9_read_26 : decode cX9_read 26 = .ok (.istore_n 2, 1) := by decide +kernel
theorem dX9_read_27 : decode cX9_read 27 = .ok (.iconst 1, 1) := by decide +kernel
theorem dX9_read_28 : decode cX9_read 28 = .ok (.istore_n 3, 1) := by decide +kernel
theorem dX9_read_29 : decode cX9_read 29 = .ok (.iload_n 3, 1) := by decide +kernel
theorem dX9_read_30 : decode cX9_read 30 = .ok (.ifCond .eq 73, 3) := by decide +kernel
theorem dX9_read_33 : decode cX9_read 33 = .ok (.iconst 2, 1) := by decide +kernel
theorem dX9_read_34 : decode cX9_read 34 = .ok (.iload_n 2, 1) := by decide +kernel
theorem dX9_read_35 : decode cX9_read 35 = .ok (.imul, 1) := by decide +kernel
theorem dX9_read_36 : decode cX9_read 36 = .ok (.iconst 2, 1) := by decide +kernel
theorem dX9_read_37 : decode cX9_read 37 = .ok (.iadd, 1) := by decide +kernel
theorem dX9_read_38 : decode cX9_read 38 = .ok (.aload_n 0, 1) := by decide +kernel
theorem dX9_read_39 : decode cX9_read 39 = .ok (.getfield 13, 3) := by decide +kernel
theorem dX9_read_42 : decode cX9_read 42 = .ok (.iload_n 1, 1) := by decide +kernel
theorem dX9_read_43 : decode cX9_read 43 = .ok (.iaload, 1) := by decide +kernel
theorem dX9_read_44 : decode cX9_read 44 = .ok (.if_icmp .gt 59, 3) := by decide +kernel
theorem dX9_read_47 : decode cX9_read 47 = .ok (.aload_n 0, 1) := by decide +kernel
theorem dX9_read_48 : decode cX9_read 48 = .ok (.aload_n 0, 1) := by decide +kernel
theorem dX9_read_49 : decode cX9_read 49 = .ok (.getfield 16, 3) := by decide +kernel
theorem dX9_read_52 : decode cX9_read 52 = .ok (.bipush 60, 2) := by decide +kernel
theorem dX9_read_54 : decode cX9_read 54 = .ok (.iload_n 1, 1) := by decide +kernel
theorem dX9_read_55 : decode cX9_read 55 = .ok (.imul, 1) := by decide +kernel
theorem dX9_read_56 : decode cX9_read 56 = .ok (.iconst 2, 1) := by decide +kernel
theorem dX9_read_57 : decode cX9_read 57 = .ok (.iload_n 2, 1) := by decide +kernel
theorem dX9_read_58 : decode cX9_read 58 = .ok (.imul, 1) := by decide +kernel
theorem dX9_read_59 : decode cX9_read 59 = .ok (.iadd, 1) := by decide +kernel
theorem dX9_read_60 : decode cX9_read 60 = .ok (.iaload, 1) := by decide +kernel
theorem dX9_read_61 : decode cX9_read 61 = .ok (.aload_n 0, 1) := by decide +kernel
theorem dX9_read_62 : decode cX9_read 62 = .ok (.getfield 16, 3) := by decide +kernel
theorem dX9_read_65 : decode cX9_read 65 = .ok (.bipush 60, 2) := by decide +kernel
theorem dX9_read_67 : decode cX9_read 67 = .ok (.iload_n 1, 1) := by decide +kernel
theorem dX9_read_68 : decode cX9_read 68 = .ok (.imul, 1) := by decide +kernel
theorem dX9_read_69 : decode cX9_read 69 = .ok (.iconst 2, 1) := by decide +kernel
theorem dX9_read_70 : decode cX9_read 70 = .ok (.iload_n 2, 1) := by decide +kernel
theorem dX9_read_71 : decode cX9_read 71 = .ok (.imul, 1) := by decide +kernel
theorem dX9_read_72 : decode cX9_read 72 = .ok (.iadd, 1) := by decide +kernel
theorem dX9_read_73 : decode cX9_read 73 = .ok (.iconst 1, 1) := by decide +kernel
theorem dX9_read_74 : decode cX9_read 74 = .ok (.iadd, 1) := by decide +kernel
theorem dX9_read_75 : decode cX9_read 75 = .ok (.iaload, 1) := by decide +kernel
theorem dX9_read_76 : decode cX9_read 76 = .ok (.invokevirtual 146, 3) := by decide +kernel
theorem dX9_read_79 : decode cX9_read 79 = .ok (.ifCond .lt 7, 3) := by decide +kernel
theorem dX9_read_82 : decode cX9_read 82 = .ok (.iconst 1, 1) := by decide +kernel
theorem dX9_read_83 : decode cX9_read 83 = .ok (.goto 4, 3) := by decide +kernel
theorem dX9_read_86 : decode cX9_read 86 = .ok (.iconst 0, 1) := by decide +kernel
theorem dX9_read_87 : decode cX9_read 87 = .ok (.istore_n 3, 1) := by decide +kernel
theorem dX9_read_88 : decode cX9_read 88 = .ok (.iload_n 2, 1) := by decide +kernel
theorem dX9_read_89 : decode cX9_read 89 = .ok (.iload_n 3, 1) := by decide +kernel
theorem dX9_read_90 : decode cX9_read 90 = .ok (.ifCond .eq 7, 3) := by decide +kernel
theorem dX9_read_93 : decode cX9_read 93 = .ok (.iconst 1, 1) := by decide +kernel
theorem dX9_read_94 : decode cX9_read 94 = .ok (.goto 4, 3) := by decide +kernel
theorem dX9_read_97 : decode cX9_read 97 = .ok (.iconst 0, 1) := by decide +kernel
theorem dX9_read_98 : decode cX9_read 98 = .ok (.iadd, 1) := by decide +kernel
theorem dX9_read_99 : decode cX9_read 99 = .ok (.istore_n 2, 1) := by decide +kernel
theorem dX9_read_100 : decode cX9_read 100 = .ok (.goto (-71), 3) := by decide +kernel
theorem dX9_read_103 : decode cX9_read 103 = .ok (.iload_n 2, 1) := by decide +kernel
theorem dX9_read_104 : decode cX9_read 104 = .ok (.ireturn, 1) := by decide +kernel
theorem dX9_beside_0 : decode cX9_beside 0 = .ok (.iconst (-1), 1) := by decide +kernel
theorem dX9_beside_1 : decode cX9_beside 1 = .ok (.istore_n 3, 1) := by decide +kernel
theorem dX9_beside_2 : decode cX9_beside 2 = .ok (.iload_n 2, 1) := by decide +kernel
theorem dX9_beside_3 : decode cX9_beside 3 = .ok (.ifCond .ne 25, 3) := by decide +kernel
theorem dX9_beside_6 : decode cX9_beside 6 = .ok (.iload_n 1, 1) := by decide +kernel
theorem dX9_beside_7 : decode cX9_beside 7 = .ok (.iconst 1, 1) := by decide +kernel
theorem dX9_beside_8 : decode cX9_beside 8 = .ok (.iadd, 1) := by decide +kernel
theorem dX9_beside_9 : decode cX9_beside 9 = .ok (.aload_n 0, 1) := by decide +kernel
theorem dX9_beside_10 : decode cX9_beside 10 = .ok (.getfield 97, 3) := by decide +kernel
theorem dX9_beside_13 : decode cX9_beside 13 = .ok (.irem, 1) := by decide +kernel
theorem dX9_beside_14 : decode cX9_beside 14 = .ok (.ifCond .le 9, 3) := by decide +kernel
theorem dX9_beside_17 : decode cX9_beside 17 = .ok (.iload_n 1, 1) := by decide +kernel
theorem dX9_beside_18 : decode cX9_beside 18 = .ok (.iconst 1, 1) := by decide +kernel
theorem dX9_beside_19 : decode cX9_beside 19 = .ok (.iadd, 1) := by decide +kernel
theorem dX9_beside_20 : decode cX9_beside 20 = .ok (.goto 4, 3) := by decide +kernel
theorem dX9_beside_23 : decode cX9_beside 23 = .ok (.iconst (-1), 1) := by decide +kernel
theorem dX9_beside_24 : decode cX9_beside 24 = .ok (.istore_n 3, 1) := by decide +kernel
theorem dX9_beside_25 : decode cX9_beside 25 = .ok (.goto 79, 3) := by decide +kernel
