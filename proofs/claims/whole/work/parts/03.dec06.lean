theorem dX9_layOutOf_176 : decode cX9_layOutOf 176 = .ok (.ireturn, 1) := by decide +kernel
theorem dX9_layOutOf_177 : decode cX9_layOutOf 177 = .ok (.iinc 7 1, 3) := by decide +kernel
theorem dX9_layOutOf_180 : decode cX9_layOutOf 180 = .ok (.goto (-69), 3) := by decide +kernel
theorem dX9_layOutOf_183 : decode cX9_layOutOf 183 = .ok (.iinc 6 1, 3) := by decide +kernel
theorem dX9_layOutOf_186 : decode cX9_layOutOf 186 = .ok (.goto (-88), 3) := by decide +kernel
theorem dX9_layOutOf_189 : decode cX9_layOutOf 189 = .ok (.iconst (-1), 1) := by decide +kernel
theorem dX9_layOutOf_190 : decode cX9_layOutOf 190 = .ok (.ireturn, 1) := by decide +kernel
theorem dX9_layOut_0 : decode cX9_layOut 0 = .ok (.aload_n 0, 1) := by decide +kernel
theorem dX9_layOut_1 : decode cX9_layOut 1 = .ok (.invokevirtual 184, 3) := by decide +kernel
theorem dX9_layOut_4 : decode cX9_layOut 4 = .ok (.iload_n 1, 1) := by decide +kernel
theorem dX9_layOut_5 : decode cX9_layOut 5 = .ok (.invokestatic 136, 3) := by decide +kernel
theorem dX9_layOut_8 : decode cX9_layOut 8 = .ok (.ifCond .eq 48, 3) := by decide +kernel
theorem dX9_layOut_11 : decode cX9_layOut 11 = .ok (.aload_n 0, 1) := by decide +kernel
theorem dX9_layOut_12 : decode cX9_layOut 12 = .ok (.iload_n 2, 1) := by decide +kernel
theorem dX9_layOut_13 : decode cX9_layOut 13 = .ok (.invokevirtual 126, 3) := by decide +kernel
theorem dX9_layOut_16 : decode cX9_layOut 16 = .ok (.ifCond .eq 40, 3) := by decide +kernel
theorem dX9_layOut_19 : decode cX9_layOut 19 = .ok (.iload_n 3, 1) := by decide +kernel
theorem dX9_layOut_20 : decode cX9_layOut 20 = .ok (.i2l, 1) := by decide +kernel
theorem dX9_layOut_21 : decode cX9_layOut 21 = .ok (.lconst 0, 1) := by decide +kernel
theorem dX9_layOut_22 : decode cX9_layOut 22 = .ok (.ldc2_w 74, 3) := by decide +kernel
theorem dX9_layOut_25 : decode cX9_layOut 25 = .ok (.invokestatic 60, 3) := by decide +kernel
theorem dX9_layOut_28 : decode cX9_layOut 28 = .ok (.ifCond .eq 28, 3) := by decide +kernel
theorem dX9_layOut_31 : decode cX9_layOut 31 = .ok (.iload 4, 2) := by decide +kernel
theorem dX9_layOut_33 : decode cX9_layOut 33 = .ok (.i2l, 1) := by decide +kernel
theorem dX9_layOut_34 : decode cX9_layOut 34 = .ok (.ldc2_w 213, 3) := by decide +kernel
theorem dX9_layOut_37 : decode cX9_layOut 37 = .ok (.lconst 1, 1) := by decide +kernel
theorem dX9_layOut_38 : decode cX9_layOut 38 = .ok (.invokestatic 60, 3) := by decide +kernel
theorem dX9_layOut_41 : decode cX9_layOut 41 = .ok (.ifCond .eq 15, 3) := by decide +kernel
theorem dX9_layOut_44 : decode cX9_layOut 44 = .ok (.aload_n 0, 1) := by decide +kernel
theorem dX9_layOut_45 : decode cX9_layOut 45 = .ok (.iload_n 1, 1) := by decide +kernel
theorem dX9_layOut_46 : decode cX9_layOut 46 = .ok (.iload_n 2, 1) := by decide +kernel
theorem dX9_layOut_47 : decode cX9_layOut 47 = .ok (.iload_n 3, 1) := by decide +kernel
theorem dX9_layOut_48 : decode cX9_layOut 48 = .ok (.iload 4, 2) := by decide +kernel
theorem dX9_layOut_50 : decode cX9_layOut 50 = .ok (.invokevirtual 215, 3) := by decide +kernel
theorem dX9_layOut_53 : decode cX9_layOut 53 = .ok (.goto 5, 3) := by decide +kernel
theorem dX9_layOut_56 : decode cX9_layOut 56 = .ok (.bipush (-2), 2) := by decide +kernel
theorem dX9_layOut_58 : decode cX9_layOut 58 = .ok (.ireturn, 1) := by decide +kernel
theorem dX9_rakeOf_0 : decode cX9_rakeOf 0 = .ok (.iconst (-1), 1) := by decide +kernel
theorem dX9_rakeOf_1 : decode cX9_rakeOf 1 = .ok (.istore 4, 2) := by decide +kernel
theorem dX9_rakeOf_3 : decode cX9_rakeOf 3 = .ok (.aload_n 0, 1) := by decide +kernel
theorem dX9_rakeOf_4 : decode cX9_rakeOf 4 = .ok (.getfield 94, 3) := by decide +kernel
theorem dX9_rakeOf_7 : decode cX9_rakeOf 7 = .ok (.iconst 1, 1) := by decide +kernel
theorem dX9_rakeOf_8 : decode cX9_rakeOf 8 = .ok (.isub, 1) := by decide +kernel
theorem dX9_rakeOf_9 : decode cX9_rakeOf 9 = .ok (.istore 5, 2) := by decide +kernel
theorem dX9_rakeOf_11 : decode cX9_rakeOf 11 = .ok (.iload 5, 2) := by decide +kernel
theorem dX9_rakeOf_13 : decode cX9_rakeOf 13 = .ok (.ifCond .lt 54, 3) := by decide +kernel
theorem dX9_rakeOf_16 : decode cX9_rakeOf 16 = .ok (.aload_n 0, 1) := by decide +kernel
theorem dX9_rakeOf_17 : decode cX9_rakeOf 17 = .ok (.getfield 28, 3) := by decide +kernel
theorem dX9_rakeOf_20 : decode cX9_rakeOf 20 = .ok (.iload 5, 2) := by decide +kernel
theorem dX9_rakeOf_22 : decode cX9_rakeOf 22 = .ok (.iaload, 1) := by decide +kernel
theorem dX9_rakeOf_23 : decode cX9_rakeOf 23 = .ok (.ifCond .ne 38, 3) := by decide +kernel
theorem dX9_rakeOf_26 : decode cX9_rakeOf 26 = .ok (.aload_n 0, 1) := by decide +kernel
theorem dX9_rakeOf_27 : decode cX9_rakeOf 27 = .ok (.getfield 28, 3) := by decide +kernel
theorem dX9_rakeOf_30 : decode cX9_rakeOf 30 = .ok (.iload 5, 2) := by decide +kernel
theorem dX9_rakeOf_32 : decode cX9_rakeOf 32 = .ok (.iconst 2, 1) := by decide +kernel
theorem dX9_rakeOf_33 : decode cX9_rakeOf 33 = .ok (.iastore, 1) := by decide +kernel
theorem dX9_rakeOf_34 : decode cX9_rakeOf 34 = .ok (.aload_n 0, 1) := by decide +kernel
theorem dX9_rakeOf_35 : decode cX9_rakeOf 35 = .ok (.iload_n 1, 1) := by decide +kernel
theorem dX9_rakeOf_36 : decode cX9_rakeOf 36 = .ok (.iload_n 2, 1) := by decide +kernel
theorem dX9_rakeOf_37 : decode cX9_rakeOf 37 = .ok (.iload_n 3, 1) := by decide +kernel
theorem dX9_rakeOf_38 : decode cX9_rakeOf 38 = .ok (.invokevirtual 210, 3) := by decide +kernel
theorem dX9_rakeOf_41 : decode cX9_rakeOf 41 = .ok (.ifCond .eq 8, 3) := by decide +kernel
theorem dX9_rakeOf_44 : decode cX9_rakeOf 44 = .ok (.iload 5, 2) := by decide +kernel
theorem dX9_rakeOf_46 : decode cX9_rakeOf 46 = .ok (.goto 5, 3) := by decide +kernel
theorem dX9_rakeOf_49 : decode cX9_rakeOf 49 = .ok (.iload 4, 2) := by decide +kernel
theorem dX9_rakeOf_51 : decode cX9_rakeOf 51 = .ok (.istore 4, 2) := by decide +kernel
theorem dX9_rakeOf_53 : decode cX9_rakeOf 53 = .ok (.aload_n 0, 1) := by decide +kernel
theorem dX9_rakeOf_54 : decode cX9_rakeOf 54 = .ok (.getfield 28, 3) := by decide +kernel
theorem dX9_rakeOf_57 : decode cX9_rakeOf 57 = .ok (.iload 5, 2) := by decide +kernel
theorem dX9_rakeOf_59 : decode cX9_rakeOf 59 = .ok (.iconst 0, 1) := by decide +kernel
theorem dX9_rakeOf_60 : decode cX9_rakeOf 60 = .ok (.iastore, 1) := by decide +kernel
theorem dX9_rakeOf_61 : decode cX9_rakeOf 61 = .ok (.iinc 5 (-1), 3) := by decide +kernel
theorem dX9_rakeOf_64 : decode cX9_rakeOf 64 = .ok (.goto (-53), 3) := by decide +kernel
theorem dX9_rakeOf_67 : decode cX9_rakeOf 67 = .ok (.iload 4, 2) := by decide +kernel
theorem dX9_rakeOf_69 : decode cX9_rakeOf 69 = .ok (.ireturn, 1) := by decide +kernel
theorem dX9_rake_0 : decode cX9_rake 0 = .ok (.aload_n 0, 1) := by decide +kernel
theorem dX9_rake_1 : decode cX9_rake 1 = .ok (.invokevirtual 184, 3) := by decide +kernel
theorem dX9_rake_4 : decode cX9_rake 4 = .ok (.iload_n 1, 1) := by decide +kernel
theorem dX9_rake_5 : decode cX9_rake 5 = .ok (.invokestatic 136, 3) := by decide +kernel
theorem dX9_rake_8 : decode cX9_rake 8 = .ok (.ifCond .eq 33, 3) := by decide +kernel
theorem dX9_rake_11 : decode cX9_rake 11 = .ok (.aload_n 0, 1) := by decide +kernel
theorem dX9_rake_12 : decode cX9_rake 12 = .ok (.iload_n 2, 1) := by decide +kernel
theorem dX9_rake_13 : decode cX9_rake 13 = .ok (.invokevirtual 126, 3) := by decide +kernel
theorem dX9_rake_16 : decode cX9_rake 16 = .ok (.ifCond .eq 25, 3) := by decide +kernel
theorem dX9_rake_19 : decode cX9_rake 19 = .ok (.iload_n 3, 1) := by decide +kernel
theorem dX9_rake_20 : decode cX9_rake 20 = .ok (.i2l, 1) := by decide +kernel
theorem dX9_rake_21 : decode cX9_rake 21 = .ok (.lconst 0, 1) := by decide +kernel
theorem dX9_rake_22 : decode cX9_rake 22 = .ok (.ldc2_w 74, 3) := by decide +kernel
theorem dX9_rake_25 : decode cX9_rake 25 = .ok (.invokestatic 60, 3) := by decide +kernel
theorem dX9_rake_28 : decode cX9_rake 28 = .ok (.ifCond .eq 13, 3) := by decide +kernel
theorem dX9_rake_31 : decode cX9_rake 31 = .ok (.aload_n 0, 1) := by decide +kernel
theorem dX9_rake_32 : decode cX9_rake 32 = .ok (.iload_n 1, 1) := by decide +kernel
theorem dX9_rake_33 : decode cX9_rake 33 = .ok (.iload_n 2, 1) := by decide +kernel
theorem dX9_rake_34 : decode cX9_rake 34 = .ok (.iload_n 3, 1) := by decide +kernel
theorem dX9_rake_35 : decode cX9_rake 35 = .ok (.invokevirtual 219, 3) := by decide +kernel
theorem dX9_rake_38 : decode cX9_rake 38 = .ok (.goto 5, 3) := by decide +kernel
theorem dX9_rake_41 : decode cX9_rake 41 = .ok (.bipush (-2), 2) := by decide +kernel
theorem dX9_rake_43 : decode cX9_rake 43 = .ok (.ireturn, 1) := by decide +kernel
theorem dX9_isBuilt_0 : decode cX9_isBuilt 0 = .ok (.aload_n 0, 1) := by decide +kernel
theorem dX9_isBuilt_1 : decode cX9_isBuilt 1 = .ok (.getfield 28, 3) := by decide +kernel
theorem dX9_isBuilt_4 : decode cX9_isBuilt 4 = .ok (.iload_n 1, 1) := by decide +kernel
theorem dX9_isBuilt_5 : decode cX9_isBuilt 5 = .ok (.iaload, 1) := by decide +kernel
theorem dX9_isBuilt_6 : decode cX9_isBuilt 6 = .ok (.iconst 1, 1) := by decide +kernel
theorem dX9_isBuilt_7 : decode cX9_isBuilt 7 = .ok (.if_icmp .ne 7, 3) := by decide +kernel
theorem dX9_isBuilt_10 : decode cX9_isBuilt 10 = .ok (.iconst 1, 1) := by decide +kernel
theorem dX9_isBuilt_11 : decode cX9_isBuilt 11 = .ok (.goto 4, 3) := by decide +kernel
theorem dX9_isBuilt_14 : decode cX9_isBuilt 14 = .ok (.iconst 0, 1) := by decide +kernel
theorem dX9_isBuilt_15 : decode cX9_isBuilt 15 = .ok (.istore_n 2, 1) := by decide +kernel
theorem dX9_isBuilt_16 : decode cX9_isBuilt 16 = .ok (.iconst 0, 1) := by decide +kernel
theorem dX9_isBuilt_17 : decode cX9_isBuilt 17 = .ok (.istore_n 3, 1) := by decide +kernel
theorem dX9_isBuilt_18 : decode cX9_isBuilt 18 = .ok (.iload_n 3, 1) := by decide +kernel
theorem dX9_isBuilt_19 : decode cX9_isBuilt 19 = .ok (.aload_n 0, 1) := by decide +kernel
theorem dX9_isBuilt_20 : decode cX9_isBuilt 20 = .ok (.getfield 106, 3) := by decide +kernel
theorem dX9_isBuilt_23 : decode cX9_isBuilt 23 = .ok (.if_icmp .ge 31, 3) := by decide +kernel
theorem dX9_isBuilt_26 : decode cX9_isBuilt 26 = .ok (.iload_n 2, 1) := by decide +kernel
theorem dX9_isBuilt_27 : decode cX9_isBuilt 27 = .ok (.ifCond .ne 15, 3) := by decide +kernel
theorem dX9_isBuilt_30 : decode cX9_isBuilt 30 = .ok (.aload_n 0, 1) := by decide +kernel
theorem dX9_isBuilt_31 : decode cX9_isBuilt 31 = .ok (.getfield 31, 3) := by decide +kernel
theorem dX9_isBuilt_34 : decode cX9_isBuilt 34 = .ok (.iconst 2, 1) := by decide +kernel
theorem dX9_isBuilt_35 : decode cX9_isBuilt 35 = .ok (.iload_n 3, 1) := by decide +kernel
theorem dX9_isBuilt_36 : decode cX9_isBuilt 36 = .ok (.imul, 1) := by decide +kernel
theorem dX9_isBuilt_37 : decode cX9_isBuilt 37 = .ok (.iaload, 1) := by decide +kernel
theorem dX9_isBuilt_38 : decode cX9_isBuilt 38 = .ok (.iload_n 1, 1) := by decide +kernel
theorem dX9_isBuilt_39 : decode cX9_isBuilt 39 = .ok (.if_icmp .ne 7, 3) := by decide +kernel
theorem dX9_isBuilt_42 : decode cX9_isBuilt 42 = .ok (.iconst 1, 1) := by decide +kernel
theorem dX9_isBuilt_43 : decode cX9_isBuilt 43 = .ok (.goto 4, 3) := by decide +kernel
theorem dX9_isBuilt_46 : decode cX9_isBuilt 46 = .ok (.iconst 0, 1) := by decide +kernel
theorem dX9_isBuilt_47 : decode cX9_isBuilt 47 = .ok (.istore_n 2, 1) := by decide +kernel
theorem dX9_isBuilt_48 : decode cX9_isBuilt 48 = .ok (.iinc 3 1, 3) := by decide +kernel
theorem dX9_isBuilt_51 : decode cX9_isBuilt 51 = .ok (.goto (-33), 3) := by decide +kernel
theorem dX9_isBuilt_54 : decode cX9_isBuilt 54 = .ok (.iload_n 2, 1) := by decide +kernel
theorem dX9_isBuilt_55 : decode cX9_isBuilt 55 = .ok (.ireturn, 1) := by decide +kernel
theorem dX9_liveOf_0 : decode cX9_liveOf 0 = .ok (.aload_n 0, 1) := by decide +kernel
theorem dX9_liveOf_1 : decode cX9_liveOf 1 = .ok (.bipush 9, 2) := by decide +kernel
theorem dX9_liveOf_3 : decode cX9_liveOf 3 = .ok (.invokevirtual 178, 3) := by decide +kernel
theorem dX9_liveOf_6 : decode cX9_liveOf 6 = .ok (.iconst (-1), 1) := by decide +kernel
theorem dX9_liveOf_7 : decode cX9_liveOf 7 = .ok (.istore_n 3, 1) := by decide +kernel
theorem dX9_liveOf_8 : decode cX9_liveOf 8 = .ok (.iconst (-1), 1) := by decide +kernel
theorem dX9_liveOf_9 : decode cX9_liveOf 9 = .ok (.istore 4, 2) := by decide +kernel
theorem dX9_liveOf_11 : decode cX9_liveOf 11 = .ok (.iconst 0, 1) := by decide +kernel
theorem dX9_liveOf_12 : decode cX9_liveOf 12 = .ok (.istore 5, 2) := by decide +kernel
theorem dX9_liveOf_14 : decode cX9_liveOf 14 = .ok (.iload 5, 2) := by decide +kernel
theorem dX9_liveOf_16 : decode cX9_liveOf 16 = .ok (.aload_n 0, 1) := by decide +kernel
theorem dX9_liveOf_17 : decode cX9_liveOf 17 = .ok (.getfield 94, 3) := by decide +kernel
theorem dX9_liveOf_20 : decode cX9_liveOf 20 = .ok (.if_icmp .ge 99, 3) := by decide +kernel
theorem dX9_liveOf_23 : decode cX9_liveOf 23 = .ok (.iconst 0, 1) := by decide +kernel
theorem dX9_liveOf_24 : decode cX9_liveOf 24 = .ok (.istore 6, 2) := by decide +kernel
theorem dX9_liveOf_26 : decode cX9_liveOf 26 = .ok (.iconst 0, 1) := by decide +kernel
theorem dX9_liveOf_27 : decode cX9_liveOf 27 = .ok (.istore 7, 2) := by decide +kernel
theorem dX9_liveOf_29 : decode cX9_liveOf 29 = .ok (.iload 7, 2) := by decide +kernel
theorem dX9_liveOf_31 : decode cX9_liveOf 31 = .ok (.bipush 10, 2) := by decide +kernel
theorem dX9_liveOf_33 : decode cX9_liveOf 33 = .ok (.if_icmp .ge 31, 3) := by decide +kernel
theorem dX9_liveOf_36 : decode cX9_liveOf 36 = .ok (.iload 6, 2) := by decide +kernel
theorem dX9_liveOf_38 : decode cX9_liveOf 38 = .ok (.aload_n 0, 1) := by decide +kernel
theorem dX9_liveOf_39 : decode cX9_liveOf 39 = .ok (.iload 7, 2) := by decide +kernel
theorem dX9_liveOf_41 : decode cX9_liveOf 41 = .ok (.iload 5, 2) := by decide +kernel
theorem dX9_liveOf_43 : decode cX9_liveOf 43 = .ok (.invokevirtual 195, 3) := by decide +kernel
theorem dX9_liveOf_46 : decode cX9_liveOf 46 = .ok (.iload_n 1, 1) := by decide +kernel
theorem dX9_liveOf_47 : decode cX9_liveOf 47 = .ok (.if_icmp .ne 7, 3) := by decide +kernel
theorem dX9_liveOf_50 : decode cX9_liveOf 50 = .ok (.iconst 1, 1) := by decide +kernel
theorem dX9_liveOf_51 : decode cX9_liveOf 51 = .ok (.goto 4, 3) := by decide +kernel
theorem dX9_liveOf_54 : decode cX9_liveOf 54 = .ok (.iconst 0, 1) := by decide +kernel
theorem dX9_liveOf_55 : decode cX9_liveOf 55 = .ok (.iadd, 1) := by decide +kernel
theorem dX9_liveOf_56 : decode cX9_liveOf 56 = .ok (.istore 6, 2) := by decide +kernel
theorem dX9_liveOf_58 : decode cX9_liveOf 58 = .ok (.iinc 7 1, 3) := by decide +kernel
theorem dX9_liveOf_61 : decode cX9_liveOf 61 = .ok (.goto (-32), 3) := by decide +kernel
theorem dX9_liveOf_64 : decode cX9_liveOf 64 = .ok (.aload_n 0, 1) := by decide +kernel
theorem dX9_liveOf_65 : decode cX9_liveOf 65 = .ok (.iload 5, 2) := by decide +kernel
theorem dX9_liveOf_67 : decode cX9_liveOf 67 = .ok (.invokevirtual 222, 3) := by decide +kernel
theorem dX9_liveOf_70 : decode cX9_liveOf 70 = .ok (.ifCond .ne 14, 3) := by decide +kernel
theorem dX9_liveOf_73 : decode cX9_liveOf 73 = .ok (.iload 6, 2) := by decide +kernel
theorem dX9_liveOf_75 : decode cX9_liveOf 75 = .ok (.iload 4, 2) := by decide +kernel
theorem dX9_liveOf_77 : decode cX9_liveOf 77 = .ok (.if_icmp .le 7, 3) := by decide +kernel
theorem dX9_liveOf_80 : decode cX9_liveOf 80 = .ok (.iconst 1, 1) := by decide +kernel
theorem dX9_liveOf_81 : decode cX9_liveOf 81 = .ok (.goto 4, 3) := by decide +kernel
theorem dX9_liveOf_84 : decode cX9_liveOf 84 = .ok (.iconst 0, 1) := by decide +kernel
theorem dX9_liveOf_85 : decode cX9_liveOf 85 = .ok (.istore 7, 2) := by decide +kernel
theorem dX9_liveOf_87 : decode cX9_liveOf 87 = .ok (.iload 7, 2) := by decide +kernel
theorem dX9_liveOf_89 : decode cX9_liveOf 89 = .ok (.ifCond .eq 8, 3) := by decide +kernel
theorem dX9_liveOf_92 : decode cX9_liveOf 92 = .ok (.iload 5, 2) := by decide +kernel
theorem dX9_liveOf_94 : decode cX9_liveOf 94 = .ok (.goto 4, 3) := by decide +kernel
theorem dX9_liveOf_97 : decode cX9_liveOf 97 = .ok (.iload_n 3, 1) := by decide +kernel
theorem dX9_liveOf_98 : decode cX9_liveOf 98 = .ok (.istore_n 3, 1) := by decide +kernel
theorem dX9_liveOf_99 : decode cX9_liveOf 99 = .ok (.iload 7, 2) := by decide +kernel
theorem dX9_liveOf_101 : decode cX9_liveOf 101 = .ok (.ifCond .eq 8, 3) := by decide +kernel
theorem dX9_liveOf_104 : decode cX9_liveOf 104 = .ok (.iload 6, 2) := by decide +kernel
theorem dX9_liveOf_106 : decode cX9_liveOf 106 = .ok (.goto 5, 3) := by decide +kernel
theorem dX9_liveOf_109 : decode cX9_liveOf 109 = .ok (.iload 4, 2) := by decide +kernel
theorem dX9_liveOf_111 : decode cX9_liveOf 111 = .ok (.istore 4, 2) := by decide +kernel
theorem dX9_liveOf_113 : decode cX9_liveOf 113 = .ok (.iinc 5 1, 3) := by decide +kernel
theorem dX9_liveOf_116 : decode cX9_liveOf 116 = .ok (.goto (-102), 3) := by decide +kernel
theorem dX9_liveOf_119 : decode cX9_liveOf 119 = .ok (.iload_n 2, 1) := by decide +kernel
theorem dX9_liveOf_120 : decode cX9_liveOf 120 = .ok (.ifCond .ne 7, 3) := by decide +kernel
theorem dX9_liveOf_123 : decode cX9_liveOf 123 = .ok (.iload_n 3, 1) := by decide +kernel
theorem dX9_liveOf_124 : decode cX9_liveOf 124 = .ok (.goto 5, 3) := by decide +kernel
theorem dX9_liveOf_127 : decode cX9_liveOf 127 = .ok (.iload 4, 2) := by decide +kernel
theorem dX9_liveOf_129 : decode cX9_liveOf 129 = .ok (.ireturn, 1) := by decide +kernel
theorem dX9_live_0 : decode cX9_live 0 = .ok (.aload_n 0, 1) := by decide +kernel
theorem dX9_live_1 : decode cX9_live 1 = .ok (.invokevirtual 184, 3) := by decide +kernel
theorem dX9_live_4 : decode cX9_live 4 = .ok (.iload_n 1, 1) := by decide +kernel
theorem dX9_live_5 : decode cX9_live 5 = .ok (.i2l, 1) := by decide +kernel
theorem dX9_live_6 : decode cX9_live 6 = .ok (.lconst 0, 1) := by decide +kernel
theorem dX9_live_7 : decode cX9_live 7 = .ok (.ldc2_w 74, 3) := by decide +kernel
theorem dX9_live_10 : decode cX9_live 10 = .ok (.invokestatic 60, 3) := by decide +kernel
theorem dX9_live_13 : decode cX9_live 13 = .ok (.ifCond .eq 19, 3) := by decide +kernel
theorem dX9_live_16 : decode cX9_live 16 = .ok (.iload_n 2, 1) := by decide +kernel
theorem dX9_live_17 : decode cX9_live 17 = .ok (.invokestatic 89, 3) := by decide +kernel
theorem dX9_live_20 : decode cX9_live 20 = .ok (.ifCond .eq 12, 3) := by decide +kernel
theorem dX9_live_23 : decode cX9_live 23 = .ok (.aload_n 0, 1) := by decide +kernel
theorem dX9_live_24 : decode cX9_live 24 = .ok (.iload_n 1, 1) := by decide +kernel
theorem dX9_live_25 : decode cX9_live 25 = .ok (.iload_n 2, 1) := by decide +kernel
theorem dX9_live_26 : decode cX9_live 26 = .ok (.invokevirtual 225, 3) := by decide +kernel
theorem dX9_live_29 : decode cX9_live 29 = .ok (.goto 5, 3) := by decide +kernel
theorem dX9_live_32 : decode cX9_live 32 = .ok (.bipush (-2), 2) := by decide +kernel
theorem dX9_live_34 : decode cX9_live 34 = .ok (.ireturn, 1) := by decide +kernel
theorem dX9_seen_0 : decode cX9_seen 0 = .ok (.iload_n 1, 1) := by decide +kernel
theorem dX9_seen_1 : decode cX9_seen 1 = .ok (.invokestatic 136, 3) := by decide +kernel
theorem dX9_seen_4 : decode cX9_seen 4 = .ok (.ifCond .eq 27, 3) := by decide +kernel
theorem dX9_seen_7 : decode cX9_seen 7 = .ok (.iload_n 2, 1) := by decide +kernel
theorem dX9_seen_8 : decode cX9_seen 8 = .ok (.i2l, 1) := by decide +kernel
theorem dX9_seen_9 : decode cX9_seen 9 = .ok (.lconst 0, 1) := by decide +kernel
theorem dX9_seen_10 : decode cX9_seen 10 = .ok (.ldc2_w 228, 3) := by decide +kernel
theorem dX9_seen_13 : decode cX9_seen 13 = .ok (.invokestatic 60, 3) := by decide +kernel
theorem dX9_seen_16 : decode cX9_seen 16 = .ok (.ifCond .eq 15, 3) := by decide +kernel
theorem dX9_seen_19 : decode cX9_seen 19 = .ok (.iload_n 3, 1) := by decide +kernel
theorem dX9_seen_20 : decode cX9_seen 20 = .ok (.i2l, 1) := by decide +kernel
theorem dX9_seen_21 : decode cX9_seen 21 = .ok (.lconst 0, 1) := by decide +kernel
theorem dX9_seen_22 : decode cX9_seen 22 = .ok (.ldc2_w 74, 3) := by decide +kernel
theorem dX9_seen_25 : decode cX9_seen 25 = .ok (.invokestatic 60, 3) := by decide +kernel
theorem dX9_seen_28 : decode cX9_seen 28 = .ok (.ifCond .ne 6, 3) := by decide +kernel
theorem dX9_seen_31 : decode cX9_seen 31 = .ok (.bipush (-2), 2) := by decide +kernel
theorem dX9_seen_33 : decode cX9_seen 33 = .ok (.ireturn, 1) := by decide +kernel
theorem dX9_seen_34 : decode cX9_seen 34 = .ok (.aload_n 0, 1) := by decide +kernel
theorem dX9_seen_35 : decode cX9_seen 35 = .ok (.getfield 230, 3) := by decide +kernel
theorem dX9_seen_38 : decode cX9_seen 38 = .ok (.bipush 8, 2) := by decide +kernel
theorem dX9_seen_40 : decode cX9_seen 40 = .ok (.if_icmp .ne 6, 3) := by decide +kernel
theorem dX9_seen_43 : decode cX9_seen 43 = .ok (.bipush (-4), 2) := by decide +kernel
theorem dX9_seen_45 : decode cX9_seen 45 = .ok (.ireturn, 1) := by decide +kernel
theorem dX9_seen_46 : decode cX9_seen 46 = .ok (.aload_n 0, 1) := by decide +kernel
theorem dX9_seen_47 : decode cX9_seen 47 = .ok (.getfield 52, 3) := by decide +kernel
theorem dX9_seen_50 : decode cX9_seen 50 = .ok (.iconst 3, 1) := by decide +kernel
theorem dX9_seen_51 : decode cX9_seen 51 = .ok (.aload_n 0, 1) := by decide +kernel
theorem dX9_seen_52 : decode cX9_seen 52 = .ok (.getfield 230, 3) := by decide +kernel
theorem dX9_seen_55 : decode cX9_seen 55 = .ok (.imul, 1) := by decide +kernel
theorem dX9_seen_56 : decode cX9_seen 56 = .ok (.iload_n 1, 1) := by decide +kernel
theorem dX9_seen_57 : decode cX9_seen 57 = .ok (.iastore, 1) := by decide +kernel
theorem dX9_seen_58 : decode cX9_seen 58 = .ok (.aload_n 0, 1) := by decide +kernel
theorem dX9_seen_59 : decode cX9_seen 59 = .ok (.getfield 52, 3) := by decide +kernel
theorem dX9_seen_62 : decode cX9_seen 62 = .ok (.iconst 3, 1) := by decide +kernel
theorem dX9_seen_63 : decode cX9_seen 63 = .ok (.aload_n 0, 1) := by decide +kernel
theorem dX9_seen_64 : decode cX9_seen 64 = .ok (.getfield 230, 3) := by decide +kernel
theorem dX9_seen_67 : decode cX9_seen 67 = .ok (.imul, 1) := by decide +kernel
theorem dX9_seen_68 : decode cX9_seen 68 = .ok (.iconst 1, 1) := by decide +kernel
theorem dX9_seen_69 : decode cX9_seen 69 = .ok (.iadd, 1) := by decide +kernel
theorem dX9_seen_70 : decode cX9_seen 70 = .ok (.iload_n 2, 1) := by decide +kernel
theorem dX9_seen_71 : decode cX9_seen 71 = .ok (.iastore, 1) := by decide +kernel
theorem dX9_seen_72 : decode cX9_seen 72 = .ok (.aload_n 0, 1) := by decide +kernel
theorem dX9_seen_73 : decode cX9_seen 73 = .ok (.getfield 52, 3) := by decide +kernel
theorem dX9_seen_76 : decode cX9_seen 76 = .ok (.iconst 3, 1) := by decide +kernel
theorem dX9_seen_77 : decode cX9_seen 77 = .ok (.aload_n 0, 1) := by decide +kernel
theorem dX9_seen_78 : decode cX9_seen 78 = .ok (.getfield 230, 3) := by decide +kernel
theorem dX9_seen_81 : decode cX9_seen 81 = .ok (.imul, 1) := by decide +kernel
theorem dX9_seen_82 : decode cX9_seen 82 = .ok (.iconst 2, 1) := by decide +kernel
theorem dX9_seen_83 : decode cX9_seen 83 = .ok (.iadd, 1) := by decide +kernel
theorem dX9_seen_84 : decode cX9_seen 84 = .ok (.iload_n 3, 1) := by decide +kernel
theorem dX9_seen_85 : decode cX9_seen 85 = .ok (.iastore, 1) := by decide +kernel
theorem dX9_seen_86 : decode cX9_seen 86 = .ok (.aload_n 0, 1) := by decide +kernel
theorem dX9_seen_87 : decode cX9_seen 87 = .ok (.dup, 1) := by decide +kernel
theorem dX9_seen_88 : decode cX9_seen 88 = .ok (.getfield 230, 3) := by decide +kernel
theorem dX9_seen_91 : decode cX9_seen 91 = .ok (.iconst 1, 1) := by decide +kernel
theorem dX9_seen_92 : decode cX9_seen 92 = .ok (.iadd, 1) := by decide +kernel
theorem dX9_seen_93 : decode cX9_seen 93 = .ok (.putfield 230, 3) := by decide +kernel
theorem dX9_seen_96 : decode cX9_seen 96 = .ok (.aload_n 0, 1) := by decide +kernel
theorem dX9_seen_97 : decode cX9_seen 97 = .ok (.getfield 230, 3) := by decide +kernel
theorem dX9_seen_100 : decode cX9_seen 100 = .ok (.ireturn, 1) := by decide +kernel
theorem dX9_forget_0 : decode cX9_forget 0 = .ok (.aload_n 0, 1) := by decide +kernel
theorem dX9_forget_1 : decode cX9_forget 1 = .ok (.getfield 230, 3) := by decide +kernel
theorem dX9_forget_4 : decode cX9_forget 4 = .ok (.istore_n 1, 1) := by decide +kernel
theorem dX9_forget_5 : decode cX9_forget 5 = .ok (.aload_n 0, 1) := by decide +kernel
theorem dX9_forget_6 : decode cX9_forget 6 = .ok (.iconst 0, 1) := by decide +kernel
theorem dX9_forget_7 : decode cX9_forget 7 = .ok (.putfield 230, 3) := by decide +kernel
theorem dX9_forget_10 : decode cX9_forget 10 = .ok (.iload_n 1, 1) := by decide +kernel
theorem dX9_forget_11 : decode cX9_forget 11 = .ok (.ireturn, 1) := by decide +kernel
theorem dX9_isSeen_0 : decode cX9_isSeen 0 = .ok (.aload_n 0, 1) := by decide +kernel
theorem dX9_isSeen_1 : decode cX9_isSeen 1 = .ok (.bipush 9, 2) := by decide +kernel
theorem dX9_isSeen_3 : decode cX9_isSeen 3 = .ok (.invokevirtual 178, 3) := by decide +kernel
theorem dX9_isSeen_6 : decode cX9_isSeen 6 = .ok (.iconst 1, 1) := by decide +kernel
theorem dX9_isSeen_7 : decode cX9_isSeen 7 = .ok (.istore_n 1, 1) := by decide +kernel
theorem dX9_isSeen_8 : decode cX9_isSeen 8 = .ok (.iconst 0, 1) := by decide +kernel
theorem dX9_isSeen_9 : decode cX9_isSeen 9 = .ok (.istore_n 2, 1) := by decide +kernel
theorem dX9_isSeen_10 : decode cX9_isSeen 10 = .ok (.iload_n 2, 1) := by decide +kernel
theorem dX9_isSeen_11 : decode cX9_isSeen 11 = .ok (.aload_n 0, 1) := by decide +kernel
theorem dX9_isSeen_12 : decode cX9_isSeen 12 = .ok (.getfield 230, 3) := by decide +kernel
theorem dX9_isSeen_15 : decode cX9_isSeen 15 = .ok (.if_icmp .ge 64, 3) := by decide +kernel
theorem dX9_isSeen_18 : decode cX9_isSeen 18 = .ok (.aload_n 0, 1) := by decide +kernel
theorem dX9_isSeen_19 : decode cX9_isSeen 19 = .ok (.getfield 52, 3) := by decide +kernel
theorem dX9_isSeen_22 : decode cX9_isSeen 22 = .ok (.iconst 3, 1) := by decide +kernel
theorem dX9_isSeen_23 : decode cX9_isSeen 23 = .ok (.iload_n 2, 1) := by decide +kernel
theorem dX9_isSeen_24 : decode cX9_isSeen 24 = .ok (.imul, 1) := by decide +kernel
theorem dX9_isSeen_25 : decode cX9_isSeen 25 = .ok (.iconst 1, 1) := by decide +kernel
theorem dX9_isSeen_26 : decode cX9_isSeen 26 = .ok (.iadd, 1) := by decide +kernel
theorem dX9_isSeen_27 : decode cX9_isSeen 27 = .ok (.iaload, 1) := by decide +kernel
theorem dX9_isSeen_28 : decode cX9_isSeen 28 = .ok (.istore_n 3, 1) := by decide +kernel
theorem dX9_isSeen_29 : decode cX9_isSeen 29 = .ok (.iload_n 1, 1) := by decide +kernel
theorem dX9_isSeen_30 : decode cX9_isSeen 30 = .ok (.ifCond .eq 41, 3) := by decide +kernel
theorem dX9_isSeen_33 : decode cX9_isSeen 33 = .ok (.aload_n 0, 1) := by decide +kernel
theorem dX9_isSeen_34 : decode cX9_isSeen 34 = .ok (.iload_n 3, 1) := by decide +kernel
theorem dX9_isSeen_35 : decode cX9_isSeen 35 = .ok (.invokevirtual 126, 3) := by decide +kernel
theorem dX9_isSeen_38 : decode cX9_isSeen 38 = .ok (.ifCond .eq 33, 3) := by decide +kernel
theorem dX9_isSeen_41 : decode cX9_isSeen 41 = .ok (.aload_n 0, 1) := by decide +kernel
theorem dX9_isSeen_42 : decode cX9_isSeen 42 = .ok (.aload_n 0, 1) := by decide +kernel
theorem dX9_isSeen_43 : decode cX9_isSeen 43 = .ok (.getfield 52, 3) := by decide +kernel
theorem dX9_isSeen_46 : decode cX9_isSeen 46 = .ok (.iconst 3, 1) := by decide +kernel
theorem dX9_isSeen_47 : decode cX9_isSeen 47 = .ok (.iload_n 2, 1) := by decide +kernel
theorem dX9_isSeen_48 : decode cX9_isSeen 48 = .ok (.imul, 1) := by decide +kernel
theorem dX9_isSeen_49 : decode cX9_isSeen 49 = .ok (.iaload, 1) := by decide +kernel
theorem dX9_isSeen_50 : decode cX9_isSeen 50 = .ok (.iload_n 3, 1) := by decide +kernel
theorem dX9_isSeen_51 : decode cX9_isSeen 51 = .ok (.invokevirtual 198, 3) := by decide +kernel
theorem dX9_isSeen_54 : decode cX9_isSeen 54 = .ok (.aload_n 0, 1) := by decide +kernel
theorem dX9_isSeen_55 : decode cX9_isSeen 55 = .ok (.getfield 52, 3) := by decide +kernel
theorem dX9_isSeen_58 : decode cX9_isSeen 58 = .ok (.iconst 3, 1) := by decide +kernel
theorem dX9_isSeen_59 : decode cX9_isSeen 59 = .ok (.iload_n 2, 1) := by decide +kernel
theorem dX9_isSeen_60 : decode cX9_isSeen 60 = .ok (.imul, 1) := by decide +kernel
theorem dX9_isSeen_61 : decode cX9_isSeen 61 = .ok (.iconst 2, 1) := by decide +kernel
theorem dX9_isSeen_62 : decode cX9_isSeen 62 = .ok (.iadd, 1) := by decide +kernel
theorem dX9_isSeen_63 : decode cX9_isSeen 63 = .ok (.iaload, 1) := by decide +kernel
theorem dX9_isSeen_64 : decode cX9_isSeen 64 = .ok (.if_icmp .ne 7, 3) := by decide +kernel
theorem dX9_isSeen_67 : decode cX9_isSeen 67 = .ok (.iconst 1, 1) := by decide +kernel
theorem dX9_isSeen_68 : decode cX9_isSeen 68 = .ok (.goto 4, 3) := by decide +kernel
theorem dX9_isSeen_71 : decode cX9_isSeen 71 = .ok (.iconst 0, 1) := by decide +kernel
theorem dX9_isSeen_72 : decode cX9_isSeen 72 = .ok (.istore_n 1, 1) := by decide +kernel
theorem dX9_isSeen_73 : decode cX9_isSeen 73 = .ok (.iinc 2 1, 3) := by decide +kernel
theorem dX9_isSeen_76 : decode cX9_isSeen 76 = .ok (.goto (-66), 3) := by decide +kernel
theorem dX9_isSeen_79 : decode cX9_isSeen 79 = .ok (.iload_n 1, 1) := by decide +kernel
theorem dX9_isSeen_80 : decode cX9_isSeen 80 = .ok (.ireturn, 1) := by decide +kernel
theorem dX9_neverNow_0 : decode cX9_neverNow 0 = .ok (.iconst 0, 1) := by decide +kernel
theorem dX9_neverNow_1 : decode cX9_neverNow 1 = .ok (.istore_n 1, 1) := by decide +kernel
theorem dX9_neverNow_2 : decode cX9_neverNow 2 = .ok (.iconst 0, 1) := by decide +kernel
theorem dX9_neverNow_3 : decode cX9_neverNow 3 = .ok (.istore_n 2, 1) := by decide +kernel
theorem dX9_neverNow_4 : decode cX9_neverNow 4 = .ok (.iload_n 2, 1) := by decide +kernel
theorem dX9_neverNow_5 : decode cX9_neverNow 5 = .ok (.aload_n 0, 1) := by decide +kernel
theorem dX9_neverNow_6 : decode cX9_neverNow 6 = .ok (.getfield 133, 3) := by decide +kernel
theorem dX9_neverNow_9 : decode cX9_neverNow 9 = .ok (.if_icmp .ge 33, 3) := by decide +kernel
theorem dX9_neverNow_12 : decode cX9_neverNow 12 = .ok (.aload_n 0, 1) := by decide +kernel
theorem dX9_neverNow_13 : decode cX9_neverNow 13 = .ok (.iconst 1, 1) := by decide +kernel
theorem dX9_neverNow_14 : decode cX9_neverNow 14 = .ok (.iload_n 2, 1) := by decide +kernel
theorem dX9_neverNow_15 : decode cX9_neverNow 15 = .ok (.ishl, 1) := by decide +kernel
theorem dX9_neverNow_16 : decode cX9_neverNow 16 = .ok (.putfield 152, 3) := by decide +kernel
theorem dX9_neverNow_19 : decode cX9_neverNow 19 = .ok (.iload_n 1, 1) := by decide +kernel
theorem dX9_neverNow_20 : decode cX9_neverNow 20 = .ok (.aload_n 0, 1) := by decide +kernel
theorem dX9_neverNow_21 : decode cX9_neverNow 21 = .ok (.invokevirtual 233, 3) := by decide +kernel
theorem dX9_neverNow_24 : decode cX9_neverNow 24 = .ok (.ifCond .eq 9, 3) := by decide +kernel
theorem dX9_neverNow_27 : decode cX9_neverNow 27 = .ok (.iconst 1, 1) := by decide +kernel
theorem dX9_neverNow_28 : decode cX9_neverNow 28 = .ok (.iload_n 2, 1) := by decide +kernel
theorem dX9_neverNow_29 : decode cX9_neverNow 29 = .ok (.ishl, 1) := by decide +kernel
theorem dX9_neverNow_30 : decode cX9_neverNow 30 = .ok (.goto 4, 3) := by decide +kernel
theorem dX9_neverNow_33 : decode cX9_neverNow 33 = .ok (.iconst 0, 1) := by decide +kernel
theorem dX9_neverNow_34 : decode cX9_neverNow 34 = .ok (.ior, 1) := by decide +kernel
theorem dX9_neverNow_35 : decode cX9_neverNow 35 = .ok (.istore_n 1, 1) := by decide +kernel
theorem dX9_neverNow_36 : decode cX9_neverNow 36 = .ok (.iinc 2 1, 3) := by decide +kernel
theorem dX9_neverNow_39 : decode cX9_neverNow 39 = .ok (.goto (-35), 3) := by decide +kernel
theorem dX9_neverNow_42 : decode cX9_neverNow 42 = .ok (.aload_n 0, 1) := by decide +kernel
theorem dX9_neverNow_43 : decode cX9_neverNow 43 = .ok (.iconst 0, 1) := by decide +kernel
theorem dX9_neverNow_44 : decode cX9_neverNow 44 = .ok (.putfield 152, 3) := by decide +kernel
theorem dX9_neverNow_47 : decode cX9_neverNow 47 = .ok (.iload_n 1, 1) := by decide +kernel
theorem dX9_neverNow_48 : decode cX9_neverNow 48 = .ok (.ireturn, 1) := by decide +kernel
theorem dX9_never_0 : decode cX9_never 0 = .ok (.aload_n 0, 1) := by decide +kernel
theorem dX9_never_1 : decode cX9_never 1 = .ok (.invokevirtual 184, 3) := by decide +kernel
theorem dX9_never_4 : decode cX9_never 4 = .ok (.aload_n 0, 1) := by decide +kernel
theorem dX9_never_5 : decode cX9_never 5 = .ok (.invokevirtual 237, 3) := by decide +kernel
theorem dX9_never_8 : decode cX9_never 8 = .ok (.ireturn, 1) := by decide +kernel
theorem dX9_beganNow_0 : decode cX9_beganNow 0 = .ok (.aload_n 0, 1) := by decide +kernel
theorem dX9_beganNow_1 : decode cX9_beganNow 1 = .ok (.getfield 34, 3) := by decide +kernel
theorem dX9_beganNow_4 : decode cX9_beganNow 4 = .ok (.iconst 0, 1) := by decide +kernel
theorem dX9_beganNow_5 : decode cX9_beganNow 5 = .ok (.iaload, 1) := by decide +kernel
theorem dX9_beganNow_6 : decode cX9_beganNow 6 = .ok (.istore_n 1, 1) := by decide +kernel
theorem dX9_beganNow_7 : decode cX9_beganNow 7 = .ok (.iconst 0, 1) := by decide +kernel
theorem dX9_beganNow_8 : decode cX9_beganNow 8 = .ok (.istore_n 2, 1) := by decide +kernel
theorem dX9_beganNow_9 : decode cX9_beganNow 9 = .ok (.iconst 0, 1) := by decide +kernel
theorem dX9_beganNow_10 : decode cX9_beganNow 10 = .ok (.istore_n 3, 1) := by decide +kernel
theorem dX9_beganNow_11 : decode cX9_beganNow 11 = .ok (.iload_n 3, 1) := by decide +kernel
theorem dX9_beganNow_12 : decode cX9_beganNow 12 = .ok (.bipush 6, 2) := by decide +kernel
theorem dX9_beganNow_14 : decode cX9_beganNow 14 = .ok (.if_icmp .ge 33, 3) := by decide +kernel
theorem dX9_beganNow_17 : decode cX9_beganNow 17 = .ok (.aload_n 0, 1) := by decide +kernel
theorem dX9_beganNow_18 : decode cX9_beganNow 18 = .ok (.getfield 34, 3) := by decide +kernel
theorem dX9_beganNow_21 : decode cX9_beganNow 21 = .ok (.iconst 0, 1) := by decide +kernel
theorem dX9_beganNow_22 : decode cX9_beganNow 22 = .ok (.iload_n 3, 1) := by decide +kernel
theorem dX9_beganNow_23 : decode cX9_beganNow 23 = .ok (.iastore, 1) := by decide +kernel
theorem dX9_beganNow_24 : decode cX9_beganNow 24 = .ok (.iload_n 2, 1) := by decide +kernel
theorem dX9_beganNow_25 : decode cX9_beganNow 25 = .ok (.aload_n 0, 1) := by decide +kernel
theorem dX9_beganNow_26 : decode cX9_beganNow 26 = .ok (.invokevirtual 233, 3) := by decide +kernel
theorem dX9_beganNow_29 : decode cX9_beganNow 29 = .ok (.ifCond .eq 9, 3) := by decide +kernel
theorem dX9_beganNow_32 : decode cX9_beganNow 32 = .ok (.iconst 1, 1) := by decide +kernel
theorem dX9_beganNow_33 : decode cX9_beganNow 33 = .ok (.iload_n 3, 1) := by decide +kernel
theorem dX9_beganNow_34 : decode cX9_beganNow 34 = .ok (.ishl, 1) := by decide +kernel
theorem dX9_beganNow_35 : decode cX9_beganNow 35 = .ok (.goto 4, 3) := by decide +kernel
theorem dX9_beganNow_38 : decode cX9_beganNow 38 = .ok (.iconst 0, 1) := by decide +kernel
theorem dX9_beganNow_39 : decode cX9_beganNow 39 = .ok (.ior, 1) := by decide +kernel
theorem dX9_beganNow_40 : decode cX9_beganNow 40 = .ok (.istore_n 2, 1) := by decide +kernel
theorem dX9_beganNow_41 : decode cX9_beganNow 41 = .ok (.iinc 3 1, 3) := by decide +kernel
theorem dX9_beganNow_44 : decode cX9_beganNow 44 = .ok (.goto (-33), 3) := by decide +kernel
theorem dX9_beganNow_47 : decode cX9_beganNow 47 = .ok (.aload_n 0, 1) := by decide +kernel
theorem dX9_beganNow_48 : decode cX9_beganNow 48 = .ok (.getfield 34, 3) := by decide +kernel
theorem dX9_beganNow_51 : decode cX9_beganNow 51 = .ok (.iconst 0, 1) := by decide +kernel
theorem dX9_beganNow_52 : decode cX9_beganNow 52 = .ok (.iload_n 1, 1) := by decide +kernel
theorem dX9_beganNow_53 : decode cX9_beganNow 53 = .ok (.iastore, 1) := by decide +kernel
theorem dX9_beganNow_54 : decode cX9_beganNow 54 = .ok (.iload_n 2, 1) := by decide +kernel
theorem dX9_beganNow_55 : decode cX9_beganNow 55 = .ok (.ireturn, 1) := by decide +kernel
theorem dX9_began_0 : decode cX9_began 0 = .ok (.aload_n 0, 1) := by decide +kernel
theorem dX9_began_1 : decode cX9_began 1 = .ok (.invokevirtual 184, 3) := by decide +kernel
theorem dX9_began_4 : decode cX9_began 4 = .ok (.aload_n 0, 1) := by decide +kernel
theorem dX9_began_5 : decode cX9_began 5 = .ok (.invokevirtual 240, 3) := by decide +kernel
theorem dX9_began_8 : decode cX9_began 8 = .ok (.ireturn, 1) := by decide +kernel
theorem dX9_askOf_0 : decode cX9_askOf 0 = .ok (.aload_n 0, 1) := by decide +kernel
theorem dX9_askOf_1 : decode cX9_askOf 1 = .ok (.invokevirtual 240, 3) := by decide +kernel
theorem dX9_askOf_4 : decode cX9_askOf 4 = .ok (.istore_n 2, 1) := by decide +kernel
theorem dX9_askOf_5 : decode cX9_askOf 5 = .ok (.aload_n 0, 1) := by decide +kernel
theorem dX9_askOf_6 : decode cX9_askOf 6 = .ok (.getfield 34, 3) := by decide +kernel
theorem dX9_askOf_9 : decode cX9_askOf 9 = .ok (.iconst 0, 1) := by decide +kernel
theorem dX9_askOf_10 : decode cX9_askOf 10 = .ok (.iaload, 1) := by decide +kernel
theorem dX9_askOf_11 : decode cX9_askOf 11 = .ok (.istore_n 3, 1) := by decide +kernel
theorem dX9_askOf_12 : decode cX9_askOf 12 = .ok (.iconst 0, 1) := by decide +kernel
theorem dX9_askOf_13 : decode cX9_askOf 13 = .ok (.istore 4, 2) := by decide +kernel
theorem dX9_askOf_15 : decode cX9_askOf 15 = .ok (.iload 4, 2) := by decide +kernel
theorem dX9_askOf_17 : decode cX9_askOf 17 = .ok (.bipush 32, 2) := by decide +kernel
theorem dX9_askOf_19 : decode cX9_askOf 19 = .ok (.if_icmp .ge 17, 3) := by decide +kernel
theorem dX9_askOf_22 : decode cX9_askOf 22 = .ok (.aload_n 0, 1) := by decide +kernel
theorem dX9_askOf_23 : decode cX9_askOf 23 = .ok (.getfield 55, 3) := by decide +kernel
theorem dX9_askOf_26 : decode cX9_askOf 26 = .ok (.iload 4, 2) := by decide +kernel
theorem dX9_askOf_28 : decode cX9_askOf 28 = .ok (.iconst 0, 1) := by decide +kernel
theorem dX9_askOf_29 : decode cX9_askOf 29 = .ok (.iastore, 1) := by decide +kernel
theorem dX9_askOf_30 : decode cX9_askOf 30 = .ok (.iinc 4 1, 3) := by decide +kernel
theorem dX9_askOf_33 : decode cX9_askOf 33 = .ok (.goto (-18), 3) := by decide +kernel
theorem dX9_askOf_36 : decode cX9_askOf 36 = .ok (.iconst 0, 1) := by decide +kernel
theorem dX9_askOf_37 : decode cX9_askOf 37 = .ok (.istore 4, 2) := by decide +kernel
theorem dX9_askOf_39 : decode cX9_askOf 39 = .ok (.iload 4, 2) := by decide +kernel
theorem dX9_askOf_41 : decode cX9_askOf 41 = .ok (.bipush 6, 2) := by decide +kernel
theorem dX9_askOf_43 : decode cX9_askOf 43 = .ok (.if_icmp .ge 72, 3) := by decide +kernel
theorem dX9_askOf_46 : decode cX9_askOf 46 = .ok (.iload_n 2, 1) := by decide +kernel
theorem dX9_askOf_47 : decode cX9_askOf 47 = .ok (.iload 4, 2) := by decide +kernel
theorem dX9_askOf_49 : decode cX9_askOf 49 = .ok (.invokestatic 155, 3) := by decide +kernel
theorem dX9_askOf_52 : decode cX9_askOf 52 = .ok (.ifCond .eq 57, 3) := by decide +kernel
theorem dX9_askOf_55 : decode cX9_askOf 55 = .ok (.aload_n 0, 1) := by decide +kernel
theorem dX9_askOf_56 : decode cX9_askOf 56 = .ok (.getfield 34, 3) := by decide +kernel
theorem dX9_askOf_59 : decode cX9_askOf 59 = .ok (.iconst 0, 1) := by decide +kernel
theorem dX9_askOf_60 : decode cX9_askOf 60 = .ok (.iload 4, 2) := by decide +kernel
theorem dX9_askOf_62 : decode cX9_askOf 62 = .ok (.iastore, 1) := by decide +kernel
theorem dX9_askOf_63 : decode cX9_askOf 63 = .ok (.aload_n 0, 1) := by decide +kernel
theorem dX9_askOf_64 : decode cX9_askOf 64 = .ok (.iload_n 1, 1) := by decide +kernel
theorem dX9_askOf_65 : decode cX9_askOf 65 = .ok (.invokevirtual 178, 3) := by decide +kernel
theorem dX9_askOf_68 : decode cX9_askOf 68 = .ok (.iconst 0, 1) := by decide +kernel
theorem dX9_askOf_69 : decode cX9_askOf 69 = .ok (.istore 5, 2) := by decide +kernel
theorem dX9_askOf_71 : decode cX9_askOf 71 = .ok (.iload 5, 2) := by decide +kernel
theorem dX9_askOf_73 : decode cX9_askOf 73 = .ok (.aload_n 0, 1) := by decide +kernel
theorem dX9_askOf_74 : decode cX9_askOf 74 = .ok (.getfield 106, 3) := by decide +kernel
theorem dX9_askOf_77 : decode cX9_askOf 77 = .ok (.if_icmp .ge 32, 3) := by decide +kernel
theorem dX9_askOf_80 : decode cX9_askOf 80 = .ok (.aload_n 0, 1) := by decide +kernel
theorem dX9_askOf_81 : decode cX9_askOf 81 = .ok (.getfield 55, 3) := by decide +kernel
theorem dX9_askOf_84 : decode cX9_askOf 84 = .ok (.iconst 4, 1) := by decide +kernel
theorem dX9_askOf_85 : decode cX9_askOf 85 = .ok (.iload 5, 2) := by decide +kernel
theorem dX9_askOf_87 : decode cX9_askOf 87 = .ok (.imul, 1) := by decide +kernel
theorem dX9_askOf_88 : decode cX9_askOf 88 = .ok (.aload_n 0, 1) := by decide +kernel
theorem dX9_askOf_89 : decode cX9_askOf 89 = .ok (.iload_n 1, 1) := by decide +kernel
theorem dX9_askOf_90 : decode cX9_askOf 90 = .ok (.iload 5, 2) := by decide +kernel
theorem dX9_askOf_92 : decode cX9_askOf 92 = .ok (.invokevirtual 198, 3) := by decide +kernel
theorem dX9_askOf_95 : decode cX9_askOf 95 = .ok (.iadd, 1) := by decide +kernel
theorem dX9_askOf_96 : decode cX9_askOf 96 = .ok (.iconst 1, 1) := by decide +kernel
theorem dX9_askOf_97 : decode cX9_askOf 97 = .ok (.iadd, 1) := by decide +kernel
theorem dX9_askOf_98 : decode cX9_askOf 98 = .ok (.dup2, 1) := by decide +kernel
theorem dX9_askOf_99 : decode cX9_askOf 99 = .ok (.iaload, 1) := by decide +kernel
theorem dX9_askOf_100 : decode cX9_askOf 100 = .ok (.iconst 1, 1) := by decide +kernel
theorem dX9_askOf_101 : decode cX9_askOf 101 = .ok (.iadd, 1) := by decide +kernel
theorem dX9_askOf_102 : decode cX9_askOf 102 = .ok (.iastore, 1) := by decide +kernel
theorem dX9_askOf_103 : decode cX9_askOf 103 = .ok (.iinc 5 1, 3) := by decide +kernel
theorem dX9_askOf_106 : decode cX9_askOf 106 = .ok (.goto (-35), 3) := by decide +kernel
theorem dX9_askOf_109 : decode cX9_askOf 109 = .ok (.iinc 4 1, 3) := by decide +kernel
theorem dX9_askOf_112 : decode cX9_askOf 112 = .ok (.goto (-73), 3) := by decide +kernel
theorem dX9_askOf_115 : decode cX9_askOf 115 = .ok (.aload_n 0, 1) := by decide +kernel
theorem dX9_askOf_116 : decode cX9_askOf 116 = .ok (.getfield 34, 3) := by decide +kernel
theorem dX9_askOf_119 : decode cX9_askOf 119 = .ok (.iconst 0, 1) := by decide +kernel
theorem dX9_askOf_120 : decode cX9_askOf 120 = .ok (.iload_n 3, 1) := by decide +kernel
theorem dX9_askOf_121 : decode cX9_askOf 121 = .ok (.iastore, 1) := by decide +kernel
theorem dX9_askOf_122 : decode cX9_askOf 122 = .ok (.iconst (-1), 1) := by decide +kernel
theorem dX9_askOf_123 : decode cX9_askOf 123 = .ok (.istore 4, 2) := by decide +kernel
theorem dX9_askOf_125 : decode cX9_askOf 125 = .ok (.iconst 0, 1) := by decide +kernel
theorem dX9_askOf_126 : decode cX9_askOf 126 = .ok (.istore 5, 2) := by decide +kernel
theorem dX9_askOf_128 : decode cX9_askOf 128 = .ok (.iconst 0, 1) := by decide +kernel
theorem dX9_askOf_129 : decode cX9_askOf 129 = .ok (.istore 6, 2) := by decide +kernel
theorem dX9_askOf_131 : decode cX9_askOf 131 = .ok (.iload 6, 2) := by decide +kernel
theorem dX9_askOf_133 : decode cX9_askOf 133 = .ok (.aload_n 0, 1) := by decide +kernel
theorem dX9_askOf_134 : decode cX9_askOf 134 = .ok (.getfield 106, 3) := by decide +kernel
theorem dX9_askOf_137 : decode cX9_askOf 137 = .ok (.if_icmp .ge 111, 3) := by decide +kernel
theorem dX9_askOf_140 : decode cX9_askOf 140 = .ok (.iconst 0, 1) := by decide +kernel
theorem dX9_askOf_141 : decode cX9_askOf 141 = .ok (.istore 7, 2) := by decide +kernel
theorem dX9_askOf_143 : decode cX9_askOf 143 = .ok (.iconst 0, 1) := by decide +kernel
theorem dX9_askOf_144 : decode cX9_askOf 144 = .ok (.istore 8, 2) := by decide +kernel
theorem dX9_askOf_146 : decode cX9_askOf 146 = .ok (.iload 8, 2) := by decide +kernel
theorem dX9_askOf_148 : decode cX9_askOf 148 = .ok (.iconst 4, 1) := by decide +kernel
theorem dX9_askOf_149 : decode cX9_askOf 149 = .ok (.if_icmp .ge 45, 3) := by decide +kernel
theorem dX9_askOf_152 : decode cX9_askOf 152 = .ok (.aload_n 0, 1) := by decide +kernel
theorem dX9_askOf_153 : decode cX9_askOf 153 = .ok (.getfield 55, 3) := by decide +kernel
theorem dX9_askOf_156 : decode cX9_askOf 156 = .ok (.iconst 4, 1) := by decide +kernel
theorem dX9_askOf_157 : decode cX9_askOf 157 = .ok (.iload 6, 2) := by decide +kernel
theorem dX9_askOf_159 : decode cX9_askOf 159 = .ok (.imul, 1) := by decide +kernel
theorem dX9_askOf_160 : decode cX9_askOf 160 = .ok (.iload 8, 2) := by decide +kernel
theorem dX9_askOf_162 : decode cX9_askOf 162 = .ok (.iadd, 1) := by decide +kernel
theorem dX9_askOf_163 : decode cX9_askOf 163 = .ok (.iaload, 1) := by decide +kernel
theorem dX9_askOf_164 : decode cX9_askOf 164 = .ok (.iload 7, 2) := by decide +kernel
theorem dX9_askOf_166 : decode cX9_askOf 166 = .ok (.if_icmp .le 18, 3) := by decide +kernel
theorem dX9_askOf_169 : decode cX9_askOf 169 = .ok (.aload_n 0, 1) := by decide +kernel
theorem dX9_askOf_170 : decode cX9_askOf 170 = .ok (.getfield 55, 3) := by decide +kernel
theorem dX9_askOf_173 : decode cX9_askOf 173 = .ok (.iconst 4, 1) := by decide +kernel
theorem dX9_askOf_174 : decode cX9_askOf 174 = .ok (.iload 6, 2) := by decide +kernel
theorem dX9_askOf_176 : decode cX9_askOf 176 = .ok (.imul, 1) := by decide +kernel
theorem dX9_askOf_177 : decode cX9_askOf 177 = .ok (.iload 8, 2) := by decide +kernel
theorem dX9_askOf_179 : decode cX9_askOf 179 = .ok (.iadd, 1) := by decide +kernel
theorem dX9_askOf_180 : decode cX9_askOf 180 = .ok (.iaload, 1) := by decide +kernel
theorem dX9_askOf_181 : decode cX9_askOf 181 = .ok (.goto 5, 3) := by decide +kernel
theorem dX9_askOf_184 : decode cX9_askOf 184 = .ok (.iload 7, 2) := by decide +kernel
theorem dX9_askOf_186 : decode cX9_askOf 186 = .ok (.istore 7, 2) := by decide +kernel
theorem dX9_askOf_188 : decode cX9_askOf 188 = .ok (.iinc 8 1, 3) := by decide +kernel
theorem dX9_askOf_191 : decode cX9_askOf 191 = .ok (.goto (-45), 3) := by decide +kernel
theorem dX9_askOf_194 : decode cX9_askOf 194 = .ok (.iload 4, 2) := by decide +kernel
theorem dX9_askOf_196 : decode cX9_askOf 196 = .ok (.iconst (-1), 1) := by decide +kernel
theorem dX9_askOf_197 : decode cX9_askOf 197 = .ok (.if_icmp .eq 10, 3) := by decide +kernel
theorem dX9_askOf_200 : decode cX9_askOf 200 = .ok (.iload 7, 2) := by decide +kernel
theorem dX9_askOf_202 : decode cX9_askOf 202 = .ok (.iload 5, 2) := by decide +kernel
theorem dX9_askOf_204 : decode cX9_askOf 204 = .ok (.if_icmp .ge 7, 3) := by decide +kernel
theorem dX9_askOf_207 : decode cX9_askOf 207 = .ok (.iconst 1, 1) := by decide +kernel
theorem dX9_askOf_208 : decode cX9_askOf 208 = .ok (.goto 4, 3) := by decide +kernel
theorem dX9_askOf_211 : decode cX9_askOf 211 = .ok (.iconst 0, 1) := by decide +kernel
theorem dX9_askOf_212 : decode cX9_askOf 212 = .ok (.istore 8, 2) := by decide +kernel
theorem dX9_askOf_214 : decode cX9_askOf 214 = .ok (.iload 8, 2) := by decide +kernel
theorem dX9_askOf_216 : decode cX9_askOf 216 = .ok (.ifCond .eq 8, 3) := by decide +kernel
theorem dX9_askOf_219 : decode cX9_askOf 219 = .ok (.iload 6, 2) := by decide +kernel
theorem dX9_askOf_221 : decode cX9_askOf 221 = .ok (.goto 5, 3) := by decide +kernel
theorem dX9_askOf_224 : decode cX9_askOf 224 = .ok (.iload 4, 2) := by decide +kernel
theorem dX9_askOf_226 : decode cX9_askOf 226 = .ok (.istore 4, 2) := by decide +kernel
theorem dX9_askOf_228 : decode cX9_askOf 228 = .ok (.iload 8, 2) := by decide +kernel
theorem dX9_askOf_230 : decode cX9_askOf 230 = .ok (.ifCond .eq 8, 3) := by decide +kernel
theorem dX9_askOf_233 : decode cX9_askOf 233 = .ok (.iload 7, 2) := by decide +kernel
theorem dX9_askOf_235 : decode cX9_askOf 235 = .ok (.goto 5, 3) := by decide +kernel
theorem dX9_askOf_238 : decode cX9_askOf 238 = .ok (.iload 5, 2) := by decide +kernel
theorem dX9_askOf_240 : decode cX9_askOf 240 = .ok (.istore 5, 2) := by decide +kernel
theorem dX9_askOf_242 : decode cX9_askOf 242 = .ok (.iinc 6 1, 3) := by decide +kernel
theorem dX9_askOf_245 : decode cX9_askOf 245 = .ok (.goto (-114), 3) := by decide +kernel
theorem dX9_askOf_248 : decode cX9_askOf 248 = .ok (.iload 4, 2) := by decide +kernel
theorem dX9_askOf_250 : decode cX9_askOf 250 = .ok (.ireturn, 1) := by decide +kernel
theorem dX9_ask_0 : decode cX9_ask 0 = .ok (.aload_n 0, 1) := by decide +kernel
theorem dX9_ask_1 : decode cX9_ask 1 = .ok (.invokevirtual 184, 3) := by decide +kernel
theorem dX9_ask_4 : decode cX9_ask 4 = .ok (.iload_n 1, 1) := by decide +kernel
theorem dX9_ask_5 : decode cX9_ask 5 = .ok (.invokestatic 136, 3) := by decide +kernel
theorem dX9_ask_8 : decode cX9_ask 8 = .ok (.ifCond .eq 11, 3) := by decide +kernel
theorem dX9_ask_11 : decode cX9_ask 11 = .ok (.aload_n 0, 1) := by decide +kernel
theorem dX9_ask_12 : decode cX9_ask 12 = .ok (.iload_n 1, 1) := by decide +kernel
theorem dX9_ask_13 : decode cX9_ask 13 = .ok (.invokevirtual 243, 3) := by decide +kernel
theorem dX9_ask_16 : decode cX9_ask 16 = .ok (.goto 5, 3) := by decide +kernel
theorem dX9_ask_19 : decode cX9_ask 19 = .ok (.bipush (-2), 2) := by decide +kernel
theorem dX9_ask_21 : decode cX9_ask 21 = .ok (.ireturn, 1) := by decide +kernel
theorem dX9_catOf_0 : decode cX9_catOf 0 = .ok (.lconst 0, 1) := by decide +kernel
theorem dX9_catOf_1 : decode cX9_catOf 1 = .ok (.lstore 6, 2) := by decide +kernel
theorem dX9_catOf_3 : decode cX9_catOf 3 = .ok (.iconst 0, 1) := by decide +kernel
theorem dX9_catOf_4 : decode cX9_catOf 4 = .ok (.istore 8, 2) := by decide +kernel
theorem dX9_catOf_6 : decode cX9_catOf 6 = .ok (.iload 8, 2) := by decide +kernel
theorem dX9_catOf_8 : decode cX9_catOf 8 = .ok (.iconst 1, 1) := by decide +kernel
theorem dX9_catOf_9 : decode cX9_catOf 9 = .ok (.aload_n 0, 1) := by decide +kernel
theorem dX9_catOf_10 : decode cX9_catOf 10 = .ok (.getfield 133, 3) := by decide +kernel
theorem dX9_catOf_13 : decode cX9_catOf 13 = .ok (.ishl, 1) := by decide +kernel
theorem dX9_catOf_14 : decode cX9_catOf 14 = .ok (.if_icmp .ge 79, 3) := by decide +kernel
theorem dX9_catOf_17 : decode cX9_catOf 17 = .ok (.aload_n 0, 1) := by decide +kernel
theorem dX9_catOf_18 : decode cX9_catOf 18 = .ok (.iload 8, 2) := by decide +kernel
theorem dX9_catOf_20 : decode cX9_catOf 20 = .ok (.putfield 152, 3) := by decide +kernel
theorem dX9_catOf_23 : decode cX9_catOf 23 = .ok (.aload_n 0, 1) := by decide +kernel
theorem dX9_catOf_24 : decode cX9_catOf 24 = .ok (.iload_n 2, 1) := by decide +kernel
theorem dX9_catOf_25 : decode cX9_catOf 25 = .ok (.iload_n 3, 1) := by decide +kernel
theorem dX9_catOf_26 : decode cX9_catOf 26 = .ok (.iload 4, 2) := by decide +kernel
theorem dX9_catOf_28 : decode cX9_catOf 28 = .ok (.invokevirtual 210, 3) := by decide +kernel
theorem dX9_catOf_31 : decode cX9_catOf 31 = .ok (.ifCond .eq 56, 3) := by decide +kernel
theorem dX9_catOf_34 : decode cX9_catOf 34 = .ok (.lconst 1, 1) := by decide +kernel
theorem dX9_catOf_35 : decode cX9_catOf 35 = .ok (.lstore 9, 2) := by decide +kernel
theorem dX9_catOf_37 : decode cX9_catOf 37 = .ok (.iconst 0, 1) := by decide +kernel
theorem dX9_catOf_38 : decode cX9_catOf 38 = .ok (.istore 11, 2) := by decide +kernel
theorem dX9_catOf_40 : decode cX9_catOf 40 = .ok (.iload 11, 2) := by decide +kernel
theorem dX9_catOf_42 : decode cX9_catOf 42 = .ok (.aload_n 0, 1) := by decide +kernel
theorem dX9_catOf_43 : decode cX9_catOf 43 = .ok (.getfield 133, 3) := by decide +kernel
theorem dX9_catOf_46 : decode cX9_catOf 46 = .ok (.if_icmp .ge 34, 3) := by decide +kernel
theorem dX9_catOf_49 : decode cX9_catOf 49 = .ok (.lload 9, 2) := by decide +kernel
theorem dX9_catOf_51 : decode cX9_catOf 51 = .ok (.iload 8, 2) := by decide +kernel
theorem dX9_catOf_53 : decode cX9_catOf 53 = .ok (.iload 11, 2) := by decide +kernel
theorem dX9_catOf_55 : decode cX9_catOf 55 = .ok (.invokestatic 155, 3) := by decide +kernel
theorem dX9_catOf_58 : decode cX9_catOf 58 = .ok (.ifCond .eq 11, 3) := by decide +kernel
theorem dX9_catOf_61 : decode cX9_catOf 61 = .ok (.bipush 16, 2) := by decide +kernel
theorem dX9_catOf_63 : decode cX9_catOf 63 = .ok (.iload_n 1, 1) := by decide +kernel
theorem dX9_catOf_64 : decode cX9_catOf 64 = .ok (.isub, 1) := by decide +kernel
theorem dX9_catOf_65 : decode cX9_catOf 65 = .ok (.i2l, 1) := by decide +kernel
theorem dX9_catOf_66 : decode cX9_catOf 66 = .ok (.goto 5, 3) := by decide +kernel
theorem dX9_catOf_69 : decode cX9_catOf 69 = .ok (.iload_n 1, 1) := by decide +kernel
theorem dX9_catOf_70 : decode cX9_catOf 70 = .ok (.i2l, 1) := by decide +kernel
theorem dX9_catOf_71 : decode cX9_catOf 71 = .ok (.lmul, 1) := by decide +kernel
theorem dX9_catOf_72 : decode cX9_catOf 72 = .ok (.lstore 9, 2) := by decide +kernel
theorem dX9_catOf_74 : decode cX9_catOf 74 = .ok (.iinc 11 1, 3) := by decide +kernel
theorem dX9_catOf_77 : decode cX9_catOf 77 = .ok (.goto (-37), 3) := by decide +kernel
theorem dX9_catOf_80 : decode cX9_catOf 80 = .ok (.lload 6, 2) := by decide +kernel
theorem dX9_catOf_82 : decode cX9_catOf 82 = .ok (.lload 9, 2) := by decide +kernel
theorem dX9_catOf_84 : decode cX9_catOf 84 = .ok (.ladd, 1) := by decide +kernel
theorem dX9_catOf_85 : decode cX9_catOf 85 = .ok (.lstore 6, 2) := by decide +kernel
theorem dX9_catOf_87 : decode cX9_catOf 87 = .ok (.iinc 8 1, 3) := by decide +kernel
theorem dX9_catOf_90 : decode cX9_catOf 90 = .ok (.goto (-84), 3) := by decide +kernel
theorem dX9_catOf_93 : decode cX9_catOf 93 = .ok (.aload_n 0, 1) := by decide +kernel
theorem dX9_catOf_94 : decode cX9_catOf 94 = .ok (.iconst 0, 1) := by decide +kernel
theorem dX9_catOf_95 : decode cX9_catOf 95 = .ok (.putfield 152, 3) := by decide +kernel
theorem dX9_catOf_98 : decode cX9_catOf 98 = .ok (.lload 6, 2) := by decide +kernel
theorem dX9_catOf_100 : decode cX9_catOf 100 = .ok (.lconst 1, 1) := by decide +kernel
theorem dX9_catOf_101 : decode cX9_catOf 101 = .ok (.iconst 4, 1) := by decide +kernel
theorem dX9_catOf_102 : decode cX9_catOf 102 = .ok (.aload_n 0, 1) := by decide +kernel
theorem dX9_catOf_103 : decode cX9_catOf 103 = .ok (.getfield 133, 3) := by decide +kernel
theorem dX9_catOf_106 : decode cX9_catOf 106 = .ok (.imul, 1) := by decide +kernel
theorem dX9_catOf_107 : decode cX9_catOf 107 = .ok (.lshl, 1) := by decide +kernel
theorem dX9_catOf_108 : decode cX9_catOf 108 = .ok (.iload 5, 2) := by decide +kernel
theorem dX9_catOf_110 : decode cX9_catOf 110 = .ok (.invokestatic 246, 3) := by decide +kernel
theorem dX9_catOf_113 : decode cX9_catOf 113 = .ok (.lreturn, 1) := by decide +kernel
theorem dX9_cat_0 : decode cX9_cat 0 = .ok (.aload_n 0, 1) := by decide +kernel
theorem dX9_cat_1 : decode cX9_cat 1 = .ok (.invokevirtual 184, 3) := by decide +kernel
theorem dX9_cat_4 : decode cX9_cat 4 = .ok (.iload_n 1, 1) := by decide +kernel
theorem dX9_cat_5 : decode cX9_cat 5 = .ok (.i2l, 1) := by decide +kernel
theorem dX9_cat_6 : decode cX9_cat 6 = .ok (.lconst 0, 1) := by decide +kernel
theorem dX9_cat_7 : decode cX9_cat 7 = .ok (.ldc2_w 250, 3) := by decide +kernel
theorem dX9_cat_10 : decode cX9_cat 10 = .ok (.invokestatic 60, 3) := by decide +kernel
theorem dX9_cat_13 : decode cX9_cat 13 = .ok (.ifCond .eq 53, 3) := by decide +kernel
theorem dX9_cat_16 : decode cX9_cat 16 = .ok (.iload_n 2, 1) := by decide +kernel
theorem dX9_cat_17 : decode cX9_cat 17 = .ok (.invokestatic 136, 3) := by decide +kernel
theorem dX9_cat_20 : decode cX9_cat 20 = .ok (.ifCond .eq 46, 3) := by decide +kernel
theorem dX9_cat_23 : decode cX9_cat 23 = .ok (.aload_n 0, 1) := by decide +kernel
theorem dX9_cat_24 : decode cX9_cat 24 = .ok (.iload_n 3, 1) := by decide +kernel
theorem dX9_cat_25 : decode cX9_cat 25 = .ok (.invokevirtual 126, 3) := by decide +kernel
theorem dX9_cat_28 : decode cX9_cat 28 = .ok (.ifCond .eq 38, 3) := by decide +kernel
theorem dX9_cat_31 : decode cX9_cat 31 = .ok (.iload 4, 2) := by decide +kernel
theorem dX9_cat_33 : decode cX9_cat 33 = .ok (.i2l, 1) := by decide +kernel
theorem dX9_cat_34 : decode cX9_cat 34 = .ok (.lconst 0, 1) := by decide +kernel
theorem dX9_cat_35 : decode cX9_cat 35 = .ok (.ldc2_w 74, 3) := by decide +kernel
theorem dX9_cat_38 : decode cX9_cat 38 = .ok (.invokestatic 60, 3) := by decide +kernel
theorem dX9_cat_41 : decode cX9_cat 41 = .ok (.ifCond .eq 25, 3) := by decide +kernel
theorem dX9_cat_44 : decode cX9_cat 44 = .ok (.iload 5, 2) := by decide +kernel
theorem dX9_cat_46 : decode cX9_cat 46 = .ok (.invokestatic 89, 3) := by decide +kernel
theorem dX9_cat_49 : decode cX9_cat 49 = .ok (.ifCond .eq 17, 3) := by decide +kernel
theorem dX9_cat_52 : decode cX9_cat 52 = .ok (.aload_n 0, 1) := by decide +kernel
theorem dX9_cat_53 : decode cX9_cat 53 = .ok (.iload_n 1, 1) := by decide +kernel
theorem dX9_cat_54 : decode cX9_cat 54 = .ok (.iload_n 2, 1) := by decide +kernel
theorem dX9_cat_55 : decode cX9_cat 55 = .ok (.iload_n 3, 1) := by decide +kernel
theorem dX9_cat_56 : decode cX9_cat 56 = .ok (.iload 4, 2) := by decide +kernel
theorem dX9_cat_58 : decode cX9_cat 58 = .ok (.iload 5, 2) := by decide +kernel
theorem dX9_cat_60 : decode cX9_cat 60 = .ok (.invokevirtual 252, 3) := by decide +kernel
theorem dX9_cat_63 : decode cX9_cat 63 = .ok (.goto 8, 3) := by decide +kernel
theorem dX9_cat_66 : decode cX9_cat 66 = .ok (.bipush (-2), 2) := by decide +kernel
theorem dX9_cat_68 : decode cX9_cat 68 = .ok (.invokestatic 256, 3) := by decide +kernel
theorem dX9_cat_71 : decode cX9_cat 71 = .ok (.lreturn, 1) := by decide +kernel
theorem dX9_lot_0 : decode cX9_lot 0 = .ok (.aload_n 0, 1) := by decide +kernel
theorem dX9_lot_1 : decode cX9_lot 1 = .ok (.ldc_w 260, 3) := by decide +kernel
theorem dX9_lot_4 : decode cX9_lot 4 = .ok (.aload_n 0, 1) := by decide +kernel
theorem dX9_lot_5 : decode cX9_lot 5 = .ok (.getfield 261, 3) := by decide +kernel
theorem dX9_lot_8 : decode cX9_lot 8 = .ok (.imul, 1) := by decide +kernel
theorem dX9_lot_9 : decode cX9_lot 9 = .ok (.sipush 12345, 3) := by decide +kernel
theorem dX9_lot_12 : decode cX9_lot 12 = .ok (.iadd, 1) := by decide +kernel
theorem dX9_lot_13 : decode cX9_lot 13 = .ok (.putfield 261, 3) := by decide +kernel
theorem dX9_lot_16 : decode cX9_lot 16 = .ok (.aload_n 0, 1) := by decide +kernel
theorem dX9_lot_17 : decode cX9_lot 17 = .ok (.getfield 261, 3) := by decide +kernel
theorem dX9_lot_20 : decode cX9_lot 20 = .ok (.bipush 16, 2) := by decide +kernel
theorem dX9_lot_22 : decode cX9_lot 22 = .ok (.iushr, 1) := by decide +kernel
theorem dX9_lot_23 : decode cX9_lot 23 = .ok (.iload_n 1, 1) := by decide +kernel
theorem dX9_lot_24 : decode cX9_lot 24 = .ok (.irem, 1) := by decide +kernel
theorem dX9_lot_25 : decode cX9_lot 25 = .ok (.ireturn, 1) := by decide +kernel
theorem dX9_besides_0 : decode cX9_besides 0 = .ok (.iconst 0, 1) := by decide +kernel
theorem dX9_besides_1 : decode cX9_besides 1 = .ok (.istore_n 3, 1) := by decide +kernel
theorem dX9_besides_2 : decode cX9_besides 2 = .ok (.iconst (-1), 1) := by decide +kernel
theorem dX9_besides_3 : decode cX9_besides 3 = .ok (.istore 4, 2) := by decide +kernel
theorem dX9_besides_5 : decode cX9_besides 5 = .ok (.iconst 0, 1) := by decide +kernel
theorem dX9_besides_6 : decode cX9_besides 6 = .ok (.istore 5, 2) := by decide +kernel
theorem dX9_besides_8 : decode cX9_besides 8 = .ok (.iload 5, 2) := by decide +kernel
theorem dX9_besides_10 : decode cX9_besides 10 = .ok (.iconst 4, 1) := by decide +kernel
theorem dX9_besides_11 : decode cX9_besides 11 = .ok (.if_icmp .ge 52, 3) := by decide +kernel
theorem dX9_besides_14 : decode cX9_besides 14 = .ok (.aload_n 0, 1) := by decide +kernel
theorem dX9_besides_15 : decode cX9_besides 15 = .ok (.iload_n 1, 1) := by decide +kernel
theorem dX9_besides_16 : decode cX9_besides 16 = .ok (.iload 5, 2) := by decide +kernel
theorem dX9_besides_18 : decode cX9_besides 18 = .ok (.invokevirtual 159, 3) := by decide +kernel
theorem dX9_besides_21 : decode cX9_besides 21 = .ok (.istore 6, 2) := by decide +kernel
theorem dX9_besides_23 : decode cX9_besides 23 = .ok (.iload 6, 2) := by decide +kernel
theorem dX9_besides_25 : decode cX9_besides 25 = .ok (.iconst (-1), 1) := by decide +kernel
theorem dX9_besides_26 : decode cX9_besides 26 = .ok (.if_icmp .eq 13, 3) := by decide +kernel
theorem dX9_besides_29 : decode cX9_besides 29 = .ok (.iload_n 3, 1) := by decide +kernel
theorem dX9_besides_30 : decode cX9_besides 30 = .ok (.iload_n 2, 1) := by decide +kernel
theorem dX9_besides_31 : decode cX9_besides 31 = .ok (.if_icmp .ne 8, 3) := by decide +kernel
theorem dX9_besides_34 : decode cX9_besides 34 = .ok (.iload 6, 2) := by decide +kernel
theorem dX9_besides_36 : decode cX9_besides 36 = .ok (.goto 5, 3) := by decide +kernel
theorem dX9_besides_39 : decode cX9_besides 39 = .ok (.iload 4, 2) := by decide +kernel
theorem dX9_besides_41 : decode cX9_besides 41 = .ok (.istore 4, 2) := by decide +kernel
theorem dX9_besides_43 : decode cX9_besides 43 = .ok (.iload_n 3, 1) := by decide +kernel
theorem dX9_besides_44 : decode cX9_besides 44 = .ok (.iload 6, 2) := by decide +kernel
theorem dX9_besides_46 : decode cX9_besides 46 = .ok (.iconst (-1), 1) := by decide +kernel
theorem dX9_besides_47 : decode cX9_besides 47 = .ok (.if_icmp .ne 7, 3) := by decide +kernel
theorem dX9_besides_50 : decode cX9_besides 50 = .ok (.iconst 0, 1) := by decide +kernel
theorem dX9_besides_51 : decode cX9_besides 51 = .ok (.goto 4, 3) := by decide +kernel
theorem dX9_besides_54 : decode cX9_besides 54 = .ok (.iconst 1, 1) := by decide +kernel
theorem dX9_besides_55 : decode cX9_besides 55 = .ok (.iadd, 1) := by decide +kernel
theorem dX9_besides_56 : decode cX9_besides 56 = .ok (.istore_n 3, 1) := by decide +kernel
theorem dX9_besides_57 : decode cX9_besides 57 = .ok (.iinc 5 1, 3) := by decide +kernel
theorem dX9_besides_60 : decode cX9_besides 60 = .ok (.goto (-52), 3) := by decide +kernel
theorem dX9_besides_63 : decode cX9_besides 63 = .ok (.iload_n 2, 1) := by decide +kernel
theorem dX9_besides_64 : decode cX9_besides 64 = .ok (.iconst (-1), 1) := by decide +kernel
theorem dX9_besides_65 : decode cX9_besides 65 = .ok (.if_icmp .ne 7, 3) := by decide +kernel
theorem dX9_besides_68 : decode cX9_besides 68 = .ok (.iload_n 3, 1) := by decide +kernel
theorem dX9_besides_69 : decode cX9_besides 69 = .ok (.goto 5, 3) := by decide +kernel
theorem dX9_besides_72 : decode cX9_besides 72 = .ok (.iload 4, 2) := by decide +kernel
theorem dX9_besides_74 : decode cX9_besides 74 = .ok (.ireturn, 1) := by decide +kernel
theorem dX9_roamOf_0 : decode cX9_roamOf 0 = .ok (.aload_n 0, 1) := by decide +kernel
theorem dX9_roamOf_1 : decode cX9_roamOf 1 = .ok (.getfield 34, 3) := by decide +kernel
theorem dX9_roamOf_4 : decode cX9_roamOf 4 = .ok (.iconst 0, 1) := by decide +kernel
theorem dX9_roamOf_5 : decode cX9_roamOf 5 = .ok (.iaload, 1) := by decide +kernel
theorem dX9_roamOf_6 : decode cX9_roamOf 6 = .ok (.aload_n 0, 1) := by decide +kernel
theorem dX9_roamOf_7 : decode cX9_roamOf 7 = .ok (.getfield 97, 3) := by decide +kernel
theorem dX9_roamOf_10 : decode cX9_roamOf 10 = .ok (.imul, 1) := by decide +kernel
theorem dX9_roamOf_11 : decode cX9_roamOf 11 = .ok (.istore 4, 2) := by decide +kernel
theorem dX9_roamOf_13 : decode cX9_roamOf 13 = .ok (.aload_n 0, 1) := by decide +kernel
theorem dX9_roamOf_14 : decode cX9_roamOf 14 = .ok (.iload 4, 2) := by decide +kernel
theorem dX9_roamOf_16 : decode cX9_roamOf 16 = .ok (.invokevirtual 165, 3) := by decide +kernel
theorem dX9_roamOf_19 : decode cX9_roamOf 19 = .ok (.ifCond .eq 14, 3) := by decide +kernel
theorem dX9_roamOf_22 : decode cX9_roamOf 22 = .ok (.aload_n 0, 1) := by decide +kernel
theorem dX9_roamOf_23 : decode cX9_roamOf 23 = .ok (.getfield 28, 3) := by decide +kernel
theorem dX9_roamOf_26 : decode cX9_roamOf 26 = .ok (.iload 4, 2) := by decide +kernel
theorem dX9_roamOf_28 : decode cX9_roamOf 28 = .ok (.iaload, 1) := by decide +kernel
theorem dX9_roamOf_29 : decode cX9_roamOf 29 = .ok (.iconst 1, 1) := by decide +kernel
theorem dX9_roamOf_30 : decode cX9_roamOf 30 = .ok (.if_icmp .ne 13, 3) := by decide +kernel
theorem dX9_roamOf_33 : decode cX9_roamOf 33 = .ok (.iload_n 3, 1) := by decide +kernel
theorem dX9_roamOf_34 : decode cX9_roamOf 34 = .ok (.ifCond .ne 7, 3) := by decide +kernel
theorem dX9_roamOf_37 : decode cX9_roamOf 37 = .ok (.iconst (-1), 1) := by decide +kernel
theorem dX9_roamOf_38 : decode cX9_roamOf 38 = .ok (.goto 4, 3) := by decide +kernel
theorem dX9_roamOf_41 : decode cX9_roamOf 41 = .ok (.iconst 0, 1) := by decide +kernel
theorem dX9_roamOf_42 : decode cX9_roamOf 42 = .ok (.ireturn, 1) := by decide +kernel
theorem dX9_roamOf_43 : decode cX9_roamOf 43 = .ok (.aload_n 0, 1) := by decide +kernel
theorem dX9_roamOf_44 : decode cX9_roamOf 44 = .ok (.iload_n 1, 1) := by decide +kernel
theorem dX9_roamOf_45 : decode cX9_roamOf 45 = .ok (.putfield 261, 3) := by decide +kernel
theorem dX9_roamOf_48 : decode cX9_roamOf 48 = .ok (.lconst 1, 1) := by decide +kernel
theorem dX9_roamOf_49 : decode cX9_roamOf 49 = .ok (.iload 4, 2) := by decide +kernel
theorem dX9_roamOf_51 : decode cX9_roamOf 51 = .ok (.lshl, 1) := by decide +kernel
theorem dX9_roamOf_52 : decode cX9_roamOf 52 = .ok (.lstore 5, 2) := by decide +kernel
theorem dX9_roamOf_54 : decode cX9_roamOf 54 = .ok (.iconst 0, 1) := by decide +kernel
theorem dX9_roamOf_55 : decode cX9_roamOf 55 = .ok (.istore 7, 2) := by decide +kernel
theorem dX9_roamOf_57 : decode cX9_roamOf 57 = .ok (.iload 7, 2) := by decide +kernel
theorem dX9_roamOf_59 : decode cX9_roamOf 59 = .ok (.iload_n 2, 1) := by decide +kernel
theorem dX9_roamOf_60 : decode cX9_roamOf 60 = .ok (.if_icmp .ge 51, 3) := by decide +kernel
theorem dX9_roamOf_63 : decode cX9_roamOf 63 = .ok (.aload_n 0, 1) := by decide +kernel
theorem dX9_roamOf_64 : decode cX9_roamOf 64 = .ok (.iload 4, 2) := by decide +kernel
theorem dX9_roamOf_66 : decode cX9_roamOf 66 = .ok (.iconst (-1), 1) := by decide +kernel
theorem dX9_roamOf_67 : decode cX9_roamOf 67 = .ok (.invokevirtual 264, 3) := by decide +kernel
theorem dX9_roamOf_70 : decode cX9_roamOf 70 = .ok (.istore 8, 2) := by decide +kernel
theorem dX9_roamOf_72 : decode cX9_roamOf 72 = .ok (.iload 8, 2) := by decide +kernel
theorem dX9_roamOf_74 : decode cX9_roamOf 74 = .ok (.ifCond .ne 8, 3) := by decide +kernel
theorem dX9_roamOf_77 : decode cX9_roamOf 77 = .ok (.iload 4, 2) := by decide +kernel
theorem dX9_roamOf_79 : decode cX9_roamOf 79 = .ok (.goto 15, 3) := by decide +kernel
theorem dX9_roamOf_82 : decode cX9_roamOf 82 = .ok (.aload_n 0, 1) := by decide +kernel
theorem dX9_roamOf_83 : decode cX9_roamOf 83 = .ok (.iload 4, 2) := by decide +kernel
theorem dX9_roamOf_85 : decode cX9_roamOf 85 = .ok (.aload_n 0, 1) := by decide +kernel
theorem dX9_roamOf_86 : decode cX9_roamOf 86 = .ok (.iload 8, 2) := by decide +kernel
theorem dX9_roamOf_88 : decode cX9_roamOf 88 = .ok (.invokevirtual 267, 3) := by decide +kernel
theorem dX9_roamOf_91 : decode cX9_roamOf 91 = .ok (.invokevirtual 264, 3) := by decide +kernel
theorem dX9_roamOf_94 : decode cX9_roamOf 94 = .ok (.istore 4, 2) := by decide +kernel
theorem dX9_roamOf_96 : decode cX9_roamOf 96 = .ok (.lload 5, 2) := by decide +kernel
theorem dX9_roamOf_98 : decode cX9_roamOf 98 = .ok (.lconst 1, 1) := by decide +kernel
theorem dX9_roamOf_99 : decode cX9_roamOf 99 = .ok (.iload 4, 2) := by decide +kernel
theorem dX9_roamOf_101 : decode cX9_roamOf 101 = .ok (.lshl, 1) := by decide +kernel
theorem dX9_roamOf_102 : decode cX9_roamOf 102 = .ok (.lor, 1) := by decide +kernel
theorem dX9_roamOf_103 : decode cX9_roamOf 103 = .ok (.lstore 5, 2) := by decide +kernel
theorem dX9_roamOf_105 : decode cX9_roamOf 105 = .ok (.iinc 7 1, 3) := by decide +kernel
theorem dX9_roamOf_108 : decode cX9_roamOf 108 = .ok (.goto (-51), 3) := by decide +kernel
theorem dX9_roamOf_111 : decode cX9_roamOf 111 = .ok (.iconst 0, 1) := by decide +kernel
theorem dX9_roamOf_112 : decode cX9_roamOf 112 = .ok (.istore 7, 2) := by decide +kernel
theorem dX9_roamOf_114 : decode cX9_roamOf 114 = .ok (.lload 5, 2) := by decide +kernel
theorem dX9_roamOf_116 : decode cX9_roamOf 116 = .ok (.lstore 8, 2) := by decide +kernel
theorem dX9_roamOf_118 : decode cX9_roamOf 118 = .ok (.lload 8, 2) := by decide +kernel
theorem dX9_roamOf_120 : decode cX9_roamOf 120 = .ok (.lconst 0, 1) := by decide +kernel
theorem dX9_roamOf_121 : decode cX9_roamOf 121 = .ok (.lcmp, 1) := by decide +kernel
theorem dX9_roamOf_122 : decode cX9_roamOf 122 = .ok (.ifCond .eq 18, 3) := by decide +kernel
theorem dX9_roamOf_125 : decode cX9_roamOf 125 = .ok (.iinc 7 1, 3) := by decide +kernel
theorem dX9_roamOf_128 : decode cX9_roamOf 128 = .ok (.lload 8, 2) := by decide +kernel
theorem dX9_roamOf_130 : decode cX9_roamOf 130 = .ok (.lload 8, 2) := by decide +kernel
theorem dX9_roamOf_132 : decode cX9_roamOf 132 = .ok (.lconst 1, 1) := by decide +kernel
theorem dX9_roamOf_133 : decode cX9_roamOf 133 = .ok (.lsub, 1) := by decide +kernel
theorem dX9_roamOf_134 : decode cX9_roamOf 134 = .ok (.land, 1) := by decide +kernel
theorem dX9_roamOf_135 : decode cX9_roamOf 135 = .ok (.lstore 8, 2) := by decide +kernel
theorem dX9_roamOf_137 : decode cX9_roamOf 137 = .ok (.goto (-19), 3) := by decide +kernel
theorem dX9_roamOf_140 : decode cX9_roamOf 140 = .ok (.iload_n 3, 1) := by decide +kernel
theorem dX9_roamOf_141 : decode cX9_roamOf 141 = .ok (.ifCond .ne 8, 3) := by decide +kernel
theorem dX9_roamOf_144 : decode cX9_roamOf 144 = .ok (.iload 4, 2) := by decide +kernel
theorem dX9_roamOf_146 : decode cX9_roamOf 146 = .ok (.goto 5, 3) := by decide +kernel
theorem dX9_roamOf_149 : decode cX9_roamOf 149 = .ok (.iload 7, 2) := by decide +kernel
theorem dX9_roamOf_151 : decode cX9_roamOf 151 = .ok (.ireturn, 1) := by decide +kernel
theorem dX9_roam_0 : decode cX9_roam 0 = .ok (.aload_n 0, 1) := by decide +kernel
theorem dX9_roam_1 : decode cX9_roam 1 = .ok (.invokevirtual 184, 3) := by decide +kernel
theorem dX9_roam_4 : decode cX9_roam 4 = .ok (.iload_n 2, 1) := by decide +kernel
theorem dX9_roam_5 : decode cX9_roam 5 = .ok (.i2l, 1) := by decide +kernel
theorem dX9_roam_6 : decode cX9_roam 6 = .ok (.lconst 0, 1) := by decide +kernel
theorem dX9_roam_7 : decode cX9_roam 7 = .ok (.ldc2_w 270, 3) := by decide +kernel
theorem dX9_roam_10 : decode cX9_roam 10 = .ok (.invokestatic 60, 3) := by decide +kernel
theorem dX9_roam_13 : decode cX9_roam 13 = .ok (.ifCond .eq 20, 3) := by decide +kernel
theorem dX9_roam_16 : decode cX9_roam 16 = .ok (.iload_n 3, 1) := by decide +kernel
theorem dX9_roam_17 : decode cX9_roam 17 = .ok (.invokestatic 89, 3) := by decide +kernel
theorem dX9_roam_20 : decode cX9_roam 20 = .ok (.ifCond .eq 13, 3) := by decide +kernel
theorem dX9_roam_23 : decode cX9_roam 23 = .ok (.aload_n 0, 1) := by decide +kernel
theorem dX9_roam_24 : decode cX9_roam 24 = .ok (.iload_n 1, 1) := by decide +kernel
theorem dX9_roam_25 : decode cX9_roam 25 = .ok (.iload_n 2, 1) := by decide +kernel
theorem dX9_roam_26 : decode cX9_roam 26 = .ok (.iload_n 3, 1) := by decide +kernel
theorem dX9_roam_27 : decode cX9_roam 27 = .ok (.invokevirtual 272, 3) := by decide +kernel
theorem dX9_roam_30 : decode cX9_roam 30 = .ok (.goto 5, 3) := by decide +kernel
theorem dX9_roam_33 : decode cX9_roam 33 = .ok (.bipush (-2), 2) := by decide +kernel
theorem dX9_roam_35 : decode cX9_roam 35 = .ok (.ireturn, 1) := by decide +kernel
theorem dX9_write_0 : decode cX9_write 0 = .ok (.iload_n 1, 1) := by decide +kernel
theorem dX9_write_1 : decode cX9_write 1 = .ok (.invokestatic 136, 3) := by decide +kernel
theorem dX9_write_4 : decode cX9_write 4 = .ok (.ifCond .eq 10, 3) := by decide +kernel
theorem dX9_write_7 : decode cX9_write 7 = .ok (.iload_n 2, 1) := by decide +kernel
theorem dX9_write_8 : decode cX9_write 8 = .ok (.invokestatic 70, 3) := by decide +kernel
theorem dX9_write_11 : decode cX9_write 11 = .ok (.ifCond .ne 6, 3) := by decide +kernel
theorem dX9_write_14 : decode cX9_write 14 = .ok (.bipush (-2), 2) := by decide +kernel
theorem dX9_write_16 : decode cX9_write 16 = .ok (.ireturn, 1) := by decide +kernel
theorem dX9_write_17 : decode cX9_write 17 = .ok (.aload_n 0, 1) := by decide +kernel
theorem dX9_write_18 : decode cX9_write 18 = .ok (.getfield 7, 3) := by decide +kernel
theorem dX9_write_21 : decode cX9_write 21 = .ok (.iload_n 2, 1) := by decide +kernel
theorem dX9_write_22 : decode cX9_write 22 = .ok (.iaload, 1) := by decide +kernel
theorem dX9_write_23 : decode cX9_write 23 = .ok (.ifCond .ge 9, 3) := by decide +kernel
theorem dX9_write_26 : decode cX9_write 26 = .ok (.aload_n 0, 1) := by decide +kernel
theorem dX9_write_27 : decode cX9_write 27 = .ok (.iconst 1, 1) := by decide +kernel
theorem dX9_write_28 : decode cX9_write 28 = .ok (.invokevirtual 76, 3) := by decide +kernel
theorem dX9_write_31 : decode cX9_write 31 = .ok (.ireturn, 1) := by decide +kernel
theorem dX9_write_32 : decode cX9_write 32 = .ok (.aload_n 0, 1) := by decide +kernel
theorem dX9_write_33 : decode cX9_write 33 = .ok (.invokevirtual 184, 3) := by decide +kernel
theorem dX9_write_36 : decode cX9_write 36 = .ok (.aload_n 0, 1) := by decide +kernel
theorem dX9_write_37 : decode cX9_write 37 = .ok (.getfield 13, 3) := by decide +kernel
theorem dX9_write_40 : decode cX9_write 40 = .ok (.iload_n 2, 1) := by decide +kernel
theorem dX9_write_41 : decode cX9_write 41 = .ok (.iaload, 1) := by decide +kernel
theorem dX9_write_42 : decode cX9_write 42 = .ok (.bipush 25, 2) := by decide +kernel
theorem dX9_write_44 : decode cX9_write 44 = .ok (.invokestatic 181, 3) := by decide +kernel
theorem dX9_write_47 : decode cX9_write 47 = .ok (.istore_n 3, 1) := by decide +kernel
theorem dX9_write_48 : decode cX9_write 48 = .ok (.iconst 0, 1) := by decide +kernel
theorem dX9_write_49 : decode cX9_write 49 = .ok (.istore 4, 2) := by decide +kernel
theorem dX9_write_51 : decode cX9_write 51 = .ok (.iload 4, 2) := by decide +kernel
theorem dX9_write_53 : decode cX9_write 53 = .ok (.iload_n 3, 1) := by decide +kernel
theorem dX9_write_54 : decode cX9_write 54 = .ok (.if_icmp .ge 37, 3) := by decide +kernel
theorem dX9_write_57 : decode cX9_write 57 = .ok (.aload_n 0, 1) := by decide +kernel
theorem dX9_write_58 : decode cX9_write 58 = .ok (.getfield 16, 3) := by decide +kernel
theorem dX9_write_61 : decode cX9_write 61 = .ok (.bipush 60, 2) := by decide +kernel
theorem dX9_write_63 : decode cX9_write 63 = .ok (.iload_n 2, 1) := by decide +kernel
theorem dX9_write_64 : decode cX9_write 64 = .ok (.imul, 1) := by decide +kernel
theorem dX9_write_65 : decode cX9_write 65 = .ok (.iload 4, 2) := by decide +kernel
theorem dX9_write_67 : decode cX9_write 67 = .ok (.iadd, 1) := by decide +kernel
theorem dX9_write_68 : decode cX9_write 68 = .ok (.aload_n 0, 1) := by decide +kernel
theorem dX9_write_69 : decode cX9_write 69 = .ok (.getfield 7, 3) := by decide +kernel
theorem dX9_write_72 : decode cX9_write 72 = .ok (.iload_n 2, 1) := by decide +kernel
theorem dX9_write_73 : decode cX9_write 73 = .ok (.iaload, 1) := by decide +kernel
theorem dX9_write_74 : decode cX9_write 74 = .ok (.aload_n 0, 1) := by decide +kernel
theorem dX9_write_75 : decode cX9_write 75 = .ok (.iload_n 1, 1) := by decide +kernel
theorem dX9_write_76 : decode cX9_write 76 = .ok (.iload 4, 2) := by decide +kernel
theorem dX9_write_78 : decode cX9_write 78 = .ok (.invokevirtual 189, 3) := by decide +kernel
theorem dX9_write_81 : decode cX9_write 81 = .ok (.invokestatic 84, 3) := by decide +kernel
theorem dX9_write_84 : decode cX9_write 84 = .ok (.iastore, 1) := by decide +kernel
theorem dX9_write_85 : decode cX9_write 85 = .ok (.iinc 4 1, 3) := by decide +kernel
theorem dX9_write_88 : decode cX9_write 88 = .ok (.goto (-37), 3) := by decide +kernel
theorem dX9_write_91 : decode cX9_write 91 = .ok (.iload_n 3, 1) := by decide +kernel
theorem dX9_write_92 : decode cX9_write 92 = .ok (.ireturn, 1) := by decide +kernel
theorem dX9_count_0 : decode cX9_count 0 = .ok (.aload_n 0, 1) := by decide +kernel
theorem dX9_count_1 : decode cX9_count 1 = .ok (.invokevirtual 184, 3) := by decide +kernel
theorem dX9_count_4 : decode cX9_count 4 = .ok (.iload_n 1, 1) := by decide +kernel
theorem dX9_count_5 : decode cX9_count 5 = .ok (.tableswitch 95 0 8 #[51, 56, 61, 61, 70, 75, 80, 85, 90], 51) := by decide +kernel
theorem dX9_count_56 : decode cX9_count 56 = .ok (.aload_n 0, 1) := by decide +kernel
theorem dX9_count_57 : decode cX9_count 57 = .ok (.getfield 94, 3) := by decide +kernel
theorem dX9_count_60 : decode cX9_count 60 = .ok (.ireturn, 1) := by decide +kernel
theorem dX9_count_61 : decode cX9_count 61 = .ok (.aload_n 0, 1) := by decide +kernel
theorem dX9_count_62 : decode cX9_count 62 = .ok (.getfield 106, 3) := by decide +kernel
theorem dX9_count_65 : decode cX9_count 65 = .ok (.ireturn, 1) := by decide +kernel
theorem dX9_count_66 : decode cX9_count 66 = .ok (.aload_n 0, 1) := by decide +kernel
theorem dX9_count_67 : decode cX9_count 67 = .ok (.getfield 25, 3) := by decide +kernel
theorem dX9_count_70 : decode cX9_count 70 = .ok (.iload_n 1, 1) := by decide +kernel
theorem dX9_count_71 : decode cX9_count 71 = .ok (.iconst 2, 1) := by decide +kernel
theorem dX9_count_72 : decode cX9_count 72 = .ok (.isub, 1) := by decide +kernel
theorem dX9_count_73 : decode cX9_count 73 = .ok (.iaload, 1) := by decide +kernel
theorem dX9_count_74 : decode cX9_count 74 = .ok (.ireturn, 1) := by decide +kernel
theorem dX9_count_75 : decode cX9_count 75 = .ok (.aload_n 0, 1) := by decide +kernel
theorem dX9_count_76 : decode cX9_count 76 = .ok (.getfield 133, 3) := by decide +kernel
theorem dX9_count_79 : decode cX9_count 79 = .ok (.ireturn, 1) := by decide +kernel
theorem dX9_count_80 : decode cX9_count 80 = .ok (.aload_n 0, 1) := by decide +kernel
theorem dX9_count_81 : decode cX9_count 81 = .ok (.getfield 143, 3) := by decide +kernel
theorem dX9_count_84 : decode cX9_count 84 = .ok (.ireturn, 1) := by decide +kernel
theorem dX9_count_85 : decode cX9_count 85 = .ok (.aload_n 0, 1) := by decide +kernel
theorem dX9_count_86 : decode cX9_count 86 = .ok (.getfield 97, 3) := by decide +kernel
theorem dX9_count_89 : decode cX9_count 89 = .ok (.ireturn, 1) := by decide +kernel
theorem dX9_count_90 : decode cX9_count 90 = .ok (.aload_n 0, 1) := by decide +kernel
theorem dX9_count_91 : decode cX9_count 91 = .ok (.getfield 230, 3) := by decide +kernel
theorem dX9_count_94 : decode cX9_count 94 = .ok (.ireturn, 1) := by decide +kernel
theorem dX9_count_95 : decode cX9_count 95 = .ok (.aload_n 0, 1) := by decide +kernel
theorem dX9_count_96 : decode cX9_count 96 = .ok (.getfield 64, 3) := by decide +kernel
theorem dX9_count_99 : decode cX9_count 99 = .ok (.ireturn, 1) := by decide +kernel
theorem dX9_count_100 : decode cX9_count 100 = .ok (.bipush (-2), 2) := by decide +kernel
theorem dX9_count_102 : decode cX9_count 102 = .ok (.ireturn, 1) := by decide +kernel
