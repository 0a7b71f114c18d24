theorem dX0_init_0 : decode cX0_init 0 = .ok (.aload_n 0, 1) := by decide +kernel
theorem dX0_init_1 : decode cX0_init 1 = .ok (.invokespecial 3, 3) := by decide +kernel
theorem dX0_init_4 : decode cX0_init 4 = .ok (.aload_n 0, 1) := by decide +kernel
theorem dX0_init_5 : decode cX0_init 5 = .ok (.bipush 8, 2) := by decide +kernel
theorem dX0_init_7 : decode cX0_init 7 = .ok (.newarray .long, 2) := by decide +kernel
theorem dX0_init_9 : decode cX0_init 9 = .ok (.putfield 9, 3) := by decide +kernel
theorem dX0_init_12 : decode cX0_init 12 = .ok (.aload_n 0, 1) := by decide +kernel
theorem dX0_init_13 : decode cX0_init 13 = .ok (.lconst 1, 1) := by decide +kernel
theorem dX0_init_14 : decode cX0_init 14 = .ok (.putfield 15, 3) := by decide +kernel
theorem dX0_init_17 : decode cX0_init 17 = .ok (.aload_n 0, 1) := by decide +kernel
theorem dX0_init_18 : decode cX0_init 18 = .ok (.lconst 0, 1) := by decide +kernel
theorem dX0_init_19 : decode cX0_init 19 = .ok (.putfield 19, 3) := by decide +kernel
theorem dX0_init_22 : decode cX0_init 22 = .ok (.aload_n 0, 1) := by decide +kernel
theorem dX0_init_23 : decode cX0_init 23 = .ok (.lconst 1, 1) := by decide +kernel
theorem dX0_init_24 : decode cX0_init 24 = .ok (.putfield 22, 3) := by decide +kernel
theorem dX0_init_27 : decode cX0_init 27 = .ok (.return_, 1) := by decide +kernel
theorem dX0_reduce_0 : decode cX0_reduce 0 = .ok (.aload_n 0, 1) := by decide +kernel
theorem dX0_reduce_1 : decode cX0_reduce 1 = .ok (.aload_n 0, 1) := by decide +kernel
theorem dX0_reduce_2 : decode cX0_reduce 2 = .ok (.getfield 9, 3) := by decide +kernel
theorem dX0_reduce_5 : decode cX0_reduce 5 = .ok (.iload_n 1, 1) := by decide +kernel
theorem dX0_reduce_6 : decode cX0_reduce 6 = .ok (.laload, 1) := by decide +kernel
theorem dX0_reduce_7 : decode cX0_reduce 7 = .ok (.putfield 19, 3) := by decide +kernel
theorem dX0_reduce_10 : decode cX0_reduce 10 = .ok (.aload_n 0, 1) := by decide +kernel
theorem dX0_reduce_11 : decode cX0_reduce 11 = .ok (.aload_n 0, 1) := by decide +kernel
theorem dX0_reduce_12 : decode cX0_reduce 12 = .ok (.getfield 15, 3) := by decide +kernel
theorem dX0_reduce_15 : decode cX0_reduce 15 = .ok (.putfield 22, 3) := by decide +kernel
theorem dX0_reduce_18 : decode cX0_reduce 18 = .ok (.iconst 0, 1) := by decide +kernel
theorem dX0_reduce_19 : decode cX0_reduce 19 = .ok (.istore_n 2, 1) := by decide +kernel
theorem dX0_reduce_20 : decode cX0_reduce 20 = .ok (.iload_n 2, 1) := by decide +kernel
theorem dX0_reduce_21 : decode cX0_reduce 21 = .ok (.bipush 32, 2) := by decide +kernel
theorem dX0_reduce_23 : decode cX0_reduce 23 = .ok (.if_icmp .ge 55, 3) := by decide +kernel
theorem dX0_reduce_26 : decode cX0_reduce 26 = .ok (.aload_n 0, 1) := by decide +kernel
theorem dX0_reduce_27 : decode cX0_reduce 27 = .ok (.getfield 22, 3) := by decide +kernel
theorem dX0_reduce_30 : decode cX0_reduce 30 = .ok (.lconst 1, 1) := by decide +kernel
theorem dX0_reduce_31 : decode cX0_reduce 31 = .ok (.lcmp, 1) := by decide +kernel
theorem dX0_reduce_32 : decode cX0_reduce 32 = .ok (.ifCond .le 46, 3) := by decide +kernel
theorem dX0_reduce_35 : decode cX0_reduce 35 = .ok (.aload_n 0, 1) := by decide +kernel
theorem dX0_reduce_36 : decode cX0_reduce 36 = .ok (.getfield 19, 3) := by decide +kernel
theorem dX0_reduce_39 : decode cX0_reduce 39 = .ok (.ldc2_w 25, 3) := by decide +kernel
theorem dX0_reduce_42 : decode cX0_reduce 42 = .ok (.lrem, 1) := by decide +kernel
theorem dX0_reduce_43 : decode cX0_reduce 43 = .ok (.lconst 0, 1) := by decide +kernel
theorem dX0_reduce_44 : decode cX0_reduce 44 = .ok (.lcmp, 1) := by decide +kernel
theorem dX0_reduce_45 : decode cX0_reduce 45 = .ok (.ifCond .ne 33, 3) := by decide +kernel
theorem dX0_reduce_48 : decode cX0_reduce 48 = .ok (.aload_n 0, 1) := by decide +kernel
theorem dX0_reduce_49 : decode cX0_reduce 49 = .ok (.dup, 1) := by decide +kernel
theorem dX0_reduce_50 : decode cX0_reduce 50 = .ok (.getfield 19, 3) := by decide +kernel
theorem dX0_reduce_53 : decode cX0_reduce 53 = .ok (.ldc2_w 25, 3) := by decide +kernel
theorem dX0_reduce_56 : decode cX0_reduce 56 = .ok (.ldiv, 1) := by decide +kernel
theorem dX0_reduce_57 : decode cX0_reduce 57 = .ok (.putfield 19, 3) := by decide +kernel
theorem dX0_reduce_60 : decode cX0_reduce 60 = .ok (.aload_n 0, 1) := by decide +kernel
theorem dX0_reduce_61 : decode cX0_reduce 61 = .ok (.dup, 1) := by decide +kernel
theorem dX0_reduce_62 : decode cX0_reduce 62 = .ok (.getfield 22, 3) := by decide +kernel
theorem dX0_reduce_65 : decode cX0_reduce 65 = .ok (.ldc2_w 25, 3) := by decide +kernel
theorem dX0_reduce_68 : decode cX0_reduce 68 = .ok (.ldiv, 1) := by decide +kernel
theorem dX0_reduce_69 : decode cX0_reduce 69 = .ok (.putfield 22, 3) := by decide +kernel
theorem dX0_reduce_72 : decode cX0_reduce 72 = .ok (.iinc 2 1, 3) := by decide +kernel
theorem dX0_reduce_75 : decode cX0_reduce 75 = .ok (.goto (-55), 3) := by decide +kernel
theorem dX0_reduce_78 : decode cX0_reduce 78 = .ok (.return_, 1) := by decide +kernel
theorem dX1_init_0 : decode cX1_init 0 = .ok (.aload_n 0, 1) := by decide +kernel
theorem dX1_init_1 : decode cX1_init 1 = .ok (.invokespecial 3, 3) := by decide +kernel
theorem dX1_init_4 : decode cX1_init 4 = .ok (.aload_n 0, 1) := by decide +kernel
theorem dX1_init_5 : decode cX1_init 5 = .ok (.bipush 8, 2) := by decide +kernel
theorem dX1_init_7 : decode cX1_init 7 = .ok (.newarray .int, 2) := by decide +kernel
theorem dX1_init_9 : decode cX1_init 9 = .ok (.putfield 9, 3) := by decide +kernel
theorem dX1_init_12 : decode cX1_init 12 = .ok (.aload_n 0, 1) := by decide +kernel
theorem dX1_init_13 : decode cX1_init 13 = .ok (.bipush 8, 2) := by decide +kernel
theorem dX1_init_15 : decode cX1_init 15 = .ok (.newarray .int, 2) := by decide +kernel
theorem dX1_init_17 : decode cX1_init 17 = .ok (.putfield 15, 3) := by decide +kernel
theorem dX1_init_20 : decode cX1_init 20 = .ok (.aload_n 0, 1) := by decide +kernel
theorem dX1_init_21 : decode cX1_init 21 = .ok (.iconst (-1), 1) := by decide +kernel
theorem dX1_init_22 : decode cX1_init 22 = .ok (.putfield 18, 3) := by decide +kernel
theorem dX1_init_25 : decode cX1_init 25 = .ok (.aload_n 0, 1) := by decide +kernel
theorem dX1_init_26 : decode cX1_init 26 = .ok (.iconst 0, 1) := by decide +kernel
theorem dX1_init_27 : decode cX1_init 27 = .ok (.putfield 22, 3) := by decide +kernel
theorem dX1_init_30 : decode cX1_init 30 = .ok (.return_, 1) := by decide +kernel
theorem dX1_understand_0 : decode cX1_understand 0 = .ok (.aload_n 0, 1) := by decide +kernel
theorem dX1_understand_1 : decode cX1_understand 1 = .ok (.iconst 0, 1) := by decide +kernel
theorem dX1_understand_2 : decode cX1_understand 2 = .ok (.putfield 22, 3) := by decide +kernel
theorem dX1_understand_5 : decode cX1_understand 5 = .ok (.aload_n 0, 1) := by decide +kernel
theorem dX1_understand_6 : decode cX1_understand 6 = .ok (.aload_n 1, 1) := by decide +kernel
theorem dX1_understand_7 : decode cX1_understand 7 = .ok (.invokestatic 25, 3) := by decide +kernel
theorem dX1_understand_10 : decode cX1_understand 10 = .ok (.putfield 18, 3) := by decide +kernel
theorem dX1_understand_13 : decode cX1_understand 13 = .ok (.aload_n 0, 1) := by decide +kernel
theorem dX1_understand_14 : decode cX1_understand 14 = .ok (.getfield 18, 3) := by decide +kernel
theorem dX1_understand_17 : decode cX1_understand 17 = .ok (.iconst (-1), 1) := by decide +kernel
theorem dX1_understand_18 : decode cX1_understand 18 = .ok (.if_icmp .eq 4, 3) := by decide +kernel
theorem dX1_understand_21 : decode cX1_understand 21 = .ok (.return_, 1) := by decide +kernel
theorem dX1_understand_22 : decode cX1_understand 22 = .ok (.aload_n 1, 1) := by decide +kernel
theorem dX1_understand_23 : decode cX1_understand 23 = .ok (.getfield 29, 3) := by decide +kernel
theorem dX1_understand_26 : decode cX1_understand 26 = .ok (.iconst 1, 1) := by decide +kernel
theorem dX1_understand_27 : decode cX1_understand 27 = .ok (.iadd, 1) := by decide +kernel
theorem dX1_understand_28 : decode cX1_understand 28 = .ok (.iconst 4, 1) := by decide +kernel
theorem dX1_understand_29 : decode cX1_understand 29 = .ok (.idiv, 1) := by decide +kernel
theorem dX1_understand_30 : decode cX1_understand 30 = .ok (.istore_n 2, 1) := by decide +kernel
theorem dX1_understand_31 : decode cX1_understand 31 = .ok (.iconst 0, 1) := by decide +kernel
theorem dX1_understand_32 : decode cX1_understand 32 = .ok (.istore_n 3, 1) := by decide +kernel
theorem dX1_understand_33 : decode cX1_understand 33 = .ok (.iload_n 3, 1) := by decide +kernel
theorem dX1_understand_34 : decode cX1_understand 34 = .ok (.iload_n 2, 1) := by decide +kernel
theorem dX1_understand_35 : decode cX1_understand 35 = .ok (.if_icmp .ge 80, 3) := by decide +kernel
theorem dX1_understand_38 : decode cX1_understand 38 = .ok (.iload_n 3, 1) := by decide +kernel
theorem dX1_understand_39 : decode cX1_understand 39 = .ok (.bipush 8, 2) := by decide +kernel
theorem dX1_understand_41 : decode cX1_understand 41 = .ok (.if_icmp .ge 74, 3) := by decide +kernel
theorem dX1_understand_44 : decode cX1_understand 44 = .ok (.iload_n 3, 1) := by decide +kernel
theorem dX1_understand_45 : decode cX1_understand 45 = .ok (.iconst 4, 1) := by decide +kernel
theorem dX1_understand_46 : decode cX1_understand 46 = .ok (.imul, 1) := by decide +kernel
theorem dX1_understand_47 : decode cX1_understand 47 = .ok (.istore 4, 2) := by decide +kernel
theorem dX1_understand_49 : decode cX1_understand 49 = .ok (.aload_n 0, 1) := by decide +kernel
theorem dX1_understand_50 : decode cX1_understand 50 = .ok (.getfield 9, 3) := by decide +kernel
theorem dX1_understand_53 : decode cX1_understand 53 = .ok (.iload_n 3, 1) := by decide +kernel
theorem dX1_understand_54 : decode cX1_understand 54 = .ok (.bipush 10, 2) := by decide +kernel
theorem dX1_understand_56 : decode cX1_understand 56 = .ok (.aload_n 1, 1) := by decide +kernel
theorem dX1_understand_57 : decode cX1_understand 57 = .ok (.getfield 34, 3) := by decide +kernel
theorem dX1_understand_60 : decode cX1_understand 60 = .ok (.iload 4, 2) := by decide +kernel
theorem dX1_understand_62 : decode cX1_understand 62 = .ok (.iaload, 1) := by decide +kernel
theorem dX1_understand_63 : decode cX1_understand 63 = .ok (.bipush 48, 2) := by decide +kernel
theorem dX1_understand_65 : decode cX1_understand 65 = .ok (.isub, 1) := by decide +kernel
theorem dX1_understand_66 : decode cX1_understand 66 = .ok (.imul, 1) := by decide +kernel
theorem dX1_understand_67 : decode cX1_understand 67 = .ok (.aload_n 1, 1) := by decide +kernel
theorem dX1_understand_68 : decode cX1_understand 68 = .ok (.getfield 34, 3) := by decide +kernel
theorem dX1_understand_71 : decode cX1_understand 71 = .ok (.iload 4, 2) := by decide +kernel
theorem dX1_understand_73 : decode cX1_understand 73 = .ok (.iconst 1, 1) := by decide +kernel
theorem dX1_understand_74 : decode cX1_understand 74 = .ok (.iadd, 1) := by decide +kernel
theorem dX1_understand_75 : decode cX1_understand 75 = .ok (.iaload, 1) := by decide +kernel
theorem dX1_understand_76 : decode cX1_understand 76 = .ok (.iadd, 1) := by decide +kernel
theorem dX1_understand_77 : decode cX1_understand 77 = .ok (.bipush 48, 2) := by decide +kernel
theorem dX1_understand_79 : decode cX1_understand 79 = .ok (.isub, 1) := by decide +kernel
theorem dX1_understand_80 : decode cX1_understand 80 = .ok (.iastore, 1) := by decide +kernel
theorem dX1_understand_81 : decode cX1_understand 81 = .ok (.aload_n 0, 1) := by decide +kernel
theorem dX1_understand_82 : decode cX1_understand 82 = .ok (.getfield 15, 3) := by decide +kernel
theorem dX1_understand_85 : decode cX1_understand 85 = .ok (.iload_n 3, 1) := by decide +kernel
theorem dX1_understand_86 : decode cX1_understand 86 = .ok (.aload_n 1, 1) := by decide +kernel
theorem dX1_understand_87 : decode cX1_understand 87 = .ok (.getfield 34, 3) := by decide +kernel
theorem dX1_understand_90 : decode cX1_understand 90 = .ok (.iload 4, 2) := by decide +kernel
theorem dX1_understand_92 : decode cX1_understand 92 = .ok (.iconst 2, 1) := by decide +kernel
theorem dX1_understand_93 : decode cX1_understand 93 = .ok (.iadd, 1) := by decide +kernel
theorem dX1_understand_94 : decode cX1_understand 94 = .ok (.iaload, 1) := by decide +kernel
theorem dX1_understand_95 : decode cX1_understand 95 = .ok (.bipush 48, 2) := by decide +kernel
theorem dX1_understand_97 : decode cX1_understand 97 = .ok (.isub, 1) := by decide +kernel
theorem dX1_understand_98 : decode cX1_understand 98 = .ok (.iastore, 1) := by decide +kernel
theorem dX1_understand_99 : decode cX1_understand 99 = .ok (.aload_n 0, 1) := by decide +kernel
theorem dX1_understand_100 : decode cX1_understand 100 = .ok (.dup, 1) := by decide +kernel
theorem dX1_understand_101 : decode cX1_understand 101 = .ok (.getfield 22, 3) := by decide +kernel
theorem dX1_understand_104 : decode cX1_understand 104 = .ok (.iconst 1, 1) := by decide +kernel
theorem dX1_understand_105 : decode cX1_understand 105 = .ok (.iadd, 1) := by decide +kernel
theorem dX1_understand_106 : decode cX1_understand 106 = .ok (.putfield 22, 3) := by decide +kernel
theorem dX1_understand_109 : decode cX1_understand 109 = .ok (.iinc 3 1, 3) := by decide +kernel
theorem dX1_understand_112 : decode cX1_understand 112 = .ok (.goto (-79), 3) := by decide +kernel
theorem dX1_understand_115 : decode cX1_understand 115 = .ok (.return_, 1) := by decide +kernel
theorem dX1_standOn_0 : decode cX1_standOn 0 = .ok (.iconst 0, 1) := by decide +kernel
theorem dX1_standOn_1 : decode cX1_standOn 1 = .ok (.istore_n 2, 1) := by decide +kernel
theorem dX1_standOn_2 : decode cX1_standOn 2 = .ok (.iload_n 2, 1) := by decide +kernel
theorem dX1_standOn_3 : decode cX1_standOn 3 = .ok (.aload_n 0, 1) := by decide +kernel
theorem dX1_standOn_4 : decode cX1_standOn 4 = .ok (.getfield 22, 3) := by decide +kernel
theorem dX1_standOn_7 : decode cX1_standOn 7 = .ok (.if_icmp .ge 21, 3) := by decide +kernel
theorem dX1_standOn_10 : decode cX1_standOn 10 = .ok (.aload_n 0, 1) := by decide +kernel
theorem dX1_standOn_11 : decode cX1_standOn 11 = .ok (.getfield 9, 3) := by decide +kernel
theorem dX1_standOn_14 : decode cX1_standOn 14 = .ok (.iload_n 2, 1) := by decide +kernel
theorem dX1_standOn_15 : decode cX1_standOn 15 = .ok (.iaload, 1) := by decide +kernel
theorem dX1_standOn_16 : decode cX1_standOn 16 = .ok (.iload_n 1, 1) := by decide +kernel
theorem dX1_standOn_17 : decode cX1_standOn 17 = .ok (.if_icmp .ne 5, 3) := by decide +kernel
theorem dX1_standOn_20 : decode cX1_standOn 20 = .ok (.iconst 1, 1) := by decide +kernel
theorem dX1_standOn_21 : decode cX1_standOn 21 = .ok (.ireturn, 1) := by decide +kernel
theorem dX1_standOn_22 : decode cX1_standOn 22 = .ok (.iinc 2 1, 3) := by decide +kernel
theorem dX1_standOn_25 : decode cX1_standOn 25 = .ok (.goto (-23), 3) := by decide +kernel
theorem dX1_standOn_28 : decode cX1_standOn 28 = .ok (.iconst 0, 1) := by decide +kernel
theorem dX1_standOn_29 : decode cX1_standOn 29 = .ok (.ireturn, 1) := by decide +kernel
theorem dX1_findFlaw_0 : decode cX1_findFlaw 0 = .ok (.iconst 0, 1) := by decide +kernel
theorem dX1_findFlaw_1 : decode cX1_findFlaw 1 = .ok (.istore_n 1, 1) := by decide +kernel
theorem dX1_findFlaw_2 : decode cX1_findFlaw 2 = .ok (.iload_n 1, 1) := by decide +kernel
theorem dX1_findFlaw_3 : decode cX1_findFlaw 3 = .ok (.aload_n 0, 1) := by decide +kernel
theorem dX1_findFlaw_4 : decode cX1_findFlaw 4 = .ok (.getfield 29, 3) := by decide +kernel
theorem dX1_findFlaw_7 : decode cX1_findFlaw 7 = .ok (.if_icmp .ge 32, 3) := by decide +kernel
theorem dX1_findFlaw_10 : decode cX1_findFlaw 10 = .ok (.iload_n 1, 1) := by decide +kernel
theorem dX1_findFlaw_11 : decode cX1_findFlaw 11 = .ok (.bipush 32, 2) := by decide +kernel
theorem dX1_findFlaw_13 : decode cX1_findFlaw 13 = .ok (.if_icmp .ge 18, 3) := by decide +kernel
theorem dX1_findFlaw_16 : decode cX1_findFlaw 16 = .ok (.aload_n 0, 1) := by decide +kernel
theorem dX1_findFlaw_17 : decode cX1_findFlaw 17 = .ok (.getfield 34, 3) := by decide +kernel
theorem dX1_findFlaw_20 : decode cX1_findFlaw 20 = .ok (.iload_n 1, 1) := by decide +kernel
theorem dX1_findFlaw_21 : decode cX1_findFlaw 21 = .ok (.iaload, 1) := by decide +kernel
theorem dX1_findFlaw_22 : decode cX1_findFlaw 22 = .ok (.iload_n 1, 1) := by decide +kernel
theorem dX1_findFlaw_23 : decode cX1_findFlaw 23 = .ok (.iconst 4, 1) := by decide +kernel
theorem dX1_findFlaw_24 : decode cX1_findFlaw 24 = .ok (.irem, 1) := by decide +kernel
theorem dX1_findFlaw_25 : decode cX1_findFlaw 25 = .ok (.invokestatic 37, 3) := by decide +kernel
theorem dX1_findFlaw_28 : decode cX1_findFlaw 28 = .ok (.ifCond .ne 5, 3) := by decide +kernel
theorem dX1_findFlaw_31 : decode cX1_findFlaw 31 = .ok (.iload_n 1, 1) := by decide +kernel
theorem dX1_findFlaw_32 : decode cX1_findFlaw 32 = .ok (.ireturn, 1) := by decide +kernel
theorem dX1_findFlaw_33 : decode cX1_findFlaw 33 = .ok (.iinc 1 1, 3) := by decide +kernel
theorem dX1_findFlaw_36 : decode cX1_findFlaw 36 = .ok (.goto (-34), 3) := by decide +kernel
theorem dX1_findFlaw_39 : decode cX1_findFlaw 39 = .ok (.aload_n 0, 1) := by decide +kernel
theorem dX1_findFlaw_40 : decode cX1_findFlaw 40 = .ok (.getfield 29, 3) := by decide +kernel
theorem dX1_findFlaw_43 : decode cX1_findFlaw 43 = .ok (.ifCond .eq 13, 3) := by decide +kernel
theorem dX1_findFlaw_46 : decode cX1_findFlaw 46 = .ok (.aload_n 0, 1) := by decide +kernel
theorem dX1_findFlaw_47 : decode cX1_findFlaw 47 = .ok (.getfield 29, 3) := by decide +kernel
theorem dX1_findFlaw_50 : decode cX1_findFlaw 50 = .ok (.iconst 4, 1) := by decide +kernel
theorem dX1_findFlaw_51 : decode cX1_findFlaw 51 = .ok (.irem, 1) := by decide +kernel
theorem dX1_findFlaw_52 : decode cX1_findFlaw 52 = .ok (.iconst 3, 1) := by decide +kernel
theorem dX1_findFlaw_53 : decode cX1_findFlaw 53 = .ok (.if_icmp .ne 7, 3) := by decide +kernel
theorem dX1_findFlaw_56 : decode cX1_findFlaw 56 = .ok (.iconst 1, 1) := by decide +kernel
theorem dX1_findFlaw_57 : decode cX1_findFlaw 57 = .ok (.goto 4, 3) := by decide +kernel
theorem dX1_findFlaw_60 : decode cX1_findFlaw 60 = .ok (.iconst 0, 1) := by decide +kernel
theorem dX1_findFlaw_61 : decode cX1_findFlaw 61 = .ok (.istore_n 1, 1) := by decide +kernel
theorem dX1_findFlaw_62 : decode cX1_findFlaw 62 = .ok (.iload_n 1, 1) := by decide +kernel
theorem dX1_findFlaw_63 : decode cX1_findFlaw 63 = .ok (.ifCond .eq 7, 3) := by decide +kernel
theorem dX1_findFlaw_66 : decode cX1_findFlaw 66 = .ok (.iconst (-1), 1) := by decide +kernel
theorem dX1_findFlaw_67 : decode cX1_findFlaw 67 = .ok (.goto 7, 3) := by decide +kernel
theorem dX1_findFlaw_70 : decode cX1_findFlaw 70 = .ok (.aload_n 0, 1) := by decide +kernel
theorem dX1_findFlaw_71 : decode cX1_findFlaw 71 = .ok (.getfield 29, 3) := by decide +kernel
theorem dX1_findFlaw_74 : decode cX1_findFlaw 74 = .ok (.ireturn, 1) := by decide +kernel
theorem dX1_fits_0 : decode cX1_fits 0 = .ok (.iload_n 1, 1) := by decide +kernel
theorem dX1_fits_1 : decode cX1_fits 1 = .ok (.iconst 3, 1) := by decide +kernel
theorem dX1_fits_2 : decode cX1_fits 2 = .ok (.if_icmp .ne 15, 3) := by decide +kernel
theorem dX1_fits_5 : decode cX1_fits 5 = .ok (.iload_n 0, 1) := by decide +kernel
theorem dX1_fits_6 : decode cX1_fits 6 = .ok (.bipush 59, 2) := by decide +kernel
theorem dX1_fits_8 : decode cX1_fits 8 = .ok (.if_icmp .ne 7, 3) := by decide +kernel
theorem dX1_fits_11 : decode cX1_fits 11 = .ok (.iconst 1, 1) := by decide +kernel
theorem dX1_fits_12 : decode cX1_fits 12 = .ok (.goto 4, 3) := by decide +kernel
theorem dX1_fits_15 : decode cX1_fits 15 = .ok (.iconst 0, 1) := by decide +kernel
theorem dX1_fits_16 : decode cX1_fits 16 = .ok (.ireturn, 1) := by decide +kernel
theorem dX1_fits_17 : decode cX1_fits 17 = .ok (.iload_n 0, 1) := by decide +kernel
theorem dX1_fits_18 : decode cX1_fits 18 = .ok (.bipush 48, 2) := by decide +kernel
theorem dX1_fits_20 : decode cX1_fits 20 = .ok (.if_icmp .lt 22, 3) := by decide +kernel
theorem dX1_fits_23 : decode cX1_fits 23 = .ok (.iload_n 0, 1) := by decide +kernel
theorem dX1_fits_24 : decode cX1_fits 24 = .ok (.iload_n 1, 1) := by decide +kernel
theorem dX1_fits_25 : decode cX1_fits 25 = .ok (.ifCond .ne 8, 3) := by decide +kernel
theorem dX1_fits_28 : decode cX1_fits 28 = .ok (.bipush 51, 2) := by decide +kernel
theorem dX1_fits_30 : decode cX1_fits 30 = .ok (.goto 5, 3) := by decide +kernel
theorem dX1_fits_33 : decode cX1_fits 33 = .ok (.bipush 57, 2) := by decide +kernel
theorem dX1_fits_35 : decode cX1_fits 35 = .ok (.if_icmp .gt 7, 3) := by decide +kernel
theorem dX1_fits_38 : decode cX1_fits 38 = .ok (.iconst 1, 1) := by decide +kernel
theorem dX1_fits_39 : decode cX1_fits 39 = .ok (.goto 4, 3) := by decide +kernel
theorem dX1_fits_42 : decode cX1_fits 42 = .ok (.iconst 0, 1) := by decide +kernel
theorem dX1_fits_43 : decode cX1_fits 43 = .ok (.ireturn, 1) := by decide +kernel
theorem dX2_init_0 : decode cX2_init 0 = .ok (.aload_n 0, 1) := by decide +kernel
theorem dX2_init_1 : decode cX2_init 1 = .ok (.invokespecial 3, 3) := by decide +kernel
theorem dX2_init_4 : decode cX2_init 4 = .ok (.aload_n 0, 1) := by decide +kernel
theorem dX2_init_5 : decode cX2_init 5 = .ok (.iconst (-1), 1) := by decide +kernel
theorem dX2_init_6 : decode cX2_init 6 = .ok (.putfield 9, 3) := by decide +kernel
theorem dX2_init_9 : decode cX2_init 9 = .ok (.aload_n 0, 1) := by decide +kernel
theorem dX2_init_10 : decode cX2_init 10 = .ok (.iconst (-1), 1) := by decide +kernel
theorem dX2_init_11 : decode cX2_init 11 = .ok (.putfield 15, 3) := by decide +kernel
theorem dX2_init_14 : decode cX2_init 14 = .ok (.aload_n 0, 1) := by decide +kernel
theorem dX2_init_15 : decode cX2_init 15 = .ok (.iconst (-1), 1) := by decide +kernel
theorem dX2_init_16 : decode cX2_init 16 = .ok (.putfield 18, 3) := by decide +kernel
theorem dX2_init_19 : decode cX2_init 19 = .ok (.return_, 1) := by decide +kernel
theorem dX2_told_0 : decode cX2_told 0 = .ok (.iload_n 1, 1) := by decide +kernel
theorem dX2_told_1 : decode cX2_told 1 = .ok (.iconst (-1), 1) := by decide +kernel
theorem dX2_told_2 : decode cX2_told 2 = .ok (.if_icmp .ne 8, 3) := by decide +kernel
theorem dX2_told_5 : decode cX2_told 5 = .ok (.aload_n 0, 1) := by decide +kernel
theorem dX2_told_6 : decode cX2_told 6 = .ok (.getfield 9, 3) := by decide +kernel
theorem dX2_told_9 : decode cX2_told 9 = .ok (.ireturn, 1) := by decide +kernel
theorem dX2_told_10 : decode cX2_told 10 = .ok (.iload_n 1, 1) := by decide +kernel
theorem dX2_told_11 : decode cX2_told 11 = .ok (.aload_n 0, 1) := by decide +kernel
theorem dX2_told_12 : decode cX2_told 12 = .ok (.getfield 9, 3) := by decide +kernel
theorem dX2_told_15 : decode cX2_told 15 = .ok (.if_icmp .lt 5, 3) := by decide +kernel
theorem dX2_told_18 : decode cX2_told 18 = .ok (.iconst (-1), 1) := by decide +kernel
theorem dX2_told_19 : decode cX2_told 19 = .ok (.ireturn, 1) := by decide +kernel
theorem dX2_told_20 : decode cX2_told 20 = .ok (.iload_n 1, 1) := by decide +kernel
theorem dX2_told_21 : decode cX2_told 21 = .ok (.ifCond .ne 10, 3) := by decide +kernel
theorem dX2_told_24 : decode cX2_told 24 = .ok (.aload_n 0, 1) := by decide +kernel
theorem dX2_told_25 : decode cX2_told 25 = .ok (.getfield 15, 3) := by decide +kernel
theorem dX2_told_28 : decode cX2_told 28 = .ok (.goto 7, 3) := by decide +kernel
theorem dX2_told_31 : decode cX2_told 31 = .ok (.aload_n 0, 1) := by decide +kernel
theorem dX2_told_32 : decode cX2_told 32 = .ok (.getfield 18, 3) := by decide +kernel
theorem dX2_told_35 : decode cX2_told 35 = .ok (.ireturn, 1) := by decide +kernel
theorem dX3_init_0 : decode cX3_init 0 = .ok (.aload_n 0, 1) := by decide +kernel
theorem dX3_init_1 : decode cX3_init 1 = .ok (.invokespecial 3, 3) := by decide +kernel
theorem dX3_init_4 : decode cX3_init 4 = .ok (.aload_n 0, 1) := by decide +kernel
theorem dX3_init_5 : decode cX3_init 5 = .ok (.bipush 36, 2) := by decide +kernel
theorem dX3_init_7 : decode cX3_init 7 = .ok (.newarray .int, 2) := by decide +kernel
theorem dX3_init_9 : decode cX3_init 9 = .ok (.putfield 9, 3) := by decide +kernel
theorem dX3_init_12 : decode cX3_init 12 = .ok (.aload_n 0, 1) := by decide +kernel
theorem dX3_init_13 : decode cX3_init 13 = .ok (.bipush 36, 2) := by decide +kernel
theorem dX3_init_15 : decode cX3_init 15 = .ok (.newarray .int, 2) := by decide +kernel
theorem dX3_init_17 : decode cX3_init 17 = .ok (.putfield 15, 3) := by decide +kernel
theorem dX3_init_20 : decode cX3_init 20 = .ok (.aload_n 0, 1) := by decide +kernel
theorem dX3_init_21 : decode cX3_init 21 = .ok (.bipush 36, 2) := by decide +kernel
theorem dX3_init_23 : decode cX3_init 23 = .ok (.newarray .int, 2) := by decide +kernel
theorem dX3_init_25 : decode cX3_init 25 = .ok (.putfield 18, 3) := by decide +kernel
theorem dX3_init_28 : decode cX3_init 28 = .ok (.aload_n 0, 1) := by decide +kernel
theorem dX3_init_29 : decode cX3_init 29 = .ok (.bipush 36, 2) := by decide +kernel
theorem dX3_init_31 : decode cX3_init 31 = .ok (.newarray .int, 2) := by decide +kernel
theorem dX3_init_33 : decode cX3_init 33 = .ok (.putfield 21, 3) := by decide +kernel
theorem dX3_init_36 : decode cX3_init 36 = .ok (.aload_n 0, 1) := by decide +kernel
theorem dX3_init_37 : decode cX3_init 37 = .ok (.sipush 144, 3) := by decide +kernel
theorem dX3_init_40 : decode cX3_init 40 = .ok (.newarray .int, 2) := by decide +kernel
theorem dX3_init_42 : decode cX3_init 42 = .ok (.putfield 24, 3) := by decide +kernel
theorem dX3_init_45 : decode cX3_init 45 = .ok (.aload_n 0, 1) := by decide +kernel
theorem dX3_init_46 : decode cX3_init 46 = .ok (.iconst (-1), 1) := by decide +kernel
theorem dX3_init_47 : decode cX3_init 47 = .ok (.putfield 27, 3) := by decide +kernel
theorem dX3_init_50 : decode cX3_init 50 = .ok (.aload_n 0, 1) := by decide +kernel
theorem dX3_init_51 : decode cX3_init 51 = .ok (.iconst 0, 1) := by decide +kernel
theorem dX3_init_52 : decode cX3_init 52 = .ok (.putfield 31, 3) := by decide +kernel
theorem dX3_init_55 : decode cX3_init 55 = .ok (.aload_n 0, 1) := by decide +kernel
theorem dX3_init_56 : decode cX3_init 56 = .ok (.iconst 0, 1) := by decide +kernel
theorem dX3_init_57 : decode cX3_init 57 = .ok (.putfield 34, 3) := by decide +kernel
theorem dX3_init_60 : decode cX3_init 60 = .ok (.aload_n 0, 1) := by decide +kernel
theorem dX3_init_61 : decode cX3_init 61 = .ok (.iconst 0, 1) := by decide +kernel
theorem dX3_init_62 : decode cX3_init 62 = .ok (.putfield 37, 3) := by decide +kernel
theorem dX3_init_65 : decode cX3_init 65 = .ok (.return_, 1) := by decide +kernel
theorem dX3_understand_0 : decode cX3_understand 0 = .ok (.aload_n 0, 1) := by decide +kernel
theorem dX3_understand_1 : decode cX3_understand 1 = .ok (.invokevirtual 40, 3) := by decide +kernel
theorem dX3_understand_4 : decode cX3_understand 4 = .ok (.aload_n 0, 1) := by decide +kernel
theorem dX3_understand_5 : decode cX3_understand 5 = .ok (.aload_n 1, 1) := by decide +kernel
theorem dX3_understand_6 : decode cX3_understand 6 = .ok (.getfield 43, 3) := by decide +kernel
theorem dX3_understand_9 : decode cX3_understand 9 = .ok (.ifCond .ne 7, 3) := by decide +kernel
theorem dX3_understand_12 : decode cX3_understand 12 = .ok (.iconst (-1), 1) := by decide +kernel
theorem dX3_understand_13 : decode cX3_understand 13 = .ok (.goto 8, 3) := by decide +kernel
theorem dX3_understand_16 : decode cX3_understand 16 = .ok (.aload_n 0, 1) := by decide +kernel
theorem dX3_understand_17 : decode cX3_understand 17 = .ok (.aload_n 1, 1) := by decide +kernel
theorem dX3_understand_18 : decode cX3_understand 18 = .ok (.invokevirtual 48, 3) := by decide +kernel
theorem dX3_understand_21 : decode cX3_understand 21 = .ok (.putfield 27, 3) := by decide +kernel
theorem dX3_understand_24 : decode cX3_understand 24 = .ok (.aload_n 0, 1) := by decide +kernel
theorem dX3_understand_25 : decode cX3_understand 25 = .ok (.getfield 27, 3) := by decide +kernel
theorem dX3_understand_28 : decode cX3_understand 28 = .ok (.iconst (-1), 1) := by decide +kernel
theorem dX3_understand_29 : decode cX3_understand 29 = .ok (.if_icmp .eq 7, 3) := by decide +kernel
theorem dX3_understand_32 : decode cX3_understand 32 = .ok (.aload_n 0, 1) := by decide +kernel
theorem dX3_understand_33 : decode cX3_understand 33 = .ok (.invokevirtual 40, 3) := by decide +kernel
theorem dX3_understand_36 : decode cX3_understand 36 = .ok (.iconst 0, 1) := by decide +kernel
theorem dX3_understand_37 : decode cX3_understand 37 = .ok (.istore_n 2, 1) := by decide +kernel
theorem dX3_understand_38 : decode cX3_understand 38 = .ok (.iload_n 2, 1) := by decide +kernel
theorem dX3_understand_39 : decode cX3_understand 39 = .ok (.aload_n 0, 1) := by decide +kernel
theorem dX3_understand_40 : decode cX3_understand 40 = .ok (.getfield 31, 3) := by decide +kernel
theorem dX3_understand_43 : decode cX3_understand 43 = .ok (.if_icmp .ge 14, 3) := by decide +kernel
theorem dX3_understand_46 : decode cX3_understand 46 = .ok (.aload_n 0, 1) := by decide +kernel
theorem dX3_understand_47 : decode cX3_understand 47 = .ok (.iload_n 2, 1) := by decide +kernel
theorem dX3_understand_48 : decode cX3_understand 48 = .ok (.invokevirtual 52, 3) := by decide +kernel
theorem dX3_understand_51 : decode cX3_understand 51 = .ok (.iinc 2 1, 3) := by decide +kernel
theorem dX3_understand_54 : decode cX3_understand 54 = .ok (.goto (-16), 3) := by decide +kernel
theorem dX3_understand_57 : decode cX3_understand 57 = .ok (.return_, 1) := by decide +kernel
theorem dX3_becomeEmpty_0 : decode cX3_becomeEmpty 0 = .ok (.aload_n 0, 1) := by decide +kernel
theorem dX3_becomeEmpty_1 : decode cX3_becomeEmpty 1 = .ok (.iconst 0, 1) := by decide +kernel
theorem dX3_becomeEmpty_2 : decode cX3_becomeEmpty 2 = .ok (.putfield 31, 3) := by decide +kernel
theorem dX3_becomeEmpty_5 : decode cX3_becomeEmpty 5 = .ok (.aload_n 0, 1) := by decide +kernel
theorem dX3_becomeEmpty_6 : decode cX3_becomeEmpty 6 = .ok (.iconst 0, 1) := by decide +kernel
theorem dX3_becomeEmpty_7 : decode cX3_becomeEmpty 7 = .ok (.putfield 34, 3) := by decide +kernel
theorem dX3_becomeEmpty_10 : decode cX3_becomeEmpty 10 = .ok (.aload_n 0, 1) := by decide +kernel
theorem dX3_becomeEmpty_11 : decode cX3_becomeEmpty 11 = .ok (.iconst 0, 1) := by decide +kernel
theorem dX3_becomeEmpty_12 : decode cX3_becomeEmpty 12 = .ok (.putfield 37, 3) := by decide +kernel
theorem dX3_becomeEmpty_15 : decode cX3_becomeEmpty 15 = .ok (.return_, 1) := by decide +kernel
theorem dX3_gather_0 : decode cX3_gather 0 = .ok (.iconst 0, 1) := by decide +kernel
theorem dX3_gather_1 : decode cX3_gather 1 = .ok (.istore_n 2, 1) := by decide +kernel
theorem dX3_gather_2 : decode cX3_gather 2 = .ok (.iconst 0, 1) := by decide +kernel
theorem dX3_gather_3 : decode cX3_gather 3 = .ok (.istore_n 3, 1) := by decide +kernel
theorem dX3_gather_4 : decode cX3_gather 4 = .ok (.iload_n 3, 1) := by decide +kernel
theorem dX3_gather_5 : decode cX3_gather 5 = .ok (.aload_n 1, 1) := by decide +kernel
theorem dX3_gather_6 : decode cX3_gather 6 = .ok (.getfield 43, 3) := by decide +kernel
theorem dX3_gather_9 : decode cX3_gather 9 = .ok (.if_icmp .ge 152, 3) := by decide +kernel
theorem dX3_gather_12 : decode cX3_gather 12 = .ok (.aload_n 1, 1) := by decide +kernel
theorem dX3_gather_13 : decode cX3_gather 13 = .ok (.getfield 56, 3) := by decide +kernel
theorem dX3_gather_16 : decode cX3_gather 16 = .ok (.iload_n 3, 1) := by decide +kernel
theorem dX3_gather_17 : decode cX3_gather 17 = .ok (.iaload, 1) := by decide +kernel
theorem dX3_gather_18 : decode cX3_gather 18 = .ok (.istore 4, 2) := by decide +kernel
theorem dX3_gather_20 : decode cX3_gather 20 = .ok (.iload 4, 2) := by decide +kernel
theorem dX3_gather_22 : decode cX3_gather 22 = .ok (.bipush 59, 2) := by decide +kernel
theorem dX3_gather_24 : decode cX3_gather 24 = .ok (.if_icmp .ne 27, 3) := by decide +kernel
theorem dX3_gather_27 : decode cX3_gather 27 = .ok (.iload_n 2, 1) := by decide +kernel
theorem dX3_gather_28 : decode cX3_gather 28 = .ok (.ifCond .eq 11, 3) := by decide +kernel
theorem dX3_gather_31 : decode cX3_gather 31 = .ok (.iload_n 2, 1) := by decide +kernel
theorem dX3_gather_32 : decode cX3_gather 32 = .ok (.aload_n 0, 1) := by decide +kernel
theorem dX3_gather_33 : decode cX3_gather 33 = .ok (.getfield 34, 3) := by decide +kernel
theorem dX3_gather_36 : decode cX3_gather 36 = .ok (.if_icmp .ge 5, 3) := by decide +kernel
theorem dX3_gather_39 : decode cX3_gather 39 = .ok (.iload_n 3, 1) := by decide +kernel
theorem dX3_gather_40 : decode cX3_gather 40 = .ok (.ireturn, 1) := by decide +kernel
theorem dX3_gather_41 : decode cX3_gather 41 = .ok (.aload_n 0, 1) := by decide +kernel
theorem dX3_gather_42 : decode cX3_gather 42 = .ok (.iload_n 2, 1) := by decide +kernel
theorem dX3_gather_43 : decode cX3_gather 43 = .ok (.invokevirtual 59, 3) := by decide +kernel
theorem dX3_gather_46 : decode cX3_gather 46 = .ok (.iconst 0, 1) := by decide +kernel
theorem dX3_gather_47 : decode cX3_gather 47 = .ok (.istore_n 2, 1) := by decide +kernel
theorem dX3_gather_48 : decode cX3_gather 48 = .ok (.goto 107, 3) := by decide +kernel
theorem dX3_gather_51 : decode cX3_gather 51 = .ok (.iload 4, 2) := by decide +kernel
theorem dX3_gather_53 : decode cX3_gather 53 = .ok (.invokestatic 62, 3) := by decide +kernel
theorem dX3_gather_56 : decode cX3_gather 56 = .ok (.istore 5, 2) := by decide +kernel
theorem dX3_gather_58 : decode cX3_gather 58 = .ok (.aload_n 0, 1) := by decide +kernel
theorem dX3_gather_59 : decode cX3_gather 59 = .ok (.getfield 37, 3) := by decide +kernel
theorem dX3_gather_62 : decode cX3_gather 62 = .ok (.ifCond .ne 8, 3) := by decide +kernel
theorem dX3_gather_65 : decode cX3_gather 65 = .ok (.bipush 6, 2) := by decide +kernel
theorem dX3_gather_67 : decode cX3_gather 67 = .ok (.goto 7, 3) := by decide +kernel
theorem dX3_gather_70 : decode cX3_gather 70 = .ok (.aload_n 0, 1) := by decide +kernel
theorem dX3_gather_71 : decode cX3_gather 71 = .ok (.getfield 34, 3) := by decide +kernel
theorem dX3_gather_74 : decode cX3_gather 74 = .ok (.istore 6, 2) := by decide +kernel
theorem dX3_gather_76 : decode cX3_gather 76 = .ok (.iload 5, 2) := by decide +kernel
theorem dX3_gather_78 : decode cX3_gather 78 = .ok (.iconst (-1), 1) := by decide +kernel
theorem dX3_gather_79 : decode cX3_gather 79 = .ok (.if_icmp .eq 27, 3) := by decide +kernel
theorem dX3_gather_82 : decode cX3_gather 82 = .ok (.aload_n 0, 1) := by decide +kernel
theorem dX3_gather_83 : decode cX3_gather 83 = .ok (.getfield 37, 3) := by decide +kernel
theorem dX3_gather_86 : decode cX3_gather 86 = .ok (.bipush 6, 2) := by decide +kernel
theorem dX3_gather_88 : decode cX3_gather 88 = .ok (.if_icmp .ge 18, 3) := by decide +kernel
theorem dX3_gather_91 : decode cX3_gather 91 = .ok (.iload_n 2, 1) := by decide +kernel
theorem dX3_gather_92 : decode cX3_gather 92 = .ok (.iload 6, 2) := by decide +kernel
theorem dX3_gather_94 : decode cX3_gather 94 = .ok (.if_icmp .ge 12, 3) := by decide +kernel
theorem dX3_gather_97 : decode cX3_gather 97 = .ok (.aload_n 0, 1) := by decide +kernel
theorem dX3_gather_98 : decode cX3_gather 98 = .ok (.getfield 31, 3) := by decide +kernel
theorem dX3_gather_101 : decode cX3_gather 101 = .ok (.bipush 36, 2) := by decide +kernel
theorem dX3_gather_103 : decode cX3_gather 103 = .ok (.if_icmp .lt 5, 3) := by decide +kernel
theorem dX3_gather_106 : decode cX3_gather 106 = .ok (.iload_n 3, 1) := by decide +kernel
theorem dX3_gather_107 : decode cX3_gather 107 = .ok (.ireturn, 1) := by decide +kernel
theorem dX3_gather_108 : decode cX3_gather 108 = .ok (.aload_n 0, 1) := by decide +kernel
theorem dX3_gather_109 : decode cX3_gather 109 = .ok (.getfield 9, 3) := by decide +kernel
theorem dX3_gather_112 : decode cX3_gather 112 = .ok (.aload_n 0, 1) := by decide +kernel
theorem dX3_gather_113 : decode cX3_gather 113 = .ok (.getfield 31, 3) := by decide +kernel
theorem dX3_gather_116 : decode cX3_gather 116 = .ok (.iload 5, 2) := by decide +kernel
theorem dX3_gather_118 : decode cX3_gather 118 = .ok (.iastore, 1) := by decide +kernel
theorem dX3_gather_119 : decode cX3_gather 119 = .ok (.aload_n 0, 1) := by decide +kernel
theorem dX3_gather_120 : decode cX3_gather 120 = .ok (.getfield 15, 3) := by decide +kernel
theorem dX3_gather_123 : decode cX3_gather 123 = .ok (.aload_n 0, 1) := by decide +kernel
theorem dX3_gather_124 : decode cX3_gather 124 = .ok (.getfield 31, 3) := by decide +kernel
theorem dX3_gather_127 : decode cX3_gather 127 = .ok (.aload_n 0, 1) := by decide +kernel
theorem dX3_gather_128 : decode cX3_gather 128 = .ok (.getfield 37, 3) := by decide +kernel
theorem dX3_gather_131 : decode cX3_gather 131 = .ok (.iastore, 1) := by decide +kernel
theorem dX3_gather_132 : decode cX3_gather 132 = .ok (.aload_n 0, 1) := by decide +kernel
theorem dX3_gather_133 : decode cX3_gather 133 = .ok (.getfield 18, 3) := by decide +kernel
theorem dX3_gather_136 : decode cX3_gather 136 = .ok (.aload_n 0, 1) := by decide +kernel
theorem dX3_gather_137 : decode cX3_gather 137 = .ok (.getfield 31, 3) := by decide +kernel
theorem dX3_gather_140 : decode cX3_gather 140 = .ok (.iload_n 2, 1) := by decide +kernel
theorem dX3_gather_141 : decode cX3_gather 141 = .ok (.iastore, 1) := by decide +kernel
theorem dX3_gather_142 : decode cX3_gather 142 = .ok (.aload_n 0, 1) := by decide +kernel
theorem dX3_gather_143 : decode cX3_gather 143 = .ok (.dup, 1) := by decide +kernel
theorem dX3_gather_144 : decode cX3_gather 144 = .ok (.getfield 31, 3) := by decide +kernel
theorem dX3_gather_147 : decode cX3_gather 147 = .ok (.iconst 1, 1) := by decide +kernel
theorem dX3_gather_148 : decode cX3_gather 148 = .ok (.iadd, 1) := by decide +kernel
theorem dX3_gather_149 : decode cX3_gather 149 = .ok (.putfield 31, 3) := by decide +kernel
theorem dX3_gather_152 : decode cX3_gather 152 = .ok (.iinc 2 1, 3) := by decide +kernel
theorem dX3_gather_155 : decode cX3_gather 155 = .ok (.iinc 3 1, 3) := by decide +kernel
theorem dX3_gather_158 : decode cX3_gather 158 = .ok (.goto (-154), 3) := by decide +kernel
theorem dX3_gather_161 : decode cX3_gather 161 = .ok (.iload_n 2, 1) := by decide +kernel
theorem dX3_gather_162 : decode cX3_gather 162 = .ok (.ifCond .eq 11, 3) := by decide +kernel
theorem dX3_gather_165 : decode cX3_gather 165 = .ok (.iload_n 2, 1) := by decide +kernel
theorem dX3_gather_166 : decode cX3_gather 166 = .ok (.aload_n 0, 1) := by decide +kernel
theorem dX3_gather_167 : decode cX3_gather 167 = .ok (.getfield 34, 3) := by decide +kernel
theorem dX3_gather_170 : decode cX3_gather 170 = .ok (.if_icmp .ge 8, 3) := by decide +kernel
theorem dX3_gather_173 : decode cX3_gather 173 = .ok (.aload_n 1, 1) := by decide +kernel
theorem dX3_gather_174 : decode cX3_gather 174 = .ok (.getfield 43, 3) := by decide +kernel
theorem dX3_gather_177 : decode cX3_gather 177 = .ok (.ireturn, 1) := by decide +kernel
theorem dX3_gather_178 : decode cX3_gather 178 = .ok (.aload_n 0, 1) := by decide +kernel
theorem dX3_gather_179 : decode cX3_gather 179 = .ok (.iload_n 2, 1) := by decide +kernel
theorem dX3_gather_180 : decode cX3_gather 180 = .ok (.invokevirtual 59, 3) := by decide +kernel
theorem dX3_gather_183 : decode cX3_gather 183 = .ok (.iconst (-1), 1) := by decide +kernel
theorem dX3_gather_184 : decode cX3_gather 184 = .ok (.ireturn, 1) := by decide +kernel
theorem dX3_endRow_0 : decode cX3_endRow 0 = .ok (.aload_n 0, 1) := by decide +kernel
theorem dX3_endRow_1 : decode cX3_endRow 1 = .ok (.iload_n 1, 1) := by decide +kernel
theorem dX3_endRow_2 : decode cX3_endRow 2 = .ok (.putfield 34, 3) := by decide +kernel
theorem dX3_endRow_5 : decode cX3_endRow 5 = .ok (.aload_n 0, 1) := by decide +kernel
theorem dX3_endRow_6 : decode cX3_endRow 6 = .ok (.dup, 1) := by decide +kernel
theorem dX3_endRow_7 : decode cX3_endRow 7 = .ok (.getfield 37, 3) := by decide +kernel
theorem dX3_endRow_10 : decode cX3_endRow 10 = .ok (.iconst 1, 1) := by decide +kernel
theorem dX3_endRow_11 : decode cX3_endRow 11 = .ok (.iadd, 1) := by decide +kernel
theorem dX3_endRow_12 : decode cX3_endRow 12 = .ok (.putfield 37, 3) := by decide +kernel
theorem dX3_endRow_15 : decode cX3_endRow 15 = .ok (.return_, 1) := by decide +kernel
theorem dX3_findWays_0 : decode cX3_findWays 0 = .ok (.aload_n 0, 1) := by decide +kernel
theorem dX3_findWays_1 : decode cX3_findWays 1 = .ok (.getfield 21, 3) := by decide +kernel
theorem dX3_findWays_4 : decode cX3_findWays 4 = .ok (.iload_n 1, 1) := by decide +kernel
theorem dX3_findWays_5 : decode cX3_findWays 5 = .ok (.iconst 0, 1) := by decide +kernel
theorem dX3_findWays_6 : decode cX3_findWays 6 = .ok (.iastore, 1) := by decide +kernel
theorem dX3_findWays_7 : decode cX3_findWays 7 = .ok (.aload_n 0, 1) := by decide +kernel
theorem dX3_findWays_8 : decode cX3_findWays 8 = .ok (.getfield 18, 3) := by decide +kernel
theorem dX3_findWays_11 : decode cX3_findWays 11 = .ok (.iload_n 1, 1) := by decide +kernel
theorem dX3_findWays_12 : decode cX3_findWays 12 = .ok (.iaload, 1) := by decide +kernel
theorem dX3_findWays_13 : decode cX3_findWays 13 = .ok (.iconst 1, 1) := by decide +kernel
theorem dX3_findWays_14 : decode cX3_findWays 14 = .ok (.iadd, 1) := by decide +kernel
theorem dX3_findWays_15 : decode cX3_findWays 15 = .ok (.aload_n 0, 1) := by decide +kernel
theorem dX3_findWays_16 : decode cX3_findWays 16 = .ok (.getfield 34, 3) := by decide +kernel
theorem dX3_findWays_19 : decode cX3_findWays 19 = .ok (.if_icmp .ge 11, 3) := by decide +kernel
theorem dX3_findWays_22 : decode cX3_findWays 22 = .ok (.aload_n 0, 1) := by decide +kernel
theorem dX3_findWays_23 : decode cX3_findWays 23 = .ok (.iload_n 1, 1) := by decide +kernel
theorem dX3_findWays_24 : decode cX3_findWays 24 = .ok (.iload_n 1, 1) := by decide +kernel
theorem dX3_findWays_25 : decode cX3_findWays 25 = .ok (.iconst 1, 1) := by decide +kernel
theorem dX3_findWays_26 : decode cX3_findWays 26 = .ok (.iadd, 1) := by decide +kernel
theorem dX3_findWays_27 : decode cX3_findWays 27 = .ok (.invokevirtual 66, 3) := by decide +kernel
theorem dX3_findWays_30 : decode cX3_findWays 30 = .ok (.iload_n 1, 1) := by decide +kernel
theorem dX3_findWays_31 : decode cX3_findWays 31 = .ok (.aload_n 0, 1) := by decide +kernel
theorem dX3_findWays_32 : decode cX3_findWays 32 = .ok (.getfield 34, 3) := by decide +kernel
theorem dX3_findWays_35 : decode cX3_findWays 35 = .ok (.iadd, 1) := by decide +kernel
theorem dX3_findWays_36 : decode cX3_findWays 36 = .ok (.aload_n 0, 1) := by decide +kernel
theorem dX3_findWays_37 : decode cX3_findWays 37 = .ok (.getfield 31, 3) := by decide +kernel
theorem dX3_findWays_40 : decode cX3_findWays 40 = .ok (.if_icmp .ge 14, 3) := by decide +kernel
theorem dX3_findWays_43 : decode cX3_findWays 43 = .ok (.aload_n 0, 1) := by decide +kernel
theorem dX3_findWays_44 : decode cX3_findWays 44 = .ok (.iload_n 1, 1) := by decide +kernel
theorem dX3_findWays_45 : decode cX3_findWays 45 = .ok (.iload_n 1, 1) := by decide +kernel
theorem dX3_findWays_46 : decode cX3_findWays 46 = .ok (.aload_n 0, 1) := by decide +kernel
theorem dX3_findWays_47 : decode cX3_findWays 47 = .ok (.getfield 34, 3) := by decide +kernel
theorem dX3_findWays_50 : decode cX3_findWays 50 = .ok (.iadd, 1) := by decide +kernel
theorem dX3_findWays_51 : decode cX3_findWays 51 = .ok (.invokevirtual 66, 3) := by decide +kernel
theorem dX3_findWays_54 : decode cX3_findWays 54 = .ok (.iload_n 1, 1) := by decide +kernel
theorem dX3_findWays_55 : decode cX3_findWays 55 = .ok (.aload_n 0, 1) := by decide +kernel
theorem dX3_findWays_56 : decode cX3_findWays 56 = .ok (.getfield 34, 3) := by decide +kernel
theorem dX3_findWays_59 : decode cX3_findWays 59 = .ok (.if_icmp .lt 14, 3) := by decide +kernel
theorem dX3_findWays_62 : decode cX3_findWays 62 = .ok (.aload_n 0, 1) := by decide +kernel
theorem dX3_findWays_63 : decode cX3_findWays 63 = .ok (.iload_n 1, 1) := by decide +kernel
theorem dX3_findWays_64 : decode cX3_findWays 64 = .ok (.iload_n 1, 1) := by decide +kernel
theorem dX3_findWays_65 : decode cX3_findWays 65 = .ok (.aload_n 0, 1) := by decide +kernel
theorem dX3_findWays_66 : decode cX3_findWays 66 = .ok (.getfield 34, 3) := by decide +kernel
theorem dX3_findWays_69 : decode cX3_findWays 69 = .ok (.isub, 1) := by decide +kernel
theorem dX3_findWays_70 : decode cX3_findWays 70 = .ok (.invokevirtual 66, 3) := by decide +kernel
theorem dX3_findWays_73 : decode cX3_findWays 73 = .ok (.aload_n 0, 1) := by decide +kernel
theorem dX3_findWays_74 : decode cX3_findWays 74 = .ok (.getfield 18, 3) := by decide +kernel
theorem dX3_findWays_77 : decode cX3_findWays 77 = .ok (.iload_n 1, 1) := by decide +kernel
theorem dX3_findWays_78 : decode cX3_findWays 78 = .ok (.iaload, 1) := by decide +kernel
theorem dX3_findWays_79 : decode cX3_findWays 79 = .ok (.ifCond .le 11, 3) := by decide +kernel
theorem dX3_findWays_82 : decode cX3_findWays 82 = .ok (.aload_n 0, 1) := by decide +kernel
theorem dX3_findWays_83 : decode cX3_findWays 83 = .ok (.iload_n 1, 1) := by decide +kernel
theorem dX3_findWays_84 : decode cX3_findWays 84 = .ok (.iload_n 1, 1) := by decide +kernel
theorem dX3_findWays_85 : decode cX3_findWays 85 = .ok (.iconst 1, 1) := by decide +kernel
theorem dX3_findWays_86 : decode cX3_findWays 86 = .ok (.isub, 1) := by decide +kernel
theorem dX3_findWays_87 : decode cX3_findWays 87 = .ok (.invokevirtual 66, 3) := by decide +kernel
theorem dX3_findWays_90 : decode cX3_findWays 90 = .ok (.return_, 1) := by decide +kernel
theorem dX3_openWay_0 : decode cX3_openWay 0 = .ok (.aload_n 0, 1) := by decide +kernel
theorem dX3_openWay_1 : decode cX3_openWay 1 = .ok (.getfield 9, 3) := by decide +kernel
theorem dX3_openWay_4 : decode cX3_openWay 4 = .ok (.iload_n 2, 1) := by decide +kernel
theorem dX3_openWay_5 : decode cX3_openWay 5 = .ok (.iaload, 1) := by decide +kernel
theorem dX3_openWay_6 : decode cX3_openWay 6 = .ok (.iconst 1, 1) := by decide +kernel
theorem dX3_openWay_7 : decode cX3_openWay 7 = .ok (.if_icmp .eq 39, 3) := by decide +kernel
theorem dX3_openWay_10 : decode cX3_openWay 10 = .ok (.aload_n 0, 1) := by decide +kernel
theorem dX3_openWay_11 : decode cX3_openWay 11 = .ok (.getfield 21, 3) := by decide +kernel
theorem dX3_openWay_14 : decode cX3_openWay 14 = .ok (.iload_n 1, 1) := by decide +kernel
theorem dX3_openWay_15 : decode cX3_openWay 15 = .ok (.iaload, 1) := by decide +kernel
theorem dX3_openWay_16 : decode cX3_openWay 16 = .ok (.iconst 4, 1) := by decide +kernel
theorem dX3_openWay_17 : decode cX3_openWay 17 = .ok (.if_icmp .ge 29, 3) := by decide +kernel
theorem dX3_openWay_20 : decode cX3_openWay 20 = .ok (.aload_n 0, 1) := by decide +kernel
theorem dX3_openWay_21 : decode cX3_openWay 21 = .ok (.getfield 24, 3) := by decide +kernel
theorem dX3_openWay_24 : decode cX3_openWay 24 = .ok (.iload_n 1, 1) := by decide +kernel
theorem dX3_openWay_25 : decode cX3_openWay 25 = .ok (.iconst 4, 1) := by decide +kernel
theorem dX3_openWay_26 : decode cX3_openWay 26 = .ok (.imul, 1) := by decide +kernel
theorem dX3_openWay_27 : decode cX3_openWay 27 = .ok (.aload_n 0, 1) := by decide +kernel
theorem dX3_openWay_28 : decode cX3_openWay 28 = .ok (.getfield 21, 3) := by decide +kernel
theorem dX3_openWay_31 : decode cX3_openWay 31 = .ok (.iload_n 1, 1) := by decide +kernel
theorem dX3_openWay_32 : decode cX3_openWay 32 = .ok (.iaload, 1) := by decide +kernel
theorem dX3_openWay_33 : decode cX3_openWay 33 = .ok (.iadd, 1) := by decide +kernel
theorem dX3_openWay_34 : decode cX3_openWay 34 = .ok (.iload_n 2, 1) := by decide +kernel
theorem dX3_openWay_35 : decode cX3_openWay 35 = .ok (.iastore, 1) := by decide +kernel
theorem dX3_openWay_36 : decode cX3_openWay 36 = .ok (.aload_n 0, 1) := by decide +kernel
theorem dX3_openWay_37 : decode cX3_openWay 37 = .ok (.getfield 21, 3) := by decide +kernel
theorem dX3_openWay_40 : decode cX3_openWay 40 = .ok (.iload_n 1, 1) := by decide +kernel
theorem dX3_openWay_41 : decode cX3_openWay 41 = .ok (.dup2, 1) := by decide +kernel
theorem dX3_openWay_42 : decode cX3_openWay 42 = .ok (.iaload, 1) := by decide +kernel
theorem dX3_openWay_43 : decode cX3_openWay 43 = .ok (.iconst 1, 1) := by decide +kernel
theorem dX3_openWay_44 : decode cX3_openWay 44 = .ok (.iadd, 1) := by decide +kernel
theorem dX3_openWay_45 : decode cX3_openWay 45 = .ok (.iastore, 1) := by decide +kernel
theorem dX3_openWay_46 : decode cX3_openWay 46 = .ok (.return_, 1) := by decide +kernel
theorem dX3_kindOf_0 : decode cX3_kindOf 0 = .ok (.iload_n 0, 1) := by decide +kernel
theorem dX3_kindOf_1 : decode cX3_kindOf 1 = .ok (.lookupswitch 51 #[(35, 45), (46, 43), (108, 47), (119, 49)], 43) := by decide +kernel
theorem dX3_kindOf_44 : decode cX3_kindOf 44 = .ok (.iconst 0, 1) := by decide +kernel
theorem dX3_kindOf_45 : decode cX3_kindOf 45 = .ok (.ireturn, 1) := by decide +kernel
theorem dX3_kindOf_46 : decode cX3_kindOf 46 = .ok (.iconst 1, 1) := by decide +kernel
theorem dX3_kindOf_47 : decode cX3_kindOf 47 = .ok (.ireturn, 1) := by decide +kernel
theorem dX3_kindOf_48 : decode cX3_kindOf 48 = .ok (.iconst 2, 1) := by decide +kernel
theorem dX3_kindOf_49 : decode cX3_kindOf 49 = .ok (.ireturn, 1) := by decide +kernel
theorem dX3_kindOf_50 : decode cX3_kindOf 50 = .ok (.iconst 3, 1) := by decide +kernel
theorem dX3_kindOf_51 : decode cX3_kindOf 51 = .ok (.ireturn, 1) := by decide +kernel
theorem dX3_kindOf_52 : decode cX3_kindOf 52 = .ok (.iconst (-1), 1) := by decide +kernel
theorem dX3_kindOf_53 : decode cX3_kindOf 53 = .ok (.ireturn, 1) := by decide +kernel
theorem dX4_init_0 : decode cX4_init 0 = .ok (.aload_n 0, 1) := by decide +kernel
theorem dX4_init_1 : decode cX4_init 1 = .ok (.invokespecial 3, 3) := by decide +kernel
theorem dX4_init_4 : decode cX4_init 4 = .ok (.aload_n 0, 1) := by decide +kernel
theorem dX4_init_5 : decode cX4_init 5 = .ok (.bipush 8, 2) := by decide +kernel
theorem dX4_init_7 : decode cX4_init 7 = .ok (.newarray .int, 2) := by decide +kernel
theorem dX4_init_9 : decode cX4_init 9 = .ok (.putfield 9, 3) := by decide +kernel
theorem dX4_init_12 : decode cX4_init 12 = .ok (.aload_n 0, 1) := by decide +kernel
theorem dX4_init_13 : decode cX4_init 13 = .ok (.bipush 8, 2) := by decide +kernel
theorem dX4_init_15 : decode cX4_init 15 = .ok (.newarray .int, 2) := by decide +kernel
theorem dX4_init_17 : decode cX4_init 17 = .ok (.putfield 15, 3) := by decide +kernel
theorem dX4_init_20 : decode cX4_init 20 = .ok (.aload_n 0, 1) := by decide +kernel
theorem dX4_init_21 : decode cX4_init 21 = .ok (.bipush 8, 2) := by decide +kernel
theorem dX4_init_23 : decode cX4_init 23 = .ok (.newarray .int, 2) := by decide +kernel
theorem dX4_init_25 : decode cX4_init 25 = .ok (.putfield 18, 3) := by decide +kernel
theorem dX4_init_28 : decode cX4_init 28 = .ok (.aload_n 0, 1) := by decide +kernel
theorem dX4_init_29 : decode cX4_init 29 = .ok (.iconst 0, 1) := by decide +kernel
theorem dX4_init_30 : decode cX4_init 30 = .ok (.putfield 21, 3) := by decide +kernel
theorem dX4_init_33 : decode cX4_init 33 = .ok (.return_, 1) := by decide +kernel
theorem dX4_append_0 : decode cX4_append 0 = .ok (.aload_n 0, 1) := by decide +kernel
theorem dX4_append_1 : decode cX4_append 1 = .ok (.getfield 21, 3) := by decide +kernel
theorem dX4_append_4 : decode cX4_append 4 = .ok (.bipush 8, 2) := by decide +kernel
theorem dX4_append_6 : decode cX4_append 6 = .ok (.if_icmp .lt 5, 3) := by decide +kernel
theorem dX4_append_9 : decode cX4_append 9 = .ok (.iconst 0, 1) := by decide +kernel
theorem dX4_append_10 : decode cX4_append 10 = .ok (.ireturn, 1) := by decide +kernel
theorem dX4_append_11 : decode cX4_append 11 = .ok (.aload_n 0, 1) := by decide +kernel
theorem dX4_append_12 : decode cX4_append 12 = .ok (.getfield 9, 3) := by decide +kernel
theorem dX4_append_15 : decode cX4_append 15 = .ok (.aload_n 0, 1) := by decide +kernel
theorem dX4_append_16 : decode cX4_append 16 = .ok (.getfield 21, 3) := by decide +kernel
theorem dX4_append_19 : decode cX4_append 19 = .ok (.iload_n 1, 1) := by decide +kernel
theorem dX4_append_20 : decode cX4_append 20 = .ok (.iastore, 1) := by decide +kernel
theorem dX4_append_21 : decode cX4_append 21 = .ok (.aload_n 0, 1) := by decide +kernel
theorem dX4_append_22 : decode cX4_append 22 = .ok (.getfield 15, 3) := by decide +kernel
theorem dX4_append_25 : decode cX4_append 25 = .ok (.aload_n 0, 1) := by decide +kernel
theorem dX4_append_26 : decode cX4_append 26 = .ok (.getfield 21, 3) := by decide +kernel
theorem dX4_append_29 : decode cX4_append 29 = .ok (.iload_n 2, 1) := by decide +kernel
theorem dX4_append_30 : decode cX4_append 30 = .ok (.iastore, 1) := by decide +kernel
theorem dX4_append_31 : decode cX4_append 31 = .ok (.aload_n 0, 1) := by decide +kernel
theorem dX4_append_32 : decode cX4_append 32 = .ok (.getfield 18, 3) := by decide +kernel
theorem dX4_append_35 : decode cX4_append 35 = .ok (.aload_n 0, 1) := by decide +kernel
theorem dX4_append_36 : decode cX4_append 36 = .ok (.getfield 21, 3) := by decide +kernel
theorem dX4_append_39 : decode cX4_append 39 = .ok (.iload_n 3, 1) := by decide +kernel
theorem dX4_append_40 : decode cX4_append 40 = .ok (.iastore, 1) := by decide +kernel
theorem dX4_append_41 : decode cX4_append 41 = .ok (.aload_n 0, 1) := by decide +kernel
theorem dX4_append_42 : decode cX4_append 42 = .ok (.dup, 1) := by decide +kernel
theorem dX4_append_43 : decode cX4_append 43 = .ok (.getfield 21, 3) := by decide +kernel
theorem dX4_append_46 : decode cX4_append 46 = .ok (.iconst 1, 1) := by decide +kernel
theorem dX4_append_47 : decode cX4_append 47 = .ok (.iadd, 1) := by decide +kernel
theorem dX4_append_48 : decode cX4_append 48 = .ok (.putfield 21, 3) := by decide +kernel
theorem dX4_append_51 : decode cX4_append 51 = .ok (.iconst 1, 1) := by decide +kernel
theorem dX4_append_52 : decode cX4_append 52 = .ok (.ireturn, 1) := by decide +kernel
theorem dX5_init_0 : decode cX5_init 0 = .ok (.aload_n 0, 1) := by decide +kernel
theorem dX5_init_1 : decode cX5_init 1 = .ok (.invokespecial 3, 3) := by decide +kernel
theorem dX5_init_4 : decode cX5_init 4 = .ok (.aload_n 0, 1) := by decide +kernel
theorem dX5_init_5 : decode cX5_init 5 = .ok (.bipush 60, 2) := by decide +kernel
theorem dX5_init_7 : decode cX5_init 7 = .ok (.newarray .int, 2) := by decide +kernel
theorem dX5_init_9 : decode cX5_init 9 = .ok (.putfield 9, 3) := by decide +kernel
theorem dX5_init_12 : decode cX5_init 12 = .ok (.aload_n 0, 1) := by decide +kernel
theorem dX5_init_13 : decode cX5_init 13 = .ok (.iconst 1, 1) := by decide +kernel
theorem dX5_init_14 : decode cX5_init 14 = .ok (.putfield 15, 3) := by decide +kernel
theorem dX5_init_17 : decode cX5_init 17 = .ok (.aload_n 0, 1) := by decide +kernel
theorem dX5_init_18 : decode cX5_init 18 = .ok (.iconst 0, 1) := by decide +kernel
theorem dX5_init_19 : decode cX5_init 19 = .ok (.putfield 19, 3) := by decide +kernel
theorem dX5_init_22 : decode cX5_init 22 = .ok (.aload_n 0, 1) := by decide +kernel
theorem dX5_init_23 : decode cX5_init 23 = .ok (.iconst 0, 1) := by decide +kernel
theorem dX5_init_24 : decode cX5_init 24 = .ok (.putfield 23, 3) := by decide +kernel
theorem dX5_init_27 : decode cX5_init 27 = .ok (.return_, 1) := by decide +kernel
theorem dX5_begin_0 : decode cX5_begin 0 = .ok (.aload_n 0, 1) := by decide +kernel
theorem dX5_begin_1 : decode cX5_begin 1 = .ok (.iconst 0, 1) := by decide +kernel
theorem dX5_begin_2 : decode cX5_begin 2 = .ok (.putfield 15, 3) := by decide +kernel
theorem dX5_begin_5 : decode cX5_begin 5 = .ok (.aload_n 0, 1) := by decide +kernel
theorem dX5_begin_6 : decode cX5_begin 6 = .ok (.iload_n 1, 1) := by decide +kernel
theorem dX5_begin_7 : decode cX5_begin 7 = .ok (.putfield 19, 3) := by decide +kernel
theorem dX5_begin_10 : decode cX5_begin 10 = .ok (.aload_n 0, 1) := by decide +kernel
theorem dX5_begin_11 : decode cX5_begin 11 = .ok (.iload_n 2, 1) := by decide +kernel
theorem dX5_begin_12 : decode cX5_begin 12 = .ok (.putfield 23, 3) := by decide +kernel
theorem dX5_begin_15 : decode cX5_begin 15 = .ok (.aload_n 0, 1) := by decide +kernel
theorem dX5_begin_16 : decode cX5_begin 16 = .ok (.getfield 9, 3) := by decide +kernel
theorem dX5_begin_19 : decode cX5_begin 19 = .ok (.iconst 0, 1) := by decide +kernel
theorem dX5_begin_20 : decode cX5_begin 20 = .ok (.invokestatic 26, 3) := by decide +kernel
theorem dX5_begin_23 : decode cX5_begin 23 = .ok (.return_, 1) := by decide +kernel
theorem dX5_wrongWith_0 : decode cX5_wrongWith 0 = .ok (.aload_n 0, 1) := by decide +kernel
theorem dX5_wrongWith_1 : decode cX5_wrongWith 1 = .ok (.getfield 15, 3) := by decide +kernel
theorem dX5_wrongWith_4 : decode cX5_wrongWith 4 = .ok (.ifCond .eq 5, 3) := by decide +kernel
theorem dX5_wrongWith_7 : decode cX5_wrongWith 7 = .ok (.iconst 1, 1) := by decide +kernel
theorem dX5_wrongWith_8 : decode cX5_wrongWith 8 = .ok (.ireturn, 1) := by decide +kernel
theorem dX5_wrongWith_9 : decode cX5_wrongWith 9 = .ok (.aload_n 0, 1) := by decide +kernel
theorem dX5_wrongWith_10 : decode cX5_wrongWith 10 = .ok (.getfield 19, 3) := by decide +kernel
theorem dX5_wrongWith_13 : decode cX5_wrongWith 13 = .ok (.iload_n 1, 1) := by decide +kernel
theorem dX5_wrongWith_14 : decode cX5_wrongWith 14 = .ok (.if_icmp .eq 5, 3) := by decide +kernel
theorem dX5_wrongWith_17 : decode cX5_wrongWith 17 = .ok (.iconst 3, 1) := by decide +kernel
theorem dX5_wrongWith_18 : decode cX5_wrongWith 18 = .ok (.ireturn, 1) := by decide +kernel
theorem dX5_wrongWith_19 : decode cX5_wrongWith 19 = .ok (.iload_n 2, 1) := by decide +kernel
theorem dX5_wrongWith_20 : decode cX5_wrongWith 20 = .ok (.ifCond .lt 11, 3) := by decide +kernel
theorem dX5_wrongWith_23 : decode cX5_wrongWith 23 = .ok (.iload_n 2, 1) := by decide +kernel
theorem dX5_wrongWith_24 : decode cX5_wrongWith 24 = .ok (.aload_n 0, 1) := by decide +kernel
theorem dX5_wrongWith_25 : decode cX5_wrongWith 25 = .ok (.getfield 23, 3) := by decide +kernel
theorem dX5_wrongWith_28 : decode cX5_wrongWith 28 = .ok (.if_icmp .lt 7, 3) := by decide +kernel
theorem dX5_wrongWith_31 : decode cX5_wrongWith 31 = .ok (.iconst 2, 1) := by decide +kernel
theorem dX5_wrongWith_32 : decode cX5_wrongWith 32 = .ok (.goto 4, 3) := by decide +kernel
theorem dX5_wrongWith_35 : decode cX5_wrongWith 35 = .ok (.iconst 0, 1) := by decide +kernel
theorem dX5_wrongWith_36 : decode cX5_wrongWith 36 = .ok (.ireturn, 1) := by decide +kernel
theorem dX5_hasItems_0 : decode cX5_hasItems 0 = .ok (.iload_n 1, 1) := by decide +kernel
theorem dX5_hasItems_1 : decode cX5_hasItems 1 = .ok (.ifCond .lt 29, 3) := by decide +kernel
theorem dX5_hasItems_4 : decode cX5_hasItems 4 = .ok (.iload_n 2, 1) := by decide +kernel
theorem dX5_hasItems_5 : decode cX5_hasItems 5 = .ok (.ifCond .lt 25, 3) := by decide +kernel
theorem dX5_hasItems_8 : decode cX5_hasItems 8 = .ok (.iload_n 2, 1) := by decide +kernel
theorem dX5_hasItems_9 : decode cX5_hasItems 9 = .ok (.aload_n 0, 1) := by decide +kernel
theorem dX5_hasItems_10 : decode cX5_hasItems 10 = .ok (.getfield 23, 3) := by decide +kernel
theorem dX5_hasItems_13 : decode cX5_hasItems 13 = .ok (.if_icmp .gt 17, 3) := by decide +kernel
theorem dX5_hasItems_16 : decode cX5_hasItems 16 = .ok (.iload_n 1, 1) := by decide +kernel
theorem dX5_hasItems_17 : decode cX5_hasItems 17 = .ok (.aload_n 0, 1) := by decide +kernel
theorem dX5_hasItems_18 : decode cX5_hasItems 18 = .ok (.getfield 23, 3) := by decide +kernel
theorem dX5_hasItems_21 : decode cX5_hasItems 21 = .ok (.iload_n 2, 1) := by decide +kernel
theorem dX5_hasItems_22 : decode cX5_hasItems 22 = .ok (.isub, 1) := by decide +kernel
theorem dX5_hasItems_23 : decode cX5_hasItems 23 = .ok (.if_icmp .gt 7, 3) := by decide +kernel
theorem dX5_hasItems_26 : decode cX5_hasItems 26 = .ok (.iconst 1, 1) := by decide +kernel
theorem dX5_hasItems_27 : decode cX5_hasItems 27 = .ok (.goto 4, 3) := by decide +kernel
theorem dX5_hasItems_30 : decode cX5_hasItems 30 = .ok (.iconst 0, 1) := by decide +kernel
theorem dX5_hasItems_31 : decode cX5_hasItems 31 = .ok (.ireturn, 1) := by decide +kernel
theorem dX5_keep_0 : decode cX5_keep 0 = .ok (.aload_n 0, 1) := by decide +kernel
theorem dX5_keep_1 : decode cX5_keep 1 = .ok (.getfield 19, 3) := by decide +kernel
theorem dX5_keep_4 : decode cX5_keep 4 = .ok (.ifCond .ne 14, 3) := by decide +kernel
theorem dX5_keep_7 : decode cX5_keep 7 = .ok (.aload_n 0, 1) := by decide +kernel
theorem dX5_keep_8 : decode cX5_keep 8 = .ok (.getfield 9, 3) := by decide +kernel
theorem dX5_keep_11 : decode cX5_keep 11 = .ok (.iload_n 1, 1) := by decide +kernel
theorem dX5_keep_12 : decode cX5_keep 12 = .ok (.iload_n 2, 1) := by decide +kernel
theorem dX5_keep_13 : decode cX5_keep 13 = .ok (.i2b, 1) := by decide +kernel
theorem dX5_keep_14 : decode cX5_keep 14 = .ok (.iastore, 1) := by decide +kernel
theorem dX5_keep_15 : decode cX5_keep 15 = .ok (.goto 29, 3) := by decide +kernel
theorem dX5_keep_18 : decode cX5_keep 18 = .ok (.aload_n 0, 1) := by decide +kernel
theorem dX5_keep_19 : decode cX5_keep 19 = .ok (.getfield 19, 3) := by decide +kernel
theorem dX5_keep_22 : decode cX5_keep 22 = .ok (.iconst 1, 1) := by decide +kernel
theorem dX5_keep_23 : decode cX5_keep 23 = .ok (.if_icmp .ne 14, 3) := by decide +kernel
theorem dX5_keep_26 : decode cX5_keep 26 = .ok (.aload_n 0, 1) := by decide +kernel
theorem dX5_keep_27 : decode cX5_keep 27 = .ok (.getfield 9, 3) := by decide +kernel
theorem dX5_keep_30 : decode cX5_keep 30 = .ok (.iload_n 1, 1) := by decide +kernel
theorem dX5_keep_31 : decode cX5_keep 31 = .ok (.iload_n 2, 1) := by decide +kernel
theorem dX5_keep_32 : decode cX5_keep 32 = .ok (.i2s, 1) := by decide +kernel
theorem dX5_keep_33 : decode cX5_keep 33 = .ok (.iastore, 1) := by decide +kernel
theorem dX5_keep_34 : decode cX5_keep 34 = .ok (.goto 10, 3) := by decide +kernel
theorem dX5_keep_37 : decode cX5_keep 37 = .ok (.aload_n 0, 1) := by decide +kernel
theorem dX5_keep_38 : decode cX5_keep 38 = .ok (.getfield 9, 3) := by decide +kernel
theorem dX5_keep_41 : decode cX5_keep 41 = .ok (.iload_n 1, 1) := by decide +kernel
theorem dX5_keep_42 : decode cX5_keep 42 = .ok (.iload_n 2, 1) := by decide +kernel
theorem dX5_keep_43 : decode cX5_keep 43 = .ok (.iastore, 1) := by decide +kernel
theorem dX5_keep_44 : decode cX5_keep 44 = .ok (.return_, 1) := by decide +kernel
theorem dX6_init_0 : decode cX6_init 0 = .ok (.aload_n 0, 1) := by decide +kernel
theorem dX6_init_1 : decode cX6_init 1 = .ok (.invokespecial 1, 3) := by decide +kernel
theorem dX6_init_4 : decode cX6_init 4 = .ok (.aload_n 0, 1) := by decide +kernel
theorem dX6_init_5 : decode cX6_init 5 = .ok (.iload_n 1, 1) := by decide +kernel
theorem dX6_init_6 : decode cX6_init 6 = .ok (.newarray .int, 2) := by decide +kernel
theorem dX6_init_8 : decode cX6_init 8 = .ok (.putfield 7, 3) := by decide +kernel
theorem dX6_init_11 : decode cX6_init 11 = .ok (.aload_n 0, 1) := by decide +kernel
theorem dX6_init_12 : decode cX6_init 12 = .ok (.iconst 0, 1) := by decide +kernel
theorem dX6_init_13 : decode cX6_init 13 = .ok (.putfield 13, 3) := by decide +kernel
theorem dX6_init_16 : decode cX6_init 16 = .ok (.return_, 1) := by decide +kernel
theorem dX6_append_0 : decode cX6_append 0 = .ok (.aload_n 0, 1) := by decide +kernel
theorem dX6_append_1 : decode cX6_append 1 = .ok (.getfield 13, 3) := by decide +kernel
theorem dX6_append_4 : decode cX6_append 4 = .ok (.aload_n 0, 1) := by decide +kernel
theorem dX6_append_5 : decode cX6_append 5 = .ok (.getfield 7, 3) := by decide +kernel
theorem dX6_append_8 : decode cX6_append 8 = .ok (.arraylength, 1) := by decide +kernel
theorem dX6_append_9 : decode cX6_append 9 = .ok (.if_icmp .lt 5, 3) := by decide +kernel
theorem dX6_append_12 : decode cX6_append 12 = .ok (.iconst 0, 1) := by decide +kernel
theorem dX6_append_13 : decode cX6_append 13 = .ok (.ireturn, 1) := by decide +kernel
theorem dX6_append_14 : decode cX6_append 14 = .ok (.aload_n 0, 1) := by decide +kernel
theorem dX6_append_15 : decode cX6_append 15 = .ok (.getfield 7, 3) := by decide +kernel
theorem dX6_append_18 : decode cX6_append 18 = .ok (.aload_n 0, 1) := by decide +kernel
theorem dX6_append_19 : decode cX6_append 19 = .ok (.getfield 13, 3) := by decide +kernel
theorem dX6_append_22 : decode cX6_append 22 = .ok (.iload_n 1, 1) := by decide +kernel
theorem dX6_append_23 : decode cX6_append 23 = .ok (.iastore, 1) := by decide +kernel
theorem dX6_append_24 : decode cX6_append 24 = .ok (.aload_n 0, 1) := by decide +kernel
theorem dX6_append_25 : decode cX6_append 25 = .ok (.dup, 1) := by decide +kernel
theorem dX6_append_26 : decode cX6_append 26 = .ok (.getfield 13, 3) := by decide +kernel
theorem dX6_append_29 : decode cX6_append 29 = .ok (.iconst 1, 1) := by decide +kernel
theorem dX6_append_30 : decode cX6_append 30 = .ok (.iadd, 1) := by decide +kernel
theorem dX6_append_31 : decode cX6_append 31 = .ok (.putfield 13, 3) := by decide +kernel
theorem dX6_append_34 : decode cX6_append 34 = .ok (.iconst 1, 1) := by decide +kernel
theorem dX6_append_35 : decode cX6_append 35 = .ok (.ireturn, 1) := by decide +kernel
theorem dX7_init_0 : decode cX7_init 0 = .ok (.aload_n 0, 1) := by decide +kernel
theorem dX7_init_1 : decode cX7_init 1 = .ok (.invokespecial 3, 3) := by decide +kernel
theorem dX7_init_4 : decode cX7_init 4 = .ok (.aload_n 0, 1) := by decide +kernel
theorem dX7_init_5 : decode cX7_init 5 = .ok (.bipush 36, 2) := by decide +kernel
theorem dX7_init_7 : decode cX7_init 7 = .ok (.newarray .int, 2) := by decide +kernel
theorem dX7_init_9 : decode cX7_init 9 = .ok (.putfield 9, 3) := by decide +kernel
theorem dX7_init_12 : decode cX7_init 12 = .ok (.aload_n 0, 1) := by decide +kernel
theorem dX7_init_13 : decode cX7_init 13 = .ok (.bipush 36, 2) := by decide +kernel
theorem dX7_init_15 : decode cX7_init 15 = .ok (.newarray .int, 2) := by decide +kernel
theorem dX7_init_17 : decode cX7_init 17 = .ok (.putfield 15, 3) := by decide +kernel
theorem dX7_init_20 : decode cX7_init 20 = .ok (.aload_n 0, 1) := by decide +kernel
theorem dX7_init_21 : decode cX7_init 21 = .ok (.sipush 250, 3) := by decide +kernel
theorem dX7_init_24 : decode cX7_init 24 = .ok (.newarray .int, 2) := by decide +kernel
theorem dX7_init_26 : decode cX7_init 26 = .ok (.putfield 18, 3) := by decide +kernel
theorem dX7_init_29 : decode cX7_init 29 = .ok (.aload_n 0, 1) := by decide +kernel
theorem dX7_init_30 : decode cX7_init 30 = .ok (.bipush 10, 2) := by decide +kernel
theorem dX7_init_32 : decode cX7_init 32 = .ok (.newarray .int, 2) := by decide +kernel
theorem dX7_init_34 : decode cX7_init 34 = .ok (.putfield 21, 3) := by decide +kernel
theorem dX7_init_37 : decode cX7_init 37 = .ok (.aload_n 0, 1) := by decide +kernel
theorem dX7_init_38 : decode cX7_init 38 = .ok (.bipush 10, 2) := by decide +kernel
theorem dX7_init_40 : decode cX7_init 40 = .ok (.newarray .long, 2) := by decide +kernel
theorem dX7_init_42 : decode cX7_init 42 = .ok (.putfield 24, 3) := by decide +kernel
theorem dX7_init_45 : decode cX7_init 45 = .ok (.aload_n 0, 1) := by decide +kernel
theorem dX7_init_46 : decode cX7_init 46 = .ok (.bipush 60, 2) := by decide +kernel
theorem dX7_init_48 : decode cX7_init 48 = .ok (.newarray .int, 2) := by decide +kernel
theorem dX7_init_50 : decode cX7_init 50 = .ok (.putfield 28, 3) := by decide +kernel
theorem dX7_init_53 : decode cX7_init 53 = .ok (.aload_n 0, 1) := by decide +kernel
theorem dX7_init_54 : decode cX7_init 54 = .ok (.iconst 0, 1) := by decide +kernel
theorem dX7_init_55 : decode cX7_init 55 = .ok (.putfield 31, 3) := by decide +kernel
theorem dX7_init_58 : decode cX7_init 58 = .ok (.aload_n 0, 1) := by decide +kernel
theorem dX7_init_59 : decode cX7_init 59 = .ok (.bipush 10, 2) := by decide +kernel
theorem dX7_init_61 : decode cX7_init 61 = .ok (.putfield 35, 3) := by decide +kernel
theorem dX7_init_64 : decode cX7_init 64 = .ok (.aload_n 0, 1) := by decide +kernel
theorem dX7_init_65 : decode cX7_init 65 = .ok (.iconst (-1), 1) := by decide +kernel
theorem dX7_init_66 : decode cX7_init 66 = .ok (.putfield 38, 3) := by decide +kernel
theorem dX7_init_69 : decode cX7_init 69 = .ok (.aload_n 0, 1) := by decide +kernel
theorem dX7_init_70 : decode cX7_init 70 = .ok (.iconst (-1), 1) := by decide +kernel
theorem dX7_init_71 : decode cX7_init 71 = .ok (.putfield 41, 3) := by decide +kernel
theorem dX7_init_74 : decode cX7_init 74 = .ok (.aload_n 0, 1) := by decide +kernel
theorem dX7_init_75 : decode cX7_init 75 = .ok (.aload_n 1, 1) := by decide +kernel
theorem dX7_init_76 : decode cX7_init 76 = .ok (.putfield 44, 3) := by decide +kernel
theorem dX7_init_79 : decode cX7_init 79 = .ok (.aload_n 0, 1) := by decide +kernel
theorem dX7_init_80 : decode cX7_init 80 = .ok (.aload_n 2, 1) := by decide +kernel
theorem dX7_init_81 : decode cX7_init 81 = .ok (.putfield 48, 3) := by decide +kernel
theorem dX7_init_84 : decode cX7_init 84 = .ok (.aload_n 0, 1) := by decide +kernel
theorem dX7_init_85 : decode cX7_init 85 = .ok (.aload_n 3, 1) := by decide +kernel
theorem dX7_init_86 : decode cX7_init 86 = .ok (.putfield 52, 3) := by decide +kernel
theorem dX7_init_89 : decode cX7_init 89 = .ok (.return_, 1) := by decide +kernel
theorem dX7_becomeLike_0 : decode cX7_becomeLike 0 = .ok (.aload_n 0, 1) := by decide +kernel
theorem dX7_becomeLike_1 : decode cX7_becomeLike 1 = .ok (.aload_n 1, 1) := by decide +kernel
theorem dX7_becomeLike_2 : decode cX7_becomeLike 2 = .ok (.getfield 31, 3) := by decide +kernel
theorem dX7_becomeLike_5 : decode cX7_becomeLike 5 = .ok (.putfield 31, 3) := by decide +kernel
theorem dX7_becomeLike_8 : decode cX7_becomeLike 8 = .ok (.aload_n 0, 1) := by decide +kernel
theorem dX7_becomeLike_9 : decode cX7_becomeLike 9 = .ok (.aload_n 1, 1) := by decide +kernel
theorem dX7_becomeLike_10 : decode cX7_becomeLike 10 = .ok (.getfield 35, 3) := by decide +kernel
theorem dX7_becomeLike_13 : decode cX7_becomeLike 13 = .ok (.putfield 35, 3) := by decide +kernel
theorem dX7_becomeLike_16 : decode cX7_becomeLike 16 = .ok (.aload_n 0, 1) := by decide +kernel
theorem dX7_becomeLike_17 : decode cX7_becomeLike 17 = .ok (.aload_n 1, 1) := by decide +kernel
theorem dX7_becomeLike_18 : decode cX7_becomeLike 18 = .ok (.getfield 38, 3) := by decide +kernel
theorem dX7_becomeLike_21 : decode cX7_becomeLike 21 = .ok (.putfield 38, 3) := by decide +kernel
theorem dX7_becomeLike_24 : decode cX7_becomeLike 24 = .ok (.aload_n 0, 1) := by decide +kernel
theorem dX7_becomeLike_25 : decode cX7_becomeLike 25 = .ok (.aload_n 1, 1) := by decide +kernel
theorem dX7_becomeLike_26 : decode cX7_becomeLike 26 = .ok (.getfield 41, 3) := by decide +kernel
theorem dX7_becomeLike_29 : decode cX7_becomeLike 29 = .ok (.putfield 41, 3) := by decide +kernel
theorem dX7_becomeLike_32 : decode cX7_becomeLike 32 = .ok (.return_, 1) := by decide +kernel
theorem dX7_walkNights_0 : decode cX7_walkNights 0 = .ok (.iconst 0, 1) := by decide +kernel
theorem dX7_walkNights_1 : decode cX7_walkNights 1 = .ok (.istore_n 2, 1) := by decide +kernel
theorem dX7_walkNights_2 : decode cX7_walkNights 2 = .ok (.iload_n 2, 1) := by decide +kernel
theorem dX7_walkNights_3 : decode cX7_walkNights 3 = .ok (.iload_n 1, 1) := by decide +kernel
theorem dX7_walkNights_4 : decode cX7_walkNights 4 = .ok (.if_icmp .gt 25, 3) := by decide +kernel
theorem dX7_walkNights_7 : decode cX7_walkNights 7 = .ok (.iload_n 2, 1) := by decide +kernel
theorem dX7_walkNights_8 : decode cX7_walkNights 8 = .ok (.bipush 10, 2) := by decide +kernel
theorem dX7_walkNights_10 : decode cX7_walkNights 10 = .ok (.if_icmp .ge 19, 3) := by decide +kernel
theorem dX7_walkNights_13 : decode cX7_walkNights 13 = .ok (.aload_n 0, 1) := by decide +kernel
theorem dX7_walkNights_14 : decode cX7_walkNights 14 = .ok (.iload_n 2, 1) := by decide +kernel
theorem dX7_walkNights_15 : decode cX7_walkNights 15 = .ok (.invokevirtual 55, 3) := by decide +kernel
theorem dX7_walkNights_18 : decode cX7_walkNights 18 = .ok (.aload_n 0, 1) := by decide +kernel
theorem dX7_walkNights_19 : decode cX7_walkNights 19 = .ok (.iload_n 2, 1) := by decide +kernel
theorem dX7_walkNights_20 : decode cX7_walkNights 20 = .ok (.invokevirtual 59, 3) := by decide +kernel
theorem dX7_walkNights_23 : decode cX7_walkNights 23 = .ok (.iinc 2 1, 3) := by decide +kernel
theorem dX7_walkNights_26 : decode cX7_walkNights 26 = .ok (.goto (-24), 3) := by decide +kernel
theorem dX7_walkNights_29 : decode cX7_walkNights 29 = .ok (.return_, 1) := by decide +kernel
theorem dX7_isDrawnBy_0 : decode cX7_isDrawnBy 0 = .ok (.aload_n 0, 1) := by decide +kernel
theorem dX7_isDrawnBy_1 : decode cX7_isDrawnBy 1 = .ok (.getfield 15, 3) := by decide +kernel
theorem dX7_isDrawnBy_4 : decode cX7_isDrawnBy 4 = .ok (.iload_n 1, 1) := by decide +kernel
theorem dX7_isDrawnBy_5 : decode cX7_isDrawnBy 5 = .ok (.dup2, 1) := by decide +kernel
theorem dX7_isDrawnBy_6 : decode cX7_isDrawnBy 6 = .ok (.iaload, 1) := by decide +kernel
theorem dX7_isDrawnBy_7 : decode cX7_isDrawnBy 7 = .ok (.iconst 4, 1) := by decide +kernel
theorem dX7_isDrawnBy_8 : decode cX7_isDrawnBy 8 = .ok (.iadd, 1) := by decide +kernel
theorem dX7_isDrawnBy_9 : decode cX7_isDrawnBy 9 = .ok (.iastore, 1) := by decide +kernel
theorem dX7_isDrawnBy_10 : decode cX7_isDrawnBy 10 = .ok (.iload_n 2, 1) := by decide +kernel
theorem dX7_isDrawnBy_11 : decode cX7_isDrawnBy 11 = .ok (.iconst (-1), 1) := by decide +kernel
theorem dX7_isDrawnBy_12 : decode cX7_isDrawnBy 12 = .ok (.if_icmp .eq 13, 3) := by decide +kernel
theorem dX7_isDrawnBy_15 : decode cX7_isDrawnBy 15 = .ok (.aload_n 0, 1) := by decide +kernel
theorem dX7_isDrawnBy_16 : decode cX7_isDrawnBy 16 = .ok (.getfield 15, 3) := by decide +kernel
theorem dX7_isDrawnBy_19 : decode cX7_isDrawnBy 19 = .ok (.iload_n 2, 1) := by decide +kernel
theorem dX7_isDrawnBy_20 : decode cX7_isDrawnBy 20 = .ok (.dup2, 1) := by decide +kernel
theorem dX7_isDrawnBy_21 : decode cX7_isDrawnBy 21 = .ok (.iaload, 1) := by decide +kernel
theorem dX7_isDrawnBy_22 : decode cX7_isDrawnBy 22 = .ok (.iconst 4, 1) := by decide +kernel
theorem dX7_isDrawnBy_23 : decode cX7_isDrawnBy 23 = .ok (.iadd, 1) := by decide +kernel
theorem dX7_isDrawnBy_24 : decode cX7_isDrawnBy 24 = .ok (.iastore, 1) := by decide +kernel
theorem dX7_isDrawnBy_25 : decode cX7_isDrawnBy 25 = .ok (.aload_n 0, 1) := by decide +kernel
theorem dX7_isDrawnBy_26 : decode cX7_isDrawnBy 26 = .ok (.iload_n 3, 1) := by decide +kernel
theorem dX7_isDrawnBy_27 : decode cX7_isDrawnBy 27 = .ok (.invokevirtual 59, 3) := by decide +kernel
theorem dX7_isDrawnBy_30 : decode cX7_isDrawnBy 30 = .ok (.aload_n 0, 1) := by decide +kernel
theorem dX7_isDrawnBy_31 : decode cX7_isDrawnBy 31 = .ok (.getfield 15, 3) := by decide +kernel
theorem dX7_isDrawnBy_34 : decode cX7_isDrawnBy 34 = .ok (.iload_n 1, 1) := by decide +kernel
theorem dX7_isDrawnBy_35 : decode cX7_isDrawnBy 35 = .ok (.dup2, 1) := by decide +kernel
theorem dX7_isDrawnBy_36 : decode cX7_isDrawnBy 36 = .ok (.iaload, 1) := by decide +kernel
theorem dX7_isDrawnBy_37 : decode cX7_isDrawnBy 37 = .ok (.iconst 4, 1) := by decide +kernel
theorem dX7_isDrawnBy_38 : decode cX7_isDrawnBy 38 = .ok (.isub, 1) := by decide +kernel
theorem dX7_isDrawnBy_39 : decode cX7_isDrawnBy 39 = .ok (.iastore, 1) := by decide +kernel
theorem dX7_isDrawnBy_40 : decode cX7_isDrawnBy 40 = .ok (.iload_n 2, 1) := by decide +kernel
theorem dX7_isDrawnBy_41 : decode cX7_isDrawnBy 41 = .ok (.iconst (-1), 1) := by decide +kernel
theorem dX7_isDrawnBy_42 : decode cX7_isDrawnBy 42 = .ok (.if_icmp .eq 13, 3) := by decide +kernel
theorem dX7_isDrawnBy_45 : decode cX7_isDrawnBy 45 = .ok (.aload_n 0, 1) := by decide +kernel
theorem dX7_isDrawnBy_46 : decode cX7_isDrawnBy 46 = .ok (.getfield 15, 3) := by decide +kernel
theorem dX7_isDrawnBy_49 : decode cX7_isDrawnBy 49 = .ok (.iload_n 2, 1) := by decide +kernel
theorem dX7_isDrawnBy_50 : decode cX7_isDrawnBy 50 = .ok (.dup2, 1) := by decide +kernel
theorem dX7_isDrawnBy_51 : decode cX7_isDrawnBy 51 = .ok (.iaload, 1) := by decide +kernel
theorem dX7_isDrawnBy_52 : decode cX7_isDrawnBy 52 = .ok (.iconst 4, 1) := by decide +kernel
theorem dX7_isDrawnBy_53 : decode cX7_isDrawnBy 53 = .ok (.isub, 1) := by decide +kernel
theorem dX7_isDrawnBy_54 : decode cX7_isDrawnBy 54 = .ok (.iastore, 1) := by decide +kernel
theorem dX7_isDrawnBy_55 : decode cX7_isDrawnBy 55 = .ok (.aload_n 0, 1) := by decide +kernel
theorem dX7_isDrawnBy_56 : decode cX7_isDrawnBy 56 = .ok (.iload_n 3, 1) := by decide +kernel
theorem dX7_isDrawnBy_57 : decode cX7_isDrawnBy 57 = .ok (.iload 4, 2) := by decide +kernel
theorem dX7_isDrawnBy_59 : decode cX7_isDrawnBy 59 = .ok (.invokevirtual 62, 3) := by decide +kernel
theorem dX7_isDrawnBy_62 : decode cX7_isDrawnBy 62 = .ok (.iload 5, 2) := by decide +kernel
theorem dX7_isDrawnBy_64 : decode cX7_isDrawnBy 64 = .ok (.if_icmp .ne 7, 3) := by decide +kernel
theorem dX7_isDrawnBy_67 : decode cX7_isDrawnBy 67 = .ok (.iconst 1, 1) := by decide +kernel
theorem dX7_isDrawnBy_68 : decode cX7_isDrawnBy 68 = .ok (.goto 4, 3) := by decide +kernel
theorem dX7_isDrawnBy_71 : decode cX7_isDrawnBy 71 = .ok (.iconst 0, 1) := by decide +kernel
theorem dX7_isDrawnBy_72 : decode cX7_isDrawnBy 72 = .ok (.ireturn, 1) := by decide +kernel
theorem dX7_weigh_0 : decode cX7_weigh 0 = .ok (.iload_n 1, 1) := by decide +kernel
theorem dX7_weigh_1 : decode cX7_weigh 1 = .ok (.ifCond .le 14, 3) := by decide +kernel
theorem dX7_weigh_4 : decode cX7_weigh 4 = .ok (.aload_n 0, 1) := by decide +kernel
theorem dX7_weigh_5 : decode cX7_weigh 5 = .ok (.getfield 24, 3) := by decide +kernel
theorem dX7_weigh_8 : decode cX7_weigh 8 = .ok (.iload_n 1, 1) := by decide +kernel
theorem dX7_weigh_9 : decode cX7_weigh 9 = .ok (.iconst 1, 1) := by decide +kernel
theorem dX7_weigh_10 : decode cX7_weigh 10 = .ok (.isub, 1) := by decide +kernel
theorem dX7_weigh_11 : decode cX7_weigh 11 = .ok (.laload, 1) := by decide +kernel
theorem dX7_weigh_12 : decode cX7_weigh 12 = .ok (.goto 4, 3) := by decide +kernel
theorem dX7_weigh_15 : decode cX7_weigh 15 = .ok (.lconst 0, 1) := by decide +kernel
theorem dX7_weigh_16 : decode cX7_weigh 16 = .ok (.lstore_n 2, 1) := by decide +kernel
theorem dX7_weigh_17 : decode cX7_weigh 17 = .ok (.iconst 0, 1) := by decide +kernel
theorem dX7_weigh_18 : decode cX7_weigh 18 = .ok (.istore 4, 2) := by decide +kernel
theorem dX7_weigh_20 : decode cX7_weigh 20 = .ok (.iload 4, 2) := by decide +kernel
theorem dX7_weigh_22 : decode cX7_weigh 22 = .ok (.aload_n 0, 1) := by decide +kernel
theorem dX7_weigh_23 : decode cX7_weigh 23 = .ok (.getfield 44, 3) := by decide +kernel
theorem dX7_weigh_26 : decode cX7_weigh 26 = .ok (.getfield 66, 3) := by decide +kernel
theorem dX7_weigh_29 : decode cX7_weigh 29 = .ok (.if_icmp .ge 92, 3) := by decide +kernel
theorem dX7_weigh_32 : decode cX7_weigh 32 = .ok (.iload 4, 2) := by decide +kernel
theorem dX7_weigh_34 : decode cX7_weigh 34 = .ok (.aload_n 0, 1) := by decide +kernel
theorem dX7_weigh_35 : decode cX7_weigh 35 = .ok (.getfield 41, 3) := by decide +kernel
theorem dX7_weigh_38 : decode cX7_weigh 38 = .ok (.if_icmp .ne 7, 3) := by decide +kernel
theorem dX7_weigh_41 : decode cX7_weigh 41 = .ok (.iconst 2, 1) := by decide +kernel
theorem dX7_weigh_42 : decode cX7_weigh 42 = .ok (.goto 13, 3) := by decide +kernel
theorem dX7_weigh_45 : decode cX7_weigh 45 = .ok (.aload_n 0, 1) := by decide +kernel
theorem dX7_weigh_46 : decode cX7_weigh 46 = .ok (.getfield 44, 3) := by decide +kernel
theorem dX7_weigh_49 : decode cX7_weigh 49 = .ok (.getfield 71, 3) := by decide +kernel
theorem dX7_weigh_52 : decode cX7_weigh 52 = .ok (.iload 4, 2) := by decide +kernel
theorem dX7_weigh_54 : decode cX7_weigh 54 = .ok (.iaload, 1) := by decide +kernel
theorem dX7_weigh_55 : decode cX7_weigh 55 = .ok (.istore 5, 2) := by decide +kernel
theorem dX7_weigh_57 : decode cX7_weigh 57 = .ok (.aload_n 0, 1) := by decide +kernel
theorem dX7_weigh_58 : decode cX7_weigh 58 = .ok (.getfield 9, 3) := by decide +kernel
theorem dX7_weigh_61 : decode cX7_weigh 61 = .ok (.iload 4, 2) := by decide +kernel
theorem dX7_weigh_63 : decode cX7_weigh 63 = .ok (.iload 5, 2) := by decide +kernel
theorem dX7_weigh_65 : decode cX7_weigh 65 = .ok (.iconst 2, 1) := by decide +kernel
theorem dX7_weigh_66 : decode cX7_weigh 66 = .ok (.if_icmp .ne 7, 3) := by decide +kernel
theorem dX7_weigh_69 : decode cX7_weigh 69 = .ok (.iconst 2, 1) := by decide +kernel
theorem dX7_weigh_70 : decode cX7_weigh 70 = .ok (.goto 4, 3) := by decide +kernel
theorem dX7_weigh_73 : decode cX7_weigh 73 = .ok (.iconst 0, 1) := by decide +kernel
