theorem dX8_realm_31 : decode cX8_realm 31 = .ok (.iload_n 2, 1) := by decide +kernel
theorem dX8_realm_32 : decode cX8_realm 32 = .ok (.invokevirtual 176, 3) := by decide +kernel
theorem dX8_realm_35 : decode cX8_realm 35 = .ok (.ireturn, 1) := by decide +kernel
theorem dX8_lies_0 : decode cX8_lies 0 = .ok (.iload_n 1, 1) := by decide +kernel
theorem dX8_lies_1 : decode cX8_lies 1 = .ok (.invokestatic 149, 3) := by decide +kernel
theorem dX8_lies_4 : decode cX8_lies 4 = .ok (.ifCond .eq 11, 3) := by decide +kernel
theorem dX8_lies_7 : decode cX8_lies 7 = .ok (.aload_n 0, 1) := by decide +kernel
theorem dX8_lies_8 : decode cX8_lies 8 = .ok (.iload_n 2, 1) := by decide +kernel
theorem dX8_lies_9 : decode cX8_lies 9 = .ok (.invokevirtual 114, 3) := by decide +kernel
theorem dX8_lies_12 : decode cX8_lies 12 = .ok (.ifCond .ne 6, 3) := by decide +kernel
theorem dX8_lies_15 : decode cX8_lies 15 = .ok (.bipush (-2), 2) := by decide +kernel
theorem dX8_lies_17 : decode cX8_lies 17 = .ok (.ireturn, 1) := by decide +kernel
theorem dX8_lies_18 : decode cX8_lies 18 = .ok (.aload_n 0, 1) := by decide +kernel
theorem dX8_lies_19 : decode cX8_lies 19 = .ok (.invokevirtual 159, 3) := by decide +kernel
theorem dX8_lies_22 : decode cX8_lies 22 = .ok (.iload_n 1, 1) := by decide +kernel
theorem dX8_lies_23 : decode cX8_lies 23 = .ok (.aload_n 0, 1) := by decide +kernel
theorem dX8_lies_24 : decode cX8_lies 24 = .ok (.getfield 28, 3) := by decide +kernel
theorem dX8_lies_27 : decode cX8_lies 27 = .ok (.getfield 117, 3) := by decide +kernel
theorem dX8_lies_30 : decode cX8_lies 30 = .ok (.iload_n 2, 1) := by decide +kernel
theorem dX8_lies_31 : decode cX8_lies 31 = .ok (.iaload, 1) := by decide +kernel
theorem dX8_lies_32 : decode cX8_lies 32 = .ok (.invokevirtual 176, 3) := by decide +kernel
theorem dX8_lies_35 : decode cX8_lies 35 = .ok (.ireturn, 1) := by decide +kernel
theorem dX8_changes_0 : decode cX8_changes 0 = .ok (.aload_n 0, 1) := by decide +kernel
theorem dX8_changes_1 : decode cX8_changes 1 = .ok (.iload_n 1, 1) := by decide +kernel
theorem dX8_changes_2 : decode cX8_changes 2 = .ok (.invokevirtual 114, 3) := by decide +kernel
theorem dX8_changes_5 : decode cX8_changes 5 = .ok (.ifCond .ne 6, 3) := by decide +kernel
theorem dX8_changes_8 : decode cX8_changes 8 = .ok (.bipush (-2), 2) := by decide +kernel
theorem dX8_changes_10 : decode cX8_changes 10 = .ok (.ireturn, 1) := by decide +kernel
theorem dX8_changes_11 : decode cX8_changes 11 = .ok (.aload_n 0, 1) := by decide +kernel
theorem dX8_changes_12 : decode cX8_changes 12 = .ok (.invokevirtual 159, 3) := by decide +kernel
theorem dX8_changes_15 : decode cX8_changes 15 = .ok (.astore_n 2, 1) := by decide +kernel
theorem dX8_changes_16 : decode cX8_changes 16 = .ok (.aload_n 0, 1) := by decide +kernel
theorem dX8_changes_17 : decode cX8_changes 17 = .ok (.getfield 28, 3) := by decide +kernel
theorem dX8_changes_20 : decode cX8_changes 20 = .ok (.getfield 117, 3) := by decide +kernel
theorem dX8_changes_23 : decode cX8_changes 23 = .ok (.iload_n 1, 1) := by decide +kernel
theorem dX8_changes_24 : decode cX8_changes 24 = .ok (.iaload, 1) := by decide +kernel
theorem dX8_changes_25 : decode cX8_changes 25 = .ok (.istore_n 3, 1) := by decide +kernel
theorem dX8_changes_26 : decode cX8_changes 26 = .ok (.iconst 0, 1) := by decide +kernel
theorem dX8_changes_27 : decode cX8_changes 27 = .ok (.istore 4, 2) := by decide +kernel
theorem dX8_changes_29 : decode cX8_changes 29 = .ok (.iconst 1, 1) := by decide +kernel
theorem dX8_changes_30 : decode cX8_changes 30 = .ok (.istore 5, 2) := by decide +kernel
theorem dX8_changes_32 : decode cX8_changes 32 = .ok (.iload 5, 2) := by decide +kernel
theorem dX8_changes_34 : decode cX8_changes 34 = .ok (.bipush 10, 2) := by decide +kernel
theorem dX8_changes_36 : decode cX8_changes 36 = .ok (.if_icmp .ge 31, 3) := by decide +kernel
theorem dX8_changes_39 : decode cX8_changes 39 = .ok (.aload_n 2, 1) := by decide +kernel
theorem dX8_changes_40 : decode cX8_changes 40 = .ok (.iload 5, 2) := by decide +kernel
theorem dX8_changes_42 : decode cX8_changes 42 = .ok (.iload_n 3, 1) := by decide +kernel
theorem dX8_changes_43 : decode cX8_changes 43 = .ok (.invokevirtual 176, 3) := by decide +kernel
theorem dX8_changes_46 : decode cX8_changes 46 = .ok (.aload_n 2, 1) := by decide +kernel
theorem dX8_changes_47 : decode cX8_changes 47 = .ok (.iload 5, 2) := by decide +kernel
theorem dX8_changes_49 : decode cX8_changes 49 = .ok (.iconst 1, 1) := by decide +kernel
theorem dX8_changes_50 : decode cX8_changes 50 = .ok (.isub, 1) := by decide +kernel
theorem dX8_changes_51 : decode cX8_changes 51 = .ok (.iload_n 3, 1) := by decide +kernel
theorem dX8_changes_52 : decode cX8_changes 52 = .ok (.invokevirtual 176, 3) := by decide +kernel
theorem dX8_changes_55 : decode cX8_changes 55 = .ok (.if_icmp .eq 6, 3) := by decide +kernel
theorem dX8_changes_58 : decode cX8_changes 58 = .ok (.iinc 4 1, 3) := by decide +kernel
theorem dX8_changes_61 : decode cX8_changes 61 = .ok (.iinc 5 1, 3) := by decide +kernel
theorem dX8_changes_64 : decode cX8_changes 64 = .ok (.goto (-32), 3) := by decide +kernel
theorem dX8_changes_67 : decode cX8_changes 67 = .ok (.iload 4, 2) := by decide +kernel
theorem dX8_changes_69 : decode cX8_changes 69 = .ok (.ireturn, 1) := by decide +kernel
theorem dX8_taxes_0 : decode cX8_taxes 0 = .ok (.iload_n 1, 1) := by decide +kernel
theorem dX8_taxes_1 : decode cX8_taxes 1 = .ok (.invokestatic 149, 3) := by decide +kernel
theorem dX8_taxes_4 : decode cX8_taxes 4 = .ok (.ifCond .eq 11, 3) := by decide +kernel
theorem dX8_taxes_7 : decode cX8_taxes 7 = .ok (.iload_n 2, 1) := by decide +kernel
theorem dX8_taxes_8 : decode cX8_taxes 8 = .ok (.iconst 1, 1) := by decide +kernel
theorem dX8_taxes_9 : decode cX8_taxes 9 = .ok (.invokestatic 90, 3) := by decide +kernel
theorem dX8_taxes_12 : decode cX8_taxes 12 = .ok (.ifCond .ne 6, 3) := by decide +kernel
theorem dX8_taxes_15 : decode cX8_taxes 15 = .ok (.bipush (-2), 2) := by decide +kernel
theorem dX8_taxes_17 : decode cX8_taxes 17 = .ok (.ireturn, 1) := by decide +kernel
theorem dX8_taxes_18 : decode cX8_taxes 18 = .ok (.aload_n 0, 1) := by decide +kernel
theorem dX8_taxes_19 : decode cX8_taxes 19 = .ok (.invokevirtual 159, 3) := by decide +kernel
theorem dX8_taxes_22 : decode cX8_taxes 22 = .ok (.astore_n 3, 1) := by decide +kernel
theorem dX8_taxes_23 : decode cX8_taxes 23 = .ok (.iconst 0, 1) := by decide +kernel
theorem dX8_taxes_24 : decode cX8_taxes 24 = .ok (.istore 4, 2) := by decide +kernel
theorem dX8_taxes_26 : decode cX8_taxes 26 = .ok (.iconst 0, 1) := by decide +kernel
theorem dX8_taxes_27 : decode cX8_taxes 27 = .ok (.istore 5, 2) := by decide +kernel
theorem dX8_taxes_29 : decode cX8_taxes 29 = .ok (.iload 5, 2) := by decide +kernel
theorem dX8_taxes_31 : decode cX8_taxes 31 = .ok (.iload_n 1, 1) := by decide +kernel
theorem dX8_taxes_32 : decode cX8_taxes 32 = .ok (.if_icmp .gt 65, 3) := by decide +kernel
theorem dX8_taxes_35 : decode cX8_taxes 35 = .ok (.iconst 0, 1) := by decide +kernel
theorem dX8_taxes_36 : decode cX8_taxes 36 = .ok (.istore 6, 2) := by decide +kernel
theorem dX8_taxes_38 : decode cX8_taxes 38 = .ok (.iload 6, 2) := by decide +kernel
theorem dX8_taxes_40 : decode cX8_taxes 40 = .ok (.aload_n 0, 1) := by decide +kernel
theorem dX8_taxes_41 : decode cX8_taxes 41 = .ok (.getfield 28, 3) := by decide +kernel
theorem dX8_taxes_44 : decode cX8_taxes 44 = .ok (.getfield 179, 3) := by decide +kernel
theorem dX8_taxes_47 : decode cX8_taxes 47 = .ok (.if_icmp .ge 44, 3) := by decide +kernel
theorem dX8_taxes_50 : decode cX8_taxes 50 = .ok (.aload_n 3, 1) := by decide +kernel
theorem dX8_taxes_51 : decode cX8_taxes 51 = .ok (.iload 5, 2) := by decide +kernel
theorem dX8_taxes_53 : decode cX8_taxes 53 = .ok (.aload_n 0, 1) := by decide +kernel
theorem dX8_taxes_54 : decode cX8_taxes 54 = .ok (.getfield 28, 3) := by decide +kernel
theorem dX8_taxes_57 : decode cX8_taxes 57 = .ok (.getfield 117, 3) := by decide +kernel
theorem dX8_taxes_60 : decode cX8_taxes 60 = .ok (.iload 6, 2) := by decide +kernel
theorem dX8_taxes_62 : decode cX8_taxes 62 = .ok (.iaload, 1) := by decide +kernel
theorem dX8_taxes_63 : decode cX8_taxes 63 = .ok (.invokevirtual 176, 3) := by decide +kernel
theorem dX8_taxes_66 : decode cX8_taxes 66 = .ok (.iload_n 2, 1) := by decide +kernel
theorem dX8_taxes_67 : decode cX8_taxes 67 = .ok (.if_icmp .ne 18, 3) := by decide +kernel
theorem dX8_taxes_70 : decode cX8_taxes 70 = .ok (.iload 4, 2) := by decide +kernel
theorem dX8_taxes_72 : decode cX8_taxes 72 = .ok (.aload_n 0, 1) := by decide +kernel
theorem dX8_taxes_73 : decode cX8_taxes 73 = .ok (.getfield 28, 3) := by decide +kernel
theorem dX8_taxes_76 : decode cX8_taxes 76 = .ok (.getfield 120, 3) := by decide +kernel
theorem dX8_taxes_79 : decode cX8_taxes 79 = .ok (.iload 6, 2) := by decide +kernel
theorem dX8_taxes_81 : decode cX8_taxes 81 = .ok (.iaload, 1) := by decide +kernel
theorem dX8_taxes_82 : decode cX8_taxes 82 = .ok (.iadd, 1) := by decide +kernel
theorem dX8_taxes_83 : decode cX8_taxes 83 = .ok (.istore 4, 2) := by decide +kernel
theorem dX8_taxes_85 : decode cX8_taxes 85 = .ok (.iinc 6 1, 3) := by decide +kernel
theorem dX8_taxes_88 : decode cX8_taxes 88 = .ok (.goto (-50), 3) := by decide +kernel
theorem dX8_taxes_91 : decode cX8_taxes 91 = .ok (.iinc 5 1, 3) := by decide +kernel
theorem dX8_taxes_94 : decode cX8_taxes 94 = .ok (.goto (-65), 3) := by decide +kernel
theorem dX8_taxes_97 : decode cX8_taxes 97 = .ok (.iload 4, 2) := by decide +kernel
theorem dX8_taxes_99 : decode cX8_taxes 99 = .ok (.ireturn, 1) := by decide +kernel
theorem dX8_first_0 : decode cX8_first 0 = .ok (.iload_n 1, 1) := by decide +kernel
theorem dX8_first_1 : decode cX8_first 1 = .ok (.iconst 1, 1) := by decide +kernel
theorem dX8_first_2 : decode cX8_first 2 = .ok (.invokestatic 90, 3) := by decide +kernel
theorem dX8_first_5 : decode cX8_first 5 = .ok (.ifCond .ne 6, 3) := by decide +kernel
theorem dX8_first_8 : decode cX8_first 8 = .ok (.bipush (-2), 2) := by decide +kernel
theorem dX8_first_10 : decode cX8_first 10 = .ok (.ireturn, 1) := by decide +kernel
theorem dX8_first_11 : decode cX8_first 11 = .ok (.aload_n 0, 1) := by decide +kernel
theorem dX8_first_12 : decode cX8_first 12 = .ok (.invokevirtual 159, 3) := by decide +kernel
theorem dX8_first_15 : decode cX8_first 15 = .ok (.astore_n 2, 1) := by decide +kernel
theorem dX8_first_16 : decode cX8_first 16 = .ok (.iconst 0, 1) := by decide +kernel
theorem dX8_first_17 : decode cX8_first 17 = .ok (.istore_n 3, 1) := by decide +kernel
theorem dX8_first_18 : decode cX8_first 18 = .ok (.iload_n 3, 1) := by decide +kernel
theorem dX8_first_19 : decode cX8_first 19 = .ok (.bipush 10, 2) := by decide +kernel
theorem dX8_first_21 : decode cX8_first 21 = .ok (.if_icmp .ge 60, 3) := by decide +kernel
theorem dX8_first_24 : decode cX8_first 24 = .ok (.iconst 0, 1) := by decide +kernel
theorem dX8_first_25 : decode cX8_first 25 = .ok (.istore 4, 2) := by decide +kernel
theorem dX8_first_27 : decode cX8_first 27 = .ok (.iload 4, 2) := by decide +kernel
theorem dX8_first_29 : decode cX8_first 29 = .ok (.aload_n 0, 1) := by decide +kernel
theorem dX8_first_30 : decode cX8_first 30 = .ok (.getfield 28, 3) := by decide +kernel
theorem dX8_first_33 : decode cX8_first 33 = .ok (.getfield 179, 3) := by decide +kernel
theorem dX8_first_36 : decode cX8_first 36 = .ok (.if_icmp .ge 39, 3) := by decide +kernel
theorem dX8_first_39 : decode cX8_first 39 = .ok (.aload_n 2, 1) := by decide +kernel
theorem dX8_first_40 : decode cX8_first 40 = .ok (.iload_n 3, 1) := by decide +kernel
theorem dX8_first_41 : decode cX8_first 41 = .ok (.aload_n 0, 1) := by decide +kernel
theorem dX8_first_42 : decode cX8_first 42 = .ok (.getfield 28, 3) := by decide +kernel
theorem dX8_first_45 : decode cX8_first 45 = .ok (.getfield 117, 3) := by decide +kernel
theorem dX8_first_48 : decode cX8_first 48 = .ok (.iload 4, 2) := by decide +kernel
theorem dX8_first_50 : decode cX8_first 50 = .ok (.iaload, 1) := by decide +kernel
theorem dX8_first_51 : decode cX8_first 51 = .ok (.invokevirtual 176, 3) := by decide +kernel
theorem dX8_first_54 : decode cX8_first 54 = .ok (.iconst 2, 1) := by decide +kernel
theorem dX8_first_55 : decode cX8_first 55 = .ok (.if_icmp .ne 14, 3) := by decide +kernel
theorem dX8_first_58 : decode cX8_first 58 = .ok (.iload_n 1, 1) := by decide +kernel
theorem dX8_first_59 : decode cX8_first 59 = .ok (.ifCond .ne 7, 3) := by decide +kernel
theorem dX8_first_62 : decode cX8_first 62 = .ok (.iload_n 3, 1) := by decide +kernel
theorem dX8_first_63 : decode cX8_first 63 = .ok (.goto 5, 3) := by decide +kernel
theorem dX8_first_66 : decode cX8_first 66 = .ok (.iload 4, 2) := by decide +kernel
theorem dX8_first_68 : decode cX8_first 68 = .ok (.ireturn, 1) := by decide +kernel
theorem dX8_first_69 : decode cX8_first 69 = .ok (.iinc 4 1, 3) := by decide +kernel
theorem dX8_first_72 : decode cX8_first 72 = .ok (.goto (-45), 3) := by decide +kernel
theorem dX8_first_75 : decode cX8_first 75 = .ok (.iinc 3 1, 3) := by decide +kernel
theorem dX8_first_78 : decode cX8_first 78 = .ok (.goto (-60), 3) := by decide +kernel
theorem dX8_first_81 : decode cX8_first 81 = .ok (.iconst (-1), 1) := by decide +kernel
theorem dX8_first_82 : decode cX8_first 82 = .ok (.ireturn, 1) := by decide +kernel
theorem dX8_told_0 : decode cX8_told 0 = .ok (.aload_n 0, 1) := by decide +kernel
theorem dX8_told_1 : decode cX8_told 1 = .ok (.getfield 82, 3) := by decide +kernel
theorem dX8_told_4 : decode cX8_told 4 = .ok (.ifCond .eq 17, 3) := by decide +kernel
theorem dX8_told_7 : decode cX8_told 7 = .ok (.aload_n 0, 1) := by decide +kernel
theorem dX8_told_8 : decode cX8_told 8 = .ok (.getfield 50, 3) := by decide +kernel
theorem dX8_told_11 : decode cX8_told 11 = .ok (.bipush 9, 2) := by decide +kernel
theorem dX8_told_13 : decode cX8_told 13 = .ok (.invokevirtual 180, 3) := by decide +kernel
theorem dX8_told_16 : decode cX8_told 16 = .ok (.aload_n 0, 1) := by decide +kernel
theorem dX8_told_17 : decode cX8_told 17 = .ok (.iconst 0, 1) := by decide +kernel
theorem dX8_told_18 : decode cX8_told 18 = .ok (.putfield 82, 3) := by decide +kernel
theorem dX8_told_21 : decode cX8_told 21 = .ok (.aload_n 0, 1) := by decide +kernel
theorem dX8_told_22 : decode cX8_told 22 = .ok (.getfield 50, 3) := by decide +kernel
theorem dX8_told_25 : decode cX8_told 25 = .ok (.areturn, 1) := by decide +kernel
theorem dX8_layOut_0 : decode cX8_layOut 0 = .ok (.aload_n 0, 1) := by decide +kernel
theorem dX8_layOut_1 : decode cX8_layOut 1 = .ok (.iload_n 1, 1) := by decide +kernel
theorem dX8_layOut_2 : decode cX8_layOut 2 = .ok (.iload_n 2, 1) := by decide +kernel
theorem dX8_layOut_3 : decode cX8_layOut 3 = .ok (.iload_n 3, 1) := by decide +kernel
theorem dX8_layOut_4 : decode cX8_layOut 4 = .ok (.invokevirtual 183, 3) := by decide +kernel
theorem dX8_layOut_7 : decode cX8_layOut 7 = .ok (.ifCond .eq 15, 3) := by decide +kernel
theorem dX8_layOut_10 : decode cX8_layOut 10 = .ok (.iload 4, 2) := by decide +kernel
theorem dX8_layOut_12 : decode cX8_layOut 12 = .ok (.iconst (-1), 1) := by decide +kernel
theorem dX8_layOut_13 : decode cX8_layOut 13 = .ok (.if_icmp .lt 9, 3) := by decide +kernel
theorem dX8_layOut_16 : decode cX8_layOut 16 = .ok (.iload 4, 2) := by decide +kernel
theorem dX8_layOut_18 : decode cX8_layOut 18 = .ok (.iconst 1, 1) := by decide +kernel
theorem dX8_layOut_19 : decode cX8_layOut 19 = .ok (.if_icmp .le 6, 3) := by decide +kernel
theorem dX8_layOut_22 : decode cX8_layOut 22 = .ok (.bipush (-2), 2) := by decide +kernel
theorem dX8_layOut_24 : decode cX8_layOut 24 = .ok (.ireturn, 1) := by decide +kernel
theorem dX8_layOut_25 : decode cX8_layOut 25 = .ok (.aload_n 0, 1) := by decide +kernel
theorem dX8_layOut_26 : decode cX8_layOut 26 = .ok (.iload_n 1, 1) := by decide +kernel
theorem dX8_layOut_27 : decode cX8_layOut 27 = .ok (.iload_n 2, 1) := by decide +kernel
theorem dX8_layOut_28 : decode cX8_layOut 28 = .ok (.iload_n 3, 1) := by decide +kernel
theorem dX8_layOut_29 : decode cX8_layOut 29 = .ok (.invokevirtual 186, 3) := by decide +kernel
theorem dX8_layOut_32 : decode cX8_layOut 32 = .ok (.aload_n 0, 1) := by decide +kernel
theorem dX8_layOut_33 : decode cX8_layOut 33 = .ok (.getfield 60, 3) := by decide +kernel
theorem dX8_layOut_36 : decode cX8_layOut 36 = .ok (.iload 4, 2) := by decide +kernel
theorem dX8_layOut_38 : decode cX8_layOut 38 = .ok (.invokevirtual 190, 3) := by decide +kernel
theorem dX8_layOut_41 : decode cX8_layOut 41 = .ok (.ireturn, 1) := by decide +kernel
theorem dX8_rake_0 : decode cX8_rake 0 = .ok (.aload_n 0, 1) := by decide +kernel
theorem dX8_rake_1 : decode cX8_rake 1 = .ok (.iload_n 1, 1) := by decide +kernel
theorem dX8_rake_2 : decode cX8_rake 2 = .ok (.iload_n 2, 1) := by decide +kernel
theorem dX8_rake_3 : decode cX8_rake 3 = .ok (.iload_n 3, 1) := by decide +kernel
theorem dX8_rake_4 : decode cX8_rake 4 = .ok (.invokevirtual 183, 3) := by decide +kernel
theorem dX8_rake_7 : decode cX8_rake 7 = .ok (.ifCond .ne 6, 3) := by decide +kernel
theorem dX8_rake_10 : decode cX8_rake 10 = .ok (.bipush (-2), 2) := by decide +kernel
theorem dX8_rake_12 : decode cX8_rake 12 = .ok (.ireturn, 1) := by decide +kernel
theorem dX8_rake_13 : decode cX8_rake 13 = .ok (.aload_n 0, 1) := by decide +kernel
theorem dX8_rake_14 : decode cX8_rake 14 = .ok (.getfield 54, 3) := by decide +kernel
theorem dX8_rake_17 : decode cX8_rake 17 = .ok (.aload_n 0, 1) := by decide +kernel
theorem dX8_rake_18 : decode cX8_rake 18 = .ok (.getfield 50, 3) := by decide +kernel
theorem dX8_rake_21 : decode cX8_rake 21 = .ok (.invokevirtual 192, 3) := by decide +kernel
theorem dX8_rake_24 : decode cX8_rake 24 = .ok (.iconst 0, 1) := by decide +kernel
theorem dX8_rake_25 : decode cX8_rake 25 = .ok (.istore 4, 2) := by decide +kernel
theorem dX8_rake_27 : decode cX8_rake 27 = .ok (.iload 4, 2) := by decide +kernel
theorem dX8_rake_29 : decode cX8_rake 29 = .ok (.aload_n 0, 1) := by decide +kernel
theorem dX8_rake_30 : decode cX8_rake 30 = .ok (.getfield 21, 3) := by decide +kernel
theorem dX8_rake_33 : decode cX8_rake 33 = .ok (.getfield 108, 3) := by decide +kernel
theorem dX8_rake_36 : decode cX8_rake 36 = .ok (.if_icmp .ge 63, 3) := by decide +kernel
theorem dX8_rake_39 : decode cX8_rake 39 = .ok (.aload_n 0, 1) := by decide +kernel
theorem dX8_rake_40 : decode cX8_rake 40 = .ok (.getfield 21, 3) := by decide +kernel
theorem dX8_rake_43 : decode cX8_rake 43 = .ok (.getfield 111, 3) := by decide +kernel
theorem dX8_rake_46 : decode cX8_rake 46 = .ok (.iload 4, 2) := by decide +kernel
theorem dX8_rake_48 : decode cX8_rake 48 = .ok (.iaload, 1) := by decide +kernel
theorem dX8_rake_49 : decode cX8_rake 49 = .ok (.ifCond .ne 44, 3) := by decide +kernel
theorem dX8_rake_52 : decode cX8_rake 52 = .ok (.aload_n 0, 1) := by decide +kernel
theorem dX8_rake_53 : decode cX8_rake 53 = .ok (.getfield 54, 3) := by decide +kernel
theorem dX8_rake_56 : decode cX8_rake 56 = .ok (.iload 4, 2) := by decide +kernel
theorem dX8_rake_58 : decode cX8_rake 58 = .ok (.putfield 196, 3) := by decide +kernel
theorem dX8_rake_61 : decode cX8_rake 61 = .ok (.aload_n 0, 1) := by decide +kernel
theorem dX8_rake_62 : decode cX8_rake 62 = .ok (.getfield 54, 3) := by decide +kernel
theorem dX8_rake_65 : decode cX8_rake 65 = .ok (.iload_n 1, 1) := by decide +kernel
theorem dX8_rake_66 : decode cX8_rake 66 = .ok (.invokevirtual 180, 3) := by decide +kernel
theorem dX8_rake_69 : decode cX8_rake 69 = .ok (.aload_n 0, 1) := by decide +kernel
theorem dX8_rake_70 : decode cX8_rake 70 = .ok (.getfield 54, 3) := by decide +kernel
theorem dX8_rake_73 : decode cX8_rake 73 = .ok (.iload_n 1, 1) := by decide +kernel
theorem dX8_rake_74 : decode cX8_rake 74 = .ok (.aload_n 0, 1) := by decide +kernel
theorem dX8_rake_75 : decode cX8_rake 75 = .ok (.getfield 28, 3) := by decide +kernel
theorem dX8_rake_78 : decode cX8_rake 78 = .ok (.getfield 117, 3) := by decide +kernel
theorem dX8_rake_81 : decode cX8_rake 81 = .ok (.iload_n 2, 1) := by decide +kernel
theorem dX8_rake_82 : decode cX8_rake 82 = .ok (.iaload, 1) := by decide +kernel
theorem dX8_rake_83 : decode cX8_rake 83 = .ok (.invokevirtual 176, 3) := by decide +kernel
theorem dX8_rake_86 : decode cX8_rake 86 = .ok (.iload_n 3, 1) := by decide +kernel
theorem dX8_rake_87 : decode cX8_rake 87 = .ok (.if_icmp .ne 6, 3) := by decide +kernel
theorem dX8_rake_90 : decode cX8_rake 90 = .ok (.iload 4, 2) := by decide +kernel
theorem dX8_rake_92 : decode cX8_rake 92 = .ok (.ireturn, 1) := by decide +kernel
theorem dX8_rake_93 : decode cX8_rake 93 = .ok (.iinc 4 1, 3) := by decide +kernel
theorem dX8_rake_96 : decode cX8_rake 96 = .ok (.goto (-69), 3) := by decide +kernel
theorem dX8_rake_99 : decode cX8_rake 99 = .ok (.iconst (-1), 1) := by decide +kernel
theorem dX8_rake_100 : decode cX8_rake 100 = .ok (.ireturn, 1) := by decide +kernel
theorem dX8_live_0 : decode cX8_live 0 = .ok (.iload_n 1, 1) := by decide +kernel
theorem dX8_live_1 : decode cX8_live 1 = .ok (.iconst 2, 1) := by decide +kernel
theorem dX8_live_2 : decode cX8_live 2 = .ok (.invokestatic 90, 3) := by decide +kernel
theorem dX8_live_5 : decode cX8_live 5 = .ok (.ifCond .eq 11, 3) := by decide +kernel
theorem dX8_live_8 : decode cX8_live 8 = .ok (.iload_n 2, 1) := by decide +kernel
theorem dX8_live_9 : decode cX8_live 9 = .ok (.iconst 1, 1) := by decide +kernel
theorem dX8_live_10 : decode cX8_live 10 = .ok (.invokestatic 90, 3) := by decide +kernel
theorem dX8_live_13 : decode cX8_live 13 = .ok (.ifCond .ne 6, 3) := by decide +kernel
theorem dX8_live_16 : decode cX8_live 16 = .ok (.bipush (-2), 2) := by decide +kernel
theorem dX8_live_18 : decode cX8_live 18 = .ok (.ireturn, 1) := by decide +kernel
theorem dX8_live_19 : decode cX8_live 19 = .ok (.aload_n 0, 1) := by decide +kernel
theorem dX8_live_20 : decode cX8_live 20 = .ok (.invokevirtual 159, 3) := by decide +kernel
theorem dX8_live_23 : decode cX8_live 23 = .ok (.astore_n 3, 1) := by decide +kernel
theorem dX8_live_24 : decode cX8_live 24 = .ok (.iconst (-1), 1) := by decide +kernel
theorem dX8_live_25 : decode cX8_live 25 = .ok (.istore 4, 2) := by decide +kernel
theorem dX8_live_27 : decode cX8_live 27 = .ok (.iconst (-1), 1) := by decide +kernel
theorem dX8_live_28 : decode cX8_live 28 = .ok (.istore 5, 2) := by decide +kernel
theorem dX8_live_30 : decode cX8_live 30 = .ok (.iconst 0, 1) := by decide +kernel
theorem dX8_live_31 : decode cX8_live 31 = .ok (.istore 6, 2) := by decide +kernel
theorem dX8_live_33 : decode cX8_live 33 = .ok (.iload 6, 2) := by decide +kernel
theorem dX8_live_35 : decode cX8_live 35 = .ok (.aload_n 0, 1) := by decide +kernel
theorem dX8_live_36 : decode cX8_live 36 = .ok (.getfield 21, 3) := by decide +kernel
theorem dX8_live_39 : decode cX8_live 39 = .ok (.getfield 108, 3) := by decide +kernel
theorem dX8_live_42 : decode cX8_live 42 = .ok (.if_icmp .ge 59, 3) := by decide +kernel
theorem dX8_live_45 : decode cX8_live 45 = .ok (.aload_n 0, 1) := by decide +kernel
theorem dX8_live_46 : decode cX8_live 46 = .ok (.getfield 21, 3) := by decide +kernel
theorem dX8_live_49 : decode cX8_live 49 = .ok (.getfield 111, 3) := by decide +kernel
theorem dX8_live_52 : decode cX8_live 52 = .ok (.iload 6, 2) := by decide +kernel
theorem dX8_live_54 : decode cX8_live 54 = .ok (.iaload, 1) := by decide +kernel
theorem dX8_live_55 : decode cX8_live 55 = .ok (.iconst 1, 1) := by decide +kernel
theorem dX8_live_56 : decode cX8_live 56 = .ok (.if_icmp .eq 39, 3) := by decide +kernel
theorem dX8_live_59 : decode cX8_live 59 = .ok (.aload_n 0, 1) := by decide +kernel
theorem dX8_live_60 : decode cX8_live 60 = .ok (.getfield 28, 3) := by decide +kernel
theorem dX8_live_63 : decode cX8_live 63 = .ok (.iload 6, 2) := by decide +kernel
theorem dX8_live_65 : decode cX8_live 65 = .ok (.invokevirtual 199, 3) := by decide +kernel
theorem dX8_live_68 : decode cX8_live 68 = .ok (.ifCond .ne 27, 3) := by decide +kernel
theorem dX8_live_71 : decode cX8_live 71 = .ok (.aload_n 3, 1) := by decide +kernel
theorem dX8_live_72 : decode cX8_live 72 = .ok (.iload_n 1, 1) := by decide +kernel
theorem dX8_live_73 : decode cX8_live 73 = .ok (.iload 6, 2) := by decide +kernel
theorem dX8_live_75 : decode cX8_live 75 = .ok (.invokevirtual 202, 3) := by decide +kernel
theorem dX8_live_78 : decode cX8_live 78 = .ok (.istore 7, 2) := by decide +kernel
theorem dX8_live_80 : decode cX8_live 80 = .ok (.iload 7, 2) := by decide +kernel
theorem dX8_live_82 : decode cX8_live 82 = .ok (.iload 5, 2) := by decide +kernel
theorem dX8_live_84 : decode cX8_live 84 = .ok (.if_icmp .le 11, 3) := by decide +kernel
theorem dX8_live_87 : decode cX8_live 87 = .ok (.iload 6, 2) := by decide +kernel
theorem dX8_live_89 : decode cX8_live 89 = .ok (.istore 4, 2) := by decide +kernel
theorem dX8_live_91 : decode cX8_live 91 = .ok (.iload 7, 2) := by decide +kernel
theorem dX8_live_93 : decode cX8_live 93 = .ok (.istore 5, 2) := by decide +kernel
theorem dX8_live_95 : decode cX8_live 95 = .ok (.iinc 6 1, 3) := by decide +kernel
theorem dX8_live_98 : decode cX8_live 98 = .ok (.goto (-65), 3) := by decide +kernel
theorem dX8_live_101 : decode cX8_live 101 = .ok (.iload_n 2, 1) := by decide +kernel
theorem dX8_live_102 : decode cX8_live 102 = .ok (.ifCond .ne 8, 3) := by decide +kernel
theorem dX8_live_105 : decode cX8_live 105 = .ok (.iload 4, 2) := by decide +kernel
theorem dX8_live_107 : decode cX8_live 107 = .ok (.goto 5, 3) := by decide +kernel
theorem dX8_live_110 : decode cX8_live 110 = .ok (.iload 5, 2) := by decide +kernel
theorem dX8_live_112 : decode cX8_live 112 = .ok (.ireturn, 1) := by decide +kernel
theorem dX8_planBowls_0 : decode cX8_planBowls 0 = .ok (.aload_n 0, 1) := by decide +kernel
theorem dX8_planBowls_1 : decode cX8_planBowls 1 = .ok (.getfield 28, 3) := by decide +kernel
theorem dX8_planBowls_4 : decode cX8_planBowls 4 = .ok (.getfield 117, 3) := by decide +kernel
theorem dX8_planBowls_7 : decode cX8_planBowls 7 = .ok (.iload_n 2, 1) := by decide +kernel
theorem dX8_planBowls_8 : decode cX8_planBowls 8 = .ok (.iaload, 1) := by decide +kernel
theorem dX8_planBowls_9 : decode cX8_planBowls 9 = .ok (.istore 4, 2) := by decide +kernel
theorem dX8_planBowls_11 : decode cX8_planBowls 11 = .ok (.aload_n 0, 1) := by decide +kernel
theorem dX8_planBowls_12 : decode cX8_planBowls 12 = .ok (.getfield 60, 3) := by decide +kernel
theorem dX8_planBowls_15 : decode cX8_planBowls 15 = .ok (.iconst (-1), 1) := by decide +kernel
theorem dX8_planBowls_16 : decode cX8_planBowls 16 = .ok (.putfield 205, 3) := by decide +kernel
theorem dX8_planBowls_19 : decode cX8_planBowls 19 = .ok (.aload_n 0, 1) := by decide +kernel
theorem dX8_planBowls_20 : decode cX8_planBowls 20 = .ok (.getfield 54, 3) := by decide +kernel
theorem dX8_planBowls_23 : decode cX8_planBowls 23 = .ok (.aload_n 0, 1) := by decide +kernel
theorem dX8_planBowls_24 : decode cX8_planBowls 24 = .ok (.getfield 50, 3) := by decide +kernel
theorem dX8_planBowls_27 : decode cX8_planBowls 27 = .ok (.invokevirtual 192, 3) := by decide +kernel
theorem dX8_planBowls_30 : decode cX8_planBowls 30 = .ok (.aload_n 0, 1) := by decide +kernel
theorem dX8_planBowls_31 : decode cX8_planBowls 31 = .ok (.getfield 54, 3) := by decide +kernel
theorem dX8_planBowls_34 : decode cX8_planBowls 34 = .ok (.iload_n 1, 1) := by decide +kernel
theorem dX8_planBowls_35 : decode cX8_planBowls 35 = .ok (.invokevirtual 180, 3) := by decide +kernel
theorem dX8_planBowls_38 : decode cX8_planBowls 38 = .ok (.aload_n 0, 1) := by decide +kernel
theorem dX8_planBowls_39 : decode cX8_planBowls 39 = .ok (.getfield 54, 3) := by decide +kernel
theorem dX8_planBowls_42 : decode cX8_planBowls 42 = .ok (.iload_n 1, 1) := by decide +kernel
theorem dX8_planBowls_43 : decode cX8_planBowls 43 = .ok (.iload 4, 2) := by decide +kernel
theorem dX8_planBowls_45 : decode cX8_planBowls 45 = .ok (.invokevirtual 176, 3) := by decide +kernel
theorem dX8_planBowls_48 : decode cX8_planBowls 48 = .ok (.iload_n 3, 1) := by decide +kernel
theorem dX8_planBowls_49 : decode cX8_planBowls 49 = .ok (.if_icmp .ne 14, 3) := by decide +kernel
theorem dX8_planBowls_52 : decode cX8_planBowls 52 = .ok (.aload_n 0, 1) := by decide +kernel
theorem dX8_planBowls_53 : decode cX8_planBowls 53 = .ok (.getfield 60, 3) := by decide +kernel
theorem dX8_planBowls_56 : decode cX8_planBowls 56 = .ok (.iconst 0, 1) := by decide +kernel
theorem dX8_planBowls_57 : decode cX8_planBowls 57 = .ok (.putfield 205, 3) := by decide +kernel
theorem dX8_planBowls_60 : decode cX8_planBowls 60 = .ok (.goto 53, 3) := by decide +kernel
theorem dX8_planBowls_63 : decode cX8_planBowls 63 = .ok (.iload 4, 2) := by decide +kernel
theorem dX8_planBowls_65 : decode cX8_planBowls 65 = .ok (.aload_n 0, 1) := by decide +kernel
theorem dX8_planBowls_66 : decode cX8_planBowls 66 = .ok (.getfield 21, 3) := by decide +kernel
theorem dX8_planBowls_69 : decode cX8_planBowls 69 = .ok (.getfield 108, 3) := by decide +kernel
theorem dX8_planBowls_72 : decode cX8_planBowls 72 = .ok (.if_icmp .ge 41, 3) := by decide +kernel
theorem dX8_planBowls_75 : decode cX8_planBowls 75 = .ok (.iload_n 1, 1) := by decide +kernel
theorem dX8_planBowls_76 : decode cX8_planBowls 76 = .ok (.aload_n 0, 1) := by decide +kernel
theorem dX8_planBowls_77 : decode cX8_planBowls 77 = .ok (.getfield 54, 3) := by decide +kernel
theorem dX8_planBowls_80 : decode cX8_planBowls 80 = .ok (.getfield 126, 3) := by decide +kernel
theorem dX8_planBowls_83 : decode cX8_planBowls 83 = .ok (.if_icmp .ge 30, 3) := by decide +kernel
theorem dX8_planBowls_86 : decode cX8_planBowls 86 = .ok (.aload_n 0, 1) := by decide +kernel
theorem dX8_planBowls_87 : decode cX8_planBowls 87 = .ok (.iload_n 1, 1) := by decide +kernel
theorem dX8_planBowls_88 : decode cX8_planBowls 88 = .ok (.iload 4, 2) := by decide +kernel
theorem dX8_planBowls_90 : decode cX8_planBowls 90 = .ok (.iload_n 3, 1) := by decide +kernel
theorem dX8_planBowls_91 : decode cX8_planBowls 91 = .ok (.invokevirtual 206, 3) := by decide +kernel
theorem dX8_planBowls_94 : decode cX8_planBowls 94 = .ok (.aload_n 0, 1) := by decide +kernel
theorem dX8_planBowls_95 : decode cX8_planBowls 95 = .ok (.getfield 60, 3) := by decide +kernel
theorem dX8_planBowls_98 : decode cX8_planBowls 98 = .ok (.getfield 205, 3) := by decide +kernel
theorem dX8_planBowls_101 : decode cX8_planBowls 101 = .ok (.iconst (-1), 1) := by decide +kernel
theorem dX8_planBowls_102 : decode cX8_planBowls 102 = .ok (.if_icmp .ne 11, 3) := by decide +kernel
theorem dX8_planBowls_105 : decode cX8_planBowls 105 = .ok (.aload_n 0, 1) := by decide +kernel
theorem dX8_planBowls_106 : decode cX8_planBowls 106 = .ok (.iload_n 1, 1) := by decide +kernel
theorem dX8_planBowls_107 : decode cX8_planBowls 107 = .ok (.iload 4, 2) := by decide +kernel
theorem dX8_planBowls_109 : decode cX8_planBowls 109 = .ok (.iload_n 3, 1) := by decide +kernel
theorem dX8_planBowls_110 : decode cX8_planBowls 110 = .ok (.invokevirtual 209, 3) := by decide +kernel
theorem dX8_planBowls_113 : decode cX8_planBowls 113 = .ok (.return_, 1) := by decide +kernel
theorem dX8_planOne_0 : decode cX8_planOne 0 = .ok (.iconst 0, 1) := by decide +kernel
theorem dX8_planOne_1 : decode cX8_planOne 1 = .ok (.istore 4, 2) := by decide +kernel
theorem dX8_planOne_3 : decode cX8_planOne 3 = .ok (.iload 4, 2) := by decide +kernel
theorem dX8_planOne_5 : decode cX8_planOne 5 = .ok (.aload_n 0, 1) := by decide +kernel
theorem dX8_planOne_6 : decode cX8_planOne 6 = .ok (.getfield 21, 3) := by decide +kernel
theorem dX8_planOne_9 : decode cX8_planOne 9 = .ok (.getfield 108, 3) := by decide +kernel
theorem dX8_planOne_12 : decode cX8_planOne 12 = .ok (.if_icmp .ge 43, 3) := by decide +kernel
theorem dX8_planOne_15 : decode cX8_planOne 15 = .ok (.aload_n 0, 1) := by decide +kernel
theorem dX8_planOne_16 : decode cX8_planOne 16 = .ok (.getfield 54, 3) := by decide +kernel
theorem dX8_planOne_19 : decode cX8_planOne 19 = .ok (.iload 4, 2) := by decide +kernel
theorem dX8_planOne_21 : decode cX8_planOne 21 = .ok (.iconst (-1), 1) := by decide +kernel
theorem dX8_planOne_22 : decode cX8_planOne 22 = .ok (.iload_n 1, 1) := by decide +kernel
theorem dX8_planOne_23 : decode cX8_planOne 23 = .ok (.iload_n 2, 1) := by decide +kernel
theorem dX8_planOne_24 : decode cX8_planOne 24 = .ok (.iload_n 3, 1) := by decide +kernel
theorem dX8_planOne_25 : decode cX8_planOne 25 = .ok (.invokevirtual 212, 3) := by decide +kernel
theorem dX8_planOne_28 : decode cX8_planOne 28 = .ok (.ifCond .eq 21, 3) := by decide +kernel
theorem dX8_planOne_31 : decode cX8_planOne 31 = .ok (.aload_n 0, 1) := by decide +kernel
theorem dX8_planOne_32 : decode cX8_planOne 32 = .ok (.getfield 60, 3) := by decide +kernel
theorem dX8_planOne_35 : decode cX8_planOne 35 = .ok (.iconst 1, 1) := by decide +kernel
theorem dX8_planOne_36 : decode cX8_planOne 36 = .ok (.putfield 205, 3) := by decide +kernel
theorem dX8_planOne_39 : decode cX8_planOne 39 = .ok (.aload_n 0, 1) := by decide +kernel
theorem dX8_planOne_40 : decode cX8_planOne 40 = .ok (.getfield 60, 3) := by decide +kernel
theorem dX8_planOne_43 : decode cX8_planOne 43 = .ok (.iload 4, 2) := by decide +kernel
theorem dX8_planOne_45 : decode cX8_planOne 45 = .ok (.putfield 216, 3) := by decide +kernel
theorem dX8_planOne_48 : decode cX8_planOne 48 = .ok (.return_, 1) := by decide +kernel
theorem dX8_planOne_49 : decode cX8_planOne 49 = .ok (.iinc 4 1, 3) := by decide +kernel
theorem dX8_planOne_52 : decode cX8_planOne 52 = .ok (.goto (-49), 3) := by decide +kernel
theorem dX8_planOne_55 : decode cX8_planOne 55 = .ok (.return_, 1) := by decide +kernel
theorem dX8_planTwo_0 : decode cX8_planTwo 0 = .ok (.iconst 0, 1) := by decide +kernel
theorem dX8_planTwo_1 : decode cX8_planTwo 1 = .ok (.istore 4, 2) := by decide +kernel
theorem dX8_planTwo_3 : decode cX8_planTwo 3 = .ok (.iload 4, 2) := by decide +kernel
theorem dX8_planTwo_5 : decode cX8_planTwo 5 = .ok (.aload_n 0, 1) := by decide +kernel
theorem dX8_planTwo_6 : decode cX8_planTwo 6 = .ok (.getfield 21, 3) := by decide +kernel
theorem dX8_planTwo_9 : decode cX8_planTwo 9 = .ok (.getfield 108, 3) := by decide +kernel
theorem dX8_planTwo_12 : decode cX8_planTwo 12 = .ok (.if_icmp .ge 75, 3) := by decide +kernel
theorem dX8_planTwo_15 : decode cX8_planTwo 15 = .ok (.iload 4, 2) := by decide +kernel
theorem dX8_planTwo_17 : decode cX8_planTwo 17 = .ok (.istore 5, 2) := by decide +kernel
theorem dX8_planTwo_19 : decode cX8_planTwo 19 = .ok (.iload 5, 2) := by decide +kernel
theorem dX8_planTwo_21 : decode cX8_planTwo 21 = .ok (.aload_n 0, 1) := by decide +kernel
theorem dX8_planTwo_22 : decode cX8_planTwo 22 = .ok (.getfield 21, 3) := by decide +kernel
theorem dX8_planTwo_25 : decode cX8_planTwo 25 = .ok (.getfield 108, 3) := by decide +kernel
theorem dX8_planTwo_28 : decode cX8_planTwo 28 = .ok (.if_icmp .ge 53, 3) := by decide +kernel
theorem dX8_planTwo_31 : decode cX8_planTwo 31 = .ok (.aload_n 0, 1) := by decide +kernel
theorem dX8_planTwo_32 : decode cX8_planTwo 32 = .ok (.getfield 54, 3) := by decide +kernel
theorem dX8_planTwo_35 : decode cX8_planTwo 35 = .ok (.iload 4, 2) := by decide +kernel
theorem dX8_planTwo_37 : decode cX8_planTwo 37 = .ok (.iload 5, 2) := by decide +kernel
theorem dX8_planTwo_39 : decode cX8_planTwo 39 = .ok (.iload_n 1, 1) := by decide +kernel
theorem dX8_planTwo_40 : decode cX8_planTwo 40 = .ok (.iload_n 2, 1) := by decide +kernel
theorem dX8_planTwo_41 : decode cX8_planTwo 41 = .ok (.iload_n 3, 1) := by decide +kernel
theorem dX8_planTwo_42 : decode cX8_planTwo 42 = .ok (.invokevirtual 212, 3) := by decide +kernel
theorem dX8_planTwo_45 : decode cX8_planTwo 45 = .ok (.ifCond .eq 30, 3) := by decide +kernel
theorem dX8_planTwo_48 : decode cX8_planTwo 48 = .ok (.aload_n 0, 1) := by decide +kernel
theorem dX8_planTwo_49 : decode cX8_planTwo 49 = .ok (.getfield 60, 3) := by decide +kernel
theorem dX8_planTwo_52 : decode cX8_planTwo 52 = .ok (.iconst 2, 1) := by decide +kernel
theorem dX8_planTwo_53 : decode cX8_planTwo 53 = .ok (.putfield 205, 3) := by decide +kernel
theorem dX8_planTwo_56 : decode cX8_planTwo 56 = .ok (.aload_n 0, 1) := by decide +kernel
theorem dX8_planTwo_57 : decode cX8_planTwo 57 = .ok (.getfield 60, 3) := by decide +kernel
theorem dX8_planTwo_60 : decode cX8_planTwo 60 = .ok (.iload 4, 2) := by decide +kernel
theorem dX8_planTwo_62 : decode cX8_planTwo 62 = .ok (.putfield 216, 3) := by decide +kernel
theorem dX8_planTwo_65 : decode cX8_planTwo 65 = .ok (.aload_n 0, 1) := by decide +kernel
theorem dX8_planTwo_66 : decode cX8_planTwo 66 = .ok (.getfield 60, 3) := by decide +kernel
theorem dX8_planTwo_69 : decode cX8_planTwo 69 = .ok (.iload 5, 2) := by decide +kernel
theorem dX8_planTwo_71 : decode cX8_planTwo 71 = .ok (.putfield 219, 3) := by decide +kernel
theorem dX8_planTwo_74 : decode cX8_planTwo 74 = .ok (.return_, 1) := by decide +kernel
theorem dX8_planTwo_75 : decode cX8_planTwo 75 = .ok (.iinc 5 1, 3) := by decide +kernel
theorem dX8_planTwo_78 : decode cX8_planTwo 78 = .ok (.goto (-59), 3) := by decide +kernel
theorem dX8_planTwo_81 : decode cX8_planTwo 81 = .ok (.iinc 4 1, 3) := by decide +kernel
theorem dX8_planTwo_84 : decode cX8_planTwo 84 = .ok (.goto (-81), 3) := by decide +kernel
theorem dX8_planTwo_87 : decode cX8_planTwo 87 = .ok (.return_, 1) := by decide +kernel
theorem dX8_seen_0 : decode cX8_seen 0 = .ok (.iload_n 1, 1) := by decide +kernel
theorem dX8_seen_1 : decode cX8_seen 1 = .ok (.invokestatic 149, 3) := by decide +kernel
theorem dX8_seen_4 : decode cX8_seen 4 = .ok (.ifCond .eq 20, 3) := by decide +kernel
theorem dX8_seen_7 : decode cX8_seen 7 = .ok (.iload_n 2, 1) := by decide +kernel
theorem dX8_seen_8 : decode cX8_seen 8 = .ok (.bipush 7, 2) := by decide +kernel
theorem dX8_seen_10 : decode cX8_seen 10 = .ok (.invokestatic 90, 3) := by decide +kernel
theorem dX8_seen_13 : decode cX8_seen 13 = .ok (.ifCond .eq 11, 3) := by decide +kernel
theorem dX8_seen_16 : decode cX8_seen 16 = .ok (.iload_n 3, 1) := by decide +kernel
theorem dX8_seen_17 : decode cX8_seen 17 = .ok (.iconst 2, 1) := by decide +kernel
theorem dX8_seen_18 : decode cX8_seen 18 = .ok (.invokestatic 90, 3) := by decide +kernel
theorem dX8_seen_21 : decode cX8_seen 21 = .ok (.ifCond .ne 6, 3) := by decide +kernel
theorem dX8_seen_24 : decode cX8_seen 24 = .ok (.bipush (-2), 2) := by decide +kernel
theorem dX8_seen_26 : decode cX8_seen 26 = .ok (.ireturn, 1) := by decide +kernel
theorem dX8_seen_27 : decode cX8_seen 27 = .ok (.aload_n 0, 1) := by decide +kernel
theorem dX8_seen_28 : decode cX8_seen 28 = .ok (.getfield 42, 3) := by decide +kernel
theorem dX8_seen_31 : decode cX8_seen 31 = .ok (.iload_n 1, 1) := by decide +kernel
theorem dX8_seen_32 : decode cX8_seen 32 = .ok (.iload_n 2, 1) := by decide +kernel
theorem dX8_seen_33 : decode cX8_seen 33 = .ok (.iload_n 3, 1) := by decide +kernel
theorem dX8_seen_34 : decode cX8_seen 34 = .ok (.invokevirtual 152, 3) := by decide +kernel
theorem dX8_seen_37 : decode cX8_seen 37 = .ok (.ifCond .eq 13, 3) := by decide +kernel
theorem dX8_seen_40 : decode cX8_seen 40 = .ok (.aload_n 0, 1) := by decide +kernel
theorem dX8_seen_41 : decode cX8_seen 41 = .ok (.getfield 42, 3) := by decide +kernel
theorem dX8_seen_44 : decode cX8_seen 44 = .ok (.getfield 133, 3) := by decide +kernel
theorem dX8_seen_47 : decode cX8_seen 47 = .ok (.goto 5, 3) := by decide +kernel
theorem dX8_seen_50 : decode cX8_seen 50 = .ok (.bipush (-4), 2) := by decide +kernel
theorem dX8_seen_52 : decode cX8_seen 52 = .ok (.ireturn, 1) := by decide +kernel
theorem dX8_forget_0 : decode cX8_forget 0 = .ok (.aload_n 0, 1) := by decide +kernel
theorem dX8_forget_1 : decode cX8_forget 1 = .ok (.getfield 42, 3) := by decide +kernel
theorem dX8_forget_4 : decode cX8_forget 4 = .ok (.getfield 133, 3) := by decide +kernel
theorem dX8_forget_7 : decode cX8_forget 7 = .ok (.istore_n 1, 1) := by decide +kernel
theorem dX8_forget_8 : decode cX8_forget 8 = .ok (.aload_n 0, 1) := by decide +kernel
theorem dX8_forget_9 : decode cX8_forget 9 = .ok (.getfield 42, 3) := by decide +kernel
theorem dX8_forget_12 : decode cX8_forget 12 = .ok (.iconst 0, 1) := by decide +kernel
theorem dX8_forget_13 : decode cX8_forget 13 = .ok (.putfield 133, 3) := by decide +kernel
theorem dX8_forget_16 : decode cX8_forget 16 = .ok (.iload_n 1, 1) := by decide +kernel
theorem dX8_forget_17 : decode cX8_forget 17 = .ok (.ireturn, 1) := by decide +kernel
theorem dX8_never_0 : decode cX8_never 0 = .ok (.iconst 0, 1) := by decide +kernel
theorem dX8_never_1 : decode cX8_never 1 = .ok (.istore_n 1, 1) := by decide +kernel
theorem dX8_never_2 : decode cX8_never 2 = .ok (.aload_n 0, 1) := by decide +kernel
theorem dX8_never_3 : decode cX8_never 3 = .ok (.getfield 54, 3) := by decide +kernel
theorem dX8_never_6 : decode cX8_never 6 = .ok (.aload_n 0, 1) := by decide +kernel
theorem dX8_never_7 : decode cX8_never 7 = .ok (.getfield 50, 3) := by decide +kernel
theorem dX8_never_10 : decode cX8_never 10 = .ok (.invokevirtual 192, 3) := by decide +kernel
theorem dX8_never_13 : decode cX8_never 13 = .ok (.iconst 0, 1) := by decide +kernel
theorem dX8_never_14 : decode cX8_never 14 = .ok (.istore_n 2, 1) := by decide +kernel
theorem dX8_never_15 : decode cX8_never 15 = .ok (.iload_n 2, 1) := by decide +kernel
theorem dX8_never_16 : decode cX8_never 16 = .ok (.aload_n 0, 1) := by decide +kernel
theorem dX8_never_17 : decode cX8_never 17 = .ok (.getfield 35, 3) := by decide +kernel
theorem dX8_never_20 : decode cX8_never 20 = .ok (.getfield 133, 3) := by decide +kernel
theorem dX8_never_23 : decode cX8_never 23 = .ok (.if_icmp .ge 43, 3) := by decide +kernel
theorem dX8_never_26 : decode cX8_never 26 = .ok (.aload_n 0, 1) := by decide +kernel
theorem dX8_never_27 : decode cX8_never 27 = .ok (.getfield 54, 3) := by decide +kernel
theorem dX8_never_30 : decode cX8_never 30 = .ok (.iconst 1, 1) := by decide +kernel
theorem dX8_never_31 : decode cX8_never 31 = .ok (.iload_n 2, 1) := by decide +kernel
theorem dX8_never_32 : decode cX8_never 32 = .ok (.ishl, 1) := by decide +kernel
theorem dX8_never_33 : decode cX8_never 33 = .ok (.iconst (-1), 1) := by decide +kernel
theorem dX8_never_34 : decode cX8_never 34 = .ok (.ixor, 1) := by decide +kernel
theorem dX8_never_35 : decode cX8_never 35 = .ok (.putfield 222, 3) := by decide +kernel
theorem dX8_never_38 : decode cX8_never 38 = .ok (.aload_n 0, 1) := by decide +kernel
theorem dX8_never_39 : decode cX8_never 39 = .ok (.getfield 54, 3) := by decide +kernel
theorem dX8_never_42 : decode cX8_never 42 = .ok (.bipush 9, 2) := by decide +kernel
theorem dX8_never_44 : decode cX8_never 44 = .ok (.invokevirtual 180, 3) := by decide +kernel
theorem dX8_never_47 : decode cX8_never 47 = .ok (.aload_n 0, 1) := by decide +kernel
theorem dX8_never_48 : decode cX8_never 48 = .ok (.invokevirtual 225, 3) := by decide +kernel
theorem dX8_never_51 : decode cX8_never 51 = .ok (.ifCond .eq 9, 3) := by decide +kernel
theorem dX8_never_54 : decode cX8_never 54 = .ok (.iload_n 1, 1) := by decide +kernel
theorem dX8_never_55 : decode cX8_never 55 = .ok (.iconst 1, 1) := by decide +kernel
theorem dX8_never_56 : decode cX8_never 56 = .ok (.iload_n 2, 1) := by decide +kernel
theorem dX8_never_57 : decode cX8_never 57 = .ok (.ishl, 1) := by decide +kernel
theorem dX8_never_58 : decode cX8_never 58 = .ok (.ior, 1) := by decide +kernel
theorem dX8_never_59 : decode cX8_never 59 = .ok (.istore_n 1, 1) := by decide +kernel
theorem dX8_never_60 : decode cX8_never 60 = .ok (.iinc 2 1, 3) := by decide +kernel
theorem dX8_never_63 : decode cX8_never 63 = .ok (.goto (-48), 3) := by decide +kernel
theorem dX8_never_66 : decode cX8_never 66 = .ok (.iload_n 1, 1) := by decide +kernel
theorem dX8_never_67 : decode cX8_never 67 = .ok (.ireturn, 1) := by decide +kernel
theorem dX8_began_0 : decode cX8_began 0 = .ok (.iconst 0, 1) := by decide +kernel
theorem dX8_began_1 : decode cX8_began 1 = .ok (.istore_n 1, 1) := by decide +kernel
theorem dX8_began_2 : decode cX8_began 2 = .ok (.aload_n 0, 1) := by decide +kernel
theorem dX8_began_3 : decode cX8_began 3 = .ok (.getfield 54, 3) := by decide +kernel
theorem dX8_began_6 : decode cX8_began 6 = .ok (.aload_n 0, 1) := by decide +kernel
theorem dX8_began_7 : decode cX8_began 7 = .ok (.getfield 50, 3) := by decide +kernel
theorem dX8_began_10 : decode cX8_began 10 = .ok (.invokevirtual 192, 3) := by decide +kernel
theorem dX8_began_13 : decode cX8_began 13 = .ok (.iconst 0, 1) := by decide +kernel
theorem dX8_began_14 : decode cX8_began 14 = .ok (.istore_n 2, 1) := by decide +kernel
theorem dX8_began_15 : decode cX8_began 15 = .ok (.iload_n 2, 1) := by decide +kernel
theorem dX8_began_16 : decode cX8_began 16 = .ok (.bipush 6, 2) := by decide +kernel
theorem dX8_began_18 : decode cX8_began 18 = .ok (.if_icmp .ge 39, 3) := by decide +kernel
theorem dX8_began_21 : decode cX8_began 21 = .ok (.aload_n 0, 1) := by decide +kernel
theorem dX8_began_22 : decode cX8_began 22 = .ok (.getfield 54, 3) := by decide +kernel
theorem dX8_began_25 : decode cX8_began 25 = .ok (.iload_n 2, 1) := by decide +kernel
theorem dX8_began_26 : decode cX8_began 26 = .ok (.putfield 123, 3) := by decide +kernel
theorem dX8_began_29 : decode cX8_began 29 = .ok (.aload_n 0, 1) := by decide +kernel
theorem dX8_began_30 : decode cX8_began 30 = .ok (.getfield 54, 3) := by decide +kernel
theorem dX8_began_33 : decode cX8_began 33 = .ok (.bipush 9, 2) := by decide +kernel
theorem dX8_began_35 : decode cX8_began 35 = .ok (.invokevirtual 180, 3) := by decide +kernel
theorem dX8_began_38 : decode cX8_began 38 = .ok (.aload_n 0, 1) := by decide +kernel
theorem dX8_began_39 : decode cX8_began 39 = .ok (.invokevirtual 225, 3) := by decide +kernel
theorem dX8_began_42 : decode cX8_began 42 = .ok (.ifCond .eq 9, 3) := by decide +kernel
theorem dX8_began_45 : decode cX8_began 45 = .ok (.iload_n 1, 1) := by decide +kernel
theorem dX8_began_46 : decode cX8_began 46 = .ok (.iconst 1, 1) := by decide +kernel
theorem dX8_began_47 : decode cX8_began 47 = .ok (.iload_n 2, 1) := by decide +kernel
theorem dX8_began_48 : decode cX8_began 48 = .ok (.ishl, 1) := by decide +kernel
theorem dX8_began_49 : decode cX8_began 49 = .ok (.ior, 1) := by decide +kernel
theorem dX8_began_50 : decode cX8_began 50 = .ok (.istore_n 1, 1) := by decide +kernel
theorem dX8_began_51 : decode cX8_began 51 = .ok (.iinc 2 1, 3) := by decide +kernel
theorem dX8_began_54 : decode cX8_began 54 = .ok (.goto (-39), 3) := by decide +kernel
theorem dX8_began_57 : decode cX8_began 57 = .ok (.iload_n 1, 1) := by decide +kernel
theorem dX8_began_58 : decode cX8_began 58 = .ok (.ireturn, 1) := by decide +kernel
theorem dX8_ask_0 : decode cX8_ask 0 = .ok (.iload_n 1, 1) := by decide +kernel
theorem dX8_ask_1 : decode cX8_ask 1 = .ok (.invokestatic 149, 3) := by decide +kernel
theorem dX8_ask_4 : decode cX8_ask 4 = .ok (.ifCond .ne 6, 3) := by decide +kernel
theorem dX8_ask_7 : decode cX8_ask 7 = .ok (.bipush (-2), 2) := by decide +kernel
theorem dX8_ask_9 : decode cX8_ask 9 = .ok (.ireturn, 1) := by decide +kernel
theorem dX8_ask_10 : decode cX8_ask 10 = .ok (.aload_n 0, 1) := by decide +kernel
theorem dX8_ask_11 : decode cX8_ask 11 = .ok (.iload_n 1, 1) := by decide +kernel
theorem dX8_ask_12 : decode cX8_ask 12 = .ok (.invokevirtual 229, 3) := by decide +kernel
theorem dX8_ask_15 : decode cX8_ask 15 = .ok (.iconst (-1), 1) := by decide +kernel
theorem dX8_ask_16 : decode cX8_ask 16 = .ok (.istore_n 2, 1) := by decide +kernel
theorem dX8_ask_17 : decode cX8_ask 17 = .ok (.iconst (-1), 1) := by decide +kernel
theorem dX8_ask_18 : decode cX8_ask 18 = .ok (.istore_n 3, 1) := by decide +kernel
theorem dX8_ask_19 : decode cX8_ask 19 = .ok (.iconst 0, 1) := by decide +kernel
theorem dX8_ask_20 : decode cX8_ask 20 = .ok (.istore 4, 2) := by decide +kernel
theorem dX8_ask_22 : decode cX8_ask 22 = .ok (.iload 4, 2) := by decide +kernel
theorem dX8_ask_24 : decode cX8_ask 24 = .ok (.aload_n 0, 1) := by decide +kernel
theorem dX8_ask_25 : decode cX8_ask 25 = .ok (.getfield 28, 3) := by decide +kernel
theorem dX8_ask_28 : decode cX8_ask 28 = .ok (.getfield 179, 3) := by decide +kernel
theorem dX8_ask_31 : decode cX8_ask 31 = .ok (.if_icmp .ge 63, 3) := by decide +kernel
theorem dX8_ask_34 : decode cX8_ask 34 = .ok (.iconst 0, 1) := by decide +kernel
theorem dX8_ask_35 : decode cX8_ask 35 = .ok (.istore 5, 2) := by decide +kernel
theorem dX8_ask_37 : decode cX8_ask 37 = .ok (.iconst 0, 1) := by decide +kernel
theorem dX8_ask_38 : decode cX8_ask 38 = .ok (.istore 6, 2) := by decide +kernel
theorem dX8_ask_40 : decode cX8_ask 40 = .ok (.iload 6, 2) := by decide +kernel
theorem dX8_ask_42 : decode cX8_ask 42 = .ok (.iconst 3, 1) := by decide +kernel
theorem dX8_ask_43 : decode cX8_ask 43 = .ok (.if_icmp .gt 28, 3) := by decide +kernel
theorem dX8_ask_46 : decode cX8_ask 46 = .ok (.iload 5, 2) := by decide +kernel
theorem dX8_ask_48 : decode cX8_ask 48 = .ok (.aload_n 0, 1) := by decide +kernel
theorem dX8_ask_49 : decode cX8_ask 49 = .ok (.getfield 71, 3) := by decide +kernel
theorem dX8_ask_52 : decode cX8_ask 52 = .ok (.iload 4, 2) := by decide +kernel
theorem dX8_ask_54 : decode cX8_ask 54 = .ok (.iconst 4, 1) := by decide +kernel
theorem dX8_ask_55 : decode cX8_ask 55 = .ok (.imul, 1) := by decide +kernel
theorem dX8_ask_56 : decode cX8_ask 56 = .ok (.iload 6, 2) := by decide +kernel
theorem dX8_ask_58 : decode cX8_ask 58 = .ok (.iadd, 1) := by decide +kernel
theorem dX8_ask_59 : decode cX8_ask 59 = .ok (.iaload, 1) := by decide +kernel
theorem dX8_ask_60 : decode cX8_ask 60 = .ok (.invokestatic 232, 3) := by decide +kernel
theorem dX8_ask_63 : decode cX8_ask 63 = .ok (.istore 5, 2) := by decide +kernel
theorem dX8_ask_65 : decode cX8_ask 65 = .ok (.iinc 6 1, 3) := by decide +kernel
theorem dX8_ask_68 : decode cX8_ask 68 = .ok (.goto (-28), 3) := by decide +kernel
theorem dX8_ask_71 : decode cX8_ask 71 = .ok (.iload_n 2, 1) := by decide +kernel
theorem dX8_ask_72 : decode cX8_ask 72 = .ok (.iconst (-1), 1) := by decide +kernel
theorem dX8_ask_73 : decode cX8_ask 73 = .ok (.if_icmp .eq 9, 3) := by decide +kernel
theorem dX8_ask_76 : decode cX8_ask 76 = .ok (.iload 5, 2) := by decide +kernel
theorem dX8_ask_78 : decode cX8_ask 78 = .ok (.iload_n 3, 1) := by decide +kernel
theorem dX8_ask_79 : decode cX8_ask 79 = .ok (.if_icmp .ge 9, 3) := by decide +kernel
theorem dX8_ask_82 : decode cX8_ask 82 = .ok (.iload 4, 2) := by decide +kernel
theorem dX8_ask_84 : decode cX8_ask 84 = .ok (.istore_n 2, 1) := by decide +kernel
theorem dX8_ask_85 : decode cX8_ask 85 = .ok (.iload 5, 2) := by decide +kernel
theorem dX8_ask_87 : decode cX8_ask 87 = .ok (.istore_n 3, 1) := by decide +kernel
theorem dX8_ask_88 : decode cX8_ask 88 = .ok (.iinc 4 1, 3) := by decide +kernel
theorem dX8_ask_91 : decode cX8_ask 91 = .ok (.goto (-69), 3) := by decide +kernel
theorem dX8_ask_94 : decode cX8_ask 94 = .ok (.iload_n 2, 1) := by decide +kernel
theorem dX8_ask_95 : decode cX8_ask 95 = .ok (.ireturn, 1) := by decide +kernel
theorem dX8_cat_0 : decode cX8_cat 0 = .ok (.iload_n 1, 1) := by decide +kernel
theorem dX8_cat_1 : decode cX8_cat 1 = .ok (.bipush 16, 2) := by decide +kernel
theorem dX8_cat_3 : decode cX8_cat 3 = .ok (.invokestatic 90, 3) := by decide +kernel
theorem dX8_cat_6 : decode cX8_cat 6 = .ok (.ifCond .eq 23, 3) := by decide +kernel
theorem dX8_cat_9 : decode cX8_cat 9 = .ok (.aload_n 0, 1) := by decide +kernel
theorem dX8_cat_10 : decode cX8_cat 10 = .ok (.iload_n 2, 1) := by decide +kernel
theorem dX8_cat_11 : decode cX8_cat 11 = .ok (.iload_n 3, 1) := by decide +kernel
theorem dX8_cat_12 : decode cX8_cat 12 = .ok (.iload 4, 2) := by decide +kernel
theorem dX8_cat_14 : decode cX8_cat 14 = .ok (.invokevirtual 183, 3) := by decide +kernel
theorem dX8_cat_17 : decode cX8_cat 17 = .ok (.ifCond .eq 12, 3) := by decide +kernel
theorem dX8_cat_20 : decode cX8_cat 20 = .ok (.iload 5, 2) := by decide +kernel
theorem dX8_cat_22 : decode cX8_cat 22 = .ok (.iconst 1, 1) := by decide +kernel
theorem dX8_cat_23 : decode cX8_cat 23 = .ok (.invokestatic 90, 3) := by decide +kernel
theorem dX8_cat_26 : decode cX8_cat 26 = .ok (.ifCond .ne 7, 3) := by decide +kernel
theorem dX8_cat_29 : decode cX8_cat 29 = .ok (.ldc2_w 237, 3) := by decide +kernel
theorem dX8_cat_32 : decode cX8_cat 32 = .ok (.lreturn, 1) := by decide +kernel
theorem dX8_cat_33 : decode cX8_cat 33 = .ok (.aload_n 0, 1) := by decide +kernel
theorem dX8_cat_34 : decode cX8_cat 34 = .ok (.iload_n 1, 1) := by decide +kernel
theorem dX8_cat_35 : decode cX8_cat 35 = .ok (.iload_n 2, 1) := by decide +kernel
theorem dX8_cat_36 : decode cX8_cat 36 = .ok (.iload 4, 2) := by decide +kernel
theorem dX8_cat_38 : decode cX8_cat 38 = .ok (.invokevirtual 239, 3) := by decide +kernel
theorem dX8_cat_41 : decode cX8_cat 41 = .ok (.aload_n 0, 1) := by decide +kernel
theorem dX8_cat_42 : decode cX8_cat 42 = .ok (.getfield 67, 3) := by decide +kernel
theorem dX8_cat_45 : decode cX8_cat 45 = .ok (.iload_n 3, 1) := by decide +kernel
theorem dX8_cat_46 : decode cX8_cat 46 = .ok (.invokevirtual 242, 3) := by decide +kernel
theorem dX8_cat_49 : decode cX8_cat 49 = .ok (.iload 5, 2) := by decide +kernel
theorem dX8_cat_51 : decode cX8_cat 51 = .ok (.ifCond .ne 13, 3) := by decide +kernel
theorem dX8_cat_54 : decode cX8_cat 54 = .ok (.aload_n 0, 1) := by decide +kernel
theorem dX8_cat_55 : decode cX8_cat 55 = .ok (.getfield 67, 3) := by decide +kernel
theorem dX8_cat_58 : decode cX8_cat 58 = .ok (.getfield 245, 3) := by decide +kernel
theorem dX8_cat_61 : decode cX8_cat 61 = .ok (.goto 10, 3) := by decide +kernel
theorem dX8_cat_64 : decode cX8_cat 64 = .ok (.aload_n 0, 1) := by decide +kernel
theorem dX8_cat_65 : decode cX8_cat 65 = .ok (.getfield 67, 3) := by decide +kernel
theorem dX8_cat_68 : decode cX8_cat 68 = .ok (.getfield 249, 3) := by decide +kernel
theorem dX8_cat_71 : decode cX8_cat 71 = .ok (.lreturn, 1) := by decide +kernel
theorem dX8_roam_0 : decode cX8_roam 0 = .ok (.iload_n 2, 1) := by decide +kernel
theorem dX8_roam_1 : decode cX8_roam 1 = .ok (.bipush 60, 2) := by decide +kernel
theorem dX8_roam_3 : decode cX8_roam 3 = .ok (.invokestatic 90, 3) := by decide +kernel
theorem dX8_roam_6 : decode cX8_roam 6 = .ok (.ifCond .eq 11, 3) := by decide +kernel
theorem dX8_roam_9 : decode cX8_roam 9 = .ok (.iload_n 3, 1) := by decide +kernel
theorem dX8_roam_10 : decode cX8_roam 10 = .ok (.iconst 1, 1) := by decide +kernel
theorem dX8_roam_11 : decode cX8_roam 11 = .ok (.invokestatic 90, 3) := by decide +kernel
theorem dX8_roam_14 : decode cX8_roam 14 = .ok (.ifCond .ne 6, 3) := by decide +kernel
theorem dX8_roam_17 : decode cX8_roam 17 = .ok (.bipush (-2), 2) := by decide +kernel
theorem dX8_roam_19 : decode cX8_roam 19 = .ok (.ireturn, 1) := by decide +kernel
theorem dX8_roam_20 : decode cX8_roam 20 = .ok (.aload_n 0, 1) := by decide +kernel
theorem dX8_roam_21 : decode cX8_roam 21 = .ok (.getfield 50, 3) := by decide +kernel
theorem dX8_roam_24 : decode cX8_roam 24 = .ok (.invokevirtual 252, 3) := by decide +kernel
theorem dX8_roam_27 : decode cX8_roam 27 = .ok (.istore 4, 2) := by decide +kernel
theorem dX8_roam_29 : decode cX8_roam 29 = .ok (.iload 4, 2) := by decide +kernel
theorem dX8_roam_31 : decode cX8_roam 31 = .ok (.iconst (-1), 1) := by decide +kernel
theorem dX8_roam_32 : decode cX8_roam 32 = .ok (.if_icmp .ne 13, 3) := by decide +kernel
theorem dX8_roam_35 : decode cX8_roam 35 = .ok (.iload_n 3, 1) := by decide +kernel
theorem dX8_roam_36 : decode cX8_roam 36 = .ok (.ifCond .ne 7, 3) := by decide +kernel
theorem dX8_roam_39 : decode cX8_roam 39 = .ok (.iconst (-1), 1) := by decide +kernel
theorem dX8_roam_40 : decode cX8_roam 40 = .ok (.goto 4, 3) := by decide +kernel
theorem dX8_roam_43 : decode cX8_roam 43 = .ok (.iconst 0, 1) := by decide +kernel
theorem dX8_roam_44 : decode cX8_roam 44 = .ok (.ireturn, 1) := by decide +kernel
theorem dX8_roam_45 : decode cX8_roam 45 = .ok (.iload_n 1, 1) := by decide +kernel
theorem dX8_roam_46 : decode cX8_roam 46 = .ok (.istore 5, 2) := by decide +kernel
theorem dX8_roam_48 : decode cX8_roam 48 = .ok (.lconst 1, 1) := by decide +kernel
theorem dX8_roam_49 : decode cX8_roam 49 = .ok (.iload 4, 2) := by decide +kernel
theorem dX8_roam_51 : decode cX8_roam 51 = .ok (.lshl, 1) := by decide +kernel
theorem dX8_roam_52 : decode cX8_roam 52 = .ok (.lstore 6, 2) := by decide +kernel
theorem dX8_roam_54 : decode cX8_roam 54 = .ok (.iconst 0, 1) := by decide +kernel
theorem dX8_roam_55 : decode cX8_roam 55 = .ok (.istore 8, 2) := by decide +kernel
theorem dX8_roam_57 : decode cX8_roam 57 = .ok (.iload 8, 2) := by decide +kernel
theorem dX8_roam_59 : decode cX8_roam 59 = .ok (.iload_n 2, 1) := by decide +kernel
theorem dX8_roam_60 : decode cX8_roam 60 = .ok (.if_icmp .ge 70, 3) := by decide +kernel
theorem dX8_roam_63 : decode cX8_roam 63 = .ok (.aload_n 0, 1) := by decide +kernel
theorem dX8_roam_64 : decode cX8_roam 64 = .ok (.getfield 21, 3) := by decide +kernel
theorem dX8_roam_67 : decode cX8_roam 67 = .ok (.getfield 256, 3) := by decide +kernel
theorem dX8_roam_70 : decode cX8_roam 70 = .ok (.iload 4, 2) := by decide +kernel
theorem dX8_roam_72 : decode cX8_roam 72 = .ok (.iaload, 1) := by decide +kernel
theorem dX8_roam_73 : decode cX8_roam 73 = .ok (.istore 9, 2) := by decide +kernel
theorem dX8_roam_75 : decode cX8_roam 75 = .ok (.iload 9, 2) := by decide +kernel
theorem dX8_roam_77 : decode cX8_roam 77 = .ok (.ifCond .le 47, 3) := by decide +kernel
theorem dX8_roam_80 : decode cX8_roam 80 = .ok (.ldc_w 259, 3) := by decide +kernel
theorem dX8_roam_83 : decode cX8_roam 83 = .ok (.iload 5, 2) := by decide +kernel
theorem dX8_roam_85 : decode cX8_roam 85 = .ok (.imul, 1) := by decide +kernel
theorem dX8_roam_86 : decode cX8_roam 86 = .ok (.sipush 12345, 3) := by decide +kernel
theorem dX8_roam_89 : decode cX8_roam 89 = .ok (.iadd, 1) := by decide +kernel
theorem dX8_roam_90 : decode cX8_roam 90 = .ok (.istore 5, 2) := by decide +kernel
theorem dX8_roam_92 : decode cX8_roam 92 = .ok (.aload_n 0, 1) := by decide +kernel
theorem dX8_roam_93 : decode cX8_roam 93 = .ok (.getfield 21, 3) := by decide +kernel
theorem dX8_roam_96 : decode cX8_roam 96 = .ok (.getfield 260, 3) := by decide +kernel
theorem dX8_roam_99 : decode cX8_roam 99 = .ok (.iload 4, 2) := by decide +kernel
theorem dX8_roam_101 : decode cX8_roam 101 = .ok (.iconst 4, 1) := by decide +kernel
theorem dX8_roam_102 : decode cX8_roam 102 = .ok (.imul, 1) := by decide +kernel
theorem dX8_roam_103 : decode cX8_roam 103 = .ok (.iload 5, 2) := by decide +kernel
theorem dX8_roam_105 : decode cX8_roam 105 = .ok (.bipush 16, 2) := by decide +kernel
theorem dX8_roam_107 : decode cX8_roam 107 = .ok (.iushr, 1) := by decide +kernel
theorem dX8_roam_108 : decode cX8_roam 108 = .ok (.iload 9, 2) := by decide +kernel
theorem dX8_roam_110 : decode cX8_roam 110 = .ok (.irem, 1) := by decide +kernel
theorem dX8_roam_111 : decode cX8_roam 111 = .ok (.iadd, 1) := by decide +kernel
theorem dX8_roam_112 : decode cX8_roam 112 = .ok (.iaload, 1) := by decide +kernel
theorem dX8_roam_113 : decode cX8_roam 113 = .ok (.istore 4, 2) := by decide +kernel
theorem dX8_roam_115 : decode cX8_roam 115 = .ok (.lload 6, 2) := by decide +kernel
theorem dX8_roam_117 : decode cX8_roam 117 = .ok (.lconst 1, 1) := by decide +kernel
theorem dX8_roam_118 : decode cX8_roam 118 = .ok (.iload 4, 2) := by decide +kernel
theorem dX8_roam_120 : decode cX8_roam 120 = .ok (.lshl, 1) := by decide +kernel
theorem dX8_roam_121 : decode cX8_roam 121 = .ok (.lor, 1) := by decide +kernel
theorem dX8_roam_122 : decode cX8_roam 122 = .ok (.lstore 6, 2) := by decide +kernel
theorem dX8_roam_124 : decode cX8_roam 124 = .ok (.iinc 8 1, 3) := by decide +kernel
theorem dX8_roam_127 : decode cX8_roam 127 = .ok (.goto (-70), 3) := by decide +kernel
theorem dX8_roam_130 : decode cX8_roam 130 = .ok (.iload_n 3, 1) := by decide +kernel
theorem dX8_roam_131 : decode cX8_roam 131 = .ok (.ifCond .ne 8, 3) := by decide +kernel
theorem dX8_roam_134 : decode cX8_roam 134 = .ok (.iload 4, 2) := by decide +kernel
theorem dX8_roam_136 : decode cX8_roam 136 = .ok (.goto 8, 3) := by decide +kernel
theorem dX8_roam_139 : decode cX8_roam 139 = .ok (.lload 6, 2) := by decide +kernel
theorem dX8_roam_141 : decode cX8_roam 141 = .ok (.invokestatic 263, 3) := by decide +kernel
theorem dX8_roam_144 : decode cX8_roam 144 = .ok (.ireturn, 1) := by decide +kernel
theorem dX8_agreesWithSights_0 : decode cX8_agreesWithSights 0 = .ok (.iconst 0, 1) := by decide +kernel
theorem dX8_agreesWithSights_1 : decode cX8_agreesWithSights 1 = .ok (.istore_n 1, 1) := by decide +kernel
theorem dX8_agreesWithSights_2 : decode cX8_agreesWithSights 2 = .ok (.iload_n 1, 1) := by decide +kernel
theorem dX8_agreesWithSights_3 : decode cX8_agreesWithSights 3 = .ok (.aload_n 0, 1) := by decide +kernel
theorem dX8_agreesWithSights_4 : decode cX8_agreesWithSights 4 = .ok (.getfield 42, 3) := by decide +kernel
theorem dX8_agreesWithSights_7 : decode cX8_agreesWithSights 7 = .ok (.getfield 133, 3) := by decide +kernel
theorem dX8_agreesWithSights_10 : decode cX8_agreesWithSights 10 = .ok (.if_icmp .ge 69, 3) := by decide +kernel
theorem dX8_agreesWithSights_13 : decode cX8_agreesWithSights 13 = .ok (.aload_n 0, 1) := by decide +kernel
theorem dX8_agreesWithSights_14 : decode cX8_agreesWithSights 14 = .ok (.getfield 42, 3) := by decide +kernel
theorem dX8_agreesWithSights_17 : decode cX8_agreesWithSights 17 = .ok (.getfield 269, 3) := by decide +kernel
theorem dX8_agreesWithSights_20 : decode cX8_agreesWithSights 20 = .ok (.iload_n 1, 1) := by decide +kernel
theorem dX8_agreesWithSights_21 : decode cX8_agreesWithSights 21 = .ok (.iaload, 1) := by decide +kernel
theorem dX8_agreesWithSights_22 : decode cX8_agreesWithSights 22 = .ok (.istore_n 2, 1) := by decide +kernel
theorem dX8_agreesWithSights_23 : decode cX8_agreesWithSights 23 = .ok (.iload_n 2, 1) := by decide +kernel
theorem dX8_agreesWithSights_24 : decode cX8_agreesWithSights 24 = .ok (.aload_n 0, 1) := by decide +kernel
theorem dX8_agreesWithSights_25 : decode cX8_agreesWithSights 25 = .ok (.getfield 28, 3) := by decide +kernel
theorem dX8_agreesWithSights_28 : decode cX8_agreesWithSights 28 = .ok (.getfield 179, 3) := by decide +kernel
theorem dX8_agreesWithSights_31 : decode cX8_agreesWithSights 31 = .ok (.if_icmp .ge 40, 3) := by decide +kernel
theorem dX8_agreesWithSights_34 : decode cX8_agreesWithSights 34 = .ok (.aload_n 0, 1) := by decide +kernel
theorem dX8_agreesWithSights_35 : decode cX8_agreesWithSights 35 = .ok (.getfield 54, 3) := by decide +kernel
theorem dX8_agreesWithSights_38 : decode cX8_agreesWithSights 38 = .ok (.aload_n 0, 1) := by decide +kernel
theorem dX8_agreesWithSights_39 : decode cX8_agreesWithSights 39 = .ok (.getfield 42, 3) := by decide +kernel
theorem dX8_agreesWithSights_42 : decode cX8_agreesWithSights 42 = .ok (.getfield 272, 3) := by decide +kernel
theorem dX8_agreesWithSights_45 : decode cX8_agreesWithSights 45 = .ok (.iload_n 1, 1) := by decide +kernel
theorem dX8_agreesWithSights_46 : decode cX8_agreesWithSights 46 = .ok (.iaload, 1) := by decide +kernel
theorem dX8_agreesWithSights_47 : decode cX8_agreesWithSights 47 = .ok (.aload_n 0, 1) := by decide +kernel
theorem dX8_agreesWithSights_48 : decode cX8_agreesWithSights 48 = .ok (.getfield 28, 3) := by decide +kernel
theorem dX8_agreesWithSights_51 : decode cX8_agreesWithSights 51 = .ok (.getfield 117, 3) := by decide +kernel
theorem dX8_agreesWithSights_54 : decode cX8_agreesWithSights 54 = .ok (.iload_n 2, 1) := by decide +kernel
theorem dX8_agreesWithSights_55 : decode cX8_agreesWithSights 55 = .ok (.iaload, 1) := by decide +kernel
theorem dX8_agreesWithSights_56 : decode cX8_agreesWithSights 56 = .ok (.invokevirtual 176, 3) := by decide +kernel
theorem dX8_agreesWithSights_59 : decode cX8_agreesWithSights 59 = .ok (.aload_n 0, 1) := by decide +kernel
theorem dX8_agreesWithSights_60 : decode cX8_agreesWithSights 60 = .ok (.getfield 42, 3) := by decide +kernel
theorem dX8_agreesWithSights_63 : decode cX8_agreesWithSights 63 = .ok (.getfield 275, 3) := by decide +kernel
theorem dX8_agreesWithSights_66 : decode cX8_agreesWithSights 66 = .ok (.iload_n 1, 1) := by decide +kernel
theorem dX8_agreesWithSights_67 : decode cX8_agreesWithSights 67 = .ok (.iaload, 1) := by decide +kernel
theorem dX8_agreesWithSights_68 : decode cX8_agreesWithSights 68 = .ok (.if_icmp .eq 5, 3) := by decide +kernel
theorem dX8_agreesWithSights_71 : decode cX8_agreesWithSights 71 = .ok (.iconst 0, 1) := by decide +kernel
theorem dX8_agreesWithSights_72 : decode cX8_agreesWithSights 72 = .ok (.ireturn, 1) := by decide +kernel
theorem dX8_agreesWithSights_73 : decode cX8_agreesWithSights 73 = .ok (.iinc 1 1, 3) := by decide +kernel
theorem dX8_agreesWithSights_76 : decode cX8_agreesWithSights 76 = .ok (.goto (-74), 3) := by decide +kernel
theorem dX8_agreesWithSights_79 : decode cX8_agreesWithSights 79 = .ok (.iconst 1, 1) := by decide +kernel
theorem dX8_agreesWithSights_80 : decode cX8_agreesWithSights 80 = .ok (.ireturn, 1) := by decide +kernel
theorem dX8_tallyStarts_0 : decode cX8_tallyStarts 0 = .ok (.aload_n 0, 1) := by decide +kernel
theorem dX8_tallyStarts_1 : decode cX8_tallyStarts 1 = .ok (.getfield 71, 3) := by decide +kernel
theorem dX8_tallyStarts_4 : decode cX8_tallyStarts 4 = .ok (.iconst 0, 1) := by decide +kernel
theorem dX8_tallyStarts_5 : decode cX8_tallyStarts 5 = .ok (.invokestatic 278, 3) := by decide +kernel
theorem dX8_tallyStarts_8 : decode cX8_tallyStarts 8 = .ok (.aload_n 0, 1) := by decide +kernel
theorem dX8_tallyStarts_9 : decode cX8_tallyStarts 9 = .ok (.getfield 54, 3) := by decide +kernel
theorem dX8_tallyStarts_12 : decode cX8_tallyStarts 12 = .ok (.aload_n 0, 1) := by decide +kernel
theorem dX8_tallyStarts_13 : decode cX8_tallyStarts 13 = .ok (.getfield 50, 3) := by decide +kernel
theorem dX8_tallyStarts_16 : decode cX8_tallyStarts 16 = .ok (.invokevirtual 192, 3) := by decide +kernel
theorem dX8_tallyStarts_19 : decode cX8_tallyStarts 19 = .ok (.iconst 0, 1) := by decide +kernel
theorem dX8_tallyStarts_20 : decode cX8_tallyStarts 20 = .ok (.istore_n 2, 1) := by decide +kernel
theorem dX8_tallyStarts_21 : decode cX8_tallyStarts 21 = .ok (.iload_n 2, 1) := by decide +kernel
theorem dX8_tallyStarts_22 : decode cX8_tallyStarts 22 = .ok (.bipush 6, 2) := by decide +kernel
theorem dX8_tallyStarts_24 : decode cX8_tallyStarts 24 = .ok (.if_icmp .ge 96, 3) := by decide +kernel
theorem dX8_tallyStarts_27 : decode cX8_tallyStarts 27 = .ok (.aload_n 0, 1) := by decide +kernel
theorem dX8_tallyStarts_28 : decode cX8_tallyStarts 28 = .ok (.getfield 54, 3) := by decide +kernel
theorem dX8_tallyStarts_31 : decode cX8_tallyStarts 31 = .ok (.iload_n 2, 1) := by decide +kernel
theorem dX8_tallyStarts_32 : decode cX8_tallyStarts 32 = .ok (.putfield 123, 3) := by decide +kernel
theorem dX8_tallyStarts_35 : decode cX8_tallyStarts 35 = .ok (.aload_n 0, 1) := by decide +kernel
theorem dX8_tallyStarts_36 : decode cX8_tallyStarts 36 = .ok (.getfield 54, 3) := by decide +kernel
theorem dX8_tallyStarts_39 : decode cX8_tallyStarts 39 = .ok (.bipush 9, 2) := by decide +kernel
theorem dX8_tallyStarts_41 : decode cX8_tallyStarts 41 = .ok (.invokevirtual 180, 3) := by decide +kernel
theorem dX8_tallyStarts_44 : decode cX8_tallyStarts 44 = .ok (.aload_n 0, 1) := by decide +kernel
theorem dX8_tallyStarts_45 : decode cX8_tallyStarts 45 = .ok (.invokevirtual 225, 3) := by decide +kernel
theorem dX8_tallyStarts_48 : decode cX8_tallyStarts 48 = .ok (.ifCond .eq 66, 3) := by decide +kernel
theorem dX8_tallyStarts_51 : decode cX8_tallyStarts 51 = .ok (.iconst 0, 1) := by decide +kernel
theorem dX8_tallyStarts_52 : decode cX8_tallyStarts 52 = .ok (.istore_n 3, 1) := by decide +kernel
theorem dX8_tallyStarts_53 : decode cX8_tallyStarts 53 = .ok (.iload_n 3, 1) := by decide +kernel
theorem dX8_tallyStarts_54 : decode cX8_tallyStarts 54 = .ok (.aload_n 0, 1) := by decide +kernel
theorem dX8_tallyStarts_55 : decode cX8_tallyStarts 55 = .ok (.getfield 28, 3) := by decide +kernel
theorem dX8_tallyStarts_58 : decode cX8_tallyStarts 58 = .ok (.getfield 179, 3) := by decide +kernel
theorem dX8_tallyStarts_61 : decode cX8_tallyStarts 61 = .ok (.if_icmp .ge 53, 3) := by decide +kernel
theorem dX8_tallyStarts_64 : decode cX8_tallyStarts 64 = .ok (.aload_n 0, 1) := by decide +kernel
theorem dX8_tallyStarts_65 : decode cX8_tallyStarts 65 = .ok (.getfield 54, 3) := by decide +kernel
theorem dX8_tallyStarts_68 : decode cX8_tallyStarts 68 = .ok (.iload_n 1, 1) := by decide +kernel
theorem dX8_tallyStarts_69 : decode cX8_tallyStarts 69 = .ok (.aload_n 0, 1) := by decide +kernel
theorem dX8_tallyStarts_70 : decode cX8_tallyStarts 70 = .ok (.getfield 28, 3) := by decide +kernel
theorem dX8_tallyStarts_73 : decode cX8_tallyStarts 73 = .ok (.getfield 117, 3) := by decide +kernel
theorem dX8_tallyStarts_76 : decode cX8_tallyStarts 76 = .ok (.iload_n 3, 1) := by decide +kernel
theorem dX8_tallyStarts_77 : decode cX8_tallyStarts 77 = .ok (.iaload, 1) := by decide +kernel
theorem dX8_tallyStarts_78 : decode cX8_tallyStarts 78 = .ok (.invokevirtual 176, 3) := by decide +kernel
theorem dX8_tallyStarts_81 : decode cX8_tallyStarts 81 = .ok (.istore 4, 2) := by decide +kernel
theorem dX8_tallyStarts_83 : decode cX8_tallyStarts 83 = .ok (.aload_n 0, 1) := by decide +kernel
theorem dX8_tallyStarts_84 : decode cX8_tallyStarts 84 = .ok (.getfield 71, 3) := by decide +kernel
theorem dX8_tallyStarts_87 : decode cX8_tallyStarts 87 = .ok (.iload_n 3, 1) := by decide +kernel
theorem dX8_tallyStarts_88 : decode cX8_tallyStarts 88 = .ok (.iconst 4, 1) := by decide +kernel
theorem dX8_tallyStarts_89 : decode cX8_tallyStarts 89 = .ok (.imul, 1) := by decide +kernel
theorem dX8_tallyStarts_90 : decode cX8_tallyStarts 90 = .ok (.iload 4, 2) := by decide +kernel
theorem dX8_tallyStarts_92 : decode cX8_tallyStarts 92 = .ok (.iconst (-1), 1) := by decide +kernel
theorem dX8_tallyStarts_93 : decode cX8_tallyStarts 93 = .ok (.if_icmp .ne 7, 3) := by decide +kernel
theorem dX8_tallyStarts_96 : decode cX8_tallyStarts 96 = .ok (.iconst 3, 1) := by decide +kernel
theorem dX8_tallyStarts_97 : decode cX8_tallyStarts 97 = .ok (.goto 5, 3) := by decide +kernel
theorem dX8_tallyStarts_100 : decode cX8_tallyStarts 100 = .ok (.iload 4, 2) := by decide +kernel
theorem dX8_tallyStarts_102 : decode cX8_tallyStarts 102 = .ok (.iadd, 1) := by decide +kernel
theorem dX8_tallyStarts_103 : decode cX8_tallyStarts 103 = .ok (.dup2, 1) := by decide +kernel
theorem dX8_tallyStarts_104 : decode cX8_tallyStarts 104 = .ok (.iaload, 1) := by decide +kernel
theorem dX8_tallyStarts_105 : decode cX8_tallyStarts 105 = .ok (.iconst 1, 1) := by decide +kernel
theorem dX8_tallyStarts_106 : decode cX8_tallyStarts 106 = .ok (.iadd, 1) := by decide +kernel
theorem dX8_tallyStarts_107 : decode cX8_tallyStarts 107 = .ok (.iastore, 1) := by decide +kernel
theorem dX8_tallyStarts_108 : decode cX8_tallyStarts 108 = .ok (.iinc 3 1, 3) := by decide +kernel
theorem dX8_tallyStarts_111 : decode cX8_tallyStarts 111 = .ok (.goto (-58), 3) := by decide +kernel
theorem dX8_tallyStarts_114 : decode cX8_tallyStarts 114 = .ok (.iinc 2 1, 3) := by decide +kernel
theorem dX8_tallyStarts_117 : decode cX8_tallyStarts 117 = .ok (.goto (-96), 3) := by decide +kernel
theorem dX8_tallyStarts_120 : decode cX8_tallyStarts 120 = .ok (.return_, 1) := by decide +kernel
theorem dX8_weighChances_0 : decode cX8_weighChances 0 = .ok (.aload_n 0, 1) := by decide +kernel
theorem dX8_weighChances_1 : decode cX8_weighChances 1 = .ok (.iload_n 2, 1) := by decide +kernel
theorem dX8_weighChances_2 : decode cX8_weighChances 2 = .ok (.invokevirtual 284, 3) := by decide +kernel
theorem dX8_weighChances_5 : decode cX8_weighChances 5 = .ok (.istore 4, 2) := by decide +kernel
theorem dX8_weighChances_7 : decode cX8_weighChances 7 = .ok (.iload 4, 2) := by decide +kernel
theorem dX8_weighChances_9 : decode cX8_weighChances 9 = .ok (.invokestatic 287, 3) := by decide +kernel
theorem dX8_weighChances_12 : decode cX8_weighChances 12 = .ok (.istore 5, 2) := by decide +kernel
theorem dX8_weighChances_14 : decode cX8_weighChances 14 = .ok (.aload_n 0, 1) := by decide +kernel
theorem dX8_weighChances_15 : decode cX8_weighChances 15 = .ok (.getfield 67, 3) := by decide +kernel
theorem dX8_weighChances_18 : decode cX8_weighChances 18 = .ok (.getfield 291, 3) := by decide +kernel
theorem dX8_weighChances_21 : decode cX8_weighChances 21 = .ok (.lconst 0, 1) := by decide +kernel
theorem dX8_weighChances_22 : decode cX8_weighChances 22 = .ok (.invokestatic 295, 3) := by decide +kernel
theorem dX8_weighChances_25 : decode cX8_weighChances 25 = .ok (.aload_n 0, 1) := by decide +kernel
theorem dX8_weighChances_26 : decode cX8_weighChances 26 = .ok (.getfield 67, 3) := by decide +kernel
theorem dX8_weighChances_29 : decode cX8_weighChances 29 = .ok (.ldc2_w 298, 3) := by decide +kernel
theorem dX8_weighChances_32 : decode cX8_weighChances 32 = .ok (.iload 5, 2) := by decide +kernel
theorem dX8_weighChances_34 : decode cX8_weighChances 34 = .ok (.invokestatic 300, 3) := by decide +kernel
theorem dX8_weighChances_37 : decode cX8_weighChances 37 = .ok (.putfield 304, 3) := by decide +kernel
theorem dX8_weighChances_40 : decode cX8_weighChances 40 = .ok (.aload_n 0, 1) := by decide +kernel
theorem dX8_weighChances_41 : decode cX8_weighChances 41 = .ok (.getfield 54, 3) := by decide +kernel
theorem dX8_weighChances_44 : decode cX8_weighChances 44 = .ok (.aload_n 0, 1) := by decide +kernel
theorem dX8_weighChances_45 : decode cX8_weighChances 45 = .ok (.getfield 50, 3) := by decide +kernel
theorem dX8_weighChances_48 : decode cX8_weighChances 48 = .ok (.invokevirtual 192, 3) := by decide +kernel
theorem dX8_weighChances_51 : decode cX8_weighChances 51 = .ok (.iconst 0, 1) := by decide +kernel
theorem dX8_weighChances_52 : decode cX8_weighChances 52 = .ok (.istore 6, 2) := by decide +kernel
theorem dX8_weighChances_54 : decode cX8_weighChances 54 = .ok (.iload 6, 2) := by decide +kernel
theorem dX8_weighChances_56 : decode cX8_weighChances 56 = .ok (.sipush 256, 3) := by decide +kernel
theorem dX8_weighChances_59 : decode cX8_weighChances 59 = .ok (.if_icmp .ge 62, 3) := by decide +kernel
theorem dX8_weighChances_62 : decode cX8_weighChances 62 = .ok (.iload 6, 2) := by decide +kernel
theorem dX8_weighChances_64 : decode cX8_weighChances 64 = .ok (.invokestatic 287, 3) := by decide +kernel
theorem dX8_weighChances_67 : decode cX8_weighChances 67 = .ok (.istore 7, 2) := by decide +kernel
theorem dX8_weighChances_69 : decode cX8_weighChances 69 = .ok (.iload 6, 2) := by decide +kernel
theorem dX8_weighChances_71 : decode cX8_weighChances 71 = .ok (.iload 4, 2) := by decide +kernel
theorem dX8_weighChances_73 : decode cX8_weighChances 73 = .ok (.iconst (-1), 1) := by decide +kernel
theorem dX8_weighChances_74 : decode cX8_weighChances 74 = .ok (.ixor, 1) := by decide +kernel
theorem dX8_weighChances_75 : decode cX8_weighChances 75 = .ok (.iand, 1) := by decide +kernel
theorem dX8_weighChances_76 : decode cX8_weighChances 76 = .ok (.ifCond .ne 39, 3) := by decide +kernel
theorem dX8_weighChances_79 : decode cX8_weighChances 79 = .ok (.aload_n 0, 1) := by decide +kernel
theorem dX8_weighChances_80 : decode cX8_weighChances 80 = .ok (.getfield 54, 3) := by decide +kernel
theorem dX8_weighChances_83 : decode cX8_weighChances 83 = .ok (.iload 6, 2) := by decide +kernel
theorem dX8_weighChances_85 : decode cX8_weighChances 85 = .ok (.putfield 222, 3) := by decide +kernel
theorem dX8_weighChances_88 : decode cX8_weighChances 88 = .ok (.aload_n 0, 1) := by decide +kernel
theorem dX8_weighChances_89 : decode cX8_weighChances 89 = .ok (.iload_n 1, 1) := by decide +kernel
theorem dX8_weighChances_90 : decode cX8_weighChances 90 = .ok (.i2l, 1) := by decide +kernel
theorem dX8_weighChances_91 : decode cX8_weighChances 91 = .ok (.iload 7, 2) := by decide +kernel
theorem dX8_weighChances_93 : decode cX8_weighChances 93 = .ok (.invokestatic 300, 3) := by decide +kernel
theorem dX8_weighChances_96 : decode cX8_weighChances 96 = .ok (.bipush 16, 2) := by decide +kernel
theorem dX8_weighChances_98 : decode cX8_weighChances 98 = .ok (.iload_n 1, 1) := by decide +kernel
theorem dX8_weighChances_99 : decode cX8_weighChances 99 = .ok (.isub, 1) := by decide +kernel
theorem dX8_weighChances_100 : decode cX8_weighChances 100 = .ok (.i2l, 1) := by decide +kernel
theorem dX8_weighChances_101 : decode cX8_weighChances 101 = .ok (.iload 5, 2) := by decide +kernel
theorem dX8_weighChances_103 : decode cX8_weighChances 103 = .ok (.iload 7, 2) := by decide +kernel
theorem dX8_weighChances_105 : decode cX8_weighChances 105 = .ok (.isub, 1) := by decide +kernel
theorem dX8_weighChances_106 : decode cX8_weighChances 106 = .ok (.invokestatic 300, 3) := by decide +kernel
theorem dX8_weighChances_109 : decode cX8_weighChances 109 = .ok (.lmul, 1) := by decide +kernel
theorem dX8_weighChances_110 : decode cX8_weighChances 110 = .ok (.iload_n 2, 1) := by decide +kernel
theorem dX8_weighChances_111 : decode cX8_weighChances 111 = .ok (.iload_n 3, 1) := by decide +kernel
theorem dX8_weighChances_112 : decode cX8_weighChances 112 = .ok (.invokevirtual 307, 3) := by decide +kernel
theorem dX8_weighChances_115 : decode cX8_weighChances 115 = .ok (.iinc 6 1, 3) := by decide +kernel
theorem dX8_weighChances_118 : decode cX8_weighChances 118 = .ok (.goto (-64), 3) := by decide +kernel
theorem dX8_weighChances_121 : decode cX8_weighChances 121 = .ok (.return_, 1) := by decide +kernel
theorem dX8_shareOut_0 : decode cX8_shareOut 0 = .ok (.lload_n 1, 1) := by decide +kernel
theorem dX8_shareOut_1 : decode cX8_shareOut 1 = .ok (.lconst 0, 1) := by decide +kernel
theorem dX8_shareOut_2 : decode cX8_shareOut 2 = .ok (.lcmp, 1) := by decide +kernel
theorem dX8_shareOut_3 : decode cX8_shareOut 3 = .ok (.ifCond .ne 4, 3) := by decide +kernel
theorem dX8_shareOut_6 : decode cX8_shareOut 6 = .ok (.return_, 1) := by decide +kernel
theorem dX8_shareOut_7 : decode cX8_shareOut 7 = .ok (.aload_n 0, 1) := by decide +kernel
theorem dX8_shareOut_8 : decode cX8_shareOut 8 = .ok (.getfield 54, 3) := by decide +kernel
theorem dX8_shareOut_11 : decode cX8_shareOut 11 = .ok (.iload_n 3, 1) := by decide +kernel
theorem dX8_shareOut_12 : decode cX8_shareOut 12 = .ok (.invokevirtual 180, 3) := by decide +kernel
theorem dX8_shareOut_15 : decode cX8_shareOut 15 = .ok (.iconst 0, 1) := by decide +kernel
theorem dX8_shareOut_16 : decode cX8_shareOut 16 = .ok (.istore 5, 2) := by decide +kernel
theorem dX8_shareOut_18 : decode cX8_shareOut 18 = .ok (.iload 5, 2) := by decide +kernel
theorem dX8_shareOut_20 : decode cX8_shareOut 20 = .ok (.aload_n 0, 1) := by decide +kernel
theorem dX8_shareOut_21 : decode cX8_shareOut 21 = .ok (.getfield 28, 3) := by decide +kernel
theorem dX8_shareOut_24 : decode cX8_shareOut 24 = .ok (.getfield 179, 3) := by decide +kernel
theorem dX8_shareOut_27 : decode cX8_shareOut 27 = .ok (.if_icmp .ge 46, 3) := by decide +kernel
theorem dX8_shareOut_30 : decode cX8_shareOut 30 = .ok (.aload_n 0, 1) := by decide +kernel
theorem dX8_shareOut_31 : decode cX8_shareOut 31 = .ok (.getfield 54, 3) := by decide +kernel
theorem dX8_shareOut_34 : decode cX8_shareOut 34 = .ok (.iload_n 3, 1) := by decide +kernel
theorem dX8_shareOut_35 : decode cX8_shareOut 35 = .ok (.aload_n 0, 1) := by decide +kernel
theorem dX8_shareOut_36 : decode cX8_shareOut 36 = .ok (.getfield 28, 3) := by decide +kernel
theorem dX8_shareOut_39 : decode cX8_shareOut 39 = .ok (.getfield 117, 3) := by decide +kernel
theorem dX8_shareOut_42 : decode cX8_shareOut 42 = .ok (.iload 5, 2) := by decide +kernel
theorem dX8_shareOut_44 : decode cX8_shareOut 44 = .ok (.iaload, 1) := by decide +kernel
theorem dX8_shareOut_45 : decode cX8_shareOut 45 = .ok (.invokevirtual 176, 3) := by decide +kernel
theorem dX8_shareOut_48 : decode cX8_shareOut 48 = .ok (.iload 4, 2) := by decide +kernel
theorem dX8_shareOut_50 : decode cX8_shareOut 50 = .ok (.if_icmp .ne 17, 3) := by decide +kernel
theorem dX8_shareOut_53 : decode cX8_shareOut 53 = .ok (.aload_n 0, 1) := by decide +kernel
theorem dX8_shareOut_54 : decode cX8_shareOut 54 = .ok (.getfield 67, 3) := by decide +kernel
theorem dX8_shareOut_57 : decode cX8_shareOut 57 = .ok (.getfield 291, 3) := by decide +kernel
theorem dX8_shareOut_60 : decode cX8_shareOut 60 = .ok (.iload 5, 2) := by decide +kernel
theorem dX8_shareOut_62 : decode cX8_shareOut 62 = .ok (.dup2, 1) := by decide +kernel
theorem dX8_shareOut_63 : decode cX8_shareOut 63 = .ok (.laload, 1) := by decide +kernel
theorem dX8_shareOut_64 : decode cX8_shareOut 64 = .ok (.lload_n 1, 1) := by decide +kernel
theorem dX8_shareOut_65 : decode cX8_shareOut 65 = .ok (.ladd, 1) := by decide +kernel
theorem dX8_shareOut_66 : decode cX8_shareOut 66 = .ok (.lastore, 1) := by decide +kernel
