theorem dX8_shareOut_67 : decode cX8_shareOut 67 = .ok (.iinc 5 1, 3) := by decide +kernel
theorem dX8_shareOut_70 : decode cX8_shareOut 70 = .ok (.goto (-52), 3) := by decide +kernel
theorem dX8_shareOut_73 : decode cX8_shareOut 73 = .ok (.return_, 1) := by decide +kernel
theorem dX8_bowlsThatMatter_0 : decode cX8_bowlsThatMatter 0 = .ok (.iconst 0, 1) := by decide +kernel
theorem dX8_bowlsThatMatter_1 : decode cX8_bowlsThatMatter 1 = .ok (.istore_n 2, 1) := by decide +kernel
theorem dX8_bowlsThatMatter_2 : decode cX8_bowlsThatMatter 2 = .ok (.iconst 0, 1) := by decide +kernel
theorem dX8_bowlsThatMatter_3 : decode cX8_bowlsThatMatter 3 = .ok (.istore_n 3, 1) := by decide +kernel
theorem dX8_bowlsThatMatter_4 : decode cX8_bowlsThatMatter 4 = .ok (.iload_n 3, 1) := by decide +kernel
theorem dX8_bowlsThatMatter_5 : decode cX8_bowlsThatMatter 5 = .ok (.aload_n 0, 1) := by decide +kernel
theorem dX8_bowlsThatMatter_6 : decode cX8_bowlsThatMatter 6 = .ok (.getfield 35, 3) := by decide +kernel
theorem dX8_bowlsThatMatter_9 : decode cX8_bowlsThatMatter 9 = .ok (.getfield 133, 3) := by decide +kernel
theorem dX8_bowlsThatMatter_12 : decode cX8_bowlsThatMatter 12 = .ok (.if_icmp .ge 66, 3) := by decide +kernel
theorem dX8_bowlsThatMatter_15 : decode cX8_bowlsThatMatter 15 = .ok (.aload_n 0, 1) := by decide +kernel
theorem dX8_bowlsThatMatter_16 : decode cX8_bowlsThatMatter 16 = .ok (.getfield 35, 3) := by decide +kernel
theorem dX8_bowlsThatMatter_19 : decode cX8_bowlsThatMatter 19 = .ok (.getfield 272, 3) := by decide +kernel
theorem dX8_bowlsThatMatter_22 : decode cX8_bowlsThatMatter 22 = .ok (.iload_n 3, 1) := by decide +kernel
theorem dX8_bowlsThatMatter_23 : decode cX8_bowlsThatMatter 23 = .ok (.iaload, 1) := by decide +kernel
theorem dX8_bowlsThatMatter_24 : decode cX8_bowlsThatMatter 24 = .ok (.iload_n 1, 1) := by decide +kernel
theorem dX8_bowlsThatMatter_25 : decode cX8_bowlsThatMatter 25 = .ok (.if_icmp .gt 47, 3) := by decide +kernel
theorem dX8_bowlsThatMatter_28 : decode cX8_bowlsThatMatter 28 = .ok (.aload_n 0, 1) := by decide +kernel
theorem dX8_bowlsThatMatter_29 : decode cX8_bowlsThatMatter 29 = .ok (.getfield 35, 3) := by decide +kernel
theorem dX8_bowlsThatMatter_32 : decode cX8_bowlsThatMatter 32 = .ok (.getfield 272, 3) := by decide +kernel
theorem dX8_bowlsThatMatter_35 : decode cX8_bowlsThatMatter 35 = .ok (.iload_n 3, 1) := by decide +kernel
theorem dX8_bowlsThatMatter_36 : decode cX8_bowlsThatMatter 36 = .ok (.iaload, 1) := by decide +kernel
theorem dX8_bowlsThatMatter_37 : decode cX8_bowlsThatMatter 37 = .ok (.aload_n 0, 1) := by decide +kernel
theorem dX8_bowlsThatMatter_38 : decode cX8_bowlsThatMatter 38 = .ok (.getfield 50, 3) := by decide +kernel
theorem dX8_bowlsThatMatter_41 : decode cX8_bowlsThatMatter 41 = .ok (.getfield 126, 3) := by decide +kernel
theorem dX8_bowlsThatMatter_44 : decode cX8_bowlsThatMatter 44 = .ok (.if_icmp .ge 28, 3) := by decide +kernel
theorem dX8_bowlsThatMatter_47 : decode cX8_bowlsThatMatter 47 = .ok (.aload_n 0, 1) := by decide +kernel
theorem dX8_bowlsThatMatter_48 : decode cX8_bowlsThatMatter 48 = .ok (.getfield 35, 3) := by decide +kernel
theorem dX8_bowlsThatMatter_51 : decode cX8_bowlsThatMatter 51 = .ok (.getfield 269, 3) := by decide +kernel
theorem dX8_bowlsThatMatter_54 : decode cX8_bowlsThatMatter 54 = .ok (.iload_n 3, 1) := by decide +kernel
theorem dX8_bowlsThatMatter_55 : decode cX8_bowlsThatMatter 55 = .ok (.iaload, 1) := by decide +kernel
theorem dX8_bowlsThatMatter_56 : decode cX8_bowlsThatMatter 56 = .ok (.aload_n 0, 1) := by decide +kernel
theorem dX8_bowlsThatMatter_57 : decode cX8_bowlsThatMatter 57 = .ok (.getfield 21, 3) := by decide +kernel
theorem dX8_bowlsThatMatter_60 : decode cX8_bowlsThatMatter 60 = .ok (.getfield 108, 3) := by decide +kernel
theorem dX8_bowlsThatMatter_63 : decode cX8_bowlsThatMatter 63 = .ok (.if_icmp .ge 9, 3) := by decide +kernel
theorem dX8_bowlsThatMatter_66 : decode cX8_bowlsThatMatter 66 = .ok (.iload_n 2, 1) := by decide +kernel
theorem dX8_bowlsThatMatter_67 : decode cX8_bowlsThatMatter 67 = .ok (.iconst 1, 1) := by decide +kernel
theorem dX8_bowlsThatMatter_68 : decode cX8_bowlsThatMatter 68 = .ok (.iload_n 3, 1) := by decide +kernel
theorem dX8_bowlsThatMatter_69 : decode cX8_bowlsThatMatter 69 = .ok (.ishl, 1) := by decide +kernel
theorem dX8_bowlsThatMatter_70 : decode cX8_bowlsThatMatter 70 = .ok (.ior, 1) := by decide +kernel
theorem dX8_bowlsThatMatter_71 : decode cX8_bowlsThatMatter 71 = .ok (.istore_n 2, 1) := by decide +kernel
theorem dX8_bowlsThatMatter_72 : decode cX8_bowlsThatMatter 72 = .ok (.iinc 3 1, 3) := by decide +kernel
theorem dX8_bowlsThatMatter_75 : decode cX8_bowlsThatMatter 75 = .ok (.goto (-71), 3) := by decide +kernel
theorem dX8_bowlsThatMatter_78 : decode cX8_bowlsThatMatter 78 = .ok (.iload_n 2, 1) := by decide +kernel
theorem dX8_bowlsThatMatter_79 : decode cX8_bowlsThatMatter 79 = .ok (.ireturn, 1) := by decide +kernel
theorem dX8_sheet_0 : decode cX8_sheet 0 = .ok (.iload_n 1, 1) := by decide +kernel
theorem dX8_sheet_1 : decode cX8_sheet 1 = .ok (.iconst 3, 1) := by decide +kernel
theorem dX8_sheet_2 : decode cX8_sheet 2 = .ok (.invokestatic 90, 3) := by decide +kernel
theorem dX8_sheet_5 : decode cX8_sheet 5 = .ok (.ifCond .eq 17, 3) := by decide +kernel
theorem dX8_sheet_8 : decode cX8_sheet 8 = .ok (.iload_n 2, 1) := by decide +kernel
theorem dX8_sheet_9 : decode cX8_sheet 9 = .ok (.iconst 2, 1) := by decide +kernel
theorem dX8_sheet_10 : decode cX8_sheet 10 = .ok (.invokestatic 90, 3) := by decide +kernel
theorem dX8_sheet_13 : decode cX8_sheet 13 = .ok (.ifCond .eq 9, 3) := by decide +kernel
theorem dX8_sheet_16 : decode cX8_sheet 16 = .ok (.iload_n 3, 1) := by decide +kernel
theorem dX8_sheet_17 : decode cX8_sheet 17 = .ok (.bipush 60, 2) := by decide +kernel
theorem dX8_sheet_19 : decode cX8_sheet 19 = .ok (.if_icmp .le 6, 3) := by decide +kernel
theorem dX8_sheet_22 : decode cX8_sheet 22 = .ok (.bipush (-2), 2) := by decide +kernel
theorem dX8_sheet_24 : decode cX8_sheet 24 = .ok (.ireturn, 1) := by decide +kernel
theorem dX8_sheet_25 : decode cX8_sheet 25 = .ok (.iload_n 3, 1) := by decide +kernel
theorem dX8_sheet_26 : decode cX8_sheet 26 = .ok (.ifCond .ge 9, 3) := by decide +kernel
theorem dX8_sheet_29 : decode cX8_sheet 29 = .ok (.aload_n 0, 1) := by decide +kernel
theorem dX8_sheet_30 : decode cX8_sheet 30 = .ok (.iconst 5, 1) := by decide +kernel
theorem dX8_sheet_31 : decode cX8_sheet 31 = .ok (.invokevirtual 139, 3) := by decide +kernel
theorem dX8_sheet_34 : decode cX8_sheet 34 = .ok (.ireturn, 1) := by decide +kernel
theorem dX8_sheet_35 : decode cX8_sheet 35 = .ok (.aload_n 0, 1) := by decide +kernel
theorem dX8_sheet_36 : decode cX8_sheet 36 = .ok (.getfield 77, 3) := by decide +kernel
theorem dX8_sheet_39 : decode cX8_sheet 39 = .ok (.iload_n 1, 1) := by decide +kernel
theorem dX8_sheet_40 : decode cX8_sheet 40 = .ok (.aaload, 1) := by decide +kernel
theorem dX8_sheet_41 : decode cX8_sheet 41 = .ok (.iload_n 2, 1) := by decide +kernel
theorem dX8_sheet_42 : decode cX8_sheet 42 = .ok (.iload_n 3, 1) := by decide +kernel
theorem dX8_sheet_43 : decode cX8_sheet 43 = .ok (.invokevirtual 311, 3) := by decide +kernel
theorem dX8_sheet_46 : decode cX8_sheet 46 = .ok (.iload_n 3, 1) := by decide +kernel
theorem dX8_sheet_47 : decode cX8_sheet 47 = .ok (.ireturn, 1) := by decide +kernel
theorem dX8_lose_0 : decode cX8_lose 0 = .ok (.iload_n 1, 1) := by decide +kernel
theorem dX8_lose_1 : decode cX8_lose 1 = .ok (.iconst 3, 1) := by decide +kernel
theorem dX8_lose_2 : decode cX8_lose 2 = .ok (.invokestatic 90, 3) := by decide +kernel
theorem dX8_lose_5 : decode cX8_lose 5 = .ok (.ifCond .ne 6, 3) := by decide +kernel
theorem dX8_lose_8 : decode cX8_lose 8 = .ok (.bipush (-2), 2) := by decide +kernel
theorem dX8_lose_10 : decode cX8_lose 10 = .ok (.ireturn, 1) := by decide +kernel
theorem dX8_lose_11 : decode cX8_lose 11 = .ok (.aload_n 0, 1) := by decide +kernel
theorem dX8_lose_12 : decode cX8_lose 12 = .ok (.getfield 77, 3) := by decide +kernel
theorem dX8_lose_15 : decode cX8_lose 15 = .ok (.iload_n 1, 1) := by decide +kernel
theorem dX8_lose_16 : decode cX8_lose 16 = .ok (.aaload, 1) := by decide +kernel
theorem dX8_lose_17 : decode cX8_lose 17 = .ok (.getfield 136, 3) := by decide +kernel
theorem dX8_lose_20 : decode cX8_lose 20 = .ok (.ifCond .eq 9, 3) := by decide +kernel
theorem dX8_lose_23 : decode cX8_lose 23 = .ok (.aload_n 0, 1) := by decide +kernel
theorem dX8_lose_24 : decode cX8_lose 24 = .ok (.iconst 1, 1) := by decide +kernel
theorem dX8_lose_25 : decode cX8_lose 25 = .ok (.invokevirtual 139, 3) := by decide +kernel
theorem dX8_lose_28 : decode cX8_lose 28 = .ok (.ireturn, 1) := by decide +kernel
theorem dX8_lose_29 : decode cX8_lose 29 = .ok (.aload_n 0, 1) := by decide +kernel
theorem dX8_lose_30 : decode cX8_lose 30 = .ok (.getfield 77, 3) := by decide +kernel
theorem dX8_lose_33 : decode cX8_lose 33 = .ok (.iload_n 1, 1) := by decide +kernel
theorem dX8_lose_34 : decode cX8_lose 34 = .ok (.aaload, 1) := by decide +kernel
theorem dX8_lose_35 : decode cX8_lose 35 = .ok (.iconst 1, 1) := by decide +kernel
theorem dX8_lose_36 : decode cX8_lose 36 = .ok (.putfield 136, 3) := by decide +kernel
theorem dX8_lose_39 : decode cX8_lose 39 = .ok (.aload_n 0, 1) := by decide +kernel
theorem dX8_lose_40 : decode cX8_lose 40 = .ok (.getfield 77, 3) := by decide +kernel
theorem dX8_lose_43 : decode cX8_lose 43 = .ok (.iload_n 1, 1) := by decide +kernel
theorem dX8_lose_44 : decode cX8_lose 44 = .ok (.aaload, 1) := by decide +kernel
theorem dX8_lose_45 : decode cX8_lose 45 = .ok (.getfield 143, 3) := by decide +kernel
theorem dX8_lose_48 : decode cX8_lose 48 = .ok (.ireturn, 1) := by decide +kernel
theorem dX8_lay_0 : decode cX8_lay 0 = .ok (.iload_n 1, 1) := by decide +kernel
theorem dX8_lay_1 : decode cX8_lay 1 = .ok (.iconst 3, 1) := by decide +kernel
theorem dX8_lay_2 : decode cX8_lay 2 = .ok (.invokestatic 90, 3) := by decide +kernel
theorem dX8_lay_5 : decode cX8_lay 5 = .ok (.ifCond .eq 11, 3) := by decide +kernel
theorem dX8_lay_8 : decode cX8_lay 8 = .ok (.iload_n 2, 1) := by decide +kernel
theorem dX8_lay_9 : decode cX8_lay 9 = .ok (.iconst 2, 1) := by decide +kernel
theorem dX8_lay_10 : decode cX8_lay 10 = .ok (.invokestatic 90, 3) := by decide +kernel
theorem dX8_lay_13 : decode cX8_lay 13 = .ok (.ifCond .ne 6, 3) := by decide +kernel
theorem dX8_lay_16 : decode cX8_lay 16 = .ok (.bipush (-2), 2) := by decide +kernel
theorem dX8_lay_18 : decode cX8_lay 18 = .ok (.ireturn, 1) := by decide +kernel
theorem dX8_lay_19 : decode cX8_lay 19 = .ok (.aload_n 0, 1) := by decide +kernel
theorem dX8_lay_20 : decode cX8_lay 20 = .ok (.getfield 77, 3) := by decide +kernel
theorem dX8_lay_23 : decode cX8_lay 23 = .ok (.iload_n 1, 1) := by decide +kernel
theorem dX8_lay_24 : decode cX8_lay 24 = .ok (.aaload, 1) := by decide +kernel
theorem dX8_lay_25 : decode cX8_lay 25 = .ok (.iload_n 2, 1) := by decide +kernel
theorem dX8_lay_26 : decode cX8_lay 26 = .ok (.iload_n 3, 1) := by decide +kernel
theorem dX8_lay_27 : decode cX8_lay 27 = .ok (.invokevirtual 315, 3) := by decide +kernel
theorem dX8_lay_30 : decode cX8_lay 30 = .ok (.istore 5, 2) := by decide +kernel
theorem dX8_lay_32 : decode cX8_lay 32 = .ok (.iload 5, 2) := by decide +kernel
theorem dX8_lay_34 : decode cX8_lay 34 = .ok (.ifCond .eq 10, 3) := by decide +kernel
theorem dX8_lay_37 : decode cX8_lay 37 = .ok (.aload_n 0, 1) := by decide +kernel
theorem dX8_lay_38 : decode cX8_lay 38 = .ok (.iload 5, 2) := by decide +kernel
theorem dX8_lay_40 : decode cX8_lay 40 = .ok (.invokevirtual 139, 3) := by decide +kernel
theorem dX8_lay_43 : decode cX8_lay 43 = .ok (.ireturn, 1) := by decide +kernel
theorem dX8_lay_44 : decode cX8_lay 44 = .ok (.aload_n 0, 1) := by decide +kernel
theorem dX8_lay_45 : decode cX8_lay 45 = .ok (.getfield 77, 3) := by decide +kernel
theorem dX8_lay_48 : decode cX8_lay 48 = .ok (.iload_n 1, 1) := by decide +kernel
theorem dX8_lay_49 : decode cX8_lay 49 = .ok (.aaload, 1) := by decide +kernel
theorem dX8_lay_50 : decode cX8_lay 50 = .ok (.iload_n 3, 1) := by decide +kernel
theorem dX8_lay_51 : decode cX8_lay 51 = .ok (.iload 4, 2) := by decide +kernel
theorem dX8_lay_53 : decode cX8_lay 53 = .ok (.invokevirtual 318, 3) := by decide +kernel
theorem dX8_lay_56 : decode cX8_lay 56 = .ok (.iconst 1, 1) := by decide +kernel
theorem dX8_lay_57 : decode cX8_lay 57 = .ok (.ireturn, 1) := by decide +kernel
theorem dX8_get_0 : decode cX8_get 0 = .ok (.iload_n 1, 1) := by decide +kernel
theorem dX8_get_1 : decode cX8_get 1 = .ok (.iconst 3, 1) := by decide +kernel
theorem dX8_get_2 : decode cX8_get 2 = .ok (.invokestatic 90, 3) := by decide +kernel
theorem dX8_get_5 : decode cX8_get 5 = .ok (.ifCond .eq 11, 3) := by decide +kernel
theorem dX8_get_8 : decode cX8_get 8 = .ok (.iload_n 2, 1) := by decide +kernel
theorem dX8_get_9 : decode cX8_get 9 = .ok (.iconst 2, 1) := by decide +kernel
theorem dX8_get_10 : decode cX8_get 10 = .ok (.invokestatic 90, 3) := by decide +kernel
theorem dX8_get_13 : decode cX8_get 13 = .ok (.ifCond .ne 7, 3) := by decide +kernel
theorem dX8_get_16 : decode cX8_get 16 = .ok (.ldc_w 321, 3) := by decide +kernel
theorem dX8_get_19 : decode cX8_get 19 = .ok (.ireturn, 1) := by decide +kernel
theorem dX8_get_20 : decode cX8_get 20 = .ok (.aload_n 0, 1) := by decide +kernel
theorem dX8_get_21 : decode cX8_get 21 = .ok (.getfield 77, 3) := by decide +kernel
theorem dX8_get_24 : decode cX8_get 24 = .ok (.iload_n 1, 1) := by decide +kernel
theorem dX8_get_25 : decode cX8_get 25 = .ok (.aaload, 1) := by decide +kernel
theorem dX8_get_26 : decode cX8_get 26 = .ok (.iload_n 2, 1) := by decide +kernel
theorem dX8_get_27 : decode cX8_get 27 = .ok (.iload_n 3, 1) := by decide +kernel
theorem dX8_get_28 : decode cX8_get 28 = .ok (.invokevirtual 315, 3) := by decide +kernel
theorem dX8_get_31 : decode cX8_get 31 = .ok (.istore 4, 2) := by decide +kernel
theorem dX8_get_33 : decode cX8_get 33 = .ok (.iload 4, 2) := by decide +kernel
theorem dX8_get_35 : decode cX8_get 35 = .ok (.ifCond .eq 13, 3) := by decide +kernel
theorem dX8_get_38 : decode cX8_get 38 = .ok (.aload_n 0, 1) := by decide +kernel
theorem dX8_get_39 : decode cX8_get 39 = .ok (.iload 4, 2) := by decide +kernel
theorem dX8_get_41 : decode cX8_get 41 = .ok (.putfield 86, 3) := by decide +kernel
theorem dX8_get_44 : decode cX8_get 44 = .ok (.ldc_w 321, 3) := by decide +kernel
theorem dX8_get_47 : decode cX8_get 47 = .ok (.ireturn, 1) := by decide +kernel
theorem dX8_get_48 : decode cX8_get 48 = .ok (.aload_n 0, 1) := by decide +kernel
theorem dX8_get_49 : decode cX8_get 49 = .ok (.getfield 77, 3) := by decide +kernel
theorem dX8_get_52 : decode cX8_get 52 = .ok (.iload_n 1, 1) := by decide +kernel
theorem dX8_get_53 : decode cX8_get 53 = .ok (.aaload, 1) := by decide +kernel
theorem dX8_get_54 : decode cX8_get 54 = .ok (.getfield 146, 3) := by decide +kernel
theorem dX8_get_57 : decode cX8_get 57 = .ok (.iload_n 3, 1) := by decide +kernel
theorem dX8_get_58 : decode cX8_get 58 = .ok (.iaload, 1) := by decide +kernel
theorem dX8_get_59 : decode cX8_get 59 = .ok (.ireturn, 1) := by decide +kernel
theorem dX8_copy_0 : decode cX8_copy 0 = .ok (.iload_n 1, 1) := by decide +kernel
theorem dX8_copy_1 : decode cX8_copy 1 = .ok (.iconst 3, 1) := by decide +kernel
theorem dX8_copy_2 : decode cX8_copy 2 = .ok (.invokestatic 90, 3) := by decide +kernel
theorem dX8_copy_5 : decode cX8_copy 5 = .ok (.ifCond .eq 11, 3) := by decide +kernel
theorem dX8_copy_8 : decode cX8_copy 8 = .ok (.iload_n 3, 1) := by decide +kernel
theorem dX8_copy_9 : decode cX8_copy 9 = .ok (.iconst 3, 1) := by decide +kernel
theorem dX8_copy_10 : decode cX8_copy 10 = .ok (.invokestatic 90, 3) := by decide +kernel
theorem dX8_copy_13 : decode cX8_copy 13 = .ok (.ifCond .ne 6, 3) := by decide +kernel
theorem dX8_copy_16 : decode cX8_copy 16 = .ok (.bipush (-2), 2) := by decide +kernel
theorem dX8_copy_18 : decode cX8_copy 18 = .ok (.ireturn, 1) := by decide +kernel
theorem dX8_copy_19 : decode cX8_copy 19 = .ok (.aload_n 0, 1) := by decide +kernel
theorem dX8_copy_20 : decode cX8_copy 20 = .ok (.getfield 77, 3) := by decide +kernel
theorem dX8_copy_23 : decode cX8_copy 23 = .ok (.iload_n 1, 1) := by decide +kernel
theorem dX8_copy_24 : decode cX8_copy 24 = .ok (.aaload, 1) := by decide +kernel
theorem dX8_copy_25 : decode cX8_copy 25 = .ok (.astore 6, 2) := by decide +kernel
theorem dX8_copy_27 : decode cX8_copy 27 = .ok (.aload_n 0, 1) := by decide +kernel
theorem dX8_copy_28 : decode cX8_copy 28 = .ok (.getfield 77, 3) := by decide +kernel
theorem dX8_copy_31 : decode cX8_copy 31 = .ok (.iload_n 3, 1) := by decide +kernel
theorem dX8_copy_32 : decode cX8_copy 32 = .ok (.aaload, 1) := by decide +kernel
theorem dX8_copy_33 : decode cX8_copy 33 = .ok (.astore 7, 2) := by decide +kernel
theorem dX8_copy_35 : decode cX8_copy 35 = .ok (.aload 6, 2) := by decide +kernel
theorem dX8_copy_37 : decode cX8_copy 37 = .ok (.getfield 136, 3) := by decide +kernel
theorem dX8_copy_40 : decode cX8_copy 40 = .ok (.ifCond .ne 11, 3) := by decide +kernel
theorem dX8_copy_43 : decode cX8_copy 43 = .ok (.aload 7, 2) := by decide +kernel
theorem dX8_copy_45 : decode cX8_copy 45 = .ok (.getfield 136, 3) := by decide +kernel
theorem dX8_copy_48 : decode cX8_copy 48 = .ok (.ifCond .eq 9, 3) := by decide +kernel
theorem dX8_copy_51 : decode cX8_copy 51 = .ok (.aload_n 0, 1) := by decide +kernel
theorem dX8_copy_52 : decode cX8_copy 52 = .ok (.iconst 1, 1) := by decide +kernel
theorem dX8_copy_53 : decode cX8_copy 53 = .ok (.invokevirtual 139, 3) := by decide +kernel
theorem dX8_copy_56 : decode cX8_copy 56 = .ok (.ireturn, 1) := by decide +kernel
theorem dX8_copy_57 : decode cX8_copy 57 = .ok (.aload 6, 2) := by decide +kernel
theorem dX8_copy_59 : decode cX8_copy 59 = .ok (.getfield 322, 3) := by decide +kernel
theorem dX8_copy_62 : decode cX8_copy 62 = .ok (.aload 7, 2) := by decide +kernel
theorem dX8_copy_64 : decode cX8_copy 64 = .ok (.getfield 322, 3) := by decide +kernel
theorem dX8_copy_67 : decode cX8_copy 67 = .ok (.if_icmp .eq 9, 3) := by decide +kernel
theorem dX8_copy_70 : decode cX8_copy 70 = .ok (.aload_n 0, 1) := by decide +kernel
theorem dX8_copy_71 : decode cX8_copy 71 = .ok (.iconst 4, 1) := by decide +kernel
theorem dX8_copy_72 : decode cX8_copy 72 = .ok (.invokevirtual 139, 3) := by decide +kernel
theorem dX8_copy_75 : decode cX8_copy 75 = .ok (.ireturn, 1) := by decide +kernel
theorem dX8_copy_76 : decode cX8_copy 76 = .ok (.aload 6, 2) := by decide +kernel
theorem dX8_copy_78 : decode cX8_copy 78 = .ok (.iload_n 2, 1) := by decide +kernel
theorem dX8_copy_79 : decode cX8_copy 79 = .ok (.iload 5, 2) := by decide +kernel
theorem dX8_copy_81 : decode cX8_copy 81 = .ok (.invokevirtual 325, 3) := by decide +kernel
theorem dX8_copy_84 : decode cX8_copy 84 = .ok (.ifCond .eq 15, 3) := by decide +kernel
theorem dX8_copy_87 : decode cX8_copy 87 = .ok (.aload 7, 2) := by decide +kernel
theorem dX8_copy_89 : decode cX8_copy 89 = .ok (.iload 4, 2) := by decide +kernel
theorem dX8_copy_91 : decode cX8_copy 91 = .ok (.iload 5, 2) := by decide +kernel
theorem dX8_copy_93 : decode cX8_copy 93 = .ok (.invokevirtual 325, 3) := by decide +kernel
theorem dX8_copy_96 : decode cX8_copy 96 = .ok (.ifCond .ne 9, 3) := by decide +kernel
theorem dX8_copy_99 : decode cX8_copy 99 = .ok (.aload_n 0, 1) := by decide +kernel
theorem dX8_copy_100 : decode cX8_copy 100 = .ok (.iconst 2, 1) := by decide +kernel
theorem dX8_copy_101 : decode cX8_copy 101 = .ok (.invokevirtual 139, 3) := by decide +kernel
theorem dX8_copy_104 : decode cX8_copy 104 = .ok (.ireturn, 1) := by decide +kernel
theorem dX8_copy_105 : decode cX8_copy 105 = .ok (.aload 6, 2) := by decide +kernel
theorem dX8_copy_107 : decode cX8_copy 107 = .ok (.getfield 146, 3) := by decide +kernel
theorem dX8_copy_110 : decode cX8_copy 110 = .ok (.iload_n 2, 1) := by decide +kernel
theorem dX8_copy_111 : decode cX8_copy 111 = .ok (.aload 7, 2) := by decide +kernel
theorem dX8_copy_113 : decode cX8_copy 113 = .ok (.getfield 146, 3) := by decide +kernel
theorem dX8_copy_116 : decode cX8_copy 116 = .ok (.iload 4, 2) := by decide +kernel
theorem dX8_copy_118 : decode cX8_copy 118 = .ok (.iload 5, 2) := by decide +kernel
theorem dX8_copy_120 : decode cX8_copy 120 = .ok (.invokestatic 328, 3) := by decide +kernel
theorem dX8_copy_123 : decode cX8_copy 123 = .ok (.iconst 1, 1) := by decide +kernel
theorem dX8_copy_124 : decode cX8_copy 124 = .ok (.ireturn, 1) := by decide +kernel
theorem dX8_write_0 : decode cX8_write 0 = .ok (.iload_n 1, 1) := by decide +kernel
theorem dX8_write_1 : decode cX8_write 1 = .ok (.invokestatic 149, 3) := by decide +kernel
theorem dX8_write_4 : decode cX8_write 4 = .ok (.ifCond .eq 11, 3) := by decide +kernel
theorem dX8_write_7 : decode cX8_write 7 = .ok (.iload_n 2, 1) := by decide +kernel
theorem dX8_write_8 : decode cX8_write 8 = .ok (.iconst 3, 1) := by decide +kernel
theorem dX8_write_9 : decode cX8_write 9 = .ok (.invokestatic 90, 3) := by decide +kernel
theorem dX8_write_12 : decode cX8_write 12 = .ok (.ifCond .ne 6, 3) := by decide +kernel
theorem dX8_write_15 : decode cX8_write 15 = .ok (.bipush (-2), 2) := by decide +kernel
theorem dX8_write_17 : decode cX8_write 17 = .ok (.ireturn, 1) := by decide +kernel
theorem dX8_write_18 : decode cX8_write 18 = .ok (.aload_n 0, 1) := by decide +kernel
theorem dX8_write_19 : decode cX8_write 19 = .ok (.getfield 77, 3) := by decide +kernel
theorem dX8_write_22 : decode cX8_write 22 = .ok (.iload_n 2, 1) := by decide +kernel
theorem dX8_write_23 : decode cX8_write 23 = .ok (.aaload, 1) := by decide +kernel
theorem dX8_write_24 : decode cX8_write 24 = .ok (.astore_n 3, 1) := by decide +kernel
theorem dX8_write_25 : decode cX8_write 25 = .ok (.aload_n 3, 1) := by decide +kernel
theorem dX8_write_26 : decode cX8_write 26 = .ok (.getfield 136, 3) := by decide +kernel
theorem dX8_write_29 : decode cX8_write 29 = .ok (.ifCond .eq 9, 3) := by decide +kernel
theorem dX8_write_32 : decode cX8_write 32 = .ok (.aload_n 0, 1) := by decide +kernel
theorem dX8_write_33 : decode cX8_write 33 = .ok (.iconst 1, 1) := by decide +kernel
theorem dX8_write_34 : decode cX8_write 34 = .ok (.invokevirtual 139, 3) := by decide +kernel
theorem dX8_write_37 : decode cX8_write 37 = .ok (.ireturn, 1) := by decide +kernel
theorem dX8_write_38 : decode cX8_write 38 = .ok (.aload_n 0, 1) := by decide +kernel
theorem dX8_write_39 : decode cX8_write 39 = .ok (.invokevirtual 159, 3) := by decide +kernel
theorem dX8_write_42 : decode cX8_write 42 = .ok (.astore 4, 2) := by decide +kernel
theorem dX8_write_44 : decode cX8_write 44 = .ok (.aload_n 3, 1) := by decide +kernel
theorem dX8_write_45 : decode cX8_write 45 = .ok (.getfield 143, 3) := by decide +kernel
theorem dX8_write_48 : decode cX8_write 48 = .ok (.bipush 25, 2) := by decide +kernel
theorem dX8_write_50 : decode cX8_write 50 = .ok (.invokestatic 334, 3) := by decide +kernel
theorem dX8_write_53 : decode cX8_write 53 = .ok (.istore 5, 2) := by decide +kernel
theorem dX8_write_55 : decode cX8_write 55 = .ok (.iconst 0, 1) := by decide +kernel
theorem dX8_write_56 : decode cX8_write 56 = .ok (.istore 6, 2) := by decide +kernel
theorem dX8_write_58 : decode cX8_write 58 = .ok (.iload 6, 2) := by decide +kernel
theorem dX8_write_60 : decode cX8_write 60 = .ok (.iload 5, 2) := by decide +kernel
theorem dX8_write_62 : decode cX8_write 62 = .ok (.if_icmp .ge 23, 3) := by decide +kernel
theorem dX8_write_65 : decode cX8_write 65 = .ok (.aload_n 3, 1) := by decide +kernel
theorem dX8_write_66 : decode cX8_write 66 = .ok (.iload 6, 2) := by decide +kernel
theorem dX8_write_68 : decode cX8_write 68 = .ok (.aload 4, 2) := by decide +kernel
theorem dX8_write_70 : decode cX8_write 70 = .ok (.iload_n 1, 1) := by decide +kernel
theorem dX8_write_71 : decode cX8_write 71 = .ok (.iload 6, 2) := by decide +kernel
theorem dX8_write_73 : decode cX8_write 73 = .ok (.invokevirtual 163, 3) := by decide +kernel
theorem dX8_write_76 : decode cX8_write 76 = .ok (.invokevirtual 318, 3) := by decide +kernel
theorem dX8_write_79 : decode cX8_write 79 = .ok (.iinc 6 1, 3) := by decide +kernel
theorem dX8_write_82 : decode cX8_write 82 = .ok (.goto (-24), 3) := by decide +kernel
theorem dX8_write_85 : decode cX8_write 85 = .ok (.iload 5, 2) := by decide +kernel
theorem dX8_write_87 : decode cX8_write 87 = .ok (.ireturn, 1) := by decide +kernel
theorem dX8_count_0 : decode cX8_count 0 = .ok (.iload_n 1, 1) := by decide +kernel
theorem dX8_count_1 : decode cX8_count 1 = .ok (.tableswitch 124 0 8 #[51, 59, 67, 77, 87, 95, 103, 111, 119], 51) := by decide +kernel
theorem dX8_count_52 : decode cX8_count 52 = .ok (.aload_n 0, 1) := by decide +kernel
theorem dX8_count_53 : decode cX8_count 53 = .ok (.getfield 21, 3) := by decide +kernel
theorem dX8_count_56 : decode cX8_count 56 = .ok (.getfield 108, 3) := by decide +kernel
theorem dX8_count_59 : decode cX8_count 59 = .ok (.ireturn, 1) := by decide +kernel
theorem dX8_count_60 : decode cX8_count 60 = .ok (.aload_n 0, 1) := by decide +kernel
theorem dX8_count_61 : decode cX8_count 61 = .ok (.getfield 28, 3) := by decide +kernel
theorem dX8_count_64 : decode cX8_count 64 = .ok (.getfield 179, 3) := by decide +kernel
theorem dX8_count_67 : decode cX8_count 67 = .ok (.ireturn, 1) := by decide +kernel
theorem dX8_count_68 : decode cX8_count 68 = .ok (.aload_n 0, 1) := by decide +kernel
theorem dX8_count_69 : decode cX8_count 69 = .ok (.getfield 11, 3) := by decide +kernel
theorem dX8_count_72 : decode cX8_count 72 = .ok (.iconst 0, 1) := by decide +kernel
theorem dX8_count_73 : decode cX8_count 73 = .ok (.aaload, 1) := by decide +kernel
theorem dX8_count_74 : decode cX8_count 74 = .ok (.getfield 101, 3) := by decide +kernel
theorem dX8_count_77 : decode cX8_count 77 = .ok (.ireturn, 1) := by decide +kernel
theorem dX8_count_78 : decode cX8_count 78 = .ok (.aload_n 0, 1) := by decide +kernel
theorem dX8_count_79 : decode cX8_count 79 = .ok (.getfield 11, 3) := by decide +kernel
theorem dX8_count_82 : decode cX8_count 82 = .ok (.iconst 1, 1) := by decide +kernel
theorem dX8_count_83 : decode cX8_count 83 = .ok (.aaload, 1) := by decide +kernel
theorem dX8_count_84 : decode cX8_count 84 = .ok (.getfield 101, 3) := by decide +kernel
theorem dX8_count_87 : decode cX8_count 87 = .ok (.ireturn, 1) := by decide +kernel
theorem dX8_count_88 : decode cX8_count 88 = .ok (.aload_n 0, 1) := by decide +kernel
theorem dX8_count_89 : decode cX8_count 89 = .ok (.getfield 35, 3) := by decide +kernel
theorem dX8_count_92 : decode cX8_count 92 = .ok (.getfield 133, 3) := by decide +kernel
theorem dX8_count_95 : decode cX8_count 95 = .ok (.ireturn, 1) := by decide +kernel
theorem dX8_count_96 : decode cX8_count 96 = .ok (.aload_n 0, 1) := by decide +kernel
theorem dX8_count_97 : decode cX8_count 97 = .ok (.getfield 39, 3) := by decide +kernel
theorem dX8_count_100 : decode cX8_count 100 = .ok (.getfield 133, 3) := by decide +kernel
theorem dX8_count_103 : decode cX8_count 103 = .ok (.ireturn, 1) := by decide +kernel
theorem dX8_count_104 : decode cX8_count 104 = .ok (.aload_n 0, 1) := by decide +kernel
theorem dX8_count_105 : decode cX8_count 105 = .ok (.getfield 21, 3) := by decide +kernel
theorem dX8_count_108 : decode cX8_count 108 = .ok (.getfield 170, 3) := by decide +kernel
theorem dX8_count_111 : decode cX8_count 111 = .ok (.ireturn, 1) := by decide +kernel
theorem dX8_count_112 : decode cX8_count 112 = .ok (.aload_n 0, 1) := by decide +kernel
theorem dX8_count_113 : decode cX8_count 113 = .ok (.getfield 42, 3) := by decide +kernel
theorem dX8_count_116 : decode cX8_count 116 = .ok (.getfield 133, 3) := by decide +kernel
theorem dX8_count_119 : decode cX8_count 119 = .ok (.ireturn, 1) := by decide +kernel
theorem dX8_count_120 : decode cX8_count 120 = .ok (.aload_n 0, 1) := by decide +kernel
theorem dX8_count_121 : decode cX8_count 121 = .ok (.getfield 86, 3) := by decide +kernel
theorem dX8_count_124 : decode cX8_count 124 = .ok (.ireturn, 1) := by decide +kernel
theorem dX8_count_125 : decode cX8_count 125 = .ok (.bipush (-2), 2) := by decide +kernel
theorem dX8_count_127 : decode cX8_count 127 = .ok (.ireturn, 1) := by decide +kernel
theorem dX8_digest_0 : decode cX8_digest 0 = .ok (.ldc2_w 337, 3) := by decide +kernel
theorem dX8_digest_3 : decode cX8_digest 3 = .ok (.lstore_n 1, 1) := by decide +kernel
theorem dX8_digest_4 : decode cX8_digest 4 = .ok (.iconst 0, 1) := by decide +kernel
theorem dX8_digest_5 : decode cX8_digest 5 = .ok (.istore_n 3, 1) := by decide +kernel
theorem dX8_digest_6 : decode cX8_digest 6 = .ok (.iload_n 3, 1) := by decide +kernel
theorem dX8_digest_7 : decode cX8_digest 7 = .ok (.bipush 8, 2) := by decide +kernel
theorem dX8_digest_9 : decode cX8_digest 9 = .ok (.if_icmp .ge 20, 3) := by decide +kernel
theorem dX8_digest_12 : decode cX8_digest 12 = .ok (.lload_n 1, 1) := by decide +kernel
theorem dX8_digest_13 : decode cX8_digest 13 = .ok (.aload_n 0, 1) := by decide +kernel
theorem dX8_digest_14 : decode cX8_digest 14 = .ok (.iload_n 3, 1) := by decide +kernel
theorem dX8_digest_15 : decode cX8_digest 15 = .ok (.invokevirtual 339, 3) := by decide +kernel
theorem dX8_digest_18 : decode cX8_digest 18 = .ok (.i2l, 1) := by decide +kernel
theorem dX8_digest_19 : decode cX8_digest 19 = .ok (.invokestatic 342, 3) := by decide +kernel
theorem dX8_digest_22 : decode cX8_digest 22 = .ok (.lstore_n 1, 1) := by decide +kernel
theorem dX8_digest_23 : decode cX8_digest 23 = .ok (.iinc 3 1, 3) := by decide +kernel
theorem dX8_digest_26 : decode cX8_digest 26 = .ok (.goto (-20), 3) := by decide +kernel
theorem dX8_digest_29 : decode cX8_digest 29 = .ok (.lload_n 1, 1) := by decide +kernel
theorem dX8_digest_30 : decode cX8_digest 30 = .ok (.aload_n 0, 1) := by decide +kernel
theorem dX8_digest_31 : decode cX8_digest 31 = .ok (.iconst 0, 1) := by decide +kernel
theorem dX8_digest_32 : decode cX8_digest 32 = .ok (.invokevirtual 346, 3) := by decide +kernel
theorem dX8_digest_35 : decode cX8_digest 35 = .ok (.i2l, 1) := by decide +kernel
theorem dX8_digest_36 : decode cX8_digest 36 = .ok (.invokestatic 342, 3) := by decide +kernel
theorem dX8_digest_39 : decode cX8_digest 39 = .ok (.aload_n 0, 1) := by decide +kernel
theorem dX8_digest_40 : decode cX8_digest 40 = .ok (.iconst 1, 1) := by decide +kernel
theorem dX8_digest_41 : decode cX8_digest 41 = .ok (.invokevirtual 346, 3) := by decide +kernel
theorem dX8_digest_44 : decode cX8_digest 44 = .ok (.i2l, 1) := by decide +kernel
theorem dX8_digest_45 : decode cX8_digest 45 = .ok (.invokestatic 342, 3) := by decide +kernel
theorem dX8_digest_48 : decode cX8_digest 48 = .ok (.lstore_n 1, 1) := by decide +kernel
theorem dX8_digest_49 : decode cX8_digest 49 = .ok (.iconst 0, 1) := by decide +kernel
theorem dX8_digest_50 : decode cX8_digest 50 = .ok (.istore_n 3, 1) := by decide +kernel
theorem dX8_digest_51 : decode cX8_digest 51 = .ok (.iload_n 3, 1) := by decide +kernel
theorem dX8_digest_52 : decode cX8_digest 52 = .ok (.aload_n 0, 1) := by decide +kernel
theorem dX8_digest_53 : decode cX8_digest 53 = .ok (.getfield 21, 3) := by decide +kernel
theorem dX8_digest_56 : decode cX8_digest 56 = .ok (.getfield 108, 3) := by decide +kernel
theorem dX8_digest_59 : decode cX8_digest 59 = .ok (.if_icmp .ge 41, 3) := by decide +kernel
theorem dX8_digest_62 : decode cX8_digest 62 = .ok (.lload_n 1, 1) := by decide +kernel
theorem dX8_digest_63 : decode cX8_digest 63 = .ok (.aload_n 0, 1) := by decide +kernel
theorem dX8_digest_64 : decode cX8_digest 64 = .ok (.iload_n 3, 1) := by decide +kernel
theorem dX8_digest_65 : decode cX8_digest 65 = .ok (.invokevirtual 349, 3) := by decide +kernel
theorem dX8_digest_68 : decode cX8_digest 68 = .ok (.i2l, 1) := by decide +kernel
theorem dX8_digest_69 : decode cX8_digest 69 = .ok (.invokestatic 342, 3) := by decide +kernel
theorem dX8_digest_72 : decode cX8_digest 72 = .ok (.aload_n 0, 1) := by decide +kernel
theorem dX8_digest_73 : decode cX8_digest 73 = .ok (.iconst 0, 1) := by decide +kernel
theorem dX8_digest_74 : decode cX8_digest 74 = .ok (.iload_n 3, 1) := by decide +kernel
theorem dX8_digest_75 : decode cX8_digest 75 = .ok (.invokevirtual 352, 3) := by decide +kernel
theorem dX8_digest_78 : decode cX8_digest 78 = .ok (.i2l, 1) := by decide +kernel
theorem dX8_digest_79 : decode cX8_digest 79 = .ok (.invokestatic 342, 3) := by decide +kernel
theorem dX8_digest_82 : decode cX8_digest 82 = .ok (.aload_n 0, 1) := by decide +kernel
theorem dX8_digest_83 : decode cX8_digest 83 = .ok (.bipush 9, 2) := by decide +kernel
theorem dX8_digest_85 : decode cX8_digest 85 = .ok (.iload_n 3, 1) := by decide +kernel
theorem dX8_digest_86 : decode cX8_digest 86 = .ok (.invokevirtual 352, 3) := by decide +kernel
theorem dX8_digest_89 : decode cX8_digest 89 = .ok (.i2l, 1) := by decide +kernel
theorem dX8_digest_90 : decode cX8_digest 90 = .ok (.invokestatic 342, 3) := by decide +kernel
theorem dX8_digest_93 : decode cX8_digest 93 = .ok (.lstore_n 1, 1) := by decide +kernel
theorem dX8_digest_94 : decode cX8_digest 94 = .ok (.iinc 3 1, 3) := by decide +kernel
theorem dX8_digest_97 : decode cX8_digest 97 = .ok (.goto (-46), 3) := by decide +kernel
theorem dX8_digest_100 : decode cX8_digest 100 = .ok (.aload_n 0, 1) := by decide +kernel
theorem dX8_digest_101 : decode cX8_digest 101 = .ok (.iconst 5, 1) := by decide +kernel
theorem dX8_digest_102 : decode cX8_digest 102 = .ok (.iconst 4, 1) := by decide +kernel
theorem dX8_digest_103 : decode cX8_digest 103 = .ok (.iconst 0, 1) := by decide +kernel
theorem dX8_digest_104 : decode cX8_digest 104 = .ok (.invokevirtual 239, 3) := by decide +kernel
theorem dX8_digest_107 : decode cX8_digest 107 = .ok (.iconst 0, 1) := by decide +kernel
theorem dX8_digest_108 : decode cX8_digest 108 = .ok (.istore_n 3, 1) := by decide +kernel
theorem dX8_digest_109 : decode cX8_digest 109 = .ok (.iload_n 3, 1) := by decide +kernel
theorem dX8_digest_110 : decode cX8_digest 110 = .ok (.aload_n 0, 1) := by decide +kernel
theorem dX8_digest_111 : decode cX8_digest 111 = .ok (.getfield 28, 3) := by decide +kernel
theorem dX8_digest_114 : decode cX8_digest 114 = .ok (.getfield 179, 3) := by decide +kernel
theorem dX8_digest_117 : decode cX8_digest 117 = .ok (.if_icmp .ge 16, 3) := by decide +kernel
theorem dX8_digest_120 : decode cX8_digest 120 = .ok (.aload_n 0, 1) := by decide +kernel
theorem dX8_digest_121 : decode cX8_digest 121 = .ok (.lload_n 1, 1) := by decide +kernel
theorem dX8_digest_122 : decode cX8_digest 122 = .ok (.iload_n 3, 1) := by decide +kernel
theorem dX8_digest_123 : decode cX8_digest 123 = .ok (.invokevirtual 355, 3) := by decide +kernel
theorem dX8_digest_126 : decode cX8_digest 126 = .ok (.lstore_n 1, 1) := by decide +kernel
theorem dX8_digest_127 : decode cX8_digest 127 = .ok (.iinc 3 1, 3) := by decide +kernel
theorem dX8_digest_130 : decode cX8_digest 130 = .ok (.goto (-21), 3) := by decide +kernel
theorem dX8_digest_133 : decode cX8_digest 133 = .ok (.aload_n 0, 1) := by decide +kernel
theorem dX8_digest_134 : decode cX8_digest 134 = .ok (.aload_n 0, 1) := by decide +kernel
theorem dX8_digest_135 : decode cX8_digest 135 = .ok (.aload_n 0, 1) := by decide +kernel
theorem dX8_digest_136 : decode cX8_digest 136 = .ok (.lload_n 1, 1) := by decide +kernel
theorem dX8_digest_137 : decode cX8_digest 137 = .ok (.iconst 0, 1) := by decide +kernel
theorem dX8_digest_138 : decode cX8_digest 138 = .ok (.invokevirtual 358, 3) := by decide +kernel
theorem dX8_digest_141 : decode cX8_digest 141 = .ok (.iconst 3, 1) := by decide +kernel
theorem dX8_digest_142 : decode cX8_digest 142 = .ok (.invokevirtual 358, 3) := by decide +kernel
theorem dX8_digest_145 : decode cX8_digest 145 = .ok (.bipush 9, 2) := by decide +kernel
theorem dX8_digest_147 : decode cX8_digest 147 = .ok (.invokevirtual 358, 3) := by decide +kernel
theorem dX8_digest_150 : decode cX8_digest 150 = .ok (.lstore_n 1, 1) := by decide +kernel
theorem dX8_digest_151 : decode cX8_digest 151 = .ok (.lload_n 1, 1) := by decide +kernel
theorem dX8_digest_152 : decode cX8_digest 152 = .ok (.aload_n 0, 1) := by decide +kernel
theorem dX8_digest_153 : decode cX8_digest 153 = .ok (.iconst 0, 1) := by decide +kernel
theorem dX8_digest_154 : decode cX8_digest 154 = .ok (.invokevirtual 361, 3) := by decide +kernel
theorem dX8_digest_157 : decode cX8_digest 157 = .ok (.i2l, 1) := by decide +kernel
theorem dX8_digest_158 : decode cX8_digest 158 = .ok (.invokestatic 342, 3) := by decide +kernel
theorem dX8_digest_161 : decode cX8_digest 161 = .ok (.aload_n 0, 1) := by decide +kernel
theorem dX8_digest_162 : decode cX8_digest 162 = .ok (.iconst 1, 1) := by decide +kernel
theorem dX8_digest_163 : decode cX8_digest 163 = .ok (.invokevirtual 361, 3) := by decide +kernel
theorem dX8_digest_166 : decode cX8_digest 166 = .ok (.i2l, 1) := by decide +kernel
theorem dX8_digest_167 : decode cX8_digest 167 = .ok (.invokestatic 342, 3) := by decide +kernel
theorem dX8_digest_170 : decode cX8_digest 170 = .ok (.lstore_n 1, 1) := by decide +kernel
theorem dX8_digest_171 : decode cX8_digest 171 = .ok (.lload_n 1, 1) := by decide +kernel
theorem dX8_digest_172 : decode cX8_digest 172 = .ok (.aload_n 0, 1) := by decide +kernel
theorem dX8_digest_173 : decode cX8_digest 173 = .ok (.iconst 0, 1) := by decide +kernel
theorem dX8_digest_174 : decode cX8_digest 174 = .ok (.iconst 0, 1) := by decide +kernel
theorem dX8_digest_175 : decode cX8_digest 175 = .ok (.invokevirtual 364, 3) := by decide +kernel
theorem dX8_digest_178 : decode cX8_digest 178 = .ok (.i2l, 1) := by decide +kernel
theorem dX8_digest_179 : decode cX8_digest 179 = .ok (.invokestatic 342, 3) := by decide +kernel
theorem dX8_digest_182 : decode cX8_digest 182 = .ok (.aload_n 0, 1) := by decide +kernel
theorem dX8_digest_183 : decode cX8_digest 183 = .ok (.iconst 0, 1) := by decide +kernel
theorem dX8_digest_184 : decode cX8_digest 184 = .ok (.iconst 1, 1) := by decide +kernel
theorem dX8_digest_185 : decode cX8_digest 185 = .ok (.invokevirtual 364, 3) := by decide +kernel
theorem dX8_digest_188 : decode cX8_digest 188 = .ok (.i2l, 1) := by decide +kernel
theorem dX8_digest_189 : decode cX8_digest 189 = .ok (.invokestatic 342, 3) := by decide +kernel
theorem dX8_digest_192 : decode cX8_digest 192 = .ok (.lstore_n 1, 1) := by decide +kernel
theorem dX8_digest_193 : decode cX8_digest 193 = .ok (.lload_n 1, 1) := by decide +kernel
theorem dX8_digest_194 : decode cX8_digest 194 = .ok (.aload_n 0, 1) := by decide +kernel
theorem dX8_digest_195 : decode cX8_digest 195 = .ok (.iconst 1, 1) := by decide +kernel
theorem dX8_digest_196 : decode cX8_digest 196 = .ok (.iconst 0, 1) := by decide +kernel
theorem dX8_digest_197 : decode cX8_digest 197 = .ok (.invokevirtual 364, 3) := by decide +kernel
theorem dX8_digest_200 : decode cX8_digest 200 = .ok (.i2l, 1) := by decide +kernel
theorem dX8_digest_201 : decode cX8_digest 201 = .ok (.invokestatic 342, 3) := by decide +kernel
theorem dX8_digest_204 : decode cX8_digest 204 = .ok (.aload_n 0, 1) := by decide +kernel
theorem dX8_digest_205 : decode cX8_digest 205 = .ok (.iconst 1, 1) := by decide +kernel
theorem dX8_digest_206 : decode cX8_digest 206 = .ok (.iconst 1, 1) := by decide +kernel
theorem dX8_digest_207 : decode cX8_digest 207 = .ok (.invokevirtual 364, 3) := by decide +kernel
theorem dX8_digest_210 : decode cX8_digest 210 = .ok (.i2l, 1) := by decide +kernel
theorem dX8_digest_211 : decode cX8_digest 211 = .ok (.invokestatic 342, 3) := by decide +kernel
theorem dX8_digest_214 : decode cX8_digest 214 = .ok (.lstore_n 1, 1) := by decide +kernel
theorem dX8_digest_215 : decode cX8_digest 215 = .ok (.lload_n 1, 1) := by decide +kernel
theorem dX8_digest_216 : decode cX8_digest 216 = .ok (.aload_n 0, 1) := by decide +kernel
theorem dX8_digest_217 : decode cX8_digest 217 = .ok (.invokevirtual 367, 3) := by decide +kernel
theorem dX8_digest_220 : decode cX8_digest 220 = .ok (.i2l, 1) := by decide +kernel
theorem dX8_digest_221 : decode cX8_digest 221 = .ok (.invokestatic 342, 3) := by decide +kernel
theorem dX8_digest_224 : decode cX8_digest 224 = .ok (.aload_n 0, 1) := by decide +kernel
theorem dX8_digest_225 : decode cX8_digest 225 = .ok (.invokevirtual 370, 3) := by decide +kernel
theorem dX8_digest_228 : decode cX8_digest 228 = .ok (.i2l, 1) := by decide +kernel
theorem dX8_digest_229 : decode cX8_digest 229 = .ok (.invokestatic 342, 3) := by decide +kernel
theorem dX8_digest_232 : decode cX8_digest 232 = .ok (.lstore_n 1, 1) := by decide +kernel
theorem dX8_digest_233 : decode cX8_digest 233 = .ok (.lload_n 1, 1) := by decide +kernel
theorem dX8_digest_234 : decode cX8_digest 234 = .ok (.aload_n 0, 1) := by decide +kernel
theorem dX8_digest_235 : decode cX8_digest 235 = .ok (.bipush 7, 2) := by decide +kernel
theorem dX8_digest_237 : decode cX8_digest 237 = .ok (.bipush 20, 2) := by decide +kernel
theorem dX8_digest_239 : decode cX8_digest 239 = .ok (.iconst 0, 1) := by decide +kernel
theorem dX8_digest_240 : decode cX8_digest 240 = .ok (.invokevirtual 373, 3) := by decide +kernel
theorem dX8_digest_243 : decode cX8_digest 243 = .ok (.i2l, 1) := by decide +kernel
theorem dX8_digest_244 : decode cX8_digest 244 = .ok (.invokestatic 342, 3) := by decide +kernel
theorem dX8_digest_247 : decode cX8_digest 247 = .ok (.aload_n 0, 1) := by decide +kernel
theorem dX8_digest_248 : decode cX8_digest 248 = .ok (.bipush 7, 2) := by decide +kernel
theorem dX8_digest_250 : decode cX8_digest 250 = .ok (.bipush 20, 2) := by decide +kernel
theorem dX8_digest_252 : decode cX8_digest 252 = .ok (.iconst 1, 1) := by decide +kernel
theorem dX8_digest_253 : decode cX8_digest 253 = .ok (.invokevirtual 373, 3) := by decide +kernel
theorem dX8_digest_256 : decode cX8_digest 256 = .ok (.i2l, 1) := by decide +kernel
theorem dX8_digest_257 : decode cX8_digest 257 = .ok (.invokestatic 342, 3) := by decide +kernel
theorem dX8_digest_260 : decode cX8_digest 260 = .ok (.lreturn, 1) := by decide +kernel
theorem dX8_mixHouse_0 : decode cX8_mixHouse 0 = .ok (.lload_n 1, 1) := by decide +kernel
theorem dX8_mixHouse_1 : decode cX8_mixHouse 1 = .ok (.aload_n 0, 1) := by decide +kernel
theorem dX8_mixHouse_2 : decode cX8_mixHouse 2 = .ok (.iload_n 3, 1) := by decide +kernel
theorem dX8_mixHouse_3 : decode cX8_mixHouse 3 = .ok (.iconst 0, 1) := by decide +kernel
theorem dX8_mixHouse_4 : decode cX8_mixHouse 4 = .ok (.invokevirtual 377, 3) := by decide +kernel
theorem dX8_mixHouse_7 : decode cX8_mixHouse 7 = .ok (.i2l, 1) := by decide +kernel
theorem dX8_mixHouse_8 : decode cX8_mixHouse 8 = .ok (.invokestatic 342, 3) := by decide +kernel
theorem dX8_mixHouse_11 : decode cX8_mixHouse 11 = .ok (.aload_n 0, 1) := by decide +kernel
theorem dX8_mixHouse_12 : decode cX8_mixHouse 12 = .ok (.iload_n 3, 1) := by decide +kernel
theorem dX8_mixHouse_13 : decode cX8_mixHouse 13 = .ok (.iconst 1, 1) := by decide +kernel
theorem dX8_mixHouse_14 : decode cX8_mixHouse 14 = .ok (.invokevirtual 377, 3) := by decide +kernel
theorem dX8_mixHouse_17 : decode cX8_mixHouse 17 = .ok (.i2l, 1) := by decide +kernel
theorem dX8_mixHouse_18 : decode cX8_mixHouse 18 = .ok (.invokestatic 342, 3) := by decide +kernel
theorem dX8_mixHouse_21 : decode cX8_mixHouse 21 = .ok (.lstore 4, 2) := by decide +kernel
theorem dX8_mixHouse_23 : decode cX8_mixHouse 23 = .ok (.lload 4, 2) := by decide +kernel
theorem dX8_mixHouse_25 : decode cX8_mixHouse 25 = .ok (.aload_n 0, 1) := by decide +kernel
theorem dX8_mixHouse_26 : decode cX8_mixHouse 26 = .ok (.iconst 0, 1) := by decide +kernel
theorem dX8_mixHouse_27 : decode cX8_mixHouse 27 = .ok (.iload_n 3, 1) := by decide +kernel
theorem dX8_mixHouse_28 : decode cX8_mixHouse 28 = .ok (.invokevirtual 380, 3) := by decide +kernel
theorem dX8_mixHouse_31 : decode cX8_mixHouse 31 = .ok (.i2l, 1) := by decide +kernel
theorem dX8_mixHouse_32 : decode cX8_mixHouse 32 = .ok (.invokestatic 342, 3) := by decide +kernel
theorem dX8_mixHouse_35 : decode cX8_mixHouse 35 = .ok (.aload_n 0, 1) := by decide +kernel
theorem dX8_mixHouse_36 : decode cX8_mixHouse 36 = .ok (.bipush 9, 2) := by decide +kernel
theorem dX8_mixHouse_38 : decode cX8_mixHouse 38 = .ok (.iload_n 3, 1) := by decide +kernel
theorem dX8_mixHouse_39 : decode cX8_mixHouse 39 = .ok (.invokevirtual 380, 3) := by decide +kernel
theorem dX8_mixHouse_42 : decode cX8_mixHouse 42 = .ok (.i2l, 1) := by decide +kernel
theorem dX8_mixHouse_43 : decode cX8_mixHouse 43 = .ok (.invokestatic 342, 3) := by decide +kernel
theorem dX8_mixHouse_46 : decode cX8_mixHouse 46 = .ok (.lstore 4, 2) := by decide +kernel
theorem dX8_mixHouse_48 : decode cX8_mixHouse 48 = .ok (.lload 4, 2) := by decide +kernel
theorem dX8_mixHouse_50 : decode cX8_mixHouse 50 = .ok (.aload_n 0, 1) := by decide +kernel
theorem dX8_mixHouse_51 : decode cX8_mixHouse 51 = .ok (.iload_n 3, 1) := by decide +kernel
theorem dX8_mixHouse_52 : decode cX8_mixHouse 52 = .ok (.invokevirtual 383, 3) := by decide +kernel
theorem dX8_mixHouse_55 : decode cX8_mixHouse 55 = .ok (.i2l, 1) := by decide +kernel
theorem dX8_mixHouse_56 : decode cX8_mixHouse 56 = .ok (.invokestatic 342, 3) := by decide +kernel
theorem dX8_mixHouse_59 : decode cX8_mixHouse 59 = .ok (.lstore 4, 2) := by decide +kernel
theorem dX8_mixHouse_61 : decode cX8_mixHouse 61 = .ok (.aload_n 0, 1) := by decide +kernel
theorem dX8_mixHouse_62 : decode cX8_mixHouse 62 = .ok (.iconst 3, 1) := by decide +kernel
theorem dX8_mixHouse_63 : decode cX8_mixHouse 63 = .ok (.iload_n 3, 1) := by decide +kernel
theorem dX8_mixHouse_64 : decode cX8_mixHouse 64 = .ok (.iconst 0, 1) := by decide +kernel
theorem dX8_mixHouse_65 : decode cX8_mixHouse 65 = .ok (.invokevirtual 186, 3) := by decide +kernel
theorem dX8_mixHouse_68 : decode cX8_mixHouse 68 = .ok (.lload 4, 2) := by decide +kernel
theorem dX8_mixHouse_70 : decode cX8_mixHouse 70 = .ok (.aload_n 0, 1) := by decide +kernel
theorem dX8_mixHouse_71 : decode cX8_mixHouse 71 = .ok (.getfield 60, 3) := by decide +kernel
theorem dX8_mixHouse_74 : decode cX8_mixHouse 74 = .ok (.iconst (-1), 1) := by decide +kernel
theorem dX8_mixHouse_75 : decode cX8_mixHouse 75 = .ok (.invokevirtual 190, 3) := by decide +kernel
theorem dX8_mixHouse_78 : decode cX8_mixHouse 78 = .ok (.i2l, 1) := by decide +kernel
theorem dX8_mixHouse_79 : decode cX8_mixHouse 79 = .ok (.invokestatic 342, 3) := by decide +kernel
theorem dX8_mixHouse_82 : decode cX8_mixHouse 82 = .ok (.aload_n 0, 1) := by decide +kernel
theorem dX8_mixHouse_83 : decode cX8_mixHouse 83 = .ok (.getfield 60, 3) := by decide +kernel
theorem dX8_mixHouse_86 : decode cX8_mixHouse 86 = .ok (.iconst 0, 1) := by decide +kernel
theorem dX8_mixHouse_87 : decode cX8_mixHouse 87 = .ok (.invokevirtual 190, 3) := by decide +kernel
theorem dX8_mixHouse_90 : decode cX8_mixHouse 90 = .ok (.i2l, 1) := by decide +kernel
theorem dX8_mixHouse_91 : decode cX8_mixHouse 91 = .ok (.invokestatic 342, 3) := by decide +kernel
theorem dX8_mixHouse_94 : decode cX8_mixHouse 94 = .ok (.lstore 4, 2) := by decide +kernel
theorem dX8_mixHouse_96 : decode cX8_mixHouse 96 = .ok (.lload 4, 2) := by decide +kernel
theorem dX8_mixHouse_98 : decode cX8_mixHouse 98 = .ok (.aload_n 0, 1) := by decide +kernel
theorem dX8_mixHouse_99 : decode cX8_mixHouse 99 = .ok (.iconst 3, 1) := by decide +kernel
theorem dX8_mixHouse_100 : decode cX8_mixHouse 100 = .ok (.iload_n 3, 1) := by decide +kernel
theorem dX8_mixHouse_101 : decode cX8_mixHouse 101 = .ok (.iconst 1, 1) := by decide +kernel
theorem dX8_mixHouse_102 : decode cX8_mixHouse 102 = .ok (.invokevirtual 386, 3) := by decide +kernel
theorem dX8_mixHouse_105 : decode cX8_mixHouse 105 = .ok (.i2l, 1) := by decide +kernel
theorem dX8_mixHouse_106 : decode cX8_mixHouse 106 = .ok (.invokestatic 342, 3) := by decide +kernel
theorem dX8_mixHouse_109 : decode cX8_mixHouse 109 = .ok (.lstore 4, 2) := by decide +kernel
theorem dX8_mixHouse_111 : decode cX8_mixHouse 111 = .ok (.aload_n 0, 1) := by decide +kernel
theorem dX8_mixHouse_112 : decode cX8_mixHouse 112 = .ok (.getfield 67, 3) := by decide +kernel
theorem dX8_mixHouse_115 : decode cX8_mixHouse 115 = .ok (.iload_n 3, 1) := by decide +kernel
theorem dX8_mixHouse_116 : decode cX8_mixHouse 116 = .ok (.invokevirtual 242, 3) := by decide +kernel
theorem dX8_mixHouse_119 : decode cX8_mixHouse 119 = .ok (.lload 4, 2) := by decide +kernel
theorem dX8_mixHouse_121 : decode cX8_mixHouse 121 = .ok (.aload_n 0, 1) := by decide +kernel
theorem dX8_mixHouse_122 : decode cX8_mixHouse 122 = .ok (.getfield 67, 3) := by decide +kernel
theorem dX8_mixHouse_125 : decode cX8_mixHouse 125 = .ok (.getfield 245, 3) := by decide +kernel
theorem dX8_mixHouse_128 : decode cX8_mixHouse 128 = .ok (.invokestatic 342, 3) := by decide +kernel
theorem dX8_mixHouse_131 : decode cX8_mixHouse 131 = .ok (.aload_n 0, 1) := by decide +kernel
theorem dX8_mixHouse_132 : decode cX8_mixHouse 132 = .ok (.getfield 67, 3) := by decide +kernel
theorem dX8_mixHouse_135 : decode cX8_mixHouse 135 = .ok (.getfield 249, 3) := by decide +kernel
theorem dX8_mixHouse_138 : decode cX8_mixHouse 138 = .ok (.invokestatic 342, 3) := by decide +kernel
theorem dX8_mixHouse_141 : decode cX8_mixHouse 141 = .ok (.lreturn, 1) := by decide +kernel
theorem dX8_mixNight_0 : decode cX8_mixNight 0 = .ok (.lload_n 1, 1) := by decide +kernel
theorem dX8_mixNight_1 : decode cX8_mixNight 1 = .ok (.aload_n 0, 1) := by decide +kernel
theorem dX8_mixNight_2 : decode cX8_mixNight 2 = .ok (.iload_n 3, 1) := by decide +kernel
theorem dX8_mixNight_3 : decode cX8_mixNight 3 = .ok (.iconst 3, 1) := by decide +kernel
theorem dX8_mixNight_4 : decode cX8_mixNight 4 = .ok (.invokevirtual 389, 3) := by decide +kernel
theorem dX8_mixNight_7 : decode cX8_mixNight 7 = .ok (.i2l, 1) := by decide +kernel
theorem dX8_mixNight_8 : decode cX8_mixNight 8 = .ok (.invokestatic 342, 3) := by decide +kernel
theorem dX8_mixNight_11 : decode cX8_mixNight 11 = .ok (.aload_n 0, 1) := by decide +kernel
theorem dX8_mixNight_12 : decode cX8_mixNight 12 = .ok (.iload_n 3, 1) := by decide +kernel
theorem dX8_mixNight_13 : decode cX8_mixNight 13 = .ok (.bipush 24, 2) := by decide +kernel
theorem dX8_mixNight_15 : decode cX8_mixNight 15 = .ok (.invokevirtual 389, 3) := by decide +kernel
theorem dX8_mixNight_18 : decode cX8_mixNight 18 = .ok (.i2l, 1) := by decide +kernel
theorem dX8_mixNight_19 : decode cX8_mixNight 19 = .ok (.invokestatic 342, 3) := by decide +kernel
theorem dX8_mixNight_22 : decode cX8_mixNight 22 = .ok (.lstore 4, 2) := by decide +kernel
theorem dX8_mixNight_24 : decode cX8_mixNight 24 = .ok (.lload 4, 2) := by decide +kernel
theorem dX8_mixNight_26 : decode cX8_mixNight 26 = .ok (.aload_n 0, 1) := by decide +kernel
theorem dX8_mixNight_27 : decode cX8_mixNight 27 = .ok (.iload_n 3, 1) := by decide +kernel
theorem dX8_mixNight_28 : decode cX8_mixNight 28 = .ok (.invokevirtual 392, 3) := by decide +kernel
theorem dX8_mixNight_31 : decode cX8_mixNight 31 = .ok (.i2l, 1) := by decide +kernel
theorem dX8_mixNight_32 : decode cX8_mixNight 32 = .ok (.invokestatic 342, 3) := by decide +kernel
theorem dX8_mixNight_35 : decode cX8_mixNight 35 = .ok (.aload_n 0, 1) := by decide +kernel
theorem dX8_mixNight_36 : decode cX8_mixNight 36 = .ok (.iload_n 3, 1) := by decide +kernel
theorem dX8_mixNight_37 : decode cX8_mixNight 37 = .ok (.invokevirtual 395, 3) := by decide +kernel
theorem dX8_mixNight_40 : decode cX8_mixNight 40 = .ok (.i2l, 1) := by decide +kernel
theorem dX8_mixNight_41 : decode cX8_mixNight 41 = .ok (.invokestatic 342, 3) := by decide +kernel
theorem dX8_mixNight_44 : decode cX8_mixNight 44 = .ok (.lstore 4, 2) := by decide +kernel
theorem dX8_mixNight_46 : decode cX8_mixNight 46 = .ok (.lload 4, 2) := by decide +kernel
theorem dX8_mixNight_48 : decode cX8_mixNight 48 = .ok (.aload_n 0, 1) := by decide +kernel
theorem dX8_mixNight_49 : decode cX8_mixNight 49 = .ok (.iload_n 3, 1) := by decide +kernel
theorem dX8_mixNight_50 : decode cX8_mixNight 50 = .ok (.iconst 0, 1) := by decide +kernel
theorem dX8_mixNight_51 : decode cX8_mixNight 51 = .ok (.invokevirtual 398, 3) := by decide +kernel
theorem dX8_mixNight_54 : decode cX8_mixNight 54 = .ok (.i2l, 1) := by decide +kernel
theorem dX8_mixNight_55 : decode cX8_mixNight 55 = .ok (.invokestatic 342, 3) := by decide +kernel
theorem dX8_mixNight_58 : decode cX8_mixNight 58 = .ok (.aload_n 0, 1) := by decide +kernel
theorem dX8_mixNight_59 : decode cX8_mixNight 59 = .ok (.iload_n 3, 1) := by decide +kernel
theorem dX8_mixNight_60 : decode cX8_mixNight 60 = .ok (.iconst 1, 1) := by decide +kernel
theorem dX8_mixNight_61 : decode cX8_mixNight 61 = .ok (.invokevirtual 398, 3) := by decide +kernel
theorem dX8_mixNight_64 : decode cX8_mixNight 64 = .ok (.i2l, 1) := by decide +kernel
theorem dX8_mixNight_65 : decode cX8_mixNight 65 = .ok (.invokestatic 342, 3) := by decide +kernel
theorem dX8_mixNight_68 : decode cX8_mixNight 68 = .ok (.lstore 4, 2) := by decide +kernel
theorem dX8_mixNight_70 : decode cX8_mixNight 70 = .ok (.iconst 0, 1) := by decide +kernel
theorem dX8_mixNight_71 : decode cX8_mixNight 71 = .ok (.istore 6, 2) := by decide +kernel
theorem dX8_mixNight_73 : decode cX8_mixNight 73 = .ok (.iload 6, 2) := by decide +kernel
theorem dX8_mixNight_75 : decode cX8_mixNight 75 = .ok (.aload_n 0, 1) := by decide +kernel
theorem dX8_mixNight_76 : decode cX8_mixNight 76 = .ok (.getfield 21, 3) := by decide +kernel
theorem dX8_mixNight_79 : decode cX8_mixNight 79 = .ok (.getfield 170, 3) := by decide +kernel
theorem dX8_mixNight_82 : decode cX8_mixNight 82 = .ok (.if_icmp .ge 24, 3) := by decide +kernel
theorem dX8_mixNight_85 : decode cX8_mixNight 85 = .ok (.lload 4, 2) := by decide +kernel
theorem dX8_mixNight_87 : decode cX8_mixNight 87 = .ok (.aload_n 0, 1) := by decide +kernel
theorem dX8_mixNight_88 : decode cX8_mixNight 88 = .ok (.iload_n 3, 1) := by decide +kernel
theorem dX8_mixNight_89 : decode cX8_mixNight 89 = .ok (.iload 6, 2) := by decide +kernel
theorem dX8_mixNight_91 : decode cX8_mixNight 91 = .ok (.invokevirtual 401, 3) := by decide +kernel
theorem dX8_mixNight_94 : decode cX8_mixNight 94 = .ok (.i2l, 1) := by decide +kernel
theorem dX8_mixNight_95 : decode cX8_mixNight 95 = .ok (.invokestatic 342, 3) := by decide +kernel
theorem dX8_mixNight_98 : decode cX8_mixNight 98 = .ok (.lstore 4, 2) := by decide +kernel
theorem dX8_mixNight_100 : decode cX8_mixNight 100 = .ok (.iinc 6 1, 3) := by decide +kernel
theorem dX8_mixNight_103 : decode cX8_mixNight 103 = .ok (.goto (-30), 3) := by decide +kernel
theorem dX8_mixNight_106 : decode cX8_mixNight 106 = .ok (.lload 4, 2) := by decide +kernel
theorem dX8_mixNight_108 : decode cX8_mixNight 108 = .ok (.lreturn, 1) := by decide +kernel
theorem dX8_found_0 : decode cX8_found 0 = .ok (.aload_n 0, 1) := by decide +kernel
theorem dX8_found_1 : decode cX8_found 1 = .ok (.iload_n 1, 1) := by decide +kernel
theorem dX8_found_2 : decode cX8_found 2 = .ok (.putfield 86, 3) := by decide +kernel
theorem dX8_found_5 : decode cX8_found 5 = .ok (.bipush (-10), 2) := by decide +kernel
theorem dX8_found_7 : decode cX8_found 7 = .ok (.iload_n 1, 1) := by decide +kernel
theorem dX8_found_8 : decode cX8_found 8 = .ok (.isub, 1) := by decide +kernel
theorem dX8_found_9 : decode cX8_found 9 = .ok (.ireturn, 1) := by decide +kernel
theorem dX8_isHouse_0 : decode cX8_isHouse 0 = .ok (.iload_n 1, 1) := by decide +kernel
theorem dX8_isHouse_1 : decode cX8_isHouse 1 = .ok (.aload_n 0, 1) := by decide +kernel
theorem dX8_isHouse_2 : decode cX8_isHouse 2 = .ok (.getfield 28, 3) := by decide +kernel
theorem dX8_isHouse_5 : decode cX8_isHouse 5 = .ok (.getfield 179, 3) := by decide +kernel
theorem dX8_isHouse_8 : decode cX8_isHouse 8 = .ok (.iconst 1, 1) := by decide +kernel
theorem dX8_isHouse_9 : decode cX8_isHouse 9 = .ok (.isub, 1) := by decide +kernel
theorem dX8_isHouse_10 : decode cX8_isHouse 10 = .ok (.invokestatic 90, 3) := by decide +kernel
theorem dX8_isHouse_13 : decode cX8_isHouse 13 = .ok (.ireturn, 1) := by decide +kernel
theorem dX8_isQuestion_0 : decode cX8_isQuestion 0 = .ok (.iload_n 1, 1) := by decide +kernel
theorem dX8_isQuestion_1 : decode cX8_isQuestion 1 = .ok (.invokestatic 149, 3) := by decide +kernel
theorem dX8_isQuestion_4 : decode cX8_isQuestion 4 = .ok (.ifCond .eq 23, 3) := by decide +kernel
theorem dX8_isQuestion_7 : decode cX8_isQuestion 7 = .ok (.aload_n 0, 1) := by decide +kernel
theorem dX8_isQuestion_8 : decode cX8_isQuestion 8 = .ok (.iload_n 2, 1) := by decide +kernel
theorem dX8_isQuestion_9 : decode cX8_isQuestion 9 = .ok (.invokevirtual 114, 3) := by decide +kernel
theorem dX8_isQuestion_12 : decode cX8_isQuestion 12 = .ok (.ifCond .eq 15, 3) := by decide +kernel
theorem dX8_isQuestion_15 : decode cX8_isQuestion 15 = .ok (.iload_n 3, 1) := by decide +kernel
theorem dX8_isQuestion_16 : decode cX8_isQuestion 16 = .ok (.iconst 2, 1) := by decide +kernel
theorem dX8_isQuestion_17 : decode cX8_isQuestion 17 = .ok (.invokestatic 90, 3) := by decide +kernel
theorem dX8_isQuestion_20 : decode cX8_isQuestion 20 = .ok (.ifCond .eq 7, 3) := by decide +kernel
theorem dX8_isQuestion_23 : decode cX8_isQuestion 23 = .ok (.iconst 1, 1) := by decide +kernel
theorem dX8_isQuestion_24 : decode cX8_isQuestion 24 = .ok (.goto 4, 3) := by decide +kernel
theorem dX8_isQuestion_27 : decode cX8_isQuestion 27 = .ok (.iconst 0, 1) := by decide +kernel
theorem dX8_isQuestion_28 : decode cX8_isQuestion 28 = .ok (.ireturn, 1) := by decide +kernel
theorem dX8_isNight_0 : decode cX8_isNight 0 = .ok (.iload_n 0, 1) := by decide +kernel
theorem dX8_isNight_1 : decode cX8_isNight 1 = .ok (.bipush 9, 2) := by decide +kernel
theorem dX8_isNight_3 : decode cX8_isNight 3 = .ok (.invokestatic 90, 3) := by decide +kernel
theorem dX8_isNight_6 : decode cX8_isNight 6 = .ok (.ireturn, 1) := by decide +kernel
theorem dX8_isUpTo_0 : decode cX8_isUpTo 0 = .ok (.iload_n 0, 1) := by decide +kernel
theorem dX8_isUpTo_1 : decode cX8_isUpTo 1 = .ok (.ifCond .lt 12, 3) := by decide +kernel
theorem dX8_isUpTo_4 : decode cX8_isUpTo 4 = .ok (.iload_n 0, 1) := by decide +kernel
theorem dX8_isUpTo_5 : decode cX8_isUpTo 5 = .ok (.iload_n 1, 1) := by decide +kernel
theorem dX8_isUpTo_6 : decode cX8_isUpTo 6 = .ok (.if_icmp .gt 7, 3) := by decide +kernel
theorem dX8_isUpTo_9 : decode cX8_isUpTo 9 = .ok (.iconst 1, 1) := by decide +kernel
theorem dX8_isUpTo_10 : decode cX8_isUpTo 10 = .ok (.goto 4, 3) := by decide +kernel
theorem dX8_isUpTo_13 : decode cX8_isUpTo 13 = .ok (.iconst 0, 1) := by decide +kernel
theorem dX8_isUpTo_14 : decode cX8_isUpTo 14 = .ok (.ireturn, 1) := by decide +kernel
theorem dX8_mix_0 : decode cX8_mix 0 = .ok (.ldc2_w 404, 3) := by decide +kernel
theorem dX8_mix_3 : decode cX8_mix 3 = .ok (.lload_n 0, 1) := by decide +kernel
theorem dX8_mix_4 : decode cX8_mix 4 = .ok (.lmul, 1) := by decide +kernel
theorem dX8_mix_5 : decode cX8_mix 5 = .ok (.lload_n 2, 1) := by decide +kernel
theorem dX8_mix_6 : decode cX8_mix 6 = .ok (.ladd, 1) := by decide +kernel
theorem dX8_mix_7 : decode cX8_mix 7 = .ok (.lreturn, 1) := by decide +kernel
theorem dX8_power_0 : decode cX8_power 0 = .ok (.lconst 1, 1) := by decide +kernel
theorem dX8_power_1 : decode cX8_power 1 = .ok (.lstore_n 3, 1) := by decide +kernel
theorem dX8_power_2 : decode cX8_power 2 = .ok (.iconst 0, 1) := by decide +kernel
theorem dX8_power_3 : decode cX8_power 3 = .ok (.istore 5, 2) := by decide +kernel
theorem dX8_power_5 : decode cX8_power 5 = .ok (.iload 5, 2) := by decide +kernel
theorem dX8_power_7 : decode cX8_power 7 = .ok (.iload_n 2, 1) := by decide +kernel
theorem dX8_power_8 : decode cX8_power 8 = .ok (.if_icmp .ge 13, 3) := by decide +kernel
theorem dX8_power_11 : decode cX8_power 11 = .ok (.lload_n 3, 1) := by decide +kernel
theorem dX8_power_12 : decode cX8_power 12 = .ok (.lload_n 0, 1) := by decide +kernel
theorem dX8_power_13 : decode cX8_power 13 = .ok (.lmul, 1) := by decide +kernel
theorem dX8_power_14 : decode cX8_power 14 = .ok (.lstore_n 3, 1) := by decide +kernel
theorem dX8_power_15 : decode cX8_power 15 = .ok (.iinc 5 1, 3) := by decide +kernel
theorem dX8_power_18 : decode cX8_power 18 = .ok (.goto (-13), 3) := by decide +kernel
theorem dX8_power_21 : decode cX8_power 21 = .ok (.lload_n 3, 1) := by decide +kernel
theorem dX8_power_22 : decode cX8_power 22 = .ok (.lreturn, 1) := by decide +kernel
theorem dX9_init_0 : decode cX9_init 0 = .ok (.aload_n 0, 1) := by decide +kernel
theorem dX9_init_1 : decode cX9_init 1 = .ok (.invokespecial 1, 3) := by decide +kernel
theorem dX9_init_4 : decode cX9_init 4 = .ok (.aload_n 0, 1) := by decide +kernel
theorem dX9_init_5 : decode cX9_init 5 = .ok (.iconst 4, 1) := by decide +kernel
theorem dX9_init_6 : decode cX9_init 6 = .ok (.newarray .int, 2) := by decide +kernel
theorem dX9_init_8 : decode cX9_init 8 = .ok (.putfield 7, 3) := by decide +kernel
theorem dX9_init_11 : decode cX9_init 11 = .ok (.aload_n 0, 1) := by decide +kernel
theorem dX9_init_12 : decode cX9_init 12 = .ok (.iconst 4, 1) := by decide +kernel
theorem dX9_init_13 : decode cX9_init 13 = .ok (.newarray .int, 2) := by decide +kernel
theorem dX9_init_15 : decode cX9_init 15 = .ok (.putfield 13, 3) := by decide +kernel
theorem dX9_init_18 : decode cX9_init 18 = .ok (.aload_n 0, 1) := by decide +kernel
theorem dX9_init_19 : decode cX9_init 19 = .ok (.sipush 240, 3) := by decide +kernel
theorem dX9_init_22 : decode cX9_init 22 = .ok (.newarray .int, 2) := by decide +kernel
theorem dX9_init_24 : decode cX9_init 24 = .ok (.putfield 16, 3) := by decide +kernel
theorem dX9_init_27 : decode cX9_init 27 = .ok (.aload_n 0, 1) := by decide +kernel
theorem dX9_init_28 : decode cX9_init 28 = .ok (.bipush 60, 2) := by decide +kernel
theorem dX9_init_30 : decode cX9_init 30 = .ok (.newarray .int, 2) := by decide +kernel
theorem dX9_init_32 : decode cX9_init 32 = .ok (.putfield 19, 3) := by decide +kernel
theorem dX9_init_35 : decode cX9_init 35 = .ok (.aload_n 0, 1) := by decide +kernel
theorem dX9_init_36 : decode cX9_init 36 = .ok (.bipush 84, 2) := by decide +kernel
theorem dX9_init_38 : decode cX9_init 38 = .ok (.newarray .int, 2) := by decide +kernel
theorem dX9_init_40 : decode cX9_init 40 = .ok (.putfield 22, 3) := by decide +kernel
theorem dX9_init_43 : decode cX9_init 43 = .ok (.aload_n 0, 1) := by decide +kernel
theorem dX9_init_44 : decode cX9_init 44 = .ok (.iconst 2, 1) := by decide +kernel
theorem dX9_init_45 : decode cX9_init 45 = .ok (.newarray .int, 2) := by decide +kernel
theorem dX9_init_47 : decode cX9_init 47 = .ok (.putfield 25, 3) := by decide +kernel
theorem dX9_init_50 : decode cX9_init 50 = .ok (.aload_n 0, 1) := by decide +kernel
theorem dX9_init_51 : decode cX9_init 51 = .ok (.bipush 36, 2) := by decide +kernel
theorem dX9_init_53 : decode cX9_init 53 = .ok (.newarray .int, 2) := by decide +kernel
theorem dX9_init_55 : decode cX9_init 55 = .ok (.putfield 28, 3) := by decide +kernel
theorem dX9_init_58 : decode cX9_init 58 = .ok (.aload_n 0, 1) := by decide +kernel
theorem dX9_init_59 : decode cX9_init 59 = .ok (.bipush 16, 2) := by decide +kernel
theorem dX9_init_61 : decode cX9_init 61 = .ok (.newarray .int, 2) := by decide +kernel
theorem dX9_init_63 : decode cX9_init 63 = .ok (.putfield 31, 3) := by decide +kernel
theorem dX9_init_66 : decode cX9_init 66 = .ok (.aload_n 0, 1) := by decide +kernel
theorem dX9_init_67 : decode cX9_init 67 = .ok (.iconst 2, 1) := by decide +kernel
theorem dX9_init_68 : decode cX9_init 68 = .ok (.newarray .int, 2) := by decide +kernel
theorem dX9_init_70 : decode cX9_init 70 = .ok (.putfield 34, 3) := by decide +kernel
theorem dX9_init_73 : decode cX9_init 73 = .ok (.aload_n 0, 1) := by decide +kernel
theorem dX9_init_74 : decode cX9_init 74 = .ok (.bipush 20, 2) := by decide +kernel
theorem dX9_init_76 : decode cX9_init 76 = .ok (.newarray .int, 2) := by decide +kernel
theorem dX9_init_78 : decode cX9_init 78 = .ok (.putfield 37, 3) := by decide +kernel
theorem dX9_init_81 : decode cX9_init 81 = .ok (.aload_n 0, 1) := by decide +kernel
theorem dX9_init_82 : decode cX9_init 82 = .ok (.bipush 16, 2) := by decide +kernel
theorem dX9_init_84 : decode cX9_init 84 = .ok (.newarray .int, 2) := by decide +kernel
theorem dX9_init_86 : decode cX9_init 86 = .ok (.putfield 40, 3) := by decide +kernel
theorem dX9_init_89 : decode cX9_init 89 = .ok (.aload_n 0, 1) := by decide +kernel
theorem dX9_init_90 : decode cX9_init 90 = .ok (.sipush 250, 3) := by decide +kernel
theorem dX9_init_93 : decode cX9_init 93 = .ok (.newarray .int, 2) := by decide +kernel
theorem dX9_init_95 : decode cX9_init 95 = .ok (.putfield 43, 3) := by decide +kernel
theorem dX9_init_98 : decode cX9_init 98 = .ok (.aload_n 0, 1) := by decide +kernel
theorem dX9_init_99 : decode cX9_init 99 = .ok (.bipush 10, 2) := by decide +kernel
theorem dX9_init_101 : decode cX9_init 101 = .ok (.newarray .int, 2) := by decide +kernel
theorem dX9_init_103 : decode cX9_init 103 = .ok (.putfield 46, 3) := by decide +kernel
theorem dX9_init_106 : decode cX9_init 106 = .ok (.aload_n 0, 1) := by decide +kernel
theorem dX9_init_107 : decode cX9_init 107 = .ok (.bipush 60, 2) := by decide +kernel
theorem dX9_init_109 : decode cX9_init 109 = .ok (.newarray .int, 2) := by decide +kernel
theorem dX9_init_111 : decode cX9_init 111 = .ok (.putfield 49, 3) := by decide +kernel
theorem dX9_init_114 : decode cX9_init 114 = .ok (.aload_n 0, 1) := by decide +kernel
theorem dX9_init_115 : decode cX9_init 115 = .ok (.bipush 24, 2) := by decide +kernel
theorem dX9_init_117 : decode cX9_init 117 = .ok (.newarray .int, 2) := by decide +kernel
theorem dX9_init_119 : decode cX9_init 119 = .ok (.putfield 52, 3) := by decide +kernel
theorem dX9_init_122 : decode cX9_init 122 = .ok (.aload_n 0, 1) := by decide +kernel
theorem dX9_init_123 : decode cX9_init 123 = .ok (.bipush 32, 2) := by decide +kernel
theorem dX9_init_125 : decode cX9_init 125 = .ok (.newarray .int, 2) := by decide +kernel
theorem dX9_init_127 : decode cX9_init 127 = .ok (.putfield 55, 3) := by decide +kernel
theorem dX9_init_130 : decode cX9_init 130 = .ok (.iconst 0, 1) := by decide +kernel
theorem dX9_init_131 : decode cX9_init 131 = .ok (.istore_n 1, 1) := by decide +kernel
theorem dX9_init_132 : decode cX9_init 132 = .ok (.iload_n 1, 1) := by decide +kernel
theorem dX9_init_133 : decode cX9_init 133 = .ok (.iconst 4, 1) := by decide +kernel
theorem dX9_init_134 : decode cX9_init 134 = .ok (.if_icmp .ge 16, 3) := by decide +kernel
theorem dX9_init_137 : decode cX9_init 137 = .ok (.aload_n 0, 1) := by decide +kernel
theorem dX9_init_138 : decode cX9_init 138 = .ok (.getfield 7, 3) := by decide +kernel
theorem dX9_init_141 : decode cX9_init 141 = .ok (.iload_n 1, 1) := by decide +kernel
theorem dX9_init_142 : decode cX9_init 142 = .ok (.iconst (-1), 1) := by decide +kernel
theorem dX9_init_143 : decode cX9_init 143 = .ok (.iastore, 1) := by decide +kernel
theorem dX9_init_144 : decode cX9_init 144 = .ok (.iinc 1 1, 3) := by decide +kernel
theorem dX9_init_147 : decode cX9_init 147 = .ok (.goto (-15), 3) := by decide +kernel
theorem dX9_init_150 : decode cX9_init 150 = .ok (.aload_n 0, 1) := by decide +kernel
theorem dX9_init_151 : decode cX9_init 151 = .ok (.getfield 34, 3) := by decide +kernel
theorem dX9_init_154 : decode cX9_init 154 = .ok (.iconst 1, 1) := by decide +kernel
theorem dX9_init_155 : decode cX9_init 155 = .ok (.bipush 10, 2) := by decide +kernel
theorem dX9_init_157 : decode cX9_init 157 = .ok (.iastore, 1) := by decide +kernel
theorem dX9_init_158 : decode cX9_init 158 = .ok (.return_, 1) := by decide +kernel
theorem dX9_in_0 : decode cX9_in 0 = .ok (.lload_n 0, 1) := by decide +kernel
theorem dX9_in_1 : decode cX9_in 1 = .ok (.lload_n 2, 1) := by decide +kernel
theorem dX9_in_2 : decode cX9_in 2 = .ok (.lcmp, 1) := by decide +kernel
theorem dX9_in_3 : decode cX9_in 3 = .ok (.ifCond .lt 14, 3) := by decide +kernel
theorem dX9_in_6 : decode cX9_in 6 = .ok (.lload_n 0, 1) := by decide +kernel
theorem dX9_in_7 : decode cX9_in 7 = .ok (.lload 4, 2) := by decide +kernel
theorem dX9_in_9 : decode cX9_in 9 = .ok (.lcmp, 1) := by decide +kernel
theorem dX9_in_10 : decode cX9_in 10 = .ok (.ifCond .gt 7, 3) := by decide +kernel
theorem dX9_in_13 : decode cX9_in 13 = .ok (.iconst 1, 1) := by decide +kernel
theorem dX9_in_14 : decode cX9_in 14 = .ok (.goto 4, 3) := by decide +kernel
theorem dX9_in_17 : decode cX9_in 17 = .ok (.iconst 0, 1) := by decide +kernel
theorem dX9_in_18 : decode cX9_in 18 = .ok (.ireturn, 1) := by decide +kernel
theorem dX9_no_0 : decode cX9_no 0 = .ok (.ldc2_w 58, 3) := by decide +kernel
theorem dX9_no_3 : decode cX9_no 3 = .ok (.iload_n 0, 1) := by decide +kernel
theorem dX9_no_4 : decode cX9_no 4 = .ok (.i2l, 1) := by decide +kernel
theorem dX9_no_5 : decode cX9_no 5 = .ok (.lsub, 1) := by decide +kernel
theorem dX9_no_6 : decode cX9_no 6 = .ok (.lreturn, 1) := by decide +kernel
theorem dX9_isTwo_0 : decode cX9_isTwo 0 = .ok (.iload_n 0, 1) := by decide +kernel
theorem dX9_isTwo_1 : decode cX9_isTwo 1 = .ok (.i2l, 1) := by decide +kernel
theorem dX9_isTwo_2 : decode cX9_isTwo 2 = .ok (.lconst 0, 1) := by decide +kernel
theorem dX9_isTwo_3 : decode cX9_isTwo 3 = .ok (.lconst 1, 1) := by decide +kernel
theorem dX9_isTwo_4 : decode cX9_isTwo 4 = .ok (.invokestatic 60, 3) := by decide +kernel
theorem dX9_isTwo_7 : decode cX9_isTwo 7 = .ok (.ireturn, 1) := by decide +kernel
theorem dX9_isIn_0 : decode cX9_isIn 0 = .ok (.iload_n 0, 1) := by decide +kernel
theorem dX9_isIn_1 : decode cX9_isIn 1 = .ok (.iload_n 1, 1) := by decide +kernel
theorem dX9_isIn_2 : decode cX9_isIn 2 = .ok (.ishr, 1) := by decide +kernel
theorem dX9_isIn_3 : decode cX9_isIn 3 = .ok (.iconst 1, 1) := by decide +kernel
theorem dX9_isIn_4 : decode cX9_isIn 4 = .ok (.iand, 1) := by decide +kernel
theorem dX9_isIn_5 : decode cX9_isIn 5 = .ok (.iconst 1, 1) := by decide +kernel
theorem dX9_isIn_6 : decode cX9_isIn 6 = .ok (.if_icmp .ne 7, 3) := by decide +kernel
theorem dX9_isIn_9 : decode cX9_isIn 9 = .ok (.iconst 1, 1) := by decide +kernel
theorem dX9_isIn_10 : decode cX9_isIn 10 = .ok (.goto 4, 3) := by decide +kernel
theorem dX9_isIn_13 : decode cX9_isIn 13 = .ok (.iconst 0, 1) := by decide +kernel
theorem dX9_isIn_14 : decode cX9_isIn 14 = .ok (.ireturn, 1) := by decide +kernel
theorem dX9_lesser_0 : decode cX9_lesser 0 = .ok (.iload_n 0, 1) := by decide +kernel
theorem dX9_lesser_1 : decode cX9_lesser 1 = .ok (.iload_n 1, 1) := by decide +kernel
theorem dX9_lesser_2 : decode cX9_lesser 2 = .ok (.if_icmp .ge 7, 3) := by decide +kernel
theorem dX9_lesser_5 : decode cX9_lesser 5 = .ok (.iload_n 0, 1) := by decide +kernel
theorem dX9_lesser_6 : decode cX9_lesser 6 = .ok (.goto 4, 3) := by decide +kernel
theorem dX9_lesser_9 : decode cX9_lesser 9 = .ok (.iload_n 1, 1) := by decide +kernel
theorem dX9_lesser_10 : decode cX9_lesser 10 = .ok (.ireturn, 1) := by decide +kernel
theorem dX9_part_0 : decode cX9_part 0 = .ok (.lload_n 0, 1) := by decide +kernel
theorem dX9_part_1 : decode cX9_part 1 = .ok (.lstore 5, 2) := by decide +kernel
theorem dX9_part_3 : decode cX9_part 3 = .ok (.lload_n 2, 1) := by decide +kernel
theorem dX9_part_4 : decode cX9_part 4 = .ok (.lstore 7, 2) := by decide +kernel
theorem dX9_part_6 : decode cX9_part 6 = .ok (.lload 7, 2) := by decide +kernel
theorem dX9_part_8 : decode cX9_part 8 = .ok (.lconst 0, 1) := by decide +kernel
theorem dX9_part_9 : decode cX9_part 9 = .ok (.lcmp, 1) := by decide +kernel
theorem dX9_part_10 : decode cX9_part 10 = .ok (.ifCond .eq 21, 3) := by decide +kernel
theorem dX9_part_13 : decode cX9_part 13 = .ok (.lload 5, 2) := by decide +kernel
theorem dX9_part_15 : decode cX9_part 15 = .ok (.lload 7, 2) := by decide +kernel
theorem dX9_part_17 : decode cX9_part 17 = .ok (.lrem, 1) := by decide +kernel
theorem dX9_part_18 : decode cX9_part 18 = .ok (.lstore 9, 2) := by decide +kernel
theorem dX9_part_20 : decode cX9_part 20 = .ok (.lload 7, 2) := by decide +kernel
theorem dX9_part_22 : decode cX9_part 22 = .ok (.lstore 5, 2) := by decide +kernel
theorem dX9_part_24 : decode cX9_part 24 = .ok (.lload 9, 2) := by decide +kernel
theorem dX9_part_26 : decode cX9_part 26 = .ok (.lstore 7, 2) := by decide +kernel
theorem dX9_part_28 : decode cX9_part 28 = .ok (.goto (-22), 3) := by decide +kernel
theorem dX9_part_31 : decode cX9_part 31 = .ok (.iload 4, 2) := by decide +kernel
theorem dX9_part_33 : decode cX9_part 33 = .ok (.ifCond .ne 7, 3) := by decide +kernel
theorem dX9_part_36 : decode cX9_part 36 = .ok (.lload_n 0, 1) := by decide +kernel
theorem dX9_part_37 : decode cX9_part 37 = .ok (.goto 4, 3) := by decide +kernel
theorem dX9_part_40 : decode cX9_part 40 = .ok (.lload_n 2, 1) := by decide +kernel
theorem dX9_part_41 : decode cX9_part 41 = .ok (.lload 5, 2) := by decide +kernel
theorem dX9_part_43 : decode cX9_part 43 = .ok (.ldiv, 1) := by decide +kernel
theorem dX9_part_44 : decode cX9_part 44 = .ok (.lreturn, 1) := by decide +kernel
theorem dX9_finds_0 : decode cX9_finds 0 = .ok (.aload_n 0, 1) := by decide +kernel
theorem dX9_finds_1 : decode cX9_finds 1 = .ok (.iload_n 1, 1) := by decide +kernel
theorem dX9_finds_2 : decode cX9_finds 2 = .ok (.putfield 64, 3) := by decide +kernel
theorem dX9_finds_5 : decode cX9_finds 5 = .ok (.bipush (-10), 2) := by decide +kernel
theorem dX9_finds_7 : decode cX9_finds 7 = .ok (.iload_n 1, 1) := by decide +kernel
theorem dX9_finds_8 : decode cX9_finds 8 = .ok (.isub, 1) := by decide +kernel
theorem dX9_finds_9 : decode cX9_finds 9 = .ok (.ireturn, 1) := by decide +kernel
theorem dX9_isSheet_0 : decode cX9_isSheet 0 = .ok (.iload_n 0, 1) := by decide +kernel
theorem dX9_isSheet_1 : decode cX9_isSheet 1 = .ok (.i2l, 1) := by decide +kernel
theorem dX9_isSheet_2 : decode cX9_isSheet 2 = .ok (.lconst 0, 1) := by decide +kernel
theorem dX9_isSheet_3 : decode cX9_isSheet 3 = .ok (.ldc2_w 68, 3) := by decide +kernel
theorem dX9_isSheet_6 : decode cX9_isSheet 6 = .ok (.invokestatic 60, 3) := by decide +kernel
theorem dX9_isSheet_9 : decode cX9_isSheet 9 = .ok (.ireturn, 1) := by decide +kernel
theorem dX9_sheet_0 : decode cX9_sheet 0 = .ok (.iload_n 1, 1) := by decide +kernel
theorem dX9_sheet_1 : decode cX9_sheet 1 = .ok (.invokestatic 70, 3) := by decide +kernel
theorem dX9_sheet_4 : decode cX9_sheet 4 = .ok (.ifCond .eq 21, 3) := by decide +kernel
theorem dX9_sheet_7 : decode cX9_sheet 7 = .ok (.iload_n 2, 1) := by decide +kernel
theorem dX9_sheet_8 : decode cX9_sheet 8 = .ok (.i2l, 1) := by decide +kernel
theorem dX9_sheet_9 : decode cX9_sheet 9 = .ok (.lconst 0, 1) := by decide +kernel
theorem dX9_sheet_10 : decode cX9_sheet 10 = .ok (.ldc2_w 74, 3) := by decide +kernel
theorem dX9_sheet_13 : decode cX9_sheet 13 = .ok (.invokestatic 60, 3) := by decide +kernel
theorem dX9_sheet_16 : decode cX9_sheet 16 = .ok (.ifCond .eq 9, 3) := by decide +kernel
theorem dX9_sheet_19 : decode cX9_sheet 19 = .ok (.iload_n 3, 1) := by decide +kernel
theorem dX9_sheet_20 : decode cX9_sheet 20 = .ok (.bipush 60, 2) := by decide +kernel
theorem dX9_sheet_22 : decode cX9_sheet 22 = .ok (.if_icmp .le 6, 3) := by decide +kernel
theorem dX9_sheet_25 : decode cX9_sheet 25 = .ok (.bipush (-2), 2) := by decide +kernel
theorem dX9_sheet_27 : decode cX9_sheet 27 = .ok (.ireturn, 1) := by decide +kernel
theorem dX9_sheet_28 : decode cX9_sheet 28 = .ok (.iload_n 3, 1) := by decide +kernel
theorem dX9_sheet_29 : decode cX9_sheet 29 = .ok (.ifCond .ge 9, 3) := by decide +kernel
theorem dX9_sheet_32 : decode cX9_sheet 32 = .ok (.aload_n 0, 1) := by decide +kernel
theorem dX9_sheet_33 : decode cX9_sheet 33 = .ok (.iconst 5, 1) := by decide +kernel
theorem dX9_sheet_34 : decode cX9_sheet 34 = .ok (.invokevirtual 76, 3) := by decide +kernel
theorem dX9_sheet_37 : decode cX9_sheet 37 = .ok (.ireturn, 1) := by decide +kernel
theorem dX9_sheet_38 : decode cX9_sheet 38 = .ok (.aload_n 0, 1) := by decide +kernel
theorem dX9_sheet_39 : decode cX9_sheet 39 = .ok (.getfield 7, 3) := by decide +kernel
theorem dX9_sheet_42 : decode cX9_sheet 42 = .ok (.iload_n 1, 1) := by decide +kernel
theorem dX9_sheet_43 : decode cX9_sheet 43 = .ok (.iload_n 2, 1) := by decide +kernel
theorem dX9_sheet_44 : decode cX9_sheet 44 = .ok (.iastore, 1) := by decide +kernel
theorem dX9_sheet_45 : decode cX9_sheet 45 = .ok (.aload_n 0, 1) := by decide +kernel
theorem dX9_sheet_46 : decode cX9_sheet 46 = .ok (.getfield 13, 3) := by decide +kernel
theorem dX9_sheet_49 : decode cX9_sheet 49 = .ok (.iload_n 1, 1) := by decide +kernel
theorem dX9_sheet_50 : decode cX9_sheet 50 = .ok (.iload_n 3, 1) := by decide +kernel
theorem dX9_sheet_51 : decode cX9_sheet 51 = .ok (.iastore, 1) := by decide +kernel
theorem dX9_sheet_52 : decode cX9_sheet 52 = .ok (.iconst 0, 1) := by decide +kernel
theorem dX9_sheet_53 : decode cX9_sheet 53 = .ok (.istore 4, 2) := by decide +kernel
theorem dX9_sheet_55 : decode cX9_sheet 55 = .ok (.iload 4, 2) := by decide +kernel
theorem dX9_sheet_57 : decode cX9_sheet 57 = .ok (.iload_n 3, 1) := by decide +kernel
theorem dX9_sheet_58 : decode cX9_sheet 58 = .ok (.if_icmp .ge 22, 3) := by decide +kernel
theorem dX9_sheet_61 : decode cX9_sheet 61 = .ok (.aload_n 0, 1) := by decide +kernel
theorem dX9_sheet_62 : decode cX9_sheet 62 = .ok (.getfield 16, 3) := by decide +kernel
theorem dX9_sheet_65 : decode cX9_sheet 65 = .ok (.bipush 60, 2) := by decide +kernel
theorem dX9_sheet_67 : decode cX9_sheet 67 = .ok (.iload_n 1, 1) := by decide +kernel
theorem dX9_sheet_68 : decode cX9_sheet 68 = .ok (.imul, 1) := by decide +kernel
theorem dX9_sheet_69 : decode cX9_sheet 69 = .ok (.iload 4, 2) := by decide +kernel
theorem dX9_sheet_71 : decode cX9_sheet 71 = .ok (.iadd, 1) := by decide +kernel
theorem dX9_sheet_72 : decode cX9_sheet 72 = .ok (.iconst 0, 1) := by decide +kernel
theorem dX9_sheet_73 : decode cX9_sheet 73 = .ok (.iastore, 1) := by decide +kernel
theorem dX9_sheet_74 : decode cX9_sheet 74 = .ok (.iinc 4 1, 3) := by decide +kernel
theorem dX9_sheet_77 : decode cX9_sheet 77 = .ok (.goto (-22), 3) := by decide +kernel
theorem dX9_sheet_80 : decode cX9_sheet 80 = .ok (.iload_n 3, 1) := by decide +kernel
theorem dX9_sheet_81 : decode cX9_sheet 81 = .ok (.ireturn, 1) := by decide +kernel
theorem dX9_lose_0 : decode cX9_lose 0 = .ok (.iload_n 1, 1) := by decide +kernel
theorem dX9_lose_1 : decode cX9_lose 1 = .ok (.invokestatic 70, 3) := by decide +kernel
theorem dX9_lose_4 : decode cX9_lose 4 = .ok (.ifCond .ne 6, 3) := by decide +kernel
theorem dX9_lose_7 : decode cX9_lose 7 = .ok (.bipush (-2), 2) := by decide +kernel
theorem dX9_lose_9 : decode cX9_lose 9 = .ok (.ireturn, 1) := by decide +kernel
theorem dX9_lose_10 : decode cX9_lose 10 = .ok (.aload_n 0, 1) := by decide +kernel
theorem dX9_lose_11 : decode cX9_lose 11 = .ok (.getfield 7, 3) := by decide +kernel
theorem dX9_lose_14 : decode cX9_lose 14 = .ok (.iload_n 1, 1) := by decide +kernel
theorem dX9_lose_15 : decode cX9_lose 15 = .ok (.iaload, 1) := by decide +kernel
theorem dX9_lose_16 : decode cX9_lose 16 = .ok (.ifCond .ge 9, 3) := by decide +kernel
theorem dX9_lose_19 : decode cX9_lose 19 = .ok (.aload_n 0, 1) := by decide +kernel
theorem dX9_lose_20 : decode cX9_lose 20 = .ok (.iconst 1, 1) := by decide +kernel
theorem dX9_lose_21 : decode cX9_lose 21 = .ok (.invokevirtual 76, 3) := by decide +kernel
theorem dX9_lose_24 : decode cX9_lose 24 = .ok (.ireturn, 1) := by decide +kernel
theorem dX9_lose_25 : decode cX9_lose 25 = .ok (.aload_n 0, 1) := by decide +kernel
theorem dX9_lose_26 : decode cX9_lose 26 = .ok (.getfield 7, 3) := by decide +kernel
theorem dX9_lose_29 : decode cX9_lose 29 = .ok (.iload_n 1, 1) := by decide +kernel
