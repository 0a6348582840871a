theorem dX7_done_23 : decode cX7_done 23 = .ok (.getfield 146, 3) := by decide +kernel
theorem dX7_done_26 : decode cX7_done 26 = .ok (.ireturn, 1) := by decide +kernel
theorem dX7_saints_0 : decode cX7_saints 0 = .ok (.iconst 0, 1) := by decide +kernel
theorem dX7_saints_1 : decode cX7_saints 1 = .ok (.istore_n 1, 1) := by decide +kernel
theorem dX7_saints_2 : decode cX7_saints 2 = .ok (.iconst 0, 1) := by decide +kernel
theorem dX7_saints_3 : decode cX7_saints 3 = .ok (.istore_n 2, 1) := by decide +kernel
theorem dX7_saints_4 : decode cX7_saints 4 = .ok (.iload_n 2, 1) := by decide +kernel
theorem dX7_saints_5 : decode cX7_saints 5 = .ok (.bipush 6, 2) := by decide +kernel
theorem dX7_saints_7 : decode cX7_saints 7 = .ok (.if_icmp .ge 27, 3) := by decide +kernel
theorem dX7_saints_10 : decode cX7_saints 10 = .ok (.iload_n 1, 1) := by decide +kernel
theorem dX7_saints_11 : decode cX7_saints 11 = .ok (.aload_n 0, 1) := by decide +kernel
theorem dX7_saints_12 : decode cX7_saints 12 = .ok (.iload_n 2, 1) := by decide +kernel
theorem dX7_saints_13 : decode cX7_saints 13 = .ok (.invokevirtual 182, 3) := by decide +kernel
theorem dX7_saints_16 : decode cX7_saints 16 = .ok (.ifCond .eq 9, 3) := by decide +kernel
theorem dX7_saints_19 : decode cX7_saints 19 = .ok (.iconst 1, 1) := by decide +kernel
theorem dX7_saints_20 : decode cX7_saints 20 = .ok (.iload_n 2, 1) := by decide +kernel
theorem dX7_saints_21 : decode cX7_saints 21 = .ok (.ishl, 1) := by decide +kernel
theorem dX7_saints_22 : decode cX7_saints 22 = .ok (.goto 4, 3) := by decide +kernel
theorem dX7_saints_25 : decode cX7_saints 25 = .ok (.iconst 0, 1) := by decide +kernel
theorem dX7_saints_26 : decode cX7_saints 26 = .ok (.ior, 1) := by decide +kernel
theorem dX7_saints_27 : decode cX7_saints 27 = .ok (.istore_n 1, 1) := by decide +kernel
theorem dX7_saints_28 : decode cX7_saints 28 = .ok (.iinc 2 1, 3) := by decide +kernel
theorem dX7_saints_31 : decode cX7_saints 31 = .ok (.goto (-27), 3) := by decide +kernel
theorem dX7_saints_34 : decode cX7_saints 34 = .ok (.iload_n 1, 1) := by decide +kernel
theorem dX7_saints_35 : decode cX7_saints 35 = .ok (.ireturn, 1) := by decide +kernel
theorem dX7_over_0 : decode cX7_over 0 = .ok (.iload_n 0, 1) := by decide +kernel
theorem dX7_over_1 : decode cX7_over 1 = .ok (.ifCond .le 7, 3) := by decide +kernel
theorem dX7_over_4 : decode cX7_over 4 = .ok (.iload_n 0, 1) := by decide +kernel
theorem dX7_over_5 : decode cX7_over 5 = .ok (.goto 4, 3) := by decide +kernel
theorem dX7_over_8 : decode cX7_over 8 = .ok (.iconst 0, 1) := by decide +kernel
theorem dX7_over_9 : decode cX7_over 9 = .ok (.ireturn, 1) := by decide +kernel
theorem dX7_lacks_0 : decode cX7_lacks 0 = .ok (.aload_n 0, 1) := by decide +kernel
theorem dX7_lacks_1 : decode cX7_lacks 1 = .ok (.iload_n 1, 1) := by decide +kernel
theorem dX7_lacks_2 : decode cX7_lacks 2 = .ok (.invokevirtual 113, 3) := by decide +kernel
theorem dX7_lacks_5 : decode cX7_lacks 5 = .ok (.ifCond .ne 5, 3) := by decide +kernel
theorem dX7_lacks_8 : decode cX7_lacks 8 = .ok (.iconst (-1), 1) := by decide +kernel
theorem dX7_lacks_9 : decode cX7_lacks 9 = .ok (.ireturn, 1) := by decide +kernel
theorem dX7_lacks_10 : decode cX7_lacks 10 = .ok (.aload_n 0, 1) := by decide +kernel
theorem dX7_lacks_11 : decode cX7_lacks 11 = .ok (.getfield 19, 3) := by decide +kernel
theorem dX7_lacks_14 : decode cX7_lacks 14 = .ok (.iload_n 1, 1) := by decide +kernel
theorem dX7_lacks_15 : decode cX7_lacks 15 = .ok (.iaload, 1) := by decide +kernel
theorem dX7_lacks_16 : decode cX7_lacks 16 = .ok (.iconst 1, 1) := by decide +kernel
theorem dX7_lacks_17 : decode cX7_lacks 17 = .ok (.if_icmp .ne 6, 3) := by decide +kernel
theorem dX7_lacks_20 : decode cX7_lacks 20 = .ok (.bipush (-3), 2) := by decide +kernel
theorem dX7_lacks_22 : decode cX7_lacks 22 = .ok (.ireturn, 1) := by decide +kernel
theorem dX7_lacks_23 : decode cX7_lacks 23 = .ok (.aload_n 0, 1) := by decide +kernel
theorem dX7_lacks_24 : decode cX7_lacks 24 = .ok (.getfield 37, 3) := by decide +kernel
theorem dX7_lacks_27 : decode cX7_lacks 27 = .ok (.iconst 0, 1) := by decide +kernel
theorem dX7_lacks_28 : decode cX7_lacks 28 = .ok (.iaload, 1) := by decide +kernel
theorem dX7_lacks_29 : decode cX7_lacks 29 = .ok (.aload_n 0, 1) := by decide +kernel
theorem dX7_lacks_30 : decode cX7_lacks 30 = .ok (.getfield 7, 3) := by decide +kernel
theorem dX7_lacks_33 : decode cX7_lacks 33 = .ok (.iload_n 1, 1) := by decide +kernel
theorem dX7_lacks_34 : decode cX7_lacks 34 = .ok (.iaload, 1) := by decide +kernel
theorem dX7_lacks_35 : decode cX7_lacks 35 = .ok (.isub, 1) := by decide +kernel
theorem dX7_lacks_36 : decode cX7_lacks 36 = .ok (.invokestatic 232, 3) := by decide +kernel
theorem dX7_lacks_39 : decode cX7_lacks 39 = .ok (.aload_n 0, 1) := by decide +kernel
theorem dX7_lacks_40 : decode cX7_lacks 40 = .ok (.getfield 13, 3) := by decide +kernel
theorem dX7_lacks_43 : decode cX7_lacks 43 = .ok (.iload_n 1, 1) := by decide +kernel
theorem dX7_lacks_44 : decode cX7_lacks 44 = .ok (.iaload, 1) := by decide +kernel
theorem dX7_lacks_45 : decode cX7_lacks 45 = .ok (.aload_n 0, 1) := by decide +kernel
theorem dX7_lacks_46 : decode cX7_lacks 46 = .ok (.getfield 37, 3) := by decide +kernel
theorem dX7_lacks_49 : decode cX7_lacks 49 = .ok (.iconst 1, 1) := by decide +kernel
theorem dX7_lacks_50 : decode cX7_lacks 50 = .ok (.iaload, 1) := by decide +kernel
theorem dX7_lacks_51 : decode cX7_lacks 51 = .ok (.isub, 1) := by decide +kernel
theorem dX7_lacks_52 : decode cX7_lacks 52 = .ok (.invokestatic 232, 3) := by decide +kernel
theorem dX7_lacks_55 : decode cX7_lacks 55 = .ok (.iadd, 1) := by decide +kernel
theorem dX7_lacks_56 : decode cX7_lacks 56 = .ok (.aload_n 0, 1) := by decide +kernel
theorem dX7_lacks_57 : decode cX7_lacks 57 = .ok (.getfield 37, 3) := by decide +kernel
theorem dX7_lacks_60 : decode cX7_lacks 60 = .ok (.iconst 2, 1) := by decide +kernel
theorem dX7_lacks_61 : decode cX7_lacks 61 = .ok (.iaload, 1) := by decide +kernel
theorem dX7_lacks_62 : decode cX7_lacks 62 = .ok (.aload_n 0, 1) := by decide +kernel
theorem dX7_lacks_63 : decode cX7_lacks 63 = .ok (.getfield 16, 3) := by decide +kernel
theorem dX7_lacks_66 : decode cX7_lacks 66 = .ok (.iload_n 1, 1) := by decide +kernel
theorem dX7_lacks_67 : decode cX7_lacks 67 = .ok (.iaload, 1) := by decide +kernel
theorem dX7_lacks_68 : decode cX7_lacks 68 = .ok (.isub, 1) := by decide +kernel
theorem dX7_lacks_69 : decode cX7_lacks 69 = .ok (.invokestatic 232, 3) := by decide +kernel
theorem dX7_lacks_72 : decode cX7_lacks 72 = .ok (.iadd, 1) := by decide +kernel
theorem dX7_lacks_73 : decode cX7_lacks 73 = .ok (.ireturn, 1) := by decide +kernel
theorem dX7_lowest_0 : decode cX7_lowest 0 = .ok (.lload_n 2, 1) := by decide +kernel
theorem dX7_lowest_1 : decode cX7_lowest 1 = .ok (.lstore 5, 2) := by decide +kernel
theorem dX7_lowest_3 : decode cX7_lowest 3 = .ok (.lload_n 0, 1) := by decide +kernel
theorem dX7_lowest_4 : decode cX7_lowest 4 = .ok (.lstore 7, 2) := by decide +kernel
theorem dX7_lowest_6 : decode cX7_lowest 6 = .ok (.lload 7, 2) := by decide +kernel
theorem dX7_lowest_8 : decode cX7_lowest 8 = .ok (.lconst 0, 1) := by decide +kernel
theorem dX7_lowest_9 : decode cX7_lowest 9 = .ok (.lcmp, 1) := by decide +kernel
theorem dX7_lowest_10 : decode cX7_lowest 10 = .ok (.ifCond .eq 21, 3) := by decide +kernel
theorem dX7_lowest_13 : decode cX7_lowest 13 = .ok (.lload 5, 2) := by decide +kernel
theorem dX7_lowest_15 : decode cX7_lowest 15 = .ok (.lload 7, 2) := by decide +kernel
theorem dX7_lowest_17 : decode cX7_lowest 17 = .ok (.lrem, 1) := by decide +kernel
theorem dX7_lowest_18 : decode cX7_lowest 18 = .ok (.lstore 9, 2) := by decide +kernel
theorem dX7_lowest_20 : decode cX7_lowest 20 = .ok (.lload 7, 2) := by decide +kernel
theorem dX7_lowest_22 : decode cX7_lowest 22 = .ok (.lstore 5, 2) := by decide +kernel
theorem dX7_lowest_24 : decode cX7_lowest 24 = .ok (.lload 9, 2) := by decide +kernel
theorem dX7_lowest_26 : decode cX7_lowest 26 = .ok (.lstore 7, 2) := by decide +kernel
theorem dX7_lowest_28 : decode cX7_lowest 28 = .ok (.goto (-22), 3) := by decide +kernel
theorem dX7_lowest_31 : decode cX7_lowest 31 = .ok (.iload 4, 2) := by decide +kernel
theorem dX7_lowest_33 : decode cX7_lowest 33 = .ok (.ifCond .ne 10, 3) := by decide +kernel
theorem dX7_lowest_36 : decode cX7_lowest 36 = .ok (.lload_n 0, 1) := by decide +kernel
theorem dX7_lowest_37 : decode cX7_lowest 37 = .ok (.lload 5, 2) := by decide +kernel
theorem dX7_lowest_39 : decode cX7_lowest 39 = .ok (.ldiv, 1) := by decide +kernel
theorem dX7_lowest_40 : decode cX7_lowest 40 = .ok (.goto 7, 3) := by decide +kernel
theorem dX7_lowest_43 : decode cX7_lowest 43 = .ok (.lload_n 2, 1) := by decide +kernel
theorem dX7_lowest_44 : decode cX7_lowest 44 = .ok (.lload 5, 2) := by decide +kernel
theorem dX7_lowest_46 : decode cX7_lowest 46 = .ok (.ldiv, 1) := by decide +kernel
theorem dX7_lowest_47 : decode cX7_lowest 47 = .ok (.lreturn, 1) := by decide +kernel
theorem dX7_yearOdds_0 : decode cX7_yearOdds 0 = .ok (.bipush 80, 2) := by decide +kernel
theorem dX7_yearOdds_2 : decode cX7_yearOdds 2 = .ok (.istore_n 3, 1) := by decide +kernel
theorem dX7_yearOdds_3 : decode cX7_yearOdds 3 = .ok (.iload_n 3, 1) := by decide +kernel
theorem dX7_yearOdds_4 : decode cX7_yearOdds 4 = .ok (.ifCond .lt 85, 3) := by decide +kernel
theorem dX7_yearOdds_7 : decode cX7_yearOdds 7 = .ok (.iload_n 3, 1) := by decide +kernel
theorem dX7_yearOdds_8 : decode cX7_yearOdds 8 = .ok (.bipush 9, 2) := by decide +kernel
theorem dX7_yearOdds_10 : decode cX7_yearOdds 10 = .ok (.if_icmp .lt 18, 3) := by decide +kernel
theorem dX7_yearOdds_13 : decode cX7_yearOdds 13 = .ok (.iload_n 1, 1) := by decide +kernel
theorem dX7_yearOdds_14 : decode cX7_yearOdds 14 = .ok (.i2l, 1) := by decide +kernel
theorem dX7_yearOdds_15 : decode cX7_yearOdds 15 = .ok (.aload_n 0, 1) := by decide +kernel
theorem dX7_yearOdds_16 : decode cX7_yearOdds 16 = .ok (.getfield 73, 3) := by decide +kernel
theorem dX7_yearOdds_19 : decode cX7_yearOdds 19 = .ok (.iload_n 3, 1) := by decide +kernel
theorem dX7_yearOdds_20 : decode cX7_yearOdds 20 = .ok (.bipush 9, 2) := by decide +kernel
theorem dX7_yearOdds_22 : decode cX7_yearOdds 22 = .ok (.isub, 1) := by decide +kernel
theorem dX7_yearOdds_23 : decode cX7_yearOdds 23 = .ok (.laload, 1) := by decide +kernel
theorem dX7_yearOdds_24 : decode cX7_yearOdds 24 = .ok (.lmul, 1) := by decide +kernel
theorem dX7_yearOdds_25 : decode cX7_yearOdds 25 = .ok (.goto 4, 3) := by decide +kernel
theorem dX7_yearOdds_28 : decode cX7_yearOdds 28 = .ok (.lconst 0, 1) := by decide +kernel
theorem dX7_yearOdds_29 : decode cX7_yearOdds 29 = .ok (.lstore 4, 2) := by decide +kernel
theorem dX7_yearOdds_31 : decode cX7_yearOdds 31 = .ok (.iload_n 3, 1) := by decide +kernel
theorem dX7_yearOdds_32 : decode cX7_yearOdds 32 = .ok (.bipush 9, 2) := by decide +kernel
theorem dX7_yearOdds_34 : decode cX7_yearOdds 34 = .ok (.irem, 1) := by decide +kernel
theorem dX7_yearOdds_35 : decode cX7_yearOdds 35 = .ok (.ifCond .le 17, 3) := by decide +kernel
theorem dX7_yearOdds_38 : decode cX7_yearOdds 38 = .ok (.iload_n 2, 1) := by decide +kernel
theorem dX7_yearOdds_39 : decode cX7_yearOdds 39 = .ok (.i2l, 1) := by decide +kernel
theorem dX7_yearOdds_40 : decode cX7_yearOdds 40 = .ok (.aload_n 0, 1) := by decide +kernel
theorem dX7_yearOdds_41 : decode cX7_yearOdds 41 = .ok (.getfield 73, 3) := by decide +kernel
theorem dX7_yearOdds_44 : decode cX7_yearOdds 44 = .ok (.iload_n 3, 1) := by decide +kernel
theorem dX7_yearOdds_45 : decode cX7_yearOdds 45 = .ok (.iconst 1, 1) := by decide +kernel
theorem dX7_yearOdds_46 : decode cX7_yearOdds 46 = .ok (.isub, 1) := by decide +kernel
theorem dX7_yearOdds_47 : decode cX7_yearOdds 47 = .ok (.laload, 1) := by decide +kernel
theorem dX7_yearOdds_48 : decode cX7_yearOdds 48 = .ok (.lmul, 1) := by decide +kernel
theorem dX7_yearOdds_49 : decode cX7_yearOdds 49 = .ok (.goto 4, 3) := by decide +kernel
theorem dX7_yearOdds_52 : decode cX7_yearOdds 52 = .ok (.lconst 0, 1) := by decide +kernel
theorem dX7_yearOdds_53 : decode cX7_yearOdds 53 = .ok (.lstore 6, 2) := by decide +kernel
theorem dX7_yearOdds_55 : decode cX7_yearOdds 55 = .ok (.aload_n 0, 1) := by decide +kernel
theorem dX7_yearOdds_56 : decode cX7_yearOdds 56 = .ok (.getfield 73, 3) := by decide +kernel
theorem dX7_yearOdds_59 : decode cX7_yearOdds 59 = .ok (.iload_n 3, 1) := by decide +kernel
theorem dX7_yearOdds_60 : decode cX7_yearOdds 60 = .ok (.ldc2_w 235, 3) := by decide +kernel
theorem dX7_yearOdds_63 : decode cX7_yearOdds 63 = .ok (.iload_n 1, 1) := by decide +kernel
theorem dX7_yearOdds_64 : decode cX7_yearOdds 64 = .ok (.i2l, 1) := by decide +kernel
theorem dX7_yearOdds_65 : decode cX7_yearOdds 65 = .ok (.lsub, 1) := by decide +kernel
theorem dX7_yearOdds_66 : decode cX7_yearOdds 66 = .ok (.iload_n 2, 1) := by decide +kernel
theorem dX7_yearOdds_67 : decode cX7_yearOdds 67 = .ok (.i2l, 1) := by decide +kernel
theorem dX7_yearOdds_68 : decode cX7_yearOdds 68 = .ok (.lsub, 1) := by decide +kernel
theorem dX7_yearOdds_69 : decode cX7_yearOdds 69 = .ok (.aload_n 0, 1) := by decide +kernel
theorem dX7_yearOdds_70 : decode cX7_yearOdds 70 = .ok (.getfield 73, 3) := by decide +kernel
theorem dX7_yearOdds_73 : decode cX7_yearOdds 73 = .ok (.iload_n 3, 1) := by decide +kernel
theorem dX7_yearOdds_74 : decode cX7_yearOdds 74 = .ok (.laload, 1) := by decide +kernel
theorem dX7_yearOdds_75 : decode cX7_yearOdds 75 = .ok (.lmul, 1) := by decide +kernel
theorem dX7_yearOdds_76 : decode cX7_yearOdds 76 = .ok (.lload 4, 2) := by decide +kernel
theorem dX7_yearOdds_78 : decode cX7_yearOdds 78 = .ok (.ladd, 1) := by decide +kernel
theorem dX7_yearOdds_79 : decode cX7_yearOdds 79 = .ok (.lload 6, 2) := by decide +kernel
theorem dX7_yearOdds_81 : decode cX7_yearOdds 81 = .ok (.ladd, 1) := by decide +kernel
theorem dX7_yearOdds_82 : decode cX7_yearOdds 82 = .ok (.lastore, 1) := by decide +kernel
theorem dX7_yearOdds_83 : decode cX7_yearOdds 83 = .ok (.iinc 3 (-1), 3) := by decide +kernel
theorem dX7_yearOdds_86 : decode cX7_yearOdds 86 = .ok (.goto (-83), 3) := by decide +kernel
theorem dX7_yearOdds_89 : decode cX7_yearOdds 89 = .ok (.return_, 1) := by decide +kernel
theorem dX7_odds_0 : decode cX7_odds 0 = .ok (.aload_n 0, 1) := by decide +kernel
theorem dX7_odds_1 : decode cX7_odds 1 = .ok (.iload_n 1, 1) := by decide +kernel
theorem dX7_odds_2 : decode cX7_odds 2 = .ok (.invokevirtual 113, 3) := by decide +kernel
theorem dX7_odds_5 : decode cX7_odds 5 = .ok (.ifCond .ne 7, 3) := by decide +kernel
theorem dX7_odds_8 : decode cX7_odds 8 = .ok (.ldc2_w 237, 3) := by decide +kernel
theorem dX7_odds_11 : decode cX7_odds 11 = .ok (.lreturn, 1) := by decide +kernel
theorem dX7_odds_12 : decode cX7_odds 12 = .ok (.iload_n 3, 1) := by decide +kernel
theorem dX7_odds_13 : decode cX7_odds 13 = .ok (.i2l, 1) := by decide +kernel
theorem dX7_odds_14 : decode cX7_odds 14 = .ok (.lconst 0, 1) := by decide +kernel
theorem dX7_odds_15 : decode cX7_odds 15 = .ok (.ldc2_w 235, 3) := by decide +kernel
theorem dX7_odds_18 : decode cX7_odds 18 = .ok (.invokestatic 89, 3) := by decide +kernel
theorem dX7_odds_21 : decode cX7_odds 21 = .ok (.ifCond .eq 29, 3) := by decide +kernel
theorem dX7_odds_24 : decode cX7_odds 24 = .ok (.iload 4, 2) := by decide +kernel
theorem dX7_odds_26 : decode cX7_odds 26 = .ok (.i2l, 1) := by decide +kernel
theorem dX7_odds_27 : decode cX7_odds 27 = .ok (.lconst 0, 1) := by decide +kernel
theorem dX7_odds_28 : decode cX7_odds 28 = .ok (.ldc2_w 235, 3) := by decide +kernel
theorem dX7_odds_31 : decode cX7_odds 31 = .ok (.invokestatic 89, 3) := by decide +kernel
theorem dX7_odds_34 : decode cX7_odds 34 = .ok (.ifCond .eq 16, 3) := by decide +kernel
theorem dX7_odds_37 : decode cX7_odds 37 = .ok (.iload_n 3, 1) := by decide +kernel
theorem dX7_odds_38 : decode cX7_odds 38 = .ok (.iload 4, 2) := by decide +kernel
theorem dX7_odds_40 : decode cX7_odds 40 = .ok (.iadd, 1) := by decide +kernel
theorem dX7_odds_41 : decode cX7_odds 41 = .ok (.bipush 10, 2) := by decide +kernel
theorem dX7_odds_43 : decode cX7_odds 43 = .ok (.if_icmp .gt 7, 3) := by decide +kernel
theorem dX7_odds_46 : decode cX7_odds 46 = .ok (.iconst 1, 1) := by decide +kernel
theorem dX7_odds_47 : decode cX7_odds 47 = .ok (.goto 4, 3) := by decide +kernel
theorem dX7_odds_50 : decode cX7_odds 50 = .ok (.iconst 0, 1) := by decide +kernel
theorem dX7_odds_51 : decode cX7_odds 51 = .ok (.istore 7, 2) := by decide +kernel
theorem dX7_odds_53 : decode cX7_odds 53 = .ok (.iload_n 2, 1) := by decide +kernel
theorem dX7_odds_54 : decode cX7_odds 54 = .ok (.i2l, 1) := by decide +kernel
theorem dX7_odds_55 : decode cX7_odds 55 = .ok (.lconst 0, 1) := by decide +kernel
theorem dX7_odds_56 : decode cX7_odds 56 = .ok (.ldc2_w 239, 3) := by decide +kernel
theorem dX7_odds_59 : decode cX7_odds 59 = .ok (.invokestatic 89, 3) := by decide +kernel
theorem dX7_odds_62 : decode cX7_odds 62 = .ok (.ifCond .eq 31, 3) := by decide +kernel
theorem dX7_odds_65 : decode cX7_odds 65 = .ok (.iload 7, 2) := by decide +kernel
theorem dX7_odds_67 : decode cX7_odds 67 = .ok (.ifCond .eq 26, 3) := by decide +kernel
theorem dX7_odds_70 : decode cX7_odds 70 = .ok (.iload 5, 2) := by decide +kernel
theorem dX7_odds_72 : decode cX7_odds 72 = .ok (.i2l, 1) := by decide +kernel
theorem dX7_odds_73 : decode cX7_odds 73 = .ok (.lconst 0, 1) := by decide +kernel
theorem dX7_odds_74 : decode cX7_odds 74 = .ok (.iload_n 2, 1) := by decide +kernel
theorem dX7_odds_75 : decode cX7_odds 75 = .ok (.i2l, 1) := by decide +kernel
theorem dX7_odds_76 : decode cX7_odds 76 = .ok (.invokestatic 89, 3) := by decide +kernel
theorem dX7_odds_79 : decode cX7_odds 79 = .ok (.ifCond .eq 14, 3) := by decide +kernel
theorem dX7_odds_82 : decode cX7_odds 82 = .ok (.iload 6, 2) := by decide +kernel
theorem dX7_odds_84 : decode cX7_odds 84 = .ok (.i2l, 1) := by decide +kernel
theorem dX7_odds_85 : decode cX7_odds 85 = .ok (.lconst 0, 1) := by decide +kernel
theorem dX7_odds_86 : decode cX7_odds 86 = .ok (.lconst 1, 1) := by decide +kernel
theorem dX7_odds_87 : decode cX7_odds 87 = .ok (.invokestatic 89, 3) := by decide +kernel
theorem dX7_odds_90 : decode cX7_odds 90 = .ok (.ifCond .ne 7, 3) := by decide +kernel
theorem dX7_odds_93 : decode cX7_odds 93 = .ok (.ldc2_w 241, 3) := by decide +kernel
theorem dX7_odds_96 : decode cX7_odds 96 = .ok (.lreturn, 1) := by decide +kernel
theorem dX7_odds_97 : decode cX7_odds 97 = .ok (.iconst 0, 1) := by decide +kernel
theorem dX7_odds_98 : decode cX7_odds 98 = .ok (.istore 8, 2) := by decide +kernel
theorem dX7_odds_100 : decode cX7_odds 100 = .ok (.iload 8, 2) := by decide +kernel
theorem dX7_odds_102 : decode cX7_odds 102 = .ok (.bipush 81, 2) := by decide +kernel
theorem dX7_odds_104 : decode cX7_odds 104 = .ok (.if_icmp .ge 26, 3) := by decide +kernel
theorem dX7_odds_107 : decode cX7_odds 107 = .ok (.aload_n 0, 1) := by decide +kernel
theorem dX7_odds_108 : decode cX7_odds 108 = .ok (.getfield 73, 3) := by decide +kernel
theorem dX7_odds_111 : decode cX7_odds 111 = .ok (.iload 8, 2) := by decide +kernel
theorem dX7_odds_113 : decode cX7_odds 113 = .ok (.iload 8, 2) := by decide +kernel
theorem dX7_odds_115 : decode cX7_odds 115 = .ok (.ifCond .ne 7, 3) := by decide +kernel
theorem dX7_odds_118 : decode cX7_odds 118 = .ok (.lconst 1, 1) := by decide +kernel
theorem dX7_odds_119 : decode cX7_odds 119 = .ok (.goto 4, 3) := by decide +kernel
theorem dX7_odds_122 : decode cX7_odds 122 = .ok (.lconst 0, 1) := by decide +kernel
theorem dX7_odds_123 : decode cX7_odds 123 = .ok (.lastore, 1) := by decide +kernel
theorem dX7_odds_124 : decode cX7_odds 124 = .ok (.iinc 8 1, 3) := by decide +kernel
theorem dX7_odds_127 : decode cX7_odds 127 = .ok (.goto (-27), 3) := by decide +kernel
theorem dX7_odds_130 : decode cX7_odds 130 = .ok (.lconst 1, 1) := by decide +kernel
theorem dX7_odds_131 : decode cX7_odds 131 = .ok (.lstore 8, 2) := by decide +kernel
theorem dX7_odds_133 : decode cX7_odds 133 = .ok (.iconst 0, 1) := by decide +kernel
theorem dX7_odds_134 : decode cX7_odds 134 = .ok (.istore 10, 2) := by decide +kernel
theorem dX7_odds_136 : decode cX7_odds 136 = .ok (.iload 10, 2) := by decide +kernel
theorem dX7_odds_138 : decode cX7_odds 138 = .ok (.iload_n 2, 1) := by decide +kernel
theorem dX7_odds_139 : decode cX7_odds 139 = .ok (.if_icmp .ge 35, 3) := by decide +kernel
theorem dX7_odds_142 : decode cX7_odds 142 = .ok (.aload_n 0, 1) := by decide +kernel
theorem dX7_odds_143 : decode cX7_odds 143 = .ok (.iload_n 3, 1) := by decide +kernel
theorem dX7_odds_144 : decode cX7_odds 144 = .ok (.iload 10, 2) := by decide +kernel
theorem dX7_odds_146 : decode cX7_odds 146 = .ok (.iload 5, 2) := by decide +kernel
theorem dX7_odds_148 : decode cX7_odds 148 = .ok (.if_icmp .ge 7, 3) := by decide +kernel
theorem dX7_odds_151 : decode cX7_odds 151 = .ok (.iconst 0, 1) := by decide +kernel
theorem dX7_odds_152 : decode cX7_odds 152 = .ok (.goto 5, 3) := by decide +kernel
theorem dX7_odds_155 : decode cX7_odds 155 = .ok (.iload 4, 2) := by decide +kernel
theorem dX7_odds_157 : decode cX7_odds 157 = .ok (.invokevirtual 243, 3) := by decide +kernel
theorem dX7_odds_160 : decode cX7_odds 160 = .ok (.lload 8, 2) := by decide +kernel
theorem dX7_odds_162 : decode cX7_odds 162 = .ok (.ldc2_w 235, 3) := by decide +kernel
theorem dX7_odds_165 : decode cX7_odds 165 = .ok (.lmul, 1) := by decide +kernel
theorem dX7_odds_166 : decode cX7_odds 166 = .ok (.lstore 8, 2) := by decide +kernel
theorem dX7_odds_168 : decode cX7_odds 168 = .ok (.iinc 10 1, 3) := by decide +kernel
theorem dX7_odds_171 : decode cX7_odds 171 = .ok (.goto (-35), 3) := by decide +kernel
theorem dX7_odds_174 : decode cX7_odds 174 = .ok (.aload_n 0, 1) := by decide +kernel
theorem dX7_odds_175 : decode cX7_odds 175 = .ok (.getfield 19, 3) := by decide +kernel
theorem dX7_odds_178 : decode cX7_odds 178 = .ok (.iload_n 1, 1) := by decide +kernel
theorem dX7_odds_179 : decode cX7_odds 179 = .ok (.iaload, 1) := by decide +kernel
theorem dX7_odds_180 : decode cX7_odds 180 = .ok (.ifCond .ne 22, 3) := by decide +kernel
theorem dX7_odds_183 : decode cX7_odds 183 = .ok (.aload_n 0, 1) := by decide +kernel
theorem dX7_odds_184 : decode cX7_odds 184 = .ok (.getfield 16, 3) := by decide +kernel
theorem dX7_odds_187 : decode cX7_odds 187 = .ok (.iload_n 1, 1) := by decide +kernel
theorem dX7_odds_188 : decode cX7_odds 188 = .ok (.iaload, 1) := by decide +kernel
theorem dX7_odds_189 : decode cX7_odds 189 = .ok (.aload_n 0, 1) := by decide +kernel
theorem dX7_odds_190 : decode cX7_odds 190 = .ok (.getfield 37, 3) := by decide +kernel
theorem dX7_odds_193 : decode cX7_odds 193 = .ok (.iconst 2, 1) := by decide +kernel
theorem dX7_odds_194 : decode cX7_odds 194 = .ok (.iaload, 1) := by decide +kernel
theorem dX7_odds_195 : decode cX7_odds 195 = .ok (.if_icmp .lt 7, 3) := by decide +kernel
theorem dX7_odds_198 : decode cX7_odds 198 = .ok (.iconst 1, 1) := by decide +kernel
theorem dX7_odds_199 : decode cX7_odds 199 = .ok (.goto 4, 3) := by decide +kernel
theorem dX7_odds_202 : decode cX7_odds 202 = .ok (.iconst 0, 1) := by decide +kernel
theorem dX7_odds_203 : decode cX7_odds 203 = .ok (.istore 10, 2) := by decide +kernel
theorem dX7_odds_205 : decode cX7_odds 205 = .ok (.lconst 0, 1) := by decide +kernel
theorem dX7_odds_206 : decode cX7_odds 206 = .ok (.lstore 11, 2) := by decide +kernel
theorem dX7_odds_208 : decode cX7_odds 208 = .ok (.iconst 0, 1) := by decide +kernel
theorem dX7_odds_209 : decode cX7_odds 209 = .ok (.istore 13, 2) := by decide +kernel
theorem dX7_odds_211 : decode cX7_odds 211 = .ok (.iload 13, 2) := by decide +kernel
theorem dX7_odds_213 : decode cX7_odds 213 = .ok (.bipush 81, 2) := by decide +kernel
theorem dX7_odds_215 : decode cX7_odds 215 = .ok (.if_icmp .ge 84, 3) := by decide +kernel
theorem dX7_odds_218 : decode cX7_odds 218 = .ok (.iload 10, 2) := by decide +kernel
theorem dX7_odds_220 : decode cX7_odds 220 = .ok (.ifCond .eq 49, 3) := by decide +kernel
theorem dX7_odds_223 : decode cX7_odds 223 = .ok (.aload_n 0, 1) := by decide +kernel
theorem dX7_odds_224 : decode cX7_odds 224 = .ok (.getfield 7, 3) := by decide +kernel
theorem dX7_odds_227 : decode cX7_odds 227 = .ok (.iload_n 1, 1) := by decide +kernel
theorem dX7_odds_228 : decode cX7_odds 228 = .ok (.iaload, 1) := by decide +kernel
theorem dX7_odds_229 : decode cX7_odds 229 = .ok (.iload 13, 2) := by decide +kernel
theorem dX7_odds_231 : decode cX7_odds 231 = .ok (.bipush 9, 2) := by decide +kernel
theorem dX7_odds_233 : decode cX7_odds 233 = .ok (.idiv, 1) := by decide +kernel
theorem dX7_odds_234 : decode cX7_odds 234 = .ok (.iadd, 1) := by decide +kernel
theorem dX7_odds_235 : decode cX7_odds 235 = .ok (.aload_n 0, 1) := by decide +kernel
theorem dX7_odds_236 : decode cX7_odds 236 = .ok (.getfield 37, 3) := by decide +kernel
theorem dX7_odds_239 : decode cX7_odds 239 = .ok (.iconst 0, 1) := by decide +kernel
theorem dX7_odds_240 : decode cX7_odds 240 = .ok (.iaload, 1) := by decide +kernel
theorem dX7_odds_241 : decode cX7_odds 241 = .ok (.if_icmp .lt 28, 3) := by decide +kernel
theorem dX7_odds_244 : decode cX7_odds 244 = .ok (.aload_n 0, 1) := by decide +kernel
theorem dX7_odds_245 : decode cX7_odds 245 = .ok (.getfield 13, 3) := by decide +kernel
theorem dX7_odds_248 : decode cX7_odds 248 = .ok (.iload_n 1, 1) := by decide +kernel
theorem dX7_odds_249 : decode cX7_odds 249 = .ok (.iaload, 1) := by decide +kernel
theorem dX7_odds_250 : decode cX7_odds 250 = .ok (.iload 13, 2) := by decide +kernel
theorem dX7_odds_252 : decode cX7_odds 252 = .ok (.bipush 9, 2) := by decide +kernel
theorem dX7_odds_254 : decode cX7_odds 254 = .ok (.irem, 1) := by decide +kernel
theorem dX7_odds_255 : decode cX7_odds 255 = .ok (.iadd, 1) := by decide +kernel
theorem dX7_odds_256 : decode cX7_odds 256 = .ok (.aload_n 0, 1) := by decide +kernel
theorem dX7_odds_257 : decode cX7_odds 257 = .ok (.getfield 37, 3) := by decide +kernel
theorem dX7_odds_260 : decode cX7_odds 260 = .ok (.iconst 1, 1) := by decide +kernel
theorem dX7_odds_261 : decode cX7_odds 261 = .ok (.iaload, 1) := by decide +kernel
theorem dX7_odds_262 : decode cX7_odds 262 = .ok (.if_icmp .gt 7, 3) := by decide +kernel
theorem dX7_odds_265 : decode cX7_odds 265 = .ok (.iconst 1, 1) := by decide +kernel
theorem dX7_odds_266 : decode cX7_odds 266 = .ok (.goto 4, 3) := by decide +kernel
theorem dX7_odds_269 : decode cX7_odds 269 = .ok (.iconst 0, 1) := by decide +kernel
theorem dX7_odds_270 : decode cX7_odds 270 = .ok (.istore 14, 2) := by decide +kernel
theorem dX7_odds_272 : decode cX7_odds 272 = .ok (.lload 11, 2) := by decide +kernel
theorem dX7_odds_274 : decode cX7_odds 274 = .ok (.iload 14, 2) := by decide +kernel
theorem dX7_odds_276 : decode cX7_odds 276 = .ok (.ifCond .eq 13, 3) := by decide +kernel
theorem dX7_odds_279 : decode cX7_odds 279 = .ok (.aload_n 0, 1) := by decide +kernel
theorem dX7_odds_280 : decode cX7_odds 280 = .ok (.getfield 73, 3) := by decide +kernel
theorem dX7_odds_283 : decode cX7_odds 283 = .ok (.iload 13, 2) := by decide +kernel
theorem dX7_odds_285 : decode cX7_odds 285 = .ok (.laload, 1) := by decide +kernel
theorem dX7_odds_286 : decode cX7_odds 286 = .ok (.goto 4, 3) := by decide +kernel
theorem dX7_odds_289 : decode cX7_odds 289 = .ok (.lconst 0, 1) := by decide +kernel
theorem dX7_odds_290 : decode cX7_odds 290 = .ok (.ladd, 1) := by decide +kernel
theorem dX7_odds_291 : decode cX7_odds 291 = .ok (.lstore 11, 2) := by decide +kernel
theorem dX7_odds_293 : decode cX7_odds 293 = .ok (.iinc 13 1, 3) := by decide +kernel
theorem dX7_odds_296 : decode cX7_odds 296 = .ok (.goto (-85), 3) := by decide +kernel
theorem dX7_odds_299 : decode cX7_odds 299 = .ok (.lload 11, 2) := by decide +kernel
theorem dX7_odds_301 : decode cX7_odds 301 = .ok (.lload 8, 2) := by decide +kernel
theorem dX7_odds_303 : decode cX7_odds 303 = .ok (.iload 6, 2) := by decide +kernel
theorem dX7_odds_305 : decode cX7_odds 305 = .ok (.invokestatic 247, 3) := by decide +kernel
theorem dX7_odds_308 : decode cX7_odds 308 = .ok (.lreturn, 1) := by decide +kernel
theorem dX7_sumOf_0 : decode cX7_sumOf 0 = .ok (.iconst 0, 1) := by decide +kernel
theorem dX7_sumOf_1 : decode cX7_sumOf 1 = .ok (.istore_n 3, 1) := by decide +kernel
theorem dX7_sumOf_2 : decode cX7_sumOf 2 = .ok (.iconst 0, 1) := by decide +kernel
theorem dX7_sumOf_3 : decode cX7_sumOf 3 = .ok (.istore 4, 2) := by decide +kernel
theorem dX7_sumOf_5 : decode cX7_sumOf 5 = .ok (.iload 4, 2) := by decide +kernel
theorem dX7_sumOf_7 : decode cX7_sumOf 7 = .ok (.bipush 6, 2) := by decide +kernel
theorem dX7_sumOf_9 : decode cX7_sumOf 9 = .ok (.if_icmp .ge 30, 3) := by decide +kernel
theorem dX7_sumOf_12 : decode cX7_sumOf 12 = .ok (.iload_n 3, 1) := by decide +kernel
theorem dX7_sumOf_13 : decode cX7_sumOf 13 = .ok (.iload_n 2, 1) := by decide +kernel
theorem dX7_sumOf_14 : decode cX7_sumOf 14 = .ok (.iload 4, 2) := by decide +kernel
theorem dX7_sumOf_16 : decode cX7_sumOf 16 = .ok (.ishr, 1) := by decide +kernel
theorem dX7_sumOf_17 : decode cX7_sumOf 17 = .ok (.iconst 1, 1) := by decide +kernel
theorem dX7_sumOf_18 : decode cX7_sumOf 18 = .ok (.iand, 1) := by decide +kernel
theorem dX7_sumOf_19 : decode cX7_sumOf 19 = .ok (.iconst 1, 1) := by decide +kernel
theorem dX7_sumOf_20 : decode cX7_sumOf 20 = .ok (.if_icmp .ne 10, 3) := by decide +kernel
theorem dX7_sumOf_23 : decode cX7_sumOf 23 = .ok (.aload_n 1, 1) := by decide +kernel
theorem dX7_sumOf_24 : decode cX7_sumOf 24 = .ok (.iload 4, 2) := by decide +kernel
theorem dX7_sumOf_26 : decode cX7_sumOf 26 = .ok (.iaload, 1) := by decide +kernel
theorem dX7_sumOf_27 : decode cX7_sumOf 27 = .ok (.goto 4, 3) := by decide +kernel
theorem dX7_sumOf_30 : decode cX7_sumOf 30 = .ok (.iconst 0, 1) := by decide +kernel
theorem dX7_sumOf_31 : decode cX7_sumOf 31 = .ok (.iadd, 1) := by decide +kernel
theorem dX7_sumOf_32 : decode cX7_sumOf 32 = .ok (.istore_n 3, 1) := by decide +kernel
theorem dX7_sumOf_33 : decode cX7_sumOf 33 = .ok (.iinc 4 1, 3) := by decide +kernel
theorem dX7_sumOf_36 : decode cX7_sumOf 36 = .ok (.goto (-31), 3) := by decide +kernel
theorem dX7_sumOf_39 : decode cX7_sumOf 39 = .ok (.iload_n 3, 1) := by decide +kernel
theorem dX7_sumOf_40 : decode cX7_sumOf 40 = .ok (.ireturn, 1) := by decide +kernel
theorem dX7_back_0 : decode cX7_back 0 = .ok (.iload_n 1, 1) := by decide +kernel
theorem dX7_back_1 : decode cX7_back 1 = .ok (.i2l, 1) := by decide +kernel
theorem dX7_back_2 : decode cX7_back 2 = .ok (.lconst 0, 1) := by decide +kernel
theorem dX7_back_3 : decode cX7_back 3 = .ok (.ldc2_w 123, 3) := by decide +kernel
theorem dX7_back_6 : decode cX7_back 6 = .ok (.invokestatic 89, 3) := by decide +kernel
theorem dX7_back_9 : decode cX7_back 9 = .ok (.ifCond .eq 13, 3) := by decide +kernel
theorem dX7_back_12 : decode cX7_back 12 = .ok (.iload_n 2, 1) := by decide +kernel
theorem dX7_back_13 : decode cX7_back 13 = .ok (.i2l, 1) := by decide +kernel
theorem dX7_back_14 : decode cX7_back 14 = .ok (.lconst 0, 1) := by decide +kernel
theorem dX7_back_15 : decode cX7_back 15 = .ok (.lconst 1, 1) := by decide +kernel
theorem dX7_back_16 : decode cX7_back 16 = .ok (.invokestatic 89, 3) := by decide +kernel
theorem dX7_back_19 : decode cX7_back 19 = .ok (.ifCond .ne 6, 3) := by decide +kernel
theorem dX7_back_22 : decode cX7_back 22 = .ok (.bipush (-2), 2) := by decide +kernel
theorem dX7_back_24 : decode cX7_back 24 = .ok (.ireturn, 1) := by decide +kernel
theorem dX7_back_25 : decode cX7_back 25 = .ok (.iconst 0, 1) := by decide +kernel
theorem dX7_back_26 : decode cX7_back 26 = .ok (.istore_n 3, 1) := by decide +kernel
theorem dX7_back_27 : decode cX7_back 27 = .ok (.iconst 1, 1) := by decide +kernel
theorem dX7_back_28 : decode cX7_back 28 = .ok (.istore 4, 2) := by decide +kernel
theorem dX7_back_30 : decode cX7_back 30 = .ok (.iload 4, 2) := by decide +kernel
theorem dX7_back_32 : decode cX7_back 32 = .ok (.bipush 64, 2) := by decide +kernel
theorem dX7_back_34 : decode cX7_back 34 = .ok (.if_icmp .ge 76, 3) := by decide +kernel
theorem dX7_back_37 : decode cX7_back 37 = .ok (.iload 4, 2) := by decide +kernel
theorem dX7_back_39 : decode cX7_back 39 = .ok (.aload_n 0, 1) := by decide +kernel
theorem dX7_back_40 : decode cX7_back 40 = .ok (.getfield 97, 3) := by decide +kernel
theorem dX7_back_43 : decode cX7_back 43 = .ok (.iconst (-1), 1) := by decide +kernel
theorem dX7_back_44 : decode cX7_back 44 = .ok (.ixor, 1) := by decide +kernel
theorem dX7_back_45 : decode cX7_back 45 = .ok (.iand, 1) := by decide +kernel
theorem dX7_back_46 : decode cX7_back 46 = .ok (.ifCond .ne 21, 3) := by decide +kernel
theorem dX7_back_49 : decode cX7_back 49 = .ok (.aload_n 0, 1) := by decide +kernel
theorem dX7_back_50 : decode cX7_back 50 = .ok (.aload_n 0, 1) := by decide +kernel
theorem dX7_back_51 : decode cX7_back 51 = .ok (.getfield 25, 3) := by decide +kernel
theorem dX7_back_54 : decode cX7_back 54 = .ok (.iload 4, 2) := by decide +kernel
theorem dX7_back_56 : decode cX7_back 56 = .ok (.invokevirtual 251, 3) := by decide +kernel
theorem dX7_back_59 : decode cX7_back 59 = .ok (.iload_n 1, 1) := by decide +kernel
theorem dX7_back_60 : decode cX7_back 60 = .ok (.if_icmp .gt 7, 3) := by decide +kernel
theorem dX7_back_63 : decode cX7_back 63 = .ok (.iconst 1, 1) := by decide +kernel
theorem dX7_back_64 : decode cX7_back 64 = .ok (.goto 4, 3) := by decide +kernel
theorem dX7_back_67 : decode cX7_back 67 = .ok (.iconst 0, 1) := by decide +kernel
theorem dX7_back_68 : decode cX7_back 68 = .ok (.istore 5, 2) := by decide +kernel
theorem dX7_back_70 : decode cX7_back 70 = .ok (.iload 5, 2) := by decide +kernel
theorem dX7_back_72 : decode cX7_back 72 = .ok (.ifCond .eq 30, 3) := by decide +kernel
theorem dX7_back_75 : decode cX7_back 75 = .ok (.aload_n 0, 1) := by decide +kernel
theorem dX7_back_76 : decode cX7_back 76 = .ok (.aload_n 0, 1) := by decide +kernel
theorem dX7_back_77 : decode cX7_back 77 = .ok (.getfield 28, 3) := by decide +kernel
theorem dX7_back_80 : decode cX7_back 80 = .ok (.iload 4, 2) := by decide +kernel
theorem dX7_back_82 : decode cX7_back 82 = .ok (.invokevirtual 251, 3) := by decide +kernel
theorem dX7_back_85 : decode cX7_back 85 = .ok (.aload_n 0, 1) := by decide +kernel
theorem dX7_back_86 : decode cX7_back 86 = .ok (.aload_n 0, 1) := by decide +kernel
theorem dX7_back_87 : decode cX7_back 87 = .ok (.getfield 28, 3) := by decide +kernel
theorem dX7_back_90 : decode cX7_back 90 = .ok (.iload_n 3, 1) := by decide +kernel
theorem dX7_back_91 : decode cX7_back 91 = .ok (.invokevirtual 251, 3) := by decide +kernel
theorem dX7_back_94 : decode cX7_back 94 = .ok (.if_icmp .le 8, 3) := by decide +kernel
theorem dX7_back_97 : decode cX7_back 97 = .ok (.iload 4, 2) := by decide +kernel
theorem dX7_back_99 : decode cX7_back 99 = .ok (.goto 4, 3) := by decide +kernel
theorem dX7_back_102 : decode cX7_back 102 = .ok (.iload_n 3, 1) := by decide +kernel
theorem dX7_back_103 : decode cX7_back 103 = .ok (.istore_n 3, 1) := by decide +kernel
theorem dX7_back_104 : decode cX7_back 104 = .ok (.iinc 4 1, 3) := by decide +kernel
theorem dX7_back_107 : decode cX7_back 107 = .ok (.goto (-77), 3) := by decide +kernel
theorem dX7_back_110 : decode cX7_back 110 = .ok (.iload_n 2, 1) := by decide +kernel
theorem dX7_back_111 : decode cX7_back 111 = .ok (.ifCond .ne 15, 3) := by decide +kernel
theorem dX7_back_114 : decode cX7_back 114 = .ok (.aload_n 0, 1) := by decide +kernel
theorem dX7_back_115 : decode cX7_back 115 = .ok (.aload_n 0, 1) := by decide +kernel
theorem dX7_back_116 : decode cX7_back 116 = .ok (.getfield 28, 3) := by decide +kernel
theorem dX7_back_119 : decode cX7_back 119 = .ok (.iload_n 3, 1) := by decide +kernel
theorem dX7_back_120 : decode cX7_back 120 = .ok (.invokevirtual 251, 3) := by decide +kernel
theorem dX7_back_123 : decode cX7_back 123 = .ok (.goto 4, 3) := by decide +kernel
theorem dX7_back_126 : decode cX7_back 126 = .ok (.iload_n 3, 1) := by decide +kernel
theorem dX7_back_127 : decode cX7_back 127 = .ok (.ireturn, 1) := by decide +kernel
theorem dX7_seenBy_0 : decode cX7_seenBy 0 = .ok (.iconst 0, 1) := by decide +kernel
theorem dX7_seenBy_1 : decode cX7_seenBy 1 = .ok (.istore_n 2, 1) := by decide +kernel
theorem dX7_seenBy_2 : decode cX7_seenBy 2 = .ok (.iconst 0, 1) := by decide +kernel
theorem dX7_seenBy_3 : decode cX7_seenBy 3 = .ok (.istore_n 3, 1) := by decide +kernel
theorem dX7_seenBy_4 : decode cX7_seenBy 4 = .ok (.iload_n 3, 1) := by decide +kernel
theorem dX7_seenBy_5 : decode cX7_seenBy 5 = .ok (.bipush 8, 2) := by decide +kernel
theorem dX7_seenBy_7 : decode cX7_seenBy 7 = .ok (.if_icmp .ge 31, 3) := by decide +kernel
theorem dX7_seenBy_10 : decode cX7_seenBy 10 = .ok (.iload_n 2, 1) := by decide +kernel
theorem dX7_seenBy_11 : decode cX7_seenBy 11 = .ok (.iload_n 1, 1) := by decide +kernel
theorem dX7_seenBy_12 : decode cX7_seenBy 12 = .ok (.iload_n 3, 1) := by decide +kernel
theorem dX7_seenBy_13 : decode cX7_seenBy 13 = .ok (.ishr, 1) := by decide +kernel
theorem dX7_seenBy_14 : decode cX7_seenBy 14 = .ok (.iconst 1, 1) := by decide +kernel
theorem dX7_seenBy_15 : decode cX7_seenBy 15 = .ok (.iand, 1) := by decide +kernel
theorem dX7_seenBy_16 : decode cX7_seenBy 16 = .ok (.iconst 1, 1) := by decide +kernel
theorem dX7_seenBy_17 : decode cX7_seenBy 17 = .ok (.if_icmp .ne 12, 3) := by decide +kernel
theorem dX7_seenBy_20 : decode cX7_seenBy 20 = .ok (.aload_n 0, 1) := by decide +kernel
theorem dX7_seenBy_21 : decode cX7_seenBy 21 = .ok (.getfield 40, 3) := by decide +kernel
theorem dX7_seenBy_24 : decode cX7_seenBy 24 = .ok (.iload_n 3, 1) := by decide +kernel
theorem dX7_seenBy_25 : decode cX7_seenBy 25 = .ok (.iaload, 1) := by decide +kernel
theorem dX7_seenBy_26 : decode cX7_seenBy 26 = .ok (.goto 4, 3) := by decide +kernel
theorem dX7_seenBy_29 : decode cX7_seenBy 29 = .ok (.iconst 0, 1) := by decide +kernel
theorem dX7_seenBy_30 : decode cX7_seenBy 30 = .ok (.ior, 1) := by decide +kernel
theorem dX7_seenBy_31 : decode cX7_seenBy 31 = .ok (.istore_n 2, 1) := by decide +kernel
theorem dX7_seenBy_32 : decode cX7_seenBy 32 = .ok (.iinc 3 1, 3) := by decide +kernel
theorem dX7_seenBy_35 : decode cX7_seenBy 35 = .ok (.goto (-31), 3) := by decide +kernel
theorem dX7_seenBy_38 : decode cX7_seenBy 38 = .ok (.iload_n 2, 1) := by decide +kernel
theorem dX7_seenBy_39 : decode cX7_seenBy 39 = .ok (.ireturn, 1) := by decide +kernel
theorem dX7_fewest_0 : decode cX7_fewest 0 = .ok (.iload_n 1, 1) := by decide +kernel
theorem dX7_fewest_1 : decode cX7_fewest 1 = .ok (.i2l, 1) := by decide +kernel
theorem dX7_fewest_2 : decode cX7_fewest 2 = .ok (.lconst 0, 1) := by decide +kernel
theorem dX7_fewest_3 : decode cX7_fewest 3 = .ok (.ldc2_w 129, 3) := by decide +kernel
theorem dX7_fewest_6 : decode cX7_fewest 6 = .ok (.invokestatic 89, 3) := by decide +kernel
theorem dX7_fewest_9 : decode cX7_fewest 9 = .ok (.ifCond .eq 13, 3) := by decide +kernel
theorem dX7_fewest_12 : decode cX7_fewest 12 = .ok (.iload_n 2, 1) := by decide +kernel
theorem dX7_fewest_13 : decode cX7_fewest 13 = .ok (.i2l, 1) := by decide +kernel
theorem dX7_fewest_14 : decode cX7_fewest 14 = .ok (.lconst 0, 1) := by decide +kernel
theorem dX7_fewest_15 : decode cX7_fewest 15 = .ok (.lconst 1, 1) := by decide +kernel
theorem dX7_fewest_16 : decode cX7_fewest 16 = .ok (.invokestatic 89, 3) := by decide +kernel
theorem dX7_fewest_19 : decode cX7_fewest 19 = .ok (.ifCond .ne 6, 3) := by decide +kernel
theorem dX7_fewest_22 : decode cX7_fewest 22 = .ok (.bipush (-2), 2) := by decide +kernel
theorem dX7_fewest_24 : decode cX7_fewest 24 = .ok (.ireturn, 1) := by decide +kernel
theorem dX7_fewest_25 : decode cX7_fewest 25 = .ok (.bipush (-6), 2) := by decide +kernel
theorem dX7_fewest_27 : decode cX7_fewest 27 = .ok (.istore_n 3, 1) := by decide +kernel
theorem dX7_fewest_28 : decode cX7_fewest 28 = .ok (.iconst 0, 1) := by decide +kernel
theorem dX7_fewest_29 : decode cX7_fewest 29 = .ok (.istore 4, 2) := by decide +kernel
theorem dX7_fewest_31 : decode cX7_fewest 31 = .ok (.iload 4, 2) := by decide +kernel
theorem dX7_fewest_33 : decode cX7_fewest 33 = .ok (.sipush 256, 3) := by decide +kernel
theorem dX7_fewest_36 : decode cX7_fewest 36 = .ok (.if_icmp .ge 57, 3) := by decide +kernel
theorem dX7_fewest_39 : decode cX7_fewest 39 = .ok (.iload_n 3, 1) := by decide +kernel
theorem dX7_fewest_40 : decode cX7_fewest 40 = .ok (.ifCond .lt 15, 3) := by decide +kernel
theorem dX7_fewest_43 : decode cX7_fewest 43 = .ok (.iload 4, 2) := by decide +kernel
theorem dX7_fewest_45 : decode cX7_fewest 45 = .ok (.invokestatic 109, 3) := by decide +kernel
theorem dX7_fewest_48 : decode cX7_fewest 48 = .ok (.iload_n 3, 1) := by decide +kernel
theorem dX7_fewest_49 : decode cX7_fewest 49 = .ok (.invokestatic 109, 3) := by decide +kernel
theorem dX7_fewest_52 : decode cX7_fewest 52 = .ok (.if_icmp .ge 7, 3) := by decide +kernel
theorem dX7_fewest_55 : decode cX7_fewest 55 = .ok (.iconst 1, 1) := by decide +kernel
theorem dX7_fewest_56 : decode cX7_fewest 56 = .ok (.goto 4, 3) := by decide +kernel
theorem dX7_fewest_59 : decode cX7_fewest 59 = .ok (.iconst 0, 1) := by decide +kernel
theorem dX7_fewest_60 : decode cX7_fewest 60 = .ok (.istore 5, 2) := by decide +kernel
theorem dX7_fewest_62 : decode cX7_fewest 62 = .ok (.iload 5, 2) := by decide +kernel
theorem dX7_fewest_64 : decode cX7_fewest 64 = .ok (.ifCond .eq 21, 3) := by decide +kernel
theorem dX7_fewest_67 : decode cX7_fewest 67 = .ok (.iload_n 1, 1) := by decide +kernel
theorem dX7_fewest_68 : decode cX7_fewest 68 = .ok (.aload_n 0, 1) := by decide +kernel
theorem dX7_fewest_69 : decode cX7_fewest 69 = .ok (.iload 4, 2) := by decide +kernel
theorem dX7_fewest_71 : decode cX7_fewest 71 = .ok (.invokevirtual 255, 3) := by decide +kernel
theorem dX7_fewest_74 : decode cX7_fewest 74 = .ok (.iconst (-1), 1) := by decide +kernel
theorem dX7_fewest_75 : decode cX7_fewest 75 = .ok (.ixor, 1) := by decide +kernel
theorem dX7_fewest_76 : decode cX7_fewest 76 = .ok (.iand, 1) := by decide +kernel
theorem dX7_fewest_77 : decode cX7_fewest 77 = .ok (.ifCond .ne 8, 3) := by decide +kernel
theorem dX7_fewest_80 : decode cX7_fewest 80 = .ok (.iload 4, 2) := by decide +kernel
theorem dX7_fewest_82 : decode cX7_fewest 82 = .ok (.goto 4, 3) := by decide +kernel
theorem dX7_fewest_85 : decode cX7_fewest 85 = .ok (.iload_n 3, 1) := by decide +kernel
theorem dX7_fewest_86 : decode cX7_fewest 86 = .ok (.istore_n 3, 1) := by decide +kernel
theorem dX7_fewest_87 : decode cX7_fewest 87 = .ok (.iinc 4 1, 3) := by decide +kernel
theorem dX7_fewest_90 : decode cX7_fewest 90 = .ok (.goto (-59), 3) := by decide +kernel
theorem dX7_fewest_93 : decode cX7_fewest 93 = .ok (.iload_n 3, 1) := by decide +kernel
theorem dX7_fewest_94 : decode cX7_fewest 94 = .ok (.ifCond .lt 8, 3) := by decide +kernel
theorem dX7_fewest_97 : decode cX7_fewest 97 = .ok (.iload_n 2, 1) := by decide +kernel
theorem dX7_fewest_98 : decode cX7_fewest 98 = .ok (.iconst 1, 1) := by decide +kernel
theorem dX7_fewest_99 : decode cX7_fewest 99 = .ok (.if_icmp .ne 7, 3) := by decide +kernel
theorem dX7_fewest_102 : decode cX7_fewest 102 = .ok (.iload_n 3, 1) := by decide +kernel
theorem dX7_fewest_103 : decode cX7_fewest 103 = .ok (.goto 7, 3) := by decide +kernel
theorem dX7_fewest_106 : decode cX7_fewest 106 = .ok (.iload_n 3, 1) := by decide +kernel
theorem dX7_fewest_107 : decode cX7_fewest 107 = .ok (.invokestatic 109, 3) := by decide +kernel
theorem dX7_fewest_110 : decode cX7_fewest 110 = .ok (.ireturn, 1) := by decide +kernel
theorem dX7_mostDays_0 : decode cX7_mostDays 0 = .ok (.bipush 12, 2) := by decide +kernel
theorem dX7_mostDays_2 : decode cX7_mostDays 2 = .ok (.istore_n 3, 1) := by decide +kernel
theorem dX7_mostDays_3 : decode cX7_mostDays 3 = .ok (.iconst 0, 1) := by decide +kernel
theorem dX7_mostDays_4 : decode cX7_mostDays 4 = .ok (.istore 4, 2) := by decide +kernel
theorem dX7_mostDays_6 : decode cX7_mostDays 6 = .ok (.iload 4, 2) := by decide +kernel
theorem dX7_mostDays_8 : decode cX7_mostDays 8 = .ok (.iload_n 1, 1) := by decide +kernel
theorem dX7_mostDays_9 : decode cX7_mostDays 9 = .ok (.if_icmp .gt 96, 3) := by decide +kernel
theorem dX7_mostDays_12 : decode cX7_mostDays 12 = .ok (.iload 4, 2) := by decide +kernel
theorem dX7_mostDays_14 : decode cX7_mostDays 14 = .ok (.iload_n 1, 1) := by decide +kernel
theorem dX7_mostDays_15 : decode cX7_mostDays 15 = .ok (.iconst (-1), 1) := by decide +kernel
theorem dX7_mostDays_16 : decode cX7_mostDays 16 = .ok (.ixor, 1) := by decide +kernel
theorem dX7_mostDays_17 : decode cX7_mostDays 17 = .ok (.iand, 1) := by decide +kernel
theorem dX7_mostDays_18 : decode cX7_mostDays 18 = .ok (.ifCond .ne 81, 3) := by decide +kernel
theorem dX7_mostDays_21 : decode cX7_mostDays 21 = .ok (.iconst 0, 1) := by decide +kernel
theorem dX7_mostDays_22 : decode cX7_mostDays 22 = .ok (.istore 5, 2) := by decide +kernel
theorem dX7_mostDays_24 : decode cX7_mostDays 24 = .ok (.iconst 0, 1) := by decide +kernel
theorem dX7_mostDays_25 : decode cX7_mostDays 25 = .ok (.istore 6, 2) := by decide +kernel
theorem dX7_mostDays_27 : decode cX7_mostDays 27 = .ok (.iload 6, 2) := by decide +kernel
theorem dX7_mostDays_29 : decode cX7_mostDays 29 = .ok (.bipush 6, 2) := by decide +kernel
theorem dX7_mostDays_31 : decode cX7_mostDays 31 = .ok (.if_icmp .ge 38, 3) := by decide +kernel
theorem dX7_mostDays_34 : decode cX7_mostDays 34 = .ok (.iload 5, 2) := by decide +kernel
theorem dX7_mostDays_36 : decode cX7_mostDays 36 = .ok (.iload 4, 2) := by decide +kernel
theorem dX7_mostDays_38 : decode cX7_mostDays 38 = .ok (.iload 6, 2) := by decide +kernel
theorem dX7_mostDays_40 : decode cX7_mostDays 40 = .ok (.ishr, 1) := by decide +kernel
theorem dX7_mostDays_41 : decode cX7_mostDays 41 = .ok (.iconst 1, 1) := by decide +kernel
theorem dX7_mostDays_42 : decode cX7_mostDays 42 = .ok (.iand, 1) := by decide +kernel
theorem dX7_mostDays_43 : decode cX7_mostDays 43 = .ok (.iconst 1, 1) := by decide +kernel
theorem dX7_mostDays_44 : decode cX7_mostDays 44 = .ok (.if_icmp .ne 15, 3) := by decide +kernel
theorem dX7_mostDays_47 : decode cX7_mostDays 47 = .ok (.aload_n 0, 1) := by decide +kernel
theorem dX7_mostDays_48 : decode cX7_mostDays 48 = .ok (.getfield 31, 3) := by decide +kernel
theorem dX7_mostDays_51 : decode cX7_mostDays 51 = .ok (.iload 6, 2) := by decide +kernel
theorem dX7_mostDays_53 : decode cX7_mostDays 53 = .ok (.iaload, 1) := by decide +kernel
theorem dX7_mostDays_54 : decode cX7_mostDays 54 = .ok (.iload_n 2, 1) := by decide +kernel
theorem dX7_mostDays_55 : decode cX7_mostDays 55 = .ok (.iand, 1) := by decide +kernel
theorem dX7_mostDays_56 : decode cX7_mostDays 56 = .ok (.goto 4, 3) := by decide +kernel
theorem dX7_mostDays_59 : decode cX7_mostDays 59 = .ok (.iconst 0, 1) := by decide +kernel
theorem dX7_mostDays_60 : decode cX7_mostDays 60 = .ok (.ior, 1) := by decide +kernel
theorem dX7_mostDays_61 : decode cX7_mostDays 61 = .ok (.istore 5, 2) := by decide +kernel
theorem dX7_mostDays_63 : decode cX7_mostDays 63 = .ok (.iinc 6 1, 3) := by decide +kernel
theorem dX7_mostDays_66 : decode cX7_mostDays 66 = .ok (.goto (-39), 3) := by decide +kernel
theorem dX7_mostDays_69 : decode cX7_mostDays 69 = .ok (.iload_n 1, 1) := by decide +kernel
theorem dX7_mostDays_70 : decode cX7_mostDays 70 = .ok (.iload 4, 2) := by decide +kernel
theorem dX7_mostDays_72 : decode cX7_mostDays 72 = .ok (.iconst (-1), 1) := by decide +kernel
theorem dX7_mostDays_73 : decode cX7_mostDays 73 = .ok (.ixor, 1) := by decide +kernel
theorem dX7_mostDays_74 : decode cX7_mostDays 74 = .ok (.iand, 1) := by decide +kernel
theorem dX7_mostDays_75 : decode cX7_mostDays 75 = .ok (.invokestatic 109, 3) := by decide +kernel
theorem dX7_mostDays_78 : decode cX7_mostDays 78 = .ok (.iload 5, 2) := by decide +kernel
theorem dX7_mostDays_80 : decode cX7_mostDays 80 = .ok (.invokestatic 109, 3) := by decide +kernel
theorem dX7_mostDays_83 : decode cX7_mostDays 83 = .ok (.iadd, 1) := by decide +kernel
theorem dX7_mostDays_84 : decode cX7_mostDays 84 = .ok (.istore 6, 2) := by decide +kernel
theorem dX7_mostDays_86 : decode cX7_mostDays 86 = .ok (.iload 6, 2) := by decide +kernel
theorem dX7_mostDays_88 : decode cX7_mostDays 88 = .ok (.iload_n 3, 1) := by decide +kernel
theorem dX7_mostDays_89 : decode cX7_mostDays 89 = .ok (.if_icmp .ge 8, 3) := by decide +kernel
theorem dX7_mostDays_92 : decode cX7_mostDays 92 = .ok (.iload 6, 2) := by decide +kernel
theorem dX7_mostDays_94 : decode cX7_mostDays 94 = .ok (.goto 4, 3) := by decide +kernel
theorem dX7_mostDays_97 : decode cX7_mostDays 97 = .ok (.iload_n 3, 1) := by decide +kernel
theorem dX7_mostDays_98 : decode cX7_mostDays 98 = .ok (.istore_n 3, 1) := by decide +kernel
theorem dX7_mostDays_99 : decode cX7_mostDays 99 = .ok (.iinc 4 1, 3) := by decide +kernel
theorem dX7_mostDays_102 : decode cX7_mostDays 102 = .ok (.goto (-96), 3) := by decide +kernel
theorem dX7_mostDays_105 : decode cX7_mostDays 105 = .ok (.iload_n 3, 1) := by decide +kernel
theorem dX7_mostDays_106 : decode cX7_mostDays 106 = .ok (.ireturn, 1) := by decide +kernel
theorem dX7_dayIn_0 : decode cX7_dayIn 0 = .ok (.aload_n 0, 1) := by decide +kernel
theorem dX7_dayIn_1 : decode cX7_dayIn 1 = .ok (.iload_n 2, 1) := by decide +kernel
theorem dX7_dayIn_2 : decode cX7_dayIn 2 = .ok (.iconst 1, 1) := by decide +kernel
theorem dX7_dayIn_3 : decode cX7_dayIn 3 = .ok (.iload_n 1, 1) := by decide +kernel
theorem dX7_dayIn_4 : decode cX7_dayIn 4 = .ok (.ishl, 1) := by decide +kernel
theorem dX7_dayIn_5 : decode cX7_dayIn 5 = .ok (.ior, 1) := by decide +kernel
theorem dX7_dayIn_6 : decode cX7_dayIn 6 = .ok (.iload_n 3, 1) := by decide +kernel
theorem dX7_dayIn_7 : decode cX7_dayIn 7 = .ok (.invokevirtual 258, 3) := by decide +kernel
theorem dX7_dayIn_10 : decode cX7_dayIn 10 = .ok (.istore 4, 2) := by decide +kernel
theorem dX7_dayIn_12 : decode cX7_dayIn 12 = .ok (.iconst 0, 1) := by decide +kernel
theorem dX7_dayIn_13 : decode cX7_dayIn 13 = .ok (.istore 5, 2) := by decide +kernel
theorem dX7_dayIn_15 : decode cX7_dayIn 15 = .ok (.iload 5, 2) := by decide +kernel
theorem dX7_dayIn_17 : decode cX7_dayIn 17 = .ok (.bipush 12, 2) := by decide +kernel
theorem dX7_dayIn_19 : decode cX7_dayIn 19 = .ok (.if_icmp .ge 60, 3) := by decide +kernel
theorem dX7_dayIn_22 : decode cX7_dayIn 22 = .ok (.aload_n 0, 1) := by decide +kernel
theorem dX7_dayIn_23 : decode cX7_dayIn 23 = .ok (.getfield 31, 3) := by decide +kernel
theorem dX7_dayIn_26 : decode cX7_dayIn 26 = .ok (.iload_n 1, 1) := by decide +kernel
theorem dX7_dayIn_27 : decode cX7_dayIn 27 = .ok (.iaload, 1) := by decide +kernel
theorem dX7_dayIn_28 : decode cX7_dayIn 28 = .ok (.iload_n 3, 1) := by decide +kernel
theorem dX7_dayIn_29 : decode cX7_dayIn 29 = .ok (.iand, 1) := by decide +kernel
theorem dX7_dayIn_30 : decode cX7_dayIn 30 = .ok (.iconst 1, 1) := by decide +kernel
theorem dX7_dayIn_31 : decode cX7_dayIn 31 = .ok (.iload 5, 2) := by decide +kernel
theorem dX7_dayIn_33 : decode cX7_dayIn 33 = .ok (.ishl, 1) := by decide +kernel
theorem dX7_dayIn_34 : decode cX7_dayIn 34 = .ok (.iand, 1) := by decide +kernel
theorem dX7_dayIn_35 : decode cX7_dayIn 35 = .ok (.ifCond .eq 7, 3) := by decide +kernel
theorem dX7_dayIn_38 : decode cX7_dayIn 38 = .ok (.iconst 1, 1) := by decide +kernel
theorem dX7_dayIn_39 : decode cX7_dayIn 39 = .ok (.goto 4, 3) := by decide +kernel
theorem dX7_dayIn_42 : decode cX7_dayIn 42 = .ok (.iconst 0, 1) := by decide +kernel
theorem dX7_dayIn_43 : decode cX7_dayIn 43 = .ok (.istore 6, 2) := by decide +kernel
theorem dX7_dayIn_45 : decode cX7_dayIn 45 = .ok (.iload 6, 2) := by decide +kernel
theorem dX7_dayIn_47 : decode cX7_dayIn 47 = .ok (.ifCond .eq 26, 3) := by decide +kernel
theorem dX7_dayIn_50 : decode cX7_dayIn 50 = .ok (.iconst 1, 1) := by decide +kernel
theorem dX7_dayIn_51 : decode cX7_dayIn 51 = .ok (.aload_n 0, 1) := by decide +kernel
theorem dX7_dayIn_52 : decode cX7_dayIn 52 = .ok (.iload_n 2, 1) := by decide +kernel
theorem dX7_dayIn_53 : decode cX7_dayIn 53 = .ok (.iload_n 3, 1) := by decide +kernel
theorem dX7_dayIn_54 : decode cX7_dayIn 54 = .ok (.iconst 1, 1) := by decide +kernel
theorem dX7_dayIn_55 : decode cX7_dayIn 55 = .ok (.iload 5, 2) := by decide +kernel
theorem dX7_dayIn_57 : decode cX7_dayIn 57 = .ok (.ishl, 1) := by decide +kernel
theorem dX7_dayIn_58 : decode cX7_dayIn 58 = .ok (.iconst (-1), 1) := by decide +kernel
theorem dX7_dayIn_59 : decode cX7_dayIn 59 = .ok (.ixor, 1) := by decide +kernel
theorem dX7_dayIn_60 : decode cX7_dayIn 60 = .ok (.iand, 1) := by decide +kernel
theorem dX7_dayIn_61 : decode cX7_dayIn 61 = .ok (.invokevirtual 258, 3) := by decide +kernel
theorem dX7_dayIn_64 : decode cX7_dayIn 64 = .ok (.iadd, 1) := by decide +kernel
theorem dX7_dayIn_65 : decode cX7_dayIn 65 = .ok (.iload 4, 2) := by decide +kernel
theorem dX7_dayIn_67 : decode cX7_dayIn 67 = .ok (.if_icmp .ne 6, 3) := by decide +kernel
theorem dX7_dayIn_70 : decode cX7_dayIn 70 = .ok (.iload 5, 2) := by decide +kernel
theorem dX7_dayIn_72 : decode cX7_dayIn 72 = .ok (.ireturn, 1) := by decide +kernel
theorem dX7_dayIn_73 : decode cX7_dayIn 73 = .ok (.iinc 5 1, 3) := by decide +kernel
theorem dX7_dayIn_76 : decode cX7_dayIn 76 = .ok (.goto (-61), 3) := by decide +kernel
theorem dX7_dayIn_79 : decode cX7_dayIn 79 = .ok (.bipush (-6), 2) := by decide +kernel
theorem dX7_dayIn_81 : decode cX7_dayIn 81 = .ok (.ireturn, 1) := by decide +kernel
theorem dX7_day_0 : decode cX7_day 0 = .ok (.aload_n 0, 1) := by decide +kernel
theorem dX7_day_1 : decode cX7_day 1 = .ok (.invokevirtual 261, 3) := by decide +kernel
theorem dX7_day_4 : decode cX7_day 4 = .ok (.istore_n 2, 1) := by decide +kernel
theorem dX7_day_5 : decode cX7_day 5 = .ok (.iload_n 1, 1) := by decide +kernel
theorem dX7_day_6 : decode cX7_day 6 = .ok (.iconst (-1), 1) := by decide +kernel
theorem dX7_day_7 : decode cX7_day 7 = .ok (.if_icmp .ne 12, 3) := by decide +kernel
theorem dX7_day_10 : decode cX7_day 10 = .ok (.aload_n 0, 1) := by decide +kernel
theorem dX7_day_11 : decode cX7_day 11 = .ok (.iload_n 2, 1) := by decide +kernel
theorem dX7_day_12 : decode cX7_day 12 = .ok (.sipush 4095, 3) := by decide +kernel
theorem dX7_day_15 : decode cX7_day 15 = .ok (.invokevirtual 258, 3) := by decide +kernel
theorem dX7_day_18 : decode cX7_day 18 = .ok (.ireturn, 1) := by decide +kernel
theorem dX7_day_19 : decode cX7_day 19 = .ok (.iload_n 1, 1) := by decide +kernel
theorem dX7_day_20 : decode cX7_day 20 = .ok (.invokestatic 93, 3) := by decide +kernel
theorem dX7_day_23 : decode cX7_day 23 = .ok (.ifCond .eq 11, 3) := by decide +kernel
theorem dX7_day_26 : decode cX7_day 26 = .ok (.iload_n 2, 1) := by decide +kernel
theorem dX7_day_27 : decode cX7_day 27 = .ok (.iload_n 1, 1) := by decide +kernel
theorem dX7_day_28 : decode cX7_day 28 = .ok (.ishr, 1) := by decide +kernel
theorem dX7_day_29 : decode cX7_day 29 = .ok (.iconst 1, 1) := by decide +kernel
theorem dX7_day_30 : decode cX7_day 30 = .ok (.iand, 1) := by decide +kernel
theorem dX7_day_31 : decode cX7_day 31 = .ok (.ifCond .ne 5, 3) := by decide +kernel
theorem dX7_day_34 : decode cX7_day 34 = .ok (.iconst (-1), 1) := by decide +kernel
theorem dX7_day_35 : decode cX7_day 35 = .ok (.ireturn, 1) := by decide +kernel
theorem dX7_day_36 : decode cX7_day 36 = .ok (.sipush 4095, 3) := by decide +kernel
theorem dX7_day_39 : decode cX7_day 39 = .ok (.istore_n 3, 1) := by decide +kernel
theorem dX7_day_40 : decode cX7_day 40 = .ok (.bipush (-6), 2) := by decide +kernel
theorem dX7_day_42 : decode cX7_day 42 = .ok (.istore 4, 2) := by decide +kernel
theorem dX7_day_44 : decode cX7_day 44 = .ok (.iconst 0, 1) := by decide +kernel
theorem dX7_day_45 : decode cX7_day 45 = .ok (.istore 5, 2) := by decide +kernel
theorem dX7_day_47 : decode cX7_day 47 = .ok (.iload 5, 2) := by decide +kernel
theorem dX7_day_49 : decode cX7_day 49 = .ok (.iload_n 1, 1) := by decide +kernel
theorem dX7_day_50 : decode cX7_day 50 = .ok (.if_icmp .gt 56, 3) := by decide +kernel
theorem dX7_day_53 : decode cX7_day 53 = .ok (.iload_n 2, 1) := by decide +kernel
theorem dX7_day_54 : decode cX7_day 54 = .ok (.iload 5, 2) := by decide +kernel
theorem dX7_day_56 : decode cX7_day 56 = .ok (.ishr, 1) := by decide +kernel
theorem dX7_day_57 : decode cX7_day 57 = .ok (.iconst 1, 1) := by decide +kernel
theorem dX7_day_58 : decode cX7_day 58 = .ok (.iand, 1) := by decide +kernel
theorem dX7_day_59 : decode cX7_day 59 = .ok (.iconst 1, 1) := by decide +kernel
theorem dX7_day_60 : decode cX7_day 60 = .ok (.if_icmp .ne 40, 3) := by decide +kernel
theorem dX7_day_63 : decode cX7_day 63 = .ok (.iload_n 2, 1) := by decide +kernel
theorem dX7_day_64 : decode cX7_day 64 = .ok (.iconst 1, 1) := by decide +kernel
theorem dX7_day_65 : decode cX7_day 65 = .ok (.iload 5, 2) := by decide +kernel
theorem dX7_day_67 : decode cX7_day 67 = .ok (.ishl, 1) := by decide +kernel
theorem dX7_day_68 : decode cX7_day 68 = .ok (.iconst (-1), 1) := by decide +kernel
theorem dX7_day_69 : decode cX7_day 69 = .ok (.ixor, 1) := by decide +kernel
theorem dX7_day_70 : decode cX7_day 70 = .ok (.iand, 1) := by decide +kernel
theorem dX7_day_71 : decode cX7_day 71 = .ok (.istore_n 2, 1) := by decide +kernel
theorem dX7_day_72 : decode cX7_day 72 = .ok (.aload_n 0, 1) := by decide +kernel
theorem dX7_day_73 : decode cX7_day 73 = .ok (.iload 5, 2) := by decide +kernel
theorem dX7_day_75 : decode cX7_day 75 = .ok (.iload_n 2, 1) := by decide +kernel
theorem dX7_day_76 : decode cX7_day 76 = .ok (.iload_n 3, 1) := by decide +kernel
theorem dX7_day_77 : decode cX7_day 77 = .ok (.invokevirtual 264, 3) := by decide +kernel
theorem dX7_day_80 : decode cX7_day 80 = .ok (.istore 4, 2) := by decide +kernel
theorem dX7_day_82 : decode cX7_day 82 = .ok (.iload_n 3, 1) := by decide +kernel
theorem dX7_day_83 : decode cX7_day 83 = .ok (.iload 4, 2) := by decide +kernel
theorem dX7_day_85 : decode cX7_day 85 = .ok (.ifCond .ge 7, 3) := by decide +kernel
theorem dX7_day_88 : decode cX7_day 88 = .ok (.iload_n 3, 1) := by decide +kernel
theorem dX7_day_89 : decode cX7_day 89 = .ok (.goto 9, 3) := by decide +kernel
theorem dX7_day_92 : decode cX7_day 92 = .ok (.iconst 1, 1) := by decide +kernel
theorem dX7_day_93 : decode cX7_day 93 = .ok (.iload 4, 2) := by decide +kernel
theorem dX7_day_95 : decode cX7_day 95 = .ok (.ishl, 1) := by decide +kernel
theorem dX7_day_96 : decode cX7_day 96 = .ok (.iconst (-1), 1) := by decide +kernel
theorem dX7_day_97 : decode cX7_day 97 = .ok (.ixor, 1) := by decide +kernel
theorem dX7_day_98 : decode cX7_day 98 = .ok (.iand, 1) := by decide +kernel
theorem dX7_day_99 : decode cX7_day 99 = .ok (.istore_n 3, 1) := by decide +kernel
theorem dX7_day_100 : decode cX7_day 100 = .ok (.iinc 5 1, 3) := by decide +kernel
theorem dX7_day_103 : decode cX7_day 103 = .ok (.goto (-56), 3) := by decide +kernel
theorem dX7_day_106 : decode cX7_day 106 = .ok (.iload 4, 2) := by decide +kernel
theorem dX7_day_108 : decode cX7_day 108 = .ok (.ireturn, 1) := by decide +kernel
theorem dX7_at_0 : decode cX7_at 0 = .ok (.bipush 49, 2) := by decide +kernel
theorem dX7_at_2 : decode cX7_at 2 = .ok (.iload_n 0, 1) := by decide +kernel
theorem dX7_at_3 : decode cX7_at 3 = .ok (.imul, 1) := by decide +kernel
theorem dX7_at_4 : decode cX7_at 4 = .ok (.bipush 7, 2) := by decide +kernel
theorem dX7_at_6 : decode cX7_at 6 = .ok (.iload_n 1, 1) := by decide +kernel
theorem dX7_at_7 : decode cX7_at 7 = .ok (.imul, 1) := by decide +kernel
theorem dX7_at_8 : decode cX7_at 8 = .ok (.iadd, 1) := by decide +kernel
theorem dX7_at_9 : decode cX7_at 9 = .ok (.iload_n 2, 1) := by decide +kernel
theorem dX7_at_10 : decode cX7_at 10 = .ok (.iadd, 1) := by decide +kernel
theorem dX7_at_11 : decode cX7_at 11 = .ok (.ireturn, 1) := by decide +kernel
theorem dX7_wondersAt_0 : decode cX7_wondersAt 0 = .ok (.aload_n 0, 1) := by decide +kernel
theorem dX7_wondersAt_1 : decode cX7_wondersAt 1 = .ok (.getfield 7, 3) := by decide +kernel
theorem dX7_wondersAt_4 : decode cX7_wondersAt 4 = .ok (.iload_n 1, 1) := by decide +kernel
theorem dX7_wondersAt_5 : decode cX7_wondersAt 5 = .ok (.iaload, 1) := by decide +kernel
theorem dX7_wondersAt_6 : decode cX7_wondersAt 6 = .ok (.iload_n 2, 1) := by decide +kernel
theorem dX7_wondersAt_7 : decode cX7_wondersAt 7 = .ok (.iadd, 1) := by decide +kernel
theorem dX7_wondersAt_8 : decode cX7_wondersAt 8 = .ok (.iload_n 3, 1) := by decide +kernel
theorem dX7_wondersAt_9 : decode cX7_wondersAt 9 = .ok (.isub, 1) := by decide +kernel
theorem dX7_wondersAt_10 : decode cX7_wondersAt 10 = .ok (.ireturn, 1) := by decide +kernel
theorem dX7_sinsAt_0 : decode cX7_sinsAt 0 = .ok (.aload_n 0, 1) := by decide +kernel
theorem dX7_sinsAt_1 : decode cX7_sinsAt 1 = .ok (.getfield 13, 3) := by decide +kernel
theorem dX7_sinsAt_4 : decode cX7_sinsAt 4 = .ok (.iload_n 1, 1) := by decide +kernel
theorem dX7_sinsAt_5 : decode cX7_sinsAt 5 = .ok (.iaload, 1) := by decide +kernel
theorem dX7_sinsAt_6 : decode cX7_sinsAt 6 = .ok (.iload_n 2, 1) := by decide +kernel
theorem dX7_sinsAt_7 : decode cX7_sinsAt 7 = .ok (.iconst 1, 1) := by decide +kernel
theorem dX7_sinsAt_8 : decode cX7_sinsAt 8 = .ok (.iadd, 1) := by decide +kernel
theorem dX7_sinsAt_9 : decode cX7_sinsAt 9 = .ok (.iconst 2, 1) := by decide +kernel
theorem dX7_sinsAt_10 : decode cX7_sinsAt 10 = .ok (.idiv, 1) := by decide +kernel
theorem dX7_sinsAt_11 : decode cX7_sinsAt 11 = .ok (.iload_n 3, 1) := by decide +kernel
theorem dX7_sinsAt_12 : decode cX7_sinsAt 12 = .ok (.isub, 1) := by decide +kernel
theorem dX7_sinsAt_13 : decode cX7_sinsAt 13 = .ok (.isub, 1) := by decide +kernel
theorem dX7_sinsAt_14 : decode cX7_sinsAt 14 = .ok (.iload_n 2, 1) := by decide +kernel
theorem dX7_sinsAt_15 : decode cX7_sinsAt 15 = .ok (.iconst 2, 1) := by decide +kernel
theorem dX7_sinsAt_16 : decode cX7_sinsAt 16 = .ok (.idiv, 1) := by decide +kernel
theorem dX7_sinsAt_17 : decode cX7_sinsAt 17 = .ok (.iload 4, 2) := by decide +kernel
theorem dX7_sinsAt_19 : decode cX7_sinsAt 19 = .ok (.isub, 1) := by decide +kernel
theorem dX7_sinsAt_20 : decode cX7_sinsAt 20 = .ok (.iadd, 1) := by decide +kernel
theorem dX7_sinsAt_21 : decode cX7_sinsAt 21 = .ok (.ireturn, 1) := by decide +kernel
theorem dX7_endOf_0 : decode cX7_endOf 0 = .ok (.aload_n 0, 1) := by decide +kernel
theorem dX7_endOf_1 : decode cX7_endOf 1 = .ok (.iload_n 1, 1) := by decide +kernel
theorem dX7_endOf_2 : decode cX7_endOf 2 = .ok (.iload_n 3, 1) := by decide +kernel
theorem dX7_endOf_3 : decode cX7_endOf 3 = .ok (.iload 4, 2) := by decide +kernel
theorem dX7_endOf_5 : decode cX7_endOf 5 = .ok (.invokevirtual 268, 3) := by decide +kernel
theorem dX7_endOf_8 : decode cX7_endOf 8 = .ok (.istore 5, 2) := by decide +kernel
theorem dX7_endOf_10 : decode cX7_endOf 10 = .ok (.aload_n 0, 1) := by decide +kernel
theorem dX7_endOf_11 : decode cX7_endOf 11 = .ok (.iload_n 1, 1) := by decide +kernel
theorem dX7_endOf_12 : decode cX7_endOf 12 = .ok (.iload_n 2, 1) := by decide +kernel
theorem dX7_endOf_13 : decode cX7_endOf 13 = .ok (.iload_n 3, 1) := by decide +kernel
theorem dX7_endOf_14 : decode cX7_endOf 14 = .ok (.iload 4, 2) := by decide +kernel
theorem dX7_endOf_16 : decode cX7_endOf 16 = .ok (.invokevirtual 271, 3) := by decide +kernel
theorem dX7_endOf_19 : decode cX7_endOf 19 = .ok (.istore 6, 2) := by decide +kernel
theorem dX7_endOf_21 : decode cX7_endOf 21 = .ok (.iload_n 2, 1) := by decide +kernel
theorem dX7_endOf_22 : decode cX7_endOf 22 = .ok (.iconst 2, 1) := by decide +kernel
theorem dX7_endOf_23 : decode cX7_endOf 23 = .ok (.irem, 1) := by decide +kernel
theorem dX7_endOf_24 : decode cX7_endOf 24 = .ok (.ifCond .ne 71, 3) := by decide +kernel
theorem dX7_endOf_27 : decode cX7_endOf 27 = .ok (.iload_n 3, 1) := by decide +kernel
theorem dX7_endOf_28 : decode cX7_endOf 28 = .ok (.bipush 6, 2) := by decide +kernel
theorem dX7_endOf_30 : decode cX7_endOf 30 = .ok (.if_icmp .ge 22, 3) := by decide +kernel
theorem dX7_endOf_33 : decode cX7_endOf 33 = .ok (.aload_n 0, 1) := by decide +kernel
theorem dX7_endOf_34 : decode cX7_endOf 34 = .ok (.getfield 77, 3) := by decide +kernel
theorem dX7_endOf_37 : decode cX7_endOf 37 = .ok (.iload_n 2, 1) := by decide +kernel
theorem dX7_endOf_38 : decode cX7_endOf 38 = .ok (.iconst 1, 1) := by decide +kernel
theorem dX7_endOf_39 : decode cX7_endOf 39 = .ok (.iadd, 1) := by decide +kernel
theorem dX7_endOf_40 : decode cX7_endOf 40 = .ok (.iload_n 3, 1) := by decide +kernel
theorem dX7_endOf_41 : decode cX7_endOf 41 = .ok (.iconst 1, 1) := by decide +kernel
theorem dX7_endOf_42 : decode cX7_endOf 42 = .ok (.iadd, 1) := by decide +kernel
theorem dX7_endOf_43 : decode cX7_endOf 43 = .ok (.iload 4, 2) := by decide +kernel
theorem dX7_endOf_45 : decode cX7_endOf 45 = .ok (.invokestatic 274, 3) := by decide +kernel
theorem dX7_endOf_48 : decode cX7_endOf 48 = .ok (.iaload, 1) := by decide +kernel
theorem dX7_endOf_49 : decode cX7_endOf 49 = .ok (.goto 4, 3) := by decide +kernel
theorem dX7_endOf_52 : decode cX7_endOf 52 = .ok (.iconst 0, 1) := by decide +kernel
theorem dX7_endOf_53 : decode cX7_endOf 53 = .ok (.istore 7, 2) := by decide +kernel
theorem dX7_endOf_55 : decode cX7_endOf 55 = .ok (.iload 6, 2) := by decide +kernel
theorem dX7_endOf_57 : decode cX7_endOf 57 = .ok (.ifCond .le 20, 3) := by decide +kernel
theorem dX7_endOf_60 : decode cX7_endOf 60 = .ok (.aload_n 0, 1) := by decide +kernel
theorem dX7_endOf_61 : decode cX7_endOf 61 = .ok (.getfield 77, 3) := by decide +kernel
theorem dX7_endOf_64 : decode cX7_endOf 64 = .ok (.iload_n 2, 1) := by decide +kernel
theorem dX7_endOf_65 : decode cX7_endOf 65 = .ok (.iconst 1, 1) := by decide +kernel
theorem dX7_endOf_66 : decode cX7_endOf 66 = .ok (.iadd, 1) := by decide +kernel
theorem dX7_endOf_67 : decode cX7_endOf 67 = .ok (.iload_n 3, 1) := by decide +kernel
theorem dX7_endOf_68 : decode cX7_endOf 68 = .ok (.iload 4, 2) := by decide +kernel
theorem dX7_endOf_70 : decode cX7_endOf 70 = .ok (.invokestatic 274, 3) := by decide +kernel
theorem dX7_endOf_73 : decode cX7_endOf 73 = .ok (.iaload, 1) := by decide +kernel
theorem dX7_endOf_74 : decode cX7_endOf 74 = .ok (.goto 4, 3) := by decide +kernel
theorem dX7_endOf_77 : decode cX7_endOf 77 = .ok (.iconst 0, 1) := by decide +kernel
theorem dX7_endOf_78 : decode cX7_endOf 78 = .ok (.istore 8, 2) := by decide +kernel
theorem dX7_endOf_80 : decode cX7_endOf 80 = .ok (.iload 7, 2) := by decide +kernel
theorem dX7_endOf_82 : decode cX7_endOf 82 = .ok (.iload 8, 2) := by decide +kernel
theorem dX7_endOf_84 : decode cX7_endOf 84 = .ok (.if_icmp .le 8, 3) := by decide +kernel
theorem dX7_endOf_87 : decode cX7_endOf 87 = .ok (.iload 7, 2) := by decide +kernel
theorem dX7_endOf_89 : decode cX7_endOf 89 = .ok (.goto 5, 3) := by decide +kernel
theorem dX7_endOf_92 : decode cX7_endOf 92 = .ok (.iload 8, 2) := by decide +kernel
theorem dX7_endOf_94 : decode cX7_endOf 94 = .ok (.ireturn, 1) := by decide +kernel
theorem dX7_endOf_95 : decode cX7_endOf 95 = .ok (.aload_n 0, 1) := by decide +kernel
theorem dX7_endOf_96 : decode cX7_endOf 96 = .ok (.getfield 77, 3) := by decide +kernel
theorem dX7_endOf_99 : decode cX7_endOf 99 = .ok (.iload_n 2, 1) := by decide +kernel
theorem dX7_endOf_100 : decode cX7_endOf 100 = .ok (.iconst 1, 1) := by decide +kernel
theorem dX7_endOf_101 : decode cX7_endOf 101 = .ok (.iadd, 1) := by decide +kernel
theorem dX7_endOf_102 : decode cX7_endOf 102 = .ok (.iload_n 3, 1) := by decide +kernel
theorem dX7_endOf_103 : decode cX7_endOf 103 = .ok (.iload 4, 2) := by decide +kernel
theorem dX7_endOf_105 : decode cX7_endOf 105 = .ok (.invokestatic 274, 3) := by decide +kernel
theorem dX7_endOf_108 : decode cX7_endOf 108 = .ok (.iaload, 1) := by decide +kernel
theorem dX7_endOf_109 : decode cX7_endOf 109 = .ok (.istore 7, 2) := by decide +kernel
theorem dX7_endOf_111 : decode cX7_endOf 111 = .ok (.iload 5, 2) := by decide +kernel
theorem dX7_endOf_113 : decode cX7_endOf 113 = .ok (.ifCond .le 29, 3) := by decide +kernel
theorem dX7_endOf_116 : decode cX7_endOf 116 = .ok (.iload 4, 2) := by decide +kernel
theorem dX7_endOf_118 : decode cX7_endOf 118 = .ok (.bipush 6, 2) := by decide +kernel
theorem dX7_endOf_120 : decode cX7_endOf 120 = .ok (.if_icmp .ge 22, 3) := by decide +kernel
theorem dX7_endOf_123 : decode cX7_endOf 123 = .ok (.aload_n 0, 1) := by decide +kernel
theorem dX7_endOf_124 : decode cX7_endOf 124 = .ok (.getfield 77, 3) := by decide +kernel
theorem dX7_endOf_127 : decode cX7_endOf 127 = .ok (.iload_n 2, 1) := by decide +kernel
theorem dX7_endOf_128 : decode cX7_endOf 128 = .ok (.iconst 1, 1) := by decide +kernel
theorem dX7_endOf_129 : decode cX7_endOf 129 = .ok (.iadd, 1) := by decide +kernel
theorem dX7_endOf_130 : decode cX7_endOf 130 = .ok (.iload_n 3, 1) := by decide +kernel
theorem dX7_endOf_131 : decode cX7_endOf 131 = .ok (.iload 4, 2) := by decide +kernel
theorem dX7_endOf_133 : decode cX7_endOf 133 = .ok (.iconst 1, 1) := by decide +kernel
theorem dX7_endOf_134 : decode cX7_endOf 134 = .ok (.iadd, 1) := by decide +kernel
theorem dX7_endOf_135 : decode cX7_endOf 135 = .ok (.invokestatic 274, 3) := by decide +kernel
theorem dX7_endOf_138 : decode cX7_endOf 138 = .ok (.iaload, 1) := by decide +kernel
theorem dX7_endOf_139 : decode cX7_endOf 139 = .ok (.goto 4, 3) := by decide +kernel
theorem dX7_endOf_142 : decode cX7_endOf 142 = .ok (.iconst 1, 1) := by decide +kernel
theorem dX7_endOf_143 : decode cX7_endOf 143 = .ok (.istore 8, 2) := by decide +kernel
theorem dX7_endOf_145 : decode cX7_endOf 145 = .ok (.iload 7, 2) := by decide +kernel
theorem dX7_endOf_147 : decode cX7_endOf 147 = .ok (.iload 8, 2) := by decide +kernel
theorem dX7_endOf_149 : decode cX7_endOf 149 = .ok (.if_icmp .ge 8, 3) := by decide +kernel
theorem dX7_endOf_152 : decode cX7_endOf 152 = .ok (.iload 7, 2) := by decide +kernel
theorem dX7_endOf_154 : decode cX7_endOf 154 = .ok (.goto 5, 3) := by decide +kernel
theorem dX7_endOf_157 : decode cX7_endOf 157 = .ok (.iload 8, 2) := by decide +kernel
theorem dX7_endOf_159 : decode cX7_endOf 159 = .ok (.ireturn, 1) := by decide +kernel
theorem dX7_findEnds_0 : decode cX7_findEnds 0 = .ok (.iload_n 2, 1) := by decide +kernel
theorem dX7_findEnds_1 : decode cX7_findEnds 1 = .ok (.istore_n 3, 1) := by decide +kernel
theorem dX7_findEnds_2 : decode cX7_findEnds 2 = .ok (.iload_n 3, 1) := by decide +kernel
theorem dX7_findEnds_3 : decode cX7_findEnds 3 = .ok (.ifCond .lt 141, 3) := by decide +kernel
theorem dX7_findEnds_6 : decode cX7_findEnds 6 = .ok (.iconst 0, 1) := by decide +kernel
theorem dX7_findEnds_7 : decode cX7_findEnds 7 = .ok (.istore 4, 2) := by decide +kernel
theorem dX7_findEnds_9 : decode cX7_findEnds 9 = .ok (.iload 4, 2) := by decide +kernel
theorem dX7_findEnds_11 : decode cX7_findEnds 11 = .ok (.bipush 7, 2) := by decide +kernel
theorem dX7_findEnds_13 : decode cX7_findEnds 13 = .ok (.if_icmp .ge 125, 3) := by decide +kernel
theorem dX7_findEnds_16 : decode cX7_findEnds 16 = .ok (.iconst 0, 1) := by decide +kernel
theorem dX7_findEnds_17 : decode cX7_findEnds 17 = .ok (.istore 5, 2) := by decide +kernel
theorem dX7_findEnds_19 : decode cX7_findEnds 19 = .ok (.iload 5, 2) := by decide +kernel
theorem dX7_findEnds_21 : decode cX7_findEnds 21 = .ok (.bipush 7, 2) := by decide +kernel
theorem dX7_findEnds_23 : decode cX7_findEnds 23 = .ok (.if_icmp .ge 109, 3) := by decide +kernel
theorem dX7_findEnds_26 : decode cX7_findEnds 26 = .ok (.aload_n 0, 1) := by decide +kernel
theorem dX7_findEnds_27 : decode cX7_findEnds 27 = .ok (.iload_n 1, 1) := by decide +kernel
theorem dX7_findEnds_28 : decode cX7_findEnds 28 = .ok (.iload 4, 2) := by decide +kernel
theorem dX7_findEnds_30 : decode cX7_findEnds 30 = .ok (.iload 5, 2) := by decide +kernel
theorem dX7_findEnds_32 : decode cX7_findEnds 32 = .ok (.invokevirtual 268, 3) := by decide +kernel
theorem dX7_findEnds_35 : decode cX7_findEnds 35 = .ok (.aload_n 0, 1) := by decide +kernel
theorem dX7_findEnds_36 : decode cX7_findEnds 36 = .ok (.getfield 37, 3) := by decide +kernel
theorem dX7_findEnds_39 : decode cX7_findEnds 39 = .ok (.iconst 0, 1) := by decide +kernel
theorem dX7_findEnds_40 : decode cX7_findEnds 40 = .ok (.iaload, 1) := by decide +kernel
theorem dX7_findEnds_41 : decode cX7_findEnds 41 = .ok (.if_icmp .lt 41, 3) := by decide +kernel
theorem dX7_findEnds_44 : decode cX7_findEnds 44 = .ok (.aload_n 0, 1) := by decide +kernel
theorem dX7_findEnds_45 : decode cX7_findEnds 45 = .ok (.iload_n 1, 1) := by decide +kernel
theorem dX7_findEnds_46 : decode cX7_findEnds 46 = .ok (.iload_n 3, 1) := by decide +kernel
theorem dX7_findEnds_47 : decode cX7_findEnds 47 = .ok (.iload 4, 2) := by decide +kernel
theorem dX7_findEnds_49 : decode cX7_findEnds 49 = .ok (.iload 5, 2) := by decide +kernel
theorem dX7_findEnds_51 : decode cX7_findEnds 51 = .ok (.invokevirtual 271, 3) := by decide +kernel
theorem dX7_findEnds_54 : decode cX7_findEnds 54 = .ok (.aload_n 0, 1) := by decide +kernel
theorem dX7_findEnds_55 : decode cX7_findEnds 55 = .ok (.getfield 37, 3) := by decide +kernel
theorem dX7_findEnds_58 : decode cX7_findEnds 58 = .ok (.iconst 1, 1) := by decide +kernel
theorem dX7_findEnds_59 : decode cX7_findEnds 59 = .ok (.iaload, 1) := by decide +kernel
theorem dX7_findEnds_60 : decode cX7_findEnds 60 = .ok (.if_icmp .gt 22, 3) := by decide +kernel
theorem dX7_findEnds_63 : decode cX7_findEnds 63 = .ok (.aload_n 0, 1) := by decide +kernel
theorem dX7_findEnds_64 : decode cX7_findEnds 64 = .ok (.getfield 16, 3) := by decide +kernel
theorem dX7_findEnds_67 : decode cX7_findEnds 67 = .ok (.iload_n 1, 1) := by decide +kernel
theorem dX7_findEnds_68 : decode cX7_findEnds 68 = .ok (.iaload, 1) := by decide +kernel
theorem dX7_findEnds_69 : decode cX7_findEnds 69 = .ok (.aload_n 0, 1) := by decide +kernel
theorem dX7_findEnds_70 : decode cX7_findEnds 70 = .ok (.getfield 37, 3) := by decide +kernel
theorem dX7_findEnds_73 : decode cX7_findEnds 73 = .ok (.iconst 2, 1) := by decide +kernel
theorem dX7_findEnds_74 : decode cX7_findEnds 74 = .ok (.iaload, 1) := by decide +kernel
theorem dX7_findEnds_75 : decode cX7_findEnds 75 = .ok (.if_icmp .lt 7, 3) := by decide +kernel
theorem dX7_findEnds_78 : decode cX7_findEnds 78 = .ok (.iconst 1, 1) := by decide +kernel
theorem dX7_findEnds_79 : decode cX7_findEnds 79 = .ok (.goto 4, 3) := by decide +kernel
theorem dX7_findEnds_82 : decode cX7_findEnds 82 = .ok (.iconst 0, 1) := by decide +kernel
theorem dX7_findEnds_83 : decode cX7_findEnds 83 = .ok (.istore 6, 2) := by decide +kernel
theorem dX7_findEnds_85 : decode cX7_findEnds 85 = .ok (.aload_n 0, 1) := by decide +kernel
theorem dX7_findEnds_86 : decode cX7_findEnds 86 = .ok (.getfield 77, 3) := by decide +kernel
theorem dX7_findEnds_89 : decode cX7_findEnds 89 = .ok (.iload_n 3, 1) := by decide +kernel
theorem dX7_findEnds_90 : decode cX7_findEnds 90 = .ok (.iload 4, 2) := by decide +kernel
theorem dX7_findEnds_92 : decode cX7_findEnds 92 = .ok (.iload 5, 2) := by decide +kernel
theorem dX7_findEnds_94 : decode cX7_findEnds 94 = .ok (.invokestatic 274, 3) := by decide +kernel
theorem dX7_findEnds_97 : decode cX7_findEnds 97 = .ok (.iload_n 3, 1) := by decide +kernel
theorem dX7_findEnds_98 : decode cX7_findEnds 98 = .ok (.iload_n 2, 1) := by decide +kernel
theorem dX7_findEnds_99 : decode cX7_findEnds 99 = .ok (.if_icmp .ne 16, 3) := by decide +kernel
theorem dX7_findEnds_102 : decode cX7_findEnds 102 = .ok (.iload 6, 2) := by decide +kernel
theorem dX7_findEnds_104 : decode cX7_findEnds 104 = .ok (.ifCond .eq 7, 3) := by decide +kernel
theorem dX7_findEnds_107 : decode cX7_findEnds 107 = .ok (.iconst 1, 1) := by decide +kernel
theorem dX7_findEnds_108 : decode cX7_findEnds 108 = .ok (.goto 17, 3) := by decide +kernel
theorem dX7_findEnds_111 : decode cX7_findEnds 111 = .ok (.iconst 0, 1) := by decide +kernel
theorem dX7_findEnds_112 : decode cX7_findEnds 112 = .ok (.goto 13, 3) := by decide +kernel
theorem dX7_findEnds_115 : decode cX7_findEnds 115 = .ok (.aload_n 0, 1) := by decide +kernel
theorem dX7_findEnds_116 : decode cX7_findEnds 116 = .ok (.iload_n 1, 1) := by decide +kernel
theorem dX7_findEnds_117 : decode cX7_findEnds 117 = .ok (.iload_n 3, 1) := by decide +kernel
theorem dX7_findEnds_118 : decode cX7_findEnds 118 = .ok (.iload 4, 2) := by decide +kernel
theorem dX7_findEnds_120 : decode cX7_findEnds 120 = .ok (.iload 5, 2) := by decide +kernel
theorem dX7_findEnds_122 : decode cX7_findEnds 122 = .ok (.invokevirtual 277, 3) := by decide +kernel
theorem dX7_findEnds_125 : decode cX7_findEnds 125 = .ok (.iastore, 1) := by decide +kernel
theorem dX7_findEnds_126 : decode cX7_findEnds 126 = .ok (.iinc 5 1, 3) := by decide +kernel
theorem dX7_findEnds_129 : decode cX7_findEnds 129 = .ok (.goto (-110), 3) := by decide +kernel
theorem dX7_findEnds_132 : decode cX7_findEnds 132 = .ok (.iinc 4 1, 3) := by decide +kernel
theorem dX7_findEnds_135 : decode cX7_findEnds 135 = .ok (.goto (-126), 3) := by decide +kernel
theorem dX7_findEnds_138 : decode cX7_findEnds 138 = .ok (.iinc 3 (-1), 3) := by decide +kernel
theorem dX7_findEnds_141 : decode cX7_findEnds 141 = .ok (.goto (-139), 3) := by decide +kernel
theorem dX7_findEnds_144 : decode cX7_findEnds 144 = .ok (.return_, 1) := by decide +kernel
theorem dX7_rivals_0 : decode cX7_rivals 0 = .ok (.aload_n 0, 1) := by decide +kernel
theorem dX7_rivals_1 : decode cX7_rivals 1 = .ok (.iload_n 1, 1) := by decide +kernel
theorem dX7_rivals_2 : decode cX7_rivals 2 = .ok (.invokevirtual 113, 3) := by decide +kernel
theorem dX7_rivals_5 : decode cX7_rivals 5 = .ok (.ifCond .ne 5, 3) := by decide +kernel
theorem dX7_rivals_8 : decode cX7_rivals 8 = .ok (.iconst (-1), 1) := by decide +kernel
theorem dX7_rivals_9 : decode cX7_rivals 9 = .ok (.ireturn, 1) := by decide +kernel
theorem dX7_rivals_10 : decode cX7_rivals 10 = .ok (.iload_n 2, 1) := by decide +kernel
theorem dX7_rivals_11 : decode cX7_rivals 11 = .ok (.i2l, 1) := by decide +kernel
theorem dX7_rivals_12 : decode cX7_rivals 12 = .ok (.lconst 0, 1) := by decide +kernel
