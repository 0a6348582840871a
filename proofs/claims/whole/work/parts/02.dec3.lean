theorem dX6_holds_59 : decode cX6_holds 59 = .ok (.iload_n 2, 1) := by decide +kernel
theorem dX6_holds_60 : decode cX6_holds 60 = .ok (.iload_n 1, 1) := by decide +kernel
theorem dX6_holds_61 : decode cX6_holds 61 = .ok (.invokevirtual 141, 3) := by decide +kernel
theorem dX6_holds_64 : decode cX6_holds 64 = .ok (.ireturn, 1) := by decide +kernel
theorem dX6_wrong_0 : decode cX6_wrong 0 = .ok (.iload_n 1, 1) := by decide +kernel
theorem dX6_wrong_1 : decode cX6_wrong 1 = .ok (.iconst 0, 1) := by decide +kernel
theorem dX6_wrong_2 : decode cX6_wrong 2 = .ok (.iconst 1, 1) := by decide +kernel
theorem dX6_wrong_3 : decode cX6_wrong 3 = .ok (.invokestatic 58, 3) := by decide +kernel
theorem dX6_wrong_6 : decode cX6_wrong 6 = .ok (.ifCond .ne 6, 3) := by decide +kernel
theorem dX6_wrong_9 : decode cX6_wrong 9 = .ok (.bipush (-2), 2) := by decide +kernel
theorem dX6_wrong_11 : decode cX6_wrong 11 = .ok (.ireturn, 1) := by decide +kernel
theorem dX6_wrong_12 : decode cX6_wrong 12 = .ok (.aload_n 0, 1) := by decide +kernel
theorem dX6_wrong_13 : decode cX6_wrong 13 = .ok (.invokevirtual 114, 3) := by decide +kernel
theorem dX6_wrong_16 : decode cX6_wrong 16 = .ok (.istore_n 2, 1) := by decide +kernel
theorem dX6_wrong_17 : decode cX6_wrong 17 = .ok (.iload_n 2, 1) := by decide +kernel
theorem dX6_wrong_18 : decode cX6_wrong 18 = .ok (.ifCond .eq 5, 3) := by decide +kernel
theorem dX6_wrong_21 : decode cX6_wrong 21 = .ok (.iload_n 2, 1) := by decide +kernel
theorem dX6_wrong_22 : decode cX6_wrong 22 = .ok (.ireturn, 1) := by decide +kernel
theorem dX6_wrong_23 : decode cX6_wrong 23 = .ok (.iload_n 1, 1) := by decide +kernel
theorem dX6_wrong_24 : decode cX6_wrong 24 = .ok (.ifCond .ne 13, 3) := by decide +kernel
theorem dX6_wrong_27 : decode cX6_wrong 27 = .ok (.aload_n 0, 1) := by decide +kernel
theorem dX6_wrong_28 : decode cX6_wrong 28 = .ok (.getfield 33, 3) := by decide +kernel
theorem dX6_wrong_31 : decode cX6_wrong 31 = .ok (.getfield 145, 3) := by decide +kernel
theorem dX6_wrong_34 : decode cX6_wrong 34 = .ok (.goto 10, 3) := by decide +kernel
theorem dX6_wrong_37 : decode cX6_wrong 37 = .ok (.aload_n 0, 1) := by decide +kernel
theorem dX6_wrong_38 : decode cX6_wrong 38 = .ok (.getfield 33, 3) := by decide +kernel
theorem dX6_wrong_41 : decode cX6_wrong 41 = .ok (.getfield 148, 3) := by decide +kernel
theorem dX6_wrong_44 : decode cX6_wrong 44 = .ok (.ireturn, 1) := by decide +kernel
theorem dX6_done_0 : decode cX6_done 0 = .ok (.aload_n 0, 1) := by decide +kernel
theorem dX6_done_1 : decode cX6_done 1 = .ok (.invokevirtual 114, 3) := by decide +kernel
theorem dX6_done_4 : decode cX6_done 4 = .ok (.istore_n 1, 1) := by decide +kernel
theorem dX6_done_5 : decode cX6_done 5 = .ok (.iload_n 1, 1) := by decide +kernel
theorem dX6_done_6 : decode cX6_done 6 = .ok (.ifCond .eq 5, 3) := by decide +kernel
theorem dX6_done_9 : decode cX6_done 9 = .ok (.iload_n 1, 1) := by decide +kernel
theorem dX6_done_10 : decode cX6_done 10 = .ok (.ireturn, 1) := by decide +kernel
theorem dX6_done_11 : decode cX6_done 11 = .ok (.aload_n 0, 1) := by decide +kernel
theorem dX6_done_12 : decode cX6_done 12 = .ok (.getfield 10, 3) := by decide +kernel
theorem dX6_done_15 : decode cX6_done 15 = .ok (.aload_n 0, 1) := by decide +kernel
theorem dX6_done_16 : decode cX6_done 16 = .ok (.getfield 16, 3) := by decide +kernel
theorem dX6_done_19 : decode cX6_done 19 = .ok (.invokevirtual 151, 3) := by decide +kernel
theorem dX6_done_22 : decode cX6_done 22 = .ok (.aload_n 0, 1) := by decide +kernel
theorem dX6_done_23 : decode cX6_done 23 = .ok (.getfield 26, 3) := by decide +kernel
theorem dX6_done_26 : decode cX6_done 26 = .ok (.iconst 0, 1) := by decide +kernel
theorem dX6_done_27 : decode cX6_done 27 = .ok (.putfield 103, 3) := by decide +kernel
theorem dX6_done_30 : decode cX6_done 30 = .ok (.aload_n 0, 1) := by decide +kernel
theorem dX6_done_31 : decode cX6_done 31 = .ok (.getfield 33, 3) := by decide +kernel
theorem dX6_done_34 : decode cX6_done 34 = .ok (.getfield 155, 3) := by decide +kernel
theorem dX6_done_37 : decode cX6_done 37 = .ok (.ireturn, 1) := by decide +kernel
theorem dX6_saints_0 : decode cX6_saints 0 = .ok (.aload_n 0, 1) := by decide +kernel
theorem dX6_saints_1 : decode cX6_saints 1 = .ok (.getfield 10, 3) := by decide +kernel
theorem dX6_saints_4 : decode cX6_saints 4 = .ok (.invokevirtual 158, 3) := by decide +kernel
theorem dX6_saints_7 : decode cX6_saints 7 = .ok (.ireturn, 1) := by decide +kernel
theorem dX6_lacks_0 : decode cX6_lacks 0 = .ok (.aload_n 0, 1) := by decide +kernel
theorem dX6_lacks_1 : decode cX6_lacks 1 = .ok (.getfield 10, 3) := by decide +kernel
theorem dX6_lacks_4 : decode cX6_lacks 4 = .ok (.iload_n 1, 1) := by decide +kernel
theorem dX6_lacks_5 : decode cX6_lacks 5 = .ok (.invokevirtual 76, 3) := by decide +kernel
theorem dX6_lacks_8 : decode cX6_lacks 8 = .ok (.ifCond .ne 5, 3) := by decide +kernel
theorem dX6_lacks_11 : decode cX6_lacks 11 = .ok (.iconst (-1), 1) := by decide +kernel
theorem dX6_lacks_12 : decode cX6_lacks 12 = .ok (.ireturn, 1) := by decide +kernel
theorem dX6_lacks_13 : decode cX6_lacks 13 = .ok (.aload_n 0, 1) := by decide +kernel
theorem dX6_lacks_14 : decode cX6_lacks 14 = .ok (.getfield 10, 3) := by decide +kernel
theorem dX6_lacks_17 : decode cX6_lacks 17 = .ok (.iload_n 1, 1) := by decide +kernel
theorem dX6_lacks_18 : decode cX6_lacks 18 = .ok (.invokevirtual 138, 3) := by decide +kernel
theorem dX6_lacks_21 : decode cX6_lacks 21 = .ok (.ifCond .eq 6, 3) := by decide +kernel
theorem dX6_lacks_24 : decode cX6_lacks 24 = .ok (.bipush (-3), 2) := by decide +kernel
theorem dX6_lacks_26 : decode cX6_lacks 26 = .ok (.ireturn, 1) := by decide +kernel
theorem dX6_lacks_27 : decode cX6_lacks 27 = .ok (.iconst 0, 1) := by decide +kernel
theorem dX6_lacks_28 : decode cX6_lacks 28 = .ok (.aload_n 0, 1) := by decide +kernel
theorem dX6_lacks_29 : decode cX6_lacks 29 = .ok (.getfield 10, 3) := by decide +kernel
theorem dX6_lacks_32 : decode cX6_lacks 32 = .ok (.getfield 84, 3) := by decide +kernel
theorem dX6_lacks_35 : decode cX6_lacks 35 = .ok (.iconst 0, 1) := by decide +kernel
theorem dX6_lacks_36 : decode cX6_lacks 36 = .ok (.iaload, 1) := by decide +kernel
theorem dX6_lacks_37 : decode cX6_lacks 37 = .ok (.aload_n 0, 1) := by decide +kernel
theorem dX6_lacks_38 : decode cX6_lacks 38 = .ok (.getfield 10, 3) := by decide +kernel
theorem dX6_lacks_41 : decode cX6_lacks 41 = .ok (.getfield 126, 3) := by decide +kernel
theorem dX6_lacks_44 : decode cX6_lacks 44 = .ok (.iload_n 1, 1) := by decide +kernel
theorem dX6_lacks_45 : decode cX6_lacks 45 = .ok (.iaload, 1) := by decide +kernel
theorem dX6_lacks_46 : decode cX6_lacks 46 = .ok (.isub, 1) := by decide +kernel
theorem dX6_lacks_47 : decode cX6_lacks 47 = .ok (.invokestatic 161, 3) := by decide +kernel
theorem dX6_lacks_50 : decode cX6_lacks 50 = .ok (.iconst 0, 1) := by decide +kernel
theorem dX6_lacks_51 : decode cX6_lacks 51 = .ok (.aload_n 0, 1) := by decide +kernel
theorem dX6_lacks_52 : decode cX6_lacks 52 = .ok (.getfield 10, 3) := by decide +kernel
theorem dX6_lacks_55 : decode cX6_lacks 55 = .ok (.getfield 129, 3) := by decide +kernel
theorem dX6_lacks_58 : decode cX6_lacks 58 = .ok (.iload_n 1, 1) := by decide +kernel
theorem dX6_lacks_59 : decode cX6_lacks 59 = .ok (.iaload, 1) := by decide +kernel
theorem dX6_lacks_60 : decode cX6_lacks 60 = .ok (.aload_n 0, 1) := by decide +kernel
theorem dX6_lacks_61 : decode cX6_lacks 61 = .ok (.getfield 10, 3) := by decide +kernel
theorem dX6_lacks_64 : decode cX6_lacks 64 = .ok (.getfield 84, 3) := by decide +kernel
theorem dX6_lacks_67 : decode cX6_lacks 67 = .ok (.iconst 1, 1) := by decide +kernel
theorem dX6_lacks_68 : decode cX6_lacks 68 = .ok (.iaload, 1) := by decide +kernel
theorem dX6_lacks_69 : decode cX6_lacks 69 = .ok (.isub, 1) := by decide +kernel
theorem dX6_lacks_70 : decode cX6_lacks 70 = .ok (.invokestatic 161, 3) := by decide +kernel
theorem dX6_lacks_73 : decode cX6_lacks 73 = .ok (.iadd, 1) := by decide +kernel
theorem dX6_lacks_74 : decode cX6_lacks 74 = .ok (.iconst 0, 1) := by decide +kernel
theorem dX6_lacks_75 : decode cX6_lacks 75 = .ok (.aload_n 0, 1) := by decide +kernel
theorem dX6_lacks_76 : decode cX6_lacks 76 = .ok (.getfield 10, 3) := by decide +kernel
theorem dX6_lacks_79 : decode cX6_lacks 79 = .ok (.getfield 84, 3) := by decide +kernel
theorem dX6_lacks_82 : decode cX6_lacks 82 = .ok (.iconst 2, 1) := by decide +kernel
theorem dX6_lacks_83 : decode cX6_lacks 83 = .ok (.iaload, 1) := by decide +kernel
theorem dX6_lacks_84 : decode cX6_lacks 84 = .ok (.aload_n 0, 1) := by decide +kernel
theorem dX6_lacks_85 : decode cX6_lacks 85 = .ok (.getfield 10, 3) := by decide +kernel
theorem dX6_lacks_88 : decode cX6_lacks 88 = .ok (.getfield 132, 3) := by decide +kernel
theorem dX6_lacks_91 : decode cX6_lacks 91 = .ok (.iload_n 1, 1) := by decide +kernel
theorem dX6_lacks_92 : decode cX6_lacks 92 = .ok (.iaload, 1) := by decide +kernel
theorem dX6_lacks_93 : decode cX6_lacks 93 = .ok (.isub, 1) := by decide +kernel
theorem dX6_lacks_94 : decode cX6_lacks 94 = .ok (.invokestatic 161, 3) := by decide +kernel
theorem dX6_lacks_97 : decode cX6_lacks 97 = .ok (.iadd, 1) := by decide +kernel
theorem dX6_lacks_98 : decode cX6_lacks 98 = .ok (.ireturn, 1) := by decide +kernel
theorem dX6_odds_0 : decode cX6_odds 0 = .ok (.aload_n 0, 1) := by decide +kernel
theorem dX6_odds_1 : decode cX6_odds 1 = .ok (.getfield 10, 3) := by decide +kernel
theorem dX6_odds_4 : decode cX6_odds 4 = .ok (.iload_n 1, 1) := by decide +kernel
theorem dX6_odds_5 : decode cX6_odds 5 = .ok (.invokevirtual 76, 3) := by decide +kernel
theorem dX6_odds_8 : decode cX6_odds 8 = .ok (.ifCond .ne 7, 3) := by decide +kernel
theorem dX6_odds_11 : decode cX6_odds 11 = .ok (.ldc2_w 166, 3) := by decide +kernel
theorem dX6_odds_14 : decode cX6_odds 14 = .ok (.lreturn, 1) := by decide +kernel
theorem dX6_odds_15 : decode cX6_odds 15 = .ok (.iload_n 3, 1) := by decide +kernel
theorem dX6_odds_16 : decode cX6_odds 16 = .ok (.iconst 0, 1) := by decide +kernel
theorem dX6_odds_17 : decode cX6_odds 17 = .ok (.bipush 10, 2) := by decide +kernel
theorem dX6_odds_19 : decode cX6_odds 19 = .ok (.invokestatic 58, 3) := by decide +kernel
theorem dX6_odds_22 : decode cX6_odds 22 = .ok (.ifCond .eq 27, 3) := by decide +kernel
theorem dX6_odds_25 : decode cX6_odds 25 = .ok (.iload 4, 2) := by decide +kernel
theorem dX6_odds_27 : decode cX6_odds 27 = .ok (.iconst 0, 1) := by decide +kernel
theorem dX6_odds_28 : decode cX6_odds 28 = .ok (.bipush 10, 2) := by decide +kernel
theorem dX6_odds_30 : decode cX6_odds 30 = .ok (.invokestatic 58, 3) := by decide +kernel
theorem dX6_odds_33 : decode cX6_odds 33 = .ok (.ifCond .eq 16, 3) := by decide +kernel
theorem dX6_odds_36 : decode cX6_odds 36 = .ok (.iload_n 3, 1) := by decide +kernel
theorem dX6_odds_37 : decode cX6_odds 37 = .ok (.iload 4, 2) := by decide +kernel
theorem dX6_odds_39 : decode cX6_odds 39 = .ok (.iadd, 1) := by decide +kernel
theorem dX6_odds_40 : decode cX6_odds 40 = .ok (.bipush 10, 2) := by decide +kernel
theorem dX6_odds_42 : decode cX6_odds 42 = .ok (.if_icmp .gt 7, 3) := by decide +kernel
theorem dX6_odds_45 : decode cX6_odds 45 = .ok (.iconst 1, 1) := by decide +kernel
theorem dX6_odds_46 : decode cX6_odds 46 = .ok (.goto 4, 3) := by decide +kernel
theorem dX6_odds_49 : decode cX6_odds 49 = .ok (.iconst 0, 1) := by decide +kernel
theorem dX6_odds_50 : decode cX6_odds 50 = .ok (.istore 7, 2) := by decide +kernel
theorem dX6_odds_52 : decode cX6_odds 52 = .ok (.iload_n 2, 1) := by decide +kernel
theorem dX6_odds_53 : decode cX6_odds 53 = .ok (.iconst 0, 1) := by decide +kernel
theorem dX6_odds_54 : decode cX6_odds 54 = .ok (.bipush 8, 2) := by decide +kernel
theorem dX6_odds_56 : decode cX6_odds 56 = .ok (.invokestatic 58, 3) := by decide +kernel
theorem dX6_odds_59 : decode cX6_odds 59 = .ok (.ifCond .eq 28, 3) := by decide +kernel
theorem dX6_odds_62 : decode cX6_odds 62 = .ok (.iload 7, 2) := by decide +kernel
theorem dX6_odds_64 : decode cX6_odds 64 = .ok (.ifCond .eq 23, 3) := by decide +kernel
theorem dX6_odds_67 : decode cX6_odds 67 = .ok (.iload 5, 2) := by decide +kernel
theorem dX6_odds_69 : decode cX6_odds 69 = .ok (.iconst 0, 1) := by decide +kernel
theorem dX6_odds_70 : decode cX6_odds 70 = .ok (.iload_n 2, 1) := by decide +kernel
theorem dX6_odds_71 : decode cX6_odds 71 = .ok (.invokestatic 58, 3) := by decide +kernel
theorem dX6_odds_74 : decode cX6_odds 74 = .ok (.ifCond .eq 13, 3) := by decide +kernel
theorem dX6_odds_77 : decode cX6_odds 77 = .ok (.iload 6, 2) := by decide +kernel
theorem dX6_odds_79 : decode cX6_odds 79 = .ok (.iconst 0, 1) := by decide +kernel
theorem dX6_odds_80 : decode cX6_odds 80 = .ok (.iconst 1, 1) := by decide +kernel
theorem dX6_odds_81 : decode cX6_odds 81 = .ok (.invokestatic 58, 3) := by decide +kernel
theorem dX6_odds_84 : decode cX6_odds 84 = .ok (.ifCond .ne 7, 3) := by decide +kernel
theorem dX6_odds_87 : decode cX6_odds 87 = .ok (.ldc2_w 168, 3) := by decide +kernel
theorem dX6_odds_90 : decode cX6_odds 90 = .ok (.lreturn, 1) := by decide +kernel
theorem dX6_odds_91 : decode cX6_odds 91 = .ok (.aload_n 0, 1) := by decide +kernel
theorem dX6_odds_92 : decode cX6_odds 92 = .ok (.getfield 47, 3) := by decide +kernel
theorem dX6_odds_95 : decode cX6_odds 95 = .ok (.iload_n 2, 1) := by decide +kernel
theorem dX6_odds_96 : decode cX6_odds 96 = .ok (.iload_n 3, 1) := by decide +kernel
theorem dX6_odds_97 : decode cX6_odds 97 = .ok (.iload 4, 2) := by decide +kernel
theorem dX6_odds_99 : decode cX6_odds 99 = .ok (.iload 5, 2) := by decide +kernel
theorem dX6_odds_101 : decode cX6_odds 101 = .ok (.invokevirtual 170, 3) := by decide +kernel
theorem dX6_odds_104 : decode cX6_odds 104 = .ok (.aload_n 0, 1) := by decide +kernel
theorem dX6_odds_105 : decode cX6_odds 105 = .ok (.getfield 47, 3) := by decide +kernel
theorem dX6_odds_108 : decode cX6_odds 108 = .ok (.aload_n 0, 1) := by decide +kernel
theorem dX6_odds_109 : decode cX6_odds 109 = .ok (.getfield 10, 3) := by decide +kernel
theorem dX6_odds_112 : decode cX6_odds 112 = .ok (.iload_n 1, 1) := by decide +kernel
theorem dX6_odds_113 : decode cX6_odds 113 = .ok (.invokevirtual 173, 3) := by decide +kernel
theorem dX6_odds_116 : decode cX6_odds 116 = .ok (.lstore 8, 2) := by decide +kernel
theorem dX6_odds_118 : decode cX6_odds 118 = .ok (.aload_n 0, 1) := by decide +kernel
theorem dX6_odds_119 : decode cX6_odds 119 = .ok (.getfield 47, 3) := by decide +kernel
theorem dX6_odds_122 : decode cX6_odds 122 = .ok (.iload_n 2, 1) := by decide +kernel
theorem dX6_odds_123 : decode cX6_odds 123 = .ok (.invokevirtual 177, 3) := by decide +kernel
theorem dX6_odds_126 : decode cX6_odds 126 = .ok (.lstore 10, 2) := by decide +kernel
theorem dX6_odds_128 : decode cX6_odds 128 = .ok (.lload 8, 2) := by decide +kernel
theorem dX6_odds_130 : decode cX6_odds 130 = .ok (.lload 10, 2) := by decide +kernel
theorem dX6_odds_132 : decode cX6_odds 132 = .ok (.invokestatic 181, 3) := by decide +kernel
theorem dX6_odds_135 : decode cX6_odds 135 = .ok (.lstore 12, 2) := by decide +kernel
theorem dX6_odds_137 : decode cX6_odds 137 = .ok (.iload 6, 2) := by decide +kernel
theorem dX6_odds_139 : decode cX6_odds 139 = .ok (.ifCond .ne 8, 3) := by decide +kernel
theorem dX6_odds_142 : decode cX6_odds 142 = .ok (.lload 8, 2) := by decide +kernel
theorem dX6_odds_144 : decode cX6_odds 144 = .ok (.goto 5, 3) := by decide +kernel
theorem dX6_odds_147 : decode cX6_odds 147 = .ok (.lload 10, 2) := by decide +kernel
theorem dX6_odds_149 : decode cX6_odds 149 = .ok (.lload 12, 2) := by decide +kernel
theorem dX6_odds_151 : decode cX6_odds 151 = .ok (.ldiv, 1) := by decide +kernel
theorem dX6_odds_152 : decode cX6_odds 152 = .ok (.lreturn, 1) := by decide +kernel
theorem dX6_back_0 : decode cX6_back 0 = .ok (.iload_n 1, 1) := by decide +kernel
theorem dX6_back_1 : decode cX6_back 1 = .ok (.iconst 0, 1) := by decide +kernel
theorem dX6_back_2 : decode cX6_back 2 = .ok (.sipush 999, 3) := by decide +kernel
theorem dX6_back_5 : decode cX6_back 5 = .ok (.invokestatic 58, 3) := by decide +kernel
theorem dX6_back_8 : decode cX6_back 8 = .ok (.ifCond .eq 12, 3) := by decide +kernel
theorem dX6_back_11 : decode cX6_back 11 = .ok (.iload_n 2, 1) := by decide +kernel
theorem dX6_back_12 : decode cX6_back 12 = .ok (.iconst 0, 1) := by decide +kernel
theorem dX6_back_13 : decode cX6_back 13 = .ok (.iconst 1, 1) := by decide +kernel
theorem dX6_back_14 : decode cX6_back 14 = .ok (.invokestatic 58, 3) := by decide +kernel
theorem dX6_back_17 : decode cX6_back 17 = .ok (.ifCond .ne 6, 3) := by decide +kernel
theorem dX6_back_20 : decode cX6_back 20 = .ok (.bipush (-2), 2) := by decide +kernel
theorem dX6_back_22 : decode cX6_back 22 = .ok (.ireturn, 1) := by decide +kernel
theorem dX6_back_23 : decode cX6_back 23 = .ok (.iconst 0, 1) := by decide +kernel
theorem dX6_back_24 : decode cX6_back 24 = .ok (.istore_n 3, 1) := by decide +kernel
theorem dX6_back_25 : decode cX6_back 25 = .ok (.iconst 0, 1) := by decide +kernel
theorem dX6_back_26 : decode cX6_back 26 = .ok (.istore 4, 2) := by decide +kernel
theorem dX6_back_28 : decode cX6_back 28 = .ok (.iconst 0, 1) := by decide +kernel
theorem dX6_back_29 : decode cX6_back 29 = .ok (.istore 5, 2) := by decide +kernel
theorem dX6_back_31 : decode cX6_back 31 = .ok (.iload 5, 2) := by decide +kernel
theorem dX6_back_33 : decode cX6_back 33 = .ok (.bipush 64, 2) := by decide +kernel
theorem dX6_back_35 : decode cX6_back 35 = .ok (.if_icmp .ge 79, 3) := by decide +kernel
theorem dX6_back_38 : decode cX6_back 38 = .ok (.iload 5, 2) := by decide +kernel
theorem dX6_back_40 : decode cX6_back 40 = .ok (.aload_n 0, 1) := by decide +kernel
theorem dX6_back_41 : decode cX6_back 41 = .ok (.getfield 10, 3) := by decide +kernel
theorem dX6_back_44 : decode cX6_back 44 = .ok (.getfield 66, 3) := by decide +kernel
theorem dX6_back_47 : decode cX6_back 47 = .ok (.iconst (-1), 1) := by decide +kernel
theorem dX6_back_48 : decode cX6_back 48 = .ok (.ixor, 1) := by decide +kernel
theorem dX6_back_49 : decode cX6_back 49 = .ok (.iand, 1) := by decide +kernel
theorem dX6_back_50 : decode cX6_back 50 = .ok (.ifCond .ne 23, 3) := by decide +kernel
theorem dX6_back_53 : decode cX6_back 53 = .ok (.iload 5, 2) := by decide +kernel
theorem dX6_back_55 : decode cX6_back 55 = .ok (.aload_n 0, 1) := by decide +kernel
theorem dX6_back_56 : decode cX6_back 56 = .ok (.getfield 10, 3) := by decide +kernel
theorem dX6_back_59 : decode cX6_back 59 = .ok (.getfield 94, 3) := by decide +kernel
theorem dX6_back_62 : decode cX6_back 62 = .ok (.invokestatic 185, 3) := by decide +kernel
theorem dX6_back_65 : decode cX6_back 65 = .ok (.iload_n 1, 1) := by decide +kernel
theorem dX6_back_66 : decode cX6_back 66 = .ok (.if_icmp .gt 7, 3) := by decide +kernel
theorem dX6_back_69 : decode cX6_back 69 = .ok (.iconst 1, 1) := by decide +kernel
theorem dX6_back_70 : decode cX6_back 70 = .ok (.goto 4, 3) := by decide +kernel
theorem dX6_back_73 : decode cX6_back 73 = .ok (.iconst 0, 1) := by decide +kernel
theorem dX6_back_74 : decode cX6_back 74 = .ok (.istore 6, 2) := by decide +kernel
theorem dX6_back_76 : decode cX6_back 76 = .ok (.iload 5, 2) := by decide +kernel
theorem dX6_back_78 : decode cX6_back 78 = .ok (.aload_n 0, 1) := by decide +kernel
theorem dX6_back_79 : decode cX6_back 79 = .ok (.getfield 10, 3) := by decide +kernel
theorem dX6_back_82 : decode cX6_back 82 = .ok (.getfield 97, 3) := by decide +kernel
theorem dX6_back_85 : decode cX6_back 85 = .ok (.invokestatic 185, 3) := by decide +kernel
theorem dX6_back_88 : decode cX6_back 88 = .ok (.istore 7, 2) := by decide +kernel
theorem dX6_back_90 : decode cX6_back 90 = .ok (.iload 6, 2) := by decide +kernel
theorem dX6_back_92 : decode cX6_back 92 = .ok (.ifCond .eq 16, 3) := by decide +kernel
theorem dX6_back_95 : decode cX6_back 95 = .ok (.iload 7, 2) := by decide +kernel
theorem dX6_back_97 : decode cX6_back 97 = .ok (.iload_n 3, 1) := by decide +kernel
theorem dX6_back_98 : decode cX6_back 98 = .ok (.if_icmp .le 10, 3) := by decide +kernel
theorem dX6_back_101 : decode cX6_back 101 = .ok (.iload 7, 2) := by decide +kernel
theorem dX6_back_103 : decode cX6_back 103 = .ok (.istore_n 3, 1) := by decide +kernel
theorem dX6_back_104 : decode cX6_back 104 = .ok (.iload 5, 2) := by decide +kernel
theorem dX6_back_106 : decode cX6_back 106 = .ok (.istore 4, 2) := by decide +kernel
theorem dX6_back_108 : decode cX6_back 108 = .ok (.iinc 5 1, 3) := by decide +kernel
theorem dX6_back_111 : decode cX6_back 111 = .ok (.goto (-80), 3) := by decide +kernel
theorem dX6_back_114 : decode cX6_back 114 = .ok (.iload_n 2, 1) := by decide +kernel
theorem dX6_back_115 : decode cX6_back 115 = .ok (.ifCond .ne 7, 3) := by decide +kernel
theorem dX6_back_118 : decode cX6_back 118 = .ok (.iload_n 3, 1) := by decide +kernel
theorem dX6_back_119 : decode cX6_back 119 = .ok (.goto 5, 3) := by decide +kernel
theorem dX6_back_122 : decode cX6_back 122 = .ok (.iload 4, 2) := by decide +kernel
theorem dX6_back_124 : decode cX6_back 124 = .ok (.ireturn, 1) := by decide +kernel
theorem dX6_fewest_0 : decode cX6_fewest 0 = .ok (.iload_n 1, 1) := by decide +kernel
theorem dX6_fewest_1 : decode cX6_fewest 1 = .ok (.iconst 0, 1) := by decide +kernel
theorem dX6_fewest_2 : decode cX6_fewest 2 = .ok (.sipush 1023, 3) := by decide +kernel
theorem dX6_fewest_5 : decode cX6_fewest 5 = .ok (.invokestatic 58, 3) := by decide +kernel
theorem dX6_fewest_8 : decode cX6_fewest 8 = .ok (.ifCond .eq 12, 3) := by decide +kernel
theorem dX6_fewest_11 : decode cX6_fewest 11 = .ok (.iload_n 2, 1) := by decide +kernel
theorem dX6_fewest_12 : decode cX6_fewest 12 = .ok (.iconst 0, 1) := by decide +kernel
theorem dX6_fewest_13 : decode cX6_fewest 13 = .ok (.iconst 1, 1) := by decide +kernel
theorem dX6_fewest_14 : decode cX6_fewest 14 = .ok (.invokestatic 58, 3) := by decide +kernel
theorem dX6_fewest_17 : decode cX6_fewest 17 = .ok (.ifCond .ne 6, 3) := by decide +kernel
theorem dX6_fewest_20 : decode cX6_fewest 20 = .ok (.bipush (-2), 2) := by decide +kernel
theorem dX6_fewest_22 : decode cX6_fewest 22 = .ok (.ireturn, 1) := by decide +kernel
theorem dX6_fewest_23 : decode cX6_fewest 23 = .ok (.bipush 9, 2) := by decide +kernel
theorem dX6_fewest_25 : decode cX6_fewest 25 = .ok (.istore_n 3, 1) := by decide +kernel
theorem dX6_fewest_26 : decode cX6_fewest 26 = .ok (.iconst 0, 1) := by decide +kernel
theorem dX6_fewest_27 : decode cX6_fewest 27 = .ok (.istore 4, 2) := by decide +kernel
theorem dX6_fewest_29 : decode cX6_fewest 29 = .ok (.iconst 0, 1) := by decide +kernel
theorem dX6_fewest_30 : decode cX6_fewest 30 = .ok (.istore 5, 2) := by decide +kernel
theorem dX6_fewest_32 : decode cX6_fewest 32 = .ok (.iload 5, 2) := by decide +kernel
theorem dX6_fewest_34 : decode cX6_fewest 34 = .ok (.sipush 256, 3) := by decide +kernel
theorem dX6_fewest_37 : decode cX6_fewest 37 = .ok (.if_icmp .ge 48, 3) := by decide +kernel
theorem dX6_fewest_40 : decode cX6_fewest 40 = .ok (.iload 5, 2) := by decide +kernel
theorem dX6_fewest_42 : decode cX6_fewest 42 = .ok (.invokestatic 70, 3) := by decide +kernel
theorem dX6_fewest_45 : decode cX6_fewest 45 = .ok (.istore 6, 2) := by decide +kernel
theorem dX6_fewest_47 : decode cX6_fewest 47 = .ok (.iload 6, 2) := by decide +kernel
theorem dX6_fewest_49 : decode cX6_fewest 49 = .ok (.iload_n 3, 1) := by decide +kernel
theorem dX6_fewest_50 : decode cX6_fewest 50 = .ok (.if_icmp .ge 29, 3) := by decide +kernel
theorem dX6_fewest_53 : decode cX6_fewest 53 = .ok (.iload_n 1, 1) := by decide +kernel
theorem dX6_fewest_54 : decode cX6_fewest 54 = .ok (.iload 5, 2) := by decide +kernel
theorem dX6_fewest_56 : decode cX6_fewest 56 = .ok (.aload_n 0, 1) := by decide +kernel
theorem dX6_fewest_57 : decode cX6_fewest 57 = .ok (.getfield 10, 3) := by decide +kernel
theorem dX6_fewest_60 : decode cX6_fewest 60 = .ok (.getfield 100, 3) := by decide +kernel
theorem dX6_fewest_63 : decode cX6_fewest 63 = .ok (.invokestatic 189, 3) := by decide +kernel
theorem dX6_fewest_66 : decode cX6_fewest 66 = .ok (.iconst (-1), 1) := by decide +kernel
theorem dX6_fewest_67 : decode cX6_fewest 67 = .ok (.ixor, 1) := by decide +kernel
theorem dX6_fewest_68 : decode cX6_fewest 68 = .ok (.iand, 1) := by decide +kernel
theorem dX6_fewest_69 : decode cX6_fewest 69 = .ok (.ifCond .ne 10, 3) := by decide +kernel
theorem dX6_fewest_72 : decode cX6_fewest 72 = .ok (.iload 6, 2) := by decide +kernel
theorem dX6_fewest_74 : decode cX6_fewest 74 = .ok (.istore_n 3, 1) := by decide +kernel
theorem dX6_fewest_75 : decode cX6_fewest 75 = .ok (.iload 5, 2) := by decide +kernel
theorem dX6_fewest_77 : decode cX6_fewest 77 = .ok (.istore 4, 2) := by decide +kernel
theorem dX6_fewest_79 : decode cX6_fewest 79 = .ok (.iinc 5 1, 3) := by decide +kernel
theorem dX6_fewest_82 : decode cX6_fewest 82 = .ok (.goto (-50), 3) := by decide +kernel
theorem dX6_fewest_85 : decode cX6_fewest 85 = .ok (.iload_n 3, 1) := by decide +kernel
theorem dX6_fewest_86 : decode cX6_fewest 86 = .ok (.bipush 8, 2) := by decide +kernel
theorem dX6_fewest_88 : decode cX6_fewest 88 = .ok (.if_icmp .le 6, 3) := by decide +kernel
theorem dX6_fewest_91 : decode cX6_fewest 91 = .ok (.bipush (-6), 2) := by decide +kernel
theorem dX6_fewest_93 : decode cX6_fewest 93 = .ok (.ireturn, 1) := by decide +kernel
theorem dX6_fewest_94 : decode cX6_fewest 94 = .ok (.iload_n 2, 1) := by decide +kernel
theorem dX6_fewest_95 : decode cX6_fewest 95 = .ok (.ifCond .ne 7, 3) := by decide +kernel
theorem dX6_fewest_98 : decode cX6_fewest 98 = .ok (.iload_n 3, 1) := by decide +kernel
theorem dX6_fewest_99 : decode cX6_fewest 99 = .ok (.goto 5, 3) := by decide +kernel
theorem dX6_fewest_102 : decode cX6_fewest 102 = .ok (.iload 4, 2) := by decide +kernel
theorem dX6_fewest_104 : decode cX6_fewest 104 = .ok (.ireturn, 1) := by decide +kernel
theorem dX6_day_0 : decode cX6_day 0 = .ok (.aload_n 0, 1) := by decide +kernel
theorem dX6_day_1 : decode cX6_day 1 = .ok (.getfield 10, 3) := by decide +kernel
theorem dX6_day_4 : decode cX6_day 4 = .ok (.invokevirtual 158, 3) := by decide +kernel
theorem dX6_day_7 : decode cX6_day 7 = .ok (.istore_n 2, 1) := by decide +kernel
theorem dX6_day_8 : decode cX6_day 8 = .ok (.aload_n 0, 1) := by decide +kernel
theorem dX6_day_9 : decode cX6_day 9 = .ok (.iload_n 2, 1) := by decide +kernel
theorem dX6_day_10 : decode cX6_day 10 = .ok (.iconst 0, 1) := by decide +kernel
theorem dX6_day_11 : decode cX6_day 11 = .ok (.invokevirtual 192, 3) := by decide +kernel
theorem dX6_day_14 : decode cX6_day 14 = .ok (.istore_n 3, 1) := by decide +kernel
theorem dX6_day_15 : decode cX6_day 15 = .ok (.iload_n 1, 1) := by decide +kernel
theorem dX6_day_16 : decode cX6_day 16 = .ok (.iconst (-1), 1) := by decide +kernel
theorem dX6_day_17 : decode cX6_day 17 = .ok (.if_icmp .ne 5, 3) := by decide +kernel
theorem dX6_day_20 : decode cX6_day 20 = .ok (.iload_n 3, 1) := by decide +kernel
theorem dX6_day_21 : decode cX6_day 21 = .ok (.ireturn, 1) := by decide +kernel
theorem dX6_day_22 : decode cX6_day 22 = .ok (.aload_n 0, 1) := by decide +kernel
theorem dX6_day_23 : decode cX6_day 23 = .ok (.getfield 10, 3) := by decide +kernel
theorem dX6_day_26 : decode cX6_day 26 = .ok (.iload_n 1, 1) := by decide +kernel
theorem dX6_day_27 : decode cX6_day 27 = .ok (.invokevirtual 135, 3) := by decide +kernel
theorem dX6_day_30 : decode cX6_day 30 = .ok (.ifCond .ne 5, 3) := by decide +kernel
theorem dX6_day_33 : decode cX6_day 33 = .ok (.iconst (-1), 1) := by decide +kernel
theorem dX6_day_34 : decode cX6_day 34 = .ok (.ireturn, 1) := by decide +kernel
theorem dX6_day_35 : decode cX6_day 35 = .ok (.iconst 0, 1) := by decide +kernel
theorem dX6_day_36 : decode cX6_day 36 = .ok (.istore 4, 2) := by decide +kernel
theorem dX6_day_38 : decode cX6_day 38 = .ok (.iconst 0, 1) := by decide +kernel
theorem dX6_day_39 : decode cX6_day 39 = .ok (.istore 5, 2) := by decide +kernel
theorem dX6_day_41 : decode cX6_day 41 = .ok (.iload 5, 2) := by decide +kernel
theorem dX6_day_43 : decode cX6_day 43 = .ok (.iload_n 1, 1) := by decide +kernel
theorem dX6_day_44 : decode cX6_day 44 = .ok (.if_icmp .ge 61, 3) := by decide +kernel
theorem dX6_day_47 : decode cX6_day 47 = .ok (.aload_n 0, 1) := by decide +kernel
theorem dX6_day_48 : decode cX6_day 48 = .ok (.getfield 10, 3) := by decide +kernel
theorem dX6_day_51 : decode cX6_day 51 = .ok (.iload 5, 2) := by decide +kernel
theorem dX6_day_53 : decode cX6_day 53 = .ok (.invokevirtual 135, 3) := by decide +kernel
theorem dX6_day_56 : decode cX6_day 56 = .ok (.ifCond .eq 43, 3) := by decide +kernel
theorem dX6_day_59 : decode cX6_day 59 = .ok (.iload_n 2, 1) := by decide +kernel
theorem dX6_day_60 : decode cX6_day 60 = .ok (.iconst 1, 1) := by decide +kernel
theorem dX6_day_61 : decode cX6_day 61 = .ok (.iload 5, 2) := by decide +kernel
theorem dX6_day_63 : decode cX6_day 63 = .ok (.ishl, 1) := by decide +kernel
theorem dX6_day_64 : decode cX6_day 64 = .ok (.iconst (-1), 1) := by decide +kernel
theorem dX6_day_65 : decode cX6_day 65 = .ok (.ixor, 1) := by decide +kernel
theorem dX6_day_66 : decode cX6_day 66 = .ok (.iand, 1) := by decide +kernel
theorem dX6_day_67 : decode cX6_day 67 = .ok (.istore_n 2, 1) := by decide +kernel
theorem dX6_day_68 : decode cX6_day 68 = .ok (.aload_n 0, 1) := by decide +kernel
theorem dX6_day_69 : decode cX6_day 69 = .ok (.iload 5, 2) := by decide +kernel
theorem dX6_day_71 : decode cX6_day 71 = .ok (.iload_n 2, 1) := by decide +kernel
theorem dX6_day_72 : decode cX6_day 72 = .ok (.iload 4, 2) := by decide +kernel
theorem dX6_day_74 : decode cX6_day 74 = .ok (.iload_n 3, 1) := by decide +kernel
theorem dX6_day_75 : decode cX6_day 75 = .ok (.invokevirtual 195, 3) := by decide +kernel
theorem dX6_day_78 : decode cX6_day 78 = .ok (.istore 6, 2) := by decide +kernel
theorem dX6_day_80 : decode cX6_day 80 = .ok (.iload 6, 2) := by decide +kernel
theorem dX6_day_82 : decode cX6_day 82 = .ok (.bipush (-6), 2) := by decide +kernel
theorem dX6_day_84 : decode cX6_day 84 = .ok (.if_icmp .eq 15, 3) := by decide +kernel
theorem dX6_day_87 : decode cX6_day 87 = .ok (.iload 4, 2) := by decide +kernel
theorem dX6_day_89 : decode cX6_day 89 = .ok (.iconst 1, 1) := by decide +kernel
theorem dX6_day_90 : decode cX6_day 90 = .ok (.iload 6, 2) := by decide +kernel
theorem dX6_day_92 : decode cX6_day 92 = .ok (.ishl, 1) := by decide +kernel
theorem dX6_day_93 : decode cX6_day 93 = .ok (.ior, 1) := by decide +kernel
theorem dX6_day_94 : decode cX6_day 94 = .ok (.istore 4, 2) := by decide +kernel
theorem dX6_day_96 : decode cX6_day 96 = .ok (.iinc 3 (-1), 3) := by decide +kernel
theorem dX6_day_99 : decode cX6_day 99 = .ok (.iinc 5 1, 3) := by decide +kernel
theorem dX6_day_102 : decode cX6_day 102 = .ok (.goto (-61), 3) := by decide +kernel
theorem dX6_day_105 : decode cX6_day 105 = .ok (.aload_n 0, 1) := by decide +kernel
theorem dX6_day_106 : decode cX6_day 106 = .ok (.iload_n 1, 1) := by decide +kernel
theorem dX6_day_107 : decode cX6_day 107 = .ok (.iload_n 2, 1) := by decide +kernel
theorem dX6_day_108 : decode cX6_day 108 = .ok (.iconst 1, 1) := by decide +kernel
theorem dX6_day_109 : decode cX6_day 109 = .ok (.iload_n 1, 1) := by decide +kernel
theorem dX6_day_110 : decode cX6_day 110 = .ok (.ishl, 1) := by decide +kernel
theorem dX6_day_111 : decode cX6_day 111 = .ok (.iconst (-1), 1) := by decide +kernel
theorem dX6_day_112 : decode cX6_day 112 = .ok (.ixor, 1) := by decide +kernel
theorem dX6_day_113 : decode cX6_day 113 = .ok (.iand, 1) := by decide +kernel
theorem dX6_day_114 : decode cX6_day 114 = .ok (.iload 4, 2) := by decide +kernel
theorem dX6_day_116 : decode cX6_day 116 = .ok (.iload_n 3, 1) := by decide +kernel
theorem dX6_day_117 : decode cX6_day 117 = .ok (.invokevirtual 195, 3) := by decide +kernel
theorem dX6_day_120 : decode cX6_day 120 = .ok (.ireturn, 1) := by decide +kernel
theorem dX6_rivals_0 : decode cX6_rivals 0 = .ok (.aload_n 0, 1) := by decide +kernel
theorem dX6_rivals_1 : decode cX6_rivals 1 = .ok (.getfield 10, 3) := by decide +kernel
theorem dX6_rivals_4 : decode cX6_rivals 4 = .ok (.iload_n 1, 1) := by decide +kernel
theorem dX6_rivals_5 : decode cX6_rivals 5 = .ok (.invokevirtual 76, 3) := by decide +kernel
theorem dX6_rivals_8 : decode cX6_rivals 8 = .ok (.ifCond .ne 5, 3) := by decide +kernel
theorem dX6_rivals_11 : decode cX6_rivals 11 = .ok (.iconst (-1), 1) := by decide +kernel
theorem dX6_rivals_12 : decode cX6_rivals 12 = .ok (.ireturn, 1) := by decide +kernel
theorem dX6_rivals_13 : decode cX6_rivals 13 = .ok (.iload_n 2, 1) := by decide +kernel
theorem dX6_rivals_14 : decode cX6_rivals 14 = .ok (.iconst 0, 1) := by decide +kernel
theorem dX6_rivals_15 : decode cX6_rivals 15 = .ok (.bipush 12, 2) := by decide +kernel
theorem dX6_rivals_17 : decode cX6_rivals 17 = .ok (.invokestatic 58, 3) := by decide +kernel
theorem dX6_rivals_20 : decode cX6_rivals 20 = .ok (.ifCond .eq 12, 3) := by decide +kernel
theorem dX6_rivals_23 : decode cX6_rivals 23 = .ok (.iload_n 3, 1) := by decide +kernel
theorem dX6_rivals_24 : decode cX6_rivals 24 = .ok (.iconst 0, 1) := by decide +kernel
theorem dX6_rivals_25 : decode cX6_rivals 25 = .ok (.iconst 1, 1) := by decide +kernel
theorem dX6_rivals_26 : decode cX6_rivals 26 = .ok (.invokestatic 58, 3) := by decide +kernel
theorem dX6_rivals_29 : decode cX6_rivals 29 = .ok (.ifCond .ne 6, 3) := by decide +kernel
theorem dX6_rivals_32 : decode cX6_rivals 32 = .ok (.bipush (-2), 2) := by decide +kernel
theorem dX6_rivals_34 : decode cX6_rivals 34 = .ok (.ireturn, 1) := by decide +kernel
theorem dX6_rivals_35 : decode cX6_rivals 35 = .ok (.aload_n 0, 1) := by decide +kernel
theorem dX6_rivals_36 : decode cX6_rivals 36 = .ok (.getfield 10, 3) := by decide +kernel
theorem dX6_rivals_39 : decode cX6_rivals 39 = .ok (.iload_n 1, 1) := by decide +kernel
theorem dX6_rivals_40 : decode cX6_rivals 40 = .ok (.invokevirtual 138, 3) := by decide +kernel
theorem dX6_rivals_43 : decode cX6_rivals 43 = .ok (.ifCond .eq 6, 3) := by decide +kernel
theorem dX6_rivals_46 : decode cX6_rivals 46 = .ok (.bipush (-3), 2) := by decide +kernel
theorem dX6_rivals_48 : decode cX6_rivals 48 = .ok (.ireturn, 1) := by decide +kernel
theorem dX6_rivals_49 : decode cX6_rivals 49 = .ok (.aload_n 0, 1) := by decide +kernel
theorem dX6_rivals_50 : decode cX6_rivals 50 = .ok (.getfield 10, 3) := by decide +kernel
theorem dX6_rivals_53 : decode cX6_rivals 53 = .ok (.getfield 126, 3) := by decide +kernel
theorem dX6_rivals_56 : decode cX6_rivals 56 = .ok (.iload_n 1, 1) := by decide +kernel
theorem dX6_rivals_57 : decode cX6_rivals 57 = .ok (.iaload, 1) := by decide +kernel
theorem dX6_rivals_58 : decode cX6_rivals 58 = .ok (.istore 4, 2) := by decide +kernel
theorem dX6_rivals_60 : decode cX6_rivals 60 = .ok (.aload_n 0, 1) := by decide +kernel
theorem dX6_rivals_61 : decode cX6_rivals 61 = .ok (.getfield 10, 3) := by decide +kernel
theorem dX6_rivals_64 : decode cX6_rivals 64 = .ok (.getfield 129, 3) := by decide +kernel
theorem dX6_rivals_67 : decode cX6_rivals 67 = .ok (.iload_n 1, 1) := by decide +kernel
theorem dX6_rivals_68 : decode cX6_rivals 68 = .ok (.iaload, 1) := by decide +kernel
theorem dX6_rivals_69 : decode cX6_rivals 69 = .ok (.istore 5, 2) := by decide +kernel
theorem dX6_rivals_71 : decode cX6_rivals 71 = .ok (.iload_n 3, 1) := by decide +kernel
theorem dX6_rivals_72 : decode cX6_rivals 72 = .ok (.ifCond .ne 26, 3) := by decide +kernel
theorem dX6_rivals_75 : decode cX6_rivals 75 = .ok (.aload_n 0, 1) := by decide +kernel
theorem dX6_rivals_76 : decode cX6_rivals 76 = .ok (.getfield 10, 3) := by decide +kernel
theorem dX6_rivals_79 : decode cX6_rivals 79 = .ok (.iload_n 1, 1) := by decide +kernel
theorem dX6_rivals_80 : decode cX6_rivals 80 = .ok (.iload 4, 2) := by decide +kernel
theorem dX6_rivals_82 : decode cX6_rivals 82 = .ok (.iload 5, 2) := by decide +kernel
theorem dX6_rivals_84 : decode cX6_rivals 84 = .ok (.iload_n 2, 1) := by decide +kernel
theorem dX6_rivals_85 : decode cX6_rivals 85 = .ok (.iconst 1, 1) := by decide +kernel
theorem dX6_rivals_86 : decode cX6_rivals 86 = .ok (.invokestatic 199, 3) := by decide +kernel
theorem dX6_rivals_89 : decode cX6_rivals 89 = .ok (.ifCond .eq 7, 3) := by decide +kernel
theorem dX6_rivals_92 : decode cX6_rivals 92 = .ok (.iconst 1, 1) := by decide +kernel
theorem dX6_rivals_93 : decode cX6_rivals 93 = .ok (.goto 4, 3) := by decide +kernel
theorem dX6_rivals_96 : decode cX6_rivals 96 = .ok (.iconst 0, 1) := by decide +kernel
theorem dX6_rivals_97 : decode cX6_rivals 97 = .ok (.ireturn, 1) := by decide +kernel
theorem dX6_rivals_98 : decode cX6_rivals 98 = .ok (.iload_n 2, 1) := by decide +kernel
theorem dX6_rivals_99 : decode cX6_rivals 99 = .ok (.ifCond .ne 5, 3) := by decide +kernel
theorem dX6_rivals_102 : decode cX6_rivals 102 = .ok (.iconst 0, 1) := by decide +kernel
theorem dX6_rivals_103 : decode cX6_rivals 103 = .ok (.ireturn, 1) := by decide +kernel
theorem dX6_rivals_104 : decode cX6_rivals 104 = .ok (.aload_n 0, 1) := by decide +kernel
theorem dX6_rivals_105 : decode cX6_rivals 105 = .ok (.getfield 10, 3) := by decide +kernel
theorem dX6_rivals_108 : decode cX6_rivals 108 = .ok (.iload_n 1, 1) := by decide +kernel
theorem dX6_rivals_109 : decode cX6_rivals 109 = .ok (.iload 4, 2) := by decide +kernel
theorem dX6_rivals_111 : decode cX6_rivals 111 = .ok (.iconst 1, 1) := by decide +kernel
theorem dX6_rivals_112 : decode cX6_rivals 112 = .ok (.iadd, 1) := by decide +kernel
theorem dX6_rivals_113 : decode cX6_rivals 113 = .ok (.iload 5, 2) := by decide +kernel
theorem dX6_rivals_115 : decode cX6_rivals 115 = .ok (.iload_n 2, 1) := by decide +kernel
theorem dX6_rivals_116 : decode cX6_rivals 116 = .ok (.iconst 1, 1) := by decide +kernel
theorem dX6_rivals_117 : decode cX6_rivals 117 = .ok (.isub, 1) := by decide +kernel
theorem dX6_rivals_118 : decode cX6_rivals 118 = .ok (.iconst 0, 1) := by decide +kernel
theorem dX6_rivals_119 : decode cX6_rivals 119 = .ok (.invokestatic 199, 3) := by decide +kernel
theorem dX6_rivals_122 : decode cX6_rivals 122 = .ok (.ifCond .eq 7, 3) := by decide +kernel
theorem dX6_rivals_125 : decode cX6_rivals 125 = .ok (.iconst 1, 1) := by decide +kernel
theorem dX6_rivals_126 : decode cX6_rivals 126 = .ok (.goto 4, 3) := by decide +kernel
theorem dX6_rivals_129 : decode cX6_rivals 129 = .ok (.iconst 0, 1) := by decide +kernel
theorem dX6_rivals_130 : decode cX6_rivals 130 = .ok (.istore 6, 2) := by decide +kernel
theorem dX6_rivals_132 : decode cX6_rivals 132 = .ok (.iload 5, 2) := by decide +kernel
theorem dX6_rivals_134 : decode cX6_rivals 134 = .ok (.ifCond .le 28, 3) := by decide +kernel
theorem dX6_rivals_137 : decode cX6_rivals 137 = .ok (.aload_n 0, 1) := by decide +kernel
theorem dX6_rivals_138 : decode cX6_rivals 138 = .ok (.getfield 10, 3) := by decide +kernel
theorem dX6_rivals_141 : decode cX6_rivals 141 = .ok (.iload_n 1, 1) := by decide +kernel
theorem dX6_rivals_142 : decode cX6_rivals 142 = .ok (.iload 4, 2) := by decide +kernel
theorem dX6_rivals_144 : decode cX6_rivals 144 = .ok (.iload 5, 2) := by decide +kernel
theorem dX6_rivals_146 : decode cX6_rivals 146 = .ok (.iconst 1, 1) := by decide +kernel
theorem dX6_rivals_147 : decode cX6_rivals 147 = .ok (.isub, 1) := by decide +kernel
theorem dX6_rivals_148 : decode cX6_rivals 148 = .ok (.iload_n 2, 1) := by decide +kernel
theorem dX6_rivals_149 : decode cX6_rivals 149 = .ok (.iconst 1, 1) := by decide +kernel
theorem dX6_rivals_150 : decode cX6_rivals 150 = .ok (.isub, 1) := by decide +kernel
theorem dX6_rivals_151 : decode cX6_rivals 151 = .ok (.iconst 0, 1) := by decide +kernel
theorem dX6_rivals_152 : decode cX6_rivals 152 = .ok (.invokestatic 199, 3) := by decide +kernel
theorem dX6_rivals_155 : decode cX6_rivals 155 = .ok (.ifCond .eq 7, 3) := by decide +kernel
theorem dX6_rivals_158 : decode cX6_rivals 158 = .ok (.iconst 1, 1) := by decide +kernel
theorem dX6_rivals_159 : decode cX6_rivals 159 = .ok (.goto 4, 3) := by decide +kernel
theorem dX6_rivals_162 : decode cX6_rivals 162 = .ok (.iconst 0, 1) := by decide +kernel
theorem dX6_rivals_163 : decode cX6_rivals 163 = .ok (.istore 7, 2) := by decide +kernel
theorem dX6_rivals_165 : decode cX6_rivals 165 = .ok (.iload 6, 2) := by decide +kernel
theorem dX6_rivals_167 : decode cX6_rivals 167 = .ok (.iload 7, 2) := by decide +kernel
theorem dX6_rivals_169 : decode cX6_rivals 169 = .ok (.iadd, 1) := by decide +kernel
theorem dX6_rivals_170 : decode cX6_rivals 170 = .ok (.ireturn, 1) := by decide +kernel
theorem dX6_share_0 : decode cX6_share 0 = .ok (.aload_n 0, 1) := by decide +kernel
theorem dX6_share_1 : decode cX6_share 1 = .ok (.getfield 10, 3) := by decide +kernel
theorem dX6_share_4 : decode cX6_share 4 = .ok (.iload_n 1, 1) := by decide +kernel
theorem dX6_share_5 : decode cX6_share 5 = .ok (.invokevirtual 76, 3) := by decide +kernel
theorem dX6_share_8 : decode cX6_share 8 = .ok (.ifCond .eq 12, 3) := by decide +kernel
theorem dX6_share_11 : decode cX6_share 11 = .ok (.iload_n 3, 1) := by decide +kernel
theorem dX6_share_12 : decode cX6_share 12 = .ok (.iconst 0, 1) := by decide +kernel
theorem dX6_share_13 : decode cX6_share 13 = .ok (.iconst 3, 1) := by decide +kernel
theorem dX6_share_14 : decode cX6_share 14 = .ok (.invokestatic 58, 3) := by decide +kernel
theorem dX6_share_17 : decode cX6_share 17 = .ok (.ifCond .ne 5, 3) := by decide +kernel
theorem dX6_share_20 : decode cX6_share 20 = .ok (.iconst (-1), 1) := by decide +kernel
theorem dX6_share_21 : decode cX6_share 21 = .ok (.ireturn, 1) := by decide +kernel
theorem dX6_share_22 : decode cX6_share 22 = .ok (.iload_n 2, 1) := by decide +kernel
theorem dX6_share_23 : decode cX6_share 23 = .ok (.iconst 0, 1) := by decide +kernel
theorem dX6_share_24 : decode cX6_share 24 = .ok (.sipush 999, 3) := by decide +kernel
theorem dX6_share_27 : decode cX6_share 27 = .ok (.invokestatic 58, 3) := by decide +kernel
theorem dX6_share_30 : decode cX6_share 30 = .ok (.ifCond .ne 6, 3) := by decide +kernel
theorem dX6_share_33 : decode cX6_share 33 = .ok (.bipush (-2), 2) := by decide +kernel
theorem dX6_share_35 : decode cX6_share 35 = .ok (.ireturn, 1) := by decide +kernel
theorem dX6_share_36 : decode cX6_share 36 = .ok (.aload_n 0, 1) := by decide +kernel
theorem dX6_share_37 : decode cX6_share 37 = .ok (.getfield 10, 3) := by decide +kernel
theorem dX6_share_40 : decode cX6_share 40 = .ok (.iload_n 1, 1) := by decide +kernel
theorem dX6_share_41 : decode cX6_share 41 = .ok (.invokevirtual 203, 3) := by decide +kernel
theorem dX6_share_44 : decode cX6_share 44 = .ok (.istore 4, 2) := by decide +kernel
theorem dX6_share_46 : decode cX6_share 46 = .ok (.iload 4, 2) := by decide +kernel
theorem dX6_share_48 : decode cX6_share 48 = .ok (.ifCond .ne 5, 3) := by decide +kernel
theorem dX6_share_51 : decode cX6_share 51 = .ok (.iconst 0, 1) := by decide +kernel
theorem dX6_share_52 : decode cX6_share 52 = .ok (.ireturn, 1) := by decide +kernel
theorem dX6_share_53 : decode cX6_share 53 = .ok (.aload_n 0, 1) := by decide +kernel
theorem dX6_share_54 : decode cX6_share 54 = .ok (.getfield 10, 3) := by decide +kernel
theorem dX6_share_57 : decode cX6_share 57 = .ok (.iload_n 1, 1) := by decide +kernel
theorem dX6_share_58 : decode cX6_share 58 = .ok (.iload_n 3, 1) := by decide +kernel
theorem dX6_share_59 : decode cX6_share 59 = .ok (.invokevirtual 141, 3) := by decide +kernel
theorem dX6_share_62 : decode cX6_share 62 = .ok (.invokestatic 70, 3) := by decide +kernel
theorem dX6_share_65 : decode cX6_share 65 = .ok (.istore 5, 2) := by decide +kernel
theorem dX6_share_67 : decode cX6_share 67 = .ok (.iload_n 2, 1) := by decide +kernel
theorem dX6_share_68 : decode cX6_share 68 = .ok (.istore 6, 2) := by decide +kernel
theorem dX6_share_70 : decode cX6_share 70 = .ok (.iconst 0, 1) := by decide +kernel
theorem dX6_share_71 : decode cX6_share 71 = .ok (.istore 7, 2) := by decide +kernel
theorem dX6_share_73 : decode cX6_share 73 = .ok (.iconst 0, 1) := by decide +kernel
theorem dX6_share_74 : decode cX6_share 74 = .ok (.istore 8, 2) := by decide +kernel
theorem dX6_share_76 : decode cX6_share 76 = .ok (.iload 8, 2) := by decide +kernel
theorem dX6_share_78 : decode cX6_share 78 = .ok (.iconst 4, 1) := by decide +kernel
theorem dX6_share_79 : decode cX6_share 79 = .ok (.if_icmp .ge 59, 3) := by decide +kernel
theorem dX6_share_82 : decode cX6_share 82 = .ok (.aload_n 0, 1) := by decide +kernel
theorem dX6_share_83 : decode cX6_share 83 = .ok (.getfield 10, 3) := by decide +kernel
theorem dX6_share_86 : decode cX6_share 86 = .ok (.iload_n 1, 1) := by decide +kernel
theorem dX6_share_87 : decode cX6_share 87 = .ok (.iload 8, 2) := by decide +kernel
theorem dX6_share_89 : decode cX6_share 89 = .ok (.invokevirtual 141, 3) := by decide +kernel
theorem dX6_share_92 : decode cX6_share 92 = .ok (.invokestatic 70, 3) := by decide +kernel
theorem dX6_share_95 : decode cX6_share 95 = .ok (.istore 9, 2) := by decide +kernel
theorem dX6_share_97 : decode cX6_share 97 = .ok (.iload 6, 2) := by decide +kernel
theorem dX6_share_99 : decode cX6_share 99 = .ok (.iload_n 2, 1) := by decide +kernel
theorem dX6_share_100 : decode cX6_share 100 = .ok (.iload 9, 2) := by decide +kernel
theorem dX6_share_102 : decode cX6_share 102 = .ok (.imul, 1) := by decide +kernel
theorem dX6_share_103 : decode cX6_share 103 = .ok (.iload 4, 2) := by decide +kernel
theorem dX6_share_105 : decode cX6_share 105 = .ok (.idiv, 1) := by decide +kernel
theorem dX6_share_106 : decode cX6_share 106 = .ok (.isub, 1) := by decide +kernel
theorem dX6_share_107 : decode cX6_share 107 = .ok (.istore 6, 2) := by decide +kernel
theorem dX6_share_109 : decode cX6_share 109 = .ok (.iload 9, 2) := by decide +kernel
theorem dX6_share_111 : decode cX6_share 111 = .ok (.iload 5, 2) := by decide +kernel
theorem dX6_share_113 : decode cX6_share 113 = .ok (.if_icmp .gt 16, 3) := by decide +kernel
theorem dX6_share_116 : decode cX6_share 116 = .ok (.iload 9, 2) := by decide +kernel
theorem dX6_share_118 : decode cX6_share 118 = .ok (.iload 5, 2) := by decide +kernel
theorem dX6_share_120 : decode cX6_share 120 = .ok (.if_icmp .ne 12, 3) := by decide +kernel
theorem dX6_share_123 : decode cX6_share 123 = .ok (.iload 8, 2) := by decide +kernel
theorem dX6_share_125 : decode cX6_share 125 = .ok (.iload_n 3, 1) := by decide +kernel
theorem dX6_share_126 : decode cX6_share 126 = .ok (.if_icmp .ge 6, 3) := by decide +kernel
theorem dX6_share_129 : decode cX6_share 129 = .ok (.iinc 7 1, 3) := by decide +kernel
theorem dX6_share_132 : decode cX6_share 132 = .ok (.iinc 8 1, 3) := by decide +kernel
theorem dX6_share_135 : decode cX6_share 135 = .ok (.goto (-59), 3) := by decide +kernel
theorem dX6_share_138 : decode cX6_share 138 = .ok (.iload_n 2, 1) := by decide +kernel
theorem dX6_share_139 : decode cX6_share 139 = .ok (.iload 5, 2) := by decide +kernel
theorem dX6_share_141 : decode cX6_share 141 = .ok (.imul, 1) := by decide +kernel
theorem dX6_share_142 : decode cX6_share 142 = .ok (.iload 4, 2) := by decide +kernel
theorem dX6_share_144 : decode cX6_share 144 = .ok (.idiv, 1) := by decide +kernel
theorem dX6_share_145 : decode cX6_share 145 = .ok (.iload 7, 2) := by decide +kernel
theorem dX6_share_147 : decode cX6_share 147 = .ok (.iload 6, 2) := by decide +kernel
theorem dX6_share_149 : decode cX6_share 149 = .ok (.if_icmp .ge 7, 3) := by decide +kernel
theorem dX6_share_152 : decode cX6_share 152 = .ok (.iconst 1, 1) := by decide +kernel
theorem dX6_share_153 : decode cX6_share 153 = .ok (.goto 4, 3) := by decide +kernel
theorem dX6_share_156 : decode cX6_share 156 = .ok (.iconst 0, 1) := by decide +kernel
theorem dX6_share_157 : decode cX6_share 157 = .ok (.iadd, 1) := by decide +kernel
theorem dX6_share_158 : decode cX6_share 158 = .ok (.ireturn, 1) := by decide +kernel
theorem dX6_seen_0 : decode cX6_seen 0 = .ok (.iload_n 1, 1) := by decide +kernel
theorem dX6_seen_1 : decode cX6_seen 1 = .ok (.iconst 0, 1) := by decide +kernel
theorem dX6_seen_2 : decode cX6_seen 2 = .ok (.bipush 9, 2) := by decide +kernel
theorem dX6_seen_4 : decode cX6_seen 4 = .ok (.invokestatic 58, 3) := by decide +kernel
theorem dX6_seen_7 : decode cX6_seen 7 = .ok (.ifCond .eq 13, 3) := by decide +kernel
theorem dX6_seen_10 : decode cX6_seen 10 = .ok (.iload_n 2, 1) := by decide +kernel
theorem dX6_seen_11 : decode cX6_seen 11 = .ok (.iconst 0, 1) := by decide +kernel
theorem dX6_seen_12 : decode cX6_seen 12 = .ok (.bipush 9, 2) := by decide +kernel
theorem dX6_seen_14 : decode cX6_seen 14 = .ok (.invokestatic 58, 3) := by decide +kernel
theorem dX6_seen_17 : decode cX6_seen 17 = .ok (.ifCond .ne 6, 3) := by decide +kernel
theorem dX6_seen_20 : decode cX6_seen 20 = .ok (.bipush (-2), 2) := by decide +kernel
theorem dX6_seen_22 : decode cX6_seen 22 = .ok (.ireturn, 1) := by decide +kernel
theorem dX6_seen_23 : decode cX6_seen 23 = .ok (.aload_n 0, 1) := by decide +kernel
theorem dX6_seen_24 : decode cX6_seen 24 = .ok (.getfield 10, 3) := by decide +kernel
theorem dX6_seen_27 : decode cX6_seen 27 = .ok (.getfield 206, 3) := by decide +kernel
theorem dX6_seen_30 : decode cX6_seen 30 = .ok (.bipush 8, 2) := by decide +kernel
theorem dX6_seen_32 : decode cX6_seen 32 = .ok (.if_icmp .lt 6, 3) := by decide +kernel
theorem dX6_seen_35 : decode cX6_seen 35 = .ok (.bipush (-4), 2) := by decide +kernel
theorem dX6_seen_37 : decode cX6_seen 37 = .ok (.ireturn, 1) := by decide +kernel
theorem dX6_seen_38 : decode cX6_seen 38 = .ok (.aload_n 0, 1) := by decide +kernel
theorem dX6_seen_39 : decode cX6_seen 39 = .ok (.getfield 10, 3) := by decide +kernel
theorem dX6_seen_42 : decode cX6_seen 42 = .ok (.iload_n 1, 1) := by decide +kernel
theorem dX6_seen_43 : decode cX6_seen 43 = .ok (.iload_n 2, 1) := by decide +kernel
theorem dX6_seen_44 : decode cX6_seen 44 = .ok (.iload_n 3, 1) := by decide +kernel
theorem dX6_seen_45 : decode cX6_seen 45 = .ok (.invokevirtual 209, 3) := by decide +kernel
theorem dX6_seen_48 : decode cX6_seen 48 = .ok (.aload_n 0, 1) := by decide +kernel
theorem dX6_seen_49 : decode cX6_seen 49 = .ok (.getfield 10, 3) := by decide +kernel
theorem dX6_seen_52 : decode cX6_seen 52 = .ok (.getfield 206, 3) := by decide +kernel
theorem dX6_seen_55 : decode cX6_seen 55 = .ok (.ireturn, 1) := by decide +kernel
theorem dX6_forget_0 : decode cX6_forget 0 = .ok (.aload_n 0, 1) := by decide +kernel
theorem dX6_forget_1 : decode cX6_forget 1 = .ok (.getfield 10, 3) := by decide +kernel
theorem dX6_forget_4 : decode cX6_forget 4 = .ok (.getfield 206, 3) := by decide +kernel
theorem dX6_forget_7 : decode cX6_forget 7 = .ok (.istore_n 1, 1) := by decide +kernel
theorem dX6_forget_8 : decode cX6_forget 8 = .ok (.aload_n 0, 1) := by decide +kernel
theorem dX6_forget_9 : decode cX6_forget 9 = .ok (.getfield 10, 3) := by decide +kernel
theorem dX6_forget_12 : decode cX6_forget 12 = .ok (.iconst 0, 1) := by decide +kernel
theorem dX6_forget_13 : decode cX6_forget 13 = .ok (.putfield 206, 3) := by decide +kernel
theorem dX6_forget_16 : decode cX6_forget 16 = .ok (.iload_n 1, 1) := by decide +kernel
theorem dX6_forget_17 : decode cX6_forget 17 = .ok (.ireturn, 1) := by decide +kernel
theorem dX6_laws_0 : decode cX6_laws 0 = .ok (.aload_n 0, 1) := by decide +kernel
theorem dX6_laws_1 : decode cX6_laws 1 = .ok (.getfield 54, 3) := by decide +kernel
theorem dX6_laws_4 : decode cX6_laws 4 = .ok (.aload_n 0, 1) := by decide +kernel
theorem dX6_laws_5 : decode cX6_laws 5 = .ok (.getfield 10, 3) := by decide +kernel
theorem dX6_laws_8 : decode cX6_laws 8 = .ok (.invokevirtual 213, 3) := by decide +kernel
theorem dX6_laws_11 : decode cX6_laws 11 = .ok (.iload_n 1, 1) := by decide +kernel
theorem dX6_laws_12 : decode cX6_laws 12 = .ok (.iconst (-1), 1) := by decide +kernel
theorem dX6_laws_13 : decode cX6_laws 13 = .ok (.if_icmp .ne 11, 3) := by decide +kernel
theorem dX6_laws_16 : decode cX6_laws 16 = .ok (.aload_n 0, 1) := by decide +kernel
theorem dX6_laws_17 : decode cX6_laws 17 = .ok (.getfield 54, 3) := by decide +kernel
theorem dX6_laws_20 : decode cX6_laws 20 = .ok (.getfield 216, 3) := by decide +kernel
theorem dX6_laws_23 : decode cX6_laws 23 = .ok (.ireturn, 1) := by decide +kernel
theorem dX6_laws_24 : decode cX6_laws 24 = .ok (.iload_n 1, 1) := by decide +kernel
theorem dX6_laws_25 : decode cX6_laws 25 = .ok (.iconst 0, 1) := by decide +kernel
theorem dX6_laws_26 : decode cX6_laws 26 = .ok (.aload_n 0, 1) := by decide +kernel
theorem dX6_laws_27 : decode cX6_laws 27 = .ok (.getfield 54, 3) := by decide +kernel
theorem dX6_laws_30 : decode cX6_laws 30 = .ok (.getfield 216, 3) := by decide +kernel
theorem dX6_laws_33 : decode cX6_laws 33 = .ok (.iconst 1, 1) := by decide +kernel
theorem dX6_laws_34 : decode cX6_laws 34 = .ok (.isub, 1) := by decide +kernel
theorem dX6_laws_35 : decode cX6_laws 35 = .ok (.invokestatic 58, 3) := by decide +kernel
theorem dX6_laws_38 : decode cX6_laws 38 = .ok (.ifCond .eq 15, 3) := by decide +kernel
theorem dX6_laws_41 : decode cX6_laws 41 = .ok (.aload_n 0, 1) := by decide +kernel
theorem dX6_laws_42 : decode cX6_laws 42 = .ok (.getfield 54, 3) := by decide +kernel
theorem dX6_laws_45 : decode cX6_laws 45 = .ok (.getfield 217, 3) := by decide +kernel
theorem dX6_laws_48 : decode cX6_laws 48 = .ok (.iload_n 1, 1) := by decide +kernel
theorem dX6_laws_49 : decode cX6_laws 49 = .ok (.iaload, 1) := by decide +kernel
theorem dX6_laws_50 : decode cX6_laws 50 = .ok (.goto 5, 3) := by decide +kernel
theorem dX6_laws_53 : decode cX6_laws 53 = .ok (.bipush (-6), 2) := by decide +kernel
theorem dX6_laws_55 : decode cX6_laws 55 = .ok (.ireturn, 1) := by decide +kernel
theorem dX6_ask_0 : decode cX6_ask 0 = .ok (.iload_n 1, 1) := by decide +kernel
theorem dX6_ask_1 : decode cX6_ask 1 = .ok (.iconst 0, 1) := by decide +kernel
theorem dX6_ask_2 : decode cX6_ask 2 = .ok (.iconst 1, 1) := by decide +kernel
theorem dX6_ask_3 : decode cX6_ask 3 = .ok (.invokestatic 58, 3) := by decide +kernel
theorem dX6_ask_6 : decode cX6_ask 6 = .ok (.ifCond .ne 6, 3) := by decide +kernel
theorem dX6_ask_9 : decode cX6_ask 9 = .ok (.bipush (-2), 2) := by decide +kernel
theorem dX6_ask_11 : decode cX6_ask 11 = .ok (.ireturn, 1) := by decide +kernel
theorem dX6_ask_12 : decode cX6_ask 12 = .ok (.aload_n 0, 1) := by decide +kernel
theorem dX6_ask_13 : decode cX6_ask 13 = .ok (.getfield 54, 3) := by decide +kernel
theorem dX6_ask_16 : decode cX6_ask 16 = .ok (.aload_n 0, 1) := by decide +kernel
theorem dX6_ask_17 : decode cX6_ask 17 = .ok (.getfield 10, 3) := by decide +kernel
theorem dX6_ask_20 : decode cX6_ask 20 = .ok (.invokevirtual 213, 3) := by decide +kernel
theorem dX6_ask_23 : decode cX6_ask 23 = .ok (.aload_n 0, 1) := by decide +kernel
theorem dX6_ask_24 : decode cX6_ask 24 = .ok (.getfield 54, 3) := by decide +kernel
theorem dX6_ask_27 : decode cX6_ask 27 = .ok (.getfield 216, 3) := by decide +kernel
theorem dX6_ask_30 : decode cX6_ask 30 = .ok (.ifCond .ne 6, 3) := by decide +kernel
theorem dX6_ask_33 : decode cX6_ask 33 = .ok (.bipush (-6), 2) := by decide +kernel
theorem dX6_ask_35 : decode cX6_ask 35 = .ok (.ireturn, 1) := by decide +kernel
theorem dX6_ask_36 : decode cX6_ask 36 = .ok (.bipush 101, 2) := by decide +kernel
theorem dX6_ask_38 : decode cX6_ask 38 = .ok (.istore_n 2, 1) := by decide +kernel
theorem dX6_ask_39 : decode cX6_ask 39 = .ok (.iconst 0, 1) := by decide +kernel
theorem dX6_ask_40 : decode cX6_ask 40 = .ok (.istore_n 3, 1) := by decide +kernel
theorem dX6_ask_41 : decode cX6_ask 41 = .ok (.iconst 0, 1) := by decide +kernel
theorem dX6_ask_42 : decode cX6_ask 42 = .ok (.istore 4, 2) := by decide +kernel
theorem dX6_ask_44 : decode cX6_ask 44 = .ok (.iload 4, 2) := by decide +kernel
theorem dX6_ask_46 : decode cX6_ask 46 = .ok (.bipush 100, 2) := by decide +kernel
theorem dX6_ask_48 : decode cX6_ask 48 = .ok (.if_icmp .ge 57, 3) := by decide +kernel
theorem dX6_ask_51 : decode cX6_ask 51 = .ok (.aload_n 0, 1) := by decide +kernel
theorem dX6_ask_52 : decode cX6_ask 52 = .ok (.getfield 54, 3) := by decide +kernel
theorem dX6_ask_55 : decode cX6_ask 55 = .ok (.iload 4, 2) := by decide +kernel
theorem dX6_ask_57 : decode cX6_ask 57 = .ok (.bipush 10, 2) := by decide +kernel
theorem dX6_ask_59 : decode cX6_ask 59 = .ok (.idiv, 1) := by decide +kernel
theorem dX6_ask_60 : decode cX6_ask 60 = .ok (.iload 4, 2) := by decide +kernel
theorem dX6_ask_62 : decode cX6_ask 62 = .ok (.bipush 10, 2) := by decide +kernel
theorem dX6_ask_64 : decode cX6_ask 64 = .ok (.irem, 1) := by decide +kernel
theorem dX6_ask_65 : decode cX6_ask 65 = .ok (.invokevirtual 220, 3) := by decide +kernel
theorem dX6_ask_68 : decode cX6_ask 68 = .ok (.istore 5, 2) := by decide +kernel
theorem dX6_ask_70 : decode cX6_ask 70 = .ok (.iload 5, 2) := by decide +kernel
theorem dX6_ask_72 : decode cX6_ask 72 = .ok (.aload_n 0, 1) := by decide +kernel
theorem dX6_ask_73 : decode cX6_ask 73 = .ok (.getfield 54, 3) := by decide +kernel
theorem dX6_ask_76 : decode cX6_ask 76 = .ok (.getfield 216, 3) := by decide +kernel
theorem dX6_ask_79 : decode cX6_ask 79 = .ok (.iload 5, 2) := by decide +kernel
theorem dX6_ask_81 : decode cX6_ask 81 = .ok (.isub, 1) := by decide +kernel
theorem dX6_ask_82 : decode cX6_ask 82 = .ok (.invokestatic 161, 3) := by decide +kernel
theorem dX6_ask_85 : decode cX6_ask 85 = .ok (.istore 6, 2) := by decide +kernel
theorem dX6_ask_87 : decode cX6_ask 87 = .ok (.iload 6, 2) := by decide +kernel
theorem dX6_ask_89 : decode cX6_ask 89 = .ok (.iload_n 2, 1) := by decide +kernel
theorem dX6_ask_90 : decode cX6_ask 90 = .ok (.if_icmp .ge 9, 3) := by decide +kernel
theorem dX6_ask_93 : decode cX6_ask 93 = .ok (.iload 6, 2) := by decide +kernel
theorem dX6_ask_95 : decode cX6_ask 95 = .ok (.istore_n 2, 1) := by decide +kernel
theorem dX6_ask_96 : decode cX6_ask 96 = .ok (.iload 4, 2) := by decide +kernel
theorem dX6_ask_98 : decode cX6_ask 98 = .ok (.istore_n 3, 1) := by decide +kernel
theorem dX6_ask_99 : decode cX6_ask 99 = .ok (.iinc 4 1, 3) := by decide +kernel
theorem dX6_ask_102 : decode cX6_ask 102 = .ok (.goto (-58), 3) := by decide +kernel
theorem dX6_ask_105 : decode cX6_ask 105 = .ok (.iload_n 1, 1) := by decide +kernel
theorem dX6_ask_106 : decode cX6_ask 106 = .ok (.ifCond .ne 7, 3) := by decide +kernel
theorem dX6_ask_109 : decode cX6_ask 109 = .ok (.iload_n 3, 1) := by decide +kernel
theorem dX6_ask_110 : decode cX6_ask 110 = .ok (.goto 4, 3) := by decide +kernel
theorem dX6_ask_113 : decode cX6_ask 113 = .ok (.iload_n 2, 1) := by decide +kernel
theorem dX6_ask_114 : decode cX6_ask 114 = .ok (.ireturn, 1) := by decide +kernel
theorem dX6_book_0 : decode cX6_book 0 = .ok (.iload_n 1, 1) := by decide +kernel
theorem dX6_book_1 : decode cX6_book 1 = .ok (.iconst 0, 1) := by decide +kernel
theorem dX6_book_2 : decode cX6_book 2 = .ok (.sipush 9999, 3) := by decide +kernel
theorem dX6_book_5 : decode cX6_book 5 = .ok (.invokestatic 58, 3) := by decide +kernel
theorem dX6_book_8 : decode cX6_book 8 = .ok (.ifCond .eq 22, 3) := by decide +kernel
theorem dX6_book_11 : decode cX6_book 11 = .ok (.iload_n 2, 1) := by decide +kernel
theorem dX6_book_12 : decode cX6_book 12 = .ok (.iconst 1, 1) := by decide +kernel
theorem dX6_book_13 : decode cX6_book 13 = .ok (.bipush 99, 2) := by decide +kernel
theorem dX6_book_15 : decode cX6_book 15 = .ok (.invokestatic 58, 3) := by decide +kernel
theorem dX6_book_18 : decode cX6_book 18 = .ok (.ifCond .eq 12, 3) := by decide +kernel
theorem dX6_book_21 : decode cX6_book 21 = .ok (.iload_n 3, 1) := by decide +kernel
theorem dX6_book_22 : decode cX6_book 22 = .ok (.iconst 0, 1) := by decide +kernel
theorem dX6_book_23 : decode cX6_book 23 = .ok (.iconst 2, 1) := by decide +kernel
theorem dX6_book_24 : decode cX6_book 24 = .ok (.invokestatic 58, 3) := by decide +kernel
theorem dX6_book_27 : decode cX6_book 27 = .ok (.ifCond .ne 6, 3) := by decide +kernel
theorem dX6_book_30 : decode cX6_book 30 = .ok (.bipush (-2), 2) := by decide +kernel
theorem dX6_book_32 : decode cX6_book 32 = .ok (.ireturn, 1) := by decide +kernel
theorem dX6_book_33 : decode cX6_book 33 = .ok (.aload_n 0, 1) := by decide +kernel
theorem dX6_book_34 : decode cX6_book 34 = .ok (.getfield 16, 3) := by decide +kernel
theorem dX6_book_37 : decode cX6_book 37 = .ok (.aload_n 0, 1) := by decide +kernel
theorem dX6_book_38 : decode cX6_book 38 = .ok (.getfield 10, 3) := by decide +kernel
theorem dX6_book_41 : decode cX6_book 41 = .ok (.invokevirtual 151, 3) := by decide +kernel
theorem dX6_book_44 : decode cX6_book 44 = .ok (.iload_n 1, 1) := by decide +kernel
theorem dX6_book_45 : decode cX6_book 45 = .ok (.istore 4, 2) := by decide +kernel
theorem dX6_book_47 : decode cX6_book 47 = .ok (.iconst 0, 1) := by decide +kernel
theorem dX6_book_48 : decode cX6_book 48 = .ok (.istore 5, 2) := by decide +kernel
theorem dX6_book_50 : decode cX6_book 50 = .ok (.iload 5, 2) := by decide +kernel
theorem dX6_book_52 : decode cX6_book 52 = .ok (.iload_n 2, 1) := by decide +kernel
theorem dX6_book_53 : decode cX6_book 53 = .ok (.if_icmp .ge 56, 3) := by decide +kernel
theorem dX6_book_56 : decode cX6_book 56 = .ok (.bipush 75, 2) := by decide +kernel
theorem dX6_book_58 : decode cX6_book 58 = .ok (.iload 4, 2) := by decide +kernel
theorem dX6_book_60 : decode cX6_book 60 = .ok (.imul, 1) := by decide +kernel
theorem dX6_book_61 : decode cX6_book 61 = .ok (.bipush 74, 2) := by decide +kernel
theorem dX6_book_63 : decode cX6_book 63 = .ok (.iadd, 1) := by decide +kernel
theorem dX6_book_64 : decode cX6_book 64 = .ok (.ldc 223, 2) := by decide +kernel
theorem dX6_book_66 : decode cX6_book 66 = .ok (.irem, 1) := by decide +kernel
theorem dX6_book_67 : decode cX6_book 67 = .ok (.istore 4, 2) := by decide +kernel
theorem dX6_book_69 : decode cX6_book 69 = .ok (.aload_n 0, 1) := by decide +kernel
theorem dX6_book_70 : decode cX6_book 70 = .ok (.getfield 40, 3) := by decide +kernel
theorem dX6_book_73 : decode cX6_book 73 = .ok (.iload 4, 2) := by decide +kernel
theorem dX6_book_75 : decode cX6_book 75 = .ok (.invokevirtual 224, 3) := by decide +kernel
theorem dX6_book_78 : decode cX6_book 78 = .ok (.aload_n 0, 1) := by decide +kernel
theorem dX6_book_79 : decode cX6_book 79 = .ok (.getfield 16, 3) := by decide +kernel
theorem dX6_book_82 : decode cX6_book 82 = .ok (.aload_n 0, 1) := by decide +kernel
theorem dX6_book_83 : decode cX6_book 83 = .ok (.getfield 40, 3) := by decide +kernel
theorem dX6_book_86 : decode cX6_book 86 = .ok (.invokevirtual 227, 3) := by decide +kernel
theorem dX6_book_89 : decode cX6_book 89 = .ok (.ifCond .ne 14, 3) := by decide +kernel
theorem dX6_book_92 : decode cX6_book 92 = .ok (.aload_n 0, 1) := by decide +kernel
theorem dX6_book_93 : decode cX6_book 93 = .ok (.getfield 16, 3) := by decide +kernel
theorem dX6_book_96 : decode cX6_book 96 = .ok (.aload_n 0, 1) := by decide +kernel
theorem dX6_book_97 : decode cX6_book 97 = .ok (.getfield 40, 3) := by decide +kernel
theorem dX6_book_100 : decode cX6_book 100 = .ok (.invokevirtual 231, 3) := by decide +kernel
theorem dX6_book_103 : decode cX6_book 103 = .ok (.iinc 5 1, 3) := by decide +kernel
theorem dX6_book_106 : decode cX6_book 106 = .ok (.goto (-56), 3) := by decide +kernel
theorem dX6_book_109 : decode cX6_book 109 = .ok (.iload_n 3, 1) := by decide +kernel
theorem dX6_book_110 : decode cX6_book 110 = .ok (.lookupswitch 45 #[(0, 26), (1, 37)], 26) := by decide +kernel
theorem dX6_book_136 : decode cX6_book 136 = .ok (.aload_n 0, 1) := by decide +kernel
theorem dX6_book_137 : decode cX6_book 137 = .ok (.getfield 16, 3) := by decide +kernel
theorem dX6_book_140 : decode cX6_book 140 = .ok (.invokevirtual 158, 3) := by decide +kernel
theorem dX6_book_143 : decode cX6_book 143 = .ok (.invokestatic 70, 3) := by decide +kernel
theorem dX6_book_146 : decode cX6_book 146 = .ok (.ireturn, 1) := by decide +kernel
theorem dX6_book_147 : decode cX6_book 147 = .ok (.aload_n 0, 1) := by decide +kernel
theorem dX6_book_148 : decode cX6_book 148 = .ok (.getfield 16, 3) := by decide +kernel
theorem dX6_book_151 : decode cX6_book 151 = .ok (.invokevirtual 235, 3) := by decide +kernel
theorem dX6_book_154 : decode cX6_book 154 = .ok (.ireturn, 1) := by decide +kernel
theorem dX6_book_155 : decode cX6_book 155 = .ok (.aload_n 0, 1) := by decide +kernel
theorem dX6_book_156 : decode cX6_book 156 = .ok (.getfield 16, 3) := by decide +kernel
theorem dX6_book_159 : decode cX6_book 159 = .ok (.invokevirtual 238, 3) := by decide +kernel
theorem dX6_book_162 : decode cX6_book 162 = .ok (.ireturn, 1) := by decide +kernel
theorem dX6_image_0 : decode cX6_image 0 = .ok (.iload_n 1, 1) := by decide +kernel
theorem dX6_image_1 : decode cX6_image 1 = .ok (.iconst 0, 1) := by decide +kernel
theorem dX6_image_2 : decode cX6_image 2 = .ok (.iconst 1, 1) := by decide +kernel
theorem dX6_image_3 : decode cX6_image 3 = .ok (.invokestatic 58, 3) := by decide +kernel
theorem dX6_image_6 : decode cX6_image 6 = .ok (.ifCond .ne 6, 3) := by decide +kernel
theorem dX6_image_9 : decode cX6_image 9 = .ok (.bipush (-2), 2) := by decide +kernel
theorem dX6_image_11 : decode cX6_image 11 = .ok (.ireturn, 1) := by decide +kernel
theorem dX6_image_12 : decode cX6_image 12 = .ok (.aload_n 0, 1) := by decide +kernel
theorem dX6_image_13 : decode cX6_image 13 = .ok (.getfield 19, 3) := by decide +kernel
theorem dX6_image_16 : decode cX6_image 16 = .ok (.iload_n 1, 1) := by decide +kernel
theorem dX6_image_17 : decode cX6_image 17 = .ok (.aaload, 1) := by decide +kernel
theorem dX6_image_18 : decode cX6_image 18 = .ok (.astore_n 2, 1) := by decide +kernel
theorem dX6_image_19 : decode cX6_image 19 = .ok (.aload_n 2, 1) := by decide +kernel
theorem dX6_image_20 : decode cX6_image 20 = .ok (.ifnonnull 18, 3) := by decide +kernel
theorem dX6_image_23 : decode cX6_image 23 = .ok (.new 7, 3) := by decide +kernel
theorem dX6_image_26 : decode cX6_image 26 = .ok (.dup, 1) := by decide +kernel
theorem dX6_image_27 : decode cX6_image 27 = .ok (.invokespecial 9, 3) := by decide +kernel
theorem dX6_image_30 : decode cX6_image 30 = .ok (.astore_n 2, 1) := by decide +kernel
theorem dX6_image_31 : decode cX6_image 31 = .ok (.aload_n 0, 1) := by decide +kernel
theorem dX6_image_32 : decode cX6_image 32 = .ok (.getfield 19, 3) := by decide +kernel
theorem dX6_image_35 : decode cX6_image 35 = .ok (.iload_n 1, 1) := by decide +kernel
theorem dX6_image_36 : decode cX6_image 36 = .ok (.aload_n 2, 1) := by decide +kernel
theorem dX6_image_37 : decode cX6_image 37 = .ok (.aastore, 1) := by decide +kernel
theorem dX6_image_38 : decode cX6_image 38 = .ok (.aload_n 2, 1) := by decide +kernel
theorem dX6_image_39 : decode cX6_image 39 = .ok (.aload_n 0, 1) := by decide +kernel
theorem dX6_image_40 : decode cX6_image 40 = .ok (.getfield 10, 3) := by decide +kernel
theorem dX6_image_43 : decode cX6_image 43 = .ok (.invokevirtual 151, 3) := by decide +kernel
theorem dX6_image_46 : decode cX6_image 46 = .ok (.iconst 1, 1) := by decide +kernel
theorem dX6_image_47 : decode cX6_image 47 = .ok (.ireturn, 1) := by decide +kernel
theorem dX6_restore_0 : decode cX6_restore 0 = .ok (.iload_n 1, 1) := by decide +kernel
theorem dX6_restore_1 : decode cX6_restore 1 = .ok (.iconst 0, 1) := by decide +kernel
theorem dX6_restore_2 : decode cX6_restore 2 = .ok (.iconst 1, 1) := by decide +kernel
theorem dX6_restore_3 : decode cX6_restore 3 = .ok (.invokestatic 58, 3) := by decide +kernel
theorem dX6_restore_6 : decode cX6_restore 6 = .ok (.ifCond .ne 6, 3) := by decide +kernel
theorem dX6_restore_9 : decode cX6_restore 9 = .ok (.bipush (-2), 2) := by decide +kernel
theorem dX6_restore_11 : decode cX6_restore 11 = .ok (.ireturn, 1) := by decide +kernel
theorem dX6_restore_12 : decode cX6_restore 12 = .ok (.aload_n 0, 1) := by decide +kernel
theorem dX6_restore_13 : decode cX6_restore 13 = .ok (.getfield 19, 3) := by decide +kernel
theorem dX6_restore_16 : decode cX6_restore 16 = .ok (.iload_n 1, 1) := by decide +kernel
theorem dX6_restore_17 : decode cX6_restore 17 = .ok (.aaload, 1) := by decide +kernel
theorem dX6_restore_18 : decode cX6_restore 18 = .ok (.astore_n 2, 1) := by decide +kernel
theorem dX6_restore_19 : decode cX6_restore 19 = .ok (.aload_n 2, 1) := by decide +kernel
theorem dX6_restore_20 : decode cX6_restore 20 = .ok (.ifnonnull 6, 3) := by decide +kernel
theorem dX6_restore_23 : decode cX6_restore 23 = .ok (.bipush (-3), 2) := by decide +kernel
theorem dX6_restore_25 : decode cX6_restore 25 = .ok (.ireturn, 1) := by decide +kernel
theorem dX6_restore_26 : decode cX6_restore 26 = .ok (.aload_n 0, 1) := by decide +kernel
theorem dX6_restore_27 : decode cX6_restore 27 = .ok (.getfield 10, 3) := by decide +kernel
theorem dX6_restore_30 : decode cX6_restore 30 = .ok (.aload_n 2, 1) := by decide +kernel
theorem dX6_restore_31 : decode cX6_restore 31 = .ok (.invokevirtual 151, 3) := by decide +kernel
theorem dX6_restore_34 : decode cX6_restore 34 = .ok (.iconst 1, 1) := by decide +kernel
theorem dX6_restore_35 : decode cX6_restore 35 = .ok (.ireturn, 1) := by decide +kernel
theorem dX6_told_0 : decode cX6_told 0 = .ok (.iload_n 1, 1) := by decide +kernel
theorem dX6_told_1 : decode cX6_told 1 = .ok (.bipush 50, 2) := by decide +kernel
theorem dX6_told_3 : decode cX6_told 3 = .ok (.sipush 349, 3) := by decide +kernel
theorem dX6_told_6 : decode cX6_told 6 = .ok (.invokestatic 58, 3) := by decide +kernel
theorem dX6_told_9 : decode cX6_told 9 = .ok (.ifCond .eq 18, 3) := by decide +kernel
theorem dX6_told_12 : decode cX6_told 12 = .ok (.aload_n 0, 1) := by decide +kernel
theorem dX6_told_13 : decode cX6_told 13 = .ok (.iload_n 1, 1) := by decide +kernel
theorem dX6_told_14 : decode cX6_told 14 = .ok (.bipush 50, 2) := by decide +kernel
theorem dX6_told_16 : decode cX6_told 16 = .ok (.idiv, 1) := by decide +kernel
theorem dX6_told_17 : decode cX6_told 17 = .ok (.iconst 1, 1) := by decide +kernel
theorem dX6_told_18 : decode cX6_told 18 = .ok (.isub, 1) := by decide +kernel
theorem dX6_told_19 : decode cX6_told 19 = .ok (.iload_n 1, 1) := by decide +kernel
theorem dX6_told_20 : decode cX6_told 20 = .ok (.bipush 50, 2) := by decide +kernel
theorem dX6_told_22 : decode cX6_told 22 = .ok (.irem, 1) := by decide +kernel
theorem dX6_told_23 : decode cX6_told 23 = .ok (.invokevirtual 241, 3) := by decide +kernel
theorem dX6_told_26 : decode cX6_told 26 = .ok (.ireturn, 1) := by decide +kernel
theorem dX6_told_27 : decode cX6_told 27 = .ok (.iload_n 1, 1) := by decide +kernel
theorem dX6_told_28 : decode cX6_told 28 = .ok (.bipush 10, 2) := by decide +kernel
theorem dX6_told_30 : decode cX6_told 30 = .ok (.bipush 13, 2) := by decide +kernel
theorem dX6_told_32 : decode cX6_told 32 = .ok (.invokestatic 58, 3) := by decide +kernel
theorem dX6_told_35 : decode cX6_told 35 = .ok (.ifCond .eq 16, 3) := by decide +kernel
theorem dX6_told_38 : decode cX6_told 38 = .ok (.aload_n 0, 1) := by decide +kernel
theorem dX6_told_39 : decode cX6_told 39 = .ok (.getfield 10, 3) := by decide +kernel
theorem dX6_told_42 : decode cX6_told 42 = .ok (.getfield 88, 3) := by decide +kernel
theorem dX6_told_45 : decode cX6_told 45 = .ok (.iload_n 1, 1) := by decide +kernel
theorem dX6_told_46 : decode cX6_told 46 = .ok (.bipush 10, 2) := by decide +kernel
theorem dX6_told_48 : decode cX6_told 48 = .ok (.isub, 1) := by decide +kernel
theorem dX6_told_49 : decode cX6_told 49 = .ok (.iaload, 1) := by decide +kernel
theorem dX6_told_50 : decode cX6_told 50 = .ok (.ireturn, 1) := by decide +kernel
theorem dX6_told_51 : decode cX6_told 51 = .ok (.iload_n 1, 1) := by decide +kernel
theorem dX6_told_52 : decode cX6_told 52 = .ok (.bipush 20, 2) := by decide +kernel
theorem dX6_told_54 : decode cX6_told 54 = .ok (.bipush 27, 2) := by decide +kernel
theorem dX6_told_56 : decode cX6_told 56 = .ok (.invokestatic 58, 3) := by decide +kernel
theorem dX6_told_59 : decode cX6_told 59 = .ok (.ifCond .eq 16, 3) := by decide +kernel
theorem dX6_told_62 : decode cX6_told 62 = .ok (.aload_n 0, 1) := by decide +kernel
theorem dX6_told_63 : decode cX6_told 63 = .ok (.getfield 10, 3) := by decide +kernel
theorem dX6_told_66 : decode cX6_told 66 = .ok (.getfield 100, 3) := by decide +kernel
theorem dX6_told_69 : decode cX6_told 69 = .ok (.iload_n 1, 1) := by decide +kernel
theorem dX6_told_70 : decode cX6_told 70 = .ok (.bipush 20, 2) := by decide +kernel
theorem dX6_told_72 : decode cX6_told 72 = .ok (.isub, 1) := by decide +kernel
theorem dX6_told_73 : decode cX6_told 73 = .ok (.iaload, 1) := by decide +kernel
theorem dX6_told_74 : decode cX6_told 74 = .ok (.ireturn, 1) := by decide +kernel
theorem dX6_told_75 : decode cX6_told 75 = .ok (.iload_n 1, 1) := by decide +kernel
theorem dX6_told_76 : decode cX6_told 76 = .ok (.tableswitch 106 0 6 #[44, 52, 60, 70, 80, 90, 98], 44) := by decide +kernel
theorem dX6_told_120 : decode cX6_told 120 = .ok (.aload_n 0, 1) := by decide +kernel
theorem dX6_told_121 : decode cX6_told 121 = .ok (.getfield 26, 3) := by decide +kernel
theorem dX6_told_124 : decode cX6_told 124 = .ok (.getfield 103, 3) := by decide +kernel
theorem dX6_told_127 : decode cX6_told 127 = .ok (.ireturn, 1) := by decide +kernel
theorem dX6_told_128 : decode cX6_told 128 = .ok (.aload_n 0, 1) := by decide +kernel
theorem dX6_told_129 : decode cX6_told 129 = .ok (.getfield 10, 3) := by decide +kernel
theorem dX6_told_132 : decode cX6_told 132 = .ok (.getfield 66, 3) := by decide +kernel
theorem dX6_told_135 : decode cX6_told 135 = .ok (.ireturn, 1) := by decide +kernel
theorem dX6_told_136 : decode cX6_told 136 = .ok (.aload_n 0, 1) := by decide +kernel
theorem dX6_told_137 : decode cX6_told 137 = .ok (.getfield 10, 3) := by decide +kernel
theorem dX6_told_140 : decode cX6_told 140 = .ok (.getfield 84, 3) := by decide +kernel
theorem dX6_told_143 : decode cX6_told 143 = .ok (.iconst 0, 1) := by decide +kernel
theorem dX6_told_144 : decode cX6_told 144 = .ok (.iaload, 1) := by decide +kernel
theorem dX6_told_145 : decode cX6_told 145 = .ok (.ireturn, 1) := by decide +kernel
theorem dX6_told_146 : decode cX6_told 146 = .ok (.aload_n 0, 1) := by decide +kernel
theorem dX6_told_147 : decode cX6_told 147 = .ok (.getfield 10, 3) := by decide +kernel
theorem dX6_told_150 : decode cX6_told 150 = .ok (.getfield 84, 3) := by decide +kernel
theorem dX6_told_153 : decode cX6_told 153 = .ok (.iconst 1, 1) := by decide +kernel
theorem dX6_told_154 : decode cX6_told 154 = .ok (.iaload, 1) := by decide +kernel
theorem dX6_told_155 : decode cX6_told 155 = .ok (.ireturn, 1) := by decide +kernel
theorem dX6_told_156 : decode cX6_told 156 = .ok (.aload_n 0, 1) := by decide +kernel
theorem dX6_told_157 : decode cX6_told 157 = .ok (.getfield 10, 3) := by decide +kernel
theorem dX6_told_160 : decode cX6_told 160 = .ok (.getfield 84, 3) := by decide +kernel
theorem dX6_told_163 : decode cX6_told 163 = .ok (.iconst 2, 1) := by decide +kernel
theorem dX6_told_164 : decode cX6_told 164 = .ok (.iaload, 1) := by decide +kernel
theorem dX6_told_165 : decode cX6_told 165 = .ok (.ireturn, 1) := by decide +kernel
theorem dX6_told_166 : decode cX6_told 166 = .ok (.aload_n 0, 1) := by decide +kernel
theorem dX6_told_167 : decode cX6_told 167 = .ok (.getfield 10, 3) := by decide +kernel
theorem dX6_told_170 : decode cX6_told 170 = .ok (.getfield 244, 3) := by decide +kernel
theorem dX6_told_173 : decode cX6_told 173 = .ok (.ireturn, 1) := by decide +kernel
theorem dX6_told_174 : decode cX6_told 174 = .ok (.aload_n 0, 1) := by decide +kernel
theorem dX6_told_175 : decode cX6_told 175 = .ok (.getfield 10, 3) := by decide +kernel
theorem dX6_told_178 : decode cX6_told 178 = .ok (.getfield 206, 3) := by decide +kernel
theorem dX6_told_181 : decode cX6_told 181 = .ok (.ireturn, 1) := by decide +kernel
theorem dX6_told_182 : decode cX6_told 182 = .ok (.bipush (-2), 2) := by decide +kernel
theorem dX6_told_184 : decode cX6_told 184 = .ok (.ireturn, 1) := by decide +kernel
theorem dX6_toldOfChild_0 : decode cX6_toldOfChild 0 = .ok (.aload_n 0, 1) := by decide +kernel
theorem dX6_toldOfChild_1 : decode cX6_toldOfChild 1 = .ok (.getfield 10, 3) := by decide +kernel
theorem dX6_toldOfChild_4 : decode cX6_toldOfChild 4 = .ok (.iload_n 1, 1) := by decide +kernel
theorem dX6_toldOfChild_5 : decode cX6_toldOfChild 5 = .ok (.invokevirtual 76, 3) := by decide +kernel
theorem dX6_toldOfChild_8 : decode cX6_toldOfChild 8 = .ok (.ifCond .ne 6, 3) := by decide +kernel
theorem dX6_toldOfChild_11 : decode cX6_toldOfChild 11 = .ok (.bipush (-2), 2) := by decide +kernel
theorem dX6_toldOfChild_13 : decode cX6_toldOfChild 13 = .ok (.ireturn, 1) := by decide +kernel
theorem dX6_toldOfChild_14 : decode cX6_toldOfChild 14 = .ok (.iload_n 2, 1) := by decide +kernel
theorem dX6_toldOfChild_15 : decode cX6_toldOfChild 15 = .ok (.bipush 10, 2) := by decide +kernel
theorem dX6_toldOfChild_17 : decode cX6_toldOfChild 17 = .ok (.bipush 17, 2) := by decide +kernel
theorem dX6_toldOfChild_19 : decode cX6_toldOfChild 19 = .ok (.invokestatic 58, 3) := by decide +kernel
theorem dX6_toldOfChild_22 : decode cX6_toldOfChild 22 = .ok (.ifCond .eq 16, 3) := by decide +kernel
theorem dX6_toldOfChild_25 : decode cX6_toldOfChild 25 = .ok (.aload_n 0, 1) := by decide +kernel
theorem dX6_toldOfChild_26 : decode cX6_toldOfChild 26 = .ok (.getfield 10, 3) := by decide +kernel
theorem dX6_toldOfChild_29 : decode cX6_toldOfChild 29 = .ok (.iload_n 1, 1) := by decide +kernel
theorem dX6_toldOfChild_30 : decode cX6_toldOfChild 30 = .ok (.iload_n 2, 1) := by decide +kernel
theorem dX6_toldOfChild_31 : decode cX6_toldOfChild 31 = .ok (.bipush 10, 2) := by decide +kernel
