theorem dX7_rivals_13 : decode cX7_rivals 13 = .ok (.ldc2_w 280, 3) := by decide +kernel
theorem dX7_rivals_16 : decode cX7_rivals 16 = .ok (.invokestatic 89, 3) := by decide +kernel
theorem dX7_rivals_19 : decode cX7_rivals 19 = .ok (.ifCond .eq 13, 3) := by decide +kernel
theorem dX7_rivals_22 : decode cX7_rivals 22 = .ok (.iload_n 3, 1) := by decide +kernel
theorem dX7_rivals_23 : decode cX7_rivals 23 = .ok (.i2l, 1) := by decide +kernel
theorem dX7_rivals_24 : decode cX7_rivals 24 = .ok (.lconst 0, 1) := by decide +kernel
theorem dX7_rivals_25 : decode cX7_rivals 25 = .ok (.lconst 1, 1) := by decide +kernel
theorem dX7_rivals_26 : decode cX7_rivals 26 = .ok (.invokestatic 89, 3) := by decide +kernel
theorem dX7_rivals_29 : decode cX7_rivals 29 = .ok (.ifCond .ne 6, 3) := by decide +kernel
theorem dX7_rivals_32 : decode cX7_rivals 32 = .ok (.bipush (-2), 2) := by decide +kernel
theorem dX7_rivals_34 : decode cX7_rivals 34 = .ok (.ireturn, 1) := by decide +kernel
theorem dX7_rivals_35 : decode cX7_rivals 35 = .ok (.aload_n 0, 1) := by decide +kernel
theorem dX7_rivals_36 : decode cX7_rivals 36 = .ok (.getfield 19, 3) := by decide +kernel
theorem dX7_rivals_39 : decode cX7_rivals 39 = .ok (.iload_n 1, 1) := by decide +kernel
theorem dX7_rivals_40 : decode cX7_rivals 40 = .ok (.iaload, 1) := by decide +kernel
theorem dX7_rivals_41 : decode cX7_rivals 41 = .ok (.iconst 1, 1) := by decide +kernel
theorem dX7_rivals_42 : decode cX7_rivals 42 = .ok (.if_icmp .ne 6, 3) := by decide +kernel
theorem dX7_rivals_45 : decode cX7_rivals 45 = .ok (.bipush (-3), 2) := by decide +kernel
theorem dX7_rivals_47 : decode cX7_rivals 47 = .ok (.ireturn, 1) := by decide +kernel
theorem dX7_rivals_48 : decode cX7_rivals 48 = .ok (.aload_n 0, 1) := by decide +kernel
theorem dX7_rivals_49 : decode cX7_rivals 49 = .ok (.iload_n 1, 1) := by decide +kernel
theorem dX7_rivals_50 : decode cX7_rivals 50 = .ok (.iload_n 2, 1) := by decide +kernel
theorem dX7_rivals_51 : decode cX7_rivals 51 = .ok (.invokevirtual 282, 3) := by decide +kernel
theorem dX7_rivals_54 : decode cX7_rivals 54 = .ok (.iload_n 3, 1) := by decide +kernel
theorem dX7_rivals_55 : decode cX7_rivals 55 = .ok (.ifCond .ne 10, 3) := by decide +kernel
theorem dX7_rivals_58 : decode cX7_rivals 58 = .ok (.aload_n 0, 1) := by decide +kernel
theorem dX7_rivals_59 : decode cX7_rivals 59 = .ok (.getfield 77, 3) := by decide +kernel
theorem dX7_rivals_62 : decode cX7_rivals 62 = .ok (.iconst 0, 1) := by decide +kernel
theorem dX7_rivals_63 : decode cX7_rivals 63 = .ok (.iaload, 1) := by decide +kernel
theorem dX7_rivals_64 : decode cX7_rivals 64 = .ok (.ireturn, 1) := by decide +kernel
theorem dX7_rivals_65 : decode cX7_rivals 65 = .ok (.iload_n 2, 1) := by decide +kernel
theorem dX7_rivals_66 : decode cX7_rivals 66 = .ok (.ifCond .le 17, 3) := by decide +kernel
theorem dX7_rivals_69 : decode cX7_rivals 69 = .ok (.aload_n 0, 1) := by decide +kernel
theorem dX7_rivals_70 : decode cX7_rivals 70 = .ok (.getfield 77, 3) := by decide +kernel
theorem dX7_rivals_73 : decode cX7_rivals 73 = .ok (.iconst 1, 1) := by decide +kernel
theorem dX7_rivals_74 : decode cX7_rivals 74 = .ok (.iconst 1, 1) := by decide +kernel
theorem dX7_rivals_75 : decode cX7_rivals 75 = .ok (.iconst 0, 1) := by decide +kernel
theorem dX7_rivals_76 : decode cX7_rivals 76 = .ok (.invokestatic 274, 3) := by decide +kernel
theorem dX7_rivals_79 : decode cX7_rivals 79 = .ok (.iaload, 1) := by decide +kernel
theorem dX7_rivals_80 : decode cX7_rivals 80 = .ok (.goto 4, 3) := by decide +kernel
theorem dX7_rivals_83 : decode cX7_rivals 83 = .ok (.iconst 0, 1) := by decide +kernel
theorem dX7_rivals_84 : decode cX7_rivals 84 = .ok (.istore 4, 2) := by decide +kernel
theorem dX7_rivals_86 : decode cX7_rivals 86 = .ok (.iload_n 2, 1) := by decide +kernel
theorem dX7_rivals_87 : decode cX7_rivals 87 = .ok (.ifCond .le 26, 3) := by decide +kernel
theorem dX7_rivals_90 : decode cX7_rivals 90 = .ok (.aload_n 0, 1) := by decide +kernel
theorem dX7_rivals_91 : decode cX7_rivals 91 = .ok (.getfield 13, 3) := by decide +kernel
theorem dX7_rivals_94 : decode cX7_rivals 94 = .ok (.iload_n 1, 1) := by decide +kernel
theorem dX7_rivals_95 : decode cX7_rivals 95 = .ok (.iaload, 1) := by decide +kernel
theorem dX7_rivals_96 : decode cX7_rivals 96 = .ok (.ifCond .le 17, 3) := by decide +kernel
theorem dX7_rivals_99 : decode cX7_rivals 99 = .ok (.aload_n 0, 1) := by decide +kernel
theorem dX7_rivals_100 : decode cX7_rivals 100 = .ok (.getfield 77, 3) := by decide +kernel
theorem dX7_rivals_103 : decode cX7_rivals 103 = .ok (.iconst 1, 1) := by decide +kernel
theorem dX7_rivals_104 : decode cX7_rivals 104 = .ok (.iconst 0, 1) := by decide +kernel
theorem dX7_rivals_105 : decode cX7_rivals 105 = .ok (.iconst 0, 1) := by decide +kernel
theorem dX7_rivals_106 : decode cX7_rivals 106 = .ok (.invokestatic 274, 3) := by decide +kernel
theorem dX7_rivals_109 : decode cX7_rivals 109 = .ok (.iaload, 1) := by decide +kernel
theorem dX7_rivals_110 : decode cX7_rivals 110 = .ok (.goto 4, 3) := by decide +kernel
theorem dX7_rivals_113 : decode cX7_rivals 113 = .ok (.iconst 0, 1) := by decide +kernel
theorem dX7_rivals_114 : decode cX7_rivals 114 = .ok (.istore 5, 2) := by decide +kernel
theorem dX7_rivals_116 : decode cX7_rivals 116 = .ok (.iload 4, 2) := by decide +kernel
theorem dX7_rivals_118 : decode cX7_rivals 118 = .ok (.iload 5, 2) := by decide +kernel
theorem dX7_rivals_120 : decode cX7_rivals 120 = .ok (.iadd, 1) := by decide +kernel
theorem dX7_rivals_121 : decode cX7_rivals 121 = .ok (.ireturn, 1) := by decide +kernel
theorem dX7_share_0 : decode cX7_share 0 = .ok (.aload_n 0, 1) := by decide +kernel
theorem dX7_share_1 : decode cX7_share 1 = .ok (.iload_n 1, 1) := by decide +kernel
theorem dX7_share_2 : decode cX7_share 2 = .ok (.invokevirtual 113, 3) := by decide +kernel
theorem dX7_share_5 : decode cX7_share 5 = .ok (.ifCond .eq 10, 3) := by decide +kernel
theorem dX7_share_8 : decode cX7_share 8 = .ok (.iload_n 3, 1) := by decide +kernel
theorem dX7_share_9 : decode cX7_share 9 = .ok (.invokestatic 120, 3) := by decide +kernel
theorem dX7_share_12 : decode cX7_share 12 = .ok (.ifCond .ne 5, 3) := by decide +kernel
theorem dX7_share_15 : decode cX7_share 15 = .ok (.iconst (-1), 1) := by decide +kernel
theorem dX7_share_16 : decode cX7_share 16 = .ok (.ireturn, 1) := by decide +kernel
theorem dX7_share_17 : decode cX7_share 17 = .ok (.iload_n 2, 1) := by decide +kernel
theorem dX7_share_18 : decode cX7_share 18 = .ok (.i2l, 1) := by decide +kernel
theorem dX7_share_19 : decode cX7_share 19 = .ok (.lconst 0, 1) := by decide +kernel
theorem dX7_share_20 : decode cX7_share 20 = .ok (.ldc2_w 123, 3) := by decide +kernel
theorem dX7_share_23 : decode cX7_share 23 = .ok (.invokestatic 89, 3) := by decide +kernel
theorem dX7_share_26 : decode cX7_share 26 = .ok (.ifCond .ne 6, 3) := by decide +kernel
theorem dX7_share_29 : decode cX7_share 29 = .ok (.bipush (-2), 2) := by decide +kernel
theorem dX7_share_31 : decode cX7_share 31 = .ok (.ireturn, 1) := by decide +kernel
theorem dX7_share_32 : decode cX7_share 32 = .ok (.iconst 0, 1) := by decide +kernel
theorem dX7_share_33 : decode cX7_share 33 = .ok (.istore 4, 2) := by decide +kernel
theorem dX7_share_35 : decode cX7_share 35 = .ok (.iconst 0, 1) := by decide +kernel
theorem dX7_share_36 : decode cX7_share 36 = .ok (.istore 5, 2) := by decide +kernel
theorem dX7_share_38 : decode cX7_share 38 = .ok (.iload 5, 2) := by decide +kernel
theorem dX7_share_40 : decode cX7_share 40 = .ok (.iconst 4, 1) := by decide +kernel
theorem dX7_share_41 : decode cX7_share 41 = .ok (.if_icmp .ge 24, 3) := by decide +kernel
theorem dX7_share_44 : decode cX7_share 44 = .ok (.iload 4, 2) := by decide +kernel
theorem dX7_share_46 : decode cX7_share 46 = .ok (.aload_n 0, 1) := by decide +kernel
theorem dX7_share_47 : decode cX7_share 47 = .ok (.iload 5, 2) := by decide +kernel
theorem dX7_share_49 : decode cX7_share 49 = .ok (.iload_n 1, 1) := by decide +kernel
theorem dX7_share_50 : decode cX7_share 50 = .ok (.invokevirtual 176, 3) := by decide +kernel
theorem dX7_share_53 : decode cX7_share 53 = .ok (.invokestatic 109, 3) := by decide +kernel
theorem dX7_share_56 : decode cX7_share 56 = .ok (.iadd, 1) := by decide +kernel
theorem dX7_share_57 : decode cX7_share 57 = .ok (.istore 4, 2) := by decide +kernel
theorem dX7_share_59 : decode cX7_share 59 = .ok (.iinc 5 1, 3) := by decide +kernel
theorem dX7_share_62 : decode cX7_share 62 = .ok (.goto (-24), 3) := by decide +kernel
theorem dX7_share_65 : decode cX7_share 65 = .ok (.iload 4, 2) := by decide +kernel
theorem dX7_share_67 : decode cX7_share 67 = .ok (.ifCond .ne 5, 3) := by decide +kernel
theorem dX7_share_70 : decode cX7_share 70 = .ok (.iconst 0, 1) := by decide +kernel
theorem dX7_share_71 : decode cX7_share 71 = .ok (.ireturn, 1) := by decide +kernel
theorem dX7_share_72 : decode cX7_share 72 = .ok (.aload_n 0, 1) := by decide +kernel
theorem dX7_share_73 : decode cX7_share 73 = .ok (.iload_n 3, 1) := by decide +kernel
theorem dX7_share_74 : decode cX7_share 74 = .ok (.iload_n 1, 1) := by decide +kernel
theorem dX7_share_75 : decode cX7_share 75 = .ok (.invokevirtual 176, 3) := by decide +kernel
theorem dX7_share_78 : decode cX7_share 78 = .ok (.invokestatic 109, 3) := by decide +kernel
theorem dX7_share_81 : decode cX7_share 81 = .ok (.istore 5, 2) := by decide +kernel
theorem dX7_share_83 : decode cX7_share 83 = .ok (.iload_n 2, 1) := by decide +kernel
theorem dX7_share_84 : decode cX7_share 84 = .ok (.istore 6, 2) := by decide +kernel
theorem dX7_share_86 : decode cX7_share 86 = .ok (.iconst 0, 1) := by decide +kernel
theorem dX7_share_87 : decode cX7_share 87 = .ok (.istore 7, 2) := by decide +kernel
theorem dX7_share_89 : decode cX7_share 89 = .ok (.iconst 0, 1) := by decide +kernel
theorem dX7_share_90 : decode cX7_share 90 = .ok (.istore 8, 2) := by decide +kernel
theorem dX7_share_92 : decode cX7_share 92 = .ok (.iload 8, 2) := by decide +kernel
theorem dX7_share_94 : decode cX7_share 94 = .ok (.iconst 4, 1) := by decide +kernel
theorem dX7_share_95 : decode cX7_share 95 = .ok (.if_icmp .ge 63, 3) := by decide +kernel
theorem dX7_share_98 : decode cX7_share 98 = .ok (.aload_n 0, 1) := by decide +kernel
theorem dX7_share_99 : decode cX7_share 99 = .ok (.iload 8, 2) := by decide +kernel
theorem dX7_share_101 : decode cX7_share 101 = .ok (.iload_n 1, 1) := by decide +kernel
theorem dX7_share_102 : decode cX7_share 102 = .ok (.invokevirtual 176, 3) := by decide +kernel
theorem dX7_share_105 : decode cX7_share 105 = .ok (.invokestatic 109, 3) := by decide +kernel
theorem dX7_share_108 : decode cX7_share 108 = .ok (.istore 9, 2) := by decide +kernel
theorem dX7_share_110 : decode cX7_share 110 = .ok (.iload 6, 2) := by decide +kernel
theorem dX7_share_112 : decode cX7_share 112 = .ok (.iload_n 2, 1) := by decide +kernel
theorem dX7_share_113 : decode cX7_share 113 = .ok (.iload 9, 2) := by decide +kernel
theorem dX7_share_115 : decode cX7_share 115 = .ok (.imul, 1) := by decide +kernel
theorem dX7_share_116 : decode cX7_share 116 = .ok (.iload 4, 2) := by decide +kernel
theorem dX7_share_118 : decode cX7_share 118 = .ok (.idiv, 1) := by decide +kernel
theorem dX7_share_119 : decode cX7_share 119 = .ok (.isub, 1) := by decide +kernel
theorem dX7_share_120 : decode cX7_share 120 = .ok (.istore 6, 2) := by decide +kernel
theorem dX7_share_122 : decode cX7_share 122 = .ok (.iload 7, 2) := by decide +kernel
theorem dX7_share_124 : decode cX7_share 124 = .ok (.iload 9, 2) := by decide +kernel
theorem dX7_share_126 : decode cX7_share 126 = .ok (.iload 5, 2) := by decide +kernel
theorem dX7_share_128 : decode cX7_share 128 = .ok (.if_icmp .gt 16, 3) := by decide +kernel
theorem dX7_share_131 : decode cX7_share 131 = .ok (.iload 9, 2) := by decide +kernel
theorem dX7_share_133 : decode cX7_share 133 = .ok (.iload 5, 2) := by decide +kernel
theorem dX7_share_135 : decode cX7_share 135 = .ok (.if_icmp .ne 13, 3) := by decide +kernel
theorem dX7_share_138 : decode cX7_share 138 = .ok (.iload 8, 2) := by decide +kernel
theorem dX7_share_140 : decode cX7_share 140 = .ok (.iload_n 3, 1) := by decide +kernel
theorem dX7_share_141 : decode cX7_share 141 = .ok (.if_icmp .ge 7, 3) := by decide +kernel
theorem dX7_share_144 : decode cX7_share 144 = .ok (.iconst 1, 1) := by decide +kernel
theorem dX7_share_145 : decode cX7_share 145 = .ok (.goto 4, 3) := by decide +kernel
theorem dX7_share_148 : decode cX7_share 148 = .ok (.iconst 0, 1) := by decide +kernel
theorem dX7_share_149 : decode cX7_share 149 = .ok (.iadd, 1) := by decide +kernel
theorem dX7_share_150 : decode cX7_share 150 = .ok (.istore 7, 2) := by decide +kernel
theorem dX7_share_152 : decode cX7_share 152 = .ok (.iinc 8 1, 3) := by decide +kernel
theorem dX7_share_155 : decode cX7_share 155 = .ok (.goto (-63), 3) := by decide +kernel
theorem dX7_share_158 : decode cX7_share 158 = .ok (.iload_n 2, 1) := by decide +kernel
theorem dX7_share_159 : decode cX7_share 159 = .ok (.iload 5, 2) := by decide +kernel
theorem dX7_share_161 : decode cX7_share 161 = .ok (.imul, 1) := by decide +kernel
theorem dX7_share_162 : decode cX7_share 162 = .ok (.iload 4, 2) := by decide +kernel
theorem dX7_share_164 : decode cX7_share 164 = .ok (.idiv, 1) := by decide +kernel
theorem dX7_share_165 : decode cX7_share 165 = .ok (.iload 7, 2) := by decide +kernel
theorem dX7_share_167 : decode cX7_share 167 = .ok (.iload 6, 2) := by decide +kernel
theorem dX7_share_169 : decode cX7_share 169 = .ok (.if_icmp .ge 7, 3) := by decide +kernel
theorem dX7_share_172 : decode cX7_share 172 = .ok (.iconst 1, 1) := by decide +kernel
theorem dX7_share_173 : decode cX7_share 173 = .ok (.goto 4, 3) := by decide +kernel
theorem dX7_share_176 : decode cX7_share 176 = .ok (.iconst 0, 1) := by decide +kernel
theorem dX7_share_177 : decode cX7_share 177 = .ok (.iadd, 1) := by decide +kernel
theorem dX7_share_178 : decode cX7_share 178 = .ok (.ireturn, 1) := by decide +kernel
theorem dX7_seen_0 : decode cX7_seen 0 = .ok (.iload_n 1, 1) := by decide +kernel
theorem dX7_seen_1 : decode cX7_seen 1 = .ok (.i2l, 1) := by decide +kernel
theorem dX7_seen_2 : decode cX7_seen 2 = .ok (.lconst 0, 1) := by decide +kernel
theorem dX7_seen_3 : decode cX7_seen 3 = .ok (.ldc2_w 118, 3) := by decide +kernel
theorem dX7_seen_6 : decode cX7_seen 6 = .ok (.invokestatic 89, 3) := by decide +kernel
theorem dX7_seen_9 : decode cX7_seen 9 = .ok (.ifCond .eq 15, 3) := by decide +kernel
theorem dX7_seen_12 : decode cX7_seen 12 = .ok (.iload_n 2, 1) := by decide +kernel
theorem dX7_seen_13 : decode cX7_seen 13 = .ok (.i2l, 1) := by decide +kernel
theorem dX7_seen_14 : decode cX7_seen 14 = .ok (.lconst 0, 1) := by decide +kernel
theorem dX7_seen_15 : decode cX7_seen 15 = .ok (.ldc2_w 118, 3) := by decide +kernel
theorem dX7_seen_18 : decode cX7_seen 18 = .ok (.invokestatic 89, 3) := by decide +kernel
theorem dX7_seen_21 : decode cX7_seen 21 = .ok (.ifCond .ne 6, 3) := by decide +kernel
theorem dX7_seen_24 : decode cX7_seen 24 = .ok (.bipush (-2), 2) := by decide +kernel
theorem dX7_seen_26 : decode cX7_seen 26 = .ok (.ireturn, 1) := by decide +kernel
theorem dX7_seen_27 : decode cX7_seen 27 = .ok (.aload_n 0, 1) := by decide +kernel
theorem dX7_seen_28 : decode cX7_seen 28 = .ok (.getfield 285, 3) := by decide +kernel
theorem dX7_seen_31 : decode cX7_seen 31 = .ok (.bipush 8, 2) := by decide +kernel
theorem dX7_seen_33 : decode cX7_seen 33 = .ok (.if_icmp .ne 6, 3) := by decide +kernel
theorem dX7_seen_36 : decode cX7_seen 36 = .ok (.bipush (-4), 2) := by decide +kernel
theorem dX7_seen_38 : decode cX7_seen 38 = .ok (.ireturn, 1) := by decide +kernel
theorem dX7_seen_39 : decode cX7_seen 39 = .ok (.aload_n 0, 1) := by decide +kernel
theorem dX7_seen_40 : decode cX7_seen 40 = .ok (.getfield 43, 3) := by decide +kernel
theorem dX7_seen_43 : decode cX7_seen 43 = .ok (.aload_n 0, 1) := by decide +kernel
theorem dX7_seen_44 : decode cX7_seen 44 = .ok (.getfield 285, 3) := by decide +kernel
theorem dX7_seen_47 : decode cX7_seen 47 = .ok (.iload_n 1, 1) := by decide +kernel
theorem dX7_seen_48 : decode cX7_seen 48 = .ok (.iastore, 1) := by decide +kernel
theorem dX7_seen_49 : decode cX7_seen 49 = .ok (.aload_n 0, 1) := by decide +kernel
theorem dX7_seen_50 : decode cX7_seen 50 = .ok (.getfield 46, 3) := by decide +kernel
theorem dX7_seen_53 : decode cX7_seen 53 = .ok (.aload_n 0, 1) := by decide +kernel
theorem dX7_seen_54 : decode cX7_seen 54 = .ok (.getfield 285, 3) := by decide +kernel
theorem dX7_seen_57 : decode cX7_seen 57 = .ok (.iload_n 2, 1) := by decide +kernel
theorem dX7_seen_58 : decode cX7_seen 58 = .ok (.iastore, 1) := by decide +kernel
theorem dX7_seen_59 : decode cX7_seen 59 = .ok (.aload_n 0, 1) := by decide +kernel
theorem dX7_seen_60 : decode cX7_seen 60 = .ok (.getfield 49, 3) := by decide +kernel
theorem dX7_seen_63 : decode cX7_seen 63 = .ok (.aload_n 0, 1) := by decide +kernel
theorem dX7_seen_64 : decode cX7_seen 64 = .ok (.getfield 285, 3) := by decide +kernel
theorem dX7_seen_67 : decode cX7_seen 67 = .ok (.iload_n 3, 1) := by decide +kernel
theorem dX7_seen_68 : decode cX7_seen 68 = .ok (.ifCond .eq 7, 3) := by decide +kernel
theorem dX7_seen_71 : decode cX7_seen 71 = .ok (.iconst 1, 1) := by decide +kernel
theorem dX7_seen_72 : decode cX7_seen 72 = .ok (.goto 4, 3) := by decide +kernel
theorem dX7_seen_75 : decode cX7_seen 75 = .ok (.iconst 0, 1) := by decide +kernel
theorem dX7_seen_76 : decode cX7_seen 76 = .ok (.iastore, 1) := by decide +kernel
theorem dX7_seen_77 : decode cX7_seen 77 = .ok (.aload_n 0, 1) := by decide +kernel
theorem dX7_seen_78 : decode cX7_seen 78 = .ok (.dup, 1) := by decide +kernel
theorem dX7_seen_79 : decode cX7_seen 79 = .ok (.getfield 285, 3) := by decide +kernel
theorem dX7_seen_82 : decode cX7_seen 82 = .ok (.iconst 1, 1) := by decide +kernel
theorem dX7_seen_83 : decode cX7_seen 83 = .ok (.iadd, 1) := by decide +kernel
theorem dX7_seen_84 : decode cX7_seen 84 = .ok (.putfield 285, 3) := by decide +kernel
theorem dX7_seen_87 : decode cX7_seen 87 = .ok (.aload_n 0, 1) := by decide +kernel
theorem dX7_seen_88 : decode cX7_seen 88 = .ok (.getfield 285, 3) := by decide +kernel
theorem dX7_seen_91 : decode cX7_seen 91 = .ok (.ireturn, 1) := by decide +kernel
theorem dX7_forget_0 : decode cX7_forget 0 = .ok (.aload_n 0, 1) := by decide +kernel
theorem dX7_forget_1 : decode cX7_forget 1 = .ok (.getfield 285, 3) := by decide +kernel
theorem dX7_forget_4 : decode cX7_forget 4 = .ok (.istore_n 1, 1) := by decide +kernel
theorem dX7_forget_5 : decode cX7_forget 5 = .ok (.aload_n 0, 1) := by decide +kernel
theorem dX7_forget_6 : decode cX7_forget 6 = .ok (.iconst 0, 1) := by decide +kernel
theorem dX7_forget_7 : decode cX7_forget 7 = .ok (.putfield 285, 3) := by decide +kernel
theorem dX7_forget_10 : decode cX7_forget 10 = .ok (.iload_n 1, 1) := by decide +kernel
theorem dX7_forget_11 : decode cX7_forget 11 = .ok (.ireturn, 1) := by decide +kernel
theorem dX7_makes_0 : decode cX7_makes 0 = .ok (.iload_n 1, 1) := by decide +kernel
theorem dX7_makes_1 : decode cX7_makes 1 = .ok (.iload_n 0, 1) := by decide +kernel
theorem dX7_makes_2 : decode cX7_makes 2 = .ok (.bipush 10, 2) := by decide +kernel
theorem dX7_makes_4 : decode cX7_makes 4 = .ok (.idiv, 1) := by decide +kernel
theorem dX7_makes_5 : decode cX7_makes 5 = .ok (.if_icmp .lt 15, 3) := by decide +kernel
theorem dX7_makes_8 : decode cX7_makes 8 = .ok (.iload_n 2, 1) := by decide +kernel
theorem dX7_makes_9 : decode cX7_makes 9 = .ok (.iload_n 0, 1) := by decide +kernel
theorem dX7_makes_10 : decode cX7_makes 10 = .ok (.bipush 10, 2) := by decide +kernel
theorem dX7_makes_12 : decode cX7_makes 12 = .ok (.irem, 1) := by decide +kernel
theorem dX7_makes_13 : decode cX7_makes 13 = .ok (.if_icmp .gt 7, 3) := by decide +kernel
theorem dX7_makes_16 : decode cX7_makes 16 = .ok (.iconst 1, 1) := by decide +kernel
theorem dX7_makes_17 : decode cX7_makes 17 = .ok (.goto 4, 3) := by decide +kernel
theorem dX7_makes_20 : decode cX7_makes 20 = .ok (.iconst 0, 1) := by decide +kernel
theorem dX7_makes_21 : decode cX7_makes 21 = .ok (.ireturn, 1) := by decide +kernel
theorem dX7_fits_0 : decode cX7_fits 0 = .ok (.iconst 1, 1) := by decide +kernel
theorem dX7_fits_1 : decode cX7_fits 1 = .ok (.istore_n 2, 1) := by decide +kernel
theorem dX7_fits_2 : decode cX7_fits 2 = .ok (.iconst 0, 1) := by decide +kernel
theorem dX7_fits_3 : decode cX7_fits 3 = .ok (.istore_n 3, 1) := by decide +kernel
theorem dX7_fits_4 : decode cX7_fits 4 = .ok (.iload_n 3, 1) := by decide +kernel
theorem dX7_fits_5 : decode cX7_fits 5 = .ok (.aload_n 0, 1) := by decide +kernel
theorem dX7_fits_6 : decode cX7_fits 6 = .ok (.getfield 285, 3) := by decide +kernel
theorem dX7_fits_9 : decode cX7_fits 9 = .ok (.if_icmp .ge 53, 3) := by decide +kernel
theorem dX7_fits_12 : decode cX7_fits 12 = .ok (.iload_n 2, 1) := by decide +kernel
theorem dX7_fits_13 : decode cX7_fits 13 = .ok (.ifCond .eq 41, 3) := by decide +kernel
theorem dX7_fits_16 : decode cX7_fits 16 = .ok (.iload_n 1, 1) := by decide +kernel
theorem dX7_fits_17 : decode cX7_fits 17 = .ok (.aload_n 0, 1) := by decide +kernel
theorem dX7_fits_18 : decode cX7_fits 18 = .ok (.getfield 43, 3) := by decide +kernel
theorem dX7_fits_21 : decode cX7_fits 21 = .ok (.iload_n 3, 1) := by decide +kernel
theorem dX7_fits_22 : decode cX7_fits 22 = .ok (.iaload, 1) := by decide +kernel
theorem dX7_fits_23 : decode cX7_fits 23 = .ok (.aload_n 0, 1) := by decide +kernel
theorem dX7_fits_24 : decode cX7_fits 24 = .ok (.getfield 46, 3) := by decide +kernel
theorem dX7_fits_27 : decode cX7_fits 27 = .ok (.iload_n 3, 1) := by decide +kernel
theorem dX7_fits_28 : decode cX7_fits 28 = .ok (.iaload, 1) := by decide +kernel
theorem dX7_fits_29 : decode cX7_fits 29 = .ok (.invokestatic 288, 3) := by decide +kernel
theorem dX7_fits_32 : decode cX7_fits 32 = .ok (.aload_n 0, 1) := by decide +kernel
theorem dX7_fits_33 : decode cX7_fits 33 = .ok (.getfield 49, 3) := by decide +kernel
theorem dX7_fits_36 : decode cX7_fits 36 = .ok (.iload_n 3, 1) := by decide +kernel
theorem dX7_fits_37 : decode cX7_fits 37 = .ok (.iaload, 1) := by decide +kernel
theorem dX7_fits_38 : decode cX7_fits 38 = .ok (.iconst 1, 1) := by decide +kernel
theorem dX7_fits_39 : decode cX7_fits 39 = .ok (.if_icmp .ne 7, 3) := by decide +kernel
theorem dX7_fits_42 : decode cX7_fits 42 = .ok (.iconst 1, 1) := by decide +kernel
theorem dX7_fits_43 : decode cX7_fits 43 = .ok (.goto 4, 3) := by decide +kernel
theorem dX7_fits_46 : decode cX7_fits 46 = .ok (.iconst 0, 1) := by decide +kernel
theorem dX7_fits_47 : decode cX7_fits 47 = .ok (.if_icmp .ne 7, 3) := by decide +kernel
theorem dX7_fits_50 : decode cX7_fits 50 = .ok (.iconst 1, 1) := by decide +kernel
theorem dX7_fits_51 : decode cX7_fits 51 = .ok (.goto 4, 3) := by decide +kernel
theorem dX7_fits_54 : decode cX7_fits 54 = .ok (.iconst 0, 1) := by decide +kernel
theorem dX7_fits_55 : decode cX7_fits 55 = .ok (.istore_n 2, 1) := by decide +kernel
theorem dX7_fits_56 : decode cX7_fits 56 = .ok (.iinc 3 1, 3) := by decide +kernel
theorem dX7_fits_59 : decode cX7_fits 59 = .ok (.goto (-55), 3) := by decide +kernel
theorem dX7_fits_62 : decode cX7_fits 62 = .ok (.iload_n 2, 1) := by decide +kernel
theorem dX7_fits_63 : decode cX7_fits 63 = .ok (.ireturn, 1) := by decide +kernel
theorem dX7_laws_0 : decode cX7_laws 0 = .ok (.iconst 0, 1) := by decide +kernel
theorem dX7_laws_1 : decode cX7_laws 1 = .ok (.istore_n 2, 1) := by decide +kernel
theorem dX7_laws_2 : decode cX7_laws 2 = .ok (.iconst 0, 1) := by decide +kernel
theorem dX7_laws_3 : decode cX7_laws 3 = .ok (.istore_n 3, 1) := by decide +kernel
theorem dX7_laws_4 : decode cX7_laws 4 = .ok (.iload_n 3, 1) := by decide +kernel
theorem dX7_laws_5 : decode cX7_laws 5 = .ok (.bipush 100, 2) := by decide +kernel
theorem dX7_laws_7 : decode cX7_laws 7 = .ok (.if_icmp .ge 27, 3) := by decide +kernel
theorem dX7_laws_10 : decode cX7_laws 10 = .ok (.aload_n 0, 1) := by decide +kernel
theorem dX7_laws_11 : decode cX7_laws 11 = .ok (.iload_n 3, 1) := by decide +kernel
theorem dX7_laws_12 : decode cX7_laws 12 = .ok (.invokevirtual 292, 3) := by decide +kernel
theorem dX7_laws_15 : decode cX7_laws 15 = .ok (.ifCond .eq 13, 3) := by decide +kernel
theorem dX7_laws_18 : decode cX7_laws 18 = .ok (.iload_n 2, 1) := by decide +kernel
theorem dX7_laws_19 : decode cX7_laws 19 = .ok (.iload_n 1, 1) := by decide +kernel
theorem dX7_laws_20 : decode cX7_laws 20 = .ok (.if_icmp .ne 5, 3) := by decide +kernel
theorem dX7_laws_23 : decode cX7_laws 23 = .ok (.iload_n 3, 1) := by decide +kernel
theorem dX7_laws_24 : decode cX7_laws 24 = .ok (.ireturn, 1) := by decide +kernel
theorem dX7_laws_25 : decode cX7_laws 25 = .ok (.iinc 2 1, 3) := by decide +kernel
theorem dX7_laws_28 : decode cX7_laws 28 = .ok (.iinc 3 1, 3) := by decide +kernel
theorem dX7_laws_31 : decode cX7_laws 31 = .ok (.goto (-27), 3) := by decide +kernel
theorem dX7_laws_34 : decode cX7_laws 34 = .ok (.iload_n 1, 1) := by decide +kernel
theorem dX7_laws_35 : decode cX7_laws 35 = .ok (.iconst (-1), 1) := by decide +kernel
theorem dX7_laws_36 : decode cX7_laws 36 = .ok (.if_icmp .ne 7, 3) := by decide +kernel
theorem dX7_laws_39 : decode cX7_laws 39 = .ok (.iload_n 2, 1) := by decide +kernel
theorem dX7_laws_40 : decode cX7_laws 40 = .ok (.goto 5, 3) := by decide +kernel
theorem dX7_laws_43 : decode cX7_laws 43 = .ok (.bipush (-6), 2) := by decide +kernel
theorem dX7_laws_45 : decode cX7_laws 45 = .ok (.ireturn, 1) := by decide +kernel
theorem dX7_mostLeft_0 : decode cX7_mostLeft 0 = .ok (.iconst 0, 1) := by decide +kernel
theorem dX7_mostLeft_1 : decode cX7_mostLeft 1 = .ok (.istore_n 2, 1) := by decide +kernel
theorem dX7_mostLeft_2 : decode cX7_mostLeft 2 = .ok (.iconst 0, 1) := by decide +kernel
theorem dX7_mostLeft_3 : decode cX7_mostLeft 3 = .ok (.istore_n 3, 1) := by decide +kernel
theorem dX7_mostLeft_4 : decode cX7_mostLeft 4 = .ok (.iconst 0, 1) := by decide +kernel
theorem dX7_mostLeft_5 : decode cX7_mostLeft 5 = .ok (.istore 4, 2) := by decide +kernel
theorem dX7_mostLeft_7 : decode cX7_mostLeft 7 = .ok (.iload 4, 2) := by decide +kernel
theorem dX7_mostLeft_9 : decode cX7_mostLeft 9 = .ok (.bipush 100, 2) := by decide +kernel
theorem dX7_mostLeft_11 : decode cX7_mostLeft 11 = .ok (.if_icmp .ge 68, 3) := by decide +kernel
theorem dX7_mostLeft_14 : decode cX7_mostLeft 14 = .ok (.aload_n 0, 1) := by decide +kernel
theorem dX7_mostLeft_15 : decode cX7_mostLeft 15 = .ok (.iload 4, 2) := by decide +kernel
theorem dX7_mostLeft_17 : decode cX7_mostLeft 17 = .ok (.invokevirtual 292, 3) := by decide +kernel
theorem dX7_mostLeft_20 : decode cX7_mostLeft 20 = .ok (.istore 5, 2) := by decide +kernel
theorem dX7_mostLeft_22 : decode cX7_mostLeft 22 = .ok (.iload 4, 2) := by decide +kernel
theorem dX7_mostLeft_24 : decode cX7_mostLeft 24 = .ok (.iload_n 1, 1) := by decide +kernel
theorem dX7_mostLeft_25 : decode cX7_mostLeft 25 = .ok (.bipush 10, 2) := by decide +kernel
theorem dX7_mostLeft_27 : decode cX7_mostLeft 27 = .ok (.idiv, 1) := by decide +kernel
theorem dX7_mostLeft_28 : decode cX7_mostLeft 28 = .ok (.iload_n 1, 1) := by decide +kernel
theorem dX7_mostLeft_29 : decode cX7_mostLeft 29 = .ok (.bipush 10, 2) := by decide +kernel
theorem dX7_mostLeft_31 : decode cX7_mostLeft 31 = .ok (.irem, 1) := by decide +kernel
theorem dX7_mostLeft_32 : decode cX7_mostLeft 32 = .ok (.invokestatic 288, 3) := by decide +kernel
theorem dX7_mostLeft_35 : decode cX7_mostLeft 35 = .ok (.istore 6, 2) := by decide +kernel
theorem dX7_mostLeft_37 : decode cX7_mostLeft 37 = .ok (.iload_n 2, 1) := by decide +kernel
theorem dX7_mostLeft_38 : decode cX7_mostLeft 38 = .ok (.iload 5, 2) := by decide +kernel
theorem dX7_mostLeft_40 : decode cX7_mostLeft 40 = .ok (.ifCond .eq 12, 3) := by decide +kernel
theorem dX7_mostLeft_43 : decode cX7_mostLeft 43 = .ok (.iload 6, 2) := by decide +kernel
theorem dX7_mostLeft_45 : decode cX7_mostLeft 45 = .ok (.ifCond .eq 7, 3) := by decide +kernel
theorem dX7_mostLeft_48 : decode cX7_mostLeft 48 = .ok (.iconst 1, 1) := by decide +kernel
theorem dX7_mostLeft_49 : decode cX7_mostLeft 49 = .ok (.goto 4, 3) := by decide +kernel
theorem dX7_mostLeft_52 : decode cX7_mostLeft 52 = .ok (.iconst 0, 1) := by decide +kernel
theorem dX7_mostLeft_53 : decode cX7_mostLeft 53 = .ok (.iadd, 1) := by decide +kernel
theorem dX7_mostLeft_54 : decode cX7_mostLeft 54 = .ok (.istore_n 2, 1) := by decide +kernel
theorem dX7_mostLeft_55 : decode cX7_mostLeft 55 = .ok (.iload_n 3, 1) := by decide +kernel
theorem dX7_mostLeft_56 : decode cX7_mostLeft 56 = .ok (.iload 5, 2) := by decide +kernel
theorem dX7_mostLeft_58 : decode cX7_mostLeft 58 = .ok (.ifCond .eq 12, 3) := by decide +kernel
theorem dX7_mostLeft_61 : decode cX7_mostLeft 61 = .ok (.iload 6, 2) := by decide +kernel
theorem dX7_mostLeft_63 : decode cX7_mostLeft 63 = .ok (.ifCond .ne 7, 3) := by decide +kernel
theorem dX7_mostLeft_66 : decode cX7_mostLeft 66 = .ok (.iconst 1, 1) := by decide +kernel
theorem dX7_mostLeft_67 : decode cX7_mostLeft 67 = .ok (.goto 4, 3) := by decide +kernel
theorem dX7_mostLeft_70 : decode cX7_mostLeft 70 = .ok (.iconst 0, 1) := by decide +kernel
theorem dX7_mostLeft_71 : decode cX7_mostLeft 71 = .ok (.iadd, 1) := by decide +kernel
theorem dX7_mostLeft_72 : decode cX7_mostLeft 72 = .ok (.istore_n 3, 1) := by decide +kernel
theorem dX7_mostLeft_73 : decode cX7_mostLeft 73 = .ok (.iinc 4 1, 3) := by decide +kernel
theorem dX7_mostLeft_76 : decode cX7_mostLeft 76 = .ok (.goto (-69), 3) := by decide +kernel
theorem dX7_mostLeft_79 : decode cX7_mostLeft 79 = .ok (.iload_n 2, 1) := by decide +kernel
theorem dX7_mostLeft_80 : decode cX7_mostLeft 80 = .ok (.iload_n 3, 1) := by decide +kernel
theorem dX7_mostLeft_81 : decode cX7_mostLeft 81 = .ok (.if_icmp .le 7, 3) := by decide +kernel
theorem dX7_mostLeft_84 : decode cX7_mostLeft 84 = .ok (.iload_n 2, 1) := by decide +kernel
theorem dX7_mostLeft_85 : decode cX7_mostLeft 85 = .ok (.goto 4, 3) := by decide +kernel
theorem dX7_mostLeft_88 : decode cX7_mostLeft 88 = .ok (.iload_n 3, 1) := by decide +kernel
theorem dX7_mostLeft_89 : decode cX7_mostLeft 89 = .ok (.ireturn, 1) := by decide +kernel
theorem dX7_ask_0 : decode cX7_ask 0 = .ok (.iload_n 1, 1) := by decide +kernel
theorem dX7_ask_1 : decode cX7_ask 1 = .ok (.i2l, 1) := by decide +kernel
theorem dX7_ask_2 : decode cX7_ask 2 = .ok (.lconst 0, 1) := by decide +kernel
theorem dX7_ask_3 : decode cX7_ask 3 = .ok (.lconst 1, 1) := by decide +kernel
theorem dX7_ask_4 : decode cX7_ask 4 = .ok (.invokestatic 89, 3) := by decide +kernel
theorem dX7_ask_7 : decode cX7_ask 7 = .ok (.ifCond .ne 6, 3) := by decide +kernel
theorem dX7_ask_10 : decode cX7_ask 10 = .ok (.bipush (-2), 2) := by decide +kernel
theorem dX7_ask_12 : decode cX7_ask 12 = .ok (.ireturn, 1) := by decide +kernel
theorem dX7_ask_13 : decode cX7_ask 13 = .ok (.iconst 0, 1) := by decide +kernel
theorem dX7_ask_14 : decode cX7_ask 14 = .ok (.istore_n 2, 1) := by decide +kernel
theorem dX7_ask_15 : decode cX7_ask 15 = .ok (.aload_n 0, 1) := by decide +kernel
theorem dX7_ask_16 : decode cX7_ask 16 = .ok (.iconst 0, 1) := by decide +kernel
theorem dX7_ask_17 : decode cX7_ask 17 = .ok (.invokevirtual 295, 3) := by decide +kernel
theorem dX7_ask_20 : decode cX7_ask 20 = .ok (.istore_n 3, 1) := by decide +kernel
theorem dX7_ask_21 : decode cX7_ask 21 = .ok (.iconst 1, 1) := by decide +kernel
theorem dX7_ask_22 : decode cX7_ask 22 = .ok (.istore 4, 2) := by decide +kernel
theorem dX7_ask_24 : decode cX7_ask 24 = .ok (.iload 4, 2) := by decide +kernel
theorem dX7_ask_26 : decode cX7_ask 26 = .ok (.bipush 100, 2) := by decide +kernel
theorem dX7_ask_28 : decode cX7_ask 28 = .ok (.if_icmp .ge 43, 3) := by decide +kernel
theorem dX7_ask_31 : decode cX7_ask 31 = .ok (.aload_n 0, 1) := by decide +kernel
theorem dX7_ask_32 : decode cX7_ask 32 = .ok (.iload 4, 2) := by decide +kernel
theorem dX7_ask_34 : decode cX7_ask 34 = .ok (.invokevirtual 295, 3) := by decide +kernel
theorem dX7_ask_37 : decode cX7_ask 37 = .ok (.istore 5, 2) := by decide +kernel
theorem dX7_ask_39 : decode cX7_ask 39 = .ok (.iload 5, 2) := by decide +kernel
theorem dX7_ask_41 : decode cX7_ask 41 = .ok (.iload_n 3, 1) := by decide +kernel
theorem dX7_ask_42 : decode cX7_ask 42 = .ok (.if_icmp .ge 8, 3) := by decide +kernel
theorem dX7_ask_45 : decode cX7_ask 45 = .ok (.iload 4, 2) := by decide +kernel
theorem dX7_ask_47 : decode cX7_ask 47 = .ok (.goto 4, 3) := by decide +kernel
theorem dX7_ask_50 : decode cX7_ask 50 = .ok (.iload_n 2, 1) := by decide +kernel
theorem dX7_ask_51 : decode cX7_ask 51 = .ok (.istore_n 2, 1) := by decide +kernel
theorem dX7_ask_52 : decode cX7_ask 52 = .ok (.iload 5, 2) := by decide +kernel
theorem dX7_ask_54 : decode cX7_ask 54 = .ok (.iload_n 3, 1) := by decide +kernel
theorem dX7_ask_55 : decode cX7_ask 55 = .ok (.if_icmp .ge 8, 3) := by decide +kernel
theorem dX7_ask_58 : decode cX7_ask 58 = .ok (.iload 5, 2) := by decide +kernel
theorem dX7_ask_60 : decode cX7_ask 60 = .ok (.goto 4, 3) := by decide +kernel
theorem dX7_ask_63 : decode cX7_ask 63 = .ok (.iload_n 3, 1) := by decide +kernel
theorem dX7_ask_64 : decode cX7_ask 64 = .ok (.istore_n 3, 1) := by decide +kernel
theorem dX7_ask_65 : decode cX7_ask 65 = .ok (.iinc 4 1, 3) := by decide +kernel
theorem dX7_ask_68 : decode cX7_ask 68 = .ok (.goto (-44), 3) := by decide +kernel
theorem dX7_ask_71 : decode cX7_ask 71 = .ok (.iload_n 3, 1) := by decide +kernel
theorem dX7_ask_72 : decode cX7_ask 72 = .ok (.ifCond .ne 8, 3) := by decide +kernel
theorem dX7_ask_75 : decode cX7_ask 75 = .ok (.bipush (-6), 2) := by decide +kernel
theorem dX7_ask_77 : decode cX7_ask 77 = .ok (.goto 12, 3) := by decide +kernel
theorem dX7_ask_80 : decode cX7_ask 80 = .ok (.iload_n 1, 1) := by decide +kernel
theorem dX7_ask_81 : decode cX7_ask 81 = .ok (.ifCond .ne 7, 3) := by decide +kernel
theorem dX7_ask_84 : decode cX7_ask 84 = .ok (.iload_n 2, 1) := by decide +kernel
theorem dX7_ask_85 : decode cX7_ask 85 = .ok (.goto 4, 3) := by decide +kernel
theorem dX7_ask_88 : decode cX7_ask 88 = .ok (.iload_n 3, 1) := by decide +kernel
theorem dX7_ask_89 : decode cX7_ask 89 = .ok (.ireturn, 1) := by decide +kernel
theorem dX7_book_0 : decode cX7_book 0 = .ok (.iload_n 1, 1) := by decide +kernel
theorem dX7_book_1 : decode cX7_book 1 = .ok (.i2l, 1) := by decide +kernel
theorem dX7_book_2 : decode cX7_book 2 = .ok (.lconst 0, 1) := by decide +kernel
theorem dX7_book_3 : decode cX7_book 3 = .ok (.ldc2_w 298, 3) := by decide +kernel
theorem dX7_book_6 : decode cX7_book 6 = .ok (.invokestatic 89, 3) := by decide +kernel
theorem dX7_book_9 : decode cX7_book 9 = .ok (.ifCond .eq 27, 3) := by decide +kernel
theorem dX7_book_12 : decode cX7_book 12 = .ok (.iload_n 2, 1) := by decide +kernel
theorem dX7_book_13 : decode cX7_book 13 = .ok (.i2l, 1) := by decide +kernel
theorem dX7_book_14 : decode cX7_book 14 = .ok (.lconst 1, 1) := by decide +kernel
theorem dX7_book_15 : decode cX7_book 15 = .ok (.ldc2_w 103, 3) := by decide +kernel
theorem dX7_book_18 : decode cX7_book 18 = .ok (.invokestatic 89, 3) := by decide +kernel
theorem dX7_book_21 : decode cX7_book 21 = .ok (.ifCond .eq 15, 3) := by decide +kernel
theorem dX7_book_24 : decode cX7_book 24 = .ok (.iload_n 3, 1) := by decide +kernel
theorem dX7_book_25 : decode cX7_book 25 = .ok (.i2l, 1) := by decide +kernel
theorem dX7_book_26 : decode cX7_book 26 = .ok (.lconst 0, 1) := by decide +kernel
theorem dX7_book_27 : decode cX7_book 27 = .ok (.ldc2_w 116, 3) := by decide +kernel
theorem dX7_book_30 : decode cX7_book 30 = .ok (.invokestatic 89, 3) := by decide +kernel
theorem dX7_book_33 : decode cX7_book 33 = .ok (.ifCond .ne 6, 3) := by decide +kernel
theorem dX7_book_36 : decode cX7_book 36 = .ok (.bipush (-2), 2) := by decide +kernel
theorem dX7_book_38 : decode cX7_book 38 = .ok (.ireturn, 1) := by decide +kernel
theorem dX7_book_39 : decode cX7_book 39 = .ok (.aload_n 0, 1) := by decide +kernel
theorem dX7_book_40 : decode cX7_book 40 = .ok (.aload_n 0, 1) := by decide +kernel
theorem dX7_book_41 : decode cX7_book 41 = .ok (.getfield 67, 3) := by decide +kernel
theorem dX7_book_44 : decode cX7_book 44 = .ok (.invokevirtual 217, 3) := by decide +kernel
theorem dX7_book_47 : decode cX7_book 47 = .ok (.iload_n 1, 1) := by decide +kernel
theorem dX7_book_48 : decode cX7_book 48 = .ok (.istore 4, 2) := by decide +kernel
theorem dX7_book_50 : decode cX7_book 50 = .ok (.iconst 0, 1) := by decide +kernel
theorem dX7_book_51 : decode cX7_book 51 = .ok (.istore 5, 2) := by decide +kernel
theorem dX7_book_53 : decode cX7_book 53 = .ok (.iload 5, 2) := by decide +kernel
theorem dX7_book_55 : decode cX7_book 55 = .ok (.iload_n 2, 1) := by decide +kernel
theorem dX7_book_56 : decode cX7_book 56 = .ok (.if_icmp .ge 134, 3) := by decide +kernel
theorem dX7_book_59 : decode cX7_book 59 = .ok (.ldc2_w 300, 3) := by decide +kernel
theorem dX7_book_62 : decode cX7_book 62 = .ok (.iload 4, 2) := by decide +kernel
theorem dX7_book_64 : decode cX7_book 64 = .ok (.i2l, 1) := by decide +kernel
theorem dX7_book_65 : decode cX7_book 65 = .ok (.lmul, 1) := by decide +kernel
theorem dX7_book_66 : decode cX7_book 66 = .ok (.ldc2_w 302, 3) := by decide +kernel
theorem dX7_book_69 : decode cX7_book 69 = .ok (.ladd, 1) := by decide +kernel
theorem dX7_book_70 : decode cX7_book 70 = .ok (.ldc2_w 304, 3) := by decide +kernel
theorem dX7_book_73 : decode cX7_book 73 = .ok (.lrem, 1) := by decide +kernel
theorem dX7_book_74 : decode cX7_book 74 = .ok (.l2i, 1) := by decide +kernel
theorem dX7_book_75 : decode cX7_book 75 = .ok (.istore 4, 2) := by decide +kernel
theorem dX7_book_77 : decode cX7_book 77 = .ok (.iload 4, 2) := by decide +kernel
theorem dX7_book_79 : decode cX7_book 79 = .ok (.bipush 6, 2) := by decide +kernel
theorem dX7_book_81 : decode cX7_book 81 = .ok (.idiv, 1) := by decide +kernel
theorem dX7_book_82 : decode cX7_book 82 = .ok (.bipush 8, 2) := by decide +kernel
theorem dX7_book_84 : decode cX7_book 84 = .ok (.irem, 1) := by decide +kernel
theorem dX7_book_85 : decode cX7_book 85 = .ok (.istore 6, 2) := by decide +kernel
theorem dX7_book_87 : decode cX7_book 87 = .ok (.iload 6, 2) := by decide +kernel
theorem dX7_book_89 : decode cX7_book 89 = .ok (.iconst 3, 1) := by decide +kernel
theorem dX7_book_90 : decode cX7_book 90 = .ok (.if_icmp .ge 7, 3) := by decide +kernel
theorem dX7_book_93 : decode cX7_book 93 = .ok (.iconst 0, 1) := by decide +kernel
theorem dX7_book_94 : decode cX7_book 94 = .ok (.goto 35, 3) := by decide +kernel
theorem dX7_book_97 : decode cX7_book 97 = .ok (.iload 6, 2) := by decide +kernel
theorem dX7_book_99 : decode cX7_book 99 = .ok (.iconst 5, 1) := by decide +kernel
theorem dX7_book_100 : decode cX7_book 100 = .ok (.if_icmp .ge 7, 3) := by decide +kernel
theorem dX7_book_103 : decode cX7_book 103 = .ok (.iconst 1, 1) := by decide +kernel
theorem dX7_book_104 : decode cX7_book 104 = .ok (.goto 25, 3) := by decide +kernel
theorem dX7_book_107 : decode cX7_book 107 = .ok (.iload 6, 2) := by decide +kernel
theorem dX7_book_109 : decode cX7_book 109 = .ok (.iconst 5, 1) := by decide +kernel
theorem dX7_book_110 : decode cX7_book 110 = .ok (.if_icmp .ne 7, 3) := by decide +kernel
theorem dX7_book_113 : decode cX7_book 113 = .ok (.iconst 2, 1) := by decide +kernel
theorem dX7_book_114 : decode cX7_book 114 = .ok (.goto 15, 3) := by decide +kernel
theorem dX7_book_117 : decode cX7_book 117 = .ok (.iload 6, 2) := by decide +kernel
theorem dX7_book_119 : decode cX7_book 119 = .ok (.bipush 6, 2) := by decide +kernel
theorem dX7_book_121 : decode cX7_book 121 = .ok (.if_icmp .ne 7, 3) := by decide +kernel
theorem dX7_book_124 : decode cX7_book 124 = .ok (.iconst 3, 1) := by decide +kernel
theorem dX7_book_125 : decode cX7_book 125 = .ok (.goto 4, 3) := by decide +kernel
theorem dX7_book_128 : decode cX7_book 128 = .ok (.iconst 5, 1) := by decide +kernel
theorem dX7_book_129 : decode cX7_book 129 = .ok (.istore 7, 2) := by decide +kernel
theorem dX7_book_131 : decode cX7_book 131 = .ok (.iload 4, 2) := by decide +kernel
theorem dX7_book_133 : decode cX7_book 133 = .ok (.bipush 48, 2) := by decide +kernel
theorem dX7_book_135 : decode cX7_book 135 = .ok (.idiv, 1) := by decide +kernel
theorem dX7_book_136 : decode cX7_book 136 = .ok (.bipush 8, 2) := by decide +kernel
theorem dX7_book_138 : decode cX7_book 138 = .ok (.irem, 1) := by decide +kernel
theorem dX7_book_139 : decode cX7_book 139 = .ok (.istore 8, 2) := by decide +kernel
theorem dX7_book_141 : decode cX7_book 141 = .ok (.iload 4, 2) := by decide +kernel
theorem dX7_book_143 : decode cX7_book 143 = .ok (.sipush 384, 3) := by decide +kernel
theorem dX7_book_146 : decode cX7_book 146 = .ok (.idiv, 1) := by decide +kernel
theorem dX7_book_147 : decode cX7_book 147 = .ok (.iconst 4, 1) := by decide +kernel
theorem dX7_book_148 : decode cX7_book 148 = .ok (.irem, 1) := by decide +kernel
theorem dX7_book_149 : decode cX7_book 149 = .ok (.istore 9, 2) := by decide +kernel
theorem dX7_book_151 : decode cX7_book 151 = .ok (.aload_n 0, 1) := by decide +kernel
theorem dX7_book_152 : decode cX7_book 152 = .ok (.iload 7, 2) := by decide +kernel
theorem dX7_book_154 : decode cX7_book 154 = .ok (.iload 4, 2) := by decide +kernel
theorem dX7_book_156 : decode cX7_book 156 = .ok (.bipush 6, 2) := by decide +kernel
theorem dX7_book_158 : decode cX7_book 158 = .ok (.irem, 1) := by decide +kernel
theorem dX7_book_159 : decode cX7_book 159 = .ok (.iload 9, 2) := by decide +kernel
theorem dX7_book_161 : decode cX7_book 161 = .ok (.iload 8, 2) := by decide +kernel
theorem dX7_book_163 : decode cX7_book 163 = .ok (.invokevirtual 206, 3) := by decide +kernel
theorem dX7_book_166 : decode cX7_book 166 = .ok (.ifCond .ne 18, 3) := by decide +kernel
theorem dX7_book_169 : decode cX7_book 169 = .ok (.aload_n 0, 1) := by decide +kernel
theorem dX7_book_170 : decode cX7_book 170 = .ok (.iload 7, 2) := by decide +kernel
theorem dX7_book_172 : decode cX7_book 172 = .ok (.iload 4, 2) := by decide +kernel
theorem dX7_book_174 : decode cX7_book 174 = .ok (.bipush 6, 2) := by decide +kernel
theorem dX7_book_176 : decode cX7_book 176 = .ok (.irem, 1) := by decide +kernel
theorem dX7_book_177 : decode cX7_book 177 = .ok (.iload 9, 2) := by decide +kernel
theorem dX7_book_179 : decode cX7_book 179 = .ok (.iload 8, 2) := by decide +kernel
theorem dX7_book_181 : decode cX7_book 181 = .ok (.invokevirtual 210, 3) := by decide +kernel
theorem dX7_book_184 : decode cX7_book 184 = .ok (.iinc 5 1, 3) := by decide +kernel
theorem dX7_book_187 : decode cX7_book 187 = .ok (.goto (-134), 3) := by decide +kernel
theorem dX7_book_190 : decode cX7_book 190 = .ok (.iconst 0, 1) := by decide +kernel
theorem dX7_book_191 : decode cX7_book 191 = .ok (.istore 5, 2) := by decide +kernel
theorem dX7_book_193 : decode cX7_book 193 = .ok (.iconst 0, 1) := by decide +kernel
theorem dX7_book_194 : decode cX7_book 194 = .ok (.istore 6, 2) := by decide +kernel
theorem dX7_book_196 : decode cX7_book 196 = .ok (.iconst 0, 1) := by decide +kernel
theorem dX7_book_197 : decode cX7_book 197 = .ok (.istore 7, 2) := by decide +kernel
theorem dX7_book_199 : decode cX7_book 199 = .ok (.iload 7, 2) := by decide +kernel
theorem dX7_book_201 : decode cX7_book 201 = .ok (.iconst 4, 1) := by decide +kernel
theorem dX7_book_202 : decode cX7_book 202 = .ok (.if_icmp .ge 53, 3) := by decide +kernel
theorem dX7_book_205 : decode cX7_book 205 = .ok (.iload 5, 2) := by decide +kernel
theorem dX7_book_207 : decode cX7_book 207 = .ok (.aload_n 0, 1) := by decide +kernel
theorem dX7_book_208 : decode cX7_book 208 = .ok (.getfield 34, 3) := by decide +kernel
theorem dX7_book_211 : decode cX7_book 211 = .ok (.iload 7, 2) := by decide +kernel
theorem dX7_book_213 : decode cX7_book 213 = .ok (.iaload, 1) := by decide +kernel
theorem dX7_book_214 : decode cX7_book 214 = .ok (.iadd, 1) := by decide +kernel
theorem dX7_book_215 : decode cX7_book 215 = .ok (.istore 5, 2) := by decide +kernel
theorem dX7_book_217 : decode cX7_book 217 = .ok (.iconst 0, 1) := by decide +kernel
theorem dX7_book_218 : decode cX7_book 218 = .ok (.istore 8, 2) := by decide +kernel
theorem dX7_book_220 : decode cX7_book 220 = .ok (.iload 8, 2) := by decide +kernel
theorem dX7_book_222 : decode cX7_book 222 = .ok (.bipush 6, 2) := by decide +kernel
theorem dX7_book_224 : decode cX7_book 224 = .ok (.if_icmp .ge 25, 3) := by decide +kernel
theorem dX7_book_227 : decode cX7_book 227 = .ok (.iload 6, 2) := by decide +kernel
theorem dX7_book_229 : decode cX7_book 229 = .ok (.aload_n 0, 1) := by decide +kernel
theorem dX7_book_230 : decode cX7_book 230 = .ok (.iload 7, 2) := by decide +kernel
theorem dX7_book_232 : decode cX7_book 232 = .ok (.iload 8, 2) := by decide +kernel
theorem dX7_book_234 : decode cX7_book 234 = .ok (.invokevirtual 176, 3) := by decide +kernel
theorem dX7_book_237 : decode cX7_book 237 = .ok (.invokestatic 109, 3) := by decide +kernel
theorem dX7_book_240 : decode cX7_book 240 = .ok (.iadd, 1) := by decide +kernel
theorem dX7_book_241 : decode cX7_book 241 = .ok (.istore 6, 2) := by decide +kernel
theorem dX7_book_243 : decode cX7_book 243 = .ok (.iinc 8 1, 3) := by decide +kernel
theorem dX7_book_246 : decode cX7_book 246 = .ok (.goto (-26), 3) := by decide +kernel
theorem dX7_book_249 : decode cX7_book 249 = .ok (.iinc 7 1, 3) := by decide +kernel
theorem dX7_book_252 : decode cX7_book 252 = .ok (.goto (-53), 3) := by decide +kernel
theorem dX7_book_255 : decode cX7_book 255 = .ok (.aload_n 0, 1) := by decide +kernel
theorem dX7_book_256 : decode cX7_book 256 = .ok (.invokevirtual 261, 3) := by decide +kernel
theorem dX7_book_259 : decode cX7_book 259 = .ok (.invokestatic 109, 3) := by decide +kernel
theorem dX7_book_262 : decode cX7_book 262 = .ok (.istore 7, 2) := by decide +kernel
theorem dX7_book_264 : decode cX7_book 264 = .ok (.aload_n 0, 1) := by decide +kernel
theorem dX7_book_265 : decode cX7_book 265 = .ok (.aload_n 0, 1) := by decide +kernel
theorem dX7_book_266 : decode cX7_book 266 = .ok (.getfield 67, 3) := by decide +kernel
theorem dX7_book_269 : decode cX7_book 269 = .ok (.invokevirtual 224, 3) := by decide +kernel
theorem dX7_book_272 : decode cX7_book 272 = .ok (.iload_n 3, 1) := by decide +kernel
theorem dX7_book_273 : decode cX7_book 273 = .ok (.ifCond .ne 8, 3) := by decide +kernel
theorem dX7_book_276 : decode cX7_book 276 = .ok (.iload 7, 2) := by decide +kernel
theorem dX7_book_278 : decode cX7_book 278 = .ok (.goto 15, 3) := by decide +kernel
theorem dX7_book_281 : decode cX7_book 281 = .ok (.iload_n 3, 1) := by decide +kernel
theorem dX7_book_282 : decode cX7_book 282 = .ok (.iconst 1, 1) := by decide +kernel
theorem dX7_book_283 : decode cX7_book 283 = .ok (.if_icmp .ne 8, 3) := by decide +kernel
theorem dX7_book_286 : decode cX7_book 286 = .ok (.iload 5, 2) := by decide +kernel
theorem dX7_book_288 : decode cX7_book 288 = .ok (.goto 5, 3) := by decide +kernel
theorem dX7_book_291 : decode cX7_book 291 = .ok (.iload 6, 2) := by decide +kernel
theorem dX7_book_293 : decode cX7_book 293 = .ok (.ireturn, 1) := by decide +kernel
theorem dX7_pass_0 : decode cX7_pass 0 = .ok (.aload_n 0, 1) := by decide +kernel
theorem dX7_pass_1 : decode cX7_pass 1 = .ok (.getfield 306, 3) := by decide +kernel
theorem dX7_pass_4 : decode cX7_pass 4 = .ok (.ifCond .eq 7, 3) := by decide +kernel
theorem dX7_pass_7 : decode cX7_pass 7 = .ok (.iload_n 1, 1) := by decide +kernel
theorem dX7_pass_8 : decode cX7_pass 8 = .ok (.goto 12, 3) := by decide +kernel
theorem dX7_pass_11 : decode cX7_pass 11 = .ok (.aload_n 0, 1) := by decide +kernel
theorem dX7_pass_12 : decode cX7_pass 12 = .ok (.getfield 80, 3) := by decide +kernel
theorem dX7_pass_15 : decode cX7_pass 15 = .ok (.aload_n 0, 1) := by decide +kernel
theorem dX7_pass_16 : decode cX7_pass 16 = .ok (.getfield 310, 3) := by decide +kernel
theorem dX7_pass_19 : decode cX7_pass 19 = .ok (.iaload, 1) := by decide +kernel
theorem dX7_pass_20 : decode cX7_pass 20 = .ok (.istore_n 2, 1) := by decide +kernel
theorem dX7_pass_21 : decode cX7_pass 21 = .ok (.aload_n 0, 1) := by decide +kernel
theorem dX7_pass_22 : decode cX7_pass 22 = .ok (.getfield 80, 3) := by decide +kernel
theorem dX7_pass_25 : decode cX7_pass 25 = .ok (.aload_n 0, 1) := by decide +kernel
theorem dX7_pass_26 : decode cX7_pass 26 = .ok (.getfield 310, 3) := by decide +kernel
theorem dX7_pass_29 : decode cX7_pass 29 = .ok (.iload_n 2, 1) := by decide +kernel
theorem dX7_pass_30 : decode cX7_pass 30 = .ok (.iastore, 1) := by decide +kernel
theorem dX7_pass_31 : decode cX7_pass 31 = .ok (.aload_n 0, 1) := by decide +kernel
theorem dX7_pass_32 : decode cX7_pass 32 = .ok (.dup, 1) := by decide +kernel
theorem dX7_pass_33 : decode cX7_pass 33 = .ok (.getfield 310, 3) := by decide +kernel
theorem dX7_pass_36 : decode cX7_pass 36 = .ok (.iconst 1, 1) := by decide +kernel
theorem dX7_pass_37 : decode cX7_pass 37 = .ok (.iadd, 1) := by decide +kernel
theorem dX7_pass_38 : decode cX7_pass 38 = .ok (.putfield 310, 3) := by decide +kernel
theorem dX7_pass_41 : decode cX7_pass 41 = .ok (.iload_n 2, 1) := by decide +kernel
theorem dX7_pass_42 : decode cX7_pass 42 = .ok (.ireturn, 1) := by decide +kernel
theorem dX7_passRow_0 : decode cX7_passRow 0 = .ok (.iconst 0, 1) := by decide +kernel
theorem dX7_passRow_1 : decode cX7_passRow 1 = .ok (.istore_n 3, 1) := by decide +kernel
theorem dX7_passRow_2 : decode cX7_passRow 2 = .ok (.iload_n 3, 1) := by decide +kernel
theorem dX7_passRow_3 : decode cX7_passRow 3 = .ok (.iload_n 2, 1) := by decide +kernel
theorem dX7_passRow_4 : decode cX7_passRow 4 = .ok (.if_icmp .ge 19, 3) := by decide +kernel
theorem dX7_passRow_7 : decode cX7_passRow 7 = .ok (.aload_n 1, 1) := by decide +kernel
theorem dX7_passRow_8 : decode cX7_passRow 8 = .ok (.iload_n 3, 1) := by decide +kernel
theorem dX7_passRow_9 : decode cX7_passRow 9 = .ok (.aload_n 0, 1) := by decide +kernel
theorem dX7_passRow_10 : decode cX7_passRow 10 = .ok (.aload_n 1, 1) := by decide +kernel
theorem dX7_passRow_11 : decode cX7_passRow 11 = .ok (.iload_n 3, 1) := by decide +kernel
theorem dX7_passRow_12 : decode cX7_passRow 12 = .ok (.iaload, 1) := by decide +kernel
theorem dX7_passRow_13 : decode cX7_passRow 13 = .ok (.invokevirtual 313, 3) := by decide +kernel
theorem dX7_passRow_16 : decode cX7_passRow 16 = .ok (.iastore, 1) := by decide +kernel
theorem dX7_passRow_17 : decode cX7_passRow 17 = .ok (.iinc 3 1, 3) := by decide +kernel
theorem dX7_passRow_20 : decode cX7_passRow 20 = .ok (.goto (-18), 3) := by decide +kernel
theorem dX7_passRow_23 : decode cX7_passRow 23 = .ok (.return_, 1) := by decide +kernel
theorem dX7_passAll_0 : decode cX7_passAll 0 = .ok (.aload_n 0, 1) := by decide +kernel
theorem dX7_passAll_1 : decode cX7_passAll 1 = .ok (.aload_n 0, 1) := by decide +kernel
theorem dX7_passAll_2 : decode cX7_passAll 2 = .ok (.aload_n 0, 1) := by decide +kernel
theorem dX7_passAll_3 : decode cX7_passAll 3 = .ok (.getfield 97, 3) := by decide +kernel
theorem dX7_passAll_6 : decode cX7_passAll 6 = .ok (.invokevirtual 313, 3) := by decide +kernel
theorem dX7_passAll_9 : decode cX7_passAll 9 = .ok (.putfield 97, 3) := by decide +kernel
theorem dX7_passAll_12 : decode cX7_passAll 12 = .ok (.aload_n 0, 1) := by decide +kernel
theorem dX7_passAll_13 : decode cX7_passAll 13 = .ok (.aload_n 0, 1) := by decide +kernel
theorem dX7_passAll_14 : decode cX7_passAll 14 = .ok (.aload_n 0, 1) := by decide +kernel
theorem dX7_passAll_15 : decode cX7_passAll 15 = .ok (.getfield 173, 3) := by decide +kernel
theorem dX7_passAll_18 : decode cX7_passAll 18 = .ok (.invokevirtual 313, 3) := by decide +kernel
theorem dX7_passAll_21 : decode cX7_passAll 21 = .ok (.putfield 173, 3) := by decide +kernel
theorem dX7_passAll_24 : decode cX7_passAll 24 = .ok (.aload_n 0, 1) := by decide +kernel
theorem dX7_passAll_25 : decode cX7_passAll 25 = .ok (.aload_n 0, 1) := by decide +kernel
theorem dX7_passAll_26 : decode cX7_passAll 26 = .ok (.aload_n 0, 1) := by decide +kernel
theorem dX7_passAll_27 : decode cX7_passAll 27 = .ok (.getfield 285, 3) := by decide +kernel
theorem dX7_passAll_30 : decode cX7_passAll 30 = .ok (.invokevirtual 313, 3) := by decide +kernel
theorem dX7_passAll_33 : decode cX7_passAll 33 = .ok (.putfield 285, 3) := by decide +kernel
theorem dX7_passAll_36 : decode cX7_passAll 36 = .ok (.aload_n 0, 1) := by decide +kernel
theorem dX7_passAll_37 : decode cX7_passAll 37 = .ok (.aload_n 0, 1) := by decide +kernel
theorem dX7_passAll_38 : decode cX7_passAll 38 = .ok (.getfield 7, 3) := by decide +kernel
theorem dX7_passAll_41 : decode cX7_passAll 41 = .ok (.bipush 6, 2) := by decide +kernel
theorem dX7_passAll_43 : decode cX7_passAll 43 = .ok (.invokevirtual 316, 3) := by decide +kernel
theorem dX7_passAll_46 : decode cX7_passAll 46 = .ok (.aload_n 0, 1) := by decide +kernel
theorem dX7_passAll_47 : decode cX7_passAll 47 = .ok (.aload_n 0, 1) := by decide +kernel
theorem dX7_passAll_48 : decode cX7_passAll 48 = .ok (.getfield 13, 3) := by decide +kernel
theorem dX7_passAll_51 : decode cX7_passAll 51 = .ok (.bipush 6, 2) := by decide +kernel
theorem dX7_passAll_53 : decode cX7_passAll 53 = .ok (.invokevirtual 316, 3) := by decide +kernel
theorem dX7_passAll_56 : decode cX7_passAll 56 = .ok (.aload_n 0, 1) := by decide +kernel
theorem dX7_passAll_57 : decode cX7_passAll 57 = .ok (.aload_n 0, 1) := by decide +kernel
theorem dX7_passAll_58 : decode cX7_passAll 58 = .ok (.getfield 16, 3) := by decide +kernel
theorem dX7_passAll_61 : decode cX7_passAll 61 = .ok (.bipush 6, 2) := by decide +kernel
theorem dX7_passAll_63 : decode cX7_passAll 63 = .ok (.invokevirtual 316, 3) := by decide +kernel
theorem dX7_passAll_66 : decode cX7_passAll 66 = .ok (.aload_n 0, 1) := by decide +kernel
theorem dX7_passAll_67 : decode cX7_passAll 67 = .ok (.aload_n 0, 1) := by decide +kernel
theorem dX7_passAll_68 : decode cX7_passAll 68 = .ok (.getfield 19, 3) := by decide +kernel
theorem dX7_passAll_71 : decode cX7_passAll 71 = .ok (.bipush 6, 2) := by decide +kernel
theorem dX7_passAll_73 : decode cX7_passAll 73 = .ok (.invokevirtual 316, 3) := by decide +kernel
theorem dX7_passAll_76 : decode cX7_passAll 76 = .ok (.aload_n 0, 1) := by decide +kernel
theorem dX7_passAll_77 : decode cX7_passAll 77 = .ok (.aload_n 0, 1) := by decide +kernel
theorem dX7_passAll_78 : decode cX7_passAll 78 = .ok (.getfield 22, 3) := by decide +kernel
theorem dX7_passAll_81 : decode cX7_passAll 81 = .ok (.bipush 48, 2) := by decide +kernel
theorem dX7_passAll_83 : decode cX7_passAll 83 = .ok (.invokevirtual 316, 3) := by decide +kernel
theorem dX7_passAll_86 : decode cX7_passAll 86 = .ok (.aload_n 0, 1) := by decide +kernel
theorem dX7_passAll_87 : decode cX7_passAll 87 = .ok (.aload_n 0, 1) := by decide +kernel
theorem dX7_passAll_88 : decode cX7_passAll 88 = .ok (.getfield 25, 3) := by decide +kernel
theorem dX7_passAll_91 : decode cX7_passAll 91 = .ok (.bipush 6, 2) := by decide +kernel
theorem dX7_passAll_93 : decode cX7_passAll 93 = .ok (.invokevirtual 316, 3) := by decide +kernel
theorem dX7_passAll_96 : decode cX7_passAll 96 = .ok (.aload_n 0, 1) := by decide +kernel
theorem dX7_passAll_97 : decode cX7_passAll 97 = .ok (.aload_n 0, 1) := by decide +kernel
theorem dX7_passAll_98 : decode cX7_passAll 98 = .ok (.getfield 28, 3) := by decide +kernel
theorem dX7_passAll_101 : decode cX7_passAll 101 = .ok (.bipush 6, 2) := by decide +kernel
theorem dX7_passAll_103 : decode cX7_passAll 103 = .ok (.invokevirtual 316, 3) := by decide +kernel
theorem dX7_passAll_106 : decode cX7_passAll 106 = .ok (.aload_n 0, 1) := by decide +kernel
theorem dX7_passAll_107 : decode cX7_passAll 107 = .ok (.aload_n 0, 1) := by decide +kernel
theorem dX7_passAll_108 : decode cX7_passAll 108 = .ok (.getfield 31, 3) := by decide +kernel
theorem dX7_passAll_111 : decode cX7_passAll 111 = .ok (.bipush 6, 2) := by decide +kernel
theorem dX7_passAll_113 : decode cX7_passAll 113 = .ok (.invokevirtual 316, 3) := by decide +kernel
theorem dX7_passAll_116 : decode cX7_passAll 116 = .ok (.aload_n 0, 1) := by decide +kernel
theorem dX7_passAll_117 : decode cX7_passAll 117 = .ok (.aload_n 0, 1) := by decide +kernel
theorem dX7_passAll_118 : decode cX7_passAll 118 = .ok (.getfield 34, 3) := by decide +kernel
theorem dX7_passAll_121 : decode cX7_passAll 121 = .ok (.iconst 4, 1) := by decide +kernel
theorem dX7_passAll_122 : decode cX7_passAll 122 = .ok (.invokevirtual 316, 3) := by decide +kernel
theorem dX7_passAll_125 : decode cX7_passAll 125 = .ok (.aload_n 0, 1) := by decide +kernel
theorem dX7_passAll_126 : decode cX7_passAll 126 = .ok (.aload_n 0, 1) := by decide +kernel
theorem dX7_passAll_127 : decode cX7_passAll 127 = .ok (.getfield 37, 3) := by decide +kernel
theorem dX7_passAll_130 : decode cX7_passAll 130 = .ok (.iconst 3, 1) := by decide +kernel
theorem dX7_passAll_131 : decode cX7_passAll 131 = .ok (.invokevirtual 316, 3) := by decide +kernel
theorem dX7_passAll_134 : decode cX7_passAll 134 = .ok (.aload_n 0, 1) := by decide +kernel
theorem dX7_passAll_135 : decode cX7_passAll 135 = .ok (.aload_n 0, 1) := by decide +kernel
theorem dX7_passAll_136 : decode cX7_passAll 136 = .ok (.getfield 40, 3) := by decide +kernel
theorem dX7_passAll_139 : decode cX7_passAll 139 = .ok (.bipush 8, 2) := by decide +kernel
theorem dX7_passAll_141 : decode cX7_passAll 141 = .ok (.invokevirtual 316, 3) := by decide +kernel
theorem dX7_passAll_144 : decode cX7_passAll 144 = .ok (.aload_n 0, 1) := by decide +kernel
theorem dX7_passAll_145 : decode cX7_passAll 145 = .ok (.aload_n 0, 1) := by decide +kernel
theorem dX7_passAll_146 : decode cX7_passAll 146 = .ok (.getfield 43, 3) := by decide +kernel
theorem dX7_passAll_149 : decode cX7_passAll 149 = .ok (.bipush 8, 2) := by decide +kernel
theorem dX7_passAll_151 : decode cX7_passAll 151 = .ok (.invokevirtual 316, 3) := by decide +kernel
theorem dX7_passAll_154 : decode cX7_passAll 154 = .ok (.aload_n 0, 1) := by decide +kernel
theorem dX7_passAll_155 : decode cX7_passAll 155 = .ok (.aload_n 0, 1) := by decide +kernel
theorem dX7_passAll_156 : decode cX7_passAll 156 = .ok (.getfield 46, 3) := by decide +kernel
theorem dX7_passAll_159 : decode cX7_passAll 159 = .ok (.bipush 8, 2) := by decide +kernel
theorem dX7_passAll_161 : decode cX7_passAll 161 = .ok (.invokevirtual 316, 3) := by decide +kernel
theorem dX7_passAll_164 : decode cX7_passAll 164 = .ok (.aload_n 0, 1) := by decide +kernel
theorem dX7_passAll_165 : decode cX7_passAll 165 = .ok (.aload_n 0, 1) := by decide +kernel
theorem dX7_passAll_166 : decode cX7_passAll 166 = .ok (.getfield 49, 3) := by decide +kernel
theorem dX7_passAll_169 : decode cX7_passAll 169 = .ok (.bipush 8, 2) := by decide +kernel
theorem dX7_passAll_171 : decode cX7_passAll 171 = .ok (.invokevirtual 316, 3) := by decide +kernel
theorem dX7_passAll_174 : decode cX7_passAll 174 = .ok (.return_, 1) := by decide +kernel
theorem dX7_image_0 : decode cX7_image 0 = .ok (.iload_n 1, 1) := by decide +kernel
theorem dX7_image_1 : decode cX7_image 1 = .ok (.i2l, 1) := by decide +kernel
theorem dX7_image_2 : decode cX7_image 2 = .ok (.lconst 0, 1) := by decide +kernel
theorem dX7_image_3 : decode cX7_image 3 = .ok (.lconst 1, 1) := by decide +kernel
theorem dX7_image_4 : decode cX7_image 4 = .ok (.invokestatic 89, 3) := by decide +kernel
theorem dX7_image_7 : decode cX7_image 7 = .ok (.ifCond .ne 6, 3) := by decide +kernel
theorem dX7_image_10 : decode cX7_image 10 = .ok (.bipush (-2), 2) := by decide +kernel
theorem dX7_image_12 : decode cX7_image 12 = .ok (.ireturn, 1) := by decide +kernel
theorem dX7_image_13 : decode cX7_image 13 = .ok (.aload_n 0, 1) := by decide +kernel
theorem dX7_image_14 : decode cX7_image 14 = .ok (.sipush 160, 3) := by decide +kernel
theorem dX7_image_17 : decode cX7_image 17 = .ok (.iload_n 1, 1) := by decide +kernel
theorem dX7_image_18 : decode cX7_image 18 = .ok (.imul, 1) := by decide +kernel
theorem dX7_image_19 : decode cX7_image 19 = .ok (.putfield 310, 3) := by decide +kernel
theorem dX7_image_22 : decode cX7_image 22 = .ok (.aload_n 0, 1) := by decide +kernel
theorem dX7_image_23 : decode cX7_image 23 = .ok (.iconst 1, 1) := by decide +kernel
theorem dX7_image_24 : decode cX7_image 24 = .ok (.putfield 306, 3) := by decide +kernel
theorem dX7_image_27 : decode cX7_image 27 = .ok (.aload_n 0, 1) := by decide +kernel
theorem dX7_image_28 : decode cX7_image 28 = .ok (.invokevirtual 320, 3) := by decide +kernel
theorem dX7_image_31 : decode cX7_image 31 = .ok (.aload_n 0, 1) := by decide +kernel
theorem dX7_image_32 : decode cX7_image 32 = .ok (.getfield 83, 3) := by decide +kernel
theorem dX7_image_35 : decode cX7_image 35 = .ok (.iload_n 1, 1) := by decide +kernel
theorem dX7_image_36 : decode cX7_image 36 = .ok (.iconst 1, 1) := by decide +kernel
theorem dX7_image_37 : decode cX7_image 37 = .ok (.bastore, 1) := by decide +kernel
theorem dX7_image_38 : decode cX7_image 38 = .ok (.iconst 1, 1) := by decide +kernel
theorem dX7_image_39 : decode cX7_image 39 = .ok (.ireturn, 1) := by decide +kernel
theorem dX7_restore_0 : decode cX7_restore 0 = .ok (.iload_n 1, 1) := by decide +kernel
theorem dX7_restore_1 : decode cX7_restore 1 = .ok (.i2l, 1) := by decide +kernel
theorem dX7_restore_2 : decode cX7_restore 2 = .ok (.lconst 0, 1) := by decide +kernel
theorem dX7_restore_3 : decode cX7_restore 3 = .ok (.lconst 1, 1) := by decide +kernel
theorem dX7_restore_4 : decode cX7_restore 4 = .ok (.invokestatic 89, 3) := by decide +kernel
theorem dX7_restore_7 : decode cX7_restore 7 = .ok (.ifCond .ne 6, 3) := by decide +kernel
theorem dX7_restore_10 : decode cX7_restore 10 = .ok (.bipush (-2), 2) := by decide +kernel
theorem dX7_restore_12 : decode cX7_restore 12 = .ok (.ireturn, 1) := by decide +kernel
theorem dX7_restore_13 : decode cX7_restore 13 = .ok (.aload_n 0, 1) := by decide +kernel
theorem dX7_restore_14 : decode cX7_restore 14 = .ok (.getfield 83, 3) := by decide +kernel
theorem dX7_restore_17 : decode cX7_restore 17 = .ok (.iload_n 1, 1) := by decide +kernel
theorem dX7_restore_18 : decode cX7_restore 18 = .ok (.baload, 1) := by decide +kernel
theorem dX7_restore_19 : decode cX7_restore 19 = .ok (.ifCond .ne 6, 3) := by decide +kernel
theorem dX7_restore_22 : decode cX7_restore 22 = .ok (.bipush (-3), 2) := by decide +kernel
theorem dX7_restore_24 : decode cX7_restore 24 = .ok (.ireturn, 1) := by decide +kernel
theorem dX7_restore_25 : decode cX7_restore 25 = .ok (.aload_n 0, 1) := by decide +kernel
theorem dX7_restore_26 : decode cX7_restore 26 = .ok (.sipush 160, 3) := by decide +kernel
theorem dX7_restore_29 : decode cX7_restore 29 = .ok (.iload_n 1, 1) := by decide +kernel
theorem dX7_restore_30 : decode cX7_restore 30 = .ok (.imul, 1) := by decide +kernel
theorem dX7_restore_31 : decode cX7_restore 31 = .ok (.putfield 310, 3) := by decide +kernel
theorem dX7_restore_34 : decode cX7_restore 34 = .ok (.aload_n 0, 1) := by decide +kernel
theorem dX7_restore_35 : decode cX7_restore 35 = .ok (.iconst 0, 1) := by decide +kernel
theorem dX7_restore_36 : decode cX7_restore 36 = .ok (.putfield 306, 3) := by decide +kernel
theorem dX7_restore_39 : decode cX7_restore 39 = .ok (.aload_n 0, 1) := by decide +kernel
theorem dX7_restore_40 : decode cX7_restore 40 = .ok (.invokevirtual 320, 3) := by decide +kernel
theorem dX7_restore_43 : decode cX7_restore 43 = .ok (.iconst 1, 1) := by decide +kernel
theorem dX7_restore_44 : decode cX7_restore 44 = .ok (.ireturn, 1) := by decide +kernel
theorem dX7_toldOf_0 : decode cX7_toldOf 0 = .ok (.iload_n 2, 1) := by decide +kernel
theorem dX7_toldOf_1 : decode cX7_toldOf 1 = .ok (.i2l, 1) := by decide +kernel
theorem dX7_toldOf_2 : decode cX7_toldOf 2 = .ok (.ldc2_w 235, 3) := by decide +kernel
theorem dX7_toldOf_5 : decode cX7_toldOf 5 = .ok (.ldc2_w 323, 3) := by decide +kernel
theorem dX7_toldOf_8 : decode cX7_toldOf 8 = .ok (.invokestatic 89, 3) := by decide +kernel
theorem dX7_toldOf_11 : decode cX7_toldOf 11 = .ok (.ifCond .eq 18, 3) := by decide +kernel
theorem dX7_toldOf_14 : decode cX7_toldOf 14 = .ok (.aload_n 0, 1) := by decide +kernel
theorem dX7_toldOf_15 : decode cX7_toldOf 15 = .ok (.getfield 22, 3) := by decide +kernel
theorem dX7_toldOf_18 : decode cX7_toldOf 18 = .ok (.bipush 8, 2) := by decide +kernel
theorem dX7_toldOf_20 : decode cX7_toldOf 20 = .ok (.iload_n 1, 1) := by decide +kernel
theorem dX7_toldOf_21 : decode cX7_toldOf 21 = .ok (.imul, 1) := by decide +kernel
theorem dX7_toldOf_22 : decode cX7_toldOf 22 = .ok (.iload_n 2, 1) := by decide +kernel
theorem dX7_toldOf_23 : decode cX7_toldOf 23 = .ok (.iadd, 1) := by decide +kernel
theorem dX7_toldOf_24 : decode cX7_toldOf 24 = .ok (.bipush 10, 2) := by decide +kernel
theorem dX7_toldOf_26 : decode cX7_toldOf 26 = .ok (.isub, 1) := by decide +kernel
theorem dX7_toldOf_27 : decode cX7_toldOf 27 = .ok (.iaload, 1) := by decide +kernel
theorem dX7_toldOf_28 : decode cX7_toldOf 28 = .ok (.ireturn, 1) := by decide +kernel
theorem dX7_toldOf_29 : decode cX7_toldOf 29 = .ok (.iload_n 2, 1) := by decide +kernel
theorem dX7_toldOf_30 : decode cX7_toldOf 30 = .ok (.tableswitch 91 0 6 #[42, 49, 56, 63, 70, 77, 84], 42) := by decide +kernel
theorem dX7_toldOf_72 : decode cX7_toldOf 72 = .ok (.aload_n 0, 1) := by decide +kernel
theorem dX7_toldOf_73 : decode cX7_toldOf 73 = .ok (.getfield 7, 3) := by decide +kernel
theorem dX7_toldOf_76 : decode cX7_toldOf 76 = .ok (.iload_n 1, 1) := by decide +kernel
theorem dX7_toldOf_77 : decode cX7_toldOf 77 = .ok (.iaload, 1) := by decide +kernel
theorem dX7_toldOf_78 : decode cX7_toldOf 78 = .ok (.ireturn, 1) := by decide +kernel
theorem dX7_toldOf_79 : decode cX7_toldOf 79 = .ok (.aload_n 0, 1) := by decide +kernel
theorem dX7_toldOf_80 : decode cX7_toldOf 80 = .ok (.getfield 13, 3) := by decide +kernel
theorem dX7_toldOf_83 : decode cX7_toldOf 83 = .ok (.iload_n 1, 1) := by decide +kernel
theorem dX7_toldOf_84 : decode cX7_toldOf 84 = .ok (.iaload, 1) := by decide +kernel
theorem dX7_toldOf_85 : decode cX7_toldOf 85 = .ok (.ireturn, 1) := by decide +kernel
theorem dX7_toldOf_86 : decode cX7_toldOf 86 = .ok (.aload_n 0, 1) := by decide +kernel
theorem dX7_toldOf_87 : decode cX7_toldOf 87 = .ok (.getfield 16, 3) := by decide +kernel
theorem dX7_toldOf_90 : decode cX7_toldOf 90 = .ok (.iload_n 1, 1) := by decide +kernel
theorem dX7_toldOf_91 : decode cX7_toldOf 91 = .ok (.iaload, 1) := by decide +kernel
theorem dX7_toldOf_92 : decode cX7_toldOf 92 = .ok (.ireturn, 1) := by decide +kernel
theorem dX7_toldOf_93 : decode cX7_toldOf 93 = .ok (.aload_n 0, 1) := by decide +kernel
theorem dX7_toldOf_94 : decode cX7_toldOf 94 = .ok (.getfield 19, 3) := by decide +kernel
theorem dX7_toldOf_97 : decode cX7_toldOf 97 = .ok (.iload_n 1, 1) := by decide +kernel
theorem dX7_toldOf_98 : decode cX7_toldOf 98 = .ok (.iaload, 1) := by decide +kernel
theorem dX7_toldOf_99 : decode cX7_toldOf 99 = .ok (.ireturn, 1) := by decide +kernel
theorem dX7_toldOf_100 : decode cX7_toldOf 100 = .ok (.aload_n 0, 1) := by decide +kernel
theorem dX7_toldOf_101 : decode cX7_toldOf 101 = .ok (.getfield 25, 3) := by decide +kernel
theorem dX7_toldOf_104 : decode cX7_toldOf 104 = .ok (.iload_n 1, 1) := by decide +kernel
theorem dX7_toldOf_105 : decode cX7_toldOf 105 = .ok (.iaload, 1) := by decide +kernel
theorem dX7_toldOf_106 : decode cX7_toldOf 106 = .ok (.ireturn, 1) := by decide +kernel
theorem dX7_toldOf_107 : decode cX7_toldOf 107 = .ok (.aload_n 0, 1) := by decide +kernel
theorem dX7_toldOf_108 : decode cX7_toldOf 108 = .ok (.getfield 28, 3) := by decide +kernel
theorem dX7_toldOf_111 : decode cX7_toldOf 111 = .ok (.iload_n 1, 1) := by decide +kernel
theorem dX7_toldOf_112 : decode cX7_toldOf 112 = .ok (.iaload, 1) := by decide +kernel
theorem dX7_toldOf_113 : decode cX7_toldOf 113 = .ok (.ireturn, 1) := by decide +kernel
theorem dX7_toldOf_114 : decode cX7_toldOf 114 = .ok (.aload_n 0, 1) := by decide +kernel
theorem dX7_toldOf_115 : decode cX7_toldOf 115 = .ok (.getfield 31, 3) := by decide +kernel
theorem dX7_toldOf_118 : decode cX7_toldOf 118 = .ok (.iload_n 1, 1) := by decide +kernel
theorem dX7_toldOf_119 : decode cX7_toldOf 119 = .ok (.iaload, 1) := by decide +kernel
theorem dX7_toldOf_120 : decode cX7_toldOf 120 = .ok (.ireturn, 1) := by decide +kernel
theorem dX7_toldOf_121 : decode cX7_toldOf 121 = .ok (.bipush (-2), 2) := by decide +kernel
theorem dX7_toldOf_123 : decode cX7_toldOf 123 = .ok (.ireturn, 1) := by decide +kernel
theorem dX7_told_0 : decode cX7_told 0 = .ok (.iload_n 1, 1) := by decide +kernel
theorem dX7_told_1 : decode cX7_told 1 = .ok (.i2l, 1) := by decide +kernel
theorem dX7_told_2 : decode cX7_told 2 = .ok (.ldc2_w 325, 3) := by decide +kernel
theorem dX7_told_5 : decode cX7_told 5 = .ok (.ldc2_w 327, 3) := by decide +kernel
theorem dX7_told_8 : decode cX7_told 8 = .ok (.invokestatic 89, 3) := by decide +kernel
theorem dX7_told_11 : decode cX7_told 11 = .ok (.ifCond .eq 33, 3) := by decide +kernel
theorem dX7_told_14 : decode cX7_told 14 = .ok (.iload_n 1, 1) := by decide +kernel
theorem dX7_told_15 : decode cX7_told 15 = .ok (.bipush 50, 2) := by decide +kernel
theorem dX7_told_17 : decode cX7_told 17 = .ok (.idiv, 1) := by decide +kernel
theorem dX7_told_18 : decode cX7_told 18 = .ok (.iconst 1, 1) := by decide +kernel
theorem dX7_told_19 : decode cX7_told 19 = .ok (.isub, 1) := by decide +kernel
theorem dX7_told_20 : decode cX7_told 20 = .ok (.istore_n 2, 1) := by decide +kernel
theorem dX7_told_21 : decode cX7_told 21 = .ok (.aload_n 0, 1) := by decide +kernel
theorem dX7_told_22 : decode cX7_told 22 = .ok (.iload_n 2, 1) := by decide +kernel
theorem dX7_told_23 : decode cX7_told 23 = .ok (.invokevirtual 113, 3) := by decide +kernel
theorem dX7_told_26 : decode cX7_told 26 = .ok (.ifCond .eq 15, 3) := by decide +kernel
theorem dX7_told_29 : decode cX7_told 29 = .ok (.aload_n 0, 1) := by decide +kernel
theorem dX7_told_30 : decode cX7_told 30 = .ok (.iload_n 2, 1) := by decide +kernel
theorem dX7_told_31 : decode cX7_told 31 = .ok (.iload_n 1, 1) := by decide +kernel
theorem dX7_told_32 : decode cX7_told 32 = .ok (.bipush 50, 2) := by decide +kernel
theorem dX7_told_34 : decode cX7_told 34 = .ok (.irem, 1) := by decide +kernel
theorem dX7_told_35 : decode cX7_told 35 = .ok (.invokevirtual 329, 3) := by decide +kernel
theorem dX7_told_38 : decode cX7_told 38 = .ok (.goto 5, 3) := by decide +kernel
theorem dX7_told_41 : decode cX7_told 41 = .ok (.bipush (-2), 2) := by decide +kernel
theorem dX7_told_43 : decode cX7_told 43 = .ok (.ireturn, 1) := by decide +kernel
theorem dX7_told_44 : decode cX7_told 44 = .ok (.iload_n 1, 1) := by decide +kernel
theorem dX7_told_45 : decode cX7_told 45 = .ok (.i2l, 1) := by decide +kernel
theorem dX7_told_46 : decode cX7_told 46 = .ok (.ldc2_w 332, 3) := by decide +kernel
theorem dX7_told_49 : decode cX7_told 49 = .ok (.ldc2_w 334, 3) := by decide +kernel
theorem dX7_told_52 : decode cX7_told 52 = .ok (.invokestatic 89, 3) := by decide +kernel
theorem dX7_told_55 : decode cX7_told 55 = .ok (.ifCond .eq 13, 3) := by decide +kernel
theorem dX7_told_58 : decode cX7_told 58 = .ok (.aload_n 0, 1) := by decide +kernel
theorem dX7_told_59 : decode cX7_told 59 = .ok (.getfield 40, 3) := by decide +kernel
theorem dX7_told_62 : decode cX7_told 62 = .ok (.iload_n 1, 1) := by decide +kernel
theorem dX7_told_63 : decode cX7_told 63 = .ok (.bipush 20, 2) := by decide +kernel
theorem dX7_told_65 : decode cX7_told 65 = .ok (.isub, 1) := by decide +kernel
theorem dX7_told_66 : decode cX7_told 66 = .ok (.iaload, 1) := by decide +kernel
theorem dX7_told_67 : decode cX7_told 67 = .ok (.ireturn, 1) := by decide +kernel
theorem dX7_told_68 : decode cX7_told 68 = .ok (.iload_n 1, 1) := by decide +kernel
theorem dX7_told_69 : decode cX7_told 69 = .ok (.i2l, 1) := by decide +kernel
theorem dX7_told_70 : decode cX7_told 70 = .ok (.ldc2_w 235, 3) := by decide +kernel
theorem dX7_told_73 : decode cX7_told 73 = .ok (.ldc2_w 336, 3) := by decide +kernel
theorem dX7_told_76 : decode cX7_told 76 = .ok (.invokestatic 89, 3) := by decide +kernel
theorem dX7_told_79 : decode cX7_told 79 = .ok (.ifCond .eq 13, 3) := by decide +kernel
theorem dX7_told_82 : decode cX7_told 82 = .ok (.aload_n 0, 1) := by decide +kernel
theorem dX7_told_83 : decode cX7_told 83 = .ok (.getfield 34, 3) := by decide +kernel
theorem dX7_told_86 : decode cX7_told 86 = .ok (.iload_n 1, 1) := by decide +kernel
theorem dX7_told_87 : decode cX7_told 87 = .ok (.bipush 10, 2) := by decide +kernel
theorem dX7_told_89 : decode cX7_told 89 = .ok (.isub, 1) := by decide +kernel
theorem dX7_told_90 : decode cX7_told 90 = .ok (.iaload, 1) := by decide +kernel
theorem dX7_told_91 : decode cX7_told 91 = .ok (.ireturn, 1) := by decide +kernel
theorem dX7_told_92 : decode cX7_told 92 = .ok (.iload_n 1, 1) := by decide +kernel
theorem dX7_told_93 : decode cX7_told 93 = .ok (.i2l, 1) := by decide +kernel
theorem dX7_told_94 : decode cX7_told 94 = .ok (.ldc2_w 116, 3) := by decide +kernel
theorem dX7_told_97 : decode cX7_told 97 = .ok (.ldc2_w 230, 3) := by decide +kernel
theorem dX7_told_100 : decode cX7_told 100 = .ok (.invokestatic 89, 3) := by decide +kernel
theorem dX7_told_103 : decode cX7_told 103 = .ok (.ifCond .eq 12, 3) := by decide +kernel
theorem dX7_told_106 : decode cX7_told 106 = .ok (.aload_n 0, 1) := by decide +kernel
theorem dX7_told_107 : decode cX7_told 107 = .ok (.getfield 37, 3) := by decide +kernel
theorem dX7_told_110 : decode cX7_told 110 = .ok (.iload_n 1, 1) := by decide +kernel
theorem dX7_told_111 : decode cX7_told 111 = .ok (.iconst 2, 1) := by decide +kernel
theorem dX7_told_112 : decode cX7_told 112 = .ok (.isub, 1) := by decide +kernel
theorem dX7_told_113 : decode cX7_told 113 = .ok (.iaload, 1) := by decide +kernel
theorem dX7_told_114 : decode cX7_told 114 = .ok (.ireturn, 1) := by decide +kernel
theorem dX7_told_115 : decode cX7_told 115 = .ok (.iload_n 1, 1) := by decide +kernel
theorem dX7_told_116 : decode cX7_told 116 = .ok (.ifCond .ne 10, 3) := by decide +kernel
theorem dX7_told_119 : decode cX7_told 119 = .ok (.aload_n 0, 1) := by decide +kernel
theorem dX7_told_120 : decode cX7_told 120 = .ok (.getfield 135, 3) := by decide +kernel
theorem dX7_told_123 : decode cX7_told 123 = .ok (.goto 42, 3) := by decide +kernel
theorem dX7_told_126 : decode cX7_told 126 = .ok (.iload_n 1, 1) := by decide +kernel
theorem dX7_told_127 : decode cX7_told 127 = .ok (.iconst 1, 1) := by decide +kernel
theorem dX7_told_128 : decode cX7_told 128 = .ok (.if_icmp .ne 10, 3) := by decide +kernel
theorem dX7_told_131 : decode cX7_told 131 = .ok (.aload_n 0, 1) := by decide +kernel
theorem dX7_told_132 : decode cX7_told 132 = .ok (.getfield 97, 3) := by decide +kernel
theorem dX7_told_135 : decode cX7_told 135 = .ok (.goto 30, 3) := by decide +kernel
theorem dX7_told_138 : decode cX7_told 138 = .ok (.iload_n 1, 1) := by decide +kernel
theorem dX7_told_139 : decode cX7_told 139 = .ok (.iconst 5, 1) := by decide +kernel
theorem dX7_told_140 : decode cX7_told 140 = .ok (.if_icmp .ne 10, 3) := by decide +kernel
theorem dX7_told_143 : decode cX7_told 143 = .ok (.aload_n 0, 1) := by decide +kernel
theorem dX7_told_144 : decode cX7_told 144 = .ok (.getfield 173, 3) := by decide +kernel
theorem dX7_told_147 : decode cX7_told 147 = .ok (.goto 18, 3) := by decide +kernel
theorem dX7_told_150 : decode cX7_told 150 = .ok (.iload_n 1, 1) := by decide +kernel
theorem dX7_told_151 : decode cX7_told 151 = .ok (.bipush 6, 2) := by decide +kernel
theorem dX7_told_153 : decode cX7_told 153 = .ok (.if_icmp .ne 10, 3) := by decide +kernel
theorem dX7_told_156 : decode cX7_told 156 = .ok (.aload_n 0, 1) := by decide +kernel
theorem dX7_told_157 : decode cX7_told 157 = .ok (.getfield 285, 3) := by decide +kernel
theorem dX7_told_160 : decode cX7_told 160 = .ok (.goto 5, 3) := by decide +kernel
theorem dX7_told_163 : decode cX7_told 163 = .ok (.bipush (-2), 2) := by decide +kernel
theorem dX7_told_165 : decode cX7_told 165 = .ok (.ireturn, 1) := by decide +kernel
theorem dJ6_bitCount_0f7a4_0 : decode cJ6_bitCount_0f7a4 0 = .ok (.iload_n 0, 1) := by decide +kernel
theorem dJ6_bitCount_0f7a4_1 : decode cJ6_bitCount_0f7a4 1 = .ok (.iload_n 0, 1) := by decide +kernel
theorem dJ6_bitCount_0f7a4_2 : decode cJ6_bitCount_0f7a4 2 = .ok (.iconst 1, 1) := by decide +kernel
theorem dJ6_bitCount_0f7a4_3 : decode cJ6_bitCount_0f7a4 3 = .ok (.iushr, 1) := by decide +kernel
theorem dJ6_bitCount_0f7a4_4 : decode cJ6_bitCount_0f7a4 4 = .ok (.ldc_w 265, 3) := by decide +kernel
theorem dJ6_bitCount_0f7a4_7 : decode cJ6_bitCount_0f7a4 7 = .ok (.iand, 1) := by decide +kernel
theorem dJ6_bitCount_0f7a4_8 : decode cJ6_bitCount_0f7a4 8 = .ok (.isub, 1) := by decide +kernel
theorem dJ6_bitCount_0f7a4_9 : decode cJ6_bitCount_0f7a4 9 = .ok (.istore_n 0, 1) := by decide +kernel
theorem dJ6_bitCount_0f7a4_10 : decode cJ6_bitCount_0f7a4 10 = .ok (.iload_n 0, 1) := by decide +kernel
theorem dJ6_bitCount_0f7a4_11 : decode cJ6_bitCount_0f7a4 11 = .ok (.ldc_w 266, 3) := by decide +kernel
theorem dJ6_bitCount_0f7a4_14 : decode cJ6_bitCount_0f7a4 14 = .ok (.iand, 1) := by decide +kernel
theorem dJ6_bitCount_0f7a4_15 : decode cJ6_bitCount_0f7a4 15 = .ok (.iload_n 0, 1) := by decide +kernel
theorem dJ6_bitCount_0f7a4_16 : decode cJ6_bitCount_0f7a4 16 = .ok (.iconst 2, 1) := by decide +kernel
theorem dJ6_bitCount_0f7a4_17 : decode cJ6_bitCount_0f7a4 17 = .ok (.iushr, 1) := by decide +kernel
theorem dJ6_bitCount_0f7a4_18 : decode cJ6_bitCount_0f7a4 18 = .ok (.ldc_w 266, 3) := by decide +kernel
theorem dJ6_bitCount_0f7a4_21 : decode cJ6_bitCount_0f7a4 21 = .ok (.iand, 1) := by decide +kernel
theorem dJ6_bitCount_0f7a4_22 : decode cJ6_bitCount_0f7a4 22 = .ok (.iadd, 1) := by decide +kernel
theorem dJ6_bitCount_0f7a4_23 : decode cJ6_bitCount_0f7a4 23 = .ok (.istore_n 0, 1) := by decide +kernel
theorem dJ6_bitCount_0f7a4_24 : decode cJ6_bitCount_0f7a4 24 = .ok (.iload_n 0, 1) := by decide +kernel
theorem dJ6_bitCount_0f7a4_25 : decode cJ6_bitCount_0f7a4 25 = .ok (.iload_n 0, 1) := by decide +kernel
theorem dJ6_bitCount_0f7a4_26 : decode cJ6_bitCount_0f7a4 26 = .ok (.iconst 4, 1) := by decide +kernel
theorem dJ6_bitCount_0f7a4_27 : decode cJ6_bitCount_0f7a4 27 = .ok (.iushr, 1) := by decide +kernel
theorem dJ6_bitCount_0f7a4_28 : decode cJ6_bitCount_0f7a4 28 = .ok (.iadd, 1) := by decide +kernel
theorem dJ6_bitCount_0f7a4_29 : decode cJ6_bitCount_0f7a4 29 = .ok (.ldc_w 267, 3) := by decide +kernel
