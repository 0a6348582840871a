theorem dX6_toldOfChild_33 : decode cX6_toldOfChild 33 = .ok (.isub, 1) := by decide +kernel
theorem dX6_toldOfChild_34 : decode cX6_toldOfChild 34 = .ok (.invokevirtual 247, 3) := by decide +kernel
theorem dX6_toldOfChild_37 : decode cX6_toldOfChild 37 = .ok (.ireturn, 1) := by decide +kernel
theorem dX6_toldOfChild_38 : decode cX6_toldOfChild 38 = .ok (.iload_n 2, 1) := by decide +kernel
theorem dX6_toldOfChild_39 : decode cX6_toldOfChild 39 = .ok (.tableswitch 118 0 6 #[41, 51, 61, 71, 88, 98, 108], 41) := by decide +kernel
theorem dX6_toldOfChild_80 : decode cX6_toldOfChild 80 = .ok (.aload_n 0, 1) := by decide +kernel
theorem dX6_toldOfChild_81 : decode cX6_toldOfChild 81 = .ok (.getfield 10, 3) := by decide +kernel
theorem dX6_toldOfChild_84 : decode cX6_toldOfChild 84 = .ok (.getfield 126, 3) := by decide +kernel
theorem dX6_toldOfChild_87 : decode cX6_toldOfChild 87 = .ok (.iload_n 1, 1) := by decide +kernel
theorem dX6_toldOfChild_88 : decode cX6_toldOfChild 88 = .ok (.iaload, 1) := by decide +kernel
theorem dX6_toldOfChild_89 : decode cX6_toldOfChild 89 = .ok (.ireturn, 1) := by decide +kernel
theorem dX6_toldOfChild_90 : decode cX6_toldOfChild 90 = .ok (.aload_n 0, 1) := by decide +kernel
theorem dX6_toldOfChild_91 : decode cX6_toldOfChild 91 = .ok (.getfield 10, 3) := by decide +kernel
theorem dX6_toldOfChild_94 : decode cX6_toldOfChild 94 = .ok (.getfield 129, 3) := by decide +kernel
theorem dX6_toldOfChild_97 : decode cX6_toldOfChild 97 = .ok (.iload_n 1, 1) := by decide +kernel
theorem dX6_toldOfChild_98 : decode cX6_toldOfChild 98 = .ok (.iaload, 1) := by decide +kernel
theorem dX6_toldOfChild_99 : decode cX6_toldOfChild 99 = .ok (.ireturn, 1) := by decide +kernel
theorem dX6_toldOfChild_100 : decode cX6_toldOfChild 100 = .ok (.aload_n 0, 1) := by decide +kernel
theorem dX6_toldOfChild_101 : decode cX6_toldOfChild 101 = .ok (.getfield 10, 3) := by decide +kernel
theorem dX6_toldOfChild_104 : decode cX6_toldOfChild 104 = .ok (.getfield 132, 3) := by decide +kernel
theorem dX6_toldOfChild_107 : decode cX6_toldOfChild 107 = .ok (.iload_n 1, 1) := by decide +kernel
theorem dX6_toldOfChild_108 : decode cX6_toldOfChild 108 = .ok (.iaload, 1) := by decide +kernel
theorem dX6_toldOfChild_109 : decode cX6_toldOfChild 109 = .ok (.ireturn, 1) := by decide +kernel
theorem dX6_toldOfChild_110 : decode cX6_toldOfChild 110 = .ok (.aload_n 0, 1) := by decide +kernel
theorem dX6_toldOfChild_111 : decode cX6_toldOfChild 111 = .ok (.getfield 10, 3) := by decide +kernel
theorem dX6_toldOfChild_114 : decode cX6_toldOfChild 114 = .ok (.iload_n 1, 1) := by decide +kernel
theorem dX6_toldOfChild_115 : decode cX6_toldOfChild 115 = .ok (.invokevirtual 138, 3) := by decide +kernel
theorem dX6_toldOfChild_118 : decode cX6_toldOfChild 118 = .ok (.ifCond .eq 7, 3) := by decide +kernel
theorem dX6_toldOfChild_121 : decode cX6_toldOfChild 121 = .ok (.iconst 1, 1) := by decide +kernel
theorem dX6_toldOfChild_122 : decode cX6_toldOfChild 122 = .ok (.goto 4, 3) := by decide +kernel
theorem dX6_toldOfChild_125 : decode cX6_toldOfChild 125 = .ok (.iconst 0, 1) := by decide +kernel
theorem dX6_toldOfChild_126 : decode cX6_toldOfChild 126 = .ok (.ireturn, 1) := by decide +kernel
theorem dX6_toldOfChild_127 : decode cX6_toldOfChild 127 = .ok (.aload_n 0, 1) := by decide +kernel
theorem dX6_toldOfChild_128 : decode cX6_toldOfChild 128 = .ok (.getfield 10, 3) := by decide +kernel
theorem dX6_toldOfChild_131 : decode cX6_toldOfChild 131 = .ok (.getfield 94, 3) := by decide +kernel
theorem dX6_toldOfChild_134 : decode cX6_toldOfChild 134 = .ok (.iload_n 1, 1) := by decide +kernel
theorem dX6_toldOfChild_135 : decode cX6_toldOfChild 135 = .ok (.iaload, 1) := by decide +kernel
theorem dX6_toldOfChild_136 : decode cX6_toldOfChild 136 = .ok (.ireturn, 1) := by decide +kernel
theorem dX6_toldOfChild_137 : decode cX6_toldOfChild 137 = .ok (.aload_n 0, 1) := by decide +kernel
theorem dX6_toldOfChild_138 : decode cX6_toldOfChild 138 = .ok (.getfield 10, 3) := by decide +kernel
theorem dX6_toldOfChild_141 : decode cX6_toldOfChild 141 = .ok (.getfield 97, 3) := by decide +kernel
theorem dX6_toldOfChild_144 : decode cX6_toldOfChild 144 = .ok (.iload_n 1, 1) := by decide +kernel
theorem dX6_toldOfChild_145 : decode cX6_toldOfChild 145 = .ok (.iaload, 1) := by decide +kernel
theorem dX6_toldOfChild_146 : decode cX6_toldOfChild 146 = .ok (.ireturn, 1) := by decide +kernel
theorem dX6_toldOfChild_147 : decode cX6_toldOfChild 147 = .ok (.aload_n 0, 1) := by decide +kernel
theorem dX6_toldOfChild_148 : decode cX6_toldOfChild 148 = .ok (.getfield 10, 3) := by decide +kernel
theorem dX6_toldOfChild_151 : decode cX6_toldOfChild 151 = .ok (.getfield 91, 3) := by decide +kernel
theorem dX6_toldOfChild_154 : decode cX6_toldOfChild 154 = .ok (.iload_n 1, 1) := by decide +kernel
theorem dX6_toldOfChild_155 : decode cX6_toldOfChild 155 = .ok (.iaload, 1) := by decide +kernel
theorem dX6_toldOfChild_156 : decode cX6_toldOfChild 156 = .ok (.ireturn, 1) := by decide +kernel
theorem dX6_toldOfChild_157 : decode cX6_toldOfChild 157 = .ok (.bipush (-2), 2) := by decide +kernel
theorem dX6_toldOfChild_159 : decode cX6_toldOfChild 159 = .ok (.ireturn, 1) := by decide +kernel
theorem dX6_refusalOfYears_0 : decode cX6_refusalOfYears 0 = .ok (.aload_n 0, 1) := by decide +kernel
theorem dX6_refusalOfYears_1 : decode cX6_refusalOfYears 1 = .ok (.getfield 26, 3) := by decide +kernel
theorem dX6_refusalOfYears_4 : decode cX6_refusalOfYears 4 = .ok (.invokevirtual 110, 3) := by decide +kernel
theorem dX6_refusalOfYears_7 : decode cX6_refusalOfYears 7 = .ok (.bipush (-6), 2) := by decide +kernel
theorem dX6_refusalOfYears_9 : decode cX6_refusalOfYears 9 = .ok (.if_icmp .eq 6, 3) := by decide +kernel
theorem dX6_refusalOfYears_12 : decode cX6_refusalOfYears 12 = .ok (.bipush (-5), 2) := by decide +kernel
theorem dX6_refusalOfYears_14 : decode cX6_refusalOfYears 14 = .ok (.ireturn, 1) := by decide +kernel
theorem dX6_refusalOfYears_15 : decode cX6_refusalOfYears 15 = .ok (.aload_n 0, 1) := by decide +kernel
theorem dX6_refusalOfYears_16 : decode cX6_refusalOfYears 16 = .ok (.getfield 16, 3) := by decide +kernel
theorem dX6_refusalOfYears_19 : decode cX6_refusalOfYears 19 = .ok (.aload_n 0, 1) := by decide +kernel
theorem dX6_refusalOfYears_20 : decode cX6_refusalOfYears 20 = .ok (.getfield 10, 3) := by decide +kernel
theorem dX6_refusalOfYears_23 : decode cX6_refusalOfYears 23 = .ok (.invokevirtual 151, 3) := by decide +kernel
theorem dX6_refusalOfYears_26 : decode cX6_refusalOfYears 26 = .ok (.aload_n 0, 1) := by decide +kernel
theorem dX6_refusalOfYears_27 : decode cX6_refusalOfYears 27 = .ok (.getfield 33, 3) := by decide +kernel
theorem dX6_refusalOfYears_30 : decode cX6_refusalOfYears 30 = .ok (.aload_n 0, 1) := by decide +kernel
theorem dX6_refusalOfYears_31 : decode cX6_refusalOfYears 31 = .ok (.getfield 26, 3) := by decide +kernel
theorem dX6_refusalOfYears_34 : decode cX6_refusalOfYears 34 = .ok (.aload_n 0, 1) := by decide +kernel
theorem dX6_refusalOfYears_35 : decode cX6_refusalOfYears 35 = .ok (.getfield 16, 3) := by decide +kernel
theorem dX6_refusalOfYears_38 : decode cX6_refusalOfYears 38 = .ok (.invokevirtual 250, 3) := by decide +kernel
theorem dX6_refusalOfYears_41 : decode cX6_refusalOfYears 41 = .ok (.aload_n 0, 1) := by decide +kernel
theorem dX6_refusalOfYears_42 : decode cX6_refusalOfYears 42 = .ok (.getfield 33, 3) := by decide +kernel
theorem dX6_refusalOfYears_45 : decode cX6_refusalOfYears 45 = .ok (.getfield 117, 3) := by decide +kernel
theorem dX6_refusalOfYears_48 : decode cX6_refusalOfYears 48 = .ok (.bipush (-6), 2) := by decide +kernel
theorem dX6_refusalOfYears_50 : decode cX6_refusalOfYears 50 = .ok (.if_icmp .ne 7, 3) := by decide +kernel
theorem dX6_refusalOfYears_53 : decode cX6_refusalOfYears 53 = .ok (.iconst 0, 1) := by decide +kernel
theorem dX6_refusalOfYears_54 : decode cX6_refusalOfYears 54 = .ok (.goto 5, 3) := by decide +kernel
theorem dX6_refusalOfYears_57 : decode cX6_refusalOfYears 57 = .ok (.bipush (-3), 2) := by decide +kernel
theorem dX6_refusalOfYears_59 : decode cX6_refusalOfYears 59 = .ok (.ireturn, 1) := by decide +kernel
theorem dX6_firstDay_0 : decode cX6_firstDay 0 = .ok (.iconst 0, 1) := by decide +kernel
theorem dX6_firstDay_1 : decode cX6_firstDay 1 = .ok (.istore 5, 2) := by decide +kernel
theorem dX6_firstDay_3 : decode cX6_firstDay 3 = .ok (.iload 5, 2) := by decide +kernel
theorem dX6_firstDay_5 : decode cX6_firstDay 5 = .ok (.bipush 12, 2) := by decide +kernel
theorem dX6_firstDay_7 : decode cX6_firstDay 7 = .ok (.if_icmp .ge 63, 3) := by decide +kernel
theorem dX6_firstDay_10 : decode cX6_firstDay 10 = .ok (.aload_n 0, 1) := by decide +kernel
theorem dX6_firstDay_11 : decode cX6_firstDay 11 = .ok (.getfield 10, 3) := by decide +kernel
theorem dX6_firstDay_14 : decode cX6_firstDay 14 = .ok (.getfield 91, 3) := by decide +kernel
theorem dX6_firstDay_17 : decode cX6_firstDay 17 = .ok (.iload_n 1, 1) := by decide +kernel
theorem dX6_firstDay_18 : decode cX6_firstDay 18 = .ok (.iaload, 1) := by decide +kernel
theorem dX6_firstDay_19 : decode cX6_firstDay 19 = .ok (.iload_n 3, 1) := by decide +kernel
theorem dX6_firstDay_20 : decode cX6_firstDay 20 = .ok (.iconst (-1), 1) := by decide +kernel
theorem dX6_firstDay_21 : decode cX6_firstDay 21 = .ok (.ixor, 1) := by decide +kernel
theorem dX6_firstDay_22 : decode cX6_firstDay 22 = .ok (.iand, 1) := by decide +kernel
theorem dX6_firstDay_23 : decode cX6_firstDay 23 = .ok (.iconst 1, 1) := by decide +kernel
theorem dX6_firstDay_24 : decode cX6_firstDay 24 = .ok (.iload 5, 2) := by decide +kernel
theorem dX6_firstDay_26 : decode cX6_firstDay 26 = .ok (.ishl, 1) := by decide +kernel
theorem dX6_firstDay_27 : decode cX6_firstDay 27 = .ok (.iand, 1) := by decide +kernel
theorem dX6_firstDay_28 : decode cX6_firstDay 28 = .ok (.ifCond .eq 7, 3) := by decide +kernel
theorem dX6_firstDay_31 : decode cX6_firstDay 31 = .ok (.iconst 1, 1) := by decide +kernel
theorem dX6_firstDay_32 : decode cX6_firstDay 32 = .ok (.goto 4, 3) := by decide +kernel
theorem dX6_firstDay_35 : decode cX6_firstDay 35 = .ok (.iconst 0, 1) := by decide +kernel
theorem dX6_firstDay_36 : decode cX6_firstDay 36 = .ok (.istore 6, 2) := by decide +kernel
theorem dX6_firstDay_38 : decode cX6_firstDay 38 = .ok (.iload 6, 2) := by decide +kernel
theorem dX6_firstDay_40 : decode cX6_firstDay 40 = .ok (.ifCond .eq 24, 3) := by decide +kernel
theorem dX6_firstDay_43 : decode cX6_firstDay 43 = .ok (.aload_n 0, 1) := by decide +kernel
theorem dX6_firstDay_44 : decode cX6_firstDay 44 = .ok (.iload_n 2, 1) := by decide +kernel
theorem dX6_firstDay_45 : decode cX6_firstDay 45 = .ok (.iload_n 3, 1) := by decide +kernel
theorem dX6_firstDay_46 : decode cX6_firstDay 46 = .ok (.iconst 1, 1) := by decide +kernel
theorem dX6_firstDay_47 : decode cX6_firstDay 47 = .ok (.iload 5, 2) := by decide +kernel
theorem dX6_firstDay_49 : decode cX6_firstDay 49 = .ok (.ishl, 1) := by decide +kernel
theorem dX6_firstDay_50 : decode cX6_firstDay 50 = .ok (.ior, 1) := by decide +kernel
theorem dX6_firstDay_51 : decode cX6_firstDay 51 = .ok (.invokevirtual 192, 3) := by decide +kernel
theorem dX6_firstDay_54 : decode cX6_firstDay 54 = .ok (.iload 4, 2) := by decide +kernel
theorem dX6_firstDay_56 : decode cX6_firstDay 56 = .ok (.iconst 1, 1) := by decide +kernel
theorem dX6_firstDay_57 : decode cX6_firstDay 57 = .ok (.isub, 1) := by decide +kernel
theorem dX6_firstDay_58 : decode cX6_firstDay 58 = .ok (.if_icmp .ne 6, 3) := by decide +kernel
theorem dX6_firstDay_61 : decode cX6_firstDay 61 = .ok (.iload 5, 2) := by decide +kernel
theorem dX6_firstDay_63 : decode cX6_firstDay 63 = .ok (.ireturn, 1) := by decide +kernel
theorem dX6_firstDay_64 : decode cX6_firstDay 64 = .ok (.iinc 5 1, 3) := by decide +kernel
theorem dX6_firstDay_67 : decode cX6_firstDay 67 = .ok (.goto (-64), 3) := by decide +kernel
theorem dX6_firstDay_70 : decode cX6_firstDay 70 = .ok (.bipush (-6), 2) := by decide +kernel
theorem dX6_firstDay_72 : decode cX6_firstDay 72 = .ok (.ireturn, 1) := by decide +kernel
theorem dX6_mostWithDays_0 : decode cX6_mostWithDays 0 = .ok (.iconst 0, 1) := by decide +kernel
theorem dX6_mostWithDays_1 : decode cX6_mostWithDays 1 = .ok (.istore_n 3, 1) := by decide +kernel
theorem dX6_mostWithDays_2 : decode cX6_mostWithDays 2 = .ok (.iconst 0, 1) := by decide +kernel
theorem dX6_mostWithDays_3 : decode cX6_mostWithDays 3 = .ok (.istore 4, 2) := by decide +kernel
theorem dX6_mostWithDays_5 : decode cX6_mostWithDays 5 = .ok (.iload 4, 2) := by decide +kernel
theorem dX6_mostWithDays_7 : decode cX6_mostWithDays 7 = .ok (.bipush 64, 2) := by decide +kernel
theorem dX6_mostWithDays_9 : decode cX6_mostWithDays 9 = .ok (.if_icmp .ge 52, 3) := by decide +kernel
theorem dX6_mostWithDays_12 : decode cX6_mostWithDays 12 = .ok (.iload 4, 2) := by decide +kernel
theorem dX6_mostWithDays_14 : decode cX6_mostWithDays 14 = .ok (.iload_n 1, 1) := by decide +kernel
theorem dX6_mostWithDays_15 : decode cX6_mostWithDays 15 = .ok (.iconst (-1), 1) := by decide +kernel
theorem dX6_mostWithDays_16 : decode cX6_mostWithDays 16 = .ok (.ixor, 1) := by decide +kernel
theorem dX6_mostWithDays_17 : decode cX6_mostWithDays 17 = .ok (.iand, 1) := by decide +kernel
theorem dX6_mostWithDays_18 : decode cX6_mostWithDays 18 = .ok (.ifCond .ne 37, 3) := by decide +kernel
theorem dX6_mostWithDays_21 : decode cX6_mostWithDays 21 = .ok (.iload 4, 2) := by decide +kernel
theorem dX6_mostWithDays_23 : decode cX6_mostWithDays 23 = .ok (.aload_n 0, 1) := by decide +kernel
theorem dX6_mostWithDays_24 : decode cX6_mostWithDays 24 = .ok (.getfield 10, 3) := by decide +kernel
theorem dX6_mostWithDays_27 : decode cX6_mostWithDays 27 = .ok (.getfield 91, 3) := by decide +kernel
theorem dX6_mostWithDays_30 : decode cX6_mostWithDays 30 = .ok (.invokestatic 189, 3) := by decide +kernel
theorem dX6_mostWithDays_33 : decode cX6_mostWithDays 33 = .ok (.iload_n 2, 1) := by decide +kernel
theorem dX6_mostWithDays_34 : decode cX6_mostWithDays 34 = .ok (.iconst (-1), 1) := by decide +kernel
theorem dX6_mostWithDays_35 : decode cX6_mostWithDays 35 = .ok (.ixor, 1) := by decide +kernel
theorem dX6_mostWithDays_36 : decode cX6_mostWithDays 36 = .ok (.iand, 1) := by decide +kernel
theorem dX6_mostWithDays_37 : decode cX6_mostWithDays 37 = .ok (.istore 5, 2) := by decide +kernel
theorem dX6_mostWithDays_39 : decode cX6_mostWithDays 39 = .ok (.iload_n 3, 1) := by decide +kernel
theorem dX6_mostWithDays_40 : decode cX6_mostWithDays 40 = .ok (.iload 4, 2) := by decide +kernel
theorem dX6_mostWithDays_42 : decode cX6_mostWithDays 42 = .ok (.invokestatic 70, 3) := by decide +kernel
theorem dX6_mostWithDays_45 : decode cX6_mostWithDays 45 = .ok (.iload 5, 2) := by decide +kernel
theorem dX6_mostWithDays_47 : decode cX6_mostWithDays 47 = .ok (.invokestatic 70, 3) := by decide +kernel
theorem dX6_mostWithDays_50 : decode cX6_mostWithDays 50 = .ok (.isub, 1) := by decide +kernel
theorem dX6_mostWithDays_51 : decode cX6_mostWithDays 51 = .ok (.invokestatic 161, 3) := by decide +kernel
theorem dX6_mostWithDays_54 : decode cX6_mostWithDays 54 = .ok (.istore_n 3, 1) := by decide +kernel
theorem dX6_mostWithDays_55 : decode cX6_mostWithDays 55 = .ok (.iinc 4 1, 3) := by decide +kernel
theorem dX6_mostWithDays_58 : decode cX6_mostWithDays 58 = .ok (.goto (-53), 3) := by decide +kernel
theorem dX6_mostWithDays_61 : decode cX6_mostWithDays 61 = .ok (.iload_n 1, 1) := by decide +kernel
theorem dX6_mostWithDays_62 : decode cX6_mostWithDays 62 = .ok (.invokestatic 70, 3) := by decide +kernel
theorem dX6_mostWithDays_65 : decode cX6_mostWithDays 65 = .ok (.iload_n 3, 1) := by decide +kernel
theorem dX6_mostWithDays_66 : decode cX6_mostWithDays 66 = .ok (.isub, 1) := by decide +kernel
theorem dX6_mostWithDays_67 : decode cX6_mostWithDays 67 = .ok (.ireturn, 1) := by decide +kernel
theorem dX6_endsAsSaint_0 : decode cX6_endsAsSaint 0 = .ok (.iload 4, 2) := by decide +kernel
theorem dX6_endsAsSaint_2 : decode cX6_endsAsSaint 2 = .ok (.ifCond .le 10, 3) := by decide +kernel
theorem dX6_endsAsSaint_5 : decode cX6_endsAsSaint 5 = .ok (.iload 4, 2) := by decide +kernel
theorem dX6_endsAsSaint_7 : decode cX6_endsAsSaint 7 = .ok (.bipush 12, 2) := by decide +kernel
theorem dX6_endsAsSaint_9 : decode cX6_endsAsSaint 9 = .ok (.if_icmp .le 11, 3) := by decide +kernel
theorem dX6_endsAsSaint_12 : decode cX6_endsAsSaint 12 = .ok (.aload_n 0, 1) := by decide +kernel
theorem dX6_endsAsSaint_13 : decode cX6_endsAsSaint 13 = .ok (.iload_n 1, 1) := by decide +kernel
theorem dX6_endsAsSaint_14 : decode cX6_endsAsSaint 14 = .ok (.iload_n 2, 1) := by decide +kernel
theorem dX6_endsAsSaint_15 : decode cX6_endsAsSaint 15 = .ok (.iload_n 3, 1) := by decide +kernel
theorem dX6_endsAsSaint_16 : decode cX6_endsAsSaint 16 = .ok (.invokevirtual 253, 3) := by decide +kernel
theorem dX6_endsAsSaint_19 : decode cX6_endsAsSaint 19 = .ok (.ireturn, 1) := by decide +kernel
theorem dX6_endsAsSaint_20 : decode cX6_endsAsSaint 20 = .ok (.iload 5, 2) := by decide +kernel
theorem dX6_endsAsSaint_22 : decode cX6_endsAsSaint 22 = .ok (.ifCond .eq 47, 3) := by decide +kernel
theorem dX6_endsAsSaint_25 : decode cX6_endsAsSaint 25 = .ok (.aload_n 0, 1) := by decide +kernel
theorem dX6_endsAsSaint_26 : decode cX6_endsAsSaint 26 = .ok (.iload_n 1, 1) := by decide +kernel
theorem dX6_endsAsSaint_27 : decode cX6_endsAsSaint 27 = .ok (.iload_n 2, 1) := by decide +kernel
theorem dX6_endsAsSaint_28 : decode cX6_endsAsSaint 28 = .ok (.iconst 1, 1) := by decide +kernel
theorem dX6_endsAsSaint_29 : decode cX6_endsAsSaint 29 = .ok (.iadd, 1) := by decide +kernel
theorem dX6_endsAsSaint_30 : decode cX6_endsAsSaint 30 = .ok (.iload_n 3, 1) := by decide +kernel
theorem dX6_endsAsSaint_31 : decode cX6_endsAsSaint 31 = .ok (.iload 4, 2) := by decide +kernel
theorem dX6_endsAsSaint_33 : decode cX6_endsAsSaint 33 = .ok (.iconst 1, 1) := by decide +kernel
theorem dX6_endsAsSaint_34 : decode cX6_endsAsSaint 34 = .ok (.isub, 1) := by decide +kernel
theorem dX6_endsAsSaint_35 : decode cX6_endsAsSaint 35 = .ok (.iconst 0, 1) := by decide +kernel
theorem dX6_endsAsSaint_36 : decode cX6_endsAsSaint 36 = .ok (.invokestatic 199, 3) := by decide +kernel
theorem dX6_endsAsSaint_39 : decode cX6_endsAsSaint 39 = .ok (.ifCond .ne 24, 3) := by decide +kernel
theorem dX6_endsAsSaint_42 : decode cX6_endsAsSaint 42 = .ok (.iload_n 3, 1) := by decide +kernel
theorem dX6_endsAsSaint_43 : decode cX6_endsAsSaint 43 = .ok (.ifCond .le 24, 3) := by decide +kernel
theorem dX6_endsAsSaint_46 : decode cX6_endsAsSaint 46 = .ok (.aload_n 0, 1) := by decide +kernel
theorem dX6_endsAsSaint_47 : decode cX6_endsAsSaint 47 = .ok (.iload_n 1, 1) := by decide +kernel
theorem dX6_endsAsSaint_48 : decode cX6_endsAsSaint 48 = .ok (.iload_n 2, 1) := by decide +kernel
theorem dX6_endsAsSaint_49 : decode cX6_endsAsSaint 49 = .ok (.iload_n 3, 1) := by decide +kernel
theorem dX6_endsAsSaint_50 : decode cX6_endsAsSaint 50 = .ok (.iconst 1, 1) := by decide +kernel
theorem dX6_endsAsSaint_51 : decode cX6_endsAsSaint 51 = .ok (.isub, 1) := by decide +kernel
theorem dX6_endsAsSaint_52 : decode cX6_endsAsSaint 52 = .ok (.iload 4, 2) := by decide +kernel
theorem dX6_endsAsSaint_54 : decode cX6_endsAsSaint 54 = .ok (.iconst 1, 1) := by decide +kernel
theorem dX6_endsAsSaint_55 : decode cX6_endsAsSaint 55 = .ok (.isub, 1) := by decide +kernel
theorem dX6_endsAsSaint_56 : decode cX6_endsAsSaint 56 = .ok (.iconst 0, 1) := by decide +kernel
theorem dX6_endsAsSaint_57 : decode cX6_endsAsSaint 57 = .ok (.invokestatic 199, 3) := by decide +kernel
theorem dX6_endsAsSaint_60 : decode cX6_endsAsSaint 60 = .ok (.ifCond .eq 7, 3) := by decide +kernel
theorem dX6_endsAsSaint_63 : decode cX6_endsAsSaint 63 = .ok (.iconst 1, 1) := by decide +kernel
theorem dX6_endsAsSaint_64 : decode cX6_endsAsSaint 64 = .ok (.goto 4, 3) := by decide +kernel
theorem dX6_endsAsSaint_67 : decode cX6_endsAsSaint 67 = .ok (.iconst 0, 1) := by decide +kernel
theorem dX6_endsAsSaint_68 : decode cX6_endsAsSaint 68 = .ok (.ireturn, 1) := by decide +kernel
theorem dX6_endsAsSaint_69 : decode cX6_endsAsSaint 69 = .ok (.aload_n 0, 1) := by decide +kernel
theorem dX6_endsAsSaint_70 : decode cX6_endsAsSaint 70 = .ok (.iload_n 1, 1) := by decide +kernel
theorem dX6_endsAsSaint_71 : decode cX6_endsAsSaint 71 = .ok (.iload_n 2, 1) := by decide +kernel
theorem dX6_endsAsSaint_72 : decode cX6_endsAsSaint 72 = .ok (.iload_n 3, 1) := by decide +kernel
theorem dX6_endsAsSaint_73 : decode cX6_endsAsSaint 73 = .ok (.iconst 1, 1) := by decide +kernel
theorem dX6_endsAsSaint_74 : decode cX6_endsAsSaint 74 = .ok (.iadd, 1) := by decide +kernel
theorem dX6_endsAsSaint_75 : decode cX6_endsAsSaint 75 = .ok (.iload 4, 2) := by decide +kernel
theorem dX6_endsAsSaint_77 : decode cX6_endsAsSaint 77 = .ok (.iconst 1, 1) := by decide +kernel
theorem dX6_endsAsSaint_78 : decode cX6_endsAsSaint 78 = .ok (.isub, 1) := by decide +kernel
theorem dX6_endsAsSaint_79 : decode cX6_endsAsSaint 79 = .ok (.iconst 1, 1) := by decide +kernel
theorem dX6_endsAsSaint_80 : decode cX6_endsAsSaint 80 = .ok (.invokestatic 199, 3) := by decide +kernel
theorem dX6_endsAsSaint_83 : decode cX6_endsAsSaint 83 = .ok (.ifCond .eq 28, 3) := by decide +kernel
theorem dX6_endsAsSaint_86 : decode cX6_endsAsSaint 86 = .ok (.iload_n 2, 1) := by decide +kernel
theorem dX6_endsAsSaint_87 : decode cX6_endsAsSaint 87 = .ok (.ifCond .le 20, 3) := by decide +kernel
theorem dX6_endsAsSaint_90 : decode cX6_endsAsSaint 90 = .ok (.aload_n 0, 1) := by decide +kernel
theorem dX6_endsAsSaint_91 : decode cX6_endsAsSaint 91 = .ok (.iload_n 1, 1) := by decide +kernel
theorem dX6_endsAsSaint_92 : decode cX6_endsAsSaint 92 = .ok (.iload_n 2, 1) := by decide +kernel
theorem dX6_endsAsSaint_93 : decode cX6_endsAsSaint 93 = .ok (.iconst 1, 1) := by decide +kernel
theorem dX6_endsAsSaint_94 : decode cX6_endsAsSaint 94 = .ok (.isub, 1) := by decide +kernel
theorem dX6_endsAsSaint_95 : decode cX6_endsAsSaint 95 = .ok (.iload_n 3, 1) := by decide +kernel
theorem dX6_endsAsSaint_96 : decode cX6_endsAsSaint 96 = .ok (.iload 4, 2) := by decide +kernel
theorem dX6_endsAsSaint_98 : decode cX6_endsAsSaint 98 = .ok (.iconst 1, 1) := by decide +kernel
theorem dX6_endsAsSaint_99 : decode cX6_endsAsSaint 99 = .ok (.isub, 1) := by decide +kernel
theorem dX6_endsAsSaint_100 : decode cX6_endsAsSaint 100 = .ok (.iconst 1, 1) := by decide +kernel
theorem dX6_endsAsSaint_101 : decode cX6_endsAsSaint 101 = .ok (.invokestatic 199, 3) := by decide +kernel
theorem dX6_endsAsSaint_104 : decode cX6_endsAsSaint 104 = .ok (.ifCond .eq 7, 3) := by decide +kernel
theorem dX6_endsAsSaint_107 : decode cX6_endsAsSaint 107 = .ok (.iconst 1, 1) := by decide +kernel
theorem dX6_endsAsSaint_108 : decode cX6_endsAsSaint 108 = .ok (.goto 4, 3) := by decide +kernel
theorem dX6_endsAsSaint_111 : decode cX6_endsAsSaint 111 = .ok (.iconst 0, 1) := by decide +kernel
theorem dX6_endsAsSaint_112 : decode cX6_endsAsSaint 112 = .ok (.ireturn, 1) := by decide +kernel
theorem dX6_within_0 : decode cX6_within 0 = .ok (.iload_n 0, 1) := by decide +kernel
theorem dX6_within_1 : decode cX6_within 1 = .ok (.iload_n 1, 1) := by decide +kernel
theorem dX6_within_2 : decode cX6_within 2 = .ok (.if_icmp .lt 12, 3) := by decide +kernel
theorem dX6_within_5 : decode cX6_within 5 = .ok (.iload_n 0, 1) := by decide +kernel
theorem dX6_within_6 : decode cX6_within 6 = .ok (.iload_n 2, 1) := by decide +kernel
theorem dX6_within_7 : decode cX6_within 7 = .ok (.if_icmp .gt 7, 3) := by decide +kernel
theorem dX6_within_10 : decode cX6_within 10 = .ok (.iconst 1, 1) := by decide +kernel
theorem dX6_within_11 : decode cX6_within 11 = .ok (.goto 4, 3) := by decide +kernel
theorem dX6_within_14 : decode cX6_within 14 = .ok (.iconst 0, 1) := by decide +kernel
theorem dX6_within_15 : decode cX6_within 15 = .ok (.ireturn, 1) := by decide +kernel
theorem dX6_sumOver_0 : decode cX6_sumOver 0 = .ok (.iconst 0, 1) := by decide +kernel
theorem dX6_sumOver_1 : decode cX6_sumOver 1 = .ok (.istore_n 2, 1) := by decide +kernel
theorem dX6_sumOver_2 : decode cX6_sumOver 2 = .ok (.iconst 0, 1) := by decide +kernel
theorem dX6_sumOver_3 : decode cX6_sumOver 3 = .ok (.istore_n 3, 1) := by decide +kernel
theorem dX6_sumOver_4 : decode cX6_sumOver 4 = .ok (.iload_n 3, 1) := by decide +kernel
theorem dX6_sumOver_5 : decode cX6_sumOver 5 = .ok (.aload_n 1, 1) := by decide +kernel
theorem dX6_sumOver_6 : decode cX6_sumOver 6 = .ok (.arraylength, 1) := by decide +kernel
theorem dX6_sumOver_7 : decode cX6_sumOver 7 = .ok (.if_icmp .ge 23, 3) := by decide +kernel
theorem dX6_sumOver_10 : decode cX6_sumOver 10 = .ok (.iload_n 0, 1) := by decide +kernel
theorem dX6_sumOver_11 : decode cX6_sumOver 11 = .ok (.iload_n 3, 1) := by decide +kernel
theorem dX6_sumOver_12 : decode cX6_sumOver 12 = .ok (.ishr, 1) := by decide +kernel
theorem dX6_sumOver_13 : decode cX6_sumOver 13 = .ok (.iconst 1, 1) := by decide +kernel
theorem dX6_sumOver_14 : decode cX6_sumOver 14 = .ok (.iand, 1) := by decide +kernel
theorem dX6_sumOver_15 : decode cX6_sumOver 15 = .ok (.ifCond .eq 9, 3) := by decide +kernel
theorem dX6_sumOver_18 : decode cX6_sumOver 18 = .ok (.iload_n 2, 1) := by decide +kernel
theorem dX6_sumOver_19 : decode cX6_sumOver 19 = .ok (.aload_n 1, 1) := by decide +kernel
theorem dX6_sumOver_20 : decode cX6_sumOver 20 = .ok (.iload_n 3, 1) := by decide +kernel
theorem dX6_sumOver_21 : decode cX6_sumOver 21 = .ok (.iaload, 1) := by decide +kernel
theorem dX6_sumOver_22 : decode cX6_sumOver 22 = .ok (.iadd, 1) := by decide +kernel
theorem dX6_sumOver_23 : decode cX6_sumOver 23 = .ok (.istore_n 2, 1) := by decide +kernel
theorem dX6_sumOver_24 : decode cX6_sumOver 24 = .ok (.iinc 3 1, 3) := by decide +kernel
theorem dX6_sumOver_27 : decode cX6_sumOver 27 = .ok (.goto (-23), 3) := by decide +kernel
theorem dX6_sumOver_30 : decode cX6_sumOver 30 = .ok (.iload_n 2, 1) := by decide +kernel
theorem dX6_sumOver_31 : decode cX6_sumOver 31 = .ok (.ireturn, 1) := by decide +kernel
theorem dX6_unionOver_0 : decode cX6_unionOver 0 = .ok (.iconst 0, 1) := by decide +kernel
theorem dX6_unionOver_1 : decode cX6_unionOver 1 = .ok (.istore_n 2, 1) := by decide +kernel
theorem dX6_unionOver_2 : decode cX6_unionOver 2 = .ok (.iconst 0, 1) := by decide +kernel
theorem dX6_unionOver_3 : decode cX6_unionOver 3 = .ok (.istore_n 3, 1) := by decide +kernel
theorem dX6_unionOver_4 : decode cX6_unionOver 4 = .ok (.iload_n 3, 1) := by decide +kernel
theorem dX6_unionOver_5 : decode cX6_unionOver 5 = .ok (.aload_n 1, 1) := by decide +kernel
theorem dX6_unionOver_6 : decode cX6_unionOver 6 = .ok (.arraylength, 1) := by decide +kernel
theorem dX6_unionOver_7 : decode cX6_unionOver 7 = .ok (.if_icmp .ge 23, 3) := by decide +kernel
theorem dX6_unionOver_10 : decode cX6_unionOver 10 = .ok (.iload_n 0, 1) := by decide +kernel
theorem dX6_unionOver_11 : decode cX6_unionOver 11 = .ok (.iload_n 3, 1) := by decide +kernel
theorem dX6_unionOver_12 : decode cX6_unionOver 12 = .ok (.ishr, 1) := by decide +kernel
theorem dX6_unionOver_13 : decode cX6_unionOver 13 = .ok (.iconst 1, 1) := by decide +kernel
theorem dX6_unionOver_14 : decode cX6_unionOver 14 = .ok (.iand, 1) := by decide +kernel
theorem dX6_unionOver_15 : decode cX6_unionOver 15 = .ok (.ifCond .eq 9, 3) := by decide +kernel
theorem dX6_unionOver_18 : decode cX6_unionOver 18 = .ok (.iload_n 2, 1) := by decide +kernel
theorem dX6_unionOver_19 : decode cX6_unionOver 19 = .ok (.aload_n 1, 1) := by decide +kernel
theorem dX6_unionOver_20 : decode cX6_unionOver 20 = .ok (.iload_n 3, 1) := by decide +kernel
theorem dX6_unionOver_21 : decode cX6_unionOver 21 = .ok (.iaload, 1) := by decide +kernel
theorem dX6_unionOver_22 : decode cX6_unionOver 22 = .ok (.ior, 1) := by decide +kernel
theorem dX6_unionOver_23 : decode cX6_unionOver 23 = .ok (.istore_n 2, 1) := by decide +kernel
theorem dX6_unionOver_24 : decode cX6_unionOver 24 = .ok (.iinc 3 1, 3) := by decide +kernel
theorem dX6_unionOver_27 : decode cX6_unionOver 27 = .ok (.goto (-23), 3) := by decide +kernel
theorem dX6_unionOver_30 : decode cX6_unionOver 30 = .ok (.iload_n 2, 1) := by decide +kernel
theorem dX6_unionOver_31 : decode cX6_unionOver 31 = .ok (.ireturn, 1) := by decide +kernel
theorem dX6_commonDivisor_0 : decode cX6_commonDivisor 0 = .ok (.lload_n 0, 1) := by decide +kernel
theorem dX6_commonDivisor_1 : decode cX6_commonDivisor 1 = .ok (.lstore 4, 2) := by decide +kernel
theorem dX6_commonDivisor_3 : decode cX6_commonDivisor 3 = .ok (.lload_n 2, 1) := by decide +kernel
theorem dX6_commonDivisor_4 : decode cX6_commonDivisor 4 = .ok (.lstore 6, 2) := by decide +kernel
theorem dX6_commonDivisor_6 : decode cX6_commonDivisor 6 = .ok (.iconst 0, 1) := by decide +kernel
theorem dX6_commonDivisor_7 : decode cX6_commonDivisor 7 = .ok (.istore 8, 2) := by decide +kernel
theorem dX6_commonDivisor_9 : decode cX6_commonDivisor 9 = .ok (.iload 8, 2) := by decide +kernel
theorem dX6_commonDivisor_11 : decode cX6_commonDivisor 11 = .ok (.bipush 100, 2) := by decide +kernel
theorem dX6_commonDivisor_13 : decode cX6_commonDivisor 13 = .ok (.if_icmp .ge 31, 3) := by decide +kernel
theorem dX6_commonDivisor_16 : decode cX6_commonDivisor 16 = .ok (.lload 6, 2) := by decide +kernel
theorem dX6_commonDivisor_18 : decode cX6_commonDivisor 18 = .ok (.lconst 0, 1) := by decide +kernel
theorem dX6_commonDivisor_19 : decode cX6_commonDivisor 19 = .ok (.lcmp, 1) := by decide +kernel
theorem dX6_commonDivisor_20 : decode cX6_commonDivisor 20 = .ok (.ifCond .eq 24, 3) := by decide +kernel
theorem dX6_commonDivisor_23 : decode cX6_commonDivisor 23 = .ok (.lload 4, 2) := by decide +kernel
theorem dX6_commonDivisor_25 : decode cX6_commonDivisor 25 = .ok (.lload 6, 2) := by decide +kernel
theorem dX6_commonDivisor_27 : decode cX6_commonDivisor 27 = .ok (.lrem, 1) := by decide +kernel
theorem dX6_commonDivisor_28 : decode cX6_commonDivisor 28 = .ok (.lstore 9, 2) := by decide +kernel
theorem dX6_commonDivisor_30 : decode cX6_commonDivisor 30 = .ok (.lload 6, 2) := by decide +kernel
theorem dX6_commonDivisor_32 : decode cX6_commonDivisor 32 = .ok (.lstore 4, 2) := by decide +kernel
theorem dX6_commonDivisor_34 : decode cX6_commonDivisor 34 = .ok (.lload 9, 2) := by decide +kernel
theorem dX6_commonDivisor_36 : decode cX6_commonDivisor 36 = .ok (.lstore 6, 2) := by decide +kernel
theorem dX6_commonDivisor_38 : decode cX6_commonDivisor 38 = .ok (.iinc 8 1, 3) := by decide +kernel
theorem dX6_commonDivisor_41 : decode cX6_commonDivisor 41 = .ok (.goto (-32), 3) := by decide +kernel
theorem dX6_commonDivisor_44 : decode cX6_commonDivisor 44 = .ok (.lconst 1, 1) := by decide +kernel
theorem dX6_commonDivisor_45 : decode cX6_commonDivisor 45 = .ok (.lload 4, 2) := by decide +kernel
theorem dX6_commonDivisor_47 : decode cX6_commonDivisor 47 = .ok (.invokestatic 256, 3) := by decide +kernel
theorem dX6_commonDivisor_50 : decode cX6_commonDivisor 50 = .ok (.lreturn, 1) := by decide +kernel
theorem dX7_init_0 : decode cX7_init 0 = .ok (.aload_n 0, 1) := by decide +kernel
theorem dX7_init_1 : decode cX7_init 1 = .ok (.invokespecial 1, 3) := by decide +kernel
theorem dX7_init_4 : decode cX7_init 4 = .ok (.aload_n 0, 1) := by decide +kernel
theorem dX7_init_5 : decode cX7_init 5 = .ok (.bipush 6, 2) := by decide +kernel
theorem dX7_init_7 : decode cX7_init 7 = .ok (.newarray .int, 2) := by decide +kernel
theorem dX7_init_9 : decode cX7_init 9 = .ok (.putfield 7, 3) := by decide +kernel
theorem dX7_init_12 : decode cX7_init 12 = .ok (.aload_n 0, 1) := by decide +kernel
theorem dX7_init_13 : decode cX7_init 13 = .ok (.bipush 6, 2) := by decide +kernel
theorem dX7_init_15 : decode cX7_init 15 = .ok (.newarray .int, 2) := by decide +kernel
theorem dX7_init_17 : decode cX7_init 17 = .ok (.putfield 13, 3) := by decide +kernel
theorem dX7_init_20 : decode cX7_init 20 = .ok (.aload_n 0, 1) := by decide +kernel
theorem dX7_init_21 : decode cX7_init 21 = .ok (.bipush 6, 2) := by decide +kernel
theorem dX7_init_23 : decode cX7_init 23 = .ok (.newarray .int, 2) := by decide +kernel
theorem dX7_init_25 : decode cX7_init 25 = .ok (.putfield 16, 3) := by decide +kernel
theorem dX7_init_28 : decode cX7_init 28 = .ok (.aload_n 0, 1) := by decide +kernel
theorem dX7_init_29 : decode cX7_init 29 = .ok (.bipush 6, 2) := by decide +kernel
theorem dX7_init_31 : decode cX7_init 31 = .ok (.newarray .int, 2) := by decide +kernel
theorem dX7_init_33 : decode cX7_init 33 = .ok (.putfield 19, 3) := by decide +kernel
theorem dX7_init_36 : decode cX7_init 36 = .ok (.aload_n 0, 1) := by decide +kernel
theorem dX7_init_37 : decode cX7_init 37 = .ok (.bipush 48, 2) := by decide +kernel
theorem dX7_init_39 : decode cX7_init 39 = .ok (.newarray .int, 2) := by decide +kernel
theorem dX7_init_41 : decode cX7_init 41 = .ok (.putfield 22, 3) := by decide +kernel
theorem dX7_init_44 : decode cX7_init 44 = .ok (.aload_n 0, 1) := by decide +kernel
theorem dX7_init_45 : decode cX7_init 45 = .ok (.bipush 6, 2) := by decide +kernel
theorem dX7_init_47 : decode cX7_init 47 = .ok (.newarray .int, 2) := by decide +kernel
theorem dX7_init_49 : decode cX7_init 49 = .ok (.putfield 25, 3) := by decide +kernel
theorem dX7_init_52 : decode cX7_init 52 = .ok (.aload_n 0, 1) := by decide +kernel
theorem dX7_init_53 : decode cX7_init 53 = .ok (.bipush 6, 2) := by decide +kernel
theorem dX7_init_55 : decode cX7_init 55 = .ok (.newarray .int, 2) := by decide +kernel
theorem dX7_init_57 : decode cX7_init 57 = .ok (.putfield 28, 3) := by decide +kernel
theorem dX7_init_60 : decode cX7_init 60 = .ok (.aload_n 0, 1) := by decide +kernel
theorem dX7_init_61 : decode cX7_init 61 = .ok (.bipush 6, 2) := by decide +kernel
theorem dX7_init_63 : decode cX7_init 63 = .ok (.newarray .int, 2) := by decide +kernel
theorem dX7_init_65 : decode cX7_init 65 = .ok (.putfield 31, 3) := by decide +kernel
theorem dX7_init_68 : decode cX7_init 68 = .ok (.aload_n 0, 1) := by decide +kernel
theorem dX7_init_69 : decode cX7_init 69 = .ok (.iconst 4, 1) := by decide +kernel
theorem dX7_init_70 : decode cX7_init 70 = .ok (.newarray .int, 2) := by decide +kernel
theorem dX7_init_72 : decode cX7_init 72 = .ok (.putfield 34, 3) := by decide +kernel
theorem dX7_init_75 : decode cX7_init 75 = .ok (.aload_n 0, 1) := by decide +kernel
theorem dX7_init_76 : decode cX7_init 76 = .ok (.iconst 3, 1) := by decide +kernel
theorem dX7_init_77 : decode cX7_init 77 = .ok (.newarray .int, 2) := by decide +kernel
theorem dX7_init_79 : decode cX7_init 79 = .ok (.putfield 37, 3) := by decide +kernel
theorem dX7_init_82 : decode cX7_init 82 = .ok (.aload_n 0, 1) := by decide +kernel
theorem dX7_init_83 : decode cX7_init 83 = .ok (.bipush 8, 2) := by decide +kernel
theorem dX7_init_85 : decode cX7_init 85 = .ok (.newarray .int, 2) := by decide +kernel
theorem dX7_init_87 : decode cX7_init 87 = .ok (.putfield 40, 3) := by decide +kernel
theorem dX7_init_90 : decode cX7_init 90 = .ok (.aload_n 0, 1) := by decide +kernel
theorem dX7_init_91 : decode cX7_init 91 = .ok (.bipush 8, 2) := by decide +kernel
theorem dX7_init_93 : decode cX7_init 93 = .ok (.newarray .int, 2) := by decide +kernel
theorem dX7_init_95 : decode cX7_init 95 = .ok (.putfield 43, 3) := by decide +kernel
theorem dX7_init_98 : decode cX7_init 98 = .ok (.aload_n 0, 1) := by decide +kernel
theorem dX7_init_99 : decode cX7_init 99 = .ok (.bipush 8, 2) := by decide +kernel
theorem dX7_init_101 : decode cX7_init 101 = .ok (.newarray .int, 2) := by decide +kernel
theorem dX7_init_103 : decode cX7_init 103 = .ok (.putfield 46, 3) := by decide +kernel
theorem dX7_init_106 : decode cX7_init 106 = .ok (.aload_n 0, 1) := by decide +kernel
theorem dX7_init_107 : decode cX7_init 107 = .ok (.bipush 8, 2) := by decide +kernel
theorem dX7_init_109 : decode cX7_init 109 = .ok (.newarray .int, 2) := by decide +kernel
theorem dX7_init_111 : decode cX7_init 111 = .ok (.putfield 49, 3) := by decide +kernel
theorem dX7_init_114 : decode cX7_init 114 = .ok (.aload_n 0, 1) := by decide +kernel
theorem dX7_init_115 : decode cX7_init 115 = .ok (.bipush 60, 2) := by decide +kernel
theorem dX7_init_117 : decode cX7_init 117 = .ok (.newarray .int, 2) := by decide +kernel
theorem dX7_init_119 : decode cX7_init 119 = .ok (.putfield 52, 3) := by decide +kernel
theorem dX7_init_122 : decode cX7_init 122 = .ok (.aload_n 0, 1) := by decide +kernel
theorem dX7_init_123 : decode cX7_init 123 = .ok (.bipush 60, 2) := by decide +kernel
theorem dX7_init_125 : decode cX7_init 125 = .ok (.newarray .int, 2) := by decide +kernel
theorem dX7_init_127 : decode cX7_init 127 = .ok (.putfield 55, 3) := by decide +kernel
theorem dX7_init_130 : decode cX7_init 130 = .ok (.aload_n 0, 1) := by decide +kernel
theorem dX7_init_131 : decode cX7_init 131 = .ok (.bipush 60, 2) := by decide +kernel
theorem dX7_init_133 : decode cX7_init 133 = .ok (.newarray .int, 2) := by decide +kernel
theorem dX7_init_135 : decode cX7_init 135 = .ok (.putfield 58, 3) := by decide +kernel
theorem dX7_init_138 : decode cX7_init 138 = .ok (.aload_n 0, 1) := by decide +kernel
theorem dX7_init_139 : decode cX7_init 139 = .ok (.bipush 60, 2) := by decide +kernel
theorem dX7_init_141 : decode cX7_init 141 = .ok (.newarray .int, 2) := by decide +kernel
theorem dX7_init_143 : decode cX7_init 143 = .ok (.putfield 61, 3) := by decide +kernel
theorem dX7_init_146 : decode cX7_init 146 = .ok (.aload_n 0, 1) := by decide +kernel
theorem dX7_init_147 : decode cX7_init 147 = .ok (.bipush 60, 2) := by decide +kernel
theorem dX7_init_149 : decode cX7_init 149 = .ok (.newarray .int, 2) := by decide +kernel
theorem dX7_init_151 : decode cX7_init 151 = .ok (.putfield 64, 3) := by decide +kernel
theorem dX7_init_154 : decode cX7_init 154 = .ok (.aload_n 0, 1) := by decide +kernel
theorem dX7_init_155 : decode cX7_init 155 = .ok (.bipush 77, 2) := by decide +kernel
theorem dX7_init_157 : decode cX7_init 157 = .ok (.newarray .int, 2) := by decide +kernel
theorem dX7_init_159 : decode cX7_init 159 = .ok (.putfield 67, 3) := by decide +kernel
theorem dX7_init_162 : decode cX7_init 162 = .ok (.aload_n 0, 1) := by decide +kernel
theorem dX7_init_163 : decode cX7_init 163 = .ok (.bipush 83, 2) := by decide +kernel
theorem dX7_init_165 : decode cX7_init 165 = .ok (.newarray .int, 2) := by decide +kernel
theorem dX7_init_167 : decode cX7_init 167 = .ok (.putfield 70, 3) := by decide +kernel
theorem dX7_init_170 : decode cX7_init 170 = .ok (.aload_n 0, 1) := by decide +kernel
theorem dX7_init_171 : decode cX7_init 171 = .ok (.bipush 81, 2) := by decide +kernel
theorem dX7_init_173 : decode cX7_init 173 = .ok (.newarray .long, 2) := by decide +kernel
theorem dX7_init_175 : decode cX7_init 175 = .ok (.putfield 73, 3) := by decide +kernel
theorem dX7_init_178 : decode cX7_init 178 = .ok (.aload_n 0, 1) := by decide +kernel
theorem dX7_init_179 : decode cX7_init 179 = .ok (.sipush 637, 3) := by decide +kernel
theorem dX7_init_182 : decode cX7_init 182 = .ok (.newarray .int, 2) := by decide +kernel
theorem dX7_init_184 : decode cX7_init 184 = .ok (.putfield 77, 3) := by decide +kernel
theorem dX7_init_187 : decode cX7_init 187 = .ok (.aload_n 0, 1) := by decide +kernel
theorem dX7_init_188 : decode cX7_init 188 = .ok (.sipush 320, 3) := by decide +kernel
theorem dX7_init_191 : decode cX7_init 191 = .ok (.newarray .int, 2) := by decide +kernel
theorem dX7_init_193 : decode cX7_init 193 = .ok (.putfield 80, 3) := by decide +kernel
theorem dX7_init_196 : decode cX7_init 196 = .ok (.aload_n 0, 1) := by decide +kernel
theorem dX7_init_197 : decode cX7_init 197 = .ok (.iconst 2, 1) := by decide +kernel
theorem dX7_init_198 : decode cX7_init 198 = .ok (.newarray .boolean, 2) := by decide +kernel
theorem dX7_init_200 : decode cX7_init 200 = .ok (.putfield 83, 3) := by decide +kernel
theorem dX7_init_203 : decode cX7_init 203 = .ok (.aload_n 0, 1) := by decide +kernel
theorem dX7_init_204 : decode cX7_init 204 = .ok (.getfield 37, 3) := by decide +kernel
theorem dX7_init_207 : decode cX7_init 207 = .ok (.iconst 0, 1) := by decide +kernel
theorem dX7_init_208 : decode cX7_init 208 = .ok (.iconst 2, 1) := by decide +kernel
theorem dX7_init_209 : decode cX7_init 209 = .ok (.iastore, 1) := by decide +kernel
theorem dX7_init_210 : decode cX7_init 210 = .ok (.aload_n 0, 1) := by decide +kernel
theorem dX7_init_211 : decode cX7_init 211 = .ok (.getfield 37, 3) := by decide +kernel
theorem dX7_init_214 : decode cX7_init 214 = .ok (.iconst 1, 1) := by decide +kernel
theorem dX7_init_215 : decode cX7_init 215 = .ok (.iconst 1, 1) := by decide +kernel
theorem dX7_init_216 : decode cX7_init 216 = .ok (.iastore, 1) := by decide +kernel
theorem dX7_init_217 : decode cX7_init 217 = .ok (.aload_n 0, 1) := by decide +kernel
theorem dX7_init_218 : decode cX7_init 218 = .ok (.getfield 37, 3) := by decide +kernel
theorem dX7_init_221 : decode cX7_init 221 = .ok (.iconst 2, 1) := by decide +kernel
theorem dX7_init_222 : decode cX7_init 222 = .ok (.iconst 1, 1) := by decide +kernel
theorem dX7_init_223 : decode cX7_init 223 = .ok (.iastore, 1) := by decide +kernel
theorem dX7_init_224 : decode cX7_init 224 = .ok (.iconst 0, 1) := by decide +kernel
theorem dX7_init_225 : decode cX7_init 225 = .ok (.istore_n 1, 1) := by decide +kernel
theorem dX7_init_226 : decode cX7_init 226 = .ok (.iload_n 1, 1) := by decide +kernel
theorem dX7_init_227 : decode cX7_init 227 = .ok (.bipush 6, 2) := by decide +kernel
theorem dX7_init_229 : decode cX7_init 229 = .ok (.if_icmp .ge 34, 3) := by decide +kernel
theorem dX7_init_232 : decode cX7_init 232 = .ok (.aload_n 0, 1) := by decide +kernel
theorem dX7_init_233 : decode cX7_init 233 = .ok (.getfield 25, 3) := by decide +kernel
theorem dX7_init_236 : decode cX7_init 236 = .ok (.iload_n 1, 1) := by decide +kernel
theorem dX7_init_237 : decode cX7_init 237 = .ok (.bipush 10, 2) := by decide +kernel
theorem dX7_init_239 : decode cX7_init 239 = .ok (.iastore, 1) := by decide +kernel
theorem dX7_init_240 : decode cX7_init 240 = .ok (.aload_n 0, 1) := by decide +kernel
theorem dX7_init_241 : decode cX7_init 241 = .ok (.getfield 28, 3) := by decide +kernel
theorem dX7_init_244 : decode cX7_init 244 = .ok (.iload_n 1, 1) := by decide +kernel
theorem dX7_init_245 : decode cX7_init 245 = .ok (.bipush 10, 2) := by decide +kernel
theorem dX7_init_247 : decode cX7_init 247 = .ok (.iastore, 1) := by decide +kernel
theorem dX7_init_248 : decode cX7_init 248 = .ok (.aload_n 0, 1) := by decide +kernel
theorem dX7_init_249 : decode cX7_init 249 = .ok (.getfield 31, 3) := by decide +kernel
theorem dX7_init_252 : decode cX7_init 252 = .ok (.iload_n 1, 1) := by decide +kernel
theorem dX7_init_253 : decode cX7_init 253 = .ok (.sipush 4095, 3) := by decide +kernel
theorem dX7_init_256 : decode cX7_init 256 = .ok (.iastore, 1) := by decide +kernel
theorem dX7_init_257 : decode cX7_init 257 = .ok (.iinc 1 1, 3) := by decide +kernel
theorem dX7_init_260 : decode cX7_init 260 = .ok (.goto (-34), 3) := by decide +kernel
theorem dX7_init_263 : decode cX7_init 263 = .ok (.iconst 0, 1) := by decide +kernel
theorem dX7_init_264 : decode cX7_init 264 = .ok (.istore_n 1, 1) := by decide +kernel
theorem dX7_init_265 : decode cX7_init 265 = .ok (.iload_n 1, 1) := by decide +kernel
theorem dX7_init_266 : decode cX7_init 266 = .ok (.bipush 48, 2) := by decide +kernel
theorem dX7_init_268 : decode cX7_init 268 = .ok (.if_icmp .ge 17, 3) := by decide +kernel
theorem dX7_init_271 : decode cX7_init 271 = .ok (.aload_n 0, 1) := by decide +kernel
theorem dX7_init_272 : decode cX7_init 272 = .ok (.getfield 22, 3) := by decide +kernel
theorem dX7_init_275 : decode cX7_init 275 = .ok (.iload_n 1, 1) := by decide +kernel
theorem dX7_init_276 : decode cX7_init 276 = .ok (.bipush (-6), 2) := by decide +kernel
theorem dX7_init_278 : decode cX7_init 278 = .ok (.iastore, 1) := by decide +kernel
theorem dX7_init_279 : decode cX7_init 279 = .ok (.iinc 1 1, 3) := by decide +kernel
theorem dX7_init_282 : decode cX7_init 282 = .ok (.goto (-17), 3) := by decide +kernel
theorem dX7_init_285 : decode cX7_init 285 = .ok (.iconst 0, 1) := by decide +kernel
theorem dX7_init_286 : decode cX7_init 286 = .ok (.istore_n 1, 1) := by decide +kernel
theorem dX7_init_287 : decode cX7_init 287 = .ok (.iload_n 1, 1) := by decide +kernel
theorem dX7_init_288 : decode cX7_init 288 = .ok (.iconst 4, 1) := by decide +kernel
theorem dX7_init_289 : decode cX7_init 289 = .ok (.if_icmp .ge 17, 3) := by decide +kernel
theorem dX7_init_292 : decode cX7_init 292 = .ok (.aload_n 0, 1) := by decide +kernel
theorem dX7_init_293 : decode cX7_init 293 = .ok (.getfield 34, 3) := by decide +kernel
theorem dX7_init_296 : decode cX7_init 296 = .ok (.iload_n 1, 1) := by decide +kernel
theorem dX7_init_297 : decode cX7_init 297 = .ok (.bipush 100, 2) := by decide +kernel
theorem dX7_init_299 : decode cX7_init 299 = .ok (.iastore, 1) := by decide +kernel
theorem dX7_init_300 : decode cX7_init 300 = .ok (.iinc 1 1, 3) := by decide +kernel
theorem dX7_init_303 : decode cX7_init 303 = .ok (.goto (-16), 3) := by decide +kernel
theorem dX7_init_306 : decode cX7_init 306 = .ok (.return_, 1) := by decide +kernel
theorem dX7_in_0 : decode cX7_in 0 = .ok (.lload_n 0, 1) := by decide +kernel
theorem dX7_in_1 : decode cX7_in 1 = .ok (.lload_n 2, 1) := by decide +kernel
theorem dX7_in_2 : decode cX7_in 2 = .ok (.lcmp, 1) := by decide +kernel
theorem dX7_in_3 : decode cX7_in 3 = .ok (.ifCond .lt 14, 3) := by decide +kernel
theorem dX7_in_6 : decode cX7_in 6 = .ok (.lload_n 0, 1) := by decide +kernel
theorem dX7_in_7 : decode cX7_in 7 = .ok (.lload 4, 2) := by decide +kernel
theorem dX7_in_9 : decode cX7_in 9 = .ok (.lcmp, 1) := by decide +kernel
theorem dX7_in_10 : decode cX7_in 10 = .ok (.ifCond .gt 7, 3) := by decide +kernel
theorem dX7_in_13 : decode cX7_in 13 = .ok (.iconst 1, 1) := by decide +kernel
theorem dX7_in_14 : decode cX7_in 14 = .ok (.goto 4, 3) := by decide +kernel
theorem dX7_in_17 : decode cX7_in 17 = .ok (.iconst 0, 1) := by decide +kernel
theorem dX7_in_18 : decode cX7_in 18 = .ok (.ireturn, 1) := by decide +kernel
theorem dX7_ones_0 : decode cX7_ones 0 = .ok (.iconst 0, 1) := by decide +kernel
theorem dX7_ones_1 : decode cX7_ones 1 = .ok (.istore_n 1, 1) := by decide +kernel
theorem dX7_ones_2 : decode cX7_ones 2 = .ok (.iload_n 0, 1) := by decide +kernel
theorem dX7_ones_3 : decode cX7_ones 3 = .ok (.istore_n 2, 1) := by decide +kernel
theorem dX7_ones_4 : decode cX7_ones 4 = .ok (.iload_n 2, 1) := by decide +kernel
theorem dX7_ones_5 : decode cX7_ones 5 = .ok (.ifCond .eq 15, 3) := by decide +kernel
theorem dX7_ones_8 : decode cX7_ones 8 = .ok (.iinc 1 1, 3) := by decide +kernel
theorem dX7_ones_11 : decode cX7_ones 11 = .ok (.iload_n 2, 1) := by decide +kernel
theorem dX7_ones_12 : decode cX7_ones 12 = .ok (.iload_n 2, 1) := by decide +kernel
theorem dX7_ones_13 : decode cX7_ones 13 = .ok (.iconst 1, 1) := by decide +kernel
theorem dX7_ones_14 : decode cX7_ones 14 = .ok (.isub, 1) := by decide +kernel
theorem dX7_ones_15 : decode cX7_ones 15 = .ok (.iand, 1) := by decide +kernel
theorem dX7_ones_16 : decode cX7_ones 16 = .ok (.istore_n 2, 1) := by decide +kernel
theorem dX7_ones_17 : decode cX7_ones 17 = .ok (.goto (-13), 3) := by decide +kernel
theorem dX7_ones_20 : decode cX7_ones 20 = .ok (.iload_n 1, 1) := by decide +kernel
theorem dX7_ones_21 : decode cX7_ones 21 = .ok (.ireturn, 1) := by decide +kernel
theorem dX7_isNumber_0 : decode cX7_isNumber 0 = .ok (.iload_n 0, 1) := by decide +kernel
theorem dX7_isNumber_1 : decode cX7_isNumber 1 = .ok (.i2l, 1) := by decide +kernel
theorem dX7_isNumber_2 : decode cX7_isNumber 2 = .ok (.lconst 0, 1) := by decide +kernel
theorem dX7_isNumber_3 : decode cX7_isNumber 3 = .ok (.ldc2_w 87, 3) := by decide +kernel
theorem dX7_isNumber_6 : decode cX7_isNumber 6 = .ok (.invokestatic 89, 3) := by decide +kernel
theorem dX7_isNumber_9 : decode cX7_isNumber 9 = .ok (.ireturn, 1) := by decide +kernel
theorem dX7_isChild_0 : decode cX7_isChild 0 = .ok (.iload_n 1, 1) := by decide +kernel
theorem dX7_isChild_1 : decode cX7_isChild 1 = .ok (.invokestatic 93, 3) := by decide +kernel
theorem dX7_isChild_4 : decode cX7_isChild 4 = .ok (.ifCond .eq 19, 3) := by decide +kernel
theorem dX7_isChild_7 : decode cX7_isChild 7 = .ok (.aload_n 0, 1) := by decide +kernel
theorem dX7_isChild_8 : decode cX7_isChild 8 = .ok (.getfield 97, 3) := by decide +kernel
theorem dX7_isChild_11 : decode cX7_isChild 11 = .ok (.iload_n 1, 1) := by decide +kernel
theorem dX7_isChild_12 : decode cX7_isChild 12 = .ok (.ishr, 1) := by decide +kernel
theorem dX7_isChild_13 : decode cX7_isChild 13 = .ok (.iconst 1, 1) := by decide +kernel
theorem dX7_isChild_14 : decode cX7_isChild 14 = .ok (.iand, 1) := by decide +kernel
theorem dX7_isChild_15 : decode cX7_isChild 15 = .ok (.iconst 1, 1) := by decide +kernel
theorem dX7_isChild_16 : decode cX7_isChild 16 = .ok (.if_icmp .ne 7, 3) := by decide +kernel
theorem dX7_isChild_19 : decode cX7_isChild 19 = .ok (.iconst 1, 1) := by decide +kernel
theorem dX7_isChild_20 : decode cX7_isChild 20 = .ok (.goto 4, 3) := by decide +kernel
theorem dX7_isChild_23 : decode cX7_isChild 23 = .ok (.iconst 0, 1) := by decide +kernel
theorem dX7_isChild_24 : decode cX7_isChild 24 = .ok (.ireturn, 1) := by decide +kernel
theorem dX7_isParish_0 : decode cX7_isParish 0 = .ok (.iload_n 0, 1) := by decide +kernel
theorem dX7_isParish_1 : decode cX7_isParish 1 = .ok (.i2l, 1) := by decide +kernel
theorem dX7_isParish_2 : decode cX7_isParish 2 = .ok (.lconst 0, 1) := by decide +kernel
theorem dX7_isParish_3 : decode cX7_isParish 3 = .ok (.ldc2_w 101, 3) := by decide +kernel
theorem dX7_isParish_6 : decode cX7_isParish 6 = .ok (.invokestatic 89, 3) := by decide +kernel
theorem dX7_isParish_9 : decode cX7_isParish 9 = .ok (.ireturn, 1) := by decide +kernel
theorem dX7_clearParts_0 : decode cX7_clearParts 0 = .ok (.iconst 0, 1) := by decide +kernel
theorem dX7_clearParts_1 : decode cX7_clearParts 1 = .ok (.istore_n 2, 1) := by decide +kernel
theorem dX7_clearParts_2 : decode cX7_clearParts 2 = .ok (.iload_n 2, 1) := by decide +kernel
theorem dX7_clearParts_3 : decode cX7_clearParts 3 = .ok (.bipush 8, 2) := by decide +kernel
theorem dX7_clearParts_5 : decode cX7_clearParts 5 = .ok (.if_icmp .ge 22, 3) := by decide +kernel
theorem dX7_clearParts_8 : decode cX7_clearParts 8 = .ok (.aload_n 0, 1) := by decide +kernel
theorem dX7_clearParts_9 : decode cX7_clearParts 9 = .ok (.getfield 22, 3) := by decide +kernel
theorem dX7_clearParts_12 : decode cX7_clearParts 12 = .ok (.bipush 8, 2) := by decide +kernel
theorem dX7_clearParts_14 : decode cX7_clearParts 14 = .ok (.iload_n 1, 1) := by decide +kernel
theorem dX7_clearParts_15 : decode cX7_clearParts 15 = .ok (.imul, 1) := by decide +kernel
theorem dX7_clearParts_16 : decode cX7_clearParts 16 = .ok (.iload_n 2, 1) := by decide +kernel
theorem dX7_clearParts_17 : decode cX7_clearParts 17 = .ok (.iadd, 1) := by decide +kernel
theorem dX7_clearParts_18 : decode cX7_clearParts 18 = .ok (.bipush (-6), 2) := by decide +kernel
theorem dX7_clearParts_20 : decode cX7_clearParts 20 = .ok (.iastore, 1) := by decide +kernel
theorem dX7_clearParts_21 : decode cX7_clearParts 21 = .ok (.iinc 2 1, 3) := by decide +kernel
theorem dX7_clearParts_24 : decode cX7_clearParts 24 = .ok (.goto (-22), 3) := by decide +kernel
theorem dX7_clearParts_27 : decode cX7_clearParts 27 = .ok (.return_, 1) := by decide +kernel
theorem dX7_child_0 : decode cX7_child 0 = .ok (.iload_n 1, 1) := by decide +kernel
theorem dX7_child_1 : decode cX7_child 1 = .ok (.invokestatic 93, 3) := by decide +kernel
theorem dX7_child_4 : decode cX7_child 4 = .ok (.ifCond .ne 5, 3) := by decide +kernel
theorem dX7_child_7 : decode cX7_child 7 = .ok (.iconst (-1), 1) := by decide +kernel
theorem dX7_child_8 : decode cX7_child 8 = .ok (.ireturn, 1) := by decide +kernel
theorem dX7_child_9 : decode cX7_child 9 = .ok (.iload_n 2, 1) := by decide +kernel
theorem dX7_child_10 : decode cX7_child 10 = .ok (.i2l, 1) := by decide +kernel
theorem dX7_child_11 : decode cX7_child 11 = .ok (.lconst 0, 1) := by decide +kernel
theorem dX7_child_12 : decode cX7_child 12 = .ok (.ldc2_w 103, 3) := by decide +kernel
theorem dX7_child_15 : decode cX7_child 15 = .ok (.invokestatic 89, 3) := by decide +kernel
theorem dX7_child_18 : decode cX7_child 18 = .ok (.ifCond .eq 28, 3) := by decide +kernel
theorem dX7_child_21 : decode cX7_child 21 = .ok (.iload_n 3, 1) := by decide +kernel
theorem dX7_child_22 : decode cX7_child 22 = .ok (.i2l, 1) := by decide +kernel
theorem dX7_child_23 : decode cX7_child 23 = .ok (.lconst 0, 1) := by decide +kernel
theorem dX7_child_24 : decode cX7_child 24 = .ok (.ldc2_w 103, 3) := by decide +kernel
theorem dX7_child_27 : decode cX7_child 27 = .ok (.invokestatic 89, 3) := by decide +kernel
theorem dX7_child_30 : decode cX7_child 30 = .ok (.ifCond .eq 16, 3) := by decide +kernel
theorem dX7_child_33 : decode cX7_child 33 = .ok (.iload 4, 2) := by decide +kernel
theorem dX7_child_35 : decode cX7_child 35 = .ok (.i2l, 1) := by decide +kernel
theorem dX7_child_36 : decode cX7_child 36 = .ok (.lconst 0, 1) := by decide +kernel
theorem dX7_child_37 : decode cX7_child 37 = .ok (.ldc2_w 103, 3) := by decide +kernel
theorem dX7_child_40 : decode cX7_child 40 = .ok (.invokestatic 89, 3) := by decide +kernel
theorem dX7_child_43 : decode cX7_child 43 = .ok (.ifCond .ne 6, 3) := by decide +kernel
theorem dX7_child_46 : decode cX7_child 46 = .ok (.bipush (-2), 2) := by decide +kernel
theorem dX7_child_48 : decode cX7_child 48 = .ok (.ireturn, 1) := by decide +kernel
theorem dX7_child_49 : decode cX7_child 49 = .ok (.aload_n 0, 1) := by decide +kernel
theorem dX7_child_50 : decode cX7_child 50 = .ok (.dup, 1) := by decide +kernel
theorem dX7_child_51 : decode cX7_child 51 = .ok (.getfield 97, 3) := by decide +kernel
theorem dX7_child_54 : decode cX7_child 54 = .ok (.iconst 1, 1) := by decide +kernel
theorem dX7_child_55 : decode cX7_child 55 = .ok (.iload_n 1, 1) := by decide +kernel
theorem dX7_child_56 : decode cX7_child 56 = .ok (.ishl, 1) := by decide +kernel
theorem dX7_child_57 : decode cX7_child 57 = .ok (.ior, 1) := by decide +kernel
theorem dX7_child_58 : decode cX7_child 58 = .ok (.putfield 97, 3) := by decide +kernel
theorem dX7_child_61 : decode cX7_child 61 = .ok (.aload_n 0, 1) := by decide +kernel
theorem dX7_child_62 : decode cX7_child 62 = .ok (.getfield 7, 3) := by decide +kernel
theorem dX7_child_65 : decode cX7_child 65 = .ok (.iload_n 1, 1) := by decide +kernel
theorem dX7_child_66 : decode cX7_child 66 = .ok (.iload_n 2, 1) := by decide +kernel
theorem dX7_child_67 : decode cX7_child 67 = .ok (.iastore, 1) := by decide +kernel
theorem dX7_child_68 : decode cX7_child 68 = .ok (.aload_n 0, 1) := by decide +kernel
theorem dX7_child_69 : decode cX7_child 69 = .ok (.getfield 13, 3) := by decide +kernel
theorem dX7_child_72 : decode cX7_child 72 = .ok (.iload_n 1, 1) := by decide +kernel
theorem dX7_child_73 : decode cX7_child 73 = .ok (.iload_n 3, 1) := by decide +kernel
theorem dX7_child_74 : decode cX7_child 74 = .ok (.iastore, 1) := by decide +kernel
theorem dX7_child_75 : decode cX7_child 75 = .ok (.aload_n 0, 1) := by decide +kernel
theorem dX7_child_76 : decode cX7_child 76 = .ok (.getfield 16, 3) := by decide +kernel
theorem dX7_child_79 : decode cX7_child 79 = .ok (.iload_n 1, 1) := by decide +kernel
theorem dX7_child_80 : decode cX7_child 80 = .ok (.iload 4, 2) := by decide +kernel
theorem dX7_child_82 : decode cX7_child 82 = .ok (.iastore, 1) := by decide +kernel
theorem dX7_child_83 : decode cX7_child 83 = .ok (.aload_n 0, 1) := by decide +kernel
theorem dX7_child_84 : decode cX7_child 84 = .ok (.getfield 19, 3) := by decide +kernel
theorem dX7_child_87 : decode cX7_child 87 = .ok (.iload_n 1, 1) := by decide +kernel
theorem dX7_child_88 : decode cX7_child 88 = .ok (.iconst 0, 1) := by decide +kernel
theorem dX7_child_89 : decode cX7_child 89 = .ok (.iastore, 1) := by decide +kernel
theorem dX7_child_90 : decode cX7_child 90 = .ok (.aload_n 0, 1) := by decide +kernel
theorem dX7_child_91 : decode cX7_child 91 = .ok (.iload_n 1, 1) := by decide +kernel
theorem dX7_child_92 : decode cX7_child 92 = .ok (.invokevirtual 105, 3) := by decide +kernel
theorem dX7_child_95 : decode cX7_child 95 = .ok (.aload_n 0, 1) := by decide +kernel
theorem dX7_child_96 : decode cX7_child 96 = .ok (.getfield 97, 3) := by decide +kernel
theorem dX7_child_99 : decode cX7_child 99 = .ok (.invokestatic 109, 3) := by decide +kernel
theorem dX7_child_102 : decode cX7_child 102 = .ok (.ireturn, 1) := by decide +kernel
theorem dX7_leave_0 : decode cX7_leave 0 = .ok (.aload_n 0, 1) := by decide +kernel
theorem dX7_leave_1 : decode cX7_leave 1 = .ok (.iload_n 1, 1) := by decide +kernel
theorem dX7_leave_2 : decode cX7_leave 2 = .ok (.invokevirtual 113, 3) := by decide +kernel
theorem dX7_leave_5 : decode cX7_leave 5 = .ok (.ifCond .ne 5, 3) := by decide +kernel
theorem dX7_leave_8 : decode cX7_leave 8 = .ok (.iconst (-1), 1) := by decide +kernel
theorem dX7_leave_9 : decode cX7_leave 9 = .ok (.ireturn, 1) := by decide +kernel
theorem dX7_leave_10 : decode cX7_leave 10 = .ok (.aload_n 0, 1) := by decide +kernel
theorem dX7_leave_11 : decode cX7_leave 11 = .ok (.dup, 1) := by decide +kernel
theorem dX7_leave_12 : decode cX7_leave 12 = .ok (.getfield 97, 3) := by decide +kernel
theorem dX7_leave_15 : decode cX7_leave 15 = .ok (.iconst 1, 1) := by decide +kernel
theorem dX7_leave_16 : decode cX7_leave 16 = .ok (.iload_n 1, 1) := by decide +kernel
theorem dX7_leave_17 : decode cX7_leave 17 = .ok (.ishl, 1) := by decide +kernel
theorem dX7_leave_18 : decode cX7_leave 18 = .ok (.iconst (-1), 1) := by decide +kernel
theorem dX7_leave_19 : decode cX7_leave 19 = .ok (.ixor, 1) := by decide +kernel
theorem dX7_leave_20 : decode cX7_leave 20 = .ok (.iand, 1) := by decide +kernel
theorem dX7_leave_21 : decode cX7_leave 21 = .ok (.putfield 97, 3) := by decide +kernel
theorem dX7_leave_24 : decode cX7_leave 24 = .ok (.aload_n 0, 1) := by decide +kernel
theorem dX7_leave_25 : decode cX7_leave 25 = .ok (.iload_n 1, 1) := by decide +kernel
theorem dX7_leave_26 : decode cX7_leave 26 = .ok (.invokevirtual 105, 3) := by decide +kernel
theorem dX7_leave_29 : decode cX7_leave 29 = .ok (.aload_n 0, 1) := by decide +kernel
theorem dX7_leave_30 : decode cX7_leave 30 = .ok (.getfield 97, 3) := by decide +kernel
theorem dX7_leave_33 : decode cX7_leave 33 = .ok (.invokestatic 109, 3) := by decide +kernel
theorem dX7_leave_36 : decode cX7_leave 36 = .ok (.ireturn, 1) := by decide +kernel
theorem dX7_law_0 : decode cX7_law 0 = .ok (.iload_n 1, 1) := by decide +kernel
theorem dX7_law_1 : decode cX7_law 1 = .ok (.i2l, 1) := by decide +kernel
theorem dX7_law_2 : decode cX7_law 2 = .ok (.lconst 0, 1) := by decide +kernel
theorem dX7_law_3 : decode cX7_law 3 = .ok (.ldc2_w 116, 3) := by decide +kernel
theorem dX7_law_6 : decode cX7_law 6 = .ok (.invokestatic 89, 3) := by decide +kernel
theorem dX7_law_9 : decode cX7_law 9 = .ok (.ifCond .eq 15, 3) := by decide +kernel
theorem dX7_law_12 : decode cX7_law 12 = .ok (.iload_n 2, 1) := by decide +kernel
theorem dX7_law_13 : decode cX7_law 13 = .ok (.i2l, 1) := by decide +kernel
theorem dX7_law_14 : decode cX7_law 14 = .ok (.lconst 0, 1) := by decide +kernel
theorem dX7_law_15 : decode cX7_law 15 = .ok (.ldc2_w 118, 3) := by decide +kernel
theorem dX7_law_18 : decode cX7_law 18 = .ok (.invokestatic 89, 3) := by decide +kernel
theorem dX7_law_21 : decode cX7_law 21 = .ok (.ifCond .ne 6, 3) := by decide +kernel
theorem dX7_law_24 : decode cX7_law 24 = .ok (.bipush (-2), 2) := by decide +kernel
theorem dX7_law_26 : decode cX7_law 26 = .ok (.ireturn, 1) := by decide +kernel
theorem dX7_law_27 : decode cX7_law 27 = .ok (.aload_n 0, 1) := by decide +kernel
theorem dX7_law_28 : decode cX7_law 28 = .ok (.getfield 37, 3) := by decide +kernel
theorem dX7_law_31 : decode cX7_law 31 = .ok (.iload_n 1, 1) := by decide +kernel
theorem dX7_law_32 : decode cX7_law 32 = .ok (.iaload, 1) := by decide +kernel
theorem dX7_law_33 : decode cX7_law 33 = .ok (.istore_n 3, 1) := by decide +kernel
theorem dX7_law_34 : decode cX7_law 34 = .ok (.aload_n 0, 1) := by decide +kernel
theorem dX7_law_35 : decode cX7_law 35 = .ok (.getfield 37, 3) := by decide +kernel
theorem dX7_law_38 : decode cX7_law 38 = .ok (.iload_n 1, 1) := by decide +kernel
theorem dX7_law_39 : decode cX7_law 39 = .ok (.iload_n 2, 1) := by decide +kernel
theorem dX7_law_40 : decode cX7_law 40 = .ok (.iastore, 1) := by decide +kernel
theorem dX7_law_41 : decode cX7_law 41 = .ok (.iload_n 3, 1) := by decide +kernel
theorem dX7_law_42 : decode cX7_law 42 = .ok (.ireturn, 1) := by decide +kernel
theorem dX7_purse_0 : decode cX7_purse 0 = .ok (.iload_n 1, 1) := by decide +kernel
theorem dX7_purse_1 : decode cX7_purse 1 = .ok (.invokestatic 120, 3) := by decide +kernel
theorem dX7_purse_4 : decode cX7_purse 4 = .ok (.ifCond .ne 5, 3) := by decide +kernel
theorem dX7_purse_7 : decode cX7_purse 7 = .ok (.iconst (-1), 1) := by decide +kernel
theorem dX7_purse_8 : decode cX7_purse 8 = .ok (.ireturn, 1) := by decide +kernel
theorem dX7_purse_9 : decode cX7_purse 9 = .ok (.iload_n 2, 1) := by decide +kernel
theorem dX7_purse_10 : decode cX7_purse 10 = .ok (.i2l, 1) := by decide +kernel
theorem dX7_purse_11 : decode cX7_purse 11 = .ok (.lconst 0, 1) := by decide +kernel
theorem dX7_purse_12 : decode cX7_purse 12 = .ok (.ldc2_w 123, 3) := by decide +kernel
theorem dX7_purse_15 : decode cX7_purse 15 = .ok (.invokestatic 89, 3) := by decide +kernel
theorem dX7_purse_18 : decode cX7_purse 18 = .ok (.ifCond .ne 6, 3) := by decide +kernel
theorem dX7_purse_21 : decode cX7_purse 21 = .ok (.bipush (-2), 2) := by decide +kernel
theorem dX7_purse_23 : decode cX7_purse 23 = .ok (.ireturn, 1) := by decide +kernel
theorem dX7_purse_24 : decode cX7_purse 24 = .ok (.aload_n 0, 1) := by decide +kernel
theorem dX7_purse_25 : decode cX7_purse 25 = .ok (.getfield 34, 3) := by decide +kernel
theorem dX7_purse_28 : decode cX7_purse 28 = .ok (.iload_n 1, 1) := by decide +kernel
theorem dX7_purse_29 : decode cX7_purse 29 = .ok (.iaload, 1) := by decide +kernel
theorem dX7_purse_30 : decode cX7_purse 30 = .ok (.istore_n 3, 1) := by decide +kernel
theorem dX7_purse_31 : decode cX7_purse 31 = .ok (.aload_n 0, 1) := by decide +kernel
theorem dX7_purse_32 : decode cX7_purse 32 = .ok (.getfield 34, 3) := by decide +kernel
theorem dX7_purse_35 : decode cX7_purse 35 = .ok (.iload_n 1, 1) := by decide +kernel
theorem dX7_purse_36 : decode cX7_purse 36 = .ok (.iload_n 2, 1) := by decide +kernel
theorem dX7_purse_37 : decode cX7_purse 37 = .ok (.iastore, 1) := by decide +kernel
theorem dX7_purse_38 : decode cX7_purse 38 = .ok (.iload_n 3, 1) := by decide +kernel
theorem dX7_purse_39 : decode cX7_purse 39 = .ok (.ireturn, 1) := by decide +kernel
theorem dX7_offer_0 : decode cX7_offer 0 = .ok (.iload_n 1, 1) := by decide +kernel
theorem dX7_offer_1 : decode cX7_offer 1 = .ok (.invokestatic 93, 3) := by decide +kernel
theorem dX7_offer_4 : decode cX7_offer 4 = .ok (.ifCond .ne 5, 3) := by decide +kernel
theorem dX7_offer_7 : decode cX7_offer 7 = .ok (.iconst (-1), 1) := by decide +kernel
theorem dX7_offer_8 : decode cX7_offer 8 = .ok (.ireturn, 1) := by decide +kernel
theorem dX7_offer_9 : decode cX7_offer 9 = .ok (.iload_n 2, 1) := by decide +kernel
theorem dX7_offer_10 : decode cX7_offer 10 = .ok (.i2l, 1) := by decide +kernel
theorem dX7_offer_11 : decode cX7_offer 11 = .ok (.lconst 0, 1) := by decide +kernel
theorem dX7_offer_12 : decode cX7_offer 12 = .ok (.ldc2_w 103, 3) := by decide +kernel
theorem dX7_offer_15 : decode cX7_offer 15 = .ok (.invokestatic 89, 3) := by decide +kernel
theorem dX7_offer_18 : decode cX7_offer 18 = .ok (.ifCond .eq 28, 3) := by decide +kernel
theorem dX7_offer_21 : decode cX7_offer 21 = .ok (.iload_n 3, 1) := by decide +kernel
theorem dX7_offer_22 : decode cX7_offer 22 = .ok (.i2l, 1) := by decide +kernel
theorem dX7_offer_23 : decode cX7_offer 23 = .ok (.lconst 0, 1) := by decide +kernel
theorem dX7_offer_24 : decode cX7_offer 24 = .ok (.ldc2_w 123, 3) := by decide +kernel
theorem dX7_offer_27 : decode cX7_offer 27 = .ok (.invokestatic 89, 3) := by decide +kernel
theorem dX7_offer_30 : decode cX7_offer 30 = .ok (.ifCond .eq 16, 3) := by decide +kernel
theorem dX7_offer_33 : decode cX7_offer 33 = .ok (.iload 4, 2) := by decide +kernel
theorem dX7_offer_35 : decode cX7_offer 35 = .ok (.i2l, 1) := by decide +kernel
theorem dX7_offer_36 : decode cX7_offer 36 = .ok (.lconst 0, 1) := by decide +kernel
theorem dX7_offer_37 : decode cX7_offer 37 = .ok (.ldc2_w 125, 3) := by decide +kernel
theorem dX7_offer_40 : decode cX7_offer 40 = .ok (.invokestatic 89, 3) := by decide +kernel
theorem dX7_offer_43 : decode cX7_offer 43 = .ok (.ifCond .ne 6, 3) := by decide +kernel
theorem dX7_offer_46 : decode cX7_offer 46 = .ok (.bipush (-2), 2) := by decide +kernel
theorem dX7_offer_48 : decode cX7_offer 48 = .ok (.ireturn, 1) := by decide +kernel
theorem dX7_offer_49 : decode cX7_offer 49 = .ok (.aload_n 0, 1) := by decide +kernel
theorem dX7_offer_50 : decode cX7_offer 50 = .ok (.getfield 31, 3) := by decide +kernel
theorem dX7_offer_53 : decode cX7_offer 53 = .ok (.iload_n 1, 1) := by decide +kernel
theorem dX7_offer_54 : decode cX7_offer 54 = .ok (.iaload, 1) := by decide +kernel
theorem dX7_offer_55 : decode cX7_offer 55 = .ok (.istore 5, 2) := by decide +kernel
theorem dX7_offer_57 : decode cX7_offer 57 = .ok (.aload_n 0, 1) := by decide +kernel
theorem dX7_offer_58 : decode cX7_offer 58 = .ok (.getfield 25, 3) := by decide +kernel
theorem dX7_offer_61 : decode cX7_offer 61 = .ok (.iload_n 1, 1) := by decide +kernel
theorem dX7_offer_62 : decode cX7_offer 62 = .ok (.iload_n 2, 1) := by decide +kernel
theorem dX7_offer_63 : decode cX7_offer 63 = .ok (.iastore, 1) := by decide +kernel
theorem dX7_offer_64 : decode cX7_offer 64 = .ok (.aload_n 0, 1) := by decide +kernel
theorem dX7_offer_65 : decode cX7_offer 65 = .ok (.getfield 28, 3) := by decide +kernel
theorem dX7_offer_68 : decode cX7_offer 68 = .ok (.iload_n 1, 1) := by decide +kernel
theorem dX7_offer_69 : decode cX7_offer 69 = .ok (.iload_n 3, 1) := by decide +kernel
theorem dX7_offer_70 : decode cX7_offer 70 = .ok (.iastore, 1) := by decide +kernel
theorem dX7_offer_71 : decode cX7_offer 71 = .ok (.aload_n 0, 1) := by decide +kernel
theorem dX7_offer_72 : decode cX7_offer 72 = .ok (.getfield 31, 3) := by decide +kernel
theorem dX7_offer_75 : decode cX7_offer 75 = .ok (.iload_n 1, 1) := by decide +kernel
theorem dX7_offer_76 : decode cX7_offer 76 = .ok (.iload 4, 2) := by decide +kernel
theorem dX7_offer_78 : decode cX7_offer 78 = .ok (.iastore, 1) := by decide +kernel
theorem dX7_offer_79 : decode cX7_offer 79 = .ok (.iload 5, 2) := by decide +kernel
theorem dX7_offer_81 : decode cX7_offer 81 = .ok (.ireturn, 1) := by decide +kernel
theorem dX7_witness_0 : decode cX7_witness 0 = .ok (.iload_n 1, 1) := by decide +kernel
theorem dX7_witness_1 : decode cX7_witness 1 = .ok (.i2l, 1) := by decide +kernel
theorem dX7_witness_2 : decode cX7_witness 2 = .ok (.lconst 0, 1) := by decide +kernel
theorem dX7_witness_3 : decode cX7_witness 3 = .ok (.ldc2_w 127, 3) := by decide +kernel
theorem dX7_witness_6 : decode cX7_witness 6 = .ok (.invokestatic 89, 3) := by decide +kernel
theorem dX7_witness_9 : decode cX7_witness 9 = .ok (.ifCond .ne 5, 3) := by decide +kernel
theorem dX7_witness_12 : decode cX7_witness 12 = .ok (.iconst (-1), 1) := by decide +kernel
theorem dX7_witness_13 : decode cX7_witness 13 = .ok (.ireturn, 1) := by decide +kernel
theorem dX7_witness_14 : decode cX7_witness 14 = .ok (.iload_n 2, 1) := by decide +kernel
theorem dX7_witness_15 : decode cX7_witness 15 = .ok (.i2l, 1) := by decide +kernel
theorem dX7_witness_16 : decode cX7_witness 16 = .ok (.lconst 0, 1) := by decide +kernel
theorem dX7_witness_17 : decode cX7_witness 17 = .ok (.ldc2_w 129, 3) := by decide +kernel
theorem dX7_witness_20 : decode cX7_witness 20 = .ok (.invokestatic 89, 3) := by decide +kernel
theorem dX7_witness_23 : decode cX7_witness 23 = .ok (.ifCond .ne 6, 3) := by decide +kernel
theorem dX7_witness_26 : decode cX7_witness 26 = .ok (.bipush (-2), 2) := by decide +kernel
theorem dX7_witness_28 : decode cX7_witness 28 = .ok (.ireturn, 1) := by decide +kernel
theorem dX7_witness_29 : decode cX7_witness 29 = .ok (.aload_n 0, 1) := by decide +kernel
theorem dX7_witness_30 : decode cX7_witness 30 = .ok (.getfield 40, 3) := by decide +kernel
theorem dX7_witness_33 : decode cX7_witness 33 = .ok (.iload_n 1, 1) := by decide +kernel
theorem dX7_witness_34 : decode cX7_witness 34 = .ok (.iaload, 1) := by decide +kernel
theorem dX7_witness_35 : decode cX7_witness 35 = .ok (.istore_n 3, 1) := by decide +kernel
theorem dX7_witness_36 : decode cX7_witness 36 = .ok (.aload_n 0, 1) := by decide +kernel
theorem dX7_witness_37 : decode cX7_witness 37 = .ok (.getfield 40, 3) := by decide +kernel
theorem dX7_witness_40 : decode cX7_witness 40 = .ok (.iload_n 1, 1) := by decide +kernel
theorem dX7_witness_41 : decode cX7_witness 41 = .ok (.iload_n 2, 1) := by decide +kernel
theorem dX7_witness_42 : decode cX7_witness 42 = .ok (.iastore, 1) := by decide +kernel
theorem dX7_witness_43 : decode cX7_witness 43 = .ok (.iload_n 3, 1) := by decide +kernel
theorem dX7_witness_44 : decode cX7_witness 44 = .ok (.ireturn, 1) := by decide +kernel
theorem dX7_say_0 : decode cX7_say 0 = .ok (.iload_n 1, 1) := by decide +kernel
theorem dX7_say_1 : decode cX7_say 1 = .ok (.i2l, 1) := by decide +kernel
theorem dX7_say_2 : decode cX7_say 2 = .ok (.ldc2_w 131, 3) := by decide +kernel
theorem dX7_say_5 : decode cX7_say 5 = .ok (.ldc2_w 133, 3) := by decide +kernel
theorem dX7_say_8 : decode cX7_say 8 = .ok (.invokestatic 89, 3) := by decide +kernel
theorem dX7_say_11 : decode cX7_say 11 = .ok (.ifCond .ne 6, 3) := by decide +kernel
theorem dX7_say_14 : decode cX7_say 14 = .ok (.bipush (-2), 2) := by decide +kernel
theorem dX7_say_16 : decode cX7_say 16 = .ok (.ireturn, 1) := by decide +kernel
theorem dX7_say_17 : decode cX7_say 17 = .ok (.aload_n 0, 1) := by decide +kernel
theorem dX7_say_18 : decode cX7_say 18 = .ok (.getfield 135, 3) := by decide +kernel
theorem dX7_say_21 : decode cX7_say 21 = .ok (.bipush 60, 2) := by decide +kernel
theorem dX7_say_23 : decode cX7_say 23 = .ok (.if_icmp .ne 6, 3) := by decide +kernel
theorem dX7_say_26 : decode cX7_say 26 = .ok (.bipush (-4), 2) := by decide +kernel
theorem dX7_say_28 : decode cX7_say 28 = .ok (.ireturn, 1) := by decide +kernel
theorem dX7_say_29 : decode cX7_say 29 = .ok (.aload_n 0, 1) := by decide +kernel
theorem dX7_say_30 : decode cX7_say 30 = .ok (.getfield 52, 3) := by decide +kernel
theorem dX7_say_33 : decode cX7_say 33 = .ok (.aload_n 0, 1) := by decide +kernel
theorem dX7_say_34 : decode cX7_say 34 = .ok (.getfield 135, 3) := by decide +kernel
theorem dX7_say_37 : decode cX7_say 37 = .ok (.iload_n 1, 1) := by decide +kernel
theorem dX7_say_38 : decode cX7_say 38 = .ok (.iastore, 1) := by decide +kernel
theorem dX7_say_39 : decode cX7_say 39 = .ok (.aload_n 0, 1) := by decide +kernel
theorem dX7_say_40 : decode cX7_say 40 = .ok (.dup, 1) := by decide +kernel
theorem dX7_say_41 : decode cX7_say 41 = .ok (.getfield 135, 3) := by decide +kernel
theorem dX7_say_44 : decode cX7_say 44 = .ok (.iconst 1, 1) := by decide +kernel
theorem dX7_say_45 : decode cX7_say 45 = .ok (.iadd, 1) := by decide +kernel
theorem dX7_say_46 : decode cX7_say 46 = .ok (.putfield 135, 3) := by decide +kernel
theorem dX7_say_49 : decode cX7_say 49 = .ok (.aload_n 0, 1) := by decide +kernel
theorem dX7_say_50 : decode cX7_say 50 = .ok (.getfield 135, 3) := by decide +kernel
theorem dX7_say_53 : decode cX7_say 53 = .ok (.ireturn, 1) := by decide +kernel
theorem dX7_wipe_0 : decode cX7_wipe 0 = .ok (.aload_n 0, 1) := by decide +kernel
theorem dX7_wipe_1 : decode cX7_wipe 1 = .ok (.getfield 135, 3) := by decide +kernel
theorem dX7_wipe_4 : decode cX7_wipe 4 = .ok (.istore_n 1, 1) := by decide +kernel
theorem dX7_wipe_5 : decode cX7_wipe 5 = .ok (.aload_n 0, 1) := by decide +kernel
theorem dX7_wipe_6 : decode cX7_wipe 6 = .ok (.iconst 0, 1) := by decide +kernel
theorem dX7_wipe_7 : decode cX7_wipe 7 = .ok (.putfield 135, 3) := by decide +kernel
theorem dX7_wipe_10 : decode cX7_wipe 10 = .ok (.iload_n 1, 1) := by decide +kernel
theorem dX7_wipe_11 : decode cX7_wipe 11 = .ok (.ireturn, 1) := by decide +kernel
theorem dX7_isLetter_0 : decode cX7_isLetter 0 = .ok (.iload_n 0, 1) := by decide +kernel
theorem dX7_isLetter_1 : decode cX7_isLetter 1 = .ok (.i2l, 1) := by decide +kernel
theorem dX7_isLetter_2 : decode cX7_isLetter 2 = .ok (.ldc2_w 138, 3) := by decide +kernel
theorem dX7_isLetter_5 : decode cX7_isLetter 5 = .ok (.ldc2_w 140, 3) := by decide +kernel
theorem dX7_isLetter_8 : decode cX7_isLetter 8 = .ok (.invokestatic 89, 3) := by decide +kernel
theorem dX7_isLetter_11 : decode cX7_isLetter 11 = .ok (.ireturn, 1) := by decide +kernel
theorem dX7_isParishLetter_0 : decode cX7_isParishLetter 0 = .ok (.iload_n 0, 1) := by decide +kernel
theorem dX7_isParishLetter_1 : decode cX7_isParishLetter 1 = .ok (.i2l, 1) := by decide +kernel
theorem dX7_isParishLetter_2 : decode cX7_isParishLetter 2 = .ok (.ldc2_w 142, 3) := by decide +kernel
theorem dX7_isParishLetter_5 : decode cX7_isParishLetter 5 = .ok (.ldc2_w 144, 3) := by decide +kernel
theorem dX7_isParishLetter_8 : decode cX7_isParishLetter 8 = .ok (.invokestatic 89, 3) := by decide +kernel
theorem dX7_isParishLetter_11 : decode cX7_isParishLetter 11 = .ok (.ireturn, 1) := by decide +kernel
theorem dX7_close_0 : decode cX7_close 0 = .ok (.aload_n 0, 1) := by decide +kernel
theorem dX7_close_1 : decode cX7_close 1 = .ok (.dup, 1) := by decide +kernel
theorem dX7_close_2 : decode cX7_close 2 = .ok (.getfield 146, 3) := by decide +kernel
theorem dX7_close_5 : decode cX7_close 5 = .ok (.iconst 1, 1) := by decide +kernel
theorem dX7_close_6 : decode cX7_close 6 = .ok (.iadd, 1) := by decide +kernel
theorem dX7_close_7 : decode cX7_close 7 = .ok (.putfield 146, 3) := by decide +kernel
theorem dX7_close_10 : decode cX7_close 10 = .ok (.iconst 0, 1) := by decide +kernel
theorem dX7_close_11 : decode cX7_close 11 = .ok (.ireturn, 1) := by decide +kernel
theorem dX7_begin_0 : decode cX7_begin 0 = .ok (.aload_n 0, 1) := by decide +kernel
theorem dX7_begin_1 : decode cX7_begin 1 = .ok (.getfield 58, 3) := by decide +kernel
theorem dX7_begin_4 : decode cX7_begin 4 = .ok (.aload_n 0, 1) := by decide +kernel
theorem dX7_begin_5 : decode cX7_begin 5 = .ok (.getfield 146, 3) := by decide +kernel
theorem dX7_begin_8 : decode cX7_begin 8 = .ok (.iload_n 1, 1) := by decide +kernel
theorem dX7_begin_9 : decode cX7_begin 9 = .ok (.invokestatic 149, 3) := by decide +kernel
theorem dX7_begin_12 : decode cX7_begin 12 = .ok (.ifCond .eq 10, 3) := by decide +kernel
theorem dX7_begin_15 : decode cX7_begin 15 = .ok (.iload_n 1, 1) := by decide +kernel
theorem dX7_begin_16 : decode cX7_begin 16 = .ok (.bipush 65, 2) := by decide +kernel
theorem dX7_begin_18 : decode cX7_begin 18 = .ok (.isub, 1) := by decide +kernel
theorem dX7_begin_19 : decode cX7_begin 19 = .ok (.goto 4, 3) := by decide +kernel
theorem dX7_begin_22 : decode cX7_begin 22 = .ok (.iconst 0, 1) := by decide +kernel
theorem dX7_begin_23 : decode cX7_begin 23 = .ok (.iastore, 1) := by decide +kernel
theorem dX7_begin_24 : decode cX7_begin 24 = .ok (.aload_n 0, 1) := by decide +kernel
theorem dX7_begin_25 : decode cX7_begin 25 = .ok (.getfield 61, 3) := by decide +kernel
theorem dX7_begin_28 : decode cX7_begin 28 = .ok (.aload_n 0, 1) := by decide +kernel
theorem dX7_begin_29 : decode cX7_begin 29 = .ok (.getfield 146, 3) := by decide +kernel
theorem dX7_begin_32 : decode cX7_begin 32 = .ok (.iconst 0, 1) := by decide +kernel
theorem dX7_begin_33 : decode cX7_begin 33 = .ok (.iastore, 1) := by decide +kernel
theorem dX7_begin_34 : decode cX7_begin 34 = .ok (.aload_n 0, 1) := by decide +kernel
theorem dX7_begin_35 : decode cX7_begin 35 = .ok (.getfield 64, 3) := by decide +kernel
theorem dX7_begin_38 : decode cX7_begin 38 = .ok (.aload_n 0, 1) := by decide +kernel
theorem dX7_begin_39 : decode cX7_begin 39 = .ok (.getfield 146, 3) := by decide +kernel
theorem dX7_begin_42 : decode cX7_begin 42 = .ok (.iconst 0, 1) := by decide +kernel
theorem dX7_begin_43 : decode cX7_begin 43 = .ok (.iastore, 1) := by decide +kernel
theorem dX7_begin_44 : decode cX7_begin 44 = .ok (.aload_n 0, 1) := by decide +kernel
theorem dX7_begin_45 : decode cX7_begin 45 = .ok (.getfield 55, 3) := by decide +kernel
theorem dX7_begin_48 : decode cX7_begin 48 = .ok (.aload_n 0, 1) := by decide +kernel
theorem dX7_begin_49 : decode cX7_begin 49 = .ok (.getfield 146, 3) := by decide +kernel
theorem dX7_begin_52 : decode cX7_begin 52 = .ok (.iload_n 1, 1) := by decide +kernel
theorem dX7_begin_53 : decode cX7_begin 53 = .ok (.bipush 46, 2) := by decide +kernel
theorem dX7_begin_55 : decode cX7_begin 55 = .ok (.if_icmp .ne 8, 3) := by decide +kernel
theorem dX7_begin_58 : decode cX7_begin 58 = .ok (.bipush 7, 2) := by decide +kernel
theorem dX7_begin_60 : decode cX7_begin 60 = .ok (.goto 5, 3) := by decide +kernel
theorem dX7_begin_63 : decode cX7_begin 63 = .ok (.bipush 6, 2) := by decide +kernel
theorem dX7_begin_65 : decode cX7_begin 65 = .ok (.iastore, 1) := by decide +kernel
theorem dX7_begin_66 : decode cX7_begin 66 = .ok (.iload_n 1, 1) := by decide +kernel
theorem dX7_begin_67 : decode cX7_begin 67 = .ok (.invokestatic 149, 3) := by decide +kernel
theorem dX7_begin_70 : decode cX7_begin 70 = .ok (.ifCond .eq 7, 3) := by decide +kernel
theorem dX7_begin_73 : decode cX7_begin 73 = .ok (.iconst 1, 1) := by decide +kernel
theorem dX7_begin_74 : decode cX7_begin 74 = .ok (.goto 28, 3) := by decide +kernel
theorem dX7_begin_77 : decode cX7_begin 77 = .ok (.iload_n 1, 1) := by decide +kernel
theorem dX7_begin_78 : decode cX7_begin 78 = .ok (.bipush 102, 2) := by decide +kernel
theorem dX7_begin_80 : decode cX7_begin 80 = .ok (.if_icmp .ne 7, 3) := by decide +kernel
theorem dX7_begin_83 : decode cX7_begin 83 = .ok (.iconst 2, 1) := by decide +kernel
theorem dX7_begin_84 : decode cX7_begin 84 = .ok (.goto 18, 3) := by decide +kernel
theorem dX7_begin_87 : decode cX7_begin 87 = .ok (.iload_n 1, 1) := by decide +kernel
theorem dX7_begin_88 : decode cX7_begin 88 = .ok (.bipush 46, 2) := by decide +kernel
theorem dX7_begin_90 : decode cX7_begin 90 = .ok (.if_icmp .ne 10, 3) := by decide +kernel
theorem dX7_begin_93 : decode cX7_begin 93 = .ok (.aload_n 0, 1) := by decide +kernel
theorem dX7_begin_94 : decode cX7_begin 94 = .ok (.invokevirtual 152, 3) := by decide +kernel
theorem dX7_begin_97 : decode cX7_begin 97 = .ok (.goto 5, 3) := by decide +kernel
theorem dX7_begin_100 : decode cX7_begin 100 = .ok (.bipush (-6), 2) := by decide +kernel
theorem dX7_begin_102 : decode cX7_begin 102 = .ok (.ireturn, 1) := by decide +kernel
theorem dX7_deed_0 : decode cX7_deed 0 = .ok (.iload_n 1, 1) := by decide +kernel
theorem dX7_deed_1 : decode cX7_deed 1 = .ok (.i2l, 1) := by decide +kernel
theorem dX7_deed_2 : decode cX7_deed 2 = .ok (.ldc2_w 156, 3) := by decide +kernel
theorem dX7_deed_5 : decode cX7_deed 5 = .ok (.ldc2_w 158, 3) := by decide +kernel
theorem dX7_deed_8 : decode cX7_deed 8 = .ok (.invokestatic 89, 3) := by decide +kernel
theorem dX7_deed_11 : decode cX7_deed 11 = .ok (.ifCond .eq 28, 3) := by decide +kernel
theorem dX7_deed_14 : decode cX7_deed 14 = .ok (.aload_n 0, 1) := by decide +kernel
theorem dX7_deed_15 : decode cX7_deed 15 = .ok (.getfield 55, 3) := by decide +kernel
theorem dX7_deed_18 : decode cX7_deed 18 = .ok (.aload_n 0, 1) := by decide +kernel
theorem dX7_deed_19 : decode cX7_deed 19 = .ok (.getfield 146, 3) := by decide +kernel
theorem dX7_deed_22 : decode cX7_deed 22 = .ok (.iconst 5, 1) := by decide +kernel
theorem dX7_deed_23 : decode cX7_deed 23 = .ok (.iastore, 1) := by decide +kernel
theorem dX7_deed_24 : decode cX7_deed 24 = .ok (.aload_n 0, 1) := by decide +kernel
theorem dX7_deed_25 : decode cX7_deed 25 = .ok (.getfield 64, 3) := by decide +kernel
theorem dX7_deed_28 : decode cX7_deed 28 = .ok (.aload_n 0, 1) := by decide +kernel
theorem dX7_deed_29 : decode cX7_deed 29 = .ok (.getfield 146, 3) := by decide +kernel
theorem dX7_deed_32 : decode cX7_deed 32 = .ok (.iload_n 1, 1) := by decide +kernel
theorem dX7_deed_33 : decode cX7_deed 33 = .ok (.bipush 48, 2) := by decide +kernel
theorem dX7_deed_35 : decode cX7_deed 35 = .ok (.isub, 1) := by decide +kernel
theorem dX7_deed_36 : decode cX7_deed 36 = .ok (.iastore, 1) := by decide +kernel
theorem dX7_deed_37 : decode cX7_deed 37 = .ok (.iconst 4, 1) := by decide +kernel
theorem dX7_deed_38 : decode cX7_deed 38 = .ok (.ireturn, 1) := by decide +kernel
theorem dX7_deed_39 : decode cX7_deed 39 = .ok (.iload_n 1, 1) := by decide +kernel
theorem dX7_deed_40 : decode cX7_deed 40 = .ok (.bipush 119, 2) := by decide +kernel
theorem dX7_deed_42 : decode cX7_deed 42 = .ok (.if_icmp .ne 7, 3) := by decide +kernel
