theorem dX0_init_0 : decode cX0_init 0 = .ok (.aload_n 0, 1) := by decide +kernel
theorem dX0_init_1 : decode cX0_init 1 = .ok (.invokespecial 1, 3) := by decide +kernel
theorem dX0_init_4 : decode cX0_init 4 = .ok (.return_, 1) := by decide +kernel
theorem dX0_put_0 : decode cX0_put 0 = .ok (.aload_n 0, 1) := by decide +kernel
theorem dX0_put_1 : decode cX0_put 1 = .ok (.iload_n 1, 1) := by decide +kernel
theorem dX0_put_2 : decode cX0_put 2 = .ok (.putfield 7, 3) := by decide +kernel
theorem dX0_put_5 : decode cX0_put 5 = .ok (.aload_n 0, 1) := by decide +kernel
theorem dX0_put_6 : decode cX0_put 6 = .ok (.iload_n 2, 1) := by decide +kernel
theorem dX0_put_7 : decode cX0_put 7 = .ok (.putfield 13, 3) := by decide +kernel
theorem dX0_put_10 : decode cX0_put 10 = .ok (.aload_n 0, 1) := by decide +kernel
theorem dX0_put_11 : decode cX0_put 11 = .ok (.iload_n 3, 1) := by decide +kernel
theorem dX0_put_12 : decode cX0_put 12 = .ok (.putfield 16, 3) := by decide +kernel
theorem dX0_put_15 : decode cX0_put 15 = .ok (.aload_n 0, 1) := by decide +kernel
theorem dX0_put_16 : decode cX0_put 16 = .ok (.iload 4, 2) := by decide +kernel
theorem dX0_put_18 : decode cX0_put 18 = .ok (.putfield 19, 3) := by decide +kernel
theorem dX0_put_21 : decode cX0_put 21 = .ok (.return_, 1) := by decide +kernel
theorem dX0_draw_0 : decode cX0_draw 0 = .ok (.aload_n 0, 1) := by decide +kernel
theorem dX0_draw_1 : decode cX0_draw 1 = .ok (.iload_n 1, 1) := by decide +kernel
theorem dX0_draw_2 : decode cX0_draw 2 = .ok (.bipush 6, 2) := by decide +kernel
theorem dX0_draw_4 : decode cX0_draw 4 = .ok (.idiv, 1) := by decide +kernel
theorem dX0_draw_5 : decode cX0_draw 5 = .ok (.bipush 8, 2) := by decide +kernel
theorem dX0_draw_7 : decode cX0_draw 7 = .ok (.irem, 1) := by decide +kernel
theorem dX0_draw_8 : decode cX0_draw 8 = .ok (.invokestatic 22, 3) := by decide +kernel
theorem dX0_draw_11 : decode cX0_draw 11 = .ok (.iload_n 1, 1) := by decide +kernel
theorem dX0_draw_12 : decode cX0_draw 12 = .ok (.bipush 6, 2) := by decide +kernel
theorem dX0_draw_14 : decode cX0_draw 14 = .ok (.irem, 1) := by decide +kernel
theorem dX0_draw_15 : decode cX0_draw 15 = .ok (.iload_n 1, 1) := by decide +kernel
theorem dX0_draw_16 : decode cX0_draw 16 = .ok (.bipush 48, 2) := by decide +kernel
theorem dX0_draw_18 : decode cX0_draw 18 = .ok (.idiv, 1) := by decide +kernel
theorem dX0_draw_19 : decode cX0_draw 19 = .ok (.bipush 8, 2) := by decide +kernel
theorem dX0_draw_21 : decode cX0_draw 21 = .ok (.irem, 1) := by decide +kernel
theorem dX0_draw_22 : decode cX0_draw 22 = .ok (.iload_n 1, 1) := by decide +kernel
theorem dX0_draw_23 : decode cX0_draw 23 = .ok (.sipush 384, 3) := by decide +kernel
theorem dX0_draw_26 : decode cX0_draw 26 = .ok (.idiv, 1) := by decide +kernel
theorem dX0_draw_27 : decode cX0_draw 27 = .ok (.iconst 4, 1) := by decide +kernel
theorem dX0_draw_28 : decode cX0_draw 28 = .ok (.irem, 1) := by decide +kernel
theorem dX0_draw_29 : decode cX0_draw 29 = .ok (.invokevirtual 26, 3) := by decide +kernel
theorem dX0_draw_32 : decode cX0_draw 32 = .ok (.return_, 1) := by decide +kernel
theorem dX0_drawnKind_0 : decode cX0_drawnKind 0 = .ok (.iload_n 0, 1) := by decide +kernel
theorem dX0_drawnKind_1 : decode cX0_drawnKind 1 = .ok (.tableswitch 51 0 6 #[43, 43, 43, 45, 45, 47, 49], 43) := by decide +kernel
theorem dX0_drawnKind_44 : decode cX0_drawnKind 44 = .ok (.iconst 0, 1) := by decide +kernel
theorem dX0_drawnKind_45 : decode cX0_drawnKind 45 = .ok (.ireturn, 1) := by decide +kernel
theorem dX0_drawnKind_46 : decode cX0_drawnKind 46 = .ok (.iconst 1, 1) := by decide +kernel
theorem dX0_drawnKind_47 : decode cX0_drawnKind 47 = .ok (.ireturn, 1) := by decide +kernel
theorem dX0_drawnKind_48 : decode cX0_drawnKind 48 = .ok (.iconst 2, 1) := by decide +kernel
theorem dX0_drawnKind_49 : decode cX0_drawnKind 49 = .ok (.ireturn, 1) := by decide +kernel
theorem dX0_drawnKind_50 : decode cX0_drawnKind 50 = .ok (.iconst 3, 1) := by decide +kernel
theorem dX0_drawnKind_51 : decode cX0_drawnKind 51 = .ok (.ireturn, 1) := by decide +kernel
theorem dX0_drawnKind_52 : decode cX0_drawnKind 52 = .ok (.iconst 5, 1) := by decide +kernel
theorem dX0_drawnKind_53 : decode cX0_drawnKind 53 = .ok (.ireturn, 1) := by decide +kernel
theorem dX1_init_0 : decode cX1_init 0 = .ok (.aload_n 0, 1) := by decide +kernel
theorem dX1_init_1 : decode cX1_init 1 = .ok (.invokespecial 3, 3) := by decide +kernel
theorem dX1_init_4 : decode cX1_init 4 = .ok (.aload_n 0, 1) := by decide +kernel
theorem dX1_init_5 : decode cX1_init 5 = .ok (.bipush 81, 2) := by decide +kernel
theorem dX1_init_7 : decode cX1_init 7 = .ok (.newarray .long, 2) := by decide +kernel
theorem dX1_init_9 : decode cX1_init 9 = .ok (.putfield 11, 3) := by decide +kernel
theorem dX1_init_12 : decode cX1_init 12 = .ok (.return_, 1) := by decide +kernel
theorem dX1_spread_0 : decode cX1_spread 0 = .ok (.iconst 0, 1) := by decide +kernel
theorem dX1_spread_1 : decode cX1_spread 1 = .ok (.istore 5, 2) := by decide +kernel
theorem dX1_spread_3 : decode cX1_spread 3 = .ok (.iload 5, 2) := by decide +kernel
theorem dX1_spread_5 : decode cX1_spread 5 = .ok (.bipush 81, 2) := by decide +kernel
theorem dX1_spread_7 : decode cX1_spread 7 = .ok (.if_icmp .ge 17, 3) := by decide +kernel
theorem dX1_spread_10 : decode cX1_spread 10 = .ok (.aload_n 0, 1) := by decide +kernel
theorem dX1_spread_11 : decode cX1_spread 11 = .ok (.getfield 11, 3) := by decide +kernel
theorem dX1_spread_14 : decode cX1_spread 14 = .ok (.iload 5, 2) := by decide +kernel
theorem dX1_spread_16 : decode cX1_spread 16 = .ok (.lconst 0, 1) := by decide +kernel
theorem dX1_spread_17 : decode cX1_spread 17 = .ok (.lastore, 1) := by decide +kernel
theorem dX1_spread_18 : decode cX1_spread 18 = .ok (.iinc 5 1, 3) := by decide +kernel
theorem dX1_spread_21 : decode cX1_spread 21 = .ok (.goto (-18), 3) := by decide +kernel
theorem dX1_spread_24 : decode cX1_spread 24 = .ok (.aload_n 0, 1) := by decide +kernel
theorem dX1_spread_25 : decode cX1_spread 25 = .ok (.getfield 11, 3) := by decide +kernel
theorem dX1_spread_28 : decode cX1_spread 28 = .ok (.iconst 0, 1) := by decide +kernel
theorem dX1_spread_29 : decode cX1_spread 29 = .ok (.lconst 1, 1) := by decide +kernel
theorem dX1_spread_30 : decode cX1_spread 30 = .ok (.lastore, 1) := by decide +kernel
theorem dX1_spread_31 : decode cX1_spread 31 = .ok (.iconst 0, 1) := by decide +kernel
theorem dX1_spread_32 : decode cX1_spread 32 = .ok (.istore 5, 2) := by decide +kernel
theorem dX1_spread_34 : decode cX1_spread 34 = .ok (.iload 5, 2) := by decide +kernel
theorem dX1_spread_36 : decode cX1_spread 36 = .ok (.iload_n 1, 1) := by decide +kernel
theorem dX1_spread_37 : decode cX1_spread 37 = .ok (.if_icmp .ge 26, 3) := by decide +kernel
theorem dX1_spread_40 : decode cX1_spread 40 = .ok (.aload_n 0, 1) := by decide +kernel
theorem dX1_spread_41 : decode cX1_spread 41 = .ok (.iload_n 2, 1) := by decide +kernel
theorem dX1_spread_42 : decode cX1_spread 42 = .ok (.iload 5, 2) := by decide +kernel
theorem dX1_spread_44 : decode cX1_spread 44 = .ok (.iload 4, 2) := by decide +kernel
theorem dX1_spread_46 : decode cX1_spread 46 = .ok (.if_icmp .ge 7, 3) := by decide +kernel
theorem dX1_spread_49 : decode cX1_spread 49 = .ok (.iconst 0, 1) := by decide +kernel
theorem dX1_spread_50 : decode cX1_spread 50 = .ok (.goto 4, 3) := by decide +kernel
theorem dX1_spread_53 : decode cX1_spread 53 = .ok (.iload_n 3, 1) := by decide +kernel
theorem dX1_spread_54 : decode cX1_spread 54 = .ok (.invokevirtual 15, 3) := by decide +kernel
theorem dX1_spread_57 : decode cX1_spread 57 = .ok (.iinc 5 1, 3) := by decide +kernel
theorem dX1_spread_60 : decode cX1_spread 60 = .ok (.goto (-26), 3) := by decide +kernel
theorem dX1_spread_63 : decode cX1_spread 63 = .ok (.return_, 1) := by decide +kernel
theorem dX1_addYear_0 : decode cX1_addYear 0 = .ok (.bipush 10, 2) := by decide +kernel
theorem dX1_addYear_2 : decode cX1_addYear 2 = .ok (.iload_n 1, 1) := by decide +kernel
theorem dX1_addYear_3 : decode cX1_addYear 3 = .ok (.isub, 1) := by decide +kernel
theorem dX1_addYear_4 : decode cX1_addYear 4 = .ok (.iload_n 2, 1) := by decide +kernel
theorem dX1_addYear_5 : decode cX1_addYear 5 = .ok (.isub, 1) := by decide +kernel
theorem dX1_addYear_6 : decode cX1_addYear 6 = .ok (.istore_n 3, 1) := by decide +kernel
theorem dX1_addYear_7 : decode cX1_addYear 7 = .ok (.bipush 8, 2) := by decide +kernel
theorem dX1_addYear_9 : decode cX1_addYear 9 = .ok (.istore 4, 2) := by decide +kernel
theorem dX1_addYear_11 : decode cX1_addYear 11 = .ok (.iload 4, 2) := by decide +kernel
theorem dX1_addYear_13 : decode cX1_addYear 13 = .ok (.ifCond .lt 113, 3) := by decide +kernel
theorem dX1_addYear_16 : decode cX1_addYear 16 = .ok (.bipush 8, 2) := by decide +kernel
theorem dX1_addYear_18 : decode cX1_addYear 18 = .ok (.istore 5, 2) := by decide +kernel
theorem dX1_addYear_20 : decode cX1_addYear 20 = .ok (.iload 5, 2) := by decide +kernel
theorem dX1_addYear_22 : decode cX1_addYear 22 = .ok (.ifCond .lt 98, 3) := by decide +kernel
theorem dX1_addYear_25 : decode cX1_addYear 25 = .ok (.aload_n 0, 1) := by decide +kernel
theorem dX1_addYear_26 : decode cX1_addYear 26 = .ok (.getfield 11, 3) := by decide +kernel
theorem dX1_addYear_29 : decode cX1_addYear 29 = .ok (.iload 4, 2) := by decide +kernel
theorem dX1_addYear_31 : decode cX1_addYear 31 = .ok (.bipush 9, 2) := by decide +kernel
theorem dX1_addYear_33 : decode cX1_addYear 33 = .ok (.imul, 1) := by decide +kernel
theorem dX1_addYear_34 : decode cX1_addYear 34 = .ok (.iload 5, 2) := by decide +kernel
theorem dX1_addYear_36 : decode cX1_addYear 36 = .ok (.iadd, 1) := by decide +kernel
theorem dX1_addYear_37 : decode cX1_addYear 37 = .ok (.laload, 1) := by decide +kernel
theorem dX1_addYear_38 : decode cX1_addYear 38 = .ok (.iload_n 3, 1) := by decide +kernel
theorem dX1_addYear_39 : decode cX1_addYear 39 = .ok (.i2l, 1) := by decide +kernel
theorem dX1_addYear_40 : decode cX1_addYear 40 = .ok (.lmul, 1) := by decide +kernel
theorem dX1_addYear_41 : decode cX1_addYear 41 = .ok (.lstore 6, 2) := by decide +kernel
theorem dX1_addYear_43 : decode cX1_addYear 43 = .ok (.iload 4, 2) := by decide +kernel
theorem dX1_addYear_45 : decode cX1_addYear 45 = .ok (.ifCond .le 26, 3) := by decide +kernel
theorem dX1_addYear_48 : decode cX1_addYear 48 = .ok (.lload 6, 2) := by decide +kernel
theorem dX1_addYear_50 : decode cX1_addYear 50 = .ok (.aload_n 0, 1) := by decide +kernel
theorem dX1_addYear_51 : decode cX1_addYear 51 = .ok (.getfield 11, 3) := by decide +kernel
theorem dX1_addYear_54 : decode cX1_addYear 54 = .ok (.iload 4, 2) := by decide +kernel
theorem dX1_addYear_56 : decode cX1_addYear 56 = .ok (.iconst 1, 1) := by decide +kernel
theorem dX1_addYear_57 : decode cX1_addYear 57 = .ok (.isub, 1) := by decide +kernel
theorem dX1_addYear_58 : decode cX1_addYear 58 = .ok (.bipush 9, 2) := by decide +kernel
theorem dX1_addYear_60 : decode cX1_addYear 60 = .ok (.imul, 1) := by decide +kernel
theorem dX1_addYear_61 : decode cX1_addYear 61 = .ok (.iload 5, 2) := by decide +kernel
theorem dX1_addYear_63 : decode cX1_addYear 63 = .ok (.iadd, 1) := by decide +kernel
theorem dX1_addYear_64 : decode cX1_addYear 64 = .ok (.laload, 1) := by decide +kernel
theorem dX1_addYear_65 : decode cX1_addYear 65 = .ok (.iload_n 1, 1) := by decide +kernel
theorem dX1_addYear_66 : decode cX1_addYear 66 = .ok (.i2l, 1) := by decide +kernel
theorem dX1_addYear_67 : decode cX1_addYear 67 = .ok (.lmul, 1) := by decide +kernel
theorem dX1_addYear_68 : decode cX1_addYear 68 = .ok (.ladd, 1) := by decide +kernel
theorem dX1_addYear_69 : decode cX1_addYear 69 = .ok (.lstore 6, 2) := by decide +kernel
theorem dX1_addYear_71 : decode cX1_addYear 71 = .ok (.iload 5, 2) := by decide +kernel
theorem dX1_addYear_73 : decode cX1_addYear 73 = .ok (.ifCond .le 26, 3) := by decide +kernel
theorem dX1_addYear_76 : decode cX1_addYear 76 = .ok (.lload 6, 2) := by decide +kernel
theorem dX1_addYear_78 : decode cX1_addYear 78 = .ok (.aload_n 0, 1) := by decide +kernel
theorem dX1_addYear_79 : decode cX1_addYear 79 = .ok (.getfield 11, 3) := by decide +kernel
theorem dX1_addYear_82 : decode cX1_addYear 82 = .ok (.iload 4, 2) := by decide +kernel
theorem dX1_addYear_84 : decode cX1_addYear 84 = .ok (.bipush 9, 2) := by decide +kernel
theorem dX1_addYear_86 : decode cX1_addYear 86 = .ok (.imul, 1) := by decide +kernel
theorem dX1_addYear_87 : decode cX1_addYear 87 = .ok (.iload 5, 2) := by decide +kernel
theorem dX1_addYear_89 : decode cX1_addYear 89 = .ok (.iadd, 1) := by decide +kernel
theorem dX1_addYear_90 : decode cX1_addYear 90 = .ok (.iconst 1, 1) := by decide +kernel
theorem dX1_addYear_91 : decode cX1_addYear 91 = .ok (.isub, 1) := by decide +kernel
theorem dX1_addYear_92 : decode cX1_addYear 92 = .ok (.laload, 1) := by decide +kernel
theorem dX1_addYear_93 : decode cX1_addYear 93 = .ok (.iload_n 2, 1) := by decide +kernel
theorem dX1_addYear_94 : decode cX1_addYear 94 = .ok (.i2l, 1) := by decide +kernel
theorem dX1_addYear_95 : decode cX1_addYear 95 = .ok (.lmul, 1) := by decide +kernel
theorem dX1_addYear_96 : decode cX1_addYear 96 = .ok (.ladd, 1) := by decide +kernel
theorem dX1_addYear_97 : decode cX1_addYear 97 = .ok (.lstore 6, 2) := by decide +kernel
theorem dX1_addYear_99 : decode cX1_addYear 99 = .ok (.aload_n 0, 1) := by decide +kernel
theorem dX1_addYear_100 : decode cX1_addYear 100 = .ok (.getfield 11, 3) := by decide +kernel
theorem dX1_addYear_103 : decode cX1_addYear 103 = .ok (.iload 4, 2) := by decide +kernel
theorem dX1_addYear_105 : decode cX1_addYear 105 = .ok (.bipush 9, 2) := by decide +kernel
theorem dX1_addYear_107 : decode cX1_addYear 107 = .ok (.imul, 1) := by decide +kernel
theorem dX1_addYear_108 : decode cX1_addYear 108 = .ok (.iload 5, 2) := by decide +kernel
theorem dX1_addYear_110 : decode cX1_addYear 110 = .ok (.iadd, 1) := by decide +kernel
theorem dX1_addYear_111 : decode cX1_addYear 111 = .ok (.lload 6, 2) := by decide +kernel
theorem dX1_addYear_113 : decode cX1_addYear 113 = .ok (.lastore, 1) := by decide +kernel
theorem dX1_addYear_114 : decode cX1_addYear 114 = .ok (.iinc 5 (-1), 3) := by decide +kernel
theorem dX1_addYear_117 : decode cX1_addYear 117 = .ok (.goto (-97), 3) := by decide +kernel
theorem dX1_addYear_120 : decode cX1_addYear 120 = .ok (.iinc 4 (-1), 3) := by decide +kernel
theorem dX1_addYear_123 : decode cX1_addYear 123 = .ok (.goto (-112), 3) := by decide +kernel
theorem dX1_addYear_126 : decode cX1_addYear 126 = .ok (.return_, 1) := by decide +kernel
theorem dX1_waysToSaint_0 : decode cX1_waysToSaint 0 = .ok (.lconst 0, 1) := by decide +kernel
theorem dX1_waysToSaint_1 : decode cX1_waysToSaint 1 = .ok (.lstore_n 3, 1) := by decide +kernel
theorem dX1_waysToSaint_2 : decode cX1_waysToSaint 2 = .ok (.iconst 0, 1) := by decide +kernel
theorem dX1_waysToSaint_3 : decode cX1_waysToSaint 3 = .ok (.istore 5, 2) := by decide +kernel
theorem dX1_waysToSaint_5 : decode cX1_waysToSaint 5 = .ok (.iload 5, 2) := by decide +kernel
theorem dX1_waysToSaint_7 : decode cX1_waysToSaint 7 = .ok (.bipush 9, 2) := by decide +kernel
theorem dX1_waysToSaint_9 : decode cX1_waysToSaint 9 = .ok (.if_icmp .ge 67, 3) := by decide +kernel
theorem dX1_waysToSaint_12 : decode cX1_waysToSaint 12 = .ok (.iconst 0, 1) := by decide +kernel
theorem dX1_waysToSaint_13 : decode cX1_waysToSaint 13 = .ok (.istore 6, 2) := by decide +kernel
theorem dX1_waysToSaint_15 : decode cX1_waysToSaint 15 = .ok (.iload 6, 2) := by decide +kernel
theorem dX1_waysToSaint_17 : decode cX1_waysToSaint 17 = .ok (.bipush 9, 2) := by decide +kernel
theorem dX1_waysToSaint_19 : decode cX1_waysToSaint 19 = .ok (.if_icmp .ge 51, 3) := by decide +kernel
theorem dX1_waysToSaint_22 : decode cX1_waysToSaint 22 = .ok (.aload_n 1, 1) := by decide +kernel
theorem dX1_waysToSaint_23 : decode cX1_waysToSaint 23 = .ok (.iload_n 2, 1) := by decide +kernel
theorem dX1_waysToSaint_24 : decode cX1_waysToSaint 24 = .ok (.aload_n 1, 1) := by decide +kernel
theorem dX1_waysToSaint_25 : decode cX1_waysToSaint 25 = .ok (.getfield 19, 3) := by decide +kernel
theorem dX1_waysToSaint_28 : decode cX1_waysToSaint 28 = .ok (.iload_n 2, 1) := by decide +kernel
theorem dX1_waysToSaint_29 : decode cX1_waysToSaint 29 = .ok (.iaload, 1) := by decide +kernel
theorem dX1_waysToSaint_30 : decode cX1_waysToSaint 30 = .ok (.iload 5, 2) := by decide +kernel
theorem dX1_waysToSaint_32 : decode cX1_waysToSaint 32 = .ok (.iadd, 1) := by decide +kernel
theorem dX1_waysToSaint_33 : decode cX1_waysToSaint 33 = .ok (.aload_n 1, 1) := by decide +kernel
theorem dX1_waysToSaint_34 : decode cX1_waysToSaint 34 = .ok (.getfield 25, 3) := by decide +kernel
theorem dX1_waysToSaint_37 : decode cX1_waysToSaint 37 = .ok (.iload_n 2, 1) := by decide +kernel
theorem dX1_waysToSaint_38 : decode cX1_waysToSaint 38 = .ok (.iaload, 1) := by decide +kernel
theorem dX1_waysToSaint_39 : decode cX1_waysToSaint 39 = .ok (.iload 6, 2) := by decide +kernel
theorem dX1_waysToSaint_41 : decode cX1_waysToSaint 41 = .ok (.iadd, 1) := by decide +kernel
theorem dX1_waysToSaint_42 : decode cX1_waysToSaint 42 = .ok (.invokevirtual 28, 3) := by decide +kernel
theorem dX1_waysToSaint_45 : decode cX1_waysToSaint 45 = .ok (.ifCond .eq 19, 3) := by decide +kernel
theorem dX1_waysToSaint_48 : decode cX1_waysToSaint 48 = .ok (.lload_n 3, 1) := by decide +kernel
theorem dX1_waysToSaint_49 : decode cX1_waysToSaint 49 = .ok (.aload_n 0, 1) := by decide +kernel
theorem dX1_waysToSaint_50 : decode cX1_waysToSaint 50 = .ok (.getfield 11, 3) := by decide +kernel
theorem dX1_waysToSaint_53 : decode cX1_waysToSaint 53 = .ok (.iload 5, 2) := by decide +kernel
theorem dX1_waysToSaint_55 : decode cX1_waysToSaint 55 = .ok (.bipush 9, 2) := by decide +kernel
theorem dX1_waysToSaint_57 : decode cX1_waysToSaint 57 = .ok (.imul, 1) := by decide +kernel
theorem dX1_waysToSaint_58 : decode cX1_waysToSaint 58 = .ok (.iload 6, 2) := by decide +kernel
theorem dX1_waysToSaint_60 : decode cX1_waysToSaint 60 = .ok (.iadd, 1) := by decide +kernel
theorem dX1_waysToSaint_61 : decode cX1_waysToSaint 61 = .ok (.laload, 1) := by decide +kernel
theorem dX1_waysToSaint_62 : decode cX1_waysToSaint 62 = .ok (.ladd, 1) := by decide +kernel
theorem dX1_waysToSaint_63 : decode cX1_waysToSaint 63 = .ok (.lstore_n 3, 1) := by decide +kernel
theorem dX1_waysToSaint_64 : decode cX1_waysToSaint 64 = .ok (.iinc 6 1, 3) := by decide +kernel
theorem dX1_waysToSaint_67 : decode cX1_waysToSaint 67 = .ok (.goto (-52), 3) := by decide +kernel
theorem dX1_waysToSaint_70 : decode cX1_waysToSaint 70 = .ok (.iinc 5 1, 3) := by decide +kernel
theorem dX1_waysToSaint_73 : decode cX1_waysToSaint 73 = .ok (.goto (-68), 3) := by decide +kernel
theorem dX1_waysToSaint_76 : decode cX1_waysToSaint 76 = .ok (.lload_n 3, 1) := by decide +kernel
theorem dX1_waysToSaint_77 : decode cX1_waysToSaint 77 = .ok (.lreturn, 1) := by decide +kernel
theorem dX1_allWays_0 : decode cX1_allWays 0 = .ok (.lconst 1, 1) := by decide +kernel
theorem dX1_allWays_1 : decode cX1_allWays 1 = .ok (.lstore_n 2, 1) := by decide +kernel
theorem dX1_allWays_2 : decode cX1_allWays 2 = .ok (.iconst 0, 1) := by decide +kernel
theorem dX1_allWays_3 : decode cX1_allWays 3 = .ok (.istore 4, 2) := by decide +kernel
theorem dX1_allWays_5 : decode cX1_allWays 5 = .ok (.iload 4, 2) := by decide +kernel
theorem dX1_allWays_7 : decode cX1_allWays 7 = .ok (.iload_n 1, 1) := by decide +kernel
theorem dX1_allWays_8 : decode cX1_allWays 8 = .ok (.if_icmp .ge 15, 3) := by decide +kernel
theorem dX1_allWays_11 : decode cX1_allWays 11 = .ok (.lload_n 2, 1) := by decide +kernel
theorem dX1_allWays_12 : decode cX1_allWays 12 = .ok (.ldc2_w 32, 3) := by decide +kernel
theorem dX1_allWays_15 : decode cX1_allWays 15 = .ok (.lmul, 1) := by decide +kernel
theorem dX1_allWays_16 : decode cX1_allWays 16 = .ok (.lstore_n 2, 1) := by decide +kernel
theorem dX1_allWays_17 : decode cX1_allWays 17 = .ok (.iinc 4 1, 3) := by decide +kernel
theorem dX1_allWays_20 : decode cX1_allWays 20 = .ok (.goto (-15), 3) := by decide +kernel
theorem dX1_allWays_23 : decode cX1_allWays 23 = .ok (.lload_n 2, 1) := by decide +kernel
theorem dX1_allWays_24 : decode cX1_allWays 24 = .ok (.lreturn, 1) := by decide +kernel
theorem dX2_init_0 : decode cX2_init 0 = .ok (.aload_n 0, 1) := by decide +kernel
theorem dX2_init_1 : decode cX2_init 1 = .ok (.invokespecial 3, 3) := by decide +kernel
theorem dX2_init_4 : decode cX2_init 4 = .ok (.aload_n 0, 1) := by decide +kernel
theorem dX2_init_5 : decode cX2_init 5 = .ok (.bipush 6, 2) := by decide +kernel
theorem dX2_init_7 : decode cX2_init 7 = .ok (.newarray .int, 2) := by decide +kernel
theorem dX2_init_9 : decode cX2_init 9 = .ok (.putfield 9, 3) := by decide +kernel
theorem dX2_init_12 : decode cX2_init 12 = .ok (.aload_n 0, 1) := by decide +kernel
theorem dX2_init_13 : decode cX2_init 13 = .ok (.bipush 6, 2) := by decide +kernel
theorem dX2_init_15 : decode cX2_init 15 = .ok (.newarray .int, 2) := by decide +kernel
theorem dX2_init_17 : decode cX2_init 17 = .ok (.putfield 15, 3) := by decide +kernel
theorem dX2_init_20 : decode cX2_init 20 = .ok (.aload_n 0, 1) := by decide +kernel
theorem dX2_init_21 : decode cX2_init 21 = .ok (.bipush 6, 2) := by decide +kernel
theorem dX2_init_23 : decode cX2_init 23 = .ok (.newarray .int, 2) := by decide +kernel
theorem dX2_init_25 : decode cX2_init 25 = .ok (.putfield 18, 3) := by decide +kernel
theorem dX2_init_28 : decode cX2_init 28 = .ok (.aload_n 0, 1) := by decide +kernel
theorem dX2_init_29 : decode cX2_init 29 = .ok (.bipush 48, 2) := by decide +kernel
theorem dX2_init_31 : decode cX2_init 31 = .ok (.newarray .int, 2) := by decide +kernel
theorem dX2_init_33 : decode cX2_init 33 = .ok (.putfield 21, 3) := by decide +kernel
theorem dX2_init_36 : decode cX2_init 36 = .ok (.aload_n 0, 1) := by decide +kernel
theorem dX2_init_37 : decode cX2_init 37 = .ok (.bipush 6, 2) := by decide +kernel
theorem dX2_init_39 : decode cX2_init 39 = .ok (.newarray .int, 2) := by decide +kernel
theorem dX2_init_41 : decode cX2_init 41 = .ok (.putfield 24, 3) := by decide +kernel
theorem dX2_init_44 : decode cX2_init 44 = .ok (.aload_n 0, 1) := by decide +kernel
theorem dX2_init_45 : decode cX2_init 45 = .ok (.bipush 6, 2) := by decide +kernel
theorem dX2_init_47 : decode cX2_init 47 = .ok (.newarray .int, 2) := by decide +kernel
theorem dX2_init_49 : decode cX2_init 49 = .ok (.putfield 27, 3) := by decide +kernel
theorem dX2_init_52 : decode cX2_init 52 = .ok (.aload_n 0, 1) := by decide +kernel
theorem dX2_init_53 : decode cX2_init 53 = .ok (.bipush 6, 2) := by decide +kernel
theorem dX2_init_55 : decode cX2_init 55 = .ok (.newarray .int, 2) := by decide +kernel
theorem dX2_init_57 : decode cX2_init 57 = .ok (.putfield 30, 3) := by decide +kernel
theorem dX2_init_60 : decode cX2_init 60 = .ok (.aload_n 0, 1) := by decide +kernel
theorem dX2_init_61 : decode cX2_init 61 = .ok (.iconst 4, 1) := by decide +kernel
theorem dX2_init_62 : decode cX2_init 62 = .ok (.newarray .int, 2) := by decide +kernel
theorem dX2_init_64 : decode cX2_init 64 = .ok (.putfield 33, 3) := by decide +kernel
theorem dX2_init_67 : decode cX2_init 67 = .ok (.aload_n 0, 1) := by decide +kernel
theorem dX2_init_68 : decode cX2_init 68 = .ok (.iconst 3, 1) := by decide +kernel
theorem dX2_init_69 : decode cX2_init 69 = .ok (.newarray .int, 2) := by decide +kernel
theorem dX2_init_71 : decode cX2_init 71 = .ok (.putfield 36, 3) := by decide +kernel
theorem dX2_init_74 : decode cX2_init 74 = .ok (.aload_n 0, 1) := by decide +kernel
theorem dX2_init_75 : decode cX2_init 75 = .ok (.bipush 8, 2) := by decide +kernel
theorem dX2_init_77 : decode cX2_init 77 = .ok (.newarray .int, 2) := by decide +kernel
theorem dX2_init_79 : decode cX2_init 79 = .ok (.putfield 39, 3) := by decide +kernel
theorem dX2_init_82 : decode cX2_init 82 = .ok (.aload_n 0, 1) := by decide +kernel
theorem dX2_init_83 : decode cX2_init 83 = .ok (.bipush 8, 2) := by decide +kernel
theorem dX2_init_85 : decode cX2_init 85 = .ok (.newarray .int, 2) := by decide +kernel
theorem dX2_init_87 : decode cX2_init 87 = .ok (.putfield 42, 3) := by decide +kernel
theorem dX2_init_90 : decode cX2_init 90 = .ok (.iconst 0, 1) := by decide +kernel
theorem dX2_init_91 : decode cX2_init 91 = .ok (.istore_n 1, 1) := by decide +kernel
theorem dX2_init_92 : decode cX2_init 92 = .ok (.iload_n 1, 1) := by decide +kernel
theorem dX2_init_93 : decode cX2_init 93 = .ok (.bipush 6, 2) := by decide +kernel
theorem dX2_init_95 : decode cX2_init 95 = .ok (.if_icmp .ge 34, 3) := by decide +kernel
theorem dX2_init_98 : decode cX2_init 98 = .ok (.aload_n 0, 1) := by decide +kernel
theorem dX2_init_99 : decode cX2_init 99 = .ok (.getfield 24, 3) := by decide +kernel
theorem dX2_init_102 : decode cX2_init 102 = .ok (.iload_n 1, 1) := by decide +kernel
theorem dX2_init_103 : decode cX2_init 103 = .ok (.bipush 10, 2) := by decide +kernel
theorem dX2_init_105 : decode cX2_init 105 = .ok (.iastore, 1) := by decide +kernel
theorem dX2_init_106 : decode cX2_init 106 = .ok (.aload_n 0, 1) := by decide +kernel
theorem dX2_init_107 : decode cX2_init 107 = .ok (.getfield 27, 3) := by decide +kernel
theorem dX2_init_110 : decode cX2_init 110 = .ok (.iload_n 1, 1) := by decide +kernel
theorem dX2_init_111 : decode cX2_init 111 = .ok (.bipush 10, 2) := by decide +kernel
theorem dX2_init_113 : decode cX2_init 113 = .ok (.iastore, 1) := by decide +kernel
theorem dX2_init_114 : decode cX2_init 114 = .ok (.aload_n 0, 1) := by decide +kernel
theorem dX2_init_115 : decode cX2_init 115 = .ok (.getfield 30, 3) := by decide +kernel
theorem dX2_init_118 : decode cX2_init 118 = .ok (.iload_n 1, 1) := by decide +kernel
theorem dX2_init_119 : decode cX2_init 119 = .ok (.sipush 4095, 3) := by decide +kernel
theorem dX2_init_122 : decode cX2_init 122 = .ok (.iastore, 1) := by decide +kernel
theorem dX2_init_123 : decode cX2_init 123 = .ok (.iinc 1 1, 3) := by decide +kernel
theorem dX2_init_126 : decode cX2_init 126 = .ok (.goto (-34), 3) := by decide +kernel
theorem dX2_init_129 : decode cX2_init 129 = .ok (.iconst 0, 1) := by decide +kernel
theorem dX2_init_130 : decode cX2_init 130 = .ok (.istore_n 1, 1) := by decide +kernel
theorem dX2_init_131 : decode cX2_init 131 = .ok (.iload_n 1, 1) := by decide +kernel
theorem dX2_init_132 : decode cX2_init 132 = .ok (.bipush 48, 2) := by decide +kernel
theorem dX2_init_134 : decode cX2_init 134 = .ok (.if_icmp .ge 17, 3) := by decide +kernel
theorem dX2_init_137 : decode cX2_init 137 = .ok (.aload_n 0, 1) := by decide +kernel
theorem dX2_init_138 : decode cX2_init 138 = .ok (.getfield 21, 3) := by decide +kernel
theorem dX2_init_141 : decode cX2_init 141 = .ok (.iload_n 1, 1) := by decide +kernel
theorem dX2_init_142 : decode cX2_init 142 = .ok (.bipush (-6), 2) := by decide +kernel
theorem dX2_init_144 : decode cX2_init 144 = .ok (.iastore, 1) := by decide +kernel
theorem dX2_init_145 : decode cX2_init 145 = .ok (.iinc 1 1, 3) := by decide +kernel
theorem dX2_init_148 : decode cX2_init 148 = .ok (.goto (-17), 3) := by decide +kernel
theorem dX2_init_151 : decode cX2_init 151 = .ok (.iconst 0, 1) := by decide +kernel
theorem dX2_init_152 : decode cX2_init 152 = .ok (.istore_n 1, 1) := by decide +kernel
theorem dX2_init_153 : decode cX2_init 153 = .ok (.iload_n 1, 1) := by decide +kernel
theorem dX2_init_154 : decode cX2_init 154 = .ok (.iconst 4, 1) := by decide +kernel
theorem dX2_init_155 : decode cX2_init 155 = .ok (.if_icmp .ge 17, 3) := by decide +kernel
theorem dX2_init_158 : decode cX2_init 158 = .ok (.aload_n 0, 1) := by decide +kernel
theorem dX2_init_159 : decode cX2_init 159 = .ok (.getfield 33, 3) := by decide +kernel
theorem dX2_init_162 : decode cX2_init 162 = .ok (.iload_n 1, 1) := by decide +kernel
theorem dX2_init_163 : decode cX2_init 163 = .ok (.bipush 100, 2) := by decide +kernel
theorem dX2_init_165 : decode cX2_init 165 = .ok (.iastore, 1) := by decide +kernel
theorem dX2_init_166 : decode cX2_init 166 = .ok (.iinc 1 1, 3) := by decide +kernel
theorem dX2_init_169 : decode cX2_init 169 = .ok (.goto (-16), 3) := by decide +kernel
theorem dX2_init_172 : decode cX2_init 172 = .ok (.aload_n 0, 1) := by decide +kernel
theorem dX2_init_173 : decode cX2_init 173 = .ok (.getfield 36, 3) := by decide +kernel
theorem dX2_init_176 : decode cX2_init 176 = .ok (.iconst 0, 1) := by decide +kernel
theorem dX2_init_177 : decode cX2_init 177 = .ok (.iconst 2, 1) := by decide +kernel
theorem dX2_init_178 : decode cX2_init 178 = .ok (.iastore, 1) := by decide +kernel
theorem dX2_init_179 : decode cX2_init 179 = .ok (.aload_n 0, 1) := by decide +kernel
theorem dX2_init_180 : decode cX2_init 180 = .ok (.getfield 36, 3) := by decide +kernel
theorem dX2_init_183 : decode cX2_init 183 = .ok (.iconst 1, 1) := by decide +kernel
theorem dX2_init_184 : decode cX2_init 184 = .ok (.iconst 1, 1) := by decide +kernel
theorem dX2_init_185 : decode cX2_init 185 = .ok (.iastore, 1) := by decide +kernel
theorem dX2_init_186 : decode cX2_init 186 = .ok (.aload_n 0, 1) := by decide +kernel
theorem dX2_init_187 : decode cX2_init 187 = .ok (.getfield 36, 3) := by decide +kernel
theorem dX2_init_190 : decode cX2_init 190 = .ok (.iconst 2, 1) := by decide +kernel
theorem dX2_init_191 : decode cX2_init 191 = .ok (.iconst 1, 1) := by decide +kernel
theorem dX2_init_192 : decode cX2_init 192 = .ok (.iastore, 1) := by decide +kernel
theorem dX2_init_193 : decode cX2_init 193 = .ok (.return_, 1) := by decide +kernel
theorem dX2_copyFrom_0 : decode cX2_copyFrom 0 = .ok (.aload_n 0, 1) := by decide +kernel
theorem dX2_copyFrom_1 : decode cX2_copyFrom 1 = .ok (.aload_n 1, 1) := by decide +kernel
theorem dX2_copyFrom_2 : decode cX2_copyFrom 2 = .ok (.getfield 45, 3) := by decide +kernel
theorem dX2_copyFrom_5 : decode cX2_copyFrom 5 = .ok (.putfield 45, 3) := by decide +kernel
theorem dX2_copyFrom_8 : decode cX2_copyFrom 8 = .ok (.aload_n 0, 1) := by decide +kernel
theorem dX2_copyFrom_9 : decode cX2_copyFrom 9 = .ok (.aload_n 1, 1) := by decide +kernel
theorem dX2_copyFrom_10 : decode cX2_copyFrom 10 = .ok (.getfield 49, 3) := by decide +kernel
theorem dX2_copyFrom_13 : decode cX2_copyFrom 13 = .ok (.putfield 49, 3) := by decide +kernel
theorem dX2_copyFrom_16 : decode cX2_copyFrom 16 = .ok (.aload_n 0, 1) := by decide +kernel
theorem dX2_copyFrom_17 : decode cX2_copyFrom 17 = .ok (.aload_n 1, 1) := by decide +kernel
theorem dX2_copyFrom_18 : decode cX2_copyFrom 18 = .ok (.getfield 52, 3) := by decide +kernel
theorem dX2_copyFrom_21 : decode cX2_copyFrom 21 = .ok (.putfield 52, 3) := by decide +kernel
theorem dX2_copyFrom_24 : decode cX2_copyFrom 24 = .ok (.aload_n 0, 1) := by decide +kernel
theorem dX2_copyFrom_25 : decode cX2_copyFrom 25 = .ok (.aload_n 1, 1) := by decide +kernel
theorem dX2_copyFrom_26 : decode cX2_copyFrom 26 = .ok (.getfield 55, 3) := by decide +kernel
theorem dX2_copyFrom_29 : decode cX2_copyFrom 29 = .ok (.putfield 55, 3) := by decide +kernel
theorem dX2_copyFrom_32 : decode cX2_copyFrom 32 = .ok (.aload_n 0, 1) := by decide +kernel
theorem dX2_copyFrom_33 : decode cX2_copyFrom 33 = .ok (.aload_n 1, 1) := by decide +kernel
theorem dX2_copyFrom_34 : decode cX2_copyFrom 34 = .ok (.getfield 58, 3) := by decide +kernel
theorem dX2_copyFrom_37 : decode cX2_copyFrom 37 = .ok (.putfield 58, 3) := by decide +kernel
theorem dX2_copyFrom_40 : decode cX2_copyFrom 40 = .ok (.aload_n 1, 1) := by decide +kernel
theorem dX2_copyFrom_41 : decode cX2_copyFrom 41 = .ok (.getfield 9, 3) := by decide +kernel
theorem dX2_copyFrom_44 : decode cX2_copyFrom 44 = .ok (.iconst 0, 1) := by decide +kernel
theorem dX2_copyFrom_45 : decode cX2_copyFrom 45 = .ok (.aload_n 0, 1) := by decide +kernel
theorem dX2_copyFrom_46 : decode cX2_copyFrom 46 = .ok (.getfield 9, 3) := by decide +kernel
theorem dX2_copyFrom_49 : decode cX2_copyFrom 49 = .ok (.iconst 0, 1) := by decide +kernel
theorem dX2_copyFrom_50 : decode cX2_copyFrom 50 = .ok (.bipush 6, 2) := by decide +kernel
theorem dX2_copyFrom_52 : decode cX2_copyFrom 52 = .ok (.invokestatic 61, 3) := by decide +kernel
theorem dX2_copyFrom_55 : decode cX2_copyFrom 55 = .ok (.aload_n 1, 1) := by decide +kernel
theorem dX2_copyFrom_56 : decode cX2_copyFrom 56 = .ok (.getfield 15, 3) := by decide +kernel
theorem dX2_copyFrom_59 : decode cX2_copyFrom 59 = .ok (.iconst 0, 1) := by decide +kernel
theorem dX2_copyFrom_60 : decode cX2_copyFrom 60 = .ok (.aload_n 0, 1) := by decide +kernel
theorem dX2_copyFrom_61 : decode cX2_copyFrom 61 = .ok (.getfield 15, 3) := by decide +kernel
theorem dX2_copyFrom_64 : decode cX2_copyFrom 64 = .ok (.iconst 0, 1) := by decide +kernel
theorem dX2_copyFrom_65 : decode cX2_copyFrom 65 = .ok (.bipush 6, 2) := by decide +kernel
theorem dX2_copyFrom_67 : decode cX2_copyFrom 67 = .ok (.invokestatic 61, 3) := by decide +kernel
theorem dX2_copyFrom_70 : decode cX2_copyFrom 70 = .ok (.aload_n 1, 1) := by decide +kernel
theorem dX2_copyFrom_71 : decode cX2_copyFrom 71 = .ok (.getfield 18, 3) := by decide +kernel
theorem dX2_copyFrom_74 : decode cX2_copyFrom 74 = .ok (.iconst 0, 1) := by decide +kernel
theorem dX2_copyFrom_75 : decode cX2_copyFrom 75 = .ok (.aload_n 0, 1) := by decide +kernel
theorem dX2_copyFrom_76 : decode cX2_copyFrom 76 = .ok (.getfield 18, 3) := by decide +kernel
theorem dX2_copyFrom_79 : decode cX2_copyFrom 79 = .ok (.iconst 0, 1) := by decide +kernel
theorem dX2_copyFrom_80 : decode cX2_copyFrom 80 = .ok (.bipush 6, 2) := by decide +kernel
theorem dX2_copyFrom_82 : decode cX2_copyFrom 82 = .ok (.invokestatic 61, 3) := by decide +kernel
theorem dX2_copyFrom_85 : decode cX2_copyFrom 85 = .ok (.aload_n 1, 1) := by decide +kernel
theorem dX2_copyFrom_86 : decode cX2_copyFrom 86 = .ok (.getfield 21, 3) := by decide +kernel
theorem dX2_copyFrom_89 : decode cX2_copyFrom 89 = .ok (.iconst 0, 1) := by decide +kernel
theorem dX2_copyFrom_90 : decode cX2_copyFrom 90 = .ok (.aload_n 0, 1) := by decide +kernel
theorem dX2_copyFrom_91 : decode cX2_copyFrom 91 = .ok (.getfield 21, 3) := by decide +kernel
theorem dX2_copyFrom_94 : decode cX2_copyFrom 94 = .ok (.iconst 0, 1) := by decide +kernel
theorem dX2_copyFrom_95 : decode cX2_copyFrom 95 = .ok (.bipush 48, 2) := by decide +kernel
theorem dX2_copyFrom_97 : decode cX2_copyFrom 97 = .ok (.invokestatic 61, 3) := by decide +kernel
theorem dX2_copyFrom_100 : decode cX2_copyFrom 100 = .ok (.aload_n 1, 1) := by decide +kernel
theorem dX2_copyFrom_101 : decode cX2_copyFrom 101 = .ok (.getfield 24, 3) := by decide +kernel
theorem dX2_copyFrom_104 : decode cX2_copyFrom 104 = .ok (.iconst 0, 1) := by decide +kernel
theorem dX2_copyFrom_105 : decode cX2_copyFrom 105 = .ok (.aload_n 0, 1) := by decide +kernel
theorem dX2_copyFrom_106 : decode cX2_copyFrom 106 = .ok (.getfield 24, 3) := by decide +kernel
theorem dX2_copyFrom_109 : decode cX2_copyFrom 109 = .ok (.iconst 0, 1) := by decide +kernel
theorem dX2_copyFrom_110 : decode cX2_copyFrom 110 = .ok (.bipush 6, 2) := by decide +kernel
theorem dX2_copyFrom_112 : decode cX2_copyFrom 112 = .ok (.invokestatic 61, 3) := by decide +kernel
theorem dX2_copyFrom_115 : decode cX2_copyFrom 115 = .ok (.aload_n 1, 1) := by decide +kernel
theorem dX2_copyFrom_116 : decode cX2_copyFrom 116 = .ok (.getfield 27, 3) := by decide +kernel
theorem dX2_copyFrom_119 : decode cX2_copyFrom 119 = .ok (.iconst 0, 1) := by decide +kernel
theorem dX2_copyFrom_120 : decode cX2_copyFrom 120 = .ok (.aload_n 0, 1) := by decide +kernel
theorem dX2_copyFrom_121 : decode cX2_copyFrom 121 = .ok (.getfield 27, 3) := by decide +kernel
theorem dX2_copyFrom_124 : decode cX2_copyFrom 124 = .ok (.iconst 0, 1) := by decide +kernel
theorem dX2_copyFrom_125 : decode cX2_copyFrom 125 = .ok (.bipush 6, 2) := by decide +kernel
theorem dX2_copyFrom_127 : decode cX2_copyFrom 127 = .ok (.invokestatic 61, 3) := by decide +kernel
theorem dX2_copyFrom_130 : decode cX2_copyFrom 130 = .ok (.aload_n 1, 1) := by decide +kernel
theorem dX2_copyFrom_131 : decode cX2_copyFrom 131 = .ok (.getfield 30, 3) := by decide +kernel
theorem dX2_copyFrom_134 : decode cX2_copyFrom 134 = .ok (.iconst 0, 1) := by decide +kernel
theorem dX2_copyFrom_135 : decode cX2_copyFrom 135 = .ok (.aload_n 0, 1) := by decide +kernel
theorem dX2_copyFrom_136 : decode cX2_copyFrom 136 = .ok (.getfield 30, 3) := by decide +kernel
theorem dX2_copyFrom_139 : decode cX2_copyFrom 139 = .ok (.iconst 0, 1) := by decide +kernel
theorem dX2_copyFrom_140 : decode cX2_copyFrom 140 = .ok (.bipush 6, 2) := by decide +kernel
theorem dX2_copyFrom_142 : decode cX2_copyFrom 142 = .ok (.invokestatic 61, 3) := by decide +kernel
theorem dX2_copyFrom_145 : decode cX2_copyFrom 145 = .ok (.aload_n 1, 1) := by decide +kernel
theorem dX2_copyFrom_146 : decode cX2_copyFrom 146 = .ok (.getfield 33, 3) := by decide +kernel
theorem dX2_copyFrom_149 : decode cX2_copyFrom 149 = .ok (.iconst 0, 1) := by decide +kernel
theorem dX2_copyFrom_150 : decode cX2_copyFrom 150 = .ok (.aload_n 0, 1) := by decide +kernel
theorem dX2_copyFrom_151 : decode cX2_copyFrom 151 = .ok (.getfield 33, 3) := by decide +kernel
theorem dX2_copyFrom_154 : decode cX2_copyFrom 154 = .ok (.iconst 0, 1) := by decide +kernel
theorem dX2_copyFrom_155 : decode cX2_copyFrom 155 = .ok (.iconst 4, 1) := by decide +kernel
theorem dX2_copyFrom_156 : decode cX2_copyFrom 156 = .ok (.invokestatic 61, 3) := by decide +kernel
theorem dX2_copyFrom_159 : decode cX2_copyFrom 159 = .ok (.aload_n 1, 1) := by decide +kernel
theorem dX2_copyFrom_160 : decode cX2_copyFrom 160 = .ok (.getfield 36, 3) := by decide +kernel
theorem dX2_copyFrom_163 : decode cX2_copyFrom 163 = .ok (.iconst 0, 1) := by decide +kernel
theorem dX2_copyFrom_164 : decode cX2_copyFrom 164 = .ok (.aload_n 0, 1) := by decide +kernel
theorem dX2_copyFrom_165 : decode cX2_copyFrom 165 = .ok (.getfield 36, 3) := by decide +kernel
theorem dX2_copyFrom_168 : decode cX2_copyFrom 168 = .ok (.iconst 0, 1) := by decide +kernel
theorem dX2_copyFrom_169 : decode cX2_copyFrom 169 = .ok (.iconst 3, 1) := by decide +kernel
theorem dX2_copyFrom_170 : decode cX2_copyFrom 170 = .ok (.invokestatic 61, 3) := by decide +kernel
theorem dX2_copyFrom_173 : decode cX2_copyFrom 173 = .ok (.aload_n 1, 1) := by decide +kernel
theorem dX2_copyFrom_174 : decode cX2_copyFrom 174 = .ok (.getfield 39, 3) := by decide +kernel
theorem dX2_copyFrom_177 : decode cX2_copyFrom 177 = .ok (.iconst 0, 1) := by decide +kernel
theorem dX2_copyFrom_178 : decode cX2_copyFrom 178 = .ok (.aload_n 0, 1) := by decide +kernel
theorem dX2_copyFrom_179 : decode cX2_copyFrom 179 = .ok (.getfield 39, 3) := by decide +kernel
theorem dX2_copyFrom_182 : decode cX2_copyFrom 182 = .ok (.iconst 0, 1) := by decide +kernel
theorem dX2_copyFrom_183 : decode cX2_copyFrom 183 = .ok (.bipush 8, 2) := by decide +kernel
theorem dX2_copyFrom_185 : decode cX2_copyFrom 185 = .ok (.invokestatic 61, 3) := by decide +kernel
theorem dX2_copyFrom_188 : decode cX2_copyFrom 188 = .ok (.aload_n 1, 1) := by decide +kernel
theorem dX2_copyFrom_189 : decode cX2_copyFrom 189 = .ok (.getfield 42, 3) := by decide +kernel
theorem dX2_copyFrom_192 : decode cX2_copyFrom 192 = .ok (.iconst 0, 1) := by decide +kernel
theorem dX2_copyFrom_193 : decode cX2_copyFrom 193 = .ok (.aload_n 0, 1) := by decide +kernel
theorem dX2_copyFrom_194 : decode cX2_copyFrom 194 = .ok (.getfield 42, 3) := by decide +kernel
theorem dX2_copyFrom_197 : decode cX2_copyFrom 197 = .ok (.iconst 0, 1) := by decide +kernel
theorem dX2_copyFrom_198 : decode cX2_copyFrom 198 = .ok (.bipush 8, 2) := by decide +kernel
theorem dX2_copyFrom_200 : decode cX2_copyFrom 200 = .ok (.invokestatic 61, 3) := by decide +kernel
theorem dX2_copyFrom_203 : decode cX2_copyFrom 203 = .ok (.return_, 1) := by decide +kernel
theorem dX2_isThere_0 : decode cX2_isThere 0 = .ok (.iload_n 1, 1) := by decide +kernel
theorem dX2_isThere_1 : decode cX2_isThere 1 = .ok (.iconst 0, 1) := by decide +kernel
theorem dX2_isThere_2 : decode cX2_isThere 2 = .ok (.iconst 5, 1) := by decide +kernel
theorem dX2_isThere_3 : decode cX2_isThere 3 = .ok (.invokestatic 67, 3) := by decide +kernel
theorem dX2_isThere_6 : decode cX2_isThere 6 = .ok (.ifCond .eq 18, 3) := by decide +kernel
theorem dX2_isThere_9 : decode cX2_isThere 9 = .ok (.aload_n 0, 1) := by decide +kernel
theorem dX2_isThere_10 : decode cX2_isThere 10 = .ok (.getfield 45, 3) := by decide +kernel
theorem dX2_isThere_13 : decode cX2_isThere 13 = .ok (.iload_n 1, 1) := by decide +kernel
theorem dX2_isThere_14 : decode cX2_isThere 14 = .ok (.ishr, 1) := by decide +kernel
theorem dX2_isThere_15 : decode cX2_isThere 15 = .ok (.iconst 1, 1) := by decide +kernel
theorem dX2_isThere_16 : decode cX2_isThere 16 = .ok (.iand, 1) := by decide +kernel
theorem dX2_isThere_17 : decode cX2_isThere 17 = .ok (.ifCond .eq 7, 3) := by decide +kernel
theorem dX2_isThere_20 : decode cX2_isThere 20 = .ok (.iconst 1, 1) := by decide +kernel
theorem dX2_isThere_21 : decode cX2_isThere 21 = .ok (.goto 4, 3) := by decide +kernel
theorem dX2_isThere_24 : decode cX2_isThere 24 = .ok (.iconst 0, 1) := by decide +kernel
theorem dX2_isThere_25 : decode cX2_isThere 25 = .ok (.ireturn, 1) := by decide +kernel
theorem dX2_isFallen_0 : decode cX2_isFallen 0 = .ok (.aload_n 0, 1) := by decide +kernel
theorem dX2_isFallen_1 : decode cX2_isFallen 1 = .ok (.iload_n 1, 1) := by decide +kernel
theorem dX2_isFallen_2 : decode cX2_isFallen 2 = .ok (.invokevirtual 71, 3) := by decide +kernel
theorem dX2_isFallen_5 : decode cX2_isFallen 5 = .ok (.ifCond .eq 18, 3) := by decide +kernel
theorem dX2_isFallen_8 : decode cX2_isFallen 8 = .ok (.aload_n 0, 1) := by decide +kernel
theorem dX2_isFallen_9 : decode cX2_isFallen 9 = .ok (.getfield 49, 3) := by decide +kernel
theorem dX2_isFallen_12 : decode cX2_isFallen 12 = .ok (.iload_n 1, 1) := by decide +kernel
theorem dX2_isFallen_13 : decode cX2_isFallen 13 = .ok (.ishr, 1) := by decide +kernel
theorem dX2_isFallen_14 : decode cX2_isFallen 14 = .ok (.iconst 1, 1) := by decide +kernel
theorem dX2_isFallen_15 : decode cX2_isFallen 15 = .ok (.iand, 1) := by decide +kernel
theorem dX2_isFallen_16 : decode cX2_isFallen 16 = .ok (.ifCond .eq 7, 3) := by decide +kernel
theorem dX2_isFallen_19 : decode cX2_isFallen 19 = .ok (.iconst 1, 1) := by decide +kernel
theorem dX2_isFallen_20 : decode cX2_isFallen 20 = .ok (.goto 4, 3) := by decide +kernel
theorem dX2_isFallen_23 : decode cX2_isFallen 23 = .ok (.iconst 0, 1) := by decide +kernel
theorem dX2_isFallen_24 : decode cX2_isFallen 24 = .ok (.ireturn, 1) := by decide +kernel
theorem dX2_isSaint_0 : decode cX2_isSaint 0 = .ok (.aload_n 0, 1) := by decide +kernel
theorem dX2_isSaint_1 : decode cX2_isSaint 1 = .ok (.iload_n 1, 1) := by decide +kernel
theorem dX2_isSaint_2 : decode cX2_isSaint 2 = .ok (.invokevirtual 71, 3) := by decide +kernel
theorem dX2_isSaint_5 : decode cX2_isSaint 5 = .ok (.ifCond .eq 27, 3) := by decide +kernel
theorem dX2_isSaint_8 : decode cX2_isSaint 8 = .ok (.aload_n 0, 1) := by decide +kernel
theorem dX2_isSaint_9 : decode cX2_isSaint 9 = .ok (.iload_n 1, 1) := by decide +kernel
theorem dX2_isSaint_10 : decode cX2_isSaint 10 = .ok (.aload_n 0, 1) := by decide +kernel
theorem dX2_isSaint_11 : decode cX2_isSaint 11 = .ok (.getfield 9, 3) := by decide +kernel
theorem dX2_isSaint_14 : decode cX2_isSaint 14 = .ok (.iload_n 1, 1) := by decide +kernel
theorem dX2_isSaint_15 : decode cX2_isSaint 15 = .ok (.iaload, 1) := by decide +kernel
theorem dX2_isSaint_16 : decode cX2_isSaint 16 = .ok (.aload_n 0, 1) := by decide +kernel
theorem dX2_isSaint_17 : decode cX2_isSaint 17 = .ok (.getfield 15, 3) := by decide +kernel
theorem dX2_isSaint_20 : decode cX2_isSaint 20 = .ok (.iload_n 1, 1) := by decide +kernel
theorem dX2_isSaint_21 : decode cX2_isSaint 21 = .ok (.iaload, 1) := by decide +kernel
theorem dX2_isSaint_22 : decode cX2_isSaint 22 = .ok (.invokevirtual 75, 3) := by decide +kernel
theorem dX2_isSaint_25 : decode cX2_isSaint 25 = .ok (.ifCond .eq 7, 3) := by decide +kernel
theorem dX2_isSaint_28 : decode cX2_isSaint 28 = .ok (.iconst 1, 1) := by decide +kernel
theorem dX2_isSaint_29 : decode cX2_isSaint 29 = .ok (.goto 4, 3) := by decide +kernel
theorem dX2_isSaint_32 : decode cX2_isSaint 32 = .ok (.iconst 0, 1) := by decide +kernel
theorem dX2_isSaint_33 : decode cX2_isSaint 33 = .ok (.ireturn, 1) := by decide +kernel
theorem dX2_wouldBeSaint_0 : decode cX2_wouldBeSaint 0 = .ok (.aload_n 0, 1) := by decide +kernel
theorem dX2_wouldBeSaint_1 : decode cX2_wouldBeSaint 1 = .ok (.iload_n 1, 1) := by decide +kernel
theorem dX2_wouldBeSaint_2 : decode cX2_wouldBeSaint 2 = .ok (.invokevirtual 71, 3) := by decide +kernel
theorem dX2_wouldBeSaint_5 : decode cX2_wouldBeSaint 5 = .ok (.ifCond .eq 50, 3) := by decide +kernel
theorem dX2_wouldBeSaint_8 : decode cX2_wouldBeSaint 8 = .ok (.aload_n 0, 1) := by decide +kernel
theorem dX2_wouldBeSaint_9 : decode cX2_wouldBeSaint 9 = .ok (.iload_n 1, 1) := by decide +kernel
theorem dX2_wouldBeSaint_10 : decode cX2_wouldBeSaint 10 = .ok (.invokevirtual 78, 3) := by decide +kernel
theorem dX2_wouldBeSaint_13 : decode cX2_wouldBeSaint 13 = .ok (.ifCond .ne 42, 3) := by decide +kernel
theorem dX2_wouldBeSaint_16 : decode cX2_wouldBeSaint 16 = .ok (.aload_n 0, 1) := by decide +kernel
theorem dX2_wouldBeSaint_17 : decode cX2_wouldBeSaint 17 = .ok (.getfield 18, 3) := by decide +kernel
theorem dX2_wouldBeSaint_20 : decode cX2_wouldBeSaint 20 = .ok (.iload_n 1, 1) := by decide +kernel
theorem dX2_wouldBeSaint_21 : decode cX2_wouldBeSaint 21 = .ok (.iaload, 1) := by decide +kernel
theorem dX2_wouldBeSaint_22 : decode cX2_wouldBeSaint 22 = .ok (.aload_n 0, 1) := by decide +kernel
theorem dX2_wouldBeSaint_23 : decode cX2_wouldBeSaint 23 = .ok (.getfield 36, 3) := by decide +kernel
theorem dX2_wouldBeSaint_26 : decode cX2_wouldBeSaint 26 = .ok (.iconst 2, 1) := by decide +kernel
theorem dX2_wouldBeSaint_27 : decode cX2_wouldBeSaint 27 = .ok (.iaload, 1) := by decide +kernel
theorem dX2_wouldBeSaint_28 : decode cX2_wouldBeSaint 28 = .ok (.if_icmp .lt 27, 3) := by decide +kernel
theorem dX2_wouldBeSaint_31 : decode cX2_wouldBeSaint 31 = .ok (.iload_n 2, 1) := by decide +kernel
theorem dX2_wouldBeSaint_32 : decode cX2_wouldBeSaint 32 = .ok (.aload_n 0, 1) := by decide +kernel
theorem dX2_wouldBeSaint_33 : decode cX2_wouldBeSaint 33 = .ok (.getfield 36, 3) := by decide +kernel
theorem dX2_wouldBeSaint_36 : decode cX2_wouldBeSaint 36 = .ok (.iconst 0, 1) := by decide +kernel
theorem dX2_wouldBeSaint_37 : decode cX2_wouldBeSaint 37 = .ok (.iaload, 1) := by decide +kernel
theorem dX2_wouldBeSaint_38 : decode cX2_wouldBeSaint 38 = .ok (.if_icmp .lt 17, 3) := by decide +kernel
theorem dX2_wouldBeSaint_41 : decode cX2_wouldBeSaint 41 = .ok (.iload_n 3, 1) := by decide +kernel
theorem dX2_wouldBeSaint_42 : decode cX2_wouldBeSaint 42 = .ok (.aload_n 0, 1) := by decide +kernel
theorem dX2_wouldBeSaint_43 : decode cX2_wouldBeSaint 43 = .ok (.getfield 36, 3) := by decide +kernel
theorem dX2_wouldBeSaint_46 : decode cX2_wouldBeSaint 46 = .ok (.iconst 1, 1) := by decide +kernel
theorem dX2_wouldBeSaint_47 : decode cX2_wouldBeSaint 47 = .ok (.iaload, 1) := by decide +kernel
theorem dX2_wouldBeSaint_48 : decode cX2_wouldBeSaint 48 = .ok (.if_icmp .gt 7, 3) := by decide +kernel
theorem dX2_wouldBeSaint_51 : decode cX2_wouldBeSaint 51 = .ok (.iconst 1, 1) := by decide +kernel
theorem dX2_wouldBeSaint_52 : decode cX2_wouldBeSaint 52 = .ok (.goto 4, 3) := by decide +kernel
theorem dX2_wouldBeSaint_55 : decode cX2_wouldBeSaint 55 = .ok (.iconst 0, 1) := by decide +kernel
theorem dX2_wouldBeSaint_56 : decode cX2_wouldBeSaint 56 = .ok (.ireturn, 1) := by decide +kernel
theorem dX2_saintBits_0 : decode cX2_saintBits 0 = .ok (.iconst 0, 1) := by decide +kernel
theorem dX2_saintBits_1 : decode cX2_saintBits 1 = .ok (.istore_n 1, 1) := by decide +kernel
theorem dX2_saintBits_2 : decode cX2_saintBits 2 = .ok (.iconst 0, 1) := by decide +kernel
theorem dX2_saintBits_3 : decode cX2_saintBits 3 = .ok (.istore_n 2, 1) := by decide +kernel
theorem dX2_saintBits_4 : decode cX2_saintBits 4 = .ok (.iload_n 2, 1) := by decide +kernel
theorem dX2_saintBits_5 : decode cX2_saintBits 5 = .ok (.bipush 6, 2) := by decide +kernel
theorem dX2_saintBits_7 : decode cX2_saintBits 7 = .ok (.if_icmp .ge 23, 3) := by decide +kernel
theorem dX2_saintBits_10 : decode cX2_saintBits 10 = .ok (.aload_n 0, 1) := by decide +kernel
theorem dX2_saintBits_11 : decode cX2_saintBits 11 = .ok (.iload_n 2, 1) := by decide +kernel
theorem dX2_saintBits_12 : decode cX2_saintBits 12 = .ok (.invokevirtual 81, 3) := by decide +kernel
theorem dX2_saintBits_15 : decode cX2_saintBits 15 = .ok (.ifCond .eq 9, 3) := by decide +kernel
theorem dX2_saintBits_18 : decode cX2_saintBits 18 = .ok (.iload_n 1, 1) := by decide +kernel
theorem dX2_saintBits_19 : decode cX2_saintBits 19 = .ok (.iconst 1, 1) := by decide +kernel
theorem dX2_saintBits_20 : decode cX2_saintBits 20 = .ok (.iload_n 2, 1) := by decide +kernel
theorem dX2_saintBits_21 : decode cX2_saintBits 21 = .ok (.ishl, 1) := by decide +kernel
theorem dX2_saintBits_22 : decode cX2_saintBits 22 = .ok (.ior, 1) := by decide +kernel
theorem dX2_saintBits_23 : decode cX2_saintBits 23 = .ok (.istore_n 1, 1) := by decide +kernel
theorem dX2_saintBits_24 : decode cX2_saintBits 24 = .ok (.iinc 2 1, 3) := by decide +kernel
theorem dX2_saintBits_27 : decode cX2_saintBits 27 = .ok (.goto (-23), 3) := by decide +kernel
theorem dX2_saintBits_30 : decode cX2_saintBits 30 = .ok (.iload_n 1, 1) := by decide +kernel
theorem dX2_saintBits_31 : decode cX2_saintBits 31 = .ok (.ireturn, 1) := by decide +kernel
theorem dX2_enter_0 : decode cX2_enter 0 = .ok (.aload_n 0, 1) := by decide +kernel
theorem dX2_enter_1 : decode cX2_enter 1 = .ok (.dup, 1) := by decide +kernel
theorem dX2_enter_2 : decode cX2_enter 2 = .ok (.getfield 45, 3) := by decide +kernel
theorem dX2_enter_5 : decode cX2_enter 5 = .ok (.iconst 1, 1) := by decide +kernel
theorem dX2_enter_6 : decode cX2_enter 6 = .ok (.iload_n 1, 1) := by decide +kernel
theorem dX2_enter_7 : decode cX2_enter 7 = .ok (.ishl, 1) := by decide +kernel
theorem dX2_enter_8 : decode cX2_enter 8 = .ok (.ior, 1) := by decide +kernel
theorem dX2_enter_9 : decode cX2_enter 9 = .ok (.putfield 45, 3) := by decide +kernel
theorem dX2_enter_12 : decode cX2_enter 12 = .ok (.aload_n 0, 1) := by decide +kernel
theorem dX2_enter_13 : decode cX2_enter 13 = .ok (.dup, 1) := by decide +kernel
theorem dX2_enter_14 : decode cX2_enter 14 = .ok (.getfield 49, 3) := by decide +kernel
theorem dX2_enter_17 : decode cX2_enter 17 = .ok (.iconst 1, 1) := by decide +kernel
theorem dX2_enter_18 : decode cX2_enter 18 = .ok (.iload_n 1, 1) := by decide +kernel
theorem dX2_enter_19 : decode cX2_enter 19 = .ok (.ishl, 1) := by decide +kernel
theorem dX2_enter_20 : decode cX2_enter 20 = .ok (.iconst (-1), 1) := by decide +kernel
theorem dX2_enter_21 : decode cX2_enter 21 = .ok (.ixor, 1) := by decide +kernel
theorem dX2_enter_22 : decode cX2_enter 22 = .ok (.iand, 1) := by decide +kernel
theorem dX2_enter_23 : decode cX2_enter 23 = .ok (.putfield 49, 3) := by decide +kernel
theorem dX2_enter_26 : decode cX2_enter 26 = .ok (.aload_n 0, 1) := by decide +kernel
theorem dX2_enter_27 : decode cX2_enter 27 = .ok (.getfield 9, 3) := by decide +kernel
theorem dX2_enter_30 : decode cX2_enter 30 = .ok (.iload_n 1, 1) := by decide +kernel
theorem dX2_enter_31 : decode cX2_enter 31 = .ok (.iload_n 2, 1) := by decide +kernel
theorem dX2_enter_32 : decode cX2_enter 32 = .ok (.iastore, 1) := by decide +kernel
theorem dX2_enter_33 : decode cX2_enter 33 = .ok (.aload_n 0, 1) := by decide +kernel
theorem dX2_enter_34 : decode cX2_enter 34 = .ok (.getfield 15, 3) := by decide +kernel
theorem dX2_enter_37 : decode cX2_enter 37 = .ok (.iload_n 1, 1) := by decide +kernel
theorem dX2_enter_38 : decode cX2_enter 38 = .ok (.iload_n 3, 1) := by decide +kernel
theorem dX2_enter_39 : decode cX2_enter 39 = .ok (.iastore, 1) := by decide +kernel
theorem dX2_enter_40 : decode cX2_enter 40 = .ok (.aload_n 0, 1) := by decide +kernel
theorem dX2_enter_41 : decode cX2_enter 41 = .ok (.getfield 18, 3) := by decide +kernel
theorem dX2_enter_44 : decode cX2_enter 44 = .ok (.iload_n 1, 1) := by decide +kernel
theorem dX2_enter_45 : decode cX2_enter 45 = .ok (.iload 4, 2) := by decide +kernel
theorem dX2_enter_47 : decode cX2_enter 47 = .ok (.iastore, 1) := by decide +kernel
theorem dX2_enter_48 : decode cX2_enter 48 = .ok (.aload_n 0, 1) := by decide +kernel
theorem dX2_enter_49 : decode cX2_enter 49 = .ok (.iload_n 1, 1) := by decide +kernel
theorem dX2_enter_50 : decode cX2_enter 50 = .ok (.invokevirtual 84, 3) := by decide +kernel
theorem dX2_enter_53 : decode cX2_enter 53 = .ok (.return_, 1) := by decide +kernel
theorem dX2_remove_0 : decode cX2_remove 0 = .ok (.aload_n 0, 1) := by decide +kernel
theorem dX2_remove_1 : decode cX2_remove 1 = .ok (.dup, 1) := by decide +kernel
theorem dX2_remove_2 : decode cX2_remove 2 = .ok (.getfield 45, 3) := by decide +kernel
theorem dX2_remove_5 : decode cX2_remove 5 = .ok (.iconst 1, 1) := by decide +kernel
theorem dX2_remove_6 : decode cX2_remove 6 = .ok (.iload_n 1, 1) := by decide +kernel
theorem dX2_remove_7 : decode cX2_remove 7 = .ok (.ishl, 1) := by decide +kernel
theorem dX2_remove_8 : decode cX2_remove 8 = .ok (.iconst (-1), 1) := by decide +kernel
theorem dX2_remove_9 : decode cX2_remove 9 = .ok (.ixor, 1) := by decide +kernel
theorem dX2_remove_10 : decode cX2_remove 10 = .ok (.iand, 1) := by decide +kernel
theorem dX2_remove_11 : decode cX2_remove 11 = .ok (.putfield 45, 3) := by decide +kernel
theorem dX2_remove_14 : decode cX2_remove 14 = .ok (.aload_n 0, 1) := by decide +kernel
theorem dX2_remove_15 : decode cX2_remove 15 = .ok (.iload_n 1, 1) := by decide +kernel
theorem dX2_remove_16 : decode cX2_remove 16 = .ok (.invokevirtual 84, 3) := by decide +kernel
theorem dX2_remove_19 : decode cX2_remove 19 = .ok (.return_, 1) := by decide +kernel
theorem dX2_freeParts_0 : decode cX2_freeParts 0 = .ok (.iconst 0, 1) := by decide +kernel
theorem dX2_freeParts_1 : decode cX2_freeParts 1 = .ok (.istore_n 2, 1) := by decide +kernel
theorem dX2_freeParts_2 : decode cX2_freeParts 2 = .ok (.iload_n 2, 1) := by decide +kernel
theorem dX2_freeParts_3 : decode cX2_freeParts 3 = .ok (.bipush 8, 2) := by decide +kernel
theorem dX2_freeParts_5 : decode cX2_freeParts 5 = .ok (.if_icmp .ge 22, 3) := by decide +kernel
theorem dX2_freeParts_8 : decode cX2_freeParts 8 = .ok (.aload_n 0, 1) := by decide +kernel
theorem dX2_freeParts_9 : decode cX2_freeParts 9 = .ok (.getfield 21, 3) := by decide +kernel
theorem dX2_freeParts_12 : decode cX2_freeParts 12 = .ok (.iload_n 1, 1) := by decide +kernel
theorem dX2_freeParts_13 : decode cX2_freeParts 13 = .ok (.bipush 8, 2) := by decide +kernel
theorem dX2_freeParts_15 : decode cX2_freeParts 15 = .ok (.imul, 1) := by decide +kernel
theorem dX2_freeParts_16 : decode cX2_freeParts 16 = .ok (.iload_n 2, 1) := by decide +kernel
theorem dX2_freeParts_17 : decode cX2_freeParts 17 = .ok (.iadd, 1) := by decide +kernel
theorem dX2_freeParts_18 : decode cX2_freeParts 18 = .ok (.bipush (-6), 2) := by decide +kernel
theorem dX2_freeParts_20 : decode cX2_freeParts 20 = .ok (.iastore, 1) := by decide +kernel
theorem dX2_freeParts_21 : decode cX2_freeParts 21 = .ok (.iinc 2 1, 3) := by decide +kernel
theorem dX2_freeParts_24 : decode cX2_freeParts 24 = .ok (.goto (-22), 3) := by decide +kernel
theorem dX2_freeParts_27 : decode cX2_freeParts 27 = .ok (.return_, 1) := by decide +kernel
theorem dX2_holderOf_0 : decode cX2_holderOf 0 = .ok (.aload_n 0, 1) := by decide +kernel
theorem dX2_holderOf_1 : decode cX2_holderOf 1 = .ok (.getfield 21, 3) := by decide +kernel
theorem dX2_holderOf_4 : decode cX2_holderOf 4 = .ok (.iload_n 1, 1) := by decide +kernel
theorem dX2_holderOf_5 : decode cX2_holderOf 5 = .ok (.bipush 8, 2) := by decide +kernel
theorem dX2_holderOf_7 : decode cX2_holderOf 7 = .ok (.imul, 1) := by decide +kernel
theorem dX2_holderOf_8 : decode cX2_holderOf 8 = .ok (.iload_n 2, 1) := by decide +kernel
theorem dX2_holderOf_9 : decode cX2_holderOf 9 = .ok (.iadd, 1) := by decide +kernel
theorem dX2_holderOf_10 : decode cX2_holderOf 10 = .ok (.iaload, 1) := by decide +kernel
theorem dX2_holderOf_11 : decode cX2_holderOf 11 = .ok (.ireturn, 1) := by decide +kernel
theorem dX2_partBits_0 : decode cX2_partBits 0 = .ok (.iconst 0, 1) := by decide +kernel
theorem dX2_partBits_1 : decode cX2_partBits 1 = .ok (.istore_n 3, 1) := by decide +kernel
theorem dX2_partBits_2 : decode cX2_partBits 2 = .ok (.iconst 0, 1) := by decide +kernel
theorem dX2_partBits_3 : decode cX2_partBits 3 = .ok (.istore 4, 2) := by decide +kernel
theorem dX2_partBits_5 : decode cX2_partBits 5 = .ok (.iload 4, 2) := by decide +kernel
theorem dX2_partBits_7 : decode cX2_partBits 7 = .ok (.bipush 8, 2) := by decide +kernel
theorem dX2_partBits_9 : decode cX2_partBits 9 = .ok (.if_icmp .ge 27, 3) := by decide +kernel
theorem dX2_partBits_12 : decode cX2_partBits 12 = .ok (.aload_n 0, 1) := by decide +kernel
theorem dX2_partBits_13 : decode cX2_partBits 13 = .ok (.iload_n 1, 1) := by decide +kernel
theorem dX2_partBits_14 : decode cX2_partBits 14 = .ok (.iload 4, 2) := by decide +kernel
theorem dX2_partBits_16 : decode cX2_partBits 16 = .ok (.invokevirtual 88, 3) := by decide +kernel
theorem dX2_partBits_19 : decode cX2_partBits 19 = .ok (.iload_n 2, 1) := by decide +kernel
theorem dX2_partBits_20 : decode cX2_partBits 20 = .ok (.if_icmp .ne 10, 3) := by decide +kernel
theorem dX2_partBits_23 : decode cX2_partBits 23 = .ok (.iload_n 3, 1) := by decide +kernel
theorem dX2_partBits_24 : decode cX2_partBits 24 = .ok (.iconst 1, 1) := by decide +kernel
theorem dX2_partBits_25 : decode cX2_partBits 25 = .ok (.iload 4, 2) := by decide +kernel
theorem dX2_partBits_27 : decode cX2_partBits 27 = .ok (.ishl, 1) := by decide +kernel
theorem dX2_partBits_28 : decode cX2_partBits 28 = .ok (.ior, 1) := by decide +kernel
theorem dX2_partBits_29 : decode cX2_partBits 29 = .ok (.istore_n 3, 1) := by decide +kernel
theorem dX2_partBits_30 : decode cX2_partBits 30 = .ok (.iinc 4 1, 3) := by decide +kernel
theorem dX2_partBits_33 : decode cX2_partBits 33 = .ok (.goto (-28), 3) := by decide +kernel
theorem dX2_partBits_36 : decode cX2_partBits 36 = .ok (.iload_n 3, 1) := by decide +kernel
theorem dX2_partBits_37 : decode cX2_partBits 37 = .ok (.ireturn, 1) := by decide +kernel
theorem dX2_heldParts_0 : decode cX2_heldParts 0 = .ok (.bipush 8, 2) := by decide +kernel
theorem dX2_heldParts_2 : decode cX2_heldParts 2 = .ok (.aload_n 0, 1) := by decide +kernel
theorem dX2_heldParts_3 : decode cX2_heldParts 3 = .ok (.iload_n 1, 1) := by decide +kernel
theorem dX2_heldParts_4 : decode cX2_heldParts 4 = .ok (.bipush (-6), 2) := by decide +kernel
theorem dX2_heldParts_6 : decode cX2_heldParts 6 = .ok (.invokevirtual 92, 3) := by decide +kernel
theorem dX2_heldParts_9 : decode cX2_heldParts 9 = .ok (.invokestatic 95, 3) := by decide +kernel
theorem dX2_heldParts_12 : decode cX2_heldParts 12 = .ok (.isub, 1) := by decide +kernel
theorem dX2_heldParts_13 : decode cX2_heldParts 13 = .ok (.ireturn, 1) := by decide +kernel
theorem dX2_allHeldParts_0 : decode cX2_allHeldParts 0 = .ok (.iconst 0, 1) := by decide +kernel
theorem dX2_allHeldParts_1 : decode cX2_allHeldParts 1 = .ok (.istore_n 1, 1) := by decide +kernel
theorem dX2_allHeldParts_2 : decode cX2_allHeldParts 2 = .ok (.iconst 0, 1) := by decide +kernel
theorem dX2_allHeldParts_3 : decode cX2_allHeldParts 3 = .ok (.istore_n 2, 1) := by decide +kernel
theorem dX2_allHeldParts_4 : decode cX2_allHeldParts 4 = .ok (.iload_n 2, 1) := by decide +kernel
theorem dX2_allHeldParts_5 : decode cX2_allHeldParts 5 = .ok (.bipush 6, 2) := by decide +kernel
theorem dX2_allHeldParts_7 : decode cX2_allHeldParts 7 = .ok (.if_icmp .ge 17, 3) := by decide +kernel
theorem dX2_allHeldParts_10 : decode cX2_allHeldParts 10 = .ok (.iload_n 1, 1) := by decide +kernel
theorem dX2_allHeldParts_11 : decode cX2_allHeldParts 11 = .ok (.aload_n 0, 1) := by decide +kernel
theorem dX2_allHeldParts_12 : decode cX2_allHeldParts 12 = .ok (.iload_n 2, 1) := by decide +kernel
theorem dX2_allHeldParts_13 : decode cX2_allHeldParts 13 = .ok (.invokevirtual 101, 3) := by decide +kernel
theorem dX2_allHeldParts_16 : decode cX2_allHeldParts 16 = .ok (.iadd, 1) := by decide +kernel
theorem dX2_allHeldParts_17 : decode cX2_allHeldParts 17 = .ok (.istore_n 1, 1) := by decide +kernel
theorem dX2_allHeldParts_18 : decode cX2_allHeldParts 18 = .ok (.iinc 2 1, 3) := by decide +kernel
theorem dX2_allHeldParts_21 : decode cX2_allHeldParts 21 = .ok (.goto (-17), 3) := by decide +kernel
theorem dX2_allHeldParts_24 : decode cX2_allHeldParts 24 = .ok (.iload_n 1, 1) := by decide +kernel
theorem dX2_allHeldParts_25 : decode cX2_allHeldParts 25 = .ok (.ireturn, 1) := by decide +kernel
theorem dX2_pursesTogether_0 : decode cX2_pursesTogether 0 = .ok (.iconst 0, 1) := by decide +kernel
theorem dX2_pursesTogether_1 : decode cX2_pursesTogether 1 = .ok (.istore_n 1, 1) := by decide +kernel
theorem dX2_pursesTogether_2 : decode cX2_pursesTogether 2 = .ok (.iconst 0, 1) := by decide +kernel
theorem dX2_pursesTogether_3 : decode cX2_pursesTogether 3 = .ok (.istore_n 2, 1) := by decide +kernel
theorem dX2_pursesTogether_4 : decode cX2_pursesTogether 4 = .ok (.iload_n 2, 1) := by decide +kernel
theorem dX2_pursesTogether_5 : decode cX2_pursesTogether 5 = .ok (.iconst 4, 1) := by decide +kernel
theorem dX2_pursesTogether_6 : decode cX2_pursesTogether 6 = .ok (.if_icmp .ge 18, 3) := by decide +kernel
theorem dX2_pursesTogether_9 : decode cX2_pursesTogether 9 = .ok (.iload_n 1, 1) := by decide +kernel
theorem dX2_pursesTogether_10 : decode cX2_pursesTogether 10 = .ok (.aload_n 0, 1) := by decide +kernel
theorem dX2_pursesTogether_11 : decode cX2_pursesTogether 11 = .ok (.getfield 33, 3) := by decide +kernel
theorem dX2_pursesTogether_14 : decode cX2_pursesTogether 14 = .ok (.iload_n 2, 1) := by decide +kernel
theorem dX2_pursesTogether_15 : decode cX2_pursesTogether 15 = .ok (.iaload, 1) := by decide +kernel
theorem dX2_pursesTogether_16 : decode cX2_pursesTogether 16 = .ok (.iadd, 1) := by decide +kernel
theorem dX2_pursesTogether_17 : decode cX2_pursesTogether 17 = .ok (.istore_n 1, 1) := by decide +kernel
theorem dX2_pursesTogether_18 : decode cX2_pursesTogether 18 = .ok (.iinc 2 1, 3) := by decide +kernel
theorem dX2_pursesTogether_21 : decode cX2_pursesTogether 21 = .ok (.goto (-17), 3) := by decide +kernel
theorem dX2_pursesTogether_24 : decode cX2_pursesTogether 24 = .ok (.iload_n 1, 1) := by decide +kernel
theorem dX2_pursesTogether_25 : decode cX2_pursesTogether 25 = .ok (.ireturn, 1) := by decide +kernel
theorem dX2_addSight_0 : decode cX2_addSight 0 = .ok (.aload_n 0, 1) := by decide +kernel
theorem dX2_addSight_1 : decode cX2_addSight 1 = .ok (.getfield 55, 3) := by decide +kernel
theorem dX2_addSight_4 : decode cX2_addSight 4 = .ok (.bipush 8, 2) := by decide +kernel
theorem dX2_addSight_6 : decode cX2_addSight 6 = .ok (.if_icmp .ge 63, 3) := by decide +kernel
theorem dX2_addSight_9 : decode cX2_addSight 9 = .ok (.iconst 1, 1) := by decide +kernel
theorem dX2_addSight_10 : decode cX2_addSight 10 = .ok (.aload_n 0, 1) := by decide +kernel
theorem dX2_addSight_11 : decode cX2_addSight 11 = .ok (.getfield 55, 3) := by decide +kernel
theorem dX2_addSight_14 : decode cX2_addSight 14 = .ok (.ishl, 1) := by decide +kernel
theorem dX2_addSight_15 : decode cX2_addSight 15 = .ok (.istore 4, 2) := by decide +kernel
theorem dX2_addSight_17 : decode cX2_addSight 17 = .ok (.aload_n 0, 1) := by decide +kernel
theorem dX2_addSight_18 : decode cX2_addSight 18 = .ok (.getfield 42, 3) := by decide +kernel
theorem dX2_addSight_21 : decode cX2_addSight 21 = .ok (.aload_n 0, 1) := by decide +kernel
theorem dX2_addSight_22 : decode cX2_addSight 22 = .ok (.getfield 55, 3) := by decide +kernel
theorem dX2_addSight_25 : decode cX2_addSight 25 = .ok (.bipush 10, 2) := by decide +kernel
theorem dX2_addSight_27 : decode cX2_addSight 27 = .ok (.iload_n 1, 1) := by decide +kernel
theorem dX2_addSight_28 : decode cX2_addSight 28 = .ok (.imul, 1) := by decide +kernel
theorem dX2_addSight_29 : decode cX2_addSight 29 = .ok (.iload_n 2, 1) := by decide +kernel
theorem dX2_addSight_30 : decode cX2_addSight 30 = .ok (.iadd, 1) := by decide +kernel
theorem dX2_addSight_31 : decode cX2_addSight 31 = .ok (.iastore, 1) := by decide +kernel
theorem dX2_addSight_32 : decode cX2_addSight 32 = .ok (.aload_n 0, 1) := by decide +kernel
theorem dX2_addSight_33 : decode cX2_addSight 33 = .ok (.iload_n 3, 1) := by decide +kernel
theorem dX2_addSight_34 : decode cX2_addSight 34 = .ok (.ifCond .eq 13, 3) := by decide +kernel
theorem dX2_addSight_37 : decode cX2_addSight 37 = .ok (.aload_n 0, 1) := by decide +kernel
theorem dX2_addSight_38 : decode cX2_addSight 38 = .ok (.getfield 58, 3) := by decide +kernel
theorem dX2_addSight_41 : decode cX2_addSight 41 = .ok (.iload 4, 2) := by decide +kernel
theorem dX2_addSight_43 : decode cX2_addSight 43 = .ok (.ior, 1) := by decide +kernel
theorem dX2_addSight_44 : decode cX2_addSight 44 = .ok (.goto 12, 3) := by decide +kernel
theorem dX2_addSight_47 : decode cX2_addSight 47 = .ok (.aload_n 0, 1) := by decide +kernel
theorem dX2_addSight_48 : decode cX2_addSight 48 = .ok (.getfield 58, 3) := by decide +kernel
theorem dX2_addSight_51 : decode cX2_addSight 51 = .ok (.iload 4, 2) := by decide +kernel
theorem dX2_addSight_53 : decode cX2_addSight 53 = .ok (.iconst (-1), 1) := by decide +kernel
theorem dX2_addSight_54 : decode cX2_addSight 54 = .ok (.ixor, 1) := by decide +kernel
theorem dX2_addSight_55 : decode cX2_addSight 55 = .ok (.iand, 1) := by decide +kernel
theorem dX2_addSight_56 : decode cX2_addSight 56 = .ok (.putfield 58, 3) := by decide +kernel
theorem dX2_addSight_59 : decode cX2_addSight 59 = .ok (.aload_n 0, 1) := by decide +kernel
theorem dX2_addSight_60 : decode cX2_addSight 60 = .ok (.dup, 1) := by decide +kernel
theorem dX2_addSight_61 : decode cX2_addSight 61 = .ok (.getfield 55, 3) := by decide +kernel
theorem dX2_addSight_64 : decode cX2_addSight 64 = .ok (.iconst 1, 1) := by decide +kernel
theorem dX2_addSight_65 : decode cX2_addSight 65 = .ok (.iadd, 1) := by decide +kernel
theorem dX2_addSight_66 : decode cX2_addSight 66 = .ok (.putfield 55, 3) := by decide +kernel
theorem dX2_addSight_69 : decode cX2_addSight 69 = .ok (.return_, 1) := by decide +kernel
theorem dX2_reasonAgainst_0 : decode cX2_reasonAgainst 0 = .ok (.aload_n 1, 1) := by decide +kernel
theorem dX2_reasonAgainst_1 : decode cX2_reasonAgainst 1 = .ok (.getfield 104, 3) := by decide +kernel
theorem dX2_reasonAgainst_4 : decode cX2_reasonAgainst 4 = .ok (.bipush 7, 2) := by decide +kernel
theorem dX2_reasonAgainst_6 : decode cX2_reasonAgainst 6 = .ok (.if_icmp .ne 19, 3) := by decide +kernel
theorem dX2_reasonAgainst_9 : decode cX2_reasonAgainst 9 = .ok (.aload_n 0, 1) := by decide +kernel
theorem dX2_reasonAgainst_10 : decode cX2_reasonAgainst 10 = .ok (.getfield 52, 3) := by decide +kernel
theorem dX2_reasonAgainst_13 : decode cX2_reasonAgainst 13 = .ok (.bipush 99, 2) := by decide +kernel
theorem dX2_reasonAgainst_15 : decode cX2_reasonAgainst 15 = .ok (.if_icmp .lt 8, 3) := by decide +kernel
theorem dX2_reasonAgainst_18 : decode cX2_reasonAgainst 18 = .ok (.bipush 7, 2) := by decide +kernel
theorem dX2_reasonAgainst_20 : decode cX2_reasonAgainst 20 = .ok (.goto 4, 3) := by decide +kernel
theorem dX2_reasonAgainst_23 : decode cX2_reasonAgainst 23 = .ok (.iconst 0, 1) := by decide +kernel
theorem dX2_reasonAgainst_24 : decode cX2_reasonAgainst 24 = .ok (.ireturn, 1) := by decide +kernel
theorem dX2_reasonAgainst_25 : decode cX2_reasonAgainst 25 = .ok (.aload_n 0, 1) := by decide +kernel
theorem dX2_reasonAgainst_26 : decode cX2_reasonAgainst 26 = .ok (.aload_n 1, 1) := by decide +kernel
theorem dX2_reasonAgainst_27 : decode cX2_reasonAgainst 27 = .ok (.getfield 109, 3) := by decide +kernel
theorem dX2_reasonAgainst_30 : decode cX2_reasonAgainst 30 = .ok (.invokevirtual 71, 3) := by decide +kernel
theorem dX2_reasonAgainst_33 : decode cX2_reasonAgainst 33 = .ok (.ifCond .ne 5, 3) := by decide +kernel
theorem dX2_reasonAgainst_36 : decode cX2_reasonAgainst 36 = .ok (.iconst 1, 1) := by decide +kernel
theorem dX2_reasonAgainst_37 : decode cX2_reasonAgainst 37 = .ok (.ireturn, 1) := by decide +kernel
theorem dX2_reasonAgainst_38 : decode cX2_reasonAgainst 38 = .ok (.aload_n 0, 1) := by decide +kernel
theorem dX2_reasonAgainst_39 : decode cX2_reasonAgainst 39 = .ok (.aload_n 1, 1) := by decide +kernel
theorem dX2_reasonAgainst_40 : decode cX2_reasonAgainst 40 = .ok (.getfield 109, 3) := by decide +kernel
theorem dX2_reasonAgainst_43 : decode cX2_reasonAgainst 43 = .ok (.invokevirtual 78, 3) := by decide +kernel
theorem dX2_reasonAgainst_46 : decode cX2_reasonAgainst 46 = .ok (.ifCond .eq 5, 3) := by decide +kernel
theorem dX2_reasonAgainst_49 : decode cX2_reasonAgainst 49 = .ok (.iconst 2, 1) := by decide +kernel
theorem dX2_reasonAgainst_50 : decode cX2_reasonAgainst 50 = .ok (.ireturn, 1) := by decide +kernel
theorem dX2_reasonAgainst_51 : decode cX2_reasonAgainst 51 = .ok (.aload_n 1, 1) := by decide +kernel
theorem dX2_reasonAgainst_52 : decode cX2_reasonAgainst 52 = .ok (.getfield 104, 3) := by decide +kernel
theorem dX2_reasonAgainst_55 : decode cX2_reasonAgainst 55 = .ok (.tableswitch 147 0 6 #[41, 61, 101, 81, 147, 119, 125], 41) := by decide +kernel
theorem dX2_reasonAgainst_96 : decode cX2_reasonAgainst 96 = .ok (.aload_n 0, 1) := by decide +kernel
theorem dX2_reasonAgainst_97 : decode cX2_reasonAgainst 97 = .ok (.getfield 9, 3) := by decide +kernel
theorem dX2_reasonAgainst_100 : decode cX2_reasonAgainst 100 = .ok (.aload_n 1, 1) := by decide +kernel
theorem dX2_reasonAgainst_101 : decode cX2_reasonAgainst 101 = .ok (.getfield 109, 3) := by decide +kernel
theorem dX2_reasonAgainst_104 : decode cX2_reasonAgainst 104 = .ok (.iaload, 1) := by decide +kernel
theorem dX2_reasonAgainst_105 : decode cX2_reasonAgainst 105 = .ok (.bipush 99, 2) := by decide +kernel
theorem dX2_reasonAgainst_107 : decode cX2_reasonAgainst 107 = .ok (.if_icmp .lt 7, 3) := by decide +kernel
theorem dX2_reasonAgainst_110 : decode cX2_reasonAgainst 110 = .ok (.iconst 3, 1) := by decide +kernel
theorem dX2_reasonAgainst_111 : decode cX2_reasonAgainst 111 = .ok (.goto 4, 3) := by decide +kernel
theorem dX2_reasonAgainst_114 : decode cX2_reasonAgainst 114 = .ok (.iconst 0, 1) := by decide +kernel
theorem dX2_reasonAgainst_115 : decode cX2_reasonAgainst 115 = .ok (.ireturn, 1) := by decide +kernel
theorem dX2_reasonAgainst_116 : decode cX2_reasonAgainst 116 = .ok (.aload_n 0, 1) := by decide +kernel
theorem dX2_reasonAgainst_117 : decode cX2_reasonAgainst 117 = .ok (.getfield 15, 3) := by decide +kernel
theorem dX2_reasonAgainst_120 : decode cX2_reasonAgainst 120 = .ok (.aload_n 1, 1) := by decide +kernel
theorem dX2_reasonAgainst_121 : decode cX2_reasonAgainst 121 = .ok (.getfield 109, 3) := by decide +kernel
theorem dX2_reasonAgainst_124 : decode cX2_reasonAgainst 124 = .ok (.iaload, 1) := by decide +kernel
theorem dX2_reasonAgainst_125 : decode cX2_reasonAgainst 125 = .ok (.bipush 99, 2) := by decide +kernel
theorem dX2_reasonAgainst_127 : decode cX2_reasonAgainst 127 = .ok (.if_icmp .lt 7, 3) := by decide +kernel
theorem dX2_reasonAgainst_130 : decode cX2_reasonAgainst 130 = .ok (.iconst 3, 1) := by decide +kernel
theorem dX2_reasonAgainst_131 : decode cX2_reasonAgainst 131 = .ok (.goto 4, 3) := by decide +kernel
theorem dX2_reasonAgainst_134 : decode cX2_reasonAgainst 134 = .ok (.iconst 0, 1) := by decide +kernel
theorem dX2_reasonAgainst_135 : decode cX2_reasonAgainst 135 = .ok (.ireturn, 1) := by decide +kernel
theorem dX2_reasonAgainst_136 : decode cX2_reasonAgainst 136 = .ok (.aload_n 0, 1) := by decide +kernel
theorem dX2_reasonAgainst_137 : decode cX2_reasonAgainst 137 = .ok (.getfield 18, 3) := by decide +kernel
theorem dX2_reasonAgainst_140 : decode cX2_reasonAgainst 140 = .ok (.aload_n 1, 1) := by decide +kernel
theorem dX2_reasonAgainst_141 : decode cX2_reasonAgainst 141 = .ok (.getfield 109, 3) := by decide +kernel
theorem dX2_reasonAgainst_144 : decode cX2_reasonAgainst 144 = .ok (.iaload, 1) := by decide +kernel
theorem dX2_reasonAgainst_145 : decode cX2_reasonAgainst 145 = .ok (.bipush 99, 2) := by decide +kernel
theorem dX2_reasonAgainst_147 : decode cX2_reasonAgainst 147 = .ok (.if_icmp .lt 7, 3) := by decide +kernel
theorem dX2_reasonAgainst_150 : decode cX2_reasonAgainst 150 = .ok (.iconst 3, 1) := by decide +kernel
theorem dX2_reasonAgainst_151 : decode cX2_reasonAgainst 151 = .ok (.goto 4, 3) := by decide +kernel
theorem dX2_reasonAgainst_154 : decode cX2_reasonAgainst 154 = .ok (.iconst 0, 1) := by decide +kernel
theorem dX2_reasonAgainst_155 : decode cX2_reasonAgainst 155 = .ok (.ireturn, 1) := by decide +kernel
theorem dX2_reasonAgainst_156 : decode cX2_reasonAgainst 156 = .ok (.aload_n 0, 1) := by decide +kernel
theorem dX2_reasonAgainst_157 : decode cX2_reasonAgainst 157 = .ok (.getfield 15, 3) := by decide +kernel
theorem dX2_reasonAgainst_160 : decode cX2_reasonAgainst 160 = .ok (.aload_n 1, 1) := by decide +kernel
theorem dX2_reasonAgainst_161 : decode cX2_reasonAgainst 161 = .ok (.getfield 109, 3) := by decide +kernel
theorem dX2_reasonAgainst_164 : decode cX2_reasonAgainst 164 = .ok (.iaload, 1) := by decide +kernel
theorem dX2_reasonAgainst_165 : decode cX2_reasonAgainst 165 = .ok (.ifCond .gt 7, 3) := by decide +kernel
theorem dX2_reasonAgainst_168 : decode cX2_reasonAgainst 168 = .ok (.iconst 3, 1) := by decide +kernel
theorem dX2_reasonAgainst_169 : decode cX2_reasonAgainst 169 = .ok (.goto 4, 3) := by decide +kernel
theorem dX2_reasonAgainst_172 : decode cX2_reasonAgainst 172 = .ok (.iconst 0, 1) := by decide +kernel
theorem dX2_reasonAgainst_173 : decode cX2_reasonAgainst 173 = .ok (.ireturn, 1) := by decide +kernel
theorem dX2_reasonAgainst_174 : decode cX2_reasonAgainst 174 = .ok (.aload_n 0, 1) := by decide +kernel
theorem dX2_reasonAgainst_175 : decode cX2_reasonAgainst 175 = .ok (.aload_n 1, 1) := by decide +kernel
theorem dX2_reasonAgainst_176 : decode cX2_reasonAgainst 176 = .ok (.invokevirtual 112, 3) := by decide +kernel
theorem dX2_reasonAgainst_179 : decode cX2_reasonAgainst 179 = .ok (.ireturn, 1) := by decide +kernel
theorem dX2_reasonAgainst_180 : decode cX2_reasonAgainst 180 = .ok (.aload_n 0, 1) := by decide +kernel
theorem dX2_reasonAgainst_181 : decode cX2_reasonAgainst 181 = .ok (.aload_n 1, 1) := by decide +kernel
theorem dX2_reasonAgainst_182 : decode cX2_reasonAgainst 182 = .ok (.getfield 109, 3) := by decide +kernel
theorem dX2_reasonAgainst_185 : decode cX2_reasonAgainst 185 = .ok (.aload_n 1, 1) := by decide +kernel
theorem dX2_reasonAgainst_186 : decode cX2_reasonAgainst 186 = .ok (.getfield 116, 3) := by decide +kernel
theorem dX2_reasonAgainst_189 : decode cX2_reasonAgainst 189 = .ok (.invokevirtual 92, 3) := by decide +kernel
theorem dX2_reasonAgainst_192 : decode cX2_reasonAgainst 192 = .ok (.ifCond .ne 8, 3) := by decide +kernel
theorem dX2_reasonAgainst_195 : decode cX2_reasonAgainst 195 = .ok (.bipush 6, 2) := by decide +kernel
theorem dX2_reasonAgainst_197 : decode cX2_reasonAgainst 197 = .ok (.goto 4, 3) := by decide +kernel
theorem dX2_reasonAgainst_200 : decode cX2_reasonAgainst 200 = .ok (.iconst 0, 1) := by decide +kernel
theorem dX2_reasonAgainst_201 : decode cX2_reasonAgainst 201 = .ok (.ireturn, 1) := by decide +kernel
theorem dX2_reasonAgainst_202 : decode cX2_reasonAgainst 202 = .ok (.iconst 0, 1) := by decide +kernel
theorem dX2_reasonAgainst_203 : decode cX2_reasonAgainst 203 = .ok (.ireturn, 1) := by decide +kernel
theorem dX2_reasonAgainstLetting_0 : decode cX2_reasonAgainstLetting 0 = .ok (.aload_n 0, 1) := by decide +kernel
theorem dX2_reasonAgainstLetting_1 : decode cX2_reasonAgainstLetting 1 = .ok (.aload_n 1, 1) := by decide +kernel
theorem dX2_reasonAgainstLetting_2 : decode cX2_reasonAgainstLetting 2 = .ok (.getfield 109, 3) := by decide +kernel
theorem dX2_reasonAgainstLetting_5 : decode cX2_reasonAgainstLetting 5 = .ok (.aload_n 1, 1) := by decide +kernel
theorem dX2_reasonAgainstLetting_6 : decode cX2_reasonAgainstLetting 6 = .ok (.getfield 119, 3) := by decide +kernel
theorem dX2_reasonAgainstLetting_9 : decode cX2_reasonAgainstLetting 9 = .ok (.invokevirtual 88, 3) := by decide +kernel
theorem dX2_reasonAgainstLetting_12 : decode cX2_reasonAgainstLetting 12 = .ok (.bipush (-6), 2) := by decide +kernel
theorem dX2_reasonAgainstLetting_14 : decode cX2_reasonAgainstLetting 14 = .ok (.if_icmp .eq 5, 3) := by decide +kernel
theorem dX2_reasonAgainstLetting_17 : decode cX2_reasonAgainstLetting 17 = .ok (.iconst 4, 1) := by decide +kernel
theorem dX2_reasonAgainstLetting_18 : decode cX2_reasonAgainstLetting 18 = .ok (.ireturn, 1) := by decide +kernel
theorem dX2_reasonAgainstLetting_19 : decode cX2_reasonAgainstLetting 19 = .ok (.aload_n 0, 1) := by decide +kernel
theorem dX2_reasonAgainstLetting_20 : decode cX2_reasonAgainstLetting 20 = .ok (.getfield 33, 3) := by decide +kernel
theorem dX2_reasonAgainstLetting_23 : decode cX2_reasonAgainstLetting 23 = .ok (.aload_n 1, 1) := by decide +kernel
theorem dX2_reasonAgainstLetting_24 : decode cX2_reasonAgainstLetting 24 = .ok (.getfield 116, 3) := by decide +kernel
theorem dX2_reasonAgainstLetting_27 : decode cX2_reasonAgainstLetting 27 = .ok (.iaload, 1) := by decide +kernel
theorem dX2_reasonAgainstLetting_28 : decode cX2_reasonAgainstLetting 28 = .ok (.bipush 10, 2) := by decide +kernel
theorem dX2_reasonAgainstLetting_30 : decode cX2_reasonAgainstLetting 30 = .ok (.if_icmp .ge 7, 3) := by decide +kernel
theorem dX2_reasonAgainstLetting_33 : decode cX2_reasonAgainstLetting 33 = .ok (.iconst 5, 1) := by decide +kernel
theorem dX2_reasonAgainstLetting_34 : decode cX2_reasonAgainstLetting 34 = .ok (.goto 4, 3) := by decide +kernel
theorem dX2_reasonAgainstLetting_37 : decode cX2_reasonAgainstLetting 37 = .ok (.iconst 0, 1) := by decide +kernel
theorem dX2_reasonAgainstLetting_38 : decode cX2_reasonAgainstLetting 38 = .ok (.ireturn, 1) := by decide +kernel
theorem dX2_live_0 : decode cX2_live 0 = .ok (.aload_n 1, 1) := by decide +kernel
theorem dX2_live_1 : decode cX2_live 1 = .ok (.getfield 104, 3) := by decide +kernel
theorem dX2_live_4 : decode cX2_live 4 = .ok (.tableswitch 174 0 7 #[48, 64, 96, 80, 112, 123, 174, 161], 48) := by decide +kernel
theorem dX2_live_52 : decode cX2_live 52 = .ok (.aload_n 0, 1) := by decide +kernel
theorem dX2_live_53 : decode cX2_live 53 = .ok (.getfield 9, 3) := by decide +kernel
theorem dX2_live_56 : decode cX2_live 56 = .ok (.aload_n 1, 1) := by decide +kernel
theorem dX2_live_57 : decode cX2_live 57 = .ok (.getfield 109, 3) := by decide +kernel
theorem dX2_live_60 : decode cX2_live 60 = .ok (.dup2, 1) := by decide +kernel
theorem dX2_live_61 : decode cX2_live 61 = .ok (.iaload, 1) := by decide +kernel
theorem dX2_live_62 : decode cX2_live 62 = .ok (.iconst 1, 1) := by decide +kernel
theorem dX2_live_63 : decode cX2_live 63 = .ok (.iadd, 1) := by decide +kernel
theorem dX2_live_64 : decode cX2_live 64 = .ok (.iastore, 1) := by decide +kernel
theorem dX2_live_65 : decode cX2_live 65 = .ok (.goto 113, 3) := by decide +kernel
theorem dX2_live_68 : decode cX2_live 68 = .ok (.aload_n 0, 1) := by decide +kernel
theorem dX2_live_69 : decode cX2_live 69 = .ok (.getfield 15, 3) := by decide +kernel
theorem dX2_live_72 : decode cX2_live 72 = .ok (.aload_n 1, 1) := by decide +kernel
theorem dX2_live_73 : decode cX2_live 73 = .ok (.getfield 109, 3) := by decide +kernel
theorem dX2_live_76 : decode cX2_live 76 = .ok (.dup2, 1) := by decide +kernel
theorem dX2_live_77 : decode cX2_live 77 = .ok (.iaload, 1) := by decide +kernel
theorem dX2_live_78 : decode cX2_live 78 = .ok (.iconst 1, 1) := by decide +kernel
theorem dX2_live_79 : decode cX2_live 79 = .ok (.iadd, 1) := by decide +kernel
theorem dX2_live_80 : decode cX2_live 80 = .ok (.iastore, 1) := by decide +kernel
theorem dX2_live_81 : decode cX2_live 81 = .ok (.goto 97, 3) := by decide +kernel
theorem dX2_live_84 : decode cX2_live 84 = .ok (.aload_n 0, 1) := by decide +kernel
theorem dX2_live_85 : decode cX2_live 85 = .ok (.getfield 18, 3) := by decide +kernel
theorem dX2_live_88 : decode cX2_live 88 = .ok (.aload_n 1, 1) := by decide +kernel
theorem dX2_live_89 : decode cX2_live 89 = .ok (.getfield 109, 3) := by decide +kernel
theorem dX2_live_92 : decode cX2_live 92 = .ok (.dup2, 1) := by decide +kernel
theorem dX2_live_93 : decode cX2_live 93 = .ok (.iaload, 1) := by decide +kernel
theorem dX2_live_94 : decode cX2_live 94 = .ok (.iconst 1, 1) := by decide +kernel
theorem dX2_live_95 : decode cX2_live 95 = .ok (.iadd, 1) := by decide +kernel
theorem dX2_live_96 : decode cX2_live 96 = .ok (.iastore, 1) := by decide +kernel
theorem dX2_live_97 : decode cX2_live 97 = .ok (.goto 81, 3) := by decide +kernel
theorem dX2_live_100 : decode cX2_live 100 = .ok (.aload_n 0, 1) := by decide +kernel
theorem dX2_live_101 : decode cX2_live 101 = .ok (.getfield 15, 3) := by decide +kernel
theorem dX2_live_104 : decode cX2_live 104 = .ok (.aload_n 1, 1) := by decide +kernel
theorem dX2_live_105 : decode cX2_live 105 = .ok (.getfield 109, 3) := by decide +kernel
theorem dX2_live_108 : decode cX2_live 108 = .ok (.dup2, 1) := by decide +kernel
theorem dX2_live_109 : decode cX2_live 109 = .ok (.iaload, 1) := by decide +kernel
theorem dX2_live_110 : decode cX2_live 110 = .ok (.iconst 1, 1) := by decide +kernel
theorem dX2_live_111 : decode cX2_live 111 = .ok (.isub, 1) := by decide +kernel
theorem dX2_live_112 : decode cX2_live 112 = .ok (.iastore, 1) := by decide +kernel
theorem dX2_live_113 : decode cX2_live 113 = .ok (.goto 65, 3) := by decide +kernel
theorem dX2_live_116 : decode cX2_live 116 = .ok (.aload_n 0, 1) := by decide +kernel
theorem dX2_live_117 : decode cX2_live 117 = .ok (.aload_n 1, 1) := by decide +kernel
theorem dX2_live_118 : decode cX2_live 118 = .ok (.getfield 109, 3) := by decide +kernel
theorem dX2_live_121 : decode cX2_live 121 = .ok (.invokevirtual 122, 3) := by decide +kernel
theorem dX2_live_124 : decode cX2_live 124 = .ok (.goto 54, 3) := by decide +kernel
theorem dX2_live_127 : decode cX2_live 127 = .ok (.aload_n 0, 1) := by decide +kernel
theorem dX2_live_128 : decode cX2_live 128 = .ok (.getfield 21, 3) := by decide +kernel
theorem dX2_live_131 : decode cX2_live 131 = .ok (.aload_n 1, 1) := by decide +kernel
theorem dX2_live_132 : decode cX2_live 132 = .ok (.getfield 109, 3) := by decide +kernel
theorem dX2_live_135 : decode cX2_live 135 = .ok (.bipush 8, 2) := by decide +kernel
theorem dX2_live_137 : decode cX2_live 137 = .ok (.imul, 1) := by decide +kernel
theorem dX2_live_138 : decode cX2_live 138 = .ok (.aload_n 1, 1) := by decide +kernel
theorem dX2_live_139 : decode cX2_live 139 = .ok (.getfield 119, 3) := by decide +kernel
theorem dX2_live_142 : decode cX2_live 142 = .ok (.iadd, 1) := by decide +kernel
