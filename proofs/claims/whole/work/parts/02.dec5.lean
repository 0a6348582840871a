theorem dX7_deed_45 : decode cX7_deed 45 = .ok (.iconst 0, 1) := by decide +kernel
theorem dX7_deed_46 : decode cX7_deed 46 = .ok (.goto 45, 3) := by decide +kernel
theorem dX7_deed_49 : decode cX7_deed 49 = .ok (.iload_n 1, 1) := by decide +kernel
theorem dX7_deed_50 : decode cX7_deed 50 = .ok (.bipush 115, 2) := by decide +kernel
theorem dX7_deed_52 : decode cX7_deed 52 = .ok (.if_icmp .ne 7, 3) := by decide +kernel
theorem dX7_deed_55 : decode cX7_deed 55 = .ok (.iconst 1, 1) := by decide +kernel
theorem dX7_deed_56 : decode cX7_deed 56 = .ok (.goto 35, 3) := by decide +kernel
theorem dX7_deed_59 : decode cX7_deed 59 = .ok (.iload_n 1, 1) := by decide +kernel
theorem dX7_deed_60 : decode cX7_deed 60 = .ok (.bipush 112, 2) := by decide +kernel
theorem dX7_deed_62 : decode cX7_deed 62 = .ok (.if_icmp .ne 7, 3) := by decide +kernel
theorem dX7_deed_65 : decode cX7_deed 65 = .ok (.iconst 2, 1) := by decide +kernel
theorem dX7_deed_66 : decode cX7_deed 66 = .ok (.goto 25, 3) := by decide +kernel
theorem dX7_deed_69 : decode cX7_deed 69 = .ok (.iload_n 1, 1) := by decide +kernel
theorem dX7_deed_70 : decode cX7_deed 70 = .ok (.bipush 101, 2) := by decide +kernel
theorem dX7_deed_72 : decode cX7_deed 72 = .ok (.if_icmp .ne 7, 3) := by decide +kernel
theorem dX7_deed_75 : decode cX7_deed 75 = .ok (.iconst 3, 1) := by decide +kernel
theorem dX7_deed_76 : decode cX7_deed 76 = .ok (.goto 15, 3) := by decide +kernel
theorem dX7_deed_79 : decode cX7_deed 79 = .ok (.iload_n 1, 1) := by decide +kernel
theorem dX7_deed_80 : decode cX7_deed 80 = .ok (.bipush 120, 2) := by decide +kernel
theorem dX7_deed_82 : decode cX7_deed 82 = .ok (.if_icmp .ne 7, 3) := by decide +kernel
theorem dX7_deed_85 : decode cX7_deed 85 = .ok (.iconst 4, 1) := by decide +kernel
theorem dX7_deed_86 : decode cX7_deed 86 = .ok (.goto 5, 3) := by decide +kernel
theorem dX7_deed_89 : decode cX7_deed 89 = .ok (.bipush (-6), 2) := by decide +kernel
theorem dX7_deed_91 : decode cX7_deed 91 = .ok (.istore_n 2, 1) := by decide +kernel
theorem dX7_deed_92 : decode cX7_deed 92 = .ok (.aload_n 0, 1) := by decide +kernel
theorem dX7_deed_93 : decode cX7_deed 93 = .ok (.getfield 55, 3) := by decide +kernel
theorem dX7_deed_96 : decode cX7_deed 96 = .ok (.aload_n 0, 1) := by decide +kernel
theorem dX7_deed_97 : decode cX7_deed 97 = .ok (.getfield 146, 3) := by decide +kernel
theorem dX7_deed_100 : decode cX7_deed 100 = .ok (.iload_n 2, 1) := by decide +kernel
theorem dX7_deed_101 : decode cX7_deed 101 = .ok (.iastore, 1) := by decide +kernel
theorem dX7_deed_102 : decode cX7_deed 102 = .ok (.iload_n 2, 1) := by decide +kernel
theorem dX7_deed_103 : decode cX7_deed 103 = .ok (.ifCond .ge 8, 3) := by decide +kernel
theorem dX7_deed_106 : decode cX7_deed 106 = .ok (.bipush (-6), 2) := by decide +kernel
theorem dX7_deed_108 : decode cX7_deed 108 = .ok (.goto 7, 3) := by decide +kernel
theorem dX7_deed_111 : decode cX7_deed 111 = .ok (.aload_n 0, 1) := by decide +kernel
theorem dX7_deed_112 : decode cX7_deed 112 = .ok (.invokevirtual 152, 3) := by decide +kernel
theorem dX7_deed_115 : decode cX7_deed 115 = .ok (.ireturn, 1) := by decide +kernel
theorem dX7_readOn_0 : decode cX7_readOn 0 = .ok (.iload_n 1, 1) := by decide +kernel
theorem dX7_readOn_1 : decode cX7_readOn 1 = .ok (.ifCond .ne 9, 3) := by decide +kernel
theorem dX7_readOn_4 : decode cX7_readOn 4 = .ok (.aload_n 0, 1) := by decide +kernel
theorem dX7_readOn_5 : decode cX7_readOn 5 = .ok (.iload_n 2, 1) := by decide +kernel
theorem dX7_readOn_6 : decode cX7_readOn 6 = .ok (.invokevirtual 160, 3) := by decide +kernel
theorem dX7_readOn_9 : decode cX7_readOn 9 = .ok (.ireturn, 1) := by decide +kernel
theorem dX7_readOn_10 : decode cX7_readOn 10 = .ok (.iload_n 1, 1) := by decide +kernel
theorem dX7_readOn_11 : decode cX7_readOn 11 = .ok (.iconst 1, 1) := by decide +kernel
theorem dX7_readOn_12 : decode cX7_readOn 12 = .ok (.if_icmp .ne 9, 3) := by decide +kernel
theorem dX7_readOn_15 : decode cX7_readOn 15 = .ok (.aload_n 0, 1) := by decide +kernel
theorem dX7_readOn_16 : decode cX7_readOn 16 = .ok (.iload_n 2, 1) := by decide +kernel
theorem dX7_readOn_17 : decode cX7_readOn 17 = .ok (.invokevirtual 163, 3) := by decide +kernel
theorem dX7_readOn_20 : decode cX7_readOn 20 = .ok (.ireturn, 1) := by decide +kernel
theorem dX7_readOn_21 : decode cX7_readOn 21 = .ok (.iload_n 1, 1) := by decide +kernel
theorem dX7_readOn_22 : decode cX7_readOn 22 = .ok (.iconst 3, 1) := by decide +kernel
theorem dX7_readOn_23 : decode cX7_readOn 23 = .ok (.if_icmp .ne 33, 3) := by decide +kernel
theorem dX7_readOn_26 : decode cX7_readOn 26 = .ok (.aload_n 0, 1) := by decide +kernel
theorem dX7_readOn_27 : decode cX7_readOn 27 = .ok (.getfield 58, 3) := by decide +kernel
theorem dX7_readOn_30 : decode cX7_readOn 30 = .ok (.aload_n 0, 1) := by decide +kernel
theorem dX7_readOn_31 : decode cX7_readOn 31 = .ok (.getfield 146, 3) := by decide +kernel
theorem dX7_readOn_34 : decode cX7_readOn 34 = .ok (.iload_n 2, 1) := by decide +kernel
theorem dX7_readOn_35 : decode cX7_readOn 35 = .ok (.bipush 65, 2) := by decide +kernel
theorem dX7_readOn_37 : decode cX7_readOn 37 = .ok (.isub, 1) := by decide +kernel
theorem dX7_readOn_38 : decode cX7_readOn 38 = .ok (.iastore, 1) := by decide +kernel
theorem dX7_readOn_39 : decode cX7_readOn 39 = .ok (.iload_n 2, 1) := by decide +kernel
theorem dX7_readOn_40 : decode cX7_readOn 40 = .ok (.invokestatic 149, 3) := by decide +kernel
theorem dX7_readOn_43 : decode cX7_readOn 43 = .ok (.ifCond .eq 10, 3) := by decide +kernel
theorem dX7_readOn_46 : decode cX7_readOn 46 = .ok (.aload_n 0, 1) := by decide +kernel
theorem dX7_readOn_47 : decode cX7_readOn 47 = .ok (.invokevirtual 152, 3) := by decide +kernel
theorem dX7_readOn_50 : decode cX7_readOn 50 = .ok (.goto 5, 3) := by decide +kernel
theorem dX7_readOn_53 : decode cX7_readOn 53 = .ok (.bipush (-6), 2) := by decide +kernel
theorem dX7_readOn_55 : decode cX7_readOn 55 = .ok (.ireturn, 1) := by decide +kernel
theorem dX7_readOn_56 : decode cX7_readOn 56 = .ok (.aload_n 0, 1) := by decide +kernel
theorem dX7_readOn_57 : decode cX7_readOn 57 = .ok (.getfield 61, 3) := by decide +kernel
theorem dX7_readOn_60 : decode cX7_readOn 60 = .ok (.aload_n 0, 1) := by decide +kernel
theorem dX7_readOn_61 : decode cX7_readOn 61 = .ok (.getfield 146, 3) := by decide +kernel
theorem dX7_readOn_64 : decode cX7_readOn 64 = .ok (.iload_n 2, 1) := by decide +kernel
theorem dX7_readOn_65 : decode cX7_readOn 65 = .ok (.bipush 97, 2) := by decide +kernel
theorem dX7_readOn_67 : decode cX7_readOn 67 = .ok (.isub, 1) := by decide +kernel
theorem dX7_readOn_68 : decode cX7_readOn 68 = .ok (.iastore, 1) := by decide +kernel
theorem dX7_readOn_69 : decode cX7_readOn 69 = .ok (.iload_n 2, 1) := by decide +kernel
theorem dX7_readOn_70 : decode cX7_readOn 70 = .ok (.invokestatic 166, 3) := by decide +kernel
theorem dX7_readOn_73 : decode cX7_readOn 73 = .ok (.ifCond .ne 8, 3) := by decide +kernel
theorem dX7_readOn_76 : decode cX7_readOn 76 = .ok (.bipush (-6), 2) := by decide +kernel
theorem dX7_readOn_78 : decode cX7_readOn 78 = .ok (.goto 16, 3) := by decide +kernel
theorem dX7_readOn_81 : decode cX7_readOn 81 = .ok (.iload_n 1, 1) := by decide +kernel
theorem dX7_readOn_82 : decode cX7_readOn 82 = .ok (.iconst 2, 1) := by decide +kernel
theorem dX7_readOn_83 : decode cX7_readOn 83 = .ok (.if_icmp .ne 7, 3) := by decide +kernel
theorem dX7_readOn_86 : decode cX7_readOn 86 = .ok (.iconst 3, 1) := by decide +kernel
theorem dX7_readOn_87 : decode cX7_readOn 87 = .ok (.goto 7, 3) := by decide +kernel
theorem dX7_readOn_90 : decode cX7_readOn 90 = .ok (.aload_n 0, 1) := by decide +kernel
theorem dX7_readOn_91 : decode cX7_readOn 91 = .ok (.invokevirtual 152, 3) := by decide +kernel
theorem dX7_readOn_94 : decode cX7_readOn 94 = .ok (.ireturn, 1) := by decide +kernel
theorem dX7_fault_0 : decode cX7_fault 0 = .ok (.aload_n 0, 1) := by decide +kernel
theorem dX7_fault_1 : decode cX7_fault 1 = .ok (.iconst 0, 1) := by decide +kernel
theorem dX7_fault_2 : decode cX7_fault 2 = .ok (.putfield 146, 3) := by decide +kernel
theorem dX7_fault_5 : decode cX7_fault 5 = .ok (.iconst 0, 1) := by decide +kernel
theorem dX7_fault_6 : decode cX7_fault 6 = .ok (.istore_n 1, 1) := by decide +kernel
theorem dX7_fault_7 : decode cX7_fault 7 = .ok (.iconst 0, 1) := by decide +kernel
theorem dX7_fault_8 : decode cX7_fault 8 = .ok (.istore_n 2, 1) := by decide +kernel
theorem dX7_fault_9 : decode cX7_fault 9 = .ok (.iload_n 2, 1) := by decide +kernel
theorem dX7_fault_10 : decode cX7_fault 10 = .ok (.aload_n 0, 1) := by decide +kernel
theorem dX7_fault_11 : decode cX7_fault 11 = .ok (.getfield 135, 3) := by decide +kernel
theorem dX7_fault_14 : decode cX7_fault 14 = .ok (.if_icmp .ge 27, 3) := by decide +kernel
theorem dX7_fault_17 : decode cX7_fault 17 = .ok (.aload_n 0, 1) := by decide +kernel
theorem dX7_fault_18 : decode cX7_fault 18 = .ok (.iload_n 1, 1) := by decide +kernel
theorem dX7_fault_19 : decode cX7_fault 19 = .ok (.aload_n 0, 1) := by decide +kernel
theorem dX7_fault_20 : decode cX7_fault 20 = .ok (.getfield 52, 3) := by decide +kernel
theorem dX7_fault_23 : decode cX7_fault 23 = .ok (.iload_n 2, 1) := by decide +kernel
theorem dX7_fault_24 : decode cX7_fault 24 = .ok (.iaload, 1) := by decide +kernel
theorem dX7_fault_25 : decode cX7_fault 25 = .ok (.invokevirtual 169, 3) := by decide +kernel
theorem dX7_fault_28 : decode cX7_fault 28 = .ok (.istore_n 1, 1) := by decide +kernel
theorem dX7_fault_29 : decode cX7_fault 29 = .ok (.iload_n 1, 1) := by decide +kernel
theorem dX7_fault_30 : decode cX7_fault 30 = .ok (.ifCond .ge 5, 3) := by decide +kernel
theorem dX7_fault_33 : decode cX7_fault 33 = .ok (.iload_n 2, 1) := by decide +kernel
theorem dX7_fault_34 : decode cX7_fault 34 = .ok (.ireturn, 1) := by decide +kernel
theorem dX7_fault_35 : decode cX7_fault 35 = .ok (.iinc 2 1, 3) := by decide +kernel
theorem dX7_fault_38 : decode cX7_fault 38 = .ok (.goto (-29), 3) := by decide +kernel
theorem dX7_fault_41 : decode cX7_fault 41 = .ok (.iload_n 1, 1) := by decide +kernel
theorem dX7_fault_42 : decode cX7_fault 42 = .ok (.ifCond .ne 8, 3) := by decide +kernel
theorem dX7_fault_45 : decode cX7_fault 45 = .ok (.bipush (-6), 2) := by decide +kernel
theorem dX7_fault_47 : decode cX7_fault 47 = .ok (.goto 7, 3) := by decide +kernel
theorem dX7_fault_50 : decode cX7_fault 50 = .ok (.aload_n 0, 1) := by decide +kernel
theorem dX7_fault_51 : decode cX7_fault 51 = .ok (.getfield 135, 3) := by decide +kernel
theorem dX7_fault_54 : decode cX7_fault 54 = .ok (.ireturn, 1) := by decide +kernel
theorem dX7_isSaint_0 : decode cX7_isSaint 0 = .ok (.aload_n 0, 1) := by decide +kernel
theorem dX7_isSaint_1 : decode cX7_isSaint 1 = .ok (.getfield 7, 3) := by decide +kernel
theorem dX7_isSaint_4 : decode cX7_isSaint 4 = .ok (.iload_n 1, 1) := by decide +kernel
theorem dX7_isSaint_5 : decode cX7_isSaint 5 = .ok (.iaload, 1) := by decide +kernel
theorem dX7_isSaint_6 : decode cX7_isSaint 6 = .ok (.aload_n 0, 1) := by decide +kernel
theorem dX7_isSaint_7 : decode cX7_isSaint 7 = .ok (.getfield 37, 3) := by decide +kernel
theorem dX7_isSaint_10 : decode cX7_isSaint 10 = .ok (.iconst 0, 1) := by decide +kernel
theorem dX7_isSaint_11 : decode cX7_isSaint 11 = .ok (.iaload, 1) := by decide +kernel
theorem dX7_isSaint_12 : decode cX7_isSaint 12 = .ok (.if_icmp .lt 37, 3) := by decide +kernel
theorem dX7_isSaint_15 : decode cX7_isSaint 15 = .ok (.aload_n 0, 1) := by decide +kernel
theorem dX7_isSaint_16 : decode cX7_isSaint 16 = .ok (.getfield 13, 3) := by decide +kernel
theorem dX7_isSaint_19 : decode cX7_isSaint 19 = .ok (.iload_n 1, 1) := by decide +kernel
theorem dX7_isSaint_20 : decode cX7_isSaint 20 = .ok (.iaload, 1) := by decide +kernel
theorem dX7_isSaint_21 : decode cX7_isSaint 21 = .ok (.aload_n 0, 1) := by decide +kernel
theorem dX7_isSaint_22 : decode cX7_isSaint 22 = .ok (.getfield 37, 3) := by decide +kernel
theorem dX7_isSaint_25 : decode cX7_isSaint 25 = .ok (.iconst 1, 1) := by decide +kernel
theorem dX7_isSaint_26 : decode cX7_isSaint 26 = .ok (.iaload, 1) := by decide +kernel
theorem dX7_isSaint_27 : decode cX7_isSaint 27 = .ok (.if_icmp .gt 22, 3) := by decide +kernel
theorem dX7_isSaint_30 : decode cX7_isSaint 30 = .ok (.aload_n 0, 1) := by decide +kernel
theorem dX7_isSaint_31 : decode cX7_isSaint 31 = .ok (.getfield 16, 3) := by decide +kernel
theorem dX7_isSaint_34 : decode cX7_isSaint 34 = .ok (.iload_n 1, 1) := by decide +kernel
theorem dX7_isSaint_35 : decode cX7_isSaint 35 = .ok (.iaload, 1) := by decide +kernel
theorem dX7_isSaint_36 : decode cX7_isSaint 36 = .ok (.aload_n 0, 1) := by decide +kernel
theorem dX7_isSaint_37 : decode cX7_isSaint 37 = .ok (.getfield 37, 3) := by decide +kernel
theorem dX7_isSaint_40 : decode cX7_isSaint 40 = .ok (.iconst 2, 1) := by decide +kernel
theorem dX7_isSaint_41 : decode cX7_isSaint 41 = .ok (.iaload, 1) := by decide +kernel
theorem dX7_isSaint_42 : decode cX7_isSaint 42 = .ok (.if_icmp .lt 7, 3) := by decide +kernel
theorem dX7_isSaint_45 : decode cX7_isSaint 45 = .ok (.iconst 1, 1) := by decide +kernel
theorem dX7_isSaint_46 : decode cX7_isSaint 46 = .ok (.goto 4, 3) := by decide +kernel
theorem dX7_isSaint_49 : decode cX7_isSaint 49 = .ok (.iconst 0, 1) := by decide +kernel
theorem dX7_isSaint_50 : decode cX7_isSaint 50 = .ok (.istore_n 2, 1) := by decide +kernel
theorem dX7_isSaint_51 : decode cX7_isSaint 51 = .ok (.aload_n 0, 1) := by decide +kernel
theorem dX7_isSaint_52 : decode cX7_isSaint 52 = .ok (.iload_n 1, 1) := by decide +kernel
theorem dX7_isSaint_53 : decode cX7_isSaint 53 = .ok (.invokevirtual 113, 3) := by decide +kernel
theorem dX7_isSaint_56 : decode cX7_isSaint 56 = .ok (.ifCond .eq 20, 3) := by decide +kernel
theorem dX7_isSaint_59 : decode cX7_isSaint 59 = .ok (.aload_n 0, 1) := by decide +kernel
theorem dX7_isSaint_60 : decode cX7_isSaint 60 = .ok (.getfield 19, 3) := by decide +kernel
theorem dX7_isSaint_63 : decode cX7_isSaint 63 = .ok (.iload_n 1, 1) := by decide +kernel
theorem dX7_isSaint_64 : decode cX7_isSaint 64 = .ok (.iaload, 1) := by decide +kernel
theorem dX7_isSaint_65 : decode cX7_isSaint 65 = .ok (.ifCond .ne 11, 3) := by decide +kernel
theorem dX7_isSaint_68 : decode cX7_isSaint 68 = .ok (.iload_n 2, 1) := by decide +kernel
theorem dX7_isSaint_69 : decode cX7_isSaint 69 = .ok (.ifCond .eq 7, 3) := by decide +kernel
theorem dX7_isSaint_72 : decode cX7_isSaint 72 = .ok (.iconst 1, 1) := by decide +kernel
theorem dX7_isSaint_73 : decode cX7_isSaint 73 = .ok (.goto 4, 3) := by decide +kernel
theorem dX7_isSaint_76 : decode cX7_isSaint 76 = .ok (.iconst 0, 1) := by decide +kernel
theorem dX7_isSaint_77 : decode cX7_isSaint 77 = .ok (.ireturn, 1) := by decide +kernel
theorem dX7_heldBy_0 : decode cX7_heldBy 0 = .ok (.iconst 0, 1) := by decide +kernel
theorem dX7_heldBy_1 : decode cX7_heldBy 1 = .ok (.istore_n 3, 1) := by decide +kernel
theorem dX7_heldBy_2 : decode cX7_heldBy 2 = .ok (.iconst 0, 1) := by decide +kernel
theorem dX7_heldBy_3 : decode cX7_heldBy 3 = .ok (.istore 4, 2) := by decide +kernel
theorem dX7_heldBy_5 : decode cX7_heldBy 5 = .ok (.iload 4, 2) := by decide +kernel
theorem dX7_heldBy_7 : decode cX7_heldBy 7 = .ok (.bipush 8, 2) := by decide +kernel
theorem dX7_heldBy_9 : decode cX7_heldBy 9 = .ok (.if_icmp .ge 36, 3) := by decide +kernel
theorem dX7_heldBy_12 : decode cX7_heldBy 12 = .ok (.iload_n 3, 1) := by decide +kernel
theorem dX7_heldBy_13 : decode cX7_heldBy 13 = .ok (.aload_n 0, 1) := by decide +kernel
theorem dX7_heldBy_14 : decode cX7_heldBy 14 = .ok (.getfield 22, 3) := by decide +kernel
theorem dX7_heldBy_17 : decode cX7_heldBy 17 = .ok (.bipush 8, 2) := by decide +kernel
theorem dX7_heldBy_19 : decode cX7_heldBy 19 = .ok (.iload_n 2, 1) := by decide +kernel
theorem dX7_heldBy_20 : decode cX7_heldBy 20 = .ok (.imul, 1) := by decide +kernel
theorem dX7_heldBy_21 : decode cX7_heldBy 21 = .ok (.iload 4, 2) := by decide +kernel
theorem dX7_heldBy_23 : decode cX7_heldBy 23 = .ok (.iadd, 1) := by decide +kernel
theorem dX7_heldBy_24 : decode cX7_heldBy 24 = .ok (.iaload, 1) := by decide +kernel
theorem dX7_heldBy_25 : decode cX7_heldBy 25 = .ok (.iload_n 1, 1) := by decide +kernel
theorem dX7_heldBy_26 : decode cX7_heldBy 26 = .ok (.if_icmp .ne 10, 3) := by decide +kernel
theorem dX7_heldBy_29 : decode cX7_heldBy 29 = .ok (.iconst 1, 1) := by decide +kernel
theorem dX7_heldBy_30 : decode cX7_heldBy 30 = .ok (.iload 4, 2) := by decide +kernel
theorem dX7_heldBy_32 : decode cX7_heldBy 32 = .ok (.ishl, 1) := by decide +kernel
theorem dX7_heldBy_33 : decode cX7_heldBy 33 = .ok (.goto 4, 3) := by decide +kernel
theorem dX7_heldBy_36 : decode cX7_heldBy 36 = .ok (.iconst 0, 1) := by decide +kernel
theorem dX7_heldBy_37 : decode cX7_heldBy 37 = .ok (.ior, 1) := by decide +kernel
theorem dX7_heldBy_38 : decode cX7_heldBy 38 = .ok (.istore_n 3, 1) := by decide +kernel
theorem dX7_heldBy_39 : decode cX7_heldBy 39 = .ok (.iinc 4 1, 3) := by decide +kernel
theorem dX7_heldBy_42 : decode cX7_heldBy 42 = .ok (.goto (-37), 3) := by decide +kernel
theorem dX7_heldBy_45 : decode cX7_heldBy 45 = .ok (.iload_n 3, 1) := by decide +kernel
theorem dX7_heldBy_46 : decode cX7_heldBy 46 = .ok (.ireturn, 1) := by decide +kernel
theorem dX7_whyNot_0 : decode cX7_whyNot 0 = .ok (.iload_n 1, 1) := by decide +kernel
theorem dX7_whyNot_1 : decode cX7_whyNot 1 = .ok (.bipush 7, 2) := by decide +kernel
theorem dX7_whyNot_3 : decode cX7_whyNot 3 = .ok (.if_icmp .ne 19, 3) := by decide +kernel
theorem dX7_whyNot_6 : decode cX7_whyNot 6 = .ok (.aload_n 0, 1) := by decide +kernel
theorem dX7_whyNot_7 : decode cX7_whyNot 7 = .ok (.getfield 173, 3) := by decide +kernel
theorem dX7_whyNot_10 : decode cX7_whyNot 10 = .ok (.bipush 99, 2) := by decide +kernel
theorem dX7_whyNot_12 : decode cX7_whyNot 12 = .ok (.if_icmp .ne 8, 3) := by decide +kernel
theorem dX7_whyNot_15 : decode cX7_whyNot 15 = .ok (.bipush 7, 2) := by decide +kernel
theorem dX7_whyNot_17 : decode cX7_whyNot 17 = .ok (.goto 4, 3) := by decide +kernel
theorem dX7_whyNot_20 : decode cX7_whyNot 20 = .ok (.iconst 0, 1) := by decide +kernel
theorem dX7_whyNot_21 : decode cX7_whyNot 21 = .ok (.ireturn, 1) := by decide +kernel
theorem dX7_whyNot_22 : decode cX7_whyNot 22 = .ok (.aload_n 0, 1) := by decide +kernel
theorem dX7_whyNot_23 : decode cX7_whyNot 23 = .ok (.iload_n 2, 1) := by decide +kernel
theorem dX7_whyNot_24 : decode cX7_whyNot 24 = .ok (.invokevirtual 113, 3) := by decide +kernel
theorem dX7_whyNot_27 : decode cX7_whyNot 27 = .ok (.ifCond .ne 5, 3) := by decide +kernel
theorem dX7_whyNot_30 : decode cX7_whyNot 30 = .ok (.iconst 1, 1) := by decide +kernel
theorem dX7_whyNot_31 : decode cX7_whyNot 31 = .ok (.ireturn, 1) := by decide +kernel
theorem dX7_whyNot_32 : decode cX7_whyNot 32 = .ok (.aload_n 0, 1) := by decide +kernel
theorem dX7_whyNot_33 : decode cX7_whyNot 33 = .ok (.getfield 19, 3) := by decide +kernel
theorem dX7_whyNot_36 : decode cX7_whyNot 36 = .ok (.iload_n 2, 1) := by decide +kernel
theorem dX7_whyNot_37 : decode cX7_whyNot 37 = .ok (.iaload, 1) := by decide +kernel
theorem dX7_whyNot_38 : decode cX7_whyNot 38 = .ok (.iconst 1, 1) := by decide +kernel
theorem dX7_whyNot_39 : decode cX7_whyNot 39 = .ok (.if_icmp .ne 5, 3) := by decide +kernel
theorem dX7_whyNot_42 : decode cX7_whyNot 42 = .ok (.iconst 2, 1) := by decide +kernel
theorem dX7_whyNot_43 : decode cX7_whyNot 43 = .ok (.ireturn, 1) := by decide +kernel
theorem dX7_whyNot_44 : decode cX7_whyNot 44 = .ok (.iload_n 1, 1) := by decide +kernel
theorem dX7_whyNot_45 : decode cX7_whyNot 45 = .ok (.tableswitch 161 0 6 #[43, 60, 77, 92, 161, 109, 145], 43) := by decide +kernel
theorem dX7_whyNot_88 : decode cX7_whyNot 88 = .ok (.aload_n 0, 1) := by decide +kernel
theorem dX7_whyNot_89 : decode cX7_whyNot 89 = .ok (.getfield 7, 3) := by decide +kernel
theorem dX7_whyNot_92 : decode cX7_whyNot 92 = .ok (.iload_n 2, 1) := by decide +kernel
theorem dX7_whyNot_93 : decode cX7_whyNot 93 = .ok (.iaload, 1) := by decide +kernel
theorem dX7_whyNot_94 : decode cX7_whyNot 94 = .ok (.bipush 99, 2) := by decide +kernel
theorem dX7_whyNot_96 : decode cX7_whyNot 96 = .ok (.if_icmp .ne 7, 3) := by decide +kernel
theorem dX7_whyNot_99 : decode cX7_whyNot 99 = .ok (.iconst 3, 1) := by decide +kernel
theorem dX7_whyNot_100 : decode cX7_whyNot 100 = .ok (.goto 4, 3) := by decide +kernel
theorem dX7_whyNot_103 : decode cX7_whyNot 103 = .ok (.iconst 0, 1) := by decide +kernel
theorem dX7_whyNot_104 : decode cX7_whyNot 104 = .ok (.ireturn, 1) := by decide +kernel
theorem dX7_whyNot_105 : decode cX7_whyNot 105 = .ok (.aload_n 0, 1) := by decide +kernel
theorem dX7_whyNot_106 : decode cX7_whyNot 106 = .ok (.getfield 13, 3) := by decide +kernel
theorem dX7_whyNot_109 : decode cX7_whyNot 109 = .ok (.iload_n 2, 1) := by decide +kernel
theorem dX7_whyNot_110 : decode cX7_whyNot 110 = .ok (.iaload, 1) := by decide +kernel
theorem dX7_whyNot_111 : decode cX7_whyNot 111 = .ok (.bipush 99, 2) := by decide +kernel
theorem dX7_whyNot_113 : decode cX7_whyNot 113 = .ok (.if_icmp .ne 7, 3) := by decide +kernel
theorem dX7_whyNot_116 : decode cX7_whyNot 116 = .ok (.iconst 3, 1) := by decide +kernel
theorem dX7_whyNot_117 : decode cX7_whyNot 117 = .ok (.goto 4, 3) := by decide +kernel
theorem dX7_whyNot_120 : decode cX7_whyNot 120 = .ok (.iconst 0, 1) := by decide +kernel
theorem dX7_whyNot_121 : decode cX7_whyNot 121 = .ok (.ireturn, 1) := by decide +kernel
theorem dX7_whyNot_122 : decode cX7_whyNot 122 = .ok (.aload_n 0, 1) := by decide +kernel
theorem dX7_whyNot_123 : decode cX7_whyNot 123 = .ok (.getfield 13, 3) := by decide +kernel
theorem dX7_whyNot_126 : decode cX7_whyNot 126 = .ok (.iload_n 2, 1) := by decide +kernel
theorem dX7_whyNot_127 : decode cX7_whyNot 127 = .ok (.iaload, 1) := by decide +kernel
theorem dX7_whyNot_128 : decode cX7_whyNot 128 = .ok (.ifCond .ne 7, 3) := by decide +kernel
theorem dX7_whyNot_131 : decode cX7_whyNot 131 = .ok (.iconst 3, 1) := by decide +kernel
theorem dX7_whyNot_132 : decode cX7_whyNot 132 = .ok (.goto 4, 3) := by decide +kernel
theorem dX7_whyNot_135 : decode cX7_whyNot 135 = .ok (.iconst 0, 1) := by decide +kernel
theorem dX7_whyNot_136 : decode cX7_whyNot 136 = .ok (.ireturn, 1) := by decide +kernel
theorem dX7_whyNot_137 : decode cX7_whyNot 137 = .ok (.aload_n 0, 1) := by decide +kernel
theorem dX7_whyNot_138 : decode cX7_whyNot 138 = .ok (.getfield 16, 3) := by decide +kernel
theorem dX7_whyNot_141 : decode cX7_whyNot 141 = .ok (.iload_n 2, 1) := by decide +kernel
theorem dX7_whyNot_142 : decode cX7_whyNot 142 = .ok (.iaload, 1) := by decide +kernel
theorem dX7_whyNot_143 : decode cX7_whyNot 143 = .ok (.bipush 99, 2) := by decide +kernel
theorem dX7_whyNot_145 : decode cX7_whyNot 145 = .ok (.if_icmp .ne 7, 3) := by decide +kernel
theorem dX7_whyNot_148 : decode cX7_whyNot 148 = .ok (.iconst 3, 1) := by decide +kernel
theorem dX7_whyNot_149 : decode cX7_whyNot 149 = .ok (.goto 4, 3) := by decide +kernel
theorem dX7_whyNot_152 : decode cX7_whyNot 152 = .ok (.iconst 0, 1) := by decide +kernel
theorem dX7_whyNot_153 : decode cX7_whyNot 153 = .ok (.ireturn, 1) := by decide +kernel
theorem dX7_whyNot_154 : decode cX7_whyNot 154 = .ok (.aload_n 0, 1) := by decide +kernel
theorem dX7_whyNot_155 : decode cX7_whyNot 155 = .ok (.getfield 22, 3) := by decide +kernel
theorem dX7_whyNot_158 : decode cX7_whyNot 158 = .ok (.bipush 8, 2) := by decide +kernel
theorem dX7_whyNot_160 : decode cX7_whyNot 160 = .ok (.iload_n 2, 1) := by decide +kernel
theorem dX7_whyNot_161 : decode cX7_whyNot 161 = .ok (.imul, 1) := by decide +kernel
theorem dX7_whyNot_162 : decode cX7_whyNot 162 = .ok (.iload 4, 2) := by decide +kernel
theorem dX7_whyNot_164 : decode cX7_whyNot 164 = .ok (.iadd, 1) := by decide +kernel
theorem dX7_whyNot_165 : decode cX7_whyNot 165 = .ok (.iaload, 1) := by decide +kernel
theorem dX7_whyNot_166 : decode cX7_whyNot 166 = .ok (.ifCond .lt 7, 3) := by decide +kernel
theorem dX7_whyNot_169 : decode cX7_whyNot 169 = .ok (.iconst 4, 1) := by decide +kernel
theorem dX7_whyNot_170 : decode cX7_whyNot 170 = .ok (.goto 19, 3) := by decide +kernel
theorem dX7_whyNot_173 : decode cX7_whyNot 173 = .ok (.aload_n 0, 1) := by decide +kernel
theorem dX7_whyNot_174 : decode cX7_whyNot 174 = .ok (.getfield 34, 3) := by decide +kernel
theorem dX7_whyNot_177 : decode cX7_whyNot 177 = .ok (.iload_n 3, 1) := by decide +kernel
theorem dX7_whyNot_178 : decode cX7_whyNot 178 = .ok (.iaload, 1) := by decide +kernel
theorem dX7_whyNot_179 : decode cX7_whyNot 179 = .ok (.bipush 10, 2) := by decide +kernel
theorem dX7_whyNot_181 : decode cX7_whyNot 181 = .ok (.if_icmp .ge 7, 3) := by decide +kernel
theorem dX7_whyNot_184 : decode cX7_whyNot 184 = .ok (.iconst 5, 1) := by decide +kernel
theorem dX7_whyNot_185 : decode cX7_whyNot 185 = .ok (.goto 4, 3) := by decide +kernel
theorem dX7_whyNot_188 : decode cX7_whyNot 188 = .ok (.iconst 0, 1) := by decide +kernel
theorem dX7_whyNot_189 : decode cX7_whyNot 189 = .ok (.ireturn, 1) := by decide +kernel
theorem dX7_whyNot_190 : decode cX7_whyNot 190 = .ok (.aload_n 0, 1) := by decide +kernel
theorem dX7_whyNot_191 : decode cX7_whyNot 191 = .ok (.iload_n 3, 1) := by decide +kernel
theorem dX7_whyNot_192 : decode cX7_whyNot 192 = .ok (.iload_n 2, 1) := by decide +kernel
theorem dX7_whyNot_193 : decode cX7_whyNot 193 = .ok (.invokevirtual 176, 3) := by decide +kernel
theorem dX7_whyNot_196 : decode cX7_whyNot 196 = .ok (.ifCond .ne 8, 3) := by decide +kernel
theorem dX7_whyNot_199 : decode cX7_whyNot 199 = .ok (.bipush 6, 2) := by decide +kernel
theorem dX7_whyNot_201 : decode cX7_whyNot 201 = .ok (.goto 4, 3) := by decide +kernel
theorem dX7_whyNot_204 : decode cX7_whyNot 204 = .ok (.iconst 0, 1) := by decide +kernel
theorem dX7_whyNot_205 : decode cX7_whyNot 205 = .ok (.ireturn, 1) := by decide +kernel
theorem dX7_whyNot_206 : decode cX7_whyNot 206 = .ok (.iconst 0, 1) := by decide +kernel
theorem dX7_whyNot_207 : decode cX7_whyNot 207 = .ok (.ireturn, 1) := by decide +kernel
theorem dX7_fall_0 : decode cX7_fall 0 = .ok (.aload_n 0, 1) := by decide +kernel
theorem dX7_fall_1 : decode cX7_fall 1 = .ok (.getfield 19, 3) := by decide +kernel
theorem dX7_fall_4 : decode cX7_fall 4 = .ok (.iload_n 1, 1) := by decide +kernel
theorem dX7_fall_5 : decode cX7_fall 5 = .ok (.iconst 1, 1) := by decide +kernel
theorem dX7_fall_6 : decode cX7_fall 6 = .ok (.iastore, 1) := by decide +kernel
theorem dX7_fall_7 : decode cX7_fall 7 = .ok (.iconst 0, 1) := by decide +kernel
theorem dX7_fall_8 : decode cX7_fall 8 = .ok (.istore_n 2, 1) := by decide +kernel
theorem dX7_fall_9 : decode cX7_fall 9 = .ok (.iload_n 2, 1) := by decide +kernel
theorem dX7_fall_10 : decode cX7_fall 10 = .ok (.iconst 4, 1) := by decide +kernel
theorem dX7_fall_11 : decode cX7_fall 11 = .ok (.if_icmp .ge 49, 3) := by decide +kernel
theorem dX7_fall_14 : decode cX7_fall 14 = .ok (.aload_n 0, 1) := by decide +kernel
theorem dX7_fall_15 : decode cX7_fall 15 = .ok (.getfield 34, 3) := by decide +kernel
theorem dX7_fall_18 : decode cX7_fall 18 = .ok (.iload_n 2, 1) := by decide +kernel
theorem dX7_fall_19 : decode cX7_fall 19 = .ok (.iaload, 1) := by decide +kernel
theorem dX7_fall_20 : decode cX7_fall 20 = .ok (.bipush 10, 2) := by decide +kernel
theorem dX7_fall_22 : decode cX7_fall 22 = .ok (.aload_n 0, 1) := by decide +kernel
theorem dX7_fall_23 : decode cX7_fall 23 = .ok (.iload_n 2, 1) := by decide +kernel
theorem dX7_fall_24 : decode cX7_fall 24 = .ok (.iload_n 1, 1) := by decide +kernel
theorem dX7_fall_25 : decode cX7_fall 25 = .ok (.invokevirtual 176, 3) := by decide +kernel
theorem dX7_fall_28 : decode cX7_fall 28 = .ok (.invokestatic 109, 3) := by decide +kernel
theorem dX7_fall_31 : decode cX7_fall 31 = .ok (.imul, 1) := by decide +kernel
theorem dX7_fall_32 : decode cX7_fall 32 = .ok (.iadd, 1) := by decide +kernel
theorem dX7_fall_33 : decode cX7_fall 33 = .ok (.istore_n 3, 1) := by decide +kernel
theorem dX7_fall_34 : decode cX7_fall 34 = .ok (.aload_n 0, 1) := by decide +kernel
theorem dX7_fall_35 : decode cX7_fall 35 = .ok (.getfield 34, 3) := by decide +kernel
theorem dX7_fall_38 : decode cX7_fall 38 = .ok (.iload_n 2, 1) := by decide +kernel
theorem dX7_fall_39 : decode cX7_fall 39 = .ok (.iload_n 3, 1) := by decide +kernel
theorem dX7_fall_40 : decode cX7_fall 40 = .ok (.sipush 999, 3) := by decide +kernel
theorem dX7_fall_43 : decode cX7_fall 43 = .ok (.if_icmp .le 9, 3) := by decide +kernel
theorem dX7_fall_46 : decode cX7_fall 46 = .ok (.sipush 999, 3) := by decide +kernel
theorem dX7_fall_49 : decode cX7_fall 49 = .ok (.goto 4, 3) := by decide +kernel
theorem dX7_fall_52 : decode cX7_fall 52 = .ok (.iload_n 3, 1) := by decide +kernel
theorem dX7_fall_53 : decode cX7_fall 53 = .ok (.iastore, 1) := by decide +kernel
theorem dX7_fall_54 : decode cX7_fall 54 = .ok (.iinc 2 1, 3) := by decide +kernel
theorem dX7_fall_57 : decode cX7_fall 57 = .ok (.goto (-48), 3) := by decide +kernel
theorem dX7_fall_60 : decode cX7_fall 60 = .ok (.aload_n 0, 1) := by decide +kernel
theorem dX7_fall_61 : decode cX7_fall 61 = .ok (.iload_n 1, 1) := by decide +kernel
theorem dX7_fall_62 : decode cX7_fall 62 = .ok (.invokevirtual 105, 3) := by decide +kernel
theorem dX7_fall_65 : decode cX7_fall 65 = .ok (.return_, 1) := by decide +kernel
theorem dX7_feast_0 : decode cX7_feast 0 = .ok (.aload_n 0, 1) := by decide +kernel
theorem dX7_feast_1 : decode cX7_feast 1 = .ok (.dup, 1) := by decide +kernel
theorem dX7_feast_2 : decode cX7_feast 2 = .ok (.getfield 179, 3) := by decide +kernel
theorem dX7_feast_5 : decode cX7_feast 5 = .ok (.iconst 1, 1) := by decide +kernel
theorem dX7_feast_6 : decode cX7_feast 6 = .ok (.iadd, 1) := by decide +kernel
theorem dX7_feast_7 : decode cX7_feast 7 = .ok (.putfield 179, 3) := by decide +kernel
theorem dX7_feast_10 : decode cX7_feast 10 = .ok (.aload_n 0, 1) := by decide +kernel
theorem dX7_feast_11 : decode cX7_feast 11 = .ok (.iload_n 1, 1) := by decide +kernel
theorem dX7_feast_12 : decode cX7_feast 12 = .ok (.invokevirtual 182, 3) := by decide +kernel
theorem dX7_feast_15 : decode cX7_feast 15 = .ok (.ifCond .ne 35, 3) := by decide +kernel
theorem dX7_feast_18 : decode cX7_feast 18 = .ok (.aload_n 0, 1) := by decide +kernel
theorem dX7_feast_19 : decode cX7_feast 19 = .ok (.aload_n 0, 1) := by decide +kernel
theorem dX7_feast_20 : decode cX7_feast 20 = .ok (.getfield 185, 3) := by decide +kernel
theorem dX7_feast_23 : decode cX7_feast 23 = .ok (.ifCond .ge 10, 3) := by decide +kernel
theorem dX7_feast_26 : decode cX7_feast 26 = .ok (.aload_n 0, 1) := by decide +kernel
theorem dX7_feast_27 : decode cX7_feast 27 = .ok (.getfield 188, 3) := by decide +kernel
theorem dX7_feast_30 : decode cX7_feast 30 = .ok (.goto 7, 3) := by decide +kernel
theorem dX7_feast_33 : decode cX7_feast 33 = .ok (.aload_n 0, 1) := by decide +kernel
theorem dX7_feast_34 : decode cX7_feast 34 = .ok (.getfield 185, 3) := by decide +kernel
theorem dX7_feast_37 : decode cX7_feast 37 = .ok (.putfield 185, 3) := by decide +kernel
theorem dX7_feast_40 : decode cX7_feast 40 = .ok (.aload_n 0, 1) := by decide +kernel
theorem dX7_feast_41 : decode cX7_feast 41 = .ok (.dup, 1) := by decide +kernel
theorem dX7_feast_42 : decode cX7_feast 42 = .ok (.getfield 191, 3) := by decide +kernel
theorem dX7_feast_45 : decode cX7_feast 45 = .ok (.iconst 1, 1) := by decide +kernel
theorem dX7_feast_46 : decode cX7_feast 46 = .ok (.iadd, 1) := by decide +kernel
theorem dX7_feast_47 : decode cX7_feast 47 = .ok (.putfield 191, 3) := by decide +kernel
theorem dX7_feast_50 : decode cX7_feast 50 = .ok (.return_, 1) := by decide +kernel
theorem dX7_happen_0 : decode cX7_happen 0 = .ok (.iload_n 1, 1) := by decide +kernel
theorem dX7_happen_1 : decode cX7_happen 1 = .ok (.tableswitch 138 0 6 #[43, 56, 69, 82, 95, 103, 130], 43) := by decide +kernel
theorem dX7_happen_44 : decode cX7_happen 44 = .ok (.aload_n 0, 1) := by decide +kernel
theorem dX7_happen_45 : decode cX7_happen 45 = .ok (.getfield 7, 3) := by decide +kernel
theorem dX7_happen_48 : decode cX7_happen 48 = .ok (.iload_n 2, 1) := by decide +kernel
theorem dX7_happen_49 : decode cX7_happen 49 = .ok (.dup2, 1) := by decide +kernel
theorem dX7_happen_50 : decode cX7_happen 50 = .ok (.iaload, 1) := by decide +kernel
theorem dX7_happen_51 : decode cX7_happen 51 = .ok (.iconst 1, 1) := by decide +kernel
theorem dX7_happen_52 : decode cX7_happen 52 = .ok (.iadd, 1) := by decide +kernel
theorem dX7_happen_53 : decode cX7_happen 53 = .ok (.iastore, 1) := by decide +kernel
theorem dX7_happen_54 : decode cX7_happen 54 = .ok (.goto 95, 3) := by decide +kernel
theorem dX7_happen_57 : decode cX7_happen 57 = .ok (.aload_n 0, 1) := by decide +kernel
theorem dX7_happen_58 : decode cX7_happen 58 = .ok (.getfield 13, 3) := by decide +kernel
theorem dX7_happen_61 : decode cX7_happen 61 = .ok (.iload_n 2, 1) := by decide +kernel
theorem dX7_happen_62 : decode cX7_happen 62 = .ok (.dup2, 1) := by decide +kernel
theorem dX7_happen_63 : decode cX7_happen 63 = .ok (.iaload, 1) := by decide +kernel
theorem dX7_happen_64 : decode cX7_happen 64 = .ok (.iconst 1, 1) := by decide +kernel
theorem dX7_happen_65 : decode cX7_happen 65 = .ok (.iadd, 1) := by decide +kernel
theorem dX7_happen_66 : decode cX7_happen 66 = .ok (.iastore, 1) := by decide +kernel
theorem dX7_happen_67 : decode cX7_happen 67 = .ok (.goto 82, 3) := by decide +kernel
theorem dX7_happen_70 : decode cX7_happen 70 = .ok (.aload_n 0, 1) := by decide +kernel
theorem dX7_happen_71 : decode cX7_happen 71 = .ok (.getfield 13, 3) := by decide +kernel
theorem dX7_happen_74 : decode cX7_happen 74 = .ok (.iload_n 2, 1) := by decide +kernel
theorem dX7_happen_75 : decode cX7_happen 75 = .ok (.dup2, 1) := by decide +kernel
theorem dX7_happen_76 : decode cX7_happen 76 = .ok (.iaload, 1) := by decide +kernel
theorem dX7_happen_77 : decode cX7_happen 77 = .ok (.iconst 1, 1) := by decide +kernel
theorem dX7_happen_78 : decode cX7_happen 78 = .ok (.isub, 1) := by decide +kernel
theorem dX7_happen_79 : decode cX7_happen 79 = .ok (.iastore, 1) := by decide +kernel
theorem dX7_happen_80 : decode cX7_happen 80 = .ok (.goto 69, 3) := by decide +kernel
theorem dX7_happen_83 : decode cX7_happen 83 = .ok (.aload_n 0, 1) := by decide +kernel
theorem dX7_happen_84 : decode cX7_happen 84 = .ok (.getfield 16, 3) := by decide +kernel
theorem dX7_happen_87 : decode cX7_happen 87 = .ok (.iload_n 2, 1) := by decide +kernel
theorem dX7_happen_88 : decode cX7_happen 88 = .ok (.dup2, 1) := by decide +kernel
theorem dX7_happen_89 : decode cX7_happen 89 = .ok (.iaload, 1) := by decide +kernel
theorem dX7_happen_90 : decode cX7_happen 90 = .ok (.iconst 1, 1) := by decide +kernel
theorem dX7_happen_91 : decode cX7_happen 91 = .ok (.iadd, 1) := by decide +kernel
theorem dX7_happen_92 : decode cX7_happen 92 = .ok (.iastore, 1) := by decide +kernel
theorem dX7_happen_93 : decode cX7_happen 93 = .ok (.goto 56, 3) := by decide +kernel
theorem dX7_happen_96 : decode cX7_happen 96 = .ok (.aload_n 0, 1) := by decide +kernel
theorem dX7_happen_97 : decode cX7_happen 97 = .ok (.iload_n 2, 1) := by decide +kernel
theorem dX7_happen_98 : decode cX7_happen 98 = .ok (.invokevirtual 194, 3) := by decide +kernel
theorem dX7_happen_101 : decode cX7_happen 101 = .ok (.goto 48, 3) := by decide +kernel
theorem dX7_happen_104 : decode cX7_happen 104 = .ok (.aload_n 0, 1) := by decide +kernel
theorem dX7_happen_105 : decode cX7_happen 105 = .ok (.getfield 22, 3) := by decide +kernel
theorem dX7_happen_108 : decode cX7_happen 108 = .ok (.bipush 8, 2) := by decide +kernel
theorem dX7_happen_110 : decode cX7_happen 110 = .ok (.iload_n 2, 1) := by decide +kernel
theorem dX7_happen_111 : decode cX7_happen 111 = .ok (.imul, 1) := by decide +kernel
theorem dX7_happen_112 : decode cX7_happen 112 = .ok (.iload 4, 2) := by decide +kernel
theorem dX7_happen_114 : decode cX7_happen 114 = .ok (.iadd, 1) := by decide +kernel
theorem dX7_happen_115 : decode cX7_happen 115 = .ok (.iload_n 3, 1) := by decide +kernel
theorem dX7_happen_116 : decode cX7_happen 116 = .ok (.iastore, 1) := by decide +kernel
theorem dX7_happen_117 : decode cX7_happen 117 = .ok (.aload_n 0, 1) := by decide +kernel
theorem dX7_happen_118 : decode cX7_happen 118 = .ok (.getfield 34, 3) := by decide +kernel
theorem dX7_happen_121 : decode cX7_happen 121 = .ok (.iload_n 3, 1) := by decide +kernel
theorem dX7_happen_122 : decode cX7_happen 122 = .ok (.dup2, 1) := by decide +kernel
theorem dX7_happen_123 : decode cX7_happen 123 = .ok (.iaload, 1) := by decide +kernel
theorem dX7_happen_124 : decode cX7_happen 124 = .ok (.bipush 10, 2) := by decide +kernel
theorem dX7_happen_126 : decode cX7_happen 126 = .ok (.isub, 1) := by decide +kernel
theorem dX7_happen_127 : decode cX7_happen 127 = .ok (.iastore, 1) := by decide +kernel
theorem dX7_happen_128 : decode cX7_happen 128 = .ok (.goto 21, 3) := by decide +kernel
theorem dX7_happen_131 : decode cX7_happen 131 = .ok (.aload_n 0, 1) := by decide +kernel
theorem dX7_happen_132 : decode cX7_happen 132 = .ok (.iload_n 2, 1) := by decide +kernel
theorem dX7_happen_133 : decode cX7_happen 133 = .ok (.invokevirtual 197, 3) := by decide +kernel
theorem dX7_happen_136 : decode cX7_happen 136 = .ok (.goto 13, 3) := by decide +kernel
theorem dX7_happen_139 : decode cX7_happen 139 = .ok (.aload_n 0, 1) := by decide +kernel
theorem dX7_happen_140 : decode cX7_happen 140 = .ok (.dup, 1) := by decide +kernel
theorem dX7_happen_141 : decode cX7_happen 141 = .ok (.getfield 173, 3) := by decide +kernel
theorem dX7_happen_144 : decode cX7_happen 144 = .ok (.iconst 1, 1) := by decide +kernel
theorem dX7_happen_145 : decode cX7_happen 145 = .ok (.iadd, 1) := by decide +kernel
theorem dX7_happen_146 : decode cX7_happen 146 = .ok (.putfield 173, 3) := by decide +kernel
theorem dX7_happen_149 : decode cX7_happen 149 = .ok (.return_, 1) := by decide +kernel
theorem dX7_store_0 : decode cX7_store 0 = .ok (.iconst 0, 1) := by decide +kernel
theorem dX7_store_1 : decode cX7_store 1 = .ok (.istore_n 2, 1) := by decide +kernel
theorem dX7_store_2 : decode cX7_store 2 = .ok (.iload_n 2, 1) := by decide +kernel
theorem dX7_store_3 : decode cX7_store 3 = .ok (.bipush 6, 2) := by decide +kernel
theorem dX7_store_5 : decode cX7_store 5 = .ok (.if_icmp .ge 54, 3) := by decide +kernel
theorem dX7_store_8 : decode cX7_store 8 = .ok (.aload_n 1, 1) := by decide +kernel
theorem dX7_store_9 : decode cX7_store 9 = .ok (.iload_n 2, 1) := by decide +kernel
theorem dX7_store_10 : decode cX7_store 10 = .ok (.aload_n 0, 1) := by decide +kernel
theorem dX7_store_11 : decode cX7_store 11 = .ok (.getfield 7, 3) := by decide +kernel
theorem dX7_store_14 : decode cX7_store 14 = .ok (.iload_n 2, 1) := by decide +kernel
theorem dX7_store_15 : decode cX7_store 15 = .ok (.iaload, 1) := by decide +kernel
theorem dX7_store_16 : decode cX7_store 16 = .ok (.iastore, 1) := by decide +kernel
theorem dX7_store_17 : decode cX7_store 17 = .ok (.aload_n 1, 1) := by decide +kernel
theorem dX7_store_18 : decode cX7_store 18 = .ok (.bipush 6, 2) := by decide +kernel
theorem dX7_store_20 : decode cX7_store 20 = .ok (.iload_n 2, 1) := by decide +kernel
theorem dX7_store_21 : decode cX7_store 21 = .ok (.iadd, 1) := by decide +kernel
theorem dX7_store_22 : decode cX7_store 22 = .ok (.aload_n 0, 1) := by decide +kernel
theorem dX7_store_23 : decode cX7_store 23 = .ok (.getfield 13, 3) := by decide +kernel
theorem dX7_store_26 : decode cX7_store 26 = .ok (.iload_n 2, 1) := by decide +kernel
theorem dX7_store_27 : decode cX7_store 27 = .ok (.iaload, 1) := by decide +kernel
theorem dX7_store_28 : decode cX7_store 28 = .ok (.iastore, 1) := by decide +kernel
theorem dX7_store_29 : decode cX7_store 29 = .ok (.aload_n 1, 1) := by decide +kernel
theorem dX7_store_30 : decode cX7_store 30 = .ok (.bipush 12, 2) := by decide +kernel
theorem dX7_store_32 : decode cX7_store 32 = .ok (.iload_n 2, 1) := by decide +kernel
theorem dX7_store_33 : decode cX7_store 33 = .ok (.iadd, 1) := by decide +kernel
theorem dX7_store_34 : decode cX7_store 34 = .ok (.aload_n 0, 1) := by decide +kernel
theorem dX7_store_35 : decode cX7_store 35 = .ok (.getfield 16, 3) := by decide +kernel
theorem dX7_store_38 : decode cX7_store 38 = .ok (.iload_n 2, 1) := by decide +kernel
theorem dX7_store_39 : decode cX7_store 39 = .ok (.iaload, 1) := by decide +kernel
theorem dX7_store_40 : decode cX7_store 40 = .ok (.iastore, 1) := by decide +kernel
theorem dX7_store_41 : decode cX7_store 41 = .ok (.aload_n 1, 1) := by decide +kernel
theorem dX7_store_42 : decode cX7_store 42 = .ok (.bipush 18, 2) := by decide +kernel
theorem dX7_store_44 : decode cX7_store 44 = .ok (.iload_n 2, 1) := by decide +kernel
theorem dX7_store_45 : decode cX7_store 45 = .ok (.iadd, 1) := by decide +kernel
theorem dX7_store_46 : decode cX7_store 46 = .ok (.aload_n 0, 1) := by decide +kernel
theorem dX7_store_47 : decode cX7_store 47 = .ok (.getfield 19, 3) := by decide +kernel
theorem dX7_store_50 : decode cX7_store 50 = .ok (.iload_n 2, 1) := by decide +kernel
theorem dX7_store_51 : decode cX7_store 51 = .ok (.iaload, 1) := by decide +kernel
theorem dX7_store_52 : decode cX7_store 52 = .ok (.iastore, 1) := by decide +kernel
theorem dX7_store_53 : decode cX7_store 53 = .ok (.iinc 2 1, 3) := by decide +kernel
theorem dX7_store_56 : decode cX7_store 56 = .ok (.goto (-54), 3) := by decide +kernel
theorem dX7_store_59 : decode cX7_store 59 = .ok (.iconst 0, 1) := by decide +kernel
theorem dX7_store_60 : decode cX7_store 60 = .ok (.istore_n 2, 1) := by decide +kernel
theorem dX7_store_61 : decode cX7_store 61 = .ok (.iload_n 2, 1) := by decide +kernel
theorem dX7_store_62 : decode cX7_store 62 = .ok (.bipush 48, 2) := by decide +kernel
theorem dX7_store_64 : decode cX7_store 64 = .ok (.if_icmp .ge 21, 3) := by decide +kernel
theorem dX7_store_67 : decode cX7_store 67 = .ok (.aload_n 1, 1) := by decide +kernel
theorem dX7_store_68 : decode cX7_store 68 = .ok (.bipush 24, 2) := by decide +kernel
theorem dX7_store_70 : decode cX7_store 70 = .ok (.iload_n 2, 1) := by decide +kernel
theorem dX7_store_71 : decode cX7_store 71 = .ok (.iadd, 1) := by decide +kernel
theorem dX7_store_72 : decode cX7_store 72 = .ok (.aload_n 0, 1) := by decide +kernel
theorem dX7_store_73 : decode cX7_store 73 = .ok (.getfield 22, 3) := by decide +kernel
theorem dX7_store_76 : decode cX7_store 76 = .ok (.iload_n 2, 1) := by decide +kernel
theorem dX7_store_77 : decode cX7_store 77 = .ok (.iaload, 1) := by decide +kernel
theorem dX7_store_78 : decode cX7_store 78 = .ok (.iastore, 1) := by decide +kernel
theorem dX7_store_79 : decode cX7_store 79 = .ok (.iinc 2 1, 3) := by decide +kernel
theorem dX7_store_82 : decode cX7_store 82 = .ok (.goto (-21), 3) := by decide +kernel
theorem dX7_store_85 : decode cX7_store 85 = .ok (.iconst 0, 1) := by decide +kernel
theorem dX7_store_86 : decode cX7_store 86 = .ok (.istore_n 2, 1) := by decide +kernel
theorem dX7_store_87 : decode cX7_store 87 = .ok (.iload_n 2, 1) := by decide +kernel
theorem dX7_store_88 : decode cX7_store 88 = .ok (.iconst 4, 1) := by decide +kernel
theorem dX7_store_89 : decode cX7_store 89 = .ok (.if_icmp .ge 21, 3) := by decide +kernel
theorem dX7_store_92 : decode cX7_store 92 = .ok (.aload_n 1, 1) := by decide +kernel
theorem dX7_store_93 : decode cX7_store 93 = .ok (.bipush 72, 2) := by decide +kernel
theorem dX7_store_95 : decode cX7_store 95 = .ok (.iload_n 2, 1) := by decide +kernel
theorem dX7_store_96 : decode cX7_store 96 = .ok (.iadd, 1) := by decide +kernel
theorem dX7_store_97 : decode cX7_store 97 = .ok (.aload_n 0, 1) := by decide +kernel
theorem dX7_store_98 : decode cX7_store 98 = .ok (.getfield 34, 3) := by decide +kernel
theorem dX7_store_101 : decode cX7_store 101 = .ok (.iload_n 2, 1) := by decide +kernel
theorem dX7_store_102 : decode cX7_store 102 = .ok (.iaload, 1) := by decide +kernel
theorem dX7_store_103 : decode cX7_store 103 = .ok (.iastore, 1) := by decide +kernel
theorem dX7_store_104 : decode cX7_store 104 = .ok (.iinc 2 1, 3) := by decide +kernel
theorem dX7_store_107 : decode cX7_store 107 = .ok (.goto (-20), 3) := by decide +kernel
theorem dX7_store_110 : decode cX7_store 110 = .ok (.aload_n 1, 1) := by decide +kernel
theorem dX7_store_111 : decode cX7_store 111 = .ok (.bipush 76, 2) := by decide +kernel
theorem dX7_store_113 : decode cX7_store 113 = .ok (.aload_n 0, 1) := by decide +kernel
theorem dX7_store_114 : decode cX7_store 114 = .ok (.getfield 173, 3) := by decide +kernel
theorem dX7_store_117 : decode cX7_store 117 = .ok (.iastore, 1) := by decide +kernel
theorem dX7_store_118 : decode cX7_store 118 = .ok (.return_, 1) := by decide +kernel
theorem dX7_lay_0 : decode cX7_lay 0 = .ok (.iconst 0, 1) := by decide +kernel
theorem dX7_lay_1 : decode cX7_lay 1 = .ok (.istore_n 2, 1) := by decide +kernel
theorem dX7_lay_2 : decode cX7_lay 2 = .ok (.iload_n 2, 1) := by decide +kernel
theorem dX7_lay_3 : decode cX7_lay 3 = .ok (.bipush 6, 2) := by decide +kernel
theorem dX7_lay_5 : decode cX7_lay 5 = .ok (.if_icmp .ge 54, 3) := by decide +kernel
theorem dX7_lay_8 : decode cX7_lay 8 = .ok (.aload_n 0, 1) := by decide +kernel
theorem dX7_lay_9 : decode cX7_lay 9 = .ok (.getfield 7, 3) := by decide +kernel
theorem dX7_lay_12 : decode cX7_lay 12 = .ok (.iload_n 2, 1) := by decide +kernel
theorem dX7_lay_13 : decode cX7_lay 13 = .ok (.aload_n 1, 1) := by decide +kernel
theorem dX7_lay_14 : decode cX7_lay 14 = .ok (.iload_n 2, 1) := by decide +kernel
theorem dX7_lay_15 : decode cX7_lay 15 = .ok (.iaload, 1) := by decide +kernel
theorem dX7_lay_16 : decode cX7_lay 16 = .ok (.iastore, 1) := by decide +kernel
theorem dX7_lay_17 : decode cX7_lay 17 = .ok (.aload_n 0, 1) := by decide +kernel
theorem dX7_lay_18 : decode cX7_lay 18 = .ok (.getfield 13, 3) := by decide +kernel
theorem dX7_lay_21 : decode cX7_lay 21 = .ok (.iload_n 2, 1) := by decide +kernel
theorem dX7_lay_22 : decode cX7_lay 22 = .ok (.aload_n 1, 1) := by decide +kernel
theorem dX7_lay_23 : decode cX7_lay 23 = .ok (.bipush 6, 2) := by decide +kernel
theorem dX7_lay_25 : decode cX7_lay 25 = .ok (.iload_n 2, 1) := by decide +kernel
theorem dX7_lay_26 : decode cX7_lay 26 = .ok (.iadd, 1) := by decide +kernel
theorem dX7_lay_27 : decode cX7_lay 27 = .ok (.iaload, 1) := by decide +kernel
theorem dX7_lay_28 : decode cX7_lay 28 = .ok (.iastore, 1) := by decide +kernel
theorem dX7_lay_29 : decode cX7_lay 29 = .ok (.aload_n 0, 1) := by decide +kernel
theorem dX7_lay_30 : decode cX7_lay 30 = .ok (.getfield 16, 3) := by decide +kernel
theorem dX7_lay_33 : decode cX7_lay 33 = .ok (.iload_n 2, 1) := by decide +kernel
theorem dX7_lay_34 : decode cX7_lay 34 = .ok (.aload_n 1, 1) := by decide +kernel
theorem dX7_lay_35 : decode cX7_lay 35 = .ok (.bipush 12, 2) := by decide +kernel
theorem dX7_lay_37 : decode cX7_lay 37 = .ok (.iload_n 2, 1) := by decide +kernel
theorem dX7_lay_38 : decode cX7_lay 38 = .ok (.iadd, 1) := by decide +kernel
theorem dX7_lay_39 : decode cX7_lay 39 = .ok (.iaload, 1) := by decide +kernel
theorem dX7_lay_40 : decode cX7_lay 40 = .ok (.iastore, 1) := by decide +kernel
theorem dX7_lay_41 : decode cX7_lay 41 = .ok (.aload_n 0, 1) := by decide +kernel
theorem dX7_lay_42 : decode cX7_lay 42 = .ok (.getfield 19, 3) := by decide +kernel
theorem dX7_lay_45 : decode cX7_lay 45 = .ok (.iload_n 2, 1) := by decide +kernel
theorem dX7_lay_46 : decode cX7_lay 46 = .ok (.aload_n 1, 1) := by decide +kernel
theorem dX7_lay_47 : decode cX7_lay 47 = .ok (.bipush 18, 2) := by decide +kernel
theorem dX7_lay_49 : decode cX7_lay 49 = .ok (.iload_n 2, 1) := by decide +kernel
theorem dX7_lay_50 : decode cX7_lay 50 = .ok (.iadd, 1) := by decide +kernel
theorem dX7_lay_51 : decode cX7_lay 51 = .ok (.iaload, 1) := by decide +kernel
theorem dX7_lay_52 : decode cX7_lay 52 = .ok (.iastore, 1) := by decide +kernel
theorem dX7_lay_53 : decode cX7_lay 53 = .ok (.iinc 2 1, 3) := by decide +kernel
theorem dX7_lay_56 : decode cX7_lay 56 = .ok (.goto (-54), 3) := by decide +kernel
theorem dX7_lay_59 : decode cX7_lay 59 = .ok (.iconst 0, 1) := by decide +kernel
theorem dX7_lay_60 : decode cX7_lay 60 = .ok (.istore_n 2, 1) := by decide +kernel
theorem dX7_lay_61 : decode cX7_lay 61 = .ok (.iload_n 2, 1) := by decide +kernel
theorem dX7_lay_62 : decode cX7_lay 62 = .ok (.bipush 48, 2) := by decide +kernel
theorem dX7_lay_64 : decode cX7_lay 64 = .ok (.if_icmp .ge 21, 3) := by decide +kernel
theorem dX7_lay_67 : decode cX7_lay 67 = .ok (.aload_n 0, 1) := by decide +kernel
theorem dX7_lay_68 : decode cX7_lay 68 = .ok (.getfield 22, 3) := by decide +kernel
theorem dX7_lay_71 : decode cX7_lay 71 = .ok (.iload_n 2, 1) := by decide +kernel
theorem dX7_lay_72 : decode cX7_lay 72 = .ok (.aload_n 1, 1) := by decide +kernel
theorem dX7_lay_73 : decode cX7_lay 73 = .ok (.bipush 24, 2) := by decide +kernel
theorem dX7_lay_75 : decode cX7_lay 75 = .ok (.iload_n 2, 1) := by decide +kernel
theorem dX7_lay_76 : decode cX7_lay 76 = .ok (.iadd, 1) := by decide +kernel
theorem dX7_lay_77 : decode cX7_lay 77 = .ok (.iaload, 1) := by decide +kernel
theorem dX7_lay_78 : decode cX7_lay 78 = .ok (.iastore, 1) := by decide +kernel
theorem dX7_lay_79 : decode cX7_lay 79 = .ok (.iinc 2 1, 3) := by decide +kernel
theorem dX7_lay_82 : decode cX7_lay 82 = .ok (.goto (-21), 3) := by decide +kernel
theorem dX7_lay_85 : decode cX7_lay 85 = .ok (.iconst 0, 1) := by decide +kernel
theorem dX7_lay_86 : decode cX7_lay 86 = .ok (.istore_n 2, 1) := by decide +kernel
theorem dX7_lay_87 : decode cX7_lay 87 = .ok (.iload_n 2, 1) := by decide +kernel
theorem dX7_lay_88 : decode cX7_lay 88 = .ok (.iconst 4, 1) := by decide +kernel
theorem dX7_lay_89 : decode cX7_lay 89 = .ok (.if_icmp .ge 21, 3) := by decide +kernel
theorem dX7_lay_92 : decode cX7_lay 92 = .ok (.aload_n 0, 1) := by decide +kernel
theorem dX7_lay_93 : decode cX7_lay 93 = .ok (.getfield 34, 3) := by decide +kernel
theorem dX7_lay_96 : decode cX7_lay 96 = .ok (.iload_n 2, 1) := by decide +kernel
theorem dX7_lay_97 : decode cX7_lay 97 = .ok (.aload_n 1, 1) := by decide +kernel
theorem dX7_lay_98 : decode cX7_lay 98 = .ok (.bipush 72, 2) := by decide +kernel
theorem dX7_lay_100 : decode cX7_lay 100 = .ok (.iload_n 2, 1) := by decide +kernel
theorem dX7_lay_101 : decode cX7_lay 101 = .ok (.iadd, 1) := by decide +kernel
theorem dX7_lay_102 : decode cX7_lay 102 = .ok (.iaload, 1) := by decide +kernel
theorem dX7_lay_103 : decode cX7_lay 103 = .ok (.iastore, 1) := by decide +kernel
theorem dX7_lay_104 : decode cX7_lay 104 = .ok (.iinc 2 1, 3) := by decide +kernel
theorem dX7_lay_107 : decode cX7_lay 107 = .ok (.goto (-20), 3) := by decide +kernel
theorem dX7_lay_110 : decode cX7_lay 110 = .ok (.aload_n 0, 1) := by decide +kernel
theorem dX7_lay_111 : decode cX7_lay 111 = .ok (.aload_n 1, 1) := by decide +kernel
theorem dX7_lay_112 : decode cX7_lay 112 = .ok (.bipush 76, 2) := by decide +kernel
theorem dX7_lay_114 : decode cX7_lay 114 = .ok (.iaload, 1) := by decide +kernel
theorem dX7_lay_115 : decode cX7_lay 115 = .ok (.putfield 173, 3) := by decide +kernel
theorem dX7_lay_118 : decode cX7_lay 118 = .ok (.return_, 1) := by decide +kernel
theorem dX7_goYears_0 : decode cX7_goYears 0 = .ok (.aload_n 0, 1) := by decide +kernel
theorem dX7_goYears_1 : decode cX7_goYears 1 = .ok (.bipush (-6), 2) := by decide +kernel
theorem dX7_goYears_3 : decode cX7_goYears 3 = .ok (.putfield 200, 3) := by decide +kernel
theorem dX7_goYears_6 : decode cX7_goYears 6 = .ok (.aload_n 0, 1) := by decide +kernel
theorem dX7_goYears_7 : decode cX7_goYears 7 = .ok (.bipush (-6), 2) := by decide +kernel
theorem dX7_goYears_9 : decode cX7_goYears 9 = .ok (.putfield 203, 3) := by decide +kernel
theorem dX7_goYears_12 : decode cX7_goYears 12 = .ok (.aload_n 0, 1) := by decide +kernel
theorem dX7_goYears_13 : decode cX7_goYears 13 = .ok (.iconst 0, 1) := by decide +kernel
theorem dX7_goYears_14 : decode cX7_goYears 14 = .ok (.putfield 179, 3) := by decide +kernel
theorem dX7_goYears_17 : decode cX7_goYears 17 = .ok (.aload_n 0, 1) := by decide +kernel
theorem dX7_goYears_18 : decode cX7_goYears 18 = .ok (.bipush (-6), 2) := by decide +kernel
theorem dX7_goYears_20 : decode cX7_goYears 20 = .ok (.putfield 185, 3) := by decide +kernel
theorem dX7_goYears_23 : decode cX7_goYears 23 = .ok (.aload_n 0, 1) := by decide +kernel
theorem dX7_goYears_24 : decode cX7_goYears 24 = .ok (.iconst 0, 1) := by decide +kernel
theorem dX7_goYears_25 : decode cX7_goYears 25 = .ok (.putfield 191, 3) := by decide +kernel
theorem dX7_goYears_28 : decode cX7_goYears 28 = .ok (.iconst 0, 1) := by decide +kernel
theorem dX7_goYears_29 : decode cX7_goYears 29 = .ok (.istore_n 1, 1) := by decide +kernel
theorem dX7_goYears_30 : decode cX7_goYears 30 = .ok (.iload_n 1, 1) := by decide +kernel
theorem dX7_goYears_31 : decode cX7_goYears 31 = .ok (.aload_n 0, 1) := by decide +kernel
theorem dX7_goYears_32 : decode cX7_goYears 32 = .ok (.getfield 146, 3) := by decide +kernel
theorem dX7_goYears_35 : decode cX7_goYears 35 = .ok (.if_icmp .ge 110, 3) := by decide +kernel
theorem dX7_goYears_38 : decode cX7_goYears 38 = .ok (.aload_n 0, 1) := by decide +kernel
theorem dX7_goYears_39 : decode cX7_goYears 39 = .ok (.getfield 200, 3) := by decide +kernel
theorem dX7_goYears_42 : decode cX7_goYears 42 = .ok (.ifCond .ge 103, 3) := by decide +kernel
theorem dX7_goYears_45 : decode cX7_goYears 45 = .ok (.aload_n 0, 1) := by decide +kernel
theorem dX7_goYears_46 : decode cX7_goYears 46 = .ok (.iload_n 1, 1) := by decide +kernel
theorem dX7_goYears_47 : decode cX7_goYears 47 = .ok (.putfield 188, 3) := by decide +kernel
theorem dX7_goYears_50 : decode cX7_goYears 50 = .ok (.aload_n 0, 1) := by decide +kernel
theorem dX7_goYears_51 : decode cX7_goYears 51 = .ok (.aload_n 0, 1) := by decide +kernel
theorem dX7_goYears_52 : decode cX7_goYears 52 = .ok (.getfield 55, 3) := by decide +kernel
theorem dX7_goYears_55 : decode cX7_goYears 55 = .ok (.iload_n 1, 1) := by decide +kernel
theorem dX7_goYears_56 : decode cX7_goYears 56 = .ok (.iaload, 1) := by decide +kernel
theorem dX7_goYears_57 : decode cX7_goYears 57 = .ok (.aload_n 0, 1) := by decide +kernel
theorem dX7_goYears_58 : decode cX7_goYears 58 = .ok (.getfield 58, 3) := by decide +kernel
theorem dX7_goYears_61 : decode cX7_goYears 61 = .ok (.iload_n 1, 1) := by decide +kernel
theorem dX7_goYears_62 : decode cX7_goYears 62 = .ok (.iaload, 1) := by decide +kernel
theorem dX7_goYears_63 : decode cX7_goYears 63 = .ok (.aload_n 0, 1) := by decide +kernel
theorem dX7_goYears_64 : decode cX7_goYears 64 = .ok (.getfield 61, 3) := by decide +kernel
theorem dX7_goYears_67 : decode cX7_goYears 67 = .ok (.iload_n 1, 1) := by decide +kernel
theorem dX7_goYears_68 : decode cX7_goYears 68 = .ok (.iaload, 1) := by decide +kernel
theorem dX7_goYears_69 : decode cX7_goYears 69 = .ok (.aload_n 0, 1) := by decide +kernel
theorem dX7_goYears_70 : decode cX7_goYears 70 = .ok (.getfield 64, 3) := by decide +kernel
theorem dX7_goYears_73 : decode cX7_goYears 73 = .ok (.iload_n 1, 1) := by decide +kernel
theorem dX7_goYears_74 : decode cX7_goYears 74 = .ok (.iaload, 1) := by decide +kernel
theorem dX7_goYears_75 : decode cX7_goYears 75 = .ok (.invokevirtual 206, 3) := by decide +kernel
theorem dX7_goYears_78 : decode cX7_goYears 78 = .ok (.istore_n 2, 1) := by decide +kernel
theorem dX7_goYears_79 : decode cX7_goYears 79 = .ok (.aload_n 0, 1) := by decide +kernel
theorem dX7_goYears_80 : decode cX7_goYears 80 = .ok (.iload_n 2, 1) := by decide +kernel
theorem dX7_goYears_81 : decode cX7_goYears 81 = .ok (.ifCond .le 7, 3) := by decide +kernel
theorem dX7_goYears_84 : decode cX7_goYears 84 = .ok (.iload_n 1, 1) := by decide +kernel
theorem dX7_goYears_85 : decode cX7_goYears 85 = .ok (.goto 5, 3) := by decide +kernel
theorem dX7_goYears_88 : decode cX7_goYears 88 = .ok (.bipush (-6), 2) := by decide +kernel
theorem dX7_goYears_90 : decode cX7_goYears 90 = .ok (.putfield 200, 3) := by decide +kernel
theorem dX7_goYears_93 : decode cX7_goYears 93 = .ok (.aload_n 0, 1) := by decide +kernel
theorem dX7_goYears_94 : decode cX7_goYears 94 = .ok (.iload_n 2, 1) := by decide +kernel
theorem dX7_goYears_95 : decode cX7_goYears 95 = .ok (.ifCond .le 7, 3) := by decide +kernel
theorem dX7_goYears_98 : decode cX7_goYears 98 = .ok (.iload_n 2, 1) := by decide +kernel
theorem dX7_goYears_99 : decode cX7_goYears 99 = .ok (.goto 5, 3) := by decide +kernel
theorem dX7_goYears_102 : decode cX7_goYears 102 = .ok (.bipush (-6), 2) := by decide +kernel
theorem dX7_goYears_104 : decode cX7_goYears 104 = .ok (.putfield 203, 3) := by decide +kernel
theorem dX7_goYears_107 : decode cX7_goYears 107 = .ok (.iload_n 2, 1) := by decide +kernel
theorem dX7_goYears_108 : decode cX7_goYears 108 = .ok (.ifCond .ne 31, 3) := by decide +kernel
theorem dX7_goYears_111 : decode cX7_goYears 111 = .ok (.aload_n 0, 1) := by decide +kernel
theorem dX7_goYears_112 : decode cX7_goYears 112 = .ok (.aload_n 0, 1) := by decide +kernel
theorem dX7_goYears_113 : decode cX7_goYears 113 = .ok (.getfield 55, 3) := by decide +kernel
theorem dX7_goYears_116 : decode cX7_goYears 116 = .ok (.iload_n 1, 1) := by decide +kernel
theorem dX7_goYears_117 : decode cX7_goYears 117 = .ok (.iaload, 1) := by decide +kernel
theorem dX7_goYears_118 : decode cX7_goYears 118 = .ok (.aload_n 0, 1) := by decide +kernel
theorem dX7_goYears_119 : decode cX7_goYears 119 = .ok (.getfield 58, 3) := by decide +kernel
theorem dX7_goYears_122 : decode cX7_goYears 122 = .ok (.iload_n 1, 1) := by decide +kernel
theorem dX7_goYears_123 : decode cX7_goYears 123 = .ok (.iaload, 1) := by decide +kernel
theorem dX7_goYears_124 : decode cX7_goYears 124 = .ok (.aload_n 0, 1) := by decide +kernel
theorem dX7_goYears_125 : decode cX7_goYears 125 = .ok (.getfield 61, 3) := by decide +kernel
theorem dX7_goYears_128 : decode cX7_goYears 128 = .ok (.iload_n 1, 1) := by decide +kernel
theorem dX7_goYears_129 : decode cX7_goYears 129 = .ok (.iaload, 1) := by decide +kernel
theorem dX7_goYears_130 : decode cX7_goYears 130 = .ok (.aload_n 0, 1) := by decide +kernel
theorem dX7_goYears_131 : decode cX7_goYears 131 = .ok (.getfield 64, 3) := by decide +kernel
theorem dX7_goYears_134 : decode cX7_goYears 134 = .ok (.iload_n 1, 1) := by decide +kernel
theorem dX7_goYears_135 : decode cX7_goYears 135 = .ok (.iaload, 1) := by decide +kernel
theorem dX7_goYears_136 : decode cX7_goYears 136 = .ok (.invokevirtual 210, 3) := by decide +kernel
theorem dX7_goYears_139 : decode cX7_goYears 139 = .ok (.iinc 1 1, 3) := by decide +kernel
theorem dX7_goYears_142 : decode cX7_goYears 142 = .ok (.goto (-112), 3) := by decide +kernel
theorem dX7_goYears_145 : decode cX7_goYears 145 = .ok (.return_, 1) := by decide +kernel
theorem dX7_refusal_0 : decode cX7_refusal 0 = .ok (.aload_n 0, 1) := by decide +kernel
theorem dX7_refusal_1 : decode cX7_refusal 1 = .ok (.invokevirtual 214, 3) := by decide +kernel
theorem dX7_refusal_4 : decode cX7_refusal 4 = .ok (.ifCond .lt 6, 3) := by decide +kernel
theorem dX7_refusal_7 : decode cX7_refusal 7 = .ok (.bipush (-5), 2) := by decide +kernel
theorem dX7_refusal_9 : decode cX7_refusal 9 = .ok (.ireturn, 1) := by decide +kernel
theorem dX7_refusal_10 : decode cX7_refusal 10 = .ok (.aload_n 0, 1) := by decide +kernel
theorem dX7_refusal_11 : decode cX7_refusal 11 = .ok (.aload_n 0, 1) := by decide +kernel
theorem dX7_refusal_12 : decode cX7_refusal 12 = .ok (.getfield 67, 3) := by decide +kernel
theorem dX7_refusal_15 : decode cX7_refusal 15 = .ok (.invokevirtual 217, 3) := by decide +kernel
theorem dX7_refusal_18 : decode cX7_refusal 18 = .ok (.aload_n 0, 1) := by decide +kernel
theorem dX7_refusal_19 : decode cX7_refusal 19 = .ok (.invokevirtual 221, 3) := by decide +kernel
theorem dX7_refusal_22 : decode cX7_refusal 22 = .ok (.aload_n 0, 1) := by decide +kernel
theorem dX7_refusal_23 : decode cX7_refusal 23 = .ok (.aload_n 0, 1) := by decide +kernel
theorem dX7_refusal_24 : decode cX7_refusal 24 = .ok (.getfield 70, 3) := by decide +kernel
theorem dX7_refusal_27 : decode cX7_refusal 27 = .ok (.invokevirtual 217, 3) := by decide +kernel
theorem dX7_refusal_30 : decode cX7_refusal 30 = .ok (.iconst 0, 1) := by decide +kernel
theorem dX7_refusal_31 : decode cX7_refusal 31 = .ok (.istore_n 1, 1) := by decide +kernel
theorem dX7_refusal_32 : decode cX7_refusal 32 = .ok (.iload_n 1, 1) := by decide +kernel
theorem dX7_refusal_33 : decode cX7_refusal 33 = .ok (.bipush 6, 2) := by decide +kernel
theorem dX7_refusal_35 : decode cX7_refusal 35 = .ok (.if_icmp .ge 31, 3) := by decide +kernel
theorem dX7_refusal_38 : decode cX7_refusal 38 = .ok (.aload_n 0, 1) := by decide +kernel
theorem dX7_refusal_39 : decode cX7_refusal 39 = .ok (.getfield 70, 3) := by decide +kernel
theorem dX7_refusal_42 : decode cX7_refusal 42 = .ok (.bipush 77, 2) := by decide +kernel
theorem dX7_refusal_44 : decode cX7_refusal 44 = .ok (.iload_n 1, 1) := by decide +kernel
theorem dX7_refusal_45 : decode cX7_refusal 45 = .ok (.iadd, 1) := by decide +kernel
theorem dX7_refusal_46 : decode cX7_refusal 46 = .ok (.aload_n 0, 1) := by decide +kernel
theorem dX7_refusal_47 : decode cX7_refusal 47 = .ok (.iload_n 1, 1) := by decide +kernel
theorem dX7_refusal_48 : decode cX7_refusal 48 = .ok (.invokevirtual 182, 3) := by decide +kernel
theorem dX7_refusal_51 : decode cX7_refusal 51 = .ok (.ifCond .eq 7, 3) := by decide +kernel
theorem dX7_refusal_54 : decode cX7_refusal 54 = .ok (.iconst 1, 1) := by decide +kernel
theorem dX7_refusal_55 : decode cX7_refusal 55 = .ok (.goto 4, 3) := by decide +kernel
theorem dX7_refusal_58 : decode cX7_refusal 58 = .ok (.iconst 0, 1) := by decide +kernel
theorem dX7_refusal_59 : decode cX7_refusal 59 = .ok (.iastore, 1) := by decide +kernel
theorem dX7_refusal_60 : decode cX7_refusal 60 = .ok (.iinc 1 1, 3) := by decide +kernel
theorem dX7_refusal_63 : decode cX7_refusal 63 = .ok (.goto (-31), 3) := by decide +kernel
theorem dX7_refusal_66 : decode cX7_refusal 66 = .ok (.aload_n 0, 1) := by decide +kernel
theorem dX7_refusal_67 : decode cX7_refusal 67 = .ok (.aload_n 0, 1) := by decide +kernel
theorem dX7_refusal_68 : decode cX7_refusal 68 = .ok (.getfield 67, 3) := by decide +kernel
theorem dX7_refusal_71 : decode cX7_refusal 71 = .ok (.invokevirtual 224, 3) := by decide +kernel
theorem dX7_refusal_74 : decode cX7_refusal 74 = .ok (.aload_n 0, 1) := by decide +kernel
theorem dX7_refusal_75 : decode cX7_refusal 75 = .ok (.getfield 200, 3) := by decide +kernel
theorem dX7_refusal_78 : decode cX7_refusal 78 = .ok (.ifCond .lt 8, 3) := by decide +kernel
theorem dX7_refusal_81 : decode cX7_refusal 81 = .ok (.bipush (-3), 2) := by decide +kernel
theorem dX7_refusal_83 : decode cX7_refusal 83 = .ok (.goto 5, 3) := by decide +kernel
theorem dX7_refusal_86 : decode cX7_refusal 86 = .ok (.bipush (-6), 2) := by decide +kernel
theorem dX7_refusal_88 : decode cX7_refusal 88 = .ok (.ireturn, 1) := by decide +kernel
theorem dX7_judge_0 : decode cX7_judge 0 = .ok (.iload_n 1, 1) := by decide +kernel
theorem dX7_judge_1 : decode cX7_judge 1 = .ok (.i2l, 1) := by decide +kernel
theorem dX7_judge_2 : decode cX7_judge 2 = .ok (.lconst 0, 1) := by decide +kernel
theorem dX7_judge_3 : decode cX7_judge 3 = .ok (.ldc2_w 116, 3) := by decide +kernel
theorem dX7_judge_6 : decode cX7_judge 6 = .ok (.invokestatic 89, 3) := by decide +kernel
theorem dX7_judge_9 : decode cX7_judge 9 = .ok (.ifCond .ne 6, 3) := by decide +kernel
theorem dX7_judge_12 : decode cX7_judge 12 = .ok (.bipush (-2), 2) := by decide +kernel
theorem dX7_judge_14 : decode cX7_judge 14 = .ok (.ireturn, 1) := by decide +kernel
theorem dX7_judge_15 : decode cX7_judge 15 = .ok (.aload_n 0, 1) := by decide +kernel
theorem dX7_judge_16 : decode cX7_judge 16 = .ok (.invokevirtual 227, 3) := by decide +kernel
theorem dX7_judge_19 : decode cX7_judge 19 = .ok (.istore_n 2, 1) := by decide +kernel
theorem dX7_judge_20 : decode cX7_judge 20 = .ok (.iload_n 2, 1) := by decide +kernel
theorem dX7_judge_21 : decode cX7_judge 21 = .ok (.bipush (-5), 2) := by decide +kernel
theorem dX7_judge_23 : decode cX7_judge 23 = .ok (.if_icmp .eq 14, 3) := by decide +kernel
theorem dX7_judge_26 : decode cX7_judge 26 = .ok (.iload_n 1, 1) := by decide +kernel
theorem dX7_judge_27 : decode cX7_judge 27 = .ok (.iconst 1, 1) := by decide +kernel
theorem dX7_judge_28 : decode cX7_judge 28 = .ok (.if_icmp .le 11, 3) := by decide +kernel
theorem dX7_judge_31 : decode cX7_judge 31 = .ok (.iload_n 2, 1) := by decide +kernel
theorem dX7_judge_32 : decode cX7_judge 32 = .ok (.bipush (-3), 2) := by decide +kernel
theorem dX7_judge_34 : decode cX7_judge 34 = .ok (.if_icmp .ne 5, 3) := by decide +kernel
theorem dX7_judge_37 : decode cX7_judge 37 = .ok (.iload_n 2, 1) := by decide +kernel
theorem dX7_judge_38 : decode cX7_judge 38 = .ok (.ireturn, 1) := by decide +kernel
theorem dX7_judge_39 : decode cX7_judge 39 = .ok (.iload_n 1, 1) := by decide +kernel
theorem dX7_judge_40 : decode cX7_judge 40 = .ok (.ifCond .ne 10, 3) := by decide +kernel
theorem dX7_judge_43 : decode cX7_judge 43 = .ok (.aload_n 0, 1) := by decide +kernel
theorem dX7_judge_44 : decode cX7_judge 44 = .ok (.getfield 200, 3) := by decide +kernel
theorem dX7_judge_47 : decode cX7_judge 47 = .ok (.goto 19, 3) := by decide +kernel
theorem dX7_judge_50 : decode cX7_judge 50 = .ok (.iload_n 1, 1) := by decide +kernel
theorem dX7_judge_51 : decode cX7_judge 51 = .ok (.iconst 1, 1) := by decide +kernel
theorem dX7_judge_52 : decode cX7_judge 52 = .ok (.if_icmp .ne 10, 3) := by decide +kernel
theorem dX7_judge_55 : decode cX7_judge 55 = .ok (.aload_n 0, 1) := by decide +kernel
theorem dX7_judge_56 : decode cX7_judge 56 = .ok (.getfield 203, 3) := by decide +kernel
theorem dX7_judge_59 : decode cX7_judge 59 = .ok (.goto 7, 3) := by decide +kernel
theorem dX7_judge_62 : decode cX7_judge 62 = .ok (.aload_n 0, 1) := by decide +kernel
theorem dX7_judge_63 : decode cX7_judge 63 = .ok (.getfield 179, 3) := by decide +kernel
theorem dX7_judge_66 : decode cX7_judge 66 = .ok (.ireturn, 1) := by decide +kernel
theorem dX7_behind_0 : decode cX7_behind 0 = .ok (.aload_n 0, 1) := by decide +kernel
theorem dX7_behind_1 : decode cX7_behind 1 = .ok (.iload_n 1, 1) := by decide +kernel
theorem dX7_behind_2 : decode cX7_behind 2 = .ok (.invokevirtual 113, 3) := by decide +kernel
theorem dX7_behind_5 : decode cX7_behind 5 = .ok (.ifCond .ne 5, 3) := by decide +kernel
theorem dX7_behind_8 : decode cX7_behind 8 = .ok (.iconst (-1), 1) := by decide +kernel
theorem dX7_behind_9 : decode cX7_behind 9 = .ok (.ireturn, 1) := by decide +kernel
theorem dX7_behind_10 : decode cX7_behind 10 = .ok (.iload_n 2, 1) := by decide +kernel
theorem dX7_behind_11 : decode cX7_behind 11 = .ok (.i2l, 1) := by decide +kernel
theorem dX7_behind_12 : decode cX7_behind 12 = .ok (.lconst 0, 1) := by decide +kernel
theorem dX7_behind_13 : decode cX7_behind 13 = .ok (.ldc2_w 230, 3) := by decide +kernel
theorem dX7_behind_16 : decode cX7_behind 16 = .ok (.invokestatic 89, 3) := by decide +kernel
theorem dX7_behind_19 : decode cX7_behind 19 = .ok (.ifCond .ne 6, 3) := by decide +kernel
theorem dX7_behind_22 : decode cX7_behind 22 = .ok (.bipush (-2), 2) := by decide +kernel
theorem dX7_behind_24 : decode cX7_behind 24 = .ok (.ireturn, 1) := by decide +kernel
theorem dX7_behind_25 : decode cX7_behind 25 = .ok (.aload_n 0, 1) := by decide +kernel
theorem dX7_behind_26 : decode cX7_behind 26 = .ok (.invokevirtual 227, 3) := by decide +kernel
theorem dX7_behind_29 : decode cX7_behind 29 = .ok (.istore_n 3, 1) := by decide +kernel
theorem dX7_behind_30 : decode cX7_behind 30 = .ok (.iload_n 3, 1) := by decide +kernel
theorem dX7_behind_31 : decode cX7_behind 31 = .ok (.bipush (-6), 2) := by decide +kernel
theorem dX7_behind_33 : decode cX7_behind 33 = .ok (.if_icmp .eq 7, 3) := by decide +kernel
theorem dX7_behind_36 : decode cX7_behind 36 = .ok (.iload_n 3, 1) := by decide +kernel
theorem dX7_behind_37 : decode cX7_behind 37 = .ok (.goto 41, 3) := by decide +kernel
theorem dX7_behind_40 : decode cX7_behind 40 = .ok (.iload_n 2, 1) := by decide +kernel
theorem dX7_behind_41 : decode cX7_behind 41 = .ok (.iconst 3, 1) := by decide +kernel
theorem dX7_behind_42 : decode cX7_behind 42 = .ok (.if_icmp .ge 17, 3) := by decide +kernel
theorem dX7_behind_45 : decode cX7_behind 45 = .ok (.aload_n 0, 1) := by decide +kernel
theorem dX7_behind_46 : decode cX7_behind 46 = .ok (.getfield 70, 3) := by decide +kernel
theorem dX7_behind_49 : decode cX7_behind 49 = .ok (.bipush 6, 2) := by decide +kernel
theorem dX7_behind_51 : decode cX7_behind 51 = .ok (.iload_n 2, 1) := by decide +kernel
theorem dX7_behind_52 : decode cX7_behind 52 = .ok (.imul, 1) := by decide +kernel
theorem dX7_behind_53 : decode cX7_behind 53 = .ok (.iload_n 1, 1) := by decide +kernel
theorem dX7_behind_54 : decode cX7_behind 54 = .ok (.iadd, 1) := by decide +kernel
theorem dX7_behind_55 : decode cX7_behind 55 = .ok (.iaload, 1) := by decide +kernel
theorem dX7_behind_56 : decode cX7_behind 56 = .ok (.goto 22, 3) := by decide +kernel
theorem dX7_behind_59 : decode cX7_behind 59 = .ok (.aload_n 0, 1) := by decide +kernel
theorem dX7_behind_60 : decode cX7_behind 60 = .ok (.getfield 70, 3) := by decide +kernel
theorem dX7_behind_63 : decode cX7_behind 63 = .ok (.iload_n 2, 1) := by decide +kernel
theorem dX7_behind_64 : decode cX7_behind 64 = .ok (.iconst 3, 1) := by decide +kernel
theorem dX7_behind_65 : decode cX7_behind 65 = .ok (.if_icmp .ne 8, 3) := by decide +kernel
theorem dX7_behind_68 : decode cX7_behind 68 = .ok (.bipush 77, 2) := by decide +kernel
theorem dX7_behind_70 : decode cX7_behind 70 = .ok (.goto 5, 3) := by decide +kernel
theorem dX7_behind_73 : decode cX7_behind 73 = .ok (.bipush 18, 2) := by decide +kernel
theorem dX7_behind_75 : decode cX7_behind 75 = .ok (.iload_n 1, 1) := by decide +kernel
theorem dX7_behind_76 : decode cX7_behind 76 = .ok (.iadd, 1) := by decide +kernel
theorem dX7_behind_77 : decode cX7_behind 77 = .ok (.iaload, 1) := by decide +kernel
theorem dX7_behind_78 : decode cX7_behind 78 = .ok (.ireturn, 1) := by decide +kernel
theorem dX7_holds_0 : decode cX7_holds 0 = .ok (.iload_n 1, 1) := by decide +kernel
theorem dX7_holds_1 : decode cX7_holds 1 = .ok (.invokestatic 120, 3) := by decide +kernel
theorem dX7_holds_4 : decode cX7_holds 4 = .ok (.ifCond .eq 16, 3) := by decide +kernel
theorem dX7_holds_7 : decode cX7_holds 7 = .ok (.iload_n 2, 1) := by decide +kernel
theorem dX7_holds_8 : decode cX7_holds 8 = .ok (.iconst (-1), 1) := by decide +kernel
theorem dX7_holds_9 : decode cX7_holds 9 = .ok (.if_icmp .eq 13, 3) := by decide +kernel
theorem dX7_holds_12 : decode cX7_holds 12 = .ok (.aload_n 0, 1) := by decide +kernel
theorem dX7_holds_13 : decode cX7_holds 13 = .ok (.iload_n 2, 1) := by decide +kernel
theorem dX7_holds_14 : decode cX7_holds 14 = .ok (.invokevirtual 113, 3) := by decide +kernel
theorem dX7_holds_17 : decode cX7_holds 17 = .ok (.ifCond .ne 5, 3) := by decide +kernel
theorem dX7_holds_20 : decode cX7_holds 20 = .ok (.iconst (-1), 1) := by decide +kernel
theorem dX7_holds_21 : decode cX7_holds 21 = .ok (.ireturn, 1) := by decide +kernel
theorem dX7_holds_22 : decode cX7_holds 22 = .ok (.aload_n 0, 1) := by decide +kernel
theorem dX7_holds_23 : decode cX7_holds 23 = .ok (.invokevirtual 227, 3) := by decide +kernel
theorem dX7_holds_26 : decode cX7_holds 26 = .ok (.istore_n 3, 1) := by decide +kernel
theorem dX7_holds_27 : decode cX7_holds 27 = .ok (.iload_n 3, 1) := by decide +kernel
theorem dX7_holds_28 : decode cX7_holds 28 = .ok (.bipush (-6), 2) := by decide +kernel
theorem dX7_holds_30 : decode cX7_holds 30 = .ok (.if_icmp .eq 5, 3) := by decide +kernel
theorem dX7_holds_33 : decode cX7_holds 33 = .ok (.iload_n 3, 1) := by decide +kernel
theorem dX7_holds_34 : decode cX7_holds 34 = .ok (.ireturn, 1) := by decide +kernel
theorem dX7_holds_35 : decode cX7_holds 35 = .ok (.iload_n 2, 1) := by decide +kernel
theorem dX7_holds_36 : decode cX7_holds 36 = .ok (.iconst (-1), 1) := by decide +kernel
theorem dX7_holds_37 : decode cX7_holds 37 = .ok (.if_icmp .ne 13, 3) := by decide +kernel
theorem dX7_holds_40 : decode cX7_holds 40 = .ok (.aload_n 0, 1) := by decide +kernel
theorem dX7_holds_41 : decode cX7_holds 41 = .ok (.getfield 70, 3) := by decide +kernel
theorem dX7_holds_44 : decode cX7_holds 44 = .ok (.bipush 72, 2) := by decide +kernel
theorem dX7_holds_46 : decode cX7_holds 46 = .ok (.iload_n 1, 1) := by decide +kernel
theorem dX7_holds_47 : decode cX7_holds 47 = .ok (.iadd, 1) := by decide +kernel
theorem dX7_holds_48 : decode cX7_holds 48 = .ok (.iaload, 1) := by decide +kernel
theorem dX7_holds_49 : decode cX7_holds 49 = .ok (.ireturn, 1) := by decide +kernel
theorem dX7_holds_50 : decode cX7_holds 50 = .ok (.iconst 0, 1) := by decide +kernel
theorem dX7_holds_51 : decode cX7_holds 51 = .ok (.istore 4, 2) := by decide +kernel
theorem dX7_holds_53 : decode cX7_holds 53 = .ok (.iconst 0, 1) := by decide +kernel
theorem dX7_holds_54 : decode cX7_holds 54 = .ok (.istore 5, 2) := by decide +kernel
theorem dX7_holds_56 : decode cX7_holds 56 = .ok (.iload 5, 2) := by decide +kernel
theorem dX7_holds_58 : decode cX7_holds 58 = .ok (.bipush 8, 2) := by decide +kernel
theorem dX7_holds_60 : decode cX7_holds 60 = .ok (.if_icmp .ge 41, 3) := by decide +kernel
theorem dX7_holds_63 : decode cX7_holds 63 = .ok (.iload 4, 2) := by decide +kernel
theorem dX7_holds_65 : decode cX7_holds 65 = .ok (.aload_n 0, 1) := by decide +kernel
theorem dX7_holds_66 : decode cX7_holds 66 = .ok (.getfield 70, 3) := by decide +kernel
theorem dX7_holds_69 : decode cX7_holds 69 = .ok (.bipush 24, 2) := by decide +kernel
theorem dX7_holds_71 : decode cX7_holds 71 = .ok (.bipush 8, 2) := by decide +kernel
theorem dX7_holds_73 : decode cX7_holds 73 = .ok (.iload_n 2, 1) := by decide +kernel
theorem dX7_holds_74 : decode cX7_holds 74 = .ok (.imul, 1) := by decide +kernel
theorem dX7_holds_75 : decode cX7_holds 75 = .ok (.iadd, 1) := by decide +kernel
theorem dX7_holds_76 : decode cX7_holds 76 = .ok (.iload 5, 2) := by decide +kernel
theorem dX7_holds_78 : decode cX7_holds 78 = .ok (.iadd, 1) := by decide +kernel
theorem dX7_holds_79 : decode cX7_holds 79 = .ok (.iaload, 1) := by decide +kernel
theorem dX7_holds_80 : decode cX7_holds 80 = .ok (.iload_n 1, 1) := by decide +kernel
theorem dX7_holds_81 : decode cX7_holds 81 = .ok (.if_icmp .ne 10, 3) := by decide +kernel
theorem dX7_holds_84 : decode cX7_holds 84 = .ok (.iconst 1, 1) := by decide +kernel
theorem dX7_holds_85 : decode cX7_holds 85 = .ok (.iload 5, 2) := by decide +kernel
theorem dX7_holds_87 : decode cX7_holds 87 = .ok (.ishl, 1) := by decide +kernel
theorem dX7_holds_88 : decode cX7_holds 88 = .ok (.goto 4, 3) := by decide +kernel
theorem dX7_holds_91 : decode cX7_holds 91 = .ok (.iconst 0, 1) := by decide +kernel
theorem dX7_holds_92 : decode cX7_holds 92 = .ok (.ior, 1) := by decide +kernel
theorem dX7_holds_93 : decode cX7_holds 93 = .ok (.istore 4, 2) := by decide +kernel
theorem dX7_holds_95 : decode cX7_holds 95 = .ok (.iinc 5 1, 3) := by decide +kernel
theorem dX7_holds_98 : decode cX7_holds 98 = .ok (.goto (-42), 3) := by decide +kernel
theorem dX7_holds_101 : decode cX7_holds 101 = .ok (.iload 4, 2) := by decide +kernel
theorem dX7_holds_103 : decode cX7_holds 103 = .ok (.ireturn, 1) := by decide +kernel
theorem dX7_wrong_0 : decode cX7_wrong 0 = .ok (.iload_n 1, 1) := by decide +kernel
theorem dX7_wrong_1 : decode cX7_wrong 1 = .ok (.i2l, 1) := by decide +kernel
theorem dX7_wrong_2 : decode cX7_wrong 2 = .ok (.lconst 0, 1) := by decide +kernel
theorem dX7_wrong_3 : decode cX7_wrong 3 = .ok (.lconst 1, 1) := by decide +kernel
theorem dX7_wrong_4 : decode cX7_wrong 4 = .ok (.invokestatic 89, 3) := by decide +kernel
theorem dX7_wrong_7 : decode cX7_wrong 7 = .ok (.ifCond .ne 6, 3) := by decide +kernel
theorem dX7_wrong_10 : decode cX7_wrong 10 = .ok (.bipush (-2), 2) := by decide +kernel
theorem dX7_wrong_12 : decode cX7_wrong 12 = .ok (.ireturn, 1) := by decide +kernel
theorem dX7_wrong_13 : decode cX7_wrong 13 = .ok (.aload_n 0, 1) := by decide +kernel
theorem dX7_wrong_14 : decode cX7_wrong 14 = .ok (.invokevirtual 227, 3) := by decide +kernel
theorem dX7_wrong_17 : decode cX7_wrong 17 = .ok (.istore_n 2, 1) := by decide +kernel
theorem dX7_wrong_18 : decode cX7_wrong 18 = .ok (.iload_n 2, 1) := by decide +kernel
theorem dX7_wrong_19 : decode cX7_wrong 19 = .ok (.bipush (-6), 2) := by decide +kernel
theorem dX7_wrong_21 : decode cX7_wrong 21 = .ok (.if_icmp .eq 7, 3) := by decide +kernel
theorem dX7_wrong_24 : decode cX7_wrong 24 = .ok (.iload_n 2, 1) := by decide +kernel
theorem dX7_wrong_25 : decode cX7_wrong 25 = .ok (.goto 18, 3) := by decide +kernel
theorem dX7_wrong_28 : decode cX7_wrong 28 = .ok (.iload_n 1, 1) := by decide +kernel
theorem dX7_wrong_29 : decode cX7_wrong 29 = .ok (.ifCond .ne 10, 3) := by decide +kernel
theorem dX7_wrong_32 : decode cX7_wrong 32 = .ok (.aload_n 0, 1) := by decide +kernel
theorem dX7_wrong_33 : decode cX7_wrong 33 = .ok (.getfield 185, 3) := by decide +kernel
theorem dX7_wrong_36 : decode cX7_wrong 36 = .ok (.goto 7, 3) := by decide +kernel
theorem dX7_wrong_39 : decode cX7_wrong 39 = .ok (.aload_n 0, 1) := by decide +kernel
theorem dX7_wrong_40 : decode cX7_wrong 40 = .ok (.getfield 191, 3) := by decide +kernel
theorem dX7_wrong_43 : decode cX7_wrong 43 = .ok (.ireturn, 1) := by decide +kernel
theorem dX7_done_0 : decode cX7_done 0 = .ok (.aload_n 0, 1) := by decide +kernel
theorem dX7_done_1 : decode cX7_done 1 = .ok (.invokevirtual 227, 3) := by decide +kernel
theorem dX7_done_4 : decode cX7_done 4 = .ok (.istore_n 1, 1) := by decide +kernel
theorem dX7_done_5 : decode cX7_done 5 = .ok (.iload_n 1, 1) := by decide +kernel
theorem dX7_done_6 : decode cX7_done 6 = .ok (.bipush (-6), 2) := by decide +kernel
theorem dX7_done_8 : decode cX7_done 8 = .ok (.if_icmp .eq 5, 3) := by decide +kernel
theorem dX7_done_11 : decode cX7_done 11 = .ok (.iload_n 1, 1) := by decide +kernel
theorem dX7_done_12 : decode cX7_done 12 = .ok (.ireturn, 1) := by decide +kernel
theorem dX7_done_13 : decode cX7_done 13 = .ok (.aload_n 0, 1) := by decide +kernel
theorem dX7_done_14 : decode cX7_done 14 = .ok (.invokevirtual 221, 3) := by decide +kernel
theorem dX7_done_17 : decode cX7_done 17 = .ok (.aload_n 0, 1) := by decide +kernel
theorem dX7_done_18 : decode cX7_done 18 = .ok (.iconst 0, 1) := by decide +kernel
theorem dX7_done_19 : decode cX7_done 19 = .ok (.putfield 135, 3) := by decide +kernel
theorem dX7_done_22 : decode cX7_done 22 = .ok (.aload_n 0, 1) := by decide +kernel
