theorem dX2_live_143 : decode cX2_live 143 = .ok (.aload_n 1, 1) := by decide +kernel
theorem dX2_live_144 : decode cX2_live 144 = .ok (.getfield 116, 3) := by decide +kernel
theorem dX2_live_147 : decode cX2_live 147 = .ok (.iastore, 1) := by decide +kernel
theorem dX2_live_148 : decode cX2_live 148 = .ok (.aload_n 0, 1) := by decide +kernel
theorem dX2_live_149 : decode cX2_live 149 = .ok (.getfield 33, 3) := by decide +kernel
theorem dX2_live_152 : decode cX2_live 152 = .ok (.aload_n 1, 1) := by decide +kernel
theorem dX2_live_153 : decode cX2_live 153 = .ok (.getfield 116, 3) := by decide +kernel
theorem dX2_live_156 : decode cX2_live 156 = .ok (.dup2, 1) := by decide +kernel
theorem dX2_live_157 : decode cX2_live 157 = .ok (.iaload, 1) := by decide +kernel
theorem dX2_live_158 : decode cX2_live 158 = .ok (.bipush 10, 2) := by decide +kernel
theorem dX2_live_160 : decode cX2_live 160 = .ok (.isub, 1) := by decide +kernel
theorem dX2_live_161 : decode cX2_live 161 = .ok (.iastore, 1) := by decide +kernel
theorem dX2_live_162 : decode cX2_live 162 = .ok (.goto 16, 3) := by decide +kernel
theorem dX2_live_165 : decode cX2_live 165 = .ok (.aload_n 0, 1) := by decide +kernel
theorem dX2_live_166 : decode cX2_live 166 = .ok (.dup, 1) := by decide +kernel
theorem dX2_live_167 : decode cX2_live 167 = .ok (.getfield 52, 3) := by decide +kernel
theorem dX2_live_170 : decode cX2_live 170 = .ok (.iconst 1, 1) := by decide +kernel
theorem dX2_live_171 : decode cX2_live 171 = .ok (.iadd, 1) := by decide +kernel
theorem dX2_live_172 : decode cX2_live 172 = .ok (.putfield 52, 3) := by decide +kernel
theorem dX2_live_175 : decode cX2_live 175 = .ok (.goto 3, 3) := by decide +kernel
theorem dX2_live_178 : decode cX2_live 178 = .ok (.return_, 1) := by decide +kernel
theorem dX2_fall_0 : decode cX2_fall 0 = .ok (.iconst 0, 1) := by decide +kernel
theorem dX2_fall_1 : decode cX2_fall 1 = .ok (.istore_n 2, 1) := by decide +kernel
theorem dX2_fall_2 : decode cX2_fall 2 = .ok (.iload_n 2, 1) := by decide +kernel
theorem dX2_fall_3 : decode cX2_fall 3 = .ok (.iconst 4, 1) := by decide +kernel
theorem dX2_fall_4 : decode cX2_fall 4 = .ok (.if_icmp .ge 42, 3) := by decide +kernel
theorem dX2_fall_7 : decode cX2_fall 7 = .ok (.bipush 10, 2) := by decide +kernel
theorem dX2_fall_9 : decode cX2_fall 9 = .ok (.aload_n 0, 1) := by decide +kernel
theorem dX2_fall_10 : decode cX2_fall 10 = .ok (.iload_n 1, 1) := by decide +kernel
theorem dX2_fall_11 : decode cX2_fall 11 = .ok (.iload_n 2, 1) := by decide +kernel
theorem dX2_fall_12 : decode cX2_fall 12 = .ok (.invokevirtual 92, 3) := by decide +kernel
theorem dX2_fall_15 : decode cX2_fall 15 = .ok (.invokestatic 95, 3) := by decide +kernel
theorem dX2_fall_18 : decode cX2_fall 18 = .ok (.imul, 1) := by decide +kernel
theorem dX2_fall_19 : decode cX2_fall 19 = .ok (.istore_n 3, 1) := by decide +kernel
theorem dX2_fall_20 : decode cX2_fall 20 = .ok (.aload_n 0, 1) := by decide +kernel
theorem dX2_fall_21 : decode cX2_fall 21 = .ok (.getfield 33, 3) := by decide +kernel
theorem dX2_fall_24 : decode cX2_fall 24 = .ok (.iload_n 2, 1) := by decide +kernel
theorem dX2_fall_25 : decode cX2_fall 25 = .ok (.sipush 999, 3) := by decide +kernel
theorem dX2_fall_28 : decode cX2_fall 28 = .ok (.aload_n 0, 1) := by decide +kernel
theorem dX2_fall_29 : decode cX2_fall 29 = .ok (.getfield 33, 3) := by decide +kernel
theorem dX2_fall_32 : decode cX2_fall 32 = .ok (.iload_n 2, 1) := by decide +kernel
theorem dX2_fall_33 : decode cX2_fall 33 = .ok (.iaload, 1) := by decide +kernel
theorem dX2_fall_34 : decode cX2_fall 34 = .ok (.iload_n 3, 1) := by decide +kernel
theorem dX2_fall_35 : decode cX2_fall 35 = .ok (.iadd, 1) := by decide +kernel
theorem dX2_fall_36 : decode cX2_fall 36 = .ok (.invokestatic 125, 3) := by decide +kernel
theorem dX2_fall_39 : decode cX2_fall 39 = .ok (.iastore, 1) := by decide +kernel
theorem dX2_fall_40 : decode cX2_fall 40 = .ok (.iinc 2 1, 3) := by decide +kernel
theorem dX2_fall_43 : decode cX2_fall 43 = .ok (.goto (-41), 3) := by decide +kernel
theorem dX2_fall_46 : decode cX2_fall 46 = .ok (.aload_n 0, 1) := by decide +kernel
theorem dX2_fall_47 : decode cX2_fall 47 = .ok (.dup, 1) := by decide +kernel
theorem dX2_fall_48 : decode cX2_fall 48 = .ok (.getfield 49, 3) := by decide +kernel
theorem dX2_fall_51 : decode cX2_fall 51 = .ok (.iconst 1, 1) := by decide +kernel
theorem dX2_fall_52 : decode cX2_fall 52 = .ok (.iload_n 1, 1) := by decide +kernel
theorem dX2_fall_53 : decode cX2_fall 53 = .ok (.ishl, 1) := by decide +kernel
theorem dX2_fall_54 : decode cX2_fall 54 = .ok (.ior, 1) := by decide +kernel
theorem dX2_fall_55 : decode cX2_fall 55 = .ok (.putfield 49, 3) := by decide +kernel
theorem dX2_fall_58 : decode cX2_fall 58 = .ok (.aload_n 0, 1) := by decide +kernel
theorem dX2_fall_59 : decode cX2_fall 59 = .ok (.iload_n 1, 1) := by decide +kernel
theorem dX2_fall_60 : decode cX2_fall 60 = .ok (.invokevirtual 84, 3) := by decide +kernel
theorem dX2_fall_63 : decode cX2_fall 63 = .ok (.return_, 1) := by decide +kernel
theorem dX3_init_0 : decode cX3_init 0 = .ok (.aload_n 0, 1) := by decide +kernel
theorem dX3_init_1 : decode cX3_init 1 = .ok (.invokespecial 3, 3) := by decide +kernel
theorem dX3_init_4 : decode cX3_init 4 = .ok (.aload_n 0, 1) := by decide +kernel
theorem dX3_init_5 : decode cX3_init 5 = .ok (.bipush 100, 2) := by decide +kernel
theorem dX3_init_7 : decode cX3_init 7 = .ok (.newarray .int, 2) := by decide +kernel
theorem dX3_init_9 : decode cX3_init 9 = .ok (.putfield 9, 3) := by decide +kernel
theorem dX3_init_12 : decode cX3_init 12 = .ok (.return_, 1) := by decide +kernel
theorem dX3_find_0 : decode cX3_find 0 = .ok (.aload_n 0, 1) := by decide +kernel
theorem dX3_find_1 : decode cX3_find 1 = .ok (.iconst 0, 1) := by decide +kernel
theorem dX3_find_2 : decode cX3_find 2 = .ok (.putfield 15, 3) := by decide +kernel
theorem dX3_find_5 : decode cX3_find 5 = .ok (.iconst 0, 1) := by decide +kernel
theorem dX3_find_6 : decode cX3_find 6 = .ok (.istore_n 2, 1) := by decide +kernel
theorem dX3_find_7 : decode cX3_find 7 = .ok (.iload_n 2, 1) := by decide +kernel
theorem dX3_find_8 : decode cX3_find 8 = .ok (.bipush 100, 2) := by decide +kernel
theorem dX3_find_10 : decode cX3_find 10 = .ok (.if_icmp .ge 37, 3) := by decide +kernel
theorem dX3_find_13 : decode cX3_find 13 = .ok (.iload_n 2, 1) := by decide +kernel
theorem dX3_find_14 : decode cX3_find 14 = .ok (.aload_n 1, 1) := by decide +kernel
theorem dX3_find_15 : decode cX3_find 15 = .ok (.invokestatic 19, 3) := by decide +kernel
theorem dX3_find_18 : decode cX3_find 18 = .ok (.ifCond .eq 23, 3) := by decide +kernel
theorem dX3_find_21 : decode cX3_find 21 = .ok (.aload_n 0, 1) := by decide +kernel
theorem dX3_find_22 : decode cX3_find 22 = .ok (.getfield 9, 3) := by decide +kernel
theorem dX3_find_25 : decode cX3_find 25 = .ok (.aload_n 0, 1) := by decide +kernel
theorem dX3_find_26 : decode cX3_find 26 = .ok (.getfield 15, 3) := by decide +kernel
theorem dX3_find_29 : decode cX3_find 29 = .ok (.iload_n 2, 1) := by decide +kernel
theorem dX3_find_30 : decode cX3_find 30 = .ok (.iastore, 1) := by decide +kernel
theorem dX3_find_31 : decode cX3_find 31 = .ok (.aload_n 0, 1) := by decide +kernel
theorem dX3_find_32 : decode cX3_find 32 = .ok (.dup, 1) := by decide +kernel
theorem dX3_find_33 : decode cX3_find 33 = .ok (.getfield 15, 3) := by decide +kernel
theorem dX3_find_36 : decode cX3_find 36 = .ok (.iconst 1, 1) := by decide +kernel
theorem dX3_find_37 : decode cX3_find 37 = .ok (.iadd, 1) := by decide +kernel
theorem dX3_find_38 : decode cX3_find 38 = .ok (.putfield 15, 3) := by decide +kernel
theorem dX3_find_41 : decode cX3_find 41 = .ok (.iinc 2 1, 3) := by decide +kernel
theorem dX3_find_44 : decode cX3_find 44 = .ok (.goto (-37), 3) := by decide +kernel
theorem dX3_find_47 : decode cX3_find 47 = .ok (.return_, 1) := by decide +kernel
theorem dX3_fits_0 : decode cX3_fits 0 = .ok (.iconst 0, 1) := by decide +kernel
theorem dX3_fits_1 : decode cX3_fits 1 = .ok (.istore_n 2, 1) := by decide +kernel
theorem dX3_fits_2 : decode cX3_fits 2 = .ok (.iload_n 2, 1) := by decide +kernel
theorem dX3_fits_3 : decode cX3_fits 3 = .ok (.aload_n 1, 1) := by decide +kernel
theorem dX3_fits_4 : decode cX3_fits 4 = .ok (.getfield 23, 3) := by decide +kernel
theorem dX3_fits_7 : decode cX3_fits 7 = .ok (.if_icmp .ge 53, 3) := by decide +kernel
theorem dX3_fits_10 : decode cX3_fits 10 = .ok (.aload_n 1, 1) := by decide +kernel
theorem dX3_fits_11 : decode cX3_fits 11 = .ok (.getfield 28, 3) := by decide +kernel
theorem dX3_fits_14 : decode cX3_fits 14 = .ok (.iload_n 2, 1) := by decide +kernel
theorem dX3_fits_15 : decode cX3_fits 15 = .ok (.iaload, 1) := by decide +kernel
theorem dX3_fits_16 : decode cX3_fits 16 = .ok (.istore_n 3, 1) := by decide +kernel
theorem dX3_fits_17 : decode cX3_fits 17 = .ok (.aload_n 1, 1) := by decide +kernel
theorem dX3_fits_18 : decode cX3_fits 18 = .ok (.getfield 31, 3) := by decide +kernel
theorem dX3_fits_21 : decode cX3_fits 21 = .ok (.iload_n 2, 1) := by decide +kernel
theorem dX3_fits_22 : decode cX3_fits 22 = .ok (.ishr, 1) := by decide +kernel
theorem dX3_fits_23 : decode cX3_fits 23 = .ok (.iconst 1, 1) := by decide +kernel
theorem dX3_fits_24 : decode cX3_fits 24 = .ok (.iand, 1) := by decide +kernel
theorem dX3_fits_25 : decode cX3_fits 25 = .ok (.ifCond .eq 7, 3) := by decide +kernel
theorem dX3_fits_28 : decode cX3_fits 28 = .ok (.iconst 1, 1) := by decide +kernel
theorem dX3_fits_29 : decode cX3_fits 29 = .ok (.goto 4, 3) := by decide +kernel
theorem dX3_fits_32 : decode cX3_fits 32 = .ok (.iconst 0, 1) := by decide +kernel
theorem dX3_fits_33 : decode cX3_fits 33 = .ok (.istore 4, 2) := by decide +kernel
theorem dX3_fits_35 : decode cX3_fits 35 = .ok (.iload_n 0, 1) := by decide +kernel
theorem dX3_fits_36 : decode cX3_fits 36 = .ok (.iload_n 3, 1) := by decide +kernel
theorem dX3_fits_37 : decode cX3_fits 37 = .ok (.bipush 10, 2) := by decide +kernel
theorem dX3_fits_39 : decode cX3_fits 39 = .ok (.idiv, 1) := by decide +kernel
theorem dX3_fits_40 : decode cX3_fits 40 = .ok (.iload_n 3, 1) := by decide +kernel
theorem dX3_fits_41 : decode cX3_fits 41 = .ok (.bipush 10, 2) := by decide +kernel
theorem dX3_fits_43 : decode cX3_fits 43 = .ok (.irem, 1) := by decide +kernel
theorem dX3_fits_44 : decode cX3_fits 44 = .ok (.invokestatic 34, 3) := by decide +kernel
theorem dX3_fits_47 : decode cX3_fits 47 = .ok (.iload 4, 2) := by decide +kernel
theorem dX3_fits_49 : decode cX3_fits 49 = .ok (.if_icmp .eq 5, 3) := by decide +kernel
theorem dX3_fits_52 : decode cX3_fits 52 = .ok (.iconst 0, 1) := by decide +kernel
theorem dX3_fits_53 : decode cX3_fits 53 = .ok (.ireturn, 1) := by decide +kernel
theorem dX3_fits_54 : decode cX3_fits 54 = .ok (.iinc 2 1, 3) := by decide +kernel
theorem dX3_fits_57 : decode cX3_fits 57 = .ok (.goto (-55), 3) := by decide +kernel
theorem dX3_fits_60 : decode cX3_fits 60 = .ok (.iconst 1, 1) := by decide +kernel
theorem dX3_fits_61 : decode cX3_fits 61 = .ok (.ireturn, 1) := by decide +kernel
theorem dX3_makesSaint_0 : decode cX3_makesSaint 0 = .ok (.iload_n 1, 1) := by decide +kernel
theorem dX3_makesSaint_1 : decode cX3_makesSaint 1 = .ok (.iload_n 0, 1) := by decide +kernel
theorem dX3_makesSaint_2 : decode cX3_makesSaint 2 = .ok (.bipush 10, 2) := by decide +kernel
theorem dX3_makesSaint_4 : decode cX3_makesSaint 4 = .ok (.idiv, 1) := by decide +kernel
theorem dX3_makesSaint_5 : decode cX3_makesSaint 5 = .ok (.if_icmp .lt 15, 3) := by decide +kernel
theorem dX3_makesSaint_8 : decode cX3_makesSaint 8 = .ok (.iload_n 2, 1) := by decide +kernel
theorem dX3_makesSaint_9 : decode cX3_makesSaint 9 = .ok (.iload_n 0, 1) := by decide +kernel
theorem dX3_makesSaint_10 : decode cX3_makesSaint 10 = .ok (.bipush 10, 2) := by decide +kernel
theorem dX3_makesSaint_12 : decode cX3_makesSaint 12 = .ok (.irem, 1) := by decide +kernel
theorem dX3_makesSaint_13 : decode cX3_makesSaint 13 = .ok (.if_icmp .gt 7, 3) := by decide +kernel
theorem dX3_makesSaint_16 : decode cX3_makesSaint 16 = .ok (.iconst 1, 1) := by decide +kernel
theorem dX3_makesSaint_17 : decode cX3_makesSaint 17 = .ok (.goto 4, 3) := by decide +kernel
theorem dX3_makesSaint_20 : decode cX3_makesSaint 20 = .ok (.iconst 0, 1) := by decide +kernel
theorem dX3_makesSaint_21 : decode cX3_makesSaint 21 = .ok (.ireturn, 1) := by decide +kernel
theorem dX3_countThatMake_0 : decode cX3_countThatMake 0 = .ok (.iconst 0, 1) := by decide +kernel
theorem dX3_countThatMake_1 : decode cX3_countThatMake 1 = .ok (.istore_n 3, 1) := by decide +kernel
theorem dX3_countThatMake_2 : decode cX3_countThatMake 2 = .ok (.iconst 0, 1) := by decide +kernel
theorem dX3_countThatMake_3 : decode cX3_countThatMake 3 = .ok (.istore 4, 2) := by decide +kernel
theorem dX3_countThatMake_5 : decode cX3_countThatMake 5 = .ok (.iload 4, 2) := by decide +kernel
theorem dX3_countThatMake_7 : decode cX3_countThatMake 7 = .ok (.aload_n 0, 1) := by decide +kernel
theorem dX3_countThatMake_8 : decode cX3_countThatMake 8 = .ok (.getfield 15, 3) := by decide +kernel
theorem dX3_countThatMake_11 : decode cX3_countThatMake 11 = .ok (.if_icmp .ge 27, 3) := by decide +kernel
theorem dX3_countThatMake_14 : decode cX3_countThatMake 14 = .ok (.aload_n 0, 1) := by decide +kernel
theorem dX3_countThatMake_15 : decode cX3_countThatMake 15 = .ok (.getfield 9, 3) := by decide +kernel
theorem dX3_countThatMake_18 : decode cX3_countThatMake 18 = .ok (.iload 4, 2) := by decide +kernel
theorem dX3_countThatMake_20 : decode cX3_countThatMake 20 = .ok (.iaload, 1) := by decide +kernel
theorem dX3_countThatMake_21 : decode cX3_countThatMake 21 = .ok (.iload_n 1, 1) := by decide +kernel
theorem dX3_countThatMake_22 : decode cX3_countThatMake 22 = .ok (.iload_n 2, 1) := by decide +kernel
theorem dX3_countThatMake_23 : decode cX3_countThatMake 23 = .ok (.invokestatic 34, 3) := by decide +kernel
theorem dX3_countThatMake_26 : decode cX3_countThatMake 26 = .ok (.ifCond .eq 6, 3) := by decide +kernel
theorem dX3_countThatMake_29 : decode cX3_countThatMake 29 = .ok (.iinc 3 1, 3) := by decide +kernel
theorem dX3_countThatMake_32 : decode cX3_countThatMake 32 = .ok (.iinc 4 1, 3) := by decide +kernel
theorem dX3_countThatMake_35 : decode cX3_countThatMake 35 = .ok (.goto (-30), 3) := by decide +kernel
theorem dX3_countThatMake_38 : decode cX3_countThatMake 38 = .ok (.iload_n 3, 1) := by decide +kernel
theorem dX3_countThatMake_39 : decode cX3_countThatMake 39 = .ok (.ireturn, 1) := by decide +kernel
theorem dX4_init_0 : decode cX4_init 0 = .ok (.aload_n 0, 1) := by decide +kernel
theorem dX4_init_1 : decode cX4_init 1 = .ok (.invokespecial 3, 3) := by decide +kernel
theorem dX4_init_4 : decode cX4_init 4 = .ok (.aload_n 0, 1) := by decide +kernel
theorem dX4_init_5 : decode cX4_init 5 = .ok (.bipush 60, 2) := by decide +kernel
theorem dX4_init_7 : decode cX4_init 7 = .ok (.newarray .char, 2) := by decide +kernel
theorem dX4_init_9 : decode cX4_init 9 = .ok (.putfield 11, 3) := by decide +kernel
theorem dX4_init_12 : decode cX4_init 12 = .ok (.return_, 1) := by decide +kernel
theorem dX4_write_0 : decode cX4_write 0 = .ok (.aload_n 0, 1) := by decide +kernel
theorem dX4_write_1 : decode cX4_write 1 = .ok (.getfield 15, 3) := by decide +kernel
theorem dX4_write_4 : decode cX4_write 4 = .ok (.bipush 60, 2) := by decide +kernel
theorem dX4_write_6 : decode cX4_write 6 = .ok (.if_icmp .ge 23, 3) := by decide +kernel
theorem dX4_write_9 : decode cX4_write 9 = .ok (.aload_n 0, 1) := by decide +kernel
theorem dX4_write_10 : decode cX4_write 10 = .ok (.getfield 11, 3) := by decide +kernel
theorem dX4_write_13 : decode cX4_write 13 = .ok (.aload_n 0, 1) := by decide +kernel
theorem dX4_write_14 : decode cX4_write 14 = .ok (.getfield 15, 3) := by decide +kernel
theorem dX4_write_17 : decode cX4_write 17 = .ok (.iload_n 1, 1) := by decide +kernel
theorem dX4_write_18 : decode cX4_write 18 = .ok (.castore, 1) := by decide +kernel
theorem dX4_write_19 : decode cX4_write 19 = .ok (.aload_n 0, 1) := by decide +kernel
theorem dX4_write_20 : decode cX4_write 20 = .ok (.dup, 1) := by decide +kernel
theorem dX4_write_21 : decode cX4_write 21 = .ok (.getfield 15, 3) := by decide +kernel
theorem dX4_write_24 : decode cX4_write 24 = .ok (.iconst 1, 1) := by decide +kernel
theorem dX4_write_25 : decode cX4_write 25 = .ok (.iadd, 1) := by decide +kernel
theorem dX4_write_26 : decode cX4_write 26 = .ok (.putfield 15, 3) := by decide +kernel
theorem dX4_write_29 : decode cX4_write 29 = .ok (.return_, 1) := by decide +kernel
theorem dX4_firstFault_0 : decode cX4_firstFault 0 = .ok (.iconst 0, 1) := by decide +kernel
theorem dX4_firstFault_1 : decode cX4_firstFault 1 = .ok (.istore_n 1, 1) := by decide +kernel
theorem dX4_firstFault_2 : decode cX4_firstFault 2 = .ok (.iconst 0, 1) := by decide +kernel
theorem dX4_firstFault_3 : decode cX4_firstFault 3 = .ok (.istore_n 2, 1) := by decide +kernel
theorem dX4_firstFault_4 : decode cX4_firstFault 4 = .ok (.iload_n 2, 1) := by decide +kernel
theorem dX4_firstFault_5 : decode cX4_firstFault 5 = .ok (.aload_n 0, 1) := by decide +kernel
theorem dX4_firstFault_6 : decode cX4_firstFault 6 = .ok (.getfield 15, 3) := by decide +kernel
theorem dX4_firstFault_9 : decode cX4_firstFault 9 = .ok (.if_icmp .ge 26, 3) := by decide +kernel
theorem dX4_firstFault_12 : decode cX4_firstFault 12 = .ok (.iload_n 1, 1) := by decide +kernel
theorem dX4_firstFault_13 : decode cX4_firstFault 13 = .ok (.aload_n 0, 1) := by decide +kernel
theorem dX4_firstFault_14 : decode cX4_firstFault 14 = .ok (.iload_n 2, 1) := by decide +kernel
theorem dX4_firstFault_15 : decode cX4_firstFault 15 = .ok (.invokevirtual 19, 3) := by decide +kernel
theorem dX4_firstFault_18 : decode cX4_firstFault 18 = .ok (.invokestatic 23, 3) := by decide +kernel
theorem dX4_firstFault_21 : decode cX4_firstFault 21 = .ok (.istore_n 1, 1) := by decide +kernel
theorem dX4_firstFault_22 : decode cX4_firstFault 22 = .ok (.iload_n 1, 1) := by decide +kernel
theorem dX4_firstFault_23 : decode cX4_firstFault 23 = .ok (.iconst 5, 1) := by decide +kernel
theorem dX4_firstFault_24 : decode cX4_firstFault 24 = .ok (.if_icmp .ne 5, 3) := by decide +kernel
theorem dX4_firstFault_27 : decode cX4_firstFault 27 = .ok (.iload_n 2, 1) := by decide +kernel
theorem dX4_firstFault_28 : decode cX4_firstFault 28 = .ok (.ireturn, 1) := by decide +kernel
theorem dX4_firstFault_29 : decode cX4_firstFault 29 = .ok (.iinc 2 1, 3) := by decide +kernel
theorem dX4_firstFault_32 : decode cX4_firstFault 32 = .ok (.goto (-28), 3) := by decide +kernel
theorem dX4_firstFault_35 : decode cX4_firstFault 35 = .ok (.iload_n 1, 1) := by decide +kernel
theorem dX4_firstFault_36 : decode cX4_firstFault 36 = .ok (.ifCond .ne 8, 3) := by decide +kernel
theorem dX4_firstFault_39 : decode cX4_firstFault 39 = .ok (.bipush (-6), 2) := by decide +kernel
theorem dX4_firstFault_41 : decode cX4_firstFault 41 = .ok (.goto 7, 3) := by decide +kernel
theorem dX4_firstFault_44 : decode cX4_firstFault 44 = .ok (.aload_n 0, 1) := by decide +kernel
theorem dX4_firstFault_45 : decode cX4_firstFault 45 = .ok (.getfield 15, 3) := by decide +kernel
theorem dX4_firstFault_48 : decode cX4_firstFault 48 = .ok (.ireturn, 1) := by decide +kernel
theorem dX4_wantedAfter_0 : decode cX4_wantedAfter 0 = .ok (.iload_n 0, 1) := by decide +kernel
theorem dX4_wantedAfter_1 : decode cX4_wantedAfter 1 = .ok (.tableswitch 107 0 4 #[35, 40, 68, 81, 94], 35) := by decide +kernel
theorem dX4_wantedAfter_36 : decode cX4_wantedAfter 36 = .ok (.iload_n 1, 1) := by decide +kernel
theorem dX4_wantedAfter_37 : decode cX4_wantedAfter 37 = .ok (.invokestatic 27, 3) := by decide +kernel
theorem dX4_wantedAfter_40 : decode cX4_wantedAfter 40 = .ok (.ireturn, 1) := by decide +kernel
theorem dX4_wantedAfter_41 : decode cX4_wantedAfter 41 = .ok (.iload_n 1, 1) := by decide +kernel
theorem dX4_wantedAfter_42 : decode cX4_wantedAfter 42 = .ok (.bipush 48, 2) := by decide +kernel
theorem dX4_wantedAfter_44 : decode cX4_wantedAfter 44 = .ok (.bipush 55, 2) := by decide +kernel
theorem dX4_wantedAfter_46 : decode cX4_wantedAfter 46 = .ok (.invokestatic 31, 3) := by decide +kernel
theorem dX4_wantedAfter_49 : decode cX4_wantedAfter 49 = .ok (.ifCond .eq 5, 3) := by decide +kernel
theorem dX4_wantedAfter_52 : decode cX4_wantedAfter 52 = .ok (.iconst 2, 1) := by decide +kernel
theorem dX4_wantedAfter_53 : decode cX4_wantedAfter 53 = .ok (.ireturn, 1) := by decide +kernel
theorem dX4_wantedAfter_54 : decode cX4_wantedAfter 54 = .ok (.iload_n 1, 1) := by decide +kernel
theorem dX4_wantedAfter_55 : decode cX4_wantedAfter 55 = .ok (.invokestatic 35, 3) := by decide +kernel
theorem dX4_wantedAfter_58 : decode cX4_wantedAfter 58 = .ok (.bipush (-6), 2) := by decide +kernel
theorem dX4_wantedAfter_60 : decode cX4_wantedAfter 60 = .ok (.if_icmp .eq 7, 3) := by decide +kernel
theorem dX4_wantedAfter_63 : decode cX4_wantedAfter 63 = .ok (.iconst 0, 1) := by decide +kernel
theorem dX4_wantedAfter_64 : decode cX4_wantedAfter 64 = .ok (.goto 4, 3) := by decide +kernel
theorem dX4_wantedAfter_67 : decode cX4_wantedAfter 67 = .ok (.iconst 5, 1) := by decide +kernel
theorem dX4_wantedAfter_68 : decode cX4_wantedAfter 68 = .ok (.ireturn, 1) := by decide +kernel
theorem dX4_wantedAfter_69 : decode cX4_wantedAfter 69 = .ok (.iload_n 1, 1) := by decide +kernel
theorem dX4_wantedAfter_70 : decode cX4_wantedAfter 70 = .ok (.invokestatic 38, 3) := by decide +kernel
theorem dX4_wantedAfter_73 : decode cX4_wantedAfter 73 = .ok (.ifCond .eq 7, 3) := by decide +kernel
theorem dX4_wantedAfter_76 : decode cX4_wantedAfter 76 = .ok (.iconst 0, 1) := by decide +kernel
theorem dX4_wantedAfter_77 : decode cX4_wantedAfter 77 = .ok (.goto 4, 3) := by decide +kernel
theorem dX4_wantedAfter_80 : decode cX4_wantedAfter 80 = .ok (.iconst 5, 1) := by decide +kernel
theorem dX4_wantedAfter_81 : decode cX4_wantedAfter 81 = .ok (.ireturn, 1) := by decide +kernel
theorem dX4_wantedAfter_82 : decode cX4_wantedAfter 82 = .ok (.iload_n 1, 1) := by decide +kernel
theorem dX4_wantedAfter_83 : decode cX4_wantedAfter 83 = .ok (.invokestatic 38, 3) := by decide +kernel
theorem dX4_wantedAfter_86 : decode cX4_wantedAfter 86 = .ok (.ifCond .eq 7, 3) := by decide +kernel
theorem dX4_wantedAfter_89 : decode cX4_wantedAfter 89 = .ok (.iconst 4, 1) := by decide +kernel
theorem dX4_wantedAfter_90 : decode cX4_wantedAfter 90 = .ok (.goto 4, 3) := by decide +kernel
theorem dX4_wantedAfter_93 : decode cX4_wantedAfter 93 = .ok (.iconst 5, 1) := by decide +kernel
theorem dX4_wantedAfter_94 : decode cX4_wantedAfter 94 = .ok (.ireturn, 1) := by decide +kernel
theorem dX4_wantedAfter_95 : decode cX4_wantedAfter 95 = .ok (.iload_n 1, 1) := by decide +kernel
theorem dX4_wantedAfter_96 : decode cX4_wantedAfter 96 = .ok (.invokestatic 42, 3) := by decide +kernel
theorem dX4_wantedAfter_99 : decode cX4_wantedAfter 99 = .ok (.ifCond .eq 7, 3) := by decide +kernel
theorem dX4_wantedAfter_102 : decode cX4_wantedAfter 102 = .ok (.iconst 0, 1) := by decide +kernel
theorem dX4_wantedAfter_103 : decode cX4_wantedAfter 103 = .ok (.goto 4, 3) := by decide +kernel
theorem dX4_wantedAfter_106 : decode cX4_wantedAfter 106 = .ok (.iconst 5, 1) := by decide +kernel
theorem dX4_wantedAfter_107 : decode cX4_wantedAfter 107 = .ok (.ireturn, 1) := by decide +kernel
theorem dX4_wantedAfter_108 : decode cX4_wantedAfter 108 = .ok (.iconst 5, 1) := by decide +kernel
theorem dX4_wantedAfter_109 : decode cX4_wantedAfter 109 = .ok (.ireturn, 1) := by decide +kernel
theorem dX4_wantedAfterFirst_0 : decode cX4_wantedAfterFirst 0 = .ok (.iload_n 0, 1) := by decide +kernel
theorem dX4_wantedAfterFirst_1 : decode cX4_wantedAfterFirst 1 = .ok (.bipush 46, 2) := by decide +kernel
theorem dX4_wantedAfterFirst_3 : decode cX4_wantedAfterFirst 3 = .ok (.if_icmp .ne 5, 3) := by decide +kernel
theorem dX4_wantedAfterFirst_6 : decode cX4_wantedAfterFirst 6 = .ok (.iconst 0, 1) := by decide +kernel
theorem dX4_wantedAfterFirst_7 : decode cX4_wantedAfterFirst 7 = .ok (.ireturn, 1) := by decide +kernel
theorem dX4_wantedAfterFirst_8 : decode cX4_wantedAfterFirst 8 = .ok (.iload_n 0, 1) := by decide +kernel
theorem dX4_wantedAfterFirst_9 : decode cX4_wantedAfterFirst 9 = .ok (.bipush 102, 2) := by decide +kernel
theorem dX4_wantedAfterFirst_11 : decode cX4_wantedAfterFirst 11 = .ok (.if_icmp .ne 5, 3) := by decide +kernel
theorem dX4_wantedAfterFirst_14 : decode cX4_wantedAfterFirst 14 = .ok (.iconst 3, 1) := by decide +kernel
theorem dX4_wantedAfterFirst_15 : decode cX4_wantedAfterFirst 15 = .ok (.ireturn, 1) := by decide +kernel
theorem dX4_wantedAfterFirst_16 : decode cX4_wantedAfterFirst 16 = .ok (.iload_n 0, 1) := by decide +kernel
theorem dX4_wantedAfterFirst_17 : decode cX4_wantedAfterFirst 17 = .ok (.invokestatic 42, 3) := by decide +kernel
theorem dX4_wantedAfterFirst_20 : decode cX4_wantedAfterFirst 20 = .ok (.ifCond .eq 7, 3) := by decide +kernel
theorem dX4_wantedAfterFirst_23 : decode cX4_wantedAfterFirst 23 = .ok (.iconst 1, 1) := by decide +kernel
theorem dX4_wantedAfterFirst_24 : decode cX4_wantedAfterFirst 24 = .ok (.goto 4, 3) := by decide +kernel
theorem dX4_wantedAfterFirst_27 : decode cX4_wantedAfterFirst 27 = .ok (.iconst 5, 1) := by decide +kernel
theorem dX4_wantedAfterFirst_28 : decode cX4_wantedAfterFirst 28 = .ok (.ireturn, 1) := by decide +kernel
theorem dX4_isChild_0 : decode cX4_isChild 0 = .ok (.iload_n 0, 1) := by decide +kernel
theorem dX4_isChild_1 : decode cX4_isChild 1 = .ok (.bipush 65, 2) := by decide +kernel
theorem dX4_isChild_3 : decode cX4_isChild 3 = .ok (.bipush 70, 2) := by decide +kernel
theorem dX4_isChild_5 : decode cX4_isChild 5 = .ok (.invokestatic 31, 3) := by decide +kernel
theorem dX4_isChild_8 : decode cX4_isChild 8 = .ok (.ireturn, 1) := by decide +kernel
theorem dX4_isParish_0 : decode cX4_isParish 0 = .ok (.iload_n 0, 1) := by decide +kernel
theorem dX4_isParish_1 : decode cX4_isParish 1 = .ok (.bipush 97, 2) := by decide +kernel
theorem dX4_isParish_3 : decode cX4_isParish 3 = .ok (.bipush 100, 2) := by decide +kernel
theorem dX4_isParish_5 : decode cX4_isParish 5 = .ok (.invokestatic 31, 3) := by decide +kernel
theorem dX4_isParish_8 : decode cX4_isParish 8 = .ok (.ireturn, 1) := by decide +kernel
theorem dX4_deedKind_0 : decode cX4_deedKind 0 = .ok (.iload_n 0, 1) := by decide +kernel
theorem dX4_deedKind_1 : decode cX4_deedKind 1 = .ok (.lookupswitch 61 #[(101, 57), (112, 55), (115, 53), (119, 51), (120, 59)], 51) := by decide +kernel
theorem dX4_deedKind_52 : decode cX4_deedKind 52 = .ok (.iconst 0, 1) := by decide +kernel
theorem dX4_deedKind_53 : decode cX4_deedKind 53 = .ok (.ireturn, 1) := by decide +kernel
theorem dX4_deedKind_54 : decode cX4_deedKind 54 = .ok (.iconst 1, 1) := by decide +kernel
theorem dX4_deedKind_55 : decode cX4_deedKind 55 = .ok (.ireturn, 1) := by decide +kernel
theorem dX4_deedKind_56 : decode cX4_deedKind 56 = .ok (.iconst 2, 1) := by decide +kernel
theorem dX4_deedKind_57 : decode cX4_deedKind 57 = .ok (.ireturn, 1) := by decide +kernel
theorem dX4_deedKind_58 : decode cX4_deedKind 58 = .ok (.iconst 3, 1) := by decide +kernel
theorem dX4_deedKind_59 : decode cX4_deedKind 59 = .ok (.ireturn, 1) := by decide +kernel
theorem dX4_deedKind_60 : decode cX4_deedKind 60 = .ok (.iconst 4, 1) := by decide +kernel
theorem dX4_deedKind_61 : decode cX4_deedKind 61 = .ok (.ireturn, 1) := by decide +kernel
theorem dX4_deedKind_62 : decode cX4_deedKind 62 = .ok (.bipush (-6), 2) := by decide +kernel
theorem dX4_deedKind_64 : decode cX4_deedKind 64 = .ok (.ireturn, 1) := by decide +kernel
theorem dX4_signAt_0 : decode cX4_signAt 0 = .ok (.iload_n 1, 1) := by decide +kernel
theorem dX4_signAt_1 : decode cX4_signAt 1 = .ok (.iconst 0, 1) := by decide +kernel
theorem dX4_signAt_2 : decode cX4_signAt 2 = .ok (.aload_n 0, 1) := by decide +kernel
theorem dX4_signAt_3 : decode cX4_signAt 3 = .ok (.getfield 15, 3) := by decide +kernel
theorem dX4_signAt_6 : decode cX4_signAt 6 = .ok (.iconst 1, 1) := by decide +kernel
theorem dX4_signAt_7 : decode cX4_signAt 7 = .ok (.isub, 1) := by decide +kernel
theorem dX4_signAt_8 : decode cX4_signAt 8 = .ok (.invokestatic 31, 3) := by decide +kernel
theorem dX4_signAt_11 : decode cX4_signAt 11 = .ok (.ifCond .eq 12, 3) := by decide +kernel
theorem dX4_signAt_14 : decode cX4_signAt 14 = .ok (.aload_n 0, 1) := by decide +kernel
theorem dX4_signAt_15 : decode cX4_signAt 15 = .ok (.getfield 11, 3) := by decide +kernel
theorem dX4_signAt_18 : decode cX4_signAt 18 = .ok (.iload_n 1, 1) := by decide +kernel
theorem dX4_signAt_19 : decode cX4_signAt 19 = .ok (.caload, 1) := by decide +kernel
theorem dX4_signAt_20 : decode cX4_signAt 20 = .ok (.goto 5, 3) := by decide +kernel
theorem dX4_signAt_23 : decode cX4_signAt 23 = .ok (.bipush 46, 2) := by decide +kernel
theorem dX4_signAt_25 : decode cX4_signAt 25 = .ok (.ireturn, 1) := by decide +kernel
theorem dX4_readAct_0 : decode cX4_readAct 0 = .ok (.aload_n 0, 1) := by decide +kernel
theorem dX4_readAct_1 : decode cX4_readAct 1 = .ok (.iload_n 1, 1) := by decide +kernel
theorem dX4_readAct_2 : decode cX4_readAct 2 = .ok (.invokevirtual 19, 3) := by decide +kernel
theorem dX4_readAct_5 : decode cX4_readAct 5 = .ok (.istore_n 3, 1) := by decide +kernel
theorem dX4_readAct_6 : decode cX4_readAct 6 = .ok (.aload_n 0, 1) := by decide +kernel
theorem dX4_readAct_7 : decode cX4_readAct 7 = .ok (.iload_n 1, 1) := by decide +kernel
theorem dX4_readAct_8 : decode cX4_readAct 8 = .ok (.iconst 1, 1) := by decide +kernel
theorem dX4_readAct_9 : decode cX4_readAct 9 = .ok (.iadd, 1) := by decide +kernel
theorem dX4_readAct_10 : decode cX4_readAct 10 = .ok (.invokevirtual 19, 3) := by decide +kernel
theorem dX4_readAct_13 : decode cX4_readAct 13 = .ok (.istore 4, 2) := by decide +kernel
theorem dX4_readAct_15 : decode cX4_readAct 15 = .ok (.aload_n 0, 1) := by decide +kernel
theorem dX4_readAct_16 : decode cX4_readAct 16 = .ok (.iload_n 1, 1) := by decide +kernel
theorem dX4_readAct_17 : decode cX4_readAct 17 = .ok (.iconst 2, 1) := by decide +kernel
theorem dX4_readAct_18 : decode cX4_readAct 18 = .ok (.iadd, 1) := by decide +kernel
theorem dX4_readAct_19 : decode cX4_readAct 19 = .ok (.invokevirtual 19, 3) := by decide +kernel
theorem dX4_readAct_22 : decode cX4_readAct 22 = .ok (.istore 5, 2) := by decide +kernel
theorem dX4_readAct_24 : decode cX4_readAct 24 = .ok (.iload_n 3, 1) := by decide +kernel
theorem dX4_readAct_25 : decode cX4_readAct 25 = .ok (.bipush 46, 2) := by decide +kernel
theorem dX4_readAct_27 : decode cX4_readAct 27 = .ok (.if_icmp .ne 16, 3) := by decide +kernel
theorem dX4_readAct_30 : decode cX4_readAct 30 = .ok (.aload_n 2, 1) := by decide +kernel
theorem dX4_readAct_31 : decode cX4_readAct 31 = .ok (.bipush 7, 2) := by decide +kernel
theorem dX4_readAct_33 : decode cX4_readAct 33 = .ok (.iconst 0, 1) := by decide +kernel
theorem dX4_readAct_34 : decode cX4_readAct 34 = .ok (.iconst 0, 1) := by decide +kernel
theorem dX4_readAct_35 : decode cX4_readAct 35 = .ok (.iconst 0, 1) := by decide +kernel
theorem dX4_readAct_36 : decode cX4_readAct 36 = .ok (.invokevirtual 47, 3) := by decide +kernel
theorem dX4_readAct_39 : decode cX4_readAct 39 = .ok (.iload_n 1, 1) := by decide +kernel
theorem dX4_readAct_40 : decode cX4_readAct 40 = .ok (.iconst 1, 1) := by decide +kernel
theorem dX4_readAct_41 : decode cX4_readAct 41 = .ok (.iadd, 1) := by decide +kernel
theorem dX4_readAct_42 : decode cX4_readAct 42 = .ok (.ireturn, 1) := by decide +kernel
theorem dX4_readAct_43 : decode cX4_readAct 43 = .ok (.iload_n 3, 1) := by decide +kernel
theorem dX4_readAct_44 : decode cX4_readAct 44 = .ok (.bipush 102, 2) := by decide +kernel
theorem dX4_readAct_46 : decode cX4_readAct 46 = .ok (.if_icmp .ne 24, 3) := by decide +kernel
theorem dX4_readAct_49 : decode cX4_readAct 49 = .ok (.aload_n 2, 1) := by decide +kernel
theorem dX4_readAct_50 : decode cX4_readAct 50 = .ok (.bipush 6, 2) := by decide +kernel
theorem dX4_readAct_52 : decode cX4_readAct 52 = .ok (.iload 5, 2) := by decide +kernel
theorem dX4_readAct_54 : decode cX4_readAct 54 = .ok (.bipush 65, 2) := by decide +kernel
theorem dX4_readAct_56 : decode cX4_readAct 56 = .ok (.isub, 1) := by decide +kernel
theorem dX4_readAct_57 : decode cX4_readAct 57 = .ok (.iconst 0, 1) := by decide +kernel
theorem dX4_readAct_58 : decode cX4_readAct 58 = .ok (.iload 4, 2) := by decide +kernel
theorem dX4_readAct_60 : decode cX4_readAct 60 = .ok (.bipush 97, 2) := by decide +kernel
theorem dX4_readAct_62 : decode cX4_readAct 62 = .ok (.isub, 1) := by decide +kernel
theorem dX4_readAct_63 : decode cX4_readAct 63 = .ok (.invokevirtual 47, 3) := by decide +kernel
theorem dX4_readAct_66 : decode cX4_readAct 66 = .ok (.iload_n 1, 1) := by decide +kernel
theorem dX4_readAct_67 : decode cX4_readAct 67 = .ok (.iconst 3, 1) := by decide +kernel
theorem dX4_readAct_68 : decode cX4_readAct 68 = .ok (.iadd, 1) := by decide +kernel
theorem dX4_readAct_69 : decode cX4_readAct 69 = .ok (.ireturn, 1) := by decide +kernel
theorem dX4_readAct_70 : decode cX4_readAct 70 = .ok (.iload 4, 2) := by decide +kernel
theorem dX4_readAct_72 : decode cX4_readAct 72 = .ok (.invokestatic 35, 3) := by decide +kernel
theorem dX4_readAct_75 : decode cX4_readAct 75 = .ok (.istore 6, 2) := by decide +kernel
theorem dX4_readAct_77 : decode cX4_readAct 77 = .ok (.iload 6, 2) := by decide +kernel
theorem dX4_readAct_79 : decode cX4_readAct 79 = .ok (.bipush (-6), 2) := by decide +kernel
theorem dX4_readAct_81 : decode cX4_readAct 81 = .ok (.if_icmp .eq 19, 3) := by decide +kernel
theorem dX4_readAct_84 : decode cX4_readAct 84 = .ok (.aload_n 2, 1) := by decide +kernel
theorem dX4_readAct_85 : decode cX4_readAct 85 = .ok (.iload 6, 2) := by decide +kernel
theorem dX4_readAct_87 : decode cX4_readAct 87 = .ok (.iload_n 3, 1) := by decide +kernel
theorem dX4_readAct_88 : decode cX4_readAct 88 = .ok (.bipush 65, 2) := by decide +kernel
theorem dX4_readAct_90 : decode cX4_readAct 90 = .ok (.isub, 1) := by decide +kernel
theorem dX4_readAct_91 : decode cX4_readAct 91 = .ok (.iconst 0, 1) := by decide +kernel
theorem dX4_readAct_92 : decode cX4_readAct 92 = .ok (.iconst 0, 1) := by decide +kernel
theorem dX4_readAct_93 : decode cX4_readAct 93 = .ok (.invokevirtual 47, 3) := by decide +kernel
theorem dX4_readAct_96 : decode cX4_readAct 96 = .ok (.iload_n 1, 1) := by decide +kernel
theorem dX4_readAct_97 : decode cX4_readAct 97 = .ok (.iconst 2, 1) := by decide +kernel
theorem dX4_readAct_98 : decode cX4_readAct 98 = .ok (.iadd, 1) := by decide +kernel
theorem dX4_readAct_99 : decode cX4_readAct 99 = .ok (.ireturn, 1) := by decide +kernel
theorem dX4_readAct_100 : decode cX4_readAct 100 = .ok (.aload_n 2, 1) := by decide +kernel
theorem dX4_readAct_101 : decode cX4_readAct 101 = .ok (.iconst 5, 1) := by decide +kernel
theorem dX4_readAct_102 : decode cX4_readAct 102 = .ok (.iload_n 3, 1) := by decide +kernel
theorem dX4_readAct_103 : decode cX4_readAct 103 = .ok (.bipush 65, 2) := by decide +kernel
theorem dX4_readAct_105 : decode cX4_readAct 105 = .ok (.isub, 1) := by decide +kernel
theorem dX4_readAct_106 : decode cX4_readAct 106 = .ok (.iload 4, 2) := by decide +kernel
theorem dX4_readAct_108 : decode cX4_readAct 108 = .ok (.bipush 48, 2) := by decide +kernel
theorem dX4_readAct_110 : decode cX4_readAct 110 = .ok (.isub, 1) := by decide +kernel
theorem dX4_readAct_111 : decode cX4_readAct 111 = .ok (.iload 5, 2) := by decide +kernel
theorem dX4_readAct_113 : decode cX4_readAct 113 = .ok (.bipush 97, 2) := by decide +kernel
theorem dX4_readAct_115 : decode cX4_readAct 115 = .ok (.isub, 1) := by decide +kernel
theorem dX4_readAct_116 : decode cX4_readAct 116 = .ok (.invokevirtual 47, 3) := by decide +kernel
theorem dX4_readAct_119 : decode cX4_readAct 119 = .ok (.iload_n 1, 1) := by decide +kernel
theorem dX4_readAct_120 : decode cX4_readAct 120 = .ok (.iconst 3, 1) := by decide +kernel
theorem dX4_readAct_121 : decode cX4_readAct 121 = .ok (.iadd, 1) := by decide +kernel
theorem dX4_readAct_122 : decode cX4_readAct 122 = .ok (.ireturn, 1) := by decide +kernel
theorem dX5_init_0 : decode cX5_init 0 = .ok (.aload_n 0, 1) := by decide +kernel
theorem dX5_init_1 : decode cX5_init 1 = .ok (.invokespecial 3, 3) := by decide +kernel
theorem dX5_init_4 : decode cX5_init 4 = .ok (.aload_n 0, 1) := by decide +kernel
theorem dX5_init_5 : decode cX5_init 5 = .ok (.new 9, 3) := by decide +kernel
theorem dX5_init_8 : decode cX5_init 8 = .ok (.dup, 1) := by decide +kernel
theorem dX5_init_9 : decode cX5_init 9 = .ok (.invokespecial 11, 3) := by decide +kernel
theorem dX5_init_12 : decode cX5_init 12 = .ok (.putfield 12, 3) := by decide +kernel
theorem dX5_init_15 : decode cX5_init 15 = .ok (.return_, 1) := by decide +kernel
theorem dX5_live_0 : decode cX5_live 0 = .ok (.aload_n 0, 1) := by decide +kernel
theorem dX5_live_1 : decode cX5_live 1 = .ok (.invokevirtual 18, 3) := by decide +kernel
theorem dX5_live_4 : decode cX5_live 4 = .ok (.iconst 0, 1) := by decide +kernel
theorem dX5_live_5 : decode cX5_live 5 = .ok (.istore_n 3, 1) := by decide +kernel
theorem dX5_live_6 : decode cX5_live 6 = .ok (.iconst 0, 1) := by decide +kernel
theorem dX5_live_7 : decode cX5_live 7 = .ok (.istore 4, 2) := by decide +kernel
theorem dX5_live_9 : decode cX5_live 9 = .ok (.iload 4, 2) := by decide +kernel
theorem dX5_live_11 : decode cX5_live 11 = .ok (.bipush 60, 2) := by decide +kernel
theorem dX5_live_13 : decode cX5_live 13 = .ok (.if_icmp .ge 102, 3) := by decide +kernel
theorem dX5_live_16 : decode cX5_live 16 = .ok (.iload_n 3, 1) := by decide +kernel
theorem dX5_live_17 : decode cX5_live 17 = .ok (.aload_n 1, 1) := by decide +kernel
theorem dX5_live_18 : decode cX5_live 18 = .ok (.getfield 23, 3) := by decide +kernel
theorem dX5_live_21 : decode cX5_live 21 = .ok (.if_icmp .ge 94, 3) := by decide +kernel
theorem dX5_live_24 : decode cX5_live 24 = .ok (.aload_n 1, 1) := by decide +kernel
theorem dX5_live_25 : decode cX5_live 25 = .ok (.iload_n 3, 1) := by decide +kernel
theorem dX5_live_26 : decode cX5_live 26 = .ok (.aload_n 0, 1) := by decide +kernel
theorem dX5_live_27 : decode cX5_live 27 = .ok (.getfield 12, 3) := by decide +kernel
theorem dX5_live_30 : decode cX5_live 30 = .ok (.invokevirtual 27, 3) := by decide +kernel
theorem dX5_live_33 : decode cX5_live 33 = .ok (.istore_n 3, 1) := by decide +kernel
theorem dX5_live_34 : decode cX5_live 34 = .ok (.aload_n 2, 1) := by decide +kernel
theorem dX5_live_35 : decode cX5_live 35 = .ok (.aload_n 0, 1) := by decide +kernel
theorem dX5_live_36 : decode cX5_live 36 = .ok (.getfield 12, 3) := by decide +kernel
theorem dX5_live_39 : decode cX5_live 39 = .ok (.invokevirtual 31, 3) := by decide +kernel
theorem dX5_live_42 : decode cX5_live 42 = .ok (.istore 5, 2) := by decide +kernel
theorem dX5_live_44 : decode cX5_live 44 = .ok (.iload 5, 2) := by decide +kernel
theorem dX5_live_46 : decode cX5_live 46 = .ok (.ifCond .eq 18, 3) := by decide +kernel
theorem dX5_live_49 : decode cX5_live 49 = .ok (.aload_n 0, 1) := by decide +kernel
theorem dX5_live_50 : decode cX5_live 50 = .ok (.aload_n 0, 1) := by decide +kernel
theorem dX5_live_51 : decode cX5_live 51 = .ok (.getfield 37, 3) := by decide +kernel
theorem dX5_live_54 : decode cX5_live 54 = .ok (.putfield 40, 3) := by decide +kernel
theorem dX5_live_57 : decode cX5_live 57 = .ok (.aload_n 0, 1) := by decide +kernel
theorem dX5_live_58 : decode cX5_live 58 = .ok (.iload 5, 2) := by decide +kernel
theorem dX5_live_60 : decode cX5_live 60 = .ok (.putfield 43, 3) := by decide +kernel
theorem dX5_live_63 : decode cX5_live 63 = .ok (.return_, 1) := by decide +kernel
theorem dX5_live_64 : decode cX5_live 64 = .ok (.aload_n 2, 1) := by decide +kernel
theorem dX5_live_65 : decode cX5_live 65 = .ok (.aload_n 0, 1) := by decide +kernel
theorem dX5_live_66 : decode cX5_live 66 = .ok (.getfield 12, 3) := by decide +kernel
theorem dX5_live_69 : decode cX5_live 69 = .ok (.invokevirtual 46, 3) := by decide +kernel
theorem dX5_live_72 : decode cX5_live 72 = .ok (.aload_n 0, 1) := by decide +kernel
theorem dX5_live_73 : decode cX5_live 73 = .ok (.getfield 12, 3) := by decide +kernel
theorem dX5_live_76 : decode cX5_live 76 = .ok (.getfield 50, 3) := by decide +kernel
theorem dX5_live_79 : decode cX5_live 79 = .ok (.bipush 6, 2) := by decide +kernel
theorem dX5_live_81 : decode cX5_live 81 = .ok (.if_icmp .ne 18, 3) := by decide +kernel
theorem dX5_live_84 : decode cX5_live 84 = .ok (.aload_n 0, 1) := by decide +kernel
theorem dX5_live_85 : decode cX5_live 85 = .ok (.aload_n 2, 1) := by decide +kernel
theorem dX5_live_86 : decode cX5_live 86 = .ok (.aload_n 0, 1) := by decide +kernel
theorem dX5_live_87 : decode cX5_live 87 = .ok (.getfield 12, 3) := by decide +kernel
theorem dX5_live_90 : decode cX5_live 90 = .ok (.getfield 53, 3) := by decide +kernel
theorem dX5_live_93 : decode cX5_live 93 = .ok (.invokevirtual 56, 3) := by decide +kernel
theorem dX5_live_96 : decode cX5_live 96 = .ok (.invokevirtual 60, 3) := by decide +kernel
theorem dX5_live_99 : decode cX5_live 99 = .ok (.aload_n 0, 1) := by decide +kernel
theorem dX5_live_100 : decode cX5_live 100 = .ok (.dup, 1) := by decide +kernel
theorem dX5_live_101 : decode cX5_live 101 = .ok (.getfield 37, 3) := by decide +kernel
theorem dX5_live_104 : decode cX5_live 104 = .ok (.iconst 1, 1) := by decide +kernel
theorem dX5_live_105 : decode cX5_live 105 = .ok (.iadd, 1) := by decide +kernel
theorem dX5_live_106 : decode cX5_live 106 = .ok (.putfield 37, 3) := by decide +kernel
theorem dX5_live_109 : decode cX5_live 109 = .ok (.iinc 4 1, 3) := by decide +kernel
theorem dX5_live_112 : decode cX5_live 112 = .ok (.goto (-103), 3) := by decide +kernel
theorem dX5_live_115 : decode cX5_live 115 = .ok (.return_, 1) := by decide +kernel
theorem dX5_clear_0 : decode cX5_clear 0 = .ok (.aload_n 0, 1) := by decide +kernel
theorem dX5_clear_1 : decode cX5_clear 1 = .ok (.iconst 0, 1) := by decide +kernel
theorem dX5_clear_2 : decode cX5_clear 2 = .ok (.putfield 37, 3) := by decide +kernel
theorem dX5_clear_5 : decode cX5_clear 5 = .ok (.aload_n 0, 1) := by decide +kernel
theorem dX5_clear_6 : decode cX5_clear 6 = .ok (.bipush (-6), 2) := by decide +kernel
theorem dX5_clear_8 : decode cX5_clear 8 = .ok (.putfield 40, 3) := by decide +kernel
theorem dX5_clear_11 : decode cX5_clear 11 = .ok (.aload_n 0, 1) := by decide +kernel
theorem dX5_clear_12 : decode cX5_clear 12 = .ok (.bipush (-6), 2) := by decide +kernel
theorem dX5_clear_14 : decode cX5_clear 14 = .ok (.putfield 43, 3) := by decide +kernel
theorem dX5_clear_17 : decode cX5_clear 17 = .ok (.aload_n 0, 1) := by decide +kernel
theorem dX5_clear_18 : decode cX5_clear 18 = .ok (.iconst 0, 1) := by decide +kernel
theorem dX5_clear_19 : decode cX5_clear 19 = .ok (.putfield 64, 3) := by decide +kernel
theorem dX5_clear_22 : decode cX5_clear 22 = .ok (.aload_n 0, 1) := by decide +kernel
theorem dX5_clear_23 : decode cX5_clear 23 = .ok (.bipush (-6), 2) := by decide +kernel
theorem dX5_clear_25 : decode cX5_clear 25 = .ok (.putfield 67, 3) := by decide +kernel
theorem dX5_clear_28 : decode cX5_clear 28 = .ok (.aload_n 0, 1) := by decide +kernel
theorem dX5_clear_29 : decode cX5_clear 29 = .ok (.iconst 0, 1) := by decide +kernel
theorem dX5_clear_30 : decode cX5_clear 30 = .ok (.putfield 70, 3) := by decide +kernel
theorem dX5_clear_33 : decode cX5_clear 33 = .ok (.return_, 1) := by decide +kernel
theorem dX5_countFeast_0 : decode cX5_countFeast 0 = .ok (.aload_n 0, 1) := by decide +kernel
theorem dX5_countFeast_1 : decode cX5_countFeast 1 = .ok (.dup, 1) := by decide +kernel
theorem dX5_countFeast_2 : decode cX5_countFeast 2 = .ok (.getfield 64, 3) := by decide +kernel
theorem dX5_countFeast_5 : decode cX5_countFeast 5 = .ok (.iconst 1, 1) := by decide +kernel
theorem dX5_countFeast_6 : decode cX5_countFeast 6 = .ok (.iadd, 1) := by decide +kernel
theorem dX5_countFeast_7 : decode cX5_countFeast 7 = .ok (.putfield 64, 3) := by decide +kernel
theorem dX5_countFeast_10 : decode cX5_countFeast 10 = .ok (.iload_n 1, 1) := by decide +kernel
theorem dX5_countFeast_11 : decode cX5_countFeast 11 = .ok (.ifCond .ne 30, 3) := by decide +kernel
theorem dX5_countFeast_14 : decode cX5_countFeast 14 = .ok (.aload_n 0, 1) := by decide +kernel
theorem dX5_countFeast_15 : decode cX5_countFeast 15 = .ok (.dup, 1) := by decide +kernel
theorem dX5_countFeast_16 : decode cX5_countFeast 16 = .ok (.getfield 70, 3) := by decide +kernel
theorem dX5_countFeast_19 : decode cX5_countFeast 19 = .ok (.iconst 1, 1) := by decide +kernel
theorem dX5_countFeast_20 : decode cX5_countFeast 20 = .ok (.iadd, 1) := by decide +kernel
theorem dX5_countFeast_21 : decode cX5_countFeast 21 = .ok (.putfield 70, 3) := by decide +kernel
theorem dX5_countFeast_24 : decode cX5_countFeast 24 = .ok (.aload_n 0, 1) := by decide +kernel
theorem dX5_countFeast_25 : decode cX5_countFeast 25 = .ok (.getfield 67, 3) := by decide +kernel
theorem dX5_countFeast_28 : decode cX5_countFeast 28 = .ok (.bipush (-6), 2) := by decide +kernel
theorem dX5_countFeast_30 : decode cX5_countFeast 30 = .ok (.if_icmp .ne 11, 3) := by decide +kernel
theorem dX5_countFeast_33 : decode cX5_countFeast 33 = .ok (.aload_n 0, 1) := by decide +kernel
theorem dX5_countFeast_34 : decode cX5_countFeast 34 = .ok (.aload_n 0, 1) := by decide +kernel
theorem dX5_countFeast_35 : decode cX5_countFeast 35 = .ok (.getfield 37, 3) := by decide +kernel
theorem dX5_countFeast_38 : decode cX5_countFeast 38 = .ok (.putfield 67, 3) := by decide +kernel
theorem dX5_countFeast_41 : decode cX5_countFeast 41 = .ok (.return_, 1) := by decide +kernel
theorem dX6_init_0 : decode cX6_init 0 = .ok (.aload_n 0, 1) := by decide +kernel
theorem dX6_init_1 : decode cX6_init 1 = .ok (.invokespecial 1, 3) := by decide +kernel
theorem dX6_init_4 : decode cX6_init 4 = .ok (.aload_n 0, 1) := by decide +kernel
theorem dX6_init_5 : decode cX6_init 5 = .ok (.new 7, 3) := by decide +kernel
theorem dX6_init_8 : decode cX6_init 8 = .ok (.dup, 1) := by decide +kernel
theorem dX6_init_9 : decode cX6_init 9 = .ok (.invokespecial 9, 3) := by decide +kernel
theorem dX6_init_12 : decode cX6_init 12 = .ok (.putfield 10, 3) := by decide +kernel
theorem dX6_init_15 : decode cX6_init 15 = .ok (.aload_n 0, 1) := by decide +kernel
theorem dX6_init_16 : decode cX6_init 16 = .ok (.new 7, 3) := by decide +kernel
theorem dX6_init_19 : decode cX6_init 19 = .ok (.dup, 1) := by decide +kernel
theorem dX6_init_20 : decode cX6_init 20 = .ok (.invokespecial 9, 3) := by decide +kernel
theorem dX6_init_23 : decode cX6_init 23 = .ok (.putfield 16, 3) := by decide +kernel
theorem dX6_init_26 : decode cX6_init 26 = .ok (.aload_n 0, 1) := by decide +kernel
theorem dX6_init_27 : decode cX6_init 27 = .ok (.iconst 2, 1) := by decide +kernel
theorem dX6_init_28 : decode cX6_init 28 = .ok (.anewarray 7, 3) := by decide +kernel
theorem dX6_init_31 : decode cX6_init 31 = .ok (.putfield 19, 3) := by decide +kernel
theorem dX6_init_34 : decode cX6_init 34 = .ok (.aload_n 0, 1) := by decide +kernel
theorem dX6_init_35 : decode cX6_init 35 = .ok (.new 23, 3) := by decide +kernel
theorem dX6_init_38 : decode cX6_init 38 = .ok (.dup, 1) := by decide +kernel
theorem dX6_init_39 : decode cX6_init 39 = .ok (.invokespecial 25, 3) := by decide +kernel
theorem dX6_init_42 : decode cX6_init 42 = .ok (.putfield 26, 3) := by decide +kernel
theorem dX6_init_45 : decode cX6_init 45 = .ok (.aload_n 0, 1) := by decide +kernel
theorem dX6_init_46 : decode cX6_init 46 = .ok (.new 30, 3) := by decide +kernel
theorem dX6_init_49 : decode cX6_init 49 = .ok (.dup, 1) := by decide +kernel
theorem dX6_init_50 : decode cX6_init 50 = .ok (.invokespecial 32, 3) := by decide +kernel
theorem dX6_init_53 : decode cX6_init 53 = .ok (.putfield 33, 3) := by decide +kernel
theorem dX6_init_56 : decode cX6_init 56 = .ok (.aload_n 0, 1) := by decide +kernel
theorem dX6_init_57 : decode cX6_init 57 = .ok (.new 37, 3) := by decide +kernel
theorem dX6_init_60 : decode cX6_init 60 = .ok (.dup, 1) := by decide +kernel
theorem dX6_init_61 : decode cX6_init 61 = .ok (.invokespecial 39, 3) := by decide +kernel
theorem dX6_init_64 : decode cX6_init 64 = .ok (.putfield 40, 3) := by decide +kernel
theorem dX6_init_67 : decode cX6_init 67 = .ok (.aload_n 0, 1) := by decide +kernel
theorem dX6_init_68 : decode cX6_init 68 = .ok (.new 44, 3) := by decide +kernel
theorem dX6_init_71 : decode cX6_init 71 = .ok (.dup, 1) := by decide +kernel
theorem dX6_init_72 : decode cX6_init 72 = .ok (.invokespecial 46, 3) := by decide +kernel
theorem dX6_init_75 : decode cX6_init 75 = .ok (.putfield 47, 3) := by decide +kernel
theorem dX6_init_78 : decode cX6_init 78 = .ok (.aload_n 0, 1) := by decide +kernel
theorem dX6_init_79 : decode cX6_init 79 = .ok (.new 51, 3) := by decide +kernel
theorem dX6_init_82 : decode cX6_init 82 = .ok (.dup, 1) := by decide +kernel
theorem dX6_init_83 : decode cX6_init 83 = .ok (.invokespecial 53, 3) := by decide +kernel
theorem dX6_init_86 : decode cX6_init 86 = .ok (.putfield 54, 3) := by decide +kernel
theorem dX6_init_89 : decode cX6_init 89 = .ok (.return_, 1) := by decide +kernel
theorem dX6_child_0 : decode cX6_child 0 = .ok (.iload_n 1, 1) := by decide +kernel
theorem dX6_child_1 : decode cX6_child 1 = .ok (.iconst 0, 1) := by decide +kernel
theorem dX6_child_2 : decode cX6_child 2 = .ok (.iconst 5, 1) := by decide +kernel
theorem dX6_child_3 : decode cX6_child 3 = .ok (.invokestatic 58, 3) := by decide +kernel
theorem dX6_child_6 : decode cX6_child 6 = .ok (.ifCond .ne 5, 3) := by decide +kernel
theorem dX6_child_9 : decode cX6_child 9 = .ok (.iconst (-1), 1) := by decide +kernel
theorem dX6_child_10 : decode cX6_child 10 = .ok (.ireturn, 1) := by decide +kernel
theorem dX6_child_11 : decode cX6_child 11 = .ok (.iload_n 2, 1) := by decide +kernel
theorem dX6_child_12 : decode cX6_child 12 = .ok (.iconst 0, 1) := by decide +kernel
theorem dX6_child_13 : decode cX6_child 13 = .ok (.bipush 99, 2) := by decide +kernel
theorem dX6_child_15 : decode cX6_child 15 = .ok (.invokestatic 58, 3) := by decide +kernel
theorem dX6_child_18 : decode cX6_child 18 = .ok (.ifCond .eq 24, 3) := by decide +kernel
theorem dX6_child_21 : decode cX6_child 21 = .ok (.iload_n 3, 1) := by decide +kernel
theorem dX6_child_22 : decode cX6_child 22 = .ok (.iconst 0, 1) := by decide +kernel
theorem dX6_child_23 : decode cX6_child 23 = .ok (.bipush 99, 2) := by decide +kernel
theorem dX6_child_25 : decode cX6_child 25 = .ok (.invokestatic 58, 3) := by decide +kernel
theorem dX6_child_28 : decode cX6_child 28 = .ok (.ifCond .eq 14, 3) := by decide +kernel
theorem dX6_child_31 : decode cX6_child 31 = .ok (.iload 4, 2) := by decide +kernel
theorem dX6_child_33 : decode cX6_child 33 = .ok (.iconst 0, 1) := by decide +kernel
theorem dX6_child_34 : decode cX6_child 34 = .ok (.bipush 99, 2) := by decide +kernel
theorem dX6_child_36 : decode cX6_child 36 = .ok (.invokestatic 58, 3) := by decide +kernel
theorem dX6_child_39 : decode cX6_child 39 = .ok (.ifCond .ne 6, 3) := by decide +kernel
theorem dX6_child_42 : decode cX6_child 42 = .ok (.bipush (-2), 2) := by decide +kernel
theorem dX6_child_44 : decode cX6_child 44 = .ok (.ireturn, 1) := by decide +kernel
theorem dX6_child_45 : decode cX6_child 45 = .ok (.aload_n 0, 1) := by decide +kernel
theorem dX6_child_46 : decode cX6_child 46 = .ok (.getfield 10, 3) := by decide +kernel
theorem dX6_child_49 : decode cX6_child 49 = .ok (.iload_n 1, 1) := by decide +kernel
theorem dX6_child_50 : decode cX6_child 50 = .ok (.iload_n 2, 1) := by decide +kernel
theorem dX6_child_51 : decode cX6_child 51 = .ok (.iload_n 3, 1) := by decide +kernel
theorem dX6_child_52 : decode cX6_child 52 = .ok (.iload 4, 2) := by decide +kernel
theorem dX6_child_54 : decode cX6_child 54 = .ok (.invokevirtual 62, 3) := by decide +kernel
theorem dX6_child_57 : decode cX6_child 57 = .ok (.aload_n 0, 1) := by decide +kernel
theorem dX6_child_58 : decode cX6_child 58 = .ok (.getfield 10, 3) := by decide +kernel
theorem dX6_child_61 : decode cX6_child 61 = .ok (.getfield 66, 3) := by decide +kernel
theorem dX6_child_64 : decode cX6_child 64 = .ok (.invokestatic 70, 3) := by decide +kernel
theorem dX6_child_67 : decode cX6_child 67 = .ok (.ireturn, 1) := by decide +kernel
theorem dX6_leave_0 : decode cX6_leave 0 = .ok (.aload_n 0, 1) := by decide +kernel
theorem dX6_leave_1 : decode cX6_leave 1 = .ok (.getfield 10, 3) := by decide +kernel
theorem dX6_leave_4 : decode cX6_leave 4 = .ok (.iload_n 1, 1) := by decide +kernel
theorem dX6_leave_5 : decode cX6_leave 5 = .ok (.invokevirtual 76, 3) := by decide +kernel
theorem dX6_leave_8 : decode cX6_leave 8 = .ok (.ifCond .ne 5, 3) := by decide +kernel
theorem dX6_leave_11 : decode cX6_leave 11 = .ok (.iconst (-1), 1) := by decide +kernel
theorem dX6_leave_12 : decode cX6_leave 12 = .ok (.ireturn, 1) := by decide +kernel
theorem dX6_leave_13 : decode cX6_leave 13 = .ok (.aload_n 0, 1) := by decide +kernel
theorem dX6_leave_14 : decode cX6_leave 14 = .ok (.getfield 10, 3) := by decide +kernel
theorem dX6_leave_17 : decode cX6_leave 17 = .ok (.iload_n 1, 1) := by decide +kernel
theorem dX6_leave_18 : decode cX6_leave 18 = .ok (.invokevirtual 80, 3) := by decide +kernel
theorem dX6_leave_21 : decode cX6_leave 21 = .ok (.aload_n 0, 1) := by decide +kernel
theorem dX6_leave_22 : decode cX6_leave 22 = .ok (.getfield 10, 3) := by decide +kernel
theorem dX6_leave_25 : decode cX6_leave 25 = .ok (.getfield 66, 3) := by decide +kernel
theorem dX6_leave_28 : decode cX6_leave 28 = .ok (.invokestatic 70, 3) := by decide +kernel
theorem dX6_leave_31 : decode cX6_leave 31 = .ok (.ireturn, 1) := by decide +kernel
theorem dX6_law_0 : decode cX6_law 0 = .ok (.iload_n 1, 1) := by decide +kernel
theorem dX6_law_1 : decode cX6_law 1 = .ok (.iconst 0, 1) := by decide +kernel
theorem dX6_law_2 : decode cX6_law 2 = .ok (.iconst 2, 1) := by decide +kernel
theorem dX6_law_3 : decode cX6_law 3 = .ok (.invokestatic 58, 3) := by decide +kernel
theorem dX6_law_6 : decode cX6_law 6 = .ok (.ifCond .eq 13, 3) := by decide +kernel
theorem dX6_law_9 : decode cX6_law 9 = .ok (.iload_n 2, 1) := by decide +kernel
theorem dX6_law_10 : decode cX6_law 10 = .ok (.iconst 0, 1) := by decide +kernel
theorem dX6_law_11 : decode cX6_law 11 = .ok (.bipush 9, 2) := by decide +kernel
theorem dX6_law_13 : decode cX6_law 13 = .ok (.invokestatic 58, 3) := by decide +kernel
theorem dX6_law_16 : decode cX6_law 16 = .ok (.ifCond .ne 6, 3) := by decide +kernel
theorem dX6_law_19 : decode cX6_law 19 = .ok (.bipush (-2), 2) := by decide +kernel
theorem dX6_law_21 : decode cX6_law 21 = .ok (.ireturn, 1) := by decide +kernel
theorem dX6_law_22 : decode cX6_law 22 = .ok (.aload_n 0, 1) := by decide +kernel
theorem dX6_law_23 : decode cX6_law 23 = .ok (.getfield 10, 3) := by decide +kernel
theorem dX6_law_26 : decode cX6_law 26 = .ok (.getfield 84, 3) := by decide +kernel
theorem dX6_law_29 : decode cX6_law 29 = .ok (.iload_n 1, 1) := by decide +kernel
theorem dX6_law_30 : decode cX6_law 30 = .ok (.iaload, 1) := by decide +kernel
theorem dX6_law_31 : decode cX6_law 31 = .ok (.istore_n 3, 1) := by decide +kernel
theorem dX6_law_32 : decode cX6_law 32 = .ok (.aload_n 0, 1) := by decide +kernel
theorem dX6_law_33 : decode cX6_law 33 = .ok (.getfield 10, 3) := by decide +kernel
theorem dX6_law_36 : decode cX6_law 36 = .ok (.getfield 84, 3) := by decide +kernel
theorem dX6_law_39 : decode cX6_law 39 = .ok (.iload_n 1, 1) := by decide +kernel
theorem dX6_law_40 : decode cX6_law 40 = .ok (.iload_n 2, 1) := by decide +kernel
theorem dX6_law_41 : decode cX6_law 41 = .ok (.iastore, 1) := by decide +kernel
theorem dX6_law_42 : decode cX6_law 42 = .ok (.iload_n 3, 1) := by decide +kernel
theorem dX6_law_43 : decode cX6_law 43 = .ok (.ireturn, 1) := by decide +kernel
theorem dX6_purse_0 : decode cX6_purse 0 = .ok (.iload_n 1, 1) := by decide +kernel
theorem dX6_purse_1 : decode cX6_purse 1 = .ok (.iconst 0, 1) := by decide +kernel
theorem dX6_purse_2 : decode cX6_purse 2 = .ok (.iconst 3, 1) := by decide +kernel
theorem dX6_purse_3 : decode cX6_purse 3 = .ok (.invokestatic 58, 3) := by decide +kernel
theorem dX6_purse_6 : decode cX6_purse 6 = .ok (.ifCond .ne 5, 3) := by decide +kernel
theorem dX6_purse_9 : decode cX6_purse 9 = .ok (.iconst (-1), 1) := by decide +kernel
theorem dX6_purse_10 : decode cX6_purse 10 = .ok (.ireturn, 1) := by decide +kernel
theorem dX6_purse_11 : decode cX6_purse 11 = .ok (.iload_n 2, 1) := by decide +kernel
theorem dX6_purse_12 : decode cX6_purse 12 = .ok (.iconst 0, 1) := by decide +kernel
theorem dX6_purse_13 : decode cX6_purse 13 = .ok (.sipush 999, 3) := by decide +kernel
theorem dX6_purse_16 : decode cX6_purse 16 = .ok (.invokestatic 58, 3) := by decide +kernel
theorem dX6_purse_19 : decode cX6_purse 19 = .ok (.ifCond .ne 6, 3) := by decide +kernel
theorem dX6_purse_22 : decode cX6_purse 22 = .ok (.bipush (-2), 2) := by decide +kernel
theorem dX6_purse_24 : decode cX6_purse 24 = .ok (.ireturn, 1) := by decide +kernel
theorem dX6_purse_25 : decode cX6_purse 25 = .ok (.aload_n 0, 1) := by decide +kernel
theorem dX6_purse_26 : decode cX6_purse 26 = .ok (.getfield 10, 3) := by decide +kernel
theorem dX6_purse_29 : decode cX6_purse 29 = .ok (.getfield 88, 3) := by decide +kernel
theorem dX6_purse_32 : decode cX6_purse 32 = .ok (.iload_n 1, 1) := by decide +kernel
theorem dX6_purse_33 : decode cX6_purse 33 = .ok (.iaload, 1) := by decide +kernel
theorem dX6_purse_34 : decode cX6_purse 34 = .ok (.istore_n 3, 1) := by decide +kernel
theorem dX6_purse_35 : decode cX6_purse 35 = .ok (.aload_n 0, 1) := by decide +kernel
theorem dX6_purse_36 : decode cX6_purse 36 = .ok (.getfield 10, 3) := by decide +kernel
theorem dX6_purse_39 : decode cX6_purse 39 = .ok (.getfield 88, 3) := by decide +kernel
theorem dX6_purse_42 : decode cX6_purse 42 = .ok (.iload_n 1, 1) := by decide +kernel
theorem dX6_purse_43 : decode cX6_purse 43 = .ok (.iload_n 2, 1) := by decide +kernel
theorem dX6_purse_44 : decode cX6_purse 44 = .ok (.iastore, 1) := by decide +kernel
theorem dX6_purse_45 : decode cX6_purse 45 = .ok (.iload_n 3, 1) := by decide +kernel
theorem dX6_purse_46 : decode cX6_purse 46 = .ok (.ireturn, 1) := by decide +kernel
theorem dX6_offer_0 : decode cX6_offer 0 = .ok (.iload_n 1, 1) := by decide +kernel
theorem dX6_offer_1 : decode cX6_offer 1 = .ok (.iconst 0, 1) := by decide +kernel
theorem dX6_offer_2 : decode cX6_offer 2 = .ok (.iconst 5, 1) := by decide +kernel
theorem dX6_offer_3 : decode cX6_offer 3 = .ok (.invokestatic 58, 3) := by decide +kernel
theorem dX6_offer_6 : decode cX6_offer 6 = .ok (.ifCond .ne 5, 3) := by decide +kernel
theorem dX6_offer_9 : decode cX6_offer 9 = .ok (.iconst (-1), 1) := by decide +kernel
theorem dX6_offer_10 : decode cX6_offer 10 = .ok (.ireturn, 1) := by decide +kernel
theorem dX6_offer_11 : decode cX6_offer 11 = .ok (.iload_n 2, 1) := by decide +kernel
theorem dX6_offer_12 : decode cX6_offer 12 = .ok (.iconst 0, 1) := by decide +kernel
theorem dX6_offer_13 : decode cX6_offer 13 = .ok (.bipush 99, 2) := by decide +kernel
theorem dX6_offer_15 : decode cX6_offer 15 = .ok (.invokestatic 58, 3) := by decide +kernel
theorem dX6_offer_18 : decode cX6_offer 18 = .ok (.ifCond .eq 26, 3) := by decide +kernel
theorem dX6_offer_21 : decode cX6_offer 21 = .ok (.iload_n 3, 1) := by decide +kernel
theorem dX6_offer_22 : decode cX6_offer 22 = .ok (.iconst 0, 1) := by decide +kernel
theorem dX6_offer_23 : decode cX6_offer 23 = .ok (.sipush 999, 3) := by decide +kernel
theorem dX6_offer_26 : decode cX6_offer 26 = .ok (.invokestatic 58, 3) := by decide +kernel
theorem dX6_offer_29 : decode cX6_offer 29 = .ok (.ifCond .eq 15, 3) := by decide +kernel
theorem dX6_offer_32 : decode cX6_offer 32 = .ok (.iload 4, 2) := by decide +kernel
theorem dX6_offer_34 : decode cX6_offer 34 = .ok (.iconst 0, 1) := by decide +kernel
theorem dX6_offer_35 : decode cX6_offer 35 = .ok (.sipush 4095, 3) := by decide +kernel
theorem dX6_offer_38 : decode cX6_offer 38 = .ok (.invokestatic 58, 3) := by decide +kernel
theorem dX6_offer_41 : decode cX6_offer 41 = .ok (.ifCond .ne 6, 3) := by decide +kernel
theorem dX6_offer_44 : decode cX6_offer 44 = .ok (.bipush (-2), 2) := by decide +kernel
theorem dX6_offer_46 : decode cX6_offer 46 = .ok (.ireturn, 1) := by decide +kernel
theorem dX6_offer_47 : decode cX6_offer 47 = .ok (.aload_n 0, 1) := by decide +kernel
theorem dX6_offer_48 : decode cX6_offer 48 = .ok (.getfield 10, 3) := by decide +kernel
theorem dX6_offer_51 : decode cX6_offer 51 = .ok (.getfield 91, 3) := by decide +kernel
theorem dX6_offer_54 : decode cX6_offer 54 = .ok (.iload_n 1, 1) := by decide +kernel
theorem dX6_offer_55 : decode cX6_offer 55 = .ok (.iaload, 1) := by decide +kernel
theorem dX6_offer_56 : decode cX6_offer 56 = .ok (.istore 5, 2) := by decide +kernel
theorem dX6_offer_58 : decode cX6_offer 58 = .ok (.aload_n 0, 1) := by decide +kernel
theorem dX6_offer_59 : decode cX6_offer 59 = .ok (.getfield 10, 3) := by decide +kernel
theorem dX6_offer_62 : decode cX6_offer 62 = .ok (.getfield 94, 3) := by decide +kernel
theorem dX6_offer_65 : decode cX6_offer 65 = .ok (.iload_n 1, 1) := by decide +kernel
theorem dX6_offer_66 : decode cX6_offer 66 = .ok (.iload_n 2, 1) := by decide +kernel
theorem dX6_offer_67 : decode cX6_offer 67 = .ok (.iastore, 1) := by decide +kernel
theorem dX6_offer_68 : decode cX6_offer 68 = .ok (.aload_n 0, 1) := by decide +kernel
theorem dX6_offer_69 : decode cX6_offer 69 = .ok (.getfield 10, 3) := by decide +kernel
theorem dX6_offer_72 : decode cX6_offer 72 = .ok (.getfield 97, 3) := by decide +kernel
theorem dX6_offer_75 : decode cX6_offer 75 = .ok (.iload_n 1, 1) := by decide +kernel
theorem dX6_offer_76 : decode cX6_offer 76 = .ok (.iload_n 3, 1) := by decide +kernel
theorem dX6_offer_77 : decode cX6_offer 77 = .ok (.iastore, 1) := by decide +kernel
theorem dX6_offer_78 : decode cX6_offer 78 = .ok (.aload_n 0, 1) := by decide +kernel
theorem dX6_offer_79 : decode cX6_offer 79 = .ok (.getfield 10, 3) := by decide +kernel
theorem dX6_offer_82 : decode cX6_offer 82 = .ok (.getfield 91, 3) := by decide +kernel
theorem dX6_offer_85 : decode cX6_offer 85 = .ok (.iload_n 1, 1) := by decide +kernel
theorem dX6_offer_86 : decode cX6_offer 86 = .ok (.iload 4, 2) := by decide +kernel
theorem dX6_offer_88 : decode cX6_offer 88 = .ok (.iastore, 1) := by decide +kernel
theorem dX6_offer_89 : decode cX6_offer 89 = .ok (.iload 5, 2) := by decide +kernel
theorem dX6_offer_91 : decode cX6_offer 91 = .ok (.ireturn, 1) := by decide +kernel
theorem dX6_witness_0 : decode cX6_witness 0 = .ok (.iload_n 1, 1) := by decide +kernel
theorem dX6_witness_1 : decode cX6_witness 1 = .ok (.iconst 0, 1) := by decide +kernel
theorem dX6_witness_2 : decode cX6_witness 2 = .ok (.bipush 7, 2) := by decide +kernel
theorem dX6_witness_4 : decode cX6_witness 4 = .ok (.invokestatic 58, 3) := by decide +kernel
theorem dX6_witness_7 : decode cX6_witness 7 = .ok (.ifCond .ne 5, 3) := by decide +kernel
theorem dX6_witness_10 : decode cX6_witness 10 = .ok (.iconst (-1), 1) := by decide +kernel
theorem dX6_witness_11 : decode cX6_witness 11 = .ok (.ireturn, 1) := by decide +kernel
theorem dX6_witness_12 : decode cX6_witness 12 = .ok (.iload_n 2, 1) := by decide +kernel
theorem dX6_witness_13 : decode cX6_witness 13 = .ok (.iconst 0, 1) := by decide +kernel
theorem dX6_witness_14 : decode cX6_witness 14 = .ok (.sipush 1023, 3) := by decide +kernel
theorem dX6_witness_17 : decode cX6_witness 17 = .ok (.invokestatic 58, 3) := by decide +kernel
theorem dX6_witness_20 : decode cX6_witness 20 = .ok (.ifCond .ne 6, 3) := by decide +kernel
theorem dX6_witness_23 : decode cX6_witness 23 = .ok (.bipush (-2), 2) := by decide +kernel
theorem dX6_witness_25 : decode cX6_witness 25 = .ok (.ireturn, 1) := by decide +kernel
theorem dX6_witness_26 : decode cX6_witness 26 = .ok (.aload_n 0, 1) := by decide +kernel
theorem dX6_witness_27 : decode cX6_witness 27 = .ok (.getfield 10, 3) := by decide +kernel
theorem dX6_witness_30 : decode cX6_witness 30 = .ok (.getfield 100, 3) := by decide +kernel
theorem dX6_witness_33 : decode cX6_witness 33 = .ok (.iload_n 1, 1) := by decide +kernel
theorem dX6_witness_34 : decode cX6_witness 34 = .ok (.iaload, 1) := by decide +kernel
theorem dX6_witness_35 : decode cX6_witness 35 = .ok (.istore_n 3, 1) := by decide +kernel
theorem dX6_witness_36 : decode cX6_witness 36 = .ok (.aload_n 0, 1) := by decide +kernel
theorem dX6_witness_37 : decode cX6_witness 37 = .ok (.getfield 10, 3) := by decide +kernel
theorem dX6_witness_40 : decode cX6_witness 40 = .ok (.getfield 100, 3) := by decide +kernel
theorem dX6_witness_43 : decode cX6_witness 43 = .ok (.iload_n 1, 1) := by decide +kernel
theorem dX6_witness_44 : decode cX6_witness 44 = .ok (.iload_n 2, 1) := by decide +kernel
theorem dX6_witness_45 : decode cX6_witness 45 = .ok (.iastore, 1) := by decide +kernel
theorem dX6_witness_46 : decode cX6_witness 46 = .ok (.iload_n 3, 1) := by decide +kernel
theorem dX6_witness_47 : decode cX6_witness 47 = .ok (.ireturn, 1) := by decide +kernel
theorem dX6_say_0 : decode cX6_say 0 = .ok (.iload_n 1, 1) := by decide +kernel
theorem dX6_say_1 : decode cX6_say 1 = .ok (.bipush 33, 2) := by decide +kernel
theorem dX6_say_3 : decode cX6_say 3 = .ok (.bipush 126, 2) := by decide +kernel
theorem dX6_say_5 : decode cX6_say 5 = .ok (.invokestatic 58, 3) := by decide +kernel
theorem dX6_say_8 : decode cX6_say 8 = .ok (.ifCond .ne 6, 3) := by decide +kernel
theorem dX6_say_11 : decode cX6_say 11 = .ok (.bipush (-2), 2) := by decide +kernel
theorem dX6_say_13 : decode cX6_say 13 = .ok (.ireturn, 1) := by decide +kernel
theorem dX6_say_14 : decode cX6_say 14 = .ok (.aload_n 0, 1) := by decide +kernel
theorem dX6_say_15 : decode cX6_say 15 = .ok (.getfield 26, 3) := by decide +kernel
theorem dX6_say_18 : decode cX6_say 18 = .ok (.getfield 103, 3) := by decide +kernel
theorem dX6_say_21 : decode cX6_say 21 = .ok (.bipush 60, 2) := by decide +kernel
theorem dX6_say_23 : decode cX6_say 23 = .ok (.if_icmp .lt 6, 3) := by decide +kernel
theorem dX6_say_26 : decode cX6_say 26 = .ok (.bipush (-4), 2) := by decide +kernel
theorem dX6_say_28 : decode cX6_say 28 = .ok (.ireturn, 1) := by decide +kernel
theorem dX6_say_29 : decode cX6_say 29 = .ok (.aload_n 0, 1) := by decide +kernel
theorem dX6_say_30 : decode cX6_say 30 = .ok (.getfield 26, 3) := by decide +kernel
theorem dX6_say_33 : decode cX6_say 33 = .ok (.iload_n 1, 1) := by decide +kernel
theorem dX6_say_34 : decode cX6_say 34 = .ok (.i2c, 1) := by decide +kernel
theorem dX6_say_35 : decode cX6_say 35 = .ok (.invokevirtual 106, 3) := by decide +kernel
theorem dX6_say_38 : decode cX6_say 38 = .ok (.aload_n 0, 1) := by decide +kernel
theorem dX6_say_39 : decode cX6_say 39 = .ok (.getfield 26, 3) := by decide +kernel
theorem dX6_say_42 : decode cX6_say 42 = .ok (.getfield 103, 3) := by decide +kernel
theorem dX6_say_45 : decode cX6_say 45 = .ok (.ireturn, 1) := by decide +kernel
theorem dX6_wipe_0 : decode cX6_wipe 0 = .ok (.aload_n 0, 1) := by decide +kernel
theorem dX6_wipe_1 : decode cX6_wipe 1 = .ok (.getfield 26, 3) := by decide +kernel
theorem dX6_wipe_4 : decode cX6_wipe 4 = .ok (.getfield 103, 3) := by decide +kernel
theorem dX6_wipe_7 : decode cX6_wipe 7 = .ok (.istore_n 1, 1) := by decide +kernel
theorem dX6_wipe_8 : decode cX6_wipe 8 = .ok (.aload_n 0, 1) := by decide +kernel
theorem dX6_wipe_9 : decode cX6_wipe 9 = .ok (.getfield 26, 3) := by decide +kernel
theorem dX6_wipe_12 : decode cX6_wipe 12 = .ok (.iconst 0, 1) := by decide +kernel
theorem dX6_wipe_13 : decode cX6_wipe 13 = .ok (.putfield 103, 3) := by decide +kernel
theorem dX6_wipe_16 : decode cX6_wipe 16 = .ok (.iload_n 1, 1) := by decide +kernel
theorem dX6_wipe_17 : decode cX6_wipe 17 = .ok (.ireturn, 1) := by decide +kernel
theorem dX6_fault_0 : decode cX6_fault 0 = .ok (.aload_n 0, 1) := by decide +kernel
theorem dX6_fault_1 : decode cX6_fault 1 = .ok (.getfield 26, 3) := by decide +kernel
theorem dX6_fault_4 : decode cX6_fault 4 = .ok (.invokevirtual 110, 3) := by decide +kernel
theorem dX6_fault_7 : decode cX6_fault 7 = .ok (.ireturn, 1) := by decide +kernel
theorem dX6_judge_0 : decode cX6_judge 0 = .ok (.iload_n 1, 1) := by decide +kernel
theorem dX6_judge_1 : decode cX6_judge 1 = .ok (.iconst 0, 1) := by decide +kernel
theorem dX6_judge_2 : decode cX6_judge 2 = .ok (.iconst 2, 1) := by decide +kernel
theorem dX6_judge_3 : decode cX6_judge 3 = .ok (.invokestatic 58, 3) := by decide +kernel
theorem dX6_judge_6 : decode cX6_judge 6 = .ok (.ifCond .ne 6, 3) := by decide +kernel
theorem dX6_judge_9 : decode cX6_judge 9 = .ok (.bipush (-2), 2) := by decide +kernel
theorem dX6_judge_11 : decode cX6_judge 11 = .ok (.ireturn, 1) := by decide +kernel
theorem dX6_judge_12 : decode cX6_judge 12 = .ok (.aload_n 0, 1) := by decide +kernel
theorem dX6_judge_13 : decode cX6_judge 13 = .ok (.invokevirtual 114, 3) := by decide +kernel
theorem dX6_judge_16 : decode cX6_judge 16 = .ok (.istore_n 2, 1) := by decide +kernel
theorem dX6_judge_17 : decode cX6_judge 17 = .ok (.iload_n 2, 1) := by decide +kernel
theorem dX6_judge_18 : decode cX6_judge 18 = .ok (.bipush (-5), 2) := by decide +kernel
theorem dX6_judge_20 : decode cX6_judge 20 = .ok (.if_icmp .eq 14, 3) := by decide +kernel
theorem dX6_judge_23 : decode cX6_judge 23 = .ok (.iload_n 1, 1) := by decide +kernel
theorem dX6_judge_24 : decode cX6_judge 24 = .ok (.iconst 2, 1) := by decide +kernel
theorem dX6_judge_25 : decode cX6_judge 25 = .ok (.if_icmp .ne 11, 3) := by decide +kernel
theorem dX6_judge_28 : decode cX6_judge 28 = .ok (.iload_n 2, 1) := by decide +kernel
theorem dX6_judge_29 : decode cX6_judge 29 = .ok (.bipush (-3), 2) := by decide +kernel
theorem dX6_judge_31 : decode cX6_judge 31 = .ok (.if_icmp .ne 5, 3) := by decide +kernel
theorem dX6_judge_34 : decode cX6_judge 34 = .ok (.iload_n 2, 1) := by decide +kernel
theorem dX6_judge_35 : decode cX6_judge 35 = .ok (.ireturn, 1) := by decide +kernel
theorem dX6_judge_36 : decode cX6_judge 36 = .ok (.iload_n 1, 1) := by decide +kernel
theorem dX6_judge_37 : decode cX6_judge 37 = .ok (.ifCond .ne 11, 3) := by decide +kernel
theorem dX6_judge_40 : decode cX6_judge 40 = .ok (.aload_n 0, 1) := by decide +kernel
theorem dX6_judge_41 : decode cX6_judge 41 = .ok (.getfield 33, 3) := by decide +kernel
theorem dX6_judge_44 : decode cX6_judge 44 = .ok (.getfield 117, 3) := by decide +kernel
theorem dX6_judge_47 : decode cX6_judge 47 = .ok (.ireturn, 1) := by decide +kernel
theorem dX6_judge_48 : decode cX6_judge 48 = .ok (.iload_n 1, 1) := by decide +kernel
theorem dX6_judge_49 : decode cX6_judge 49 = .ok (.iconst 1, 1) := by decide +kernel
theorem dX6_judge_50 : decode cX6_judge 50 = .ok (.if_icmp .ne 13, 3) := by decide +kernel
theorem dX6_judge_53 : decode cX6_judge 53 = .ok (.aload_n 0, 1) := by decide +kernel
theorem dX6_judge_54 : decode cX6_judge 54 = .ok (.getfield 33, 3) := by decide +kernel
theorem dX6_judge_57 : decode cX6_judge 57 = .ok (.getfield 120, 3) := by decide +kernel
theorem dX6_judge_60 : decode cX6_judge 60 = .ok (.goto 10, 3) := by decide +kernel
theorem dX6_judge_63 : decode cX6_judge 63 = .ok (.aload_n 0, 1) := by decide +kernel
theorem dX6_judge_64 : decode cX6_judge 64 = .ok (.getfield 33, 3) := by decide +kernel
theorem dX6_judge_67 : decode cX6_judge 67 = .ok (.getfield 123, 3) := by decide +kernel
theorem dX6_judge_70 : decode cX6_judge 70 = .ok (.ireturn, 1) := by decide +kernel
theorem dX6_behind_0 : decode cX6_behind 0 = .ok (.aload_n 0, 1) := by decide +kernel
theorem dX6_behind_1 : decode cX6_behind 1 = .ok (.getfield 10, 3) := by decide +kernel
theorem dX6_behind_4 : decode cX6_behind 4 = .ok (.iload_n 1, 1) := by decide +kernel
theorem dX6_behind_5 : decode cX6_behind 5 = .ok (.invokevirtual 76, 3) := by decide +kernel
theorem dX6_behind_8 : decode cX6_behind 8 = .ok (.ifCond .ne 5, 3) := by decide +kernel
theorem dX6_behind_11 : decode cX6_behind 11 = .ok (.iconst (-1), 1) := by decide +kernel
theorem dX6_behind_12 : decode cX6_behind 12 = .ok (.ireturn, 1) := by decide +kernel
theorem dX6_behind_13 : decode cX6_behind 13 = .ok (.iload_n 2, 1) := by decide +kernel
theorem dX6_behind_14 : decode cX6_behind 14 = .ok (.iconst 0, 1) := by decide +kernel
theorem dX6_behind_15 : decode cX6_behind 15 = .ok (.iconst 4, 1) := by decide +kernel
theorem dX6_behind_16 : decode cX6_behind 16 = .ok (.invokestatic 58, 3) := by decide +kernel
theorem dX6_behind_19 : decode cX6_behind 19 = .ok (.ifCond .ne 6, 3) := by decide +kernel
theorem dX6_behind_22 : decode cX6_behind 22 = .ok (.bipush (-2), 2) := by decide +kernel
theorem dX6_behind_24 : decode cX6_behind 24 = .ok (.ireturn, 1) := by decide +kernel
theorem dX6_behind_25 : decode cX6_behind 25 = .ok (.aload_n 0, 1) := by decide +kernel
theorem dX6_behind_26 : decode cX6_behind 26 = .ok (.invokevirtual 114, 3) := by decide +kernel
theorem dX6_behind_29 : decode cX6_behind 29 = .ok (.istore_n 3, 1) := by decide +kernel
theorem dX6_behind_30 : decode cX6_behind 30 = .ok (.iload_n 3, 1) := by decide +kernel
theorem dX6_behind_31 : decode cX6_behind 31 = .ok (.ifCond .eq 5, 3) := by decide +kernel
theorem dX6_behind_34 : decode cX6_behind 34 = .ok (.iload_n 3, 1) := by decide +kernel
theorem dX6_behind_35 : decode cX6_behind 35 = .ok (.ireturn, 1) := by decide +kernel
theorem dX6_behind_36 : decode cX6_behind 36 = .ok (.iload_n 2, 1) := by decide +kernel
theorem dX6_behind_37 : decode cX6_behind 37 = .ok (.tableswitch 78 0 3 #[31, 41, 51, 61], 31) := by decide +kernel
theorem dX6_behind_68 : decode cX6_behind 68 = .ok (.aload_n 0, 1) := by decide +kernel
theorem dX6_behind_69 : decode cX6_behind 69 = .ok (.getfield 16, 3) := by decide +kernel
theorem dX6_behind_72 : decode cX6_behind 72 = .ok (.getfield 126, 3) := by decide +kernel
theorem dX6_behind_75 : decode cX6_behind 75 = .ok (.iload_n 1, 1) := by decide +kernel
theorem dX6_behind_76 : decode cX6_behind 76 = .ok (.iaload, 1) := by decide +kernel
theorem dX6_behind_77 : decode cX6_behind 77 = .ok (.ireturn, 1) := by decide +kernel
theorem dX6_behind_78 : decode cX6_behind 78 = .ok (.aload_n 0, 1) := by decide +kernel
theorem dX6_behind_79 : decode cX6_behind 79 = .ok (.getfield 16, 3) := by decide +kernel
theorem dX6_behind_82 : decode cX6_behind 82 = .ok (.getfield 129, 3) := by decide +kernel
theorem dX6_behind_85 : decode cX6_behind 85 = .ok (.iload_n 1, 1) := by decide +kernel
theorem dX6_behind_86 : decode cX6_behind 86 = .ok (.iaload, 1) := by decide +kernel
theorem dX6_behind_87 : decode cX6_behind 87 = .ok (.ireturn, 1) := by decide +kernel
theorem dX6_behind_88 : decode cX6_behind 88 = .ok (.aload_n 0, 1) := by decide +kernel
theorem dX6_behind_89 : decode cX6_behind 89 = .ok (.getfield 16, 3) := by decide +kernel
theorem dX6_behind_92 : decode cX6_behind 92 = .ok (.getfield 132, 3) := by decide +kernel
theorem dX6_behind_95 : decode cX6_behind 95 = .ok (.iload_n 1, 1) := by decide +kernel
theorem dX6_behind_96 : decode cX6_behind 96 = .ok (.iaload, 1) := by decide +kernel
theorem dX6_behind_97 : decode cX6_behind 97 = .ok (.ireturn, 1) := by decide +kernel
theorem dX6_behind_98 : decode cX6_behind 98 = .ok (.aload_n 0, 1) := by decide +kernel
theorem dX6_behind_99 : decode cX6_behind 99 = .ok (.getfield 16, 3) := by decide +kernel
theorem dX6_behind_102 : decode cX6_behind 102 = .ok (.iload_n 1, 1) := by decide +kernel
theorem dX6_behind_103 : decode cX6_behind 103 = .ok (.invokevirtual 135, 3) := by decide +kernel
theorem dX6_behind_106 : decode cX6_behind 106 = .ok (.ifCond .eq 7, 3) := by decide +kernel
theorem dX6_behind_109 : decode cX6_behind 109 = .ok (.iconst 1, 1) := by decide +kernel
theorem dX6_behind_110 : decode cX6_behind 110 = .ok (.goto 4, 3) := by decide +kernel
theorem dX6_behind_113 : decode cX6_behind 113 = .ok (.iconst 0, 1) := by decide +kernel
theorem dX6_behind_114 : decode cX6_behind 114 = .ok (.ireturn, 1) := by decide +kernel
theorem dX6_behind_115 : decode cX6_behind 115 = .ok (.aload_n 0, 1) := by decide +kernel
theorem dX6_behind_116 : decode cX6_behind 116 = .ok (.getfield 16, 3) := by decide +kernel
theorem dX6_behind_119 : decode cX6_behind 119 = .ok (.iload_n 1, 1) := by decide +kernel
theorem dX6_behind_120 : decode cX6_behind 120 = .ok (.invokevirtual 138, 3) := by decide +kernel
theorem dX6_behind_123 : decode cX6_behind 123 = .ok (.ifCond .eq 7, 3) := by decide +kernel
theorem dX6_behind_126 : decode cX6_behind 126 = .ok (.iconst 1, 1) := by decide +kernel
theorem dX6_behind_127 : decode cX6_behind 127 = .ok (.goto 4, 3) := by decide +kernel
theorem dX6_behind_130 : decode cX6_behind 130 = .ok (.iconst 0, 1) := by decide +kernel
theorem dX6_behind_131 : decode cX6_behind 131 = .ok (.ireturn, 1) := by decide +kernel
theorem dX6_holds_0 : decode cX6_holds 0 = .ok (.iload_n 1, 1) := by decide +kernel
theorem dX6_holds_1 : decode cX6_holds 1 = .ok (.iconst 0, 1) := by decide +kernel
theorem dX6_holds_2 : decode cX6_holds 2 = .ok (.iconst 3, 1) := by decide +kernel
theorem dX6_holds_3 : decode cX6_holds 3 = .ok (.invokestatic 58, 3) := by decide +kernel
theorem dX6_holds_6 : decode cX6_holds 6 = .ok (.ifCond .eq 19, 3) := by decide +kernel
theorem dX6_holds_9 : decode cX6_holds 9 = .ok (.iload_n 2, 1) := by decide +kernel
theorem dX6_holds_10 : decode cX6_holds 10 = .ok (.iconst (-1), 1) := by decide +kernel
theorem dX6_holds_11 : decode cX6_holds 11 = .ok (.if_icmp .eq 16, 3) := by decide +kernel
theorem dX6_holds_14 : decode cX6_holds 14 = .ok (.aload_n 0, 1) := by decide +kernel
theorem dX6_holds_15 : decode cX6_holds 15 = .ok (.getfield 10, 3) := by decide +kernel
theorem dX6_holds_18 : decode cX6_holds 18 = .ok (.iload_n 2, 1) := by decide +kernel
theorem dX6_holds_19 : decode cX6_holds 19 = .ok (.invokevirtual 76, 3) := by decide +kernel
theorem dX6_holds_22 : decode cX6_holds 22 = .ok (.ifCond .ne 5, 3) := by decide +kernel
theorem dX6_holds_25 : decode cX6_holds 25 = .ok (.iconst (-1), 1) := by decide +kernel
theorem dX6_holds_26 : decode cX6_holds 26 = .ok (.ireturn, 1) := by decide +kernel
theorem dX6_holds_27 : decode cX6_holds 27 = .ok (.aload_n 0, 1) := by decide +kernel
theorem dX6_holds_28 : decode cX6_holds 28 = .ok (.invokevirtual 114, 3) := by decide +kernel
theorem dX6_holds_31 : decode cX6_holds 31 = .ok (.istore_n 3, 1) := by decide +kernel
theorem dX6_holds_32 : decode cX6_holds 32 = .ok (.iload_n 3, 1) := by decide +kernel
theorem dX6_holds_33 : decode cX6_holds 33 = .ok (.ifCond .eq 5, 3) := by decide +kernel
theorem dX6_holds_36 : decode cX6_holds 36 = .ok (.iload_n 3, 1) := by decide +kernel
theorem dX6_holds_37 : decode cX6_holds 37 = .ok (.ireturn, 1) := by decide +kernel
theorem dX6_holds_38 : decode cX6_holds 38 = .ok (.iload_n 2, 1) := by decide +kernel
theorem dX6_holds_39 : decode cX6_holds 39 = .ok (.iconst (-1), 1) := by decide +kernel
theorem dX6_holds_40 : decode cX6_holds 40 = .ok (.if_icmp .ne 15, 3) := by decide +kernel
theorem dX6_holds_43 : decode cX6_holds 43 = .ok (.aload_n 0, 1) := by decide +kernel
theorem dX6_holds_44 : decode cX6_holds 44 = .ok (.getfield 16, 3) := by decide +kernel
theorem dX6_holds_47 : decode cX6_holds 47 = .ok (.getfield 88, 3) := by decide +kernel
theorem dX6_holds_50 : decode cX6_holds 50 = .ok (.iload_n 1, 1) := by decide +kernel
theorem dX6_holds_51 : decode cX6_holds 51 = .ok (.iaload, 1) := by decide +kernel
theorem dX6_holds_52 : decode cX6_holds 52 = .ok (.goto 12, 3) := by decide +kernel
theorem dX6_holds_55 : decode cX6_holds 55 = .ok (.aload_n 0, 1) := by decide +kernel
theorem dX6_holds_56 : decode cX6_holds 56 = .ok (.getfield 16, 3) := by decide +kernel
