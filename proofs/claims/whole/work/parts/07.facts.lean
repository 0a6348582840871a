theorem ax_subg {ws : List Cond} (h : ws.all (fun w => decide (w ∈ lw_tbl) && goodWord w) = true) : ∀ w ∈ ws, w ∈ ax_g := by
  intro w hw
  have h1 := List.all_eq_true.mp h w hw
  simp only [Bool.and_eq_true, decide_eq_true_eq] at h1
  exact ax_gd h1.1 h1.2
theorem cf_X0 : ax_CF (RX0, TX0, 4) := ⟨ax_subg (by decide +kernel), tyX0, tyX0_ok, nmX0⟩
theorem cf_X1 : ax_CF (RX1, TX1, 1) := ⟨ax_subg (by decide +kernel), tyX1, tyX1_ok, nmX1⟩
theorem cf_X2 : ax_CF (RX2, TX2, 16) := ⟨ax_subg (by decide +kernel), tyX2, tyX2_ok, nmX2⟩
theorem cf_X3 : ax_CF (RX3, TX3, 2) := ⟨ax_subg (by decide +kernel), tyX3, tyX3_ok, nmX3⟩
theorem cf_X4 : ax_CF (RX4, TX4, 2) := ⟨ax_subg (by decide +kernel), tyX4, tyX4_ok, nmX4⟩
theorem cf_X5 : ax_CF (RX5, TX5, 7) := ⟨ax_subg (by decide +kernel), tyX5, tyX5_ok, nmX5⟩
theorem cf_X6 : ax_CF (RX6, TX6, 8) := ⟨ax_subg (by decide +kernel), tyX6, tyX6_ok, nmX6⟩
theorem cf_X7 : ax_CF (RX7, TX7, 38) := ⟨ax_subg (by decide +kernel), tyX7, tyX7_ok, nmX7⟩
theorem ct_J6_265 : Cond.constant RJ6 265 (1431655765) ∈ ax_g := ax_gm 282 (by decide +kernel) rfl
theorem ct_J6_266 : Cond.constant RJ6 266 (858993459) ∈ ax_g := ax_gm 283 (by decide +kernel) rfl
theorem ct_J6_267 : Cond.constant RJ6 267 (252645135) ∈ ax_g := ax_gm 284 (by decide +kernel) rfl
theorem ml_L_9 : Cond.methodLink RL 9 yX6_init ∈ ax_g := ax_gm 56 (by decide +kernel) rfl
theorem ml_L_12 : Cond.methodLink RL 12 yX7_init ∈ ax_g := ax_gm 614 (by decide +kernel) rfl
theorem ml_L_13 : Cond.methodLink RL 13 yX6_child ∈ ax_g := ax_gm 264 (by decide +kernel) rfl
theorem ml_L_17 : Cond.methodLink RL 17 yX7_child ∈ ax_g := ax_gm 734 (by decide +kernel) rfl
theorem ml_L_18 : Cond.methodLink RL 18 yX6_leave ∈ ax_g := ax_gm 285 (by decide +kernel) rfl
theorem ml_L_22 : Cond.methodLink RL 22 yX7_leave ∈ ax_g := ax_gm 753 (by decide +kernel) rfl
theorem ml_L_23 : Cond.methodLink RL 23 yX6_law ∈ ax_g := ax_gm 298 (by decide +kernel) rfl
theorem ml_L_27 : Cond.methodLink RL 27 yX7_law ∈ ax_g := ax_gm 761 (by decide +kernel) rfl
theorem ml_L_28 : Cond.methodLink RL 28 yX6_purse ∈ ax_g := ax_gm 302 (by decide +kernel) rfl
theorem ml_L_31 : Cond.methodLink RL 31 yX7_purse ∈ ax_g := ax_gm 767 (by decide +kernel) rfl
theorem ml_L_32 : Cond.methodLink RL 32 yX6_offer ∈ ax_g := ax_gm 306 (by decide +kernel) rfl
theorem ml_L_35 : Cond.methodLink RL 35 yX7_offer ∈ ax_g := ax_gm 776 (by decide +kernel) rfl
theorem ml_L_36 : Cond.methodLink RL 36 yX6_witness ∈ ax_g := ax_gm 310 (by decide +kernel) rfl
theorem ml_L_39 : Cond.methodLink RL 39 yX7_witness ∈ ax_g := ax_gm 781 (by decide +kernel) rfl
theorem ml_L_40 : Cond.methodLink RL 40 yX6_say ∈ ax_g := ax_gm 314 (by decide +kernel) rfl
theorem ml_L_43 : Cond.methodLink RL 43 yX7_say ∈ ax_g := ax_gm 787 (by decide +kernel) rfl
theorem ml_L_44 : Cond.methodLink RL 44 yX6_wipe ∈ ax_g := ax_gm 322 (by decide +kernel) rfl
theorem ml_L_48 : Cond.methodLink RL 48 yX7_wipe ∈ ax_g := ax_gm 793 (by decide +kernel) rfl
theorem ml_L_49 : Cond.methodLink RL 49 yX6_fault ∈ ax_g := ax_gm 326 (by decide +kernel) rfl
theorem ml_L_52 : Cond.methodLink RL 52 yX7_fault ∈ ax_g := ax_gm 797 (by decide +kernel) rfl
theorem ml_L_53 : Cond.methodLink RL 53 yX6_judge ∈ ax_g := ax_gm 354 (by decide +kernel) rfl
theorem ml_L_56 : Cond.methodLink RL 56 yX7_judge ∈ ax_g := ax_gm 829 (by decide +kernel) rfl
theorem ml_L_57 : Cond.methodLink RL 57 yX6_behind ∈ ax_g := ax_gm 430 (by decide +kernel) rfl
theorem ml_L_60 : Cond.methodLink RL 60 yX7_behind ∈ ax_g := ax_gm 874 (by decide +kernel) rfl
theorem ml_L_61 : Cond.methodLink RL 61 yX6_holds ∈ ax_g := ax_gm 436 (by decide +kernel) rfl
theorem ml_L_64 : Cond.methodLink RL 64 yX7_holds ∈ ax_g := ax_gm 879 (by decide +kernel) rfl
theorem ml_L_65 : Cond.methodLink RL 65 yX6_wrong ∈ ax_g := ax_gm 441 (by decide +kernel) rfl
theorem ml_L_68 : Cond.methodLink RL 68 yX7_wrong ∈ ax_g := ax_gm 883 (by decide +kernel) rfl
theorem ml_L_69 : Cond.methodLink RL 69 yX6_done ∈ ax_g := ax_gm 445 (by decide +kernel) rfl
theorem ml_L_72 : Cond.methodLink RL 72 yX7_done ∈ ax_g := ax_gm 887 (by decide +kernel) rfl
theorem ml_L_73 : Cond.methodLink RL 73 yX6_saints ∈ ax_g := ax_gm 449 (by decide +kernel) rfl
theorem ml_L_76 : Cond.methodLink RL 76 yX7_saints ∈ ax_g := ax_gm 891 (by decide +kernel) rfl
theorem ml_L_77 : Cond.methodLink RL 77 yX6_lacks ∈ ax_g := ax_gm 458 (by decide +kernel) rfl
theorem ml_L_80 : Cond.methodLink RL 80 yX7_lacks ∈ ax_g := ax_gm 895 (by decide +kernel) rfl
theorem ml_L_81 : Cond.methodLink RL 81 yX6_odds ∈ ax_g := ax_gm 465 (by decide +kernel) rfl
theorem ml_L_85 : Cond.methodLink RL 85 yX7_odds ∈ ax_g := ax_gm 902 (by decide +kernel) rfl
theorem ml_L_86 : Cond.methodLink RL 86 yX6_back ∈ ax_g := ax_gm 495 (by decide +kernel) rfl
theorem ml_L_89 : Cond.methodLink RL 89 yX7_back ∈ ax_g := ax_gm 917 (by decide +kernel) rfl
theorem ml_L_90 : Cond.methodLink RL 90 yX6_fewest ∈ ax_g := ax_gm 502 (by decide +kernel) rfl
theorem ml_L_93 : Cond.methodLink RL 93 yX7_fewest ∈ ax_g := ax_gm 925 (by decide +kernel) rfl
theorem ml_L_94 : Cond.methodLink RL 94 yX6_day ∈ ax_g := ax_gm 509 (by decide +kernel) rfl
theorem ml_L_97 : Cond.methodLink RL 97 yX7_day ∈ ax_g := ax_gm 933 (by decide +kernel) rfl
theorem ml_L_98 : Cond.methodLink RL 98 yX6_rivals ∈ ax_g := ax_gm 521 (by decide +kernel) rfl
theorem ml_L_102 : Cond.methodLink RL 102 yX7_rivals ∈ ax_g := ax_gm 946 (by decide +kernel) rfl
theorem ml_L_103 : Cond.methodLink RL 103 yX6_share ∈ ax_g := ax_gm 529 (by decide +kernel) rfl
theorem ml_L_106 : Cond.methodLink RL 106 yX7_share ∈ ax_g := ax_gm 970 (by decide +kernel) rfl
theorem ml_L_107 : Cond.methodLink RL 107 yX6_seen ∈ ax_g := ax_gm 537 (by decide +kernel) rfl
theorem ml_L_111 : Cond.methodLink RL 111 yX7_seen ∈ ax_g := ax_gm 974 (by decide +kernel) rfl
theorem ml_L_112 : Cond.methodLink RL 112 yX6_forget ∈ ax_g := ax_gm 545 (by decide +kernel) rfl
theorem ml_L_115 : Cond.methodLink RL 115 yX7_forget ∈ ax_g := ax_gm 978 (by decide +kernel) rfl
theorem ml_L_116 : Cond.methodLink RL 116 yX6_laws ∈ ax_g := ax_gm 549 (by decide +kernel) rfl
theorem ml_L_119 : Cond.methodLink RL 119 yX7_laws ∈ ax_g := ax_gm 982 (by decide +kernel) rfl
theorem ml_L_120 : Cond.methodLink RL 120 yX6_ask ∈ ax_g := ax_gm 563 (by decide +kernel) rfl
theorem ml_L_123 : Cond.methodLink RL 123 yX7_ask ∈ ax_g := ax_gm 993 (by decide +kernel) rfl
theorem ml_L_124 : Cond.methodLink RL 124 yX6_book ∈ ax_g := ax_gm 571 (by decide +kernel) rfl
theorem ml_L_127 : Cond.methodLink RL 127 yX7_book ∈ ax_g := ax_gm 1001 (by decide +kernel) rfl
theorem ml_L_128 : Cond.methodLink RL 128 yX6_image ∈ ax_g := ax_gm 595 (by decide +kernel) rfl
theorem ml_L_131 : Cond.methodLink RL 131 yX7_image ∈ ax_g := ax_gm 1009 (by decide +kernel) rfl
theorem ml_L_132 : Cond.methodLink RL 132 yX6_restore ∈ ax_g := ax_gm 599 (by decide +kernel) rfl
theorem ml_L_135 : Cond.methodLink RL 135 yX7_restore ∈ ax_g := ax_gm 1025 (by decide +kernel) rfl
theorem ml_L_136 : Cond.methodLink RL 136 yX6_told ∈ ax_g := ax_gm 603 (by decide +kernel) rfl
theorem ml_L_139 : Cond.methodLink RL 139 yX7_told ∈ ax_g := ax_gm 1029 (by decide +kernel) rfl
theorem cl_L_7 : Cond.classLink RL 7 RX6 ∈ ax_g := ax_gm 54 (by decide +kernel) rfl
theorem cl_L_10 : Cond.classLink RL 10 RX7 ∈ ax_g := ax_gm 612 (by decide +kernel) rfl
theorem ml_X0_1 : Cond.methodLink RX0 1 objectInit ∈ ax_g := ax_gm 163 (by decide +kernel) rfl
theorem ml_X0_22 : Cond.methodLink RX0 22 yX0_drawnKind ∈ ax_g := ax_gm 580 (by decide +kernel) rfl
theorem ml_X0_26 : Cond.methodLink RX0 26 yX0_put ∈ ax_g := ax_gm 583 (by decide +kernel) rfl
theorem fk_X0_7 : Cond.fieldLink RX0 7 (TX0 0).1 (TX0 0).2.1 (TX0 0).2.2.1 ∈ ax_g := ax_gm 164 (by decide +kernel) rfl
theorem fp_X0_7 : ax_FP RX0 7 0 0 .int := ⟨_, rfl, cf_X0, by decide, fk_X0_7, rfl, by decide +kernel⟩
theorem fk_X0_13 : Cond.fieldLink RX0 13 (TX0 1).1 (TX0 1).2.1 (TX0 1).2.2.1 ∈ ax_g := ax_gm 167 (by decide +kernel) rfl
theorem fp_X0_13 : ax_FP RX0 13 0 1 .int := ⟨_, rfl, cf_X0, by decide, fk_X0_13, rfl, by decide +kernel⟩
theorem fk_X0_16 : Cond.fieldLink RX0 16 (TX0 2).1 (TX0 2).2.1 (TX0 2).2.2.1 ∈ ax_g := ax_gm 170 (by decide +kernel) rfl
theorem fp_X0_16 : ax_FP RX0 16 0 2 .int := ⟨_, rfl, cf_X0, by decide, fk_X0_16, rfl, by decide +kernel⟩
theorem fk_X0_19 : Cond.fieldLink RX0 19 (TX0 3).1 (TX0 3).2.1 (TX0 3).2.2.1 ∈ ax_g := ax_gm 172 (by decide +kernel) rfl
theorem fp_X0_19 : ax_FP RX0 19 0 3 .int := ⟨_, rfl, cf_X0, by decide, fk_X0_19, rfl, by decide +kernel⟩
theorem fk_X1_11 : Cond.fieldLink RX1 11 (TX1 0).1 (TX1 0).2.1 (TX1 0).2.2.1 ∈ ax_g := ax_gm 219 (by decide +kernel) rfl
theorem fl_X1_11 : ax_FL RX1 11 1 0 := ⟨_, rfl, cf_X1, by decide, fk_X1_11⟩
theorem fk_X1_19 : Cond.fieldLink RX1 19 (TX2 5).1 (TX2 5).2.1 (TX2 5).2.2.1 ∈ ax_g := ax_gm 79 (by decide +kernel) rfl
theorem fl_X1_19 : ax_FL RX1 19 2 5 := ⟨_, rfl, cf_X2, by decide, fk_X1_19⟩
theorem fk_X1_25 : Cond.fieldLink RX1 25 (TX2 6).1 (TX2 6).2.1 (TX2 6).2.2.1 ∈ ax_g := ax_gm 82 (by decide +kernel) rfl
theorem fl_X1_25 : ax_FL RX1 25 2 6 := ⟨_, rfl, cf_X2, by decide, fk_X1_25⟩
theorem ml_X1_3 : Cond.methodLink RX1 3 objectInit ∈ ax_g := ax_gm 218 (by decide +kernel) rfl
theorem ml_X1_15 : Cond.methodLink RX1 15 yX1_addYear ∈ ax_g := ax_gm 475 (by decide +kernel) rfl
theorem ml_X1_28 : Cond.methodLink RX1 28 yX2_wouldBeSaint ∈ ax_g := ax_gm 483 (by decide +kernel) rfl
theorem ct_X1_32 : Cond.constantLong RX1 32 (10) ∈ ax_g := ax_gm 488 (by decide +kernel) rfl
theorem ff_X1_11 : ax_FF RX1 11 1 0 (.array .long) := ⟨_, rfl, cf_X1, by decide, fk_X1_11, rfl, rfl, by decide +kernel⟩
theorem fk_X2_9 : Cond.fieldLink RX2 9 (TX2 5).1 (TX2 5).2.1 (TX2 5).2.2.1 ∈ ax_g := ax_gm 78 (by decide +kernel) rfl
theorem fl_X2_9 : ax_FL RX2 9 2 5 := ⟨_, rfl, cf_X2, by decide, fk_X2_9⟩
theorem fk_X2_15 : Cond.fieldLink RX2 15 (TX2 6).1 (TX2 6).2.1 (TX2 6).2.2.1 ∈ ax_g := ax_gm 81 (by decide +kernel) rfl
theorem fl_X2_15 : ax_FL RX2 15 2 6 := ⟨_, rfl, cf_X2, by decide, fk_X2_15⟩
theorem fk_X2_18 : Cond.fieldLink RX2 18 (TX2 7).1 (TX2 7).2.1 (TX2 7).2.2.1 ∈ ax_g := ax_gm 84 (by decide +kernel) rfl
theorem fl_X2_18 : ax_FL RX2 18 2 7 := ⟨_, rfl, cf_X2, by decide, fk_X2_18⟩
theorem fk_X2_21 : Cond.fieldLink RX2 21 (TX2 8).1 (TX2 8).2.1 (TX2 8).2.2.1 ∈ ax_g := ax_gm 86 (by decide +kernel) rfl
theorem fl_X2_21 : ax_FL RX2 21 2 8 := ⟨_, rfl, cf_X2, by decide, fk_X2_21⟩
theorem fk_X2_24 : Cond.fieldLink RX2 24 (TX2 9).1 (TX2 9).2.1 (TX2 9).2.2.1 ∈ ax_g := ax_gm 87 (by decide +kernel) rfl
theorem fl_X2_24 : ax_FL RX2 24 2 9 := ⟨_, rfl, cf_X2, by decide, fk_X2_24⟩
theorem fk_X2_27 : Cond.fieldLink RX2 27 (TX2 10).1 (TX2 10).2.1 (TX2 10).2.2.1 ∈ ax_g := ax_gm 89 (by decide +kernel) rfl
theorem fl_X2_27 : ax_FL RX2 27 2 10 := ⟨_, rfl, cf_X2, by decide, fk_X2_27⟩
theorem fk_X2_30 : Cond.fieldLink RX2 30 (TX2 11).1 (TX2 11).2.1 (TX2 11).2.2.1 ∈ ax_g := ax_gm 91 (by decide +kernel) rfl
theorem fl_X2_30 : ax_FL RX2 30 2 11 := ⟨_, rfl, cf_X2, by decide, fk_X2_30⟩
theorem fk_X2_33 : Cond.fieldLink RX2 33 (TX2 12).1 (TX2 12).2.1 (TX2 12).2.2.1 ∈ ax_g := ax_gm 93 (by decide +kernel) rfl
theorem fl_X2_33 : ax_FL RX2 33 2 12 := ⟨_, rfl, cf_X2, by decide, fk_X2_33⟩
theorem fk_X2_36 : Cond.fieldLink RX2 36 (TX2 13).1 (TX2 13).2.1 (TX2 13).2.2.1 ∈ ax_g := ax_gm 95 (by decide +kernel) rfl
theorem fl_X2_36 : ax_FL RX2 36 2 13 := ⟨_, rfl, cf_X2, by decide, fk_X2_36⟩
theorem fk_X2_39 : Cond.fieldLink RX2 39 (TX2 14).1 (TX2 14).2.1 (TX2 14).2.2.1 ∈ ax_g := ax_gm 97 (by decide +kernel) rfl
theorem fl_X2_39 : ax_FL RX2 39 2 14 := ⟨_, rfl, cf_X2, by decide, fk_X2_39⟩
theorem fk_X2_42 : Cond.fieldLink RX2 42 (TX2 15).1 (TX2 15).2.1 (TX2 15).2.2.1 ∈ ax_g := ax_gm 99 (by decide +kernel) rfl
theorem fl_X2_42 : ax_FL RX2 42 2 15 := ⟨_, rfl, cf_X2, by decide, fk_X2_42⟩
theorem fk_X2_45 : Cond.fieldLink RX2 45 (TX2 0).1 (TX2 0).2.1 (TX2 0).2.2.1 ∈ ax_g := ax_gm 68 (by decide +kernel) rfl
theorem fl_X2_45 : ax_FL RX2 45 2 0 := ⟨_, rfl, cf_X2, by decide, fk_X2_45⟩
theorem fk_X2_49 : Cond.fieldLink RX2 49 (TX2 1).1 (TX2 1).2.1 (TX2 1).2.2.1 ∈ ax_g := ax_gm 70 (by decide +kernel) rfl
theorem fl_X2_49 : ax_FL RX2 49 2 1 := ⟨_, rfl, cf_X2, by decide, fk_X2_49⟩
theorem fk_X2_52 : Cond.fieldLink RX2 52 (TX2 2).1 (TX2 2).2.1 (TX2 2).2.2.1 ∈ ax_g := ax_gm 71 (by decide +kernel) rfl
theorem fl_X2_52 : ax_FL RX2 52 2 2 := ⟨_, rfl, cf_X2, by decide, fk_X2_52⟩
theorem fk_X2_55 : Cond.fieldLink RX2 55 (TX2 3).1 (TX2 3).2.1 (TX2 3).2.2.1 ∈ ax_g := ax_gm 73 (by decide +kernel) rfl
theorem fl_X2_55 : ax_FL RX2 55 2 3 := ⟨_, rfl, cf_X2, by decide, fk_X2_55⟩
theorem fk_X2_58 : Cond.fieldLink RX2 58 (TX2 4).1 (TX2 4).2.1 (TX2 4).2.2.1 ∈ ax_g := ax_gm 76 (by decide +kernel) rfl
theorem fl_X2_58 : ax_FL RX2 58 2 4 := ⟨_, rfl, cf_X2, by decide, fk_X2_58⟩
theorem fk_X2_104 : Cond.fieldLink RX2 104 (TX0 0).1 (TX0 0).2.1 (TX0 0).2.2.1 ∈ ax_g := ax_gm 166 (by decide +kernel) rfl
theorem fl_X2_104 : ax_FL RX2 104 0 0 := ⟨_, rfl, cf_X0, by decide, fk_X2_104⟩
theorem fk_X2_109 : Cond.fieldLink RX2 109 (TX0 1).1 (TX0 1).2.1 (TX0 1).2.2.1 ∈ ax_g := ax_gm 169 (by decide +kernel) rfl
theorem fl_X2_109 : ax_FL RX2 109 0 1 := ⟨_, rfl, cf_X0, by decide, fk_X2_109⟩
theorem fk_X2_116 : Cond.fieldLink RX2 116 (TX0 3).1 (TX0 3).2.1 (TX0 3).2.2.1 ∈ ax_g := ax_gm 173 (by decide +kernel) rfl
theorem fl_X2_116 : ax_FL RX2 116 0 3 := ⟨_, rfl, cf_X0, by decide, fk_X2_116⟩
theorem fk_X2_119 : Cond.fieldLink RX2 119 (TX0 2).1 (TX0 2).2.1 (TX0 2).2.2.1 ∈ ax_g := ax_gm 171 (by decide +kernel) rfl
theorem fl_X2_119 : ax_FL RX2 119 0 2 := ⟨_, rfl, cf_X0, by decide, fk_X2_119⟩
theorem ml_X2_3 : Cond.methodLink RX2 3 objectInit ∈ ax_g := ax_gm 67 (by decide +kernel) rfl
theorem ml_X2_61 : Cond.methodLink RX2 61 arraycopyName ∈ ax_g := ax_gm 366 (by decide +kernel) rfl
theorem nl_X2_67 : Cond.methodLinkNest RX2 67 yX6_within RX6 ∈ ax_nw := List.mem_of_getElem? (i := 6) rfl
theorem ml_X2_95 : Cond.methodLink RX2 95 yJ6_bitCount_0f7a4 ∈ ax_g := ax_gm 414 (by decide +kernel) rfl
theorem ml_X2_125 : Cond.methodLink RX2 125 yJ9_min_7cf53 ∈ ax_g := ax_gm 415 (by decide +kernel) rfl
theorem ml_X2_71 : Cond.methodLink RX2 71 yX2_isThere ∈ ax_g := ax_gm 389 (by decide +kernel) rfl
theorem ml_X2_75 : Cond.methodLink RX2 75 yX2_wouldBeSaint ∈ ax_g := ax_gm 422 (by decide +kernel) rfl
theorem ml_X2_78 : Cond.methodLink RX2 78 yX2_isFallen ∈ ax_g := ax_gm 390 (by decide +kernel) rfl
theorem ml_X2_81 : Cond.methodLink RX2 81 yX2_isSaint ∈ ax_g := ax_gm 457 (by decide +kernel) rfl
theorem ml_X2_84 : Cond.methodLink RX2 84 yX2_freeParts ∈ ax_g := ax_gm 275 (by decide +kernel) rfl
theorem ml_X2_88 : Cond.methodLink RX2 88 yX2_holderOf ∈ ax_g := ax_gm 398 (by decide +kernel) rfl
theorem ml_X2_92 : Cond.methodLink RX2 92 yX2_partBits ∈ ax_g := ax_gm 402 (by decide +kernel) rfl
theorem ml_X2_101 : Cond.methodLink RX2 101 yX2_heldParts ∈ ax_g := ax_gm 594 (by decide +kernel) rfl
theorem ml_X2_112 : Cond.methodLink RX2 112 yX2_reasonAgainstLetting ∈ ax_g := ax_gm 394 (by decide +kernel) rfl
theorem ml_X2_122 : Cond.methodLink RX2 122 yX2_fall ∈ ax_g := ax_gm 410 (by decide +kernel) rfl
theorem ff_X2_9 : ax_FF RX2 9 2 5 (.array .int) := ⟨_, rfl, cf_X2, by decide, fk_X2_9, rfl, rfl, by decide +kernel⟩
theorem ff_X2_15 : ax_FF RX2 15 2 6 (.array .int) := ⟨_, rfl, cf_X2, by decide, fk_X2_15, rfl, rfl, by decide +kernel⟩
theorem ff_X2_18 : ax_FF RX2 18 2 7 (.array .int) := ⟨_, rfl, cf_X2, by decide, fk_X2_18, rfl, rfl, by decide +kernel⟩
theorem ff_X2_21 : ax_FF RX2 21 2 8 (.array .int) := ⟨_, rfl, cf_X2, by decide, fk_X2_21, rfl, rfl, by decide +kernel⟩
theorem ff_X2_24 : ax_FF RX2 24 2 9 (.array .int) := ⟨_, rfl, cf_X2, by decide, fk_X2_24, rfl, rfl, by decide +kernel⟩
theorem ff_X2_27 : ax_FF RX2 27 2 10 (.array .int) := ⟨_, rfl, cf_X2, by decide, fk_X2_27, rfl, rfl, by decide +kernel⟩
theorem ff_X2_30 : ax_FF RX2 30 2 11 (.array .int) := ⟨_, rfl, cf_X2, by decide, fk_X2_30, rfl, rfl, by decide +kernel⟩
theorem ff_X2_33 : ax_FF RX2 33 2 12 (.array .int) := ⟨_, rfl, cf_X2, by decide, fk_X2_33, rfl, rfl, by decide +kernel⟩
theorem ff_X2_36 : ax_FF RX2 36 2 13 (.array .int) := ⟨_, rfl, cf_X2, by decide, fk_X2_36, rfl, rfl, by decide +kernel⟩
theorem ff_X2_39 : ax_FF RX2 39 2 14 (.array .int) := ⟨_, rfl, cf_X2, by decide, fk_X2_39, rfl, rfl, by decide +kernel⟩
theorem ff_X2_42 : ax_FF RX2 42 2 15 (.array .int) := ⟨_, rfl, cf_X2, by decide, fk_X2_42, rfl, rfl, by decide +kernel⟩
theorem fp_X2_45 : ax_FP RX2 45 2 0 .int := ⟨_, rfl, cf_X2, by decide, fk_X2_45, rfl, by decide +kernel⟩
theorem fp_X2_49 : ax_FP RX2 49 2 1 .int := ⟨_, rfl, cf_X2, by decide, fk_X2_49, rfl, by decide +kernel⟩
theorem fp_X2_52 : ax_FP RX2 52 2 2 .int := ⟨_, rfl, cf_X2, by decide, fk_X2_52, rfl, by decide +kernel⟩
theorem fp_X2_55 : ax_FP RX2 55 2 3 .int := ⟨_, rfl, cf_X2, by decide, fk_X2_55, rfl, by decide +kernel⟩
theorem fp_X2_58 : ax_FP RX2 58 2 4 .int := ⟨_, rfl, cf_X2, by decide, fk_X2_58, rfl, by decide +kernel⟩
theorem fk_X3_9 : Cond.fieldLink RX3 9 (TX3 0).1 (TX3 0).2.1 (TX3 0).2.2.1 ∈ ax_g := ax_gm 230 (by decide +kernel) rfl
theorem fl_X3_9 : ax_FL RX3 9 3 0 := ⟨_, rfl, cf_X3, by decide, fk_X3_9⟩
theorem fk_X3_15 : Cond.fieldLink RX3 15 (TX3 1).1 (TX3 1).2.1 (TX3 1).2.2.1 ∈ ax_g := ax_gm 232 (by decide +kernel) rfl
theorem fl_X3_15 : ax_FL RX3 15 3 1 := ⟨_, rfl, cf_X3, by decide, fk_X3_15⟩
theorem fk_X3_23 : Cond.fieldLink RX3 23 (TX2 3).1 (TX2 3).2.1 (TX2 3).2.2.1 ∈ ax_g := ax_gm 74 (by decide +kernel) rfl
theorem fl_X3_23 : ax_FL RX3 23 2 3 := ⟨_, rfl, cf_X2, by decide, fk_X3_23⟩
theorem fk_X3_28 : Cond.fieldLink RX3 28 (TX2 15).1 (TX2 15).2.1 (TX2 15).2.2.1 ∈ ax_g := ax_gm 100 (by decide +kernel) rfl
theorem fl_X3_28 : ax_FL RX3 28 2 15 := ⟨_, rfl, cf_X2, by decide, fk_X3_28⟩
theorem fk_X3_31 : Cond.fieldLink RX3 31 (TX2 4).1 (TX2 4).2.1 (TX2 4).2.2.1 ∈ ax_g := ax_gm 77 (by decide +kernel) rfl
theorem fl_X3_31 : ax_FL RX3 31 2 4 := ⟨_, rfl, cf_X2, by decide, fk_X3_31⟩
theorem ml_X3_3 : Cond.methodLink RX3 3 objectInit ∈ ax_g := ax_gm 229 (by decide +kernel) rfl
theorem ml_X3_19 : Cond.methodLink RX3 19 yX3_fits ∈ ax_g := ax_gm 557 (by decide +kernel) rfl
theorem ml_X3_34 : Cond.methodLink RX3 34 yX3_makesSaint ∈ ax_g := ax_gm 560 (by decide +kernel) rfl
theorem ff_X3_9 : ax_FF RX3 9 3 0 (.array .int) := ⟨_, rfl, cf_X3, by decide, fk_X3_9, rfl, rfl, by decide +kernel⟩
theorem fp_X3_15 : ax_FP RX3 15 3 1 .int := ⟨_, rfl, cf_X3, by decide, fk_X3_15, rfl, by decide +kernel⟩
theorem fk_X4_11 : Cond.fieldLink RX4 11 (TX4 0).1 (TX4 0).2.1 (TX4 0).2.2.1 ∈ ax_g := ax_gm 142 (by decide +kernel) rfl
theorem fl_X4_11 : ax_FL RX4 11 4 0 := ⟨_, rfl, cf_X4, by decide, fk_X4_11⟩
theorem fk_X4_15 : Cond.fieldLink RX4 15 (TX4 1).1 (TX4 1).2.1 (TX4 1).2.2.1 ∈ ax_g := ax_gm 143 (by decide +kernel) rfl
theorem fl_X4_15 : ax_FL RX4 15 4 1 := ⟨_, rfl, cf_X4, by decide, fk_X4_15⟩
theorem ml_X4_3 : Cond.methodLink RX4 3 objectInit ∈ ax_g := ax_gm 141 (by decide +kernel) rfl
theorem ml_X4_23 : Cond.methodLink RX4 23 yX4_wantedAfter ∈ ax_g := ax_gm 339 (by decide +kernel) rfl
theorem ml_X4_27 : Cond.methodLink RX4 27 yX4_wantedAfterFirst ∈ ax_g := ax_gm 342 (by decide +kernel) rfl
theorem nl_X4_31 : Cond.methodLinkNest RX4 31 yX6_within RX6 ∈ ax_nw := List.mem_of_getElem? (i := 7) rfl
theorem ml_X4_35 : Cond.methodLink RX4 35 yX4_deedKind ∈ ax_g := ax_gm 348 (by decide +kernel) rfl
theorem ml_X4_38 : Cond.methodLink RX4 38 yX4_isParish ∈ ax_g := ax_gm 351 (by decide +kernel) rfl
theorem ml_X4_42 : Cond.methodLink RX4 42 yX4_isChild ∈ ax_g := ax_gm 345 (by decide +kernel) rfl
theorem ml_X4_19 : Cond.methodLink RX4 19 yX4_signAt ∈ ax_g := ax_gm 334 (by decide +kernel) rfl
theorem ml_X4_47 : Cond.methodLink RX4 47 yX0_put ∈ ax_g := ax_gm 381 (by decide +kernel) rfl
theorem ff_X4_11 : ax_FF RX4 11 4 0 (.array .char) := ⟨_, rfl, cf_X4, by decide, fk_X4_11, rfl, rfl, by decide +kernel⟩
theorem fp_X4_15 : ax_FP RX4 15 4 1 .int := ⟨_, rfl, cf_X4, by decide, fk_X4_15, rfl, by decide +kernel⟩
theorem fk_X5_12 : Cond.fieldLink RX5 12 (TX5 0).1 (TX5 0).2.1 (TX5 0).2.2.1 ∈ ax_g := ax_gm 183 (by decide +kernel) rfl
theorem fl_X5_12 : ax_FL RX5 12 5 0 := ⟨_, rfl, cf_X5, by decide, fk_X5_12⟩
theorem fk_X5_23 : Cond.fieldLink RX5 23 (TX4 1).1 (TX4 1).2.1 (TX4 1).2.2.1 ∈ ax_g := ax_gm 144 (by decide +kernel) rfl
theorem fl_X5_23 : ax_FL RX5 23 4 1 := ⟨_, rfl, cf_X4, by decide, fk_X5_23⟩
theorem fk_X5_37 : Cond.fieldLink RX5 37 (TX5 1).1 (TX5 1).2.1 (TX5 1).2.2.1 ∈ ax_g := ax_gm 184 (by decide +kernel) rfl
theorem fl_X5_37 : ax_FL RX5 37 5 1 := ⟨_, rfl, cf_X5, by decide, fk_X5_37⟩
theorem fk_X5_50 : Cond.fieldLink RX5 50 (TX0 0).1 (TX0 0).2.1 (TX0 0).2.2.1 ∈ ax_g := ax_gm 165 (by decide +kernel) rfl
theorem fl_X5_50 : ax_FL RX5 50 0 0 := ⟨_, rfl, cf_X0, by decide, fk_X5_50⟩
theorem fk_X5_53 : Cond.fieldLink RX5 53 (TX0 1).1 (TX0 1).2.1 (TX0 1).2.2.1 ∈ ax_g := ax_gm 168 (by decide +kernel) rfl
theorem fl_X5_53 : ax_FL RX5 53 0 1 := ⟨_, rfl, cf_X0, by decide, fk_X5_53⟩
theorem fk_X5_64 : Cond.fieldLink RX5 64 (TX5 4).1 (TX5 4).2.1 (TX5 4).2.2.1 ∈ ax_g := ax_gm 190 (by decide +kernel) rfl
theorem fl_X5_64 : ax_FL RX5 64 5 4 := ⟨_, rfl, cf_X5, by decide, fk_X5_64⟩
theorem fk_X5_67 : Cond.fieldLink RX5 67 (TX5 5).1 (TX5 5).2.1 (TX5 5).2.2.1 ∈ ax_g := ax_gm 192 (by decide +kernel) rfl
theorem fl_X5_67 : ax_FL RX5 67 5 5 := ⟨_, rfl, cf_X5, by decide, fk_X5_67⟩
theorem fk_X5_70 : Cond.fieldLink RX5 70 (TX5 6).1 (TX5 6).2.1 (TX5 6).2.2.1 ∈ ax_g := ax_gm 194 (by decide +kernel) rfl
theorem fl_X5_70 : ax_FL RX5 70 5 6 := ⟨_, rfl, cf_X5, by decide, fk_X5_70⟩
theorem ml_X5_3 : Cond.methodLink RX5 3 objectInit ∈ ax_g := ax_gm 157 (by decide +kernel) rfl
theorem nl_X5_11 : Cond.methodLinkNest RX5 11 yX0_init RX6 ∈ ax_nw := List.mem_of_getElem? (i := 2) rfl
theorem ml_X5_18 : Cond.methodLink RX5 18 yX5_clear ∈ ax_g := ax_gm 373 (by decide +kernel) rfl
theorem ml_X5_27 : Cond.methodLink RX5 27 yX4_readAct ∈ ax_g := ax_gm 377 (by decide +kernel) rfl
theorem ml_X5_31 : Cond.methodLink RX5 31 yX2_reasonAgainst ∈ ax_g := ax_gm 385 (by decide +kernel) rfl
theorem ml_X5_46 : Cond.methodLink RX5 46 yX2_live ∈ ax_g := ax_gm 406 (by decide +kernel) rfl
theorem ml_X5_56 : Cond.methodLink RX5 56 yX2_isSaint ∈ ax_g := ax_gm 418 (by decide +kernel) rfl
theorem ml_X5_60 : Cond.methodLink RX5 60 yX5_countFeast ∈ ax_g := ax_gm 426 (by decide +kernel) rfl
theorem cl_X5_9 : Cond.classLink RX5 9 RX0 ∈ ax_g := ax_gm 158 (by decide +kernel) rfl
theorem ff_X5_12 : ax_FF RX5 12 5 0 (.object "SaintsAhead$Act") := ⟨_, rfl, cf_X5, by decide, fk_X5_12, rfl, rfl, by decide +kernel⟩
theorem fp_X5_37 : ax_FP RX5 37 5 1 .int := ⟨_, rfl, cf_X5, by decide, fk_X5_37, rfl, by decide +kernel⟩
theorem fk_X5_40 : Cond.fieldLink RX5 40 (TX5 2).1 (TX5 2).2.1 (TX5 2).2.2.1 ∈ ax_g := ax_gm 186 (by decide +kernel) rfl
theorem fp_X5_40 : ax_FP RX5 40 5 2 .int := ⟨_, rfl, cf_X5, by decide, fk_X5_40, rfl, by decide +kernel⟩
theorem fk_X5_43 : Cond.fieldLink RX5 43 (TX5 3).1 (TX5 3).2.1 (TX5 3).2.2.1 ∈ ax_g := ax_gm 188 (by decide +kernel) rfl
theorem fp_X5_43 : ax_FP RX5 43 5 3 .int := ⟨_, rfl, cf_X5, by decide, fk_X5_43, rfl, by decide +kernel⟩
theorem fp_X5_64 : ax_FP RX5 64 5 4 .int := ⟨_, rfl, cf_X5, by decide, fk_X5_64, rfl, by decide +kernel⟩
theorem fp_X5_67 : ax_FP RX5 67 5 5 .int := ⟨_, rfl, cf_X5, by decide, fk_X5_67, rfl, by decide +kernel⟩
theorem fp_X5_70 : ax_FP RX5 70 5 6 .int := ⟨_, rfl, cf_X5, by decide, fk_X5_70, rfl, by decide +kernel⟩
theorem cl_X6_7 : Cond.classLink RX6 7 RX2 ∈ ax_g := ax_gm 62 (by decide +kernel) rfl
theorem fk_X6_10 : Cond.fieldLink RX6 10 (TX6 0).1 (TX6 0).2.1 (TX6 0).2.2.1 ∈ ax_g := ax_gm 239 (by decide +kernel) rfl
theorem fl_X6_10 : ax_FL RX6 10 6 0 := ⟨_, rfl, cf_X6, by decide, fk_X6_10⟩
theorem fk_X6_16 : Cond.fieldLink RX6 16 (TX6 1).1 (TX6 1).2.1 (TX6 1).2.2.1 ∈ ax_g := ax_gm 240 (by decide +kernel) rfl
theorem fl_X6_16 : ax_FL RX6 16 6 1 := ⟨_, rfl, cf_X6, by decide, fk_X6_16⟩
theorem fk_X6_19 : Cond.fieldLink RX6 19 (TX6 2).1 (TX6 2).2.1 (TX6 2).2.2.1 ∈ ax_g := ax_gm 241 (by decide +kernel) rfl
theorem fl_X6_19 : ax_FL RX6 19 6 2 := ⟨_, rfl, cf_X6, by decide, fk_X6_19⟩
theorem fk_X6_26 : Cond.fieldLink RX6 26 (TX6 3).1 (TX6 3).2.1 (TX6 3).2.2.1 ∈ ax_g := ax_gm 242 (by decide +kernel) rfl
theorem fl_X6_26 : ax_FL RX6 26 6 3 := ⟨_, rfl, cf_X6, by decide, fk_X6_26⟩
theorem fk_X6_33 : Cond.fieldLink RX6 33 (TX6 4).1 (TX6 4).2.1 (TX6 4).2.2.1 ∈ ax_g := ax_gm 243 (by decide +kernel) rfl
theorem fl_X6_33 : ax_FL RX6 33 6 4 := ⟨_, rfl, cf_X6, by decide, fk_X6_33⟩
theorem fk_X6_40 : Cond.fieldLink RX6 40 (TX6 5).1 (TX6 5).2.1 (TX6 5).2.2.1 ∈ ax_g := ax_gm 244 (by decide +kernel) rfl
theorem fl_X6_40 : ax_FL RX6 40 6 5 := ⟨_, rfl, cf_X6, by decide, fk_X6_40⟩
theorem fk_X6_47 : Cond.fieldLink RX6 47 (TX6 6).1 (TX6 6).2.1 (TX6 6).2.2.1 ∈ ax_g := ax_gm 245 (by decide +kernel) rfl
theorem fl_X6_47 : ax_FL RX6 47 6 6 := ⟨_, rfl, cf_X6, by decide, fk_X6_47⟩
theorem fk_X6_54 : Cond.fieldLink RX6 54 (TX6 7).1 (TX6 7).2.1 (TX6 7).2.2.1 ∈ ax_g := ax_gm 246 (by decide +kernel) rfl
theorem fl_X6_54 : ax_FL RX6 54 6 7 := ⟨_, rfl, cf_X6, by decide, fk_X6_54⟩
theorem fk_X6_66 : Cond.fieldLink RX6 66 (TX2 0).1 (TX2 0).2.1 (TX2 0).2.2.1 ∈ ax_g := ax_gm 69 (by decide +kernel) rfl
theorem fl_X6_66 : ax_FL RX6 66 2 0 := ⟨_, rfl, cf_X2, by decide, fk_X6_66⟩
theorem fk_X6_84 : Cond.fieldLink RX6 84 (TX2 13).1 (TX2 13).2.1 (TX2 13).2.2.1 ∈ ax_g := ax_gm 96 (by decide +kernel) rfl
theorem fl_X6_84 : ax_FL RX6 84 2 13 := ⟨_, rfl, cf_X2, by decide, fk_X6_84⟩
theorem fk_X6_88 : Cond.fieldLink RX6 88 (TX2 12).1 (TX2 12).2.1 (TX2 12).2.2.1 ∈ ax_g := ax_gm 94 (by decide +kernel) rfl
theorem fl_X6_88 : ax_FL RX6 88 2 12 := ⟨_, rfl, cf_X2, by decide, fk_X6_88⟩
theorem fk_X6_91 : Cond.fieldLink RX6 91 (TX2 11).1 (TX2 11).2.1 (TX2 11).2.2.1 ∈ ax_g := ax_gm 92 (by decide +kernel) rfl
theorem fl_X6_91 : ax_FL RX6 91 2 11 := ⟨_, rfl, cf_X2, by decide, fk_X6_91⟩
theorem fk_X6_94 : Cond.fieldLink RX6 94 (TX2 9).1 (TX2 9).2.1 (TX2 9).2.2.1 ∈ ax_g := ax_gm 88 (by decide +kernel) rfl
theorem fl_X6_94 : ax_FL RX6 94 2 9 := ⟨_, rfl, cf_X2, by decide, fk_X6_94⟩
theorem fk_X6_97 : Cond.fieldLink RX6 97 (TX2 10).1 (TX2 10).2.1 (TX2 10).2.2.1 ∈ ax_g := ax_gm 90 (by decide +kernel) rfl
theorem fl_X6_97 : ax_FL RX6 97 2 10 := ⟨_, rfl, cf_X2, by decide, fk_X6_97⟩
theorem fk_X6_100 : Cond.fieldLink RX6 100 (TX2 14).1 (TX2 14).2.1 (TX2 14).2.2.1 ∈ ax_g := ax_gm 98 (by decide +kernel) rfl
theorem fl_X6_100 : ax_FL RX6 100 2 14 := ⟨_, rfl, cf_X2, by decide, fk_X6_100⟩
theorem fk_X6_103 : Cond.fieldLink RX6 103 (TX4 1).1 (TX4 1).2.1 (TX4 1).2.2.1 ∈ ax_g := ax_gm 145 (by decide +kernel) rfl
theorem fl_X6_103 : ax_FL RX6 103 4 1 := ⟨_, rfl, cf_X4, by decide, fk_X6_103⟩
theorem fk_X6_117 : Cond.fieldLink RX6 117 (TX5 2).1 (TX5 2).2.1 (TX5 2).2.2.1 ∈ ax_g := ax_gm 187 (by decide +kernel) rfl
theorem fl_X6_117 : ax_FL RX6 117 5 2 := ⟨_, rfl, cf_X5, by decide, fk_X6_117⟩
theorem fk_X6_120 : Cond.fieldLink RX6 120 (TX5 3).1 (TX5 3).2.1 (TX5 3).2.2.1 ∈ ax_g := ax_gm 189 (by decide +kernel) rfl
theorem fl_X6_120 : ax_FL RX6 120 5 3 := ⟨_, rfl, cf_X5, by decide, fk_X6_120⟩
theorem fk_X6_123 : Cond.fieldLink RX6 123 (TX5 4).1 (TX5 4).2.1 (TX5 4).2.2.1 ∈ ax_g := ax_gm 191 (by decide +kernel) rfl
theorem fl_X6_123 : ax_FL RX6 123 5 4 := ⟨_, rfl, cf_X5, by decide, fk_X6_123⟩
theorem fk_X6_126 : Cond.fieldLink RX6 126 (TX2 5).1 (TX2 5).2.1 (TX2 5).2.2.1 ∈ ax_g := ax_gm 80 (by decide +kernel) rfl
theorem fl_X6_126 : ax_FL RX6 126 2 5 := ⟨_, rfl, cf_X2, by decide, fk_X6_126⟩
theorem fk_X6_129 : Cond.fieldLink RX6 129 (TX2 6).1 (TX2 6).2.1 (TX2 6).2.2.1 ∈ ax_g := ax_gm 83 (by decide +kernel) rfl
theorem fl_X6_129 : ax_FL RX6 129 2 6 := ⟨_, rfl, cf_X2, by decide, fk_X6_129⟩
theorem fk_X6_132 : Cond.fieldLink RX6 132 (TX2 7).1 (TX2 7).2.1 (TX2 7).2.2.1 ∈ ax_g := ax_gm 85 (by decide +kernel) rfl
theorem fl_X6_132 : ax_FL RX6 132 2 7 := ⟨_, rfl, cf_X2, by decide, fk_X6_132⟩
theorem fk_X6_145 : Cond.fieldLink RX6 145 (TX5 5).1 (TX5 5).2.1 (TX5 5).2.2.1 ∈ ax_g := ax_gm 193 (by decide +kernel) rfl
theorem fl_X6_145 : ax_FL RX6 145 5 5 := ⟨_, rfl, cf_X5, by decide, fk_X6_145⟩
theorem fk_X6_148 : Cond.fieldLink RX6 148 (TX5 6).1 (TX5 6).2.1 (TX5 6).2.2.1 ∈ ax_g := ax_gm 195 (by decide +kernel) rfl
theorem fl_X6_148 : ax_FL RX6 148 5 6 := ⟨_, rfl, cf_X5, by decide, fk_X6_148⟩
theorem fk_X6_155 : Cond.fieldLink RX6 155 (TX5 1).1 (TX5 1).2.1 (TX5 1).2.2.1 ∈ ax_g := ax_gm 185 (by decide +kernel) rfl
theorem fl_X6_155 : ax_FL RX6 155 5 1 := ⟨_, rfl, cf_X5, by decide, fk_X6_155⟩
theorem fk_X6_206 : Cond.fieldLink RX6 206 (TX2 3).1 (TX2 3).2.1 (TX2 3).2.2.1 ∈ ax_g := ax_gm 75 (by decide +kernel) rfl
theorem fl_X6_206 : ax_FL RX6 206 2 3 := ⟨_, rfl, cf_X2, by decide, fk_X6_206⟩
theorem fk_X6_216 : Cond.fieldLink RX6 216 (TX3 1).1 (TX3 1).2.1 (TX3 1).2.2.1 ∈ ax_g := ax_gm 233 (by decide +kernel) rfl
theorem fl_X6_216 : ax_FL RX6 216 3 1 := ⟨_, rfl, cf_X3, by decide, fk_X6_216⟩
theorem fk_X6_217 : Cond.fieldLink RX6 217 (TX3 0).1 (TX3 0).2.1 (TX3 0).2.2.1 ∈ ax_g := ax_gm 231 (by decide +kernel) rfl
theorem fl_X6_217 : ax_FL RX6 217 3 0 := ⟨_, rfl, cf_X3, by decide, fk_X6_217⟩
theorem fk_X6_244 : Cond.fieldLink RX6 244 (TX2 2).1 (TX2 2).2.1 (TX2 2).2.2.1 ∈ ax_g := ax_gm 72 (by decide +kernel) rfl
theorem fl_X6_244 : ax_FL RX6 244 2 2 := ⟨_, rfl, cf_X2, by decide, fk_X6_244⟩
theorem ml_X6_1 : Cond.methodLink RX6 1 objectInit ∈ ax_g := ax_gm 59 (by decide +kernel) rfl
theorem ml_X6_9 : Cond.methodLink RX6 9 yX2_init ∈ ax_g := ax_gm 64 (by decide +kernel) rfl
theorem nl_X6_25 : Cond.methodLinkNest RX6 25 yX4_init RX6 ∈ ax_nw := List.mem_of_getElem? (i := 0) rfl
theorem nl_X6_32 : Cond.methodLinkNest RX6 32 yX5_init RX6 ∈ ax_nw := List.mem_of_getElem? (i := 1) rfl
theorem nl_X6_39 : Cond.methodLinkNest RX6 39 yX0_init RX6 ∈ ax_nw := List.mem_of_getElem? (i := 3) rfl
theorem nl_X6_46 : Cond.methodLinkNest RX6 46 yX1_init RX6 ∈ ax_nw := List.mem_of_getElem? (i := 4) rfl
theorem nl_X6_53 : Cond.methodLinkNest RX6 53 yX3_init RX6 ∈ ax_nw := List.mem_of_getElem? (i := 5) rfl
theorem ml_X6_58 : Cond.methodLink RX6 58 yX6_within ∈ ax_g := ax_gm 268 (by decide +kernel) rfl
theorem ml_X6_70 : Cond.methodLink RX6 70 yJ6_bitCount_0f7a4 ∈ ax_g := ax_gm 279 (by decide +kernel) rfl
theorem ml_X6_161 : Cond.methodLink RX6 161 yJ9_max_7cf53 ∈ ax_g := ax_gm 462 (by decide +kernel) rfl
theorem ml_X6_181 : Cond.methodLink RX6 181 yX6_commonDivisor ∈ ax_g := ax_gm 489 (by decide +kernel) rfl
theorem ml_X6_185 : Cond.methodLink RX6 185 yX6_sumOver ∈ ax_g := ax_gm 499 (by decide +kernel) rfl
theorem ml_X6_189 : Cond.methodLink RX6 189 yX6_unionOver ∈ ax_g := ax_gm 506 (by decide +kernel) rfl
theorem ml_X6_199 : Cond.methodLink RX6 199 yX6_endsAsSaint ∈ ax_g := ax_gm 525 (by decide +kernel) rfl
theorem ml_X6_256 : Cond.methodLink RX6 256 yJ9_max_f86c9 ∈ ax_g := ax_gm 492 (by decide +kernel) rfl
theorem ml_X6_62 : Cond.methodLink RX6 62 yX2_enter ∈ ax_g := ax_gm 271 (by decide +kernel) rfl
theorem ml_X6_76 : Cond.methodLink RX6 76 yX2_isThere ∈ ax_g := ax_gm 289 (by decide +kernel) rfl
theorem ml_X6_80 : Cond.methodLink RX6 80 yX2_remove ∈ ax_g := ax_gm 294 (by decide +kernel) rfl
theorem ml_X6_106 : Cond.methodLink RX6 106 yX4_write ∈ ax_g := ax_gm 318 (by decide +kernel) rfl
theorem ml_X6_110 : Cond.methodLink RX6 110 yX4_firstFault ∈ ax_g := ax_gm 330 (by decide +kernel) rfl
theorem ml_X6_114 : Cond.methodLink RX6 114 yX6_refusalOfYears ∈ ax_g := ax_gm 358 (by decide +kernel) rfl
theorem ml_X6_135 : Cond.methodLink RX6 135 yX2_isSaint ∈ ax_g := ax_gm 434 (by decide +kernel) rfl
theorem ml_X6_138 : Cond.methodLink RX6 138 yX2_isFallen ∈ ax_g := ax_gm 435 (by decide +kernel) rfl
theorem ml_X6_141 : Cond.methodLink RX6 141 yX2_partBits ∈ ax_g := ax_gm 440 (by decide +kernel) rfl
theorem ml_X6_151 : Cond.methodLink RX6 151 yX2_copyFrom ∈ ax_g := ax_gm 362 (by decide +kernel) rfl
theorem ml_X6_158 : Cond.methodLink RX6 158 yX2_saintBits ∈ ax_g := ax_gm 453 (by decide +kernel) rfl
theorem ml_X6_170 : Cond.methodLink RX6 170 yX1_spread ∈ ax_g := ax_gm 471 (by decide +kernel) rfl
theorem ml_X6_173 : Cond.methodLink RX6 173 yX1_waysToSaint ∈ ax_g := ax_gm 479 (by decide +kernel) rfl
theorem ml_X6_177 : Cond.methodLink RX6 177 yX1_allWays ∈ ax_g := ax_gm 484 (by decide +kernel) rfl
theorem ml_X6_192 : Cond.methodLink RX6 192 yX6_mostWithDays ∈ ax_g := ax_gm 513 (by decide +kernel) rfl
theorem ml_X6_195 : Cond.methodLink RX6 195 yX6_firstDay ∈ ax_g := ax_gm 517 (by decide +kernel) rfl
theorem ml_X6_203 : Cond.methodLink RX6 203 yX2_heldParts ∈ ax_g := ax_gm 533 (by decide +kernel) rfl
theorem ml_X6_209 : Cond.methodLink RX6 209 yX2_addSight ∈ ax_g := ax_gm 541 (by decide +kernel) rfl
theorem ml_X6_213 : Cond.methodLink RX6 213 yX3_find ∈ ax_g := ax_gm 553 (by decide +kernel) rfl
theorem ml_X6_220 : Cond.methodLink RX6 220 yX3_countThatMake ∈ ax_g := ax_gm 567 (by decide +kernel) rfl
theorem ml_X6_224 : Cond.methodLink RX6 224 yX0_draw ∈ ax_g := ax_gm 576 (by decide +kernel) rfl
theorem ml_X6_227 : Cond.methodLink RX6 227 yX2_reasonAgainst ∈ ax_g := ax_gm 584 (by decide +kernel) rfl
theorem ml_X6_231 : Cond.methodLink RX6 231 yX2_live ∈ ax_g := ax_gm 585 (by decide +kernel) rfl
theorem ml_X6_235 : Cond.methodLink RX6 235 yX2_pursesTogether ∈ ax_g := ax_gm 586 (by decide +kernel) rfl
theorem ml_X6_238 : Cond.methodLink RX6 238 yX2_allHeldParts ∈ ax_g := ax_gm 590 (by decide +kernel) rfl
theorem ml_X6_241 : Cond.methodLink RX6 241 yX6_toldOfChild ∈ ax_g := ax_gm 607 (by decide +kernel) rfl
theorem ml_X6_247 : Cond.methodLink RX6 247 yX2_holderOf ∈ ax_g := ax_gm 611 (by decide +kernel) rfl
theorem ml_X6_250 : Cond.methodLink RX6 250 yX5_live ∈ ax_g := ax_gm 369 (by decide +kernel) rfl
theorem ml_X6_253 : Cond.methodLink RX6 253 yX2_wouldBeSaint ∈ ax_g := ax_gm 528 (by decide +kernel) rfl
theorem ct_X6_223 : Cond.constant RX6 223 (65537) ∈ ax_g := ax_gm 575 (by decide +kernel) rfl
theorem ct_X6_166 : Cond.constantLong RX6 166 (-1000000000000000001) ∈ ax_g := ax_gm 469 (by decide +kernel) rfl
theorem ct_X6_168 : Cond.constantLong RX6 168 (-1000000000000000002) ∈ ax_g := ax_gm 470 (by decide +kernel) rfl
theorem cl_X6_23 : Cond.classLink RX6 23 RX4 ∈ ax_g := ax_gm 136 (by decide +kernel) rfl
theorem cl_X6_30 : Cond.classLink RX6 30 RX5 ∈ ax_g := ax_gm 152 (by decide +kernel) rfl
theorem cl_X6_37 : Cond.classLink RX6 37 RX0 ∈ ax_g := ax_gm 211 (by decide +kernel) rfl
theorem cl_X6_44 : Cond.classLink RX6 44 RX1 ∈ ax_g := ax_gm 213 (by decide +kernel) rfl
theorem cl_X6_51 : Cond.classLink RX6 51 RX3 ∈ ax_g := ax_gm 224 (by decide +kernel) rfl
theorem ff_X6_10 : ax_FF RX6 10 6 0 (.object "SaintsAhead$Diocese") := ⟨_, rfl, cf_X6, by decide, fk_X6_10, rfl, rfl, by decide +kernel⟩
theorem ff_X6_16 : ax_FF RX6 16 6 1 (.object "SaintsAhead$Diocese") := ⟨_, rfl, cf_X6, by decide, fk_X6_16, rfl, rfl, by decide +kernel⟩
theorem ff_X6_19 : ax_FF RX6 19 6 2 (.array (.object "SaintsAhead$Diocese")) := ⟨_, rfl, cf_X6, by decide, fk_X6_19, rfl, rfl, by decide +kernel⟩
theorem ff_X6_26 : ax_FF RX6 26 6 3 (.object "SaintsAhead$Pad") := ⟨_, rfl, cf_X6, by decide, fk_X6_26, rfl, rfl, by decide +kernel⟩
theorem ff_X6_33 : ax_FF RX6 33 6 4 (.object "SaintsAhead$Years") := ⟨_, rfl, cf_X6, by decide, fk_X6_33, rfl, rfl, by decide +kernel⟩
theorem ff_X6_40 : ax_FF RX6 40 6 5 (.object "SaintsAhead$Act") := ⟨_, rfl, cf_X6, by decide, fk_X6_40, rfl, rfl, by decide +kernel⟩
theorem ff_X6_47 : ax_FF RX6 47 6 6 (.object "SaintsAhead$Chances") := ⟨_, rfl, cf_X6, by decide, fk_X6_47, rfl, rfl, by decide +kernel⟩
theorem ff_X6_54 : ax_FF RX6 54 6 7 (.object "SaintsAhead$FittingLaws") := ⟨_, rfl, cf_X6, by decide, fk_X6_54, rfl, rfl, by decide +kernel⟩
theorem fp_X6_103 : ax_FP RX6 103 4 1 .int := ⟨_, rfl, cf_X4, by decide, fk_X6_103, rfl, by decide +kernel⟩
theorem fp_X6_206 : ax_FP RX6 206 2 3 .int := ⟨_, rfl, cf_X2, by decide, fk_X6_206, rfl, by decide +kernel⟩
theorem fk_X7_7 : Cond.fieldLink RX7 7 (TX7 2).1 (TX7 2).2.1 (TX7 2).2.2.1 ∈ ax_g := ax_gm 620 (by decide +kernel) rfl
theorem fl_X7_7 : ax_FL RX7 7 7 2 := ⟨_, rfl, cf_X7, by decide, fk_X7_7⟩
theorem fk_X7_13 : Cond.fieldLink RX7 13 (TX7 3).1 (TX7 3).2.1 (TX7 3).2.2.1 ∈ ax_g := ax_gm 621 (by decide +kernel) rfl
theorem fl_X7_13 : ax_FL RX7 13 7 3 := ⟨_, rfl, cf_X7, by decide, fk_X7_13⟩
theorem fk_X7_16 : Cond.fieldLink RX7 16 (TX7 4).1 (TX7 4).2.1 (TX7 4).2.2.1 ∈ ax_g := ax_gm 622 (by decide +kernel) rfl
theorem fl_X7_16 : ax_FL RX7 16 7 4 := ⟨_, rfl, cf_X7, by decide, fk_X7_16⟩
theorem fk_X7_19 : Cond.fieldLink RX7 19 (TX7 5).1 (TX7 5).2.1 (TX7 5).2.2.1 ∈ ax_g := ax_gm 623 (by decide +kernel) rfl
theorem fl_X7_19 : ax_FL RX7 19 7 5 := ⟨_, rfl, cf_X7, by decide, fk_X7_19⟩
theorem fk_X7_22 : Cond.fieldLink RX7 22 (TX7 6).1 (TX7 6).2.1 (TX7 6).2.2.1 ∈ ax_g := ax_gm 624 (by decide +kernel) rfl
theorem fl_X7_22 : ax_FL RX7 22 7 6 := ⟨_, rfl, cf_X7, by decide, fk_X7_22⟩
theorem fk_X7_25 : Cond.fieldLink RX7 25 (TX7 7).1 (TX7 7).2.1 (TX7 7).2.2.1 ∈ ax_g := ax_gm 625 (by decide +kernel) rfl
theorem fl_X7_25 : ax_FL RX7 25 7 7 := ⟨_, rfl, cf_X7, by decide, fk_X7_25⟩
theorem fk_X7_28 : Cond.fieldLink RX7 28 (TX7 8).1 (TX7 8).2.1 (TX7 8).2.2.1 ∈ ax_g := ax_gm 626 (by decide +kernel) rfl
theorem fl_X7_28 : ax_FL RX7 28 7 8 := ⟨_, rfl, cf_X7, by decide, fk_X7_28⟩
theorem fk_X7_31 : Cond.fieldLink RX7 31 (TX7 9).1 (TX7 9).2.1 (TX7 9).2.2.1 ∈ ax_g := ax_gm 627 (by decide +kernel) rfl
theorem fl_X7_31 : ax_FL RX7 31 7 9 := ⟨_, rfl, cf_X7, by decide, fk_X7_31⟩
theorem fk_X7_34 : Cond.fieldLink RX7 34 (TX7 10).1 (TX7 10).2.1 (TX7 10).2.2.1 ∈ ax_g := ax_gm 628 (by decide +kernel) rfl
theorem fl_X7_34 : ax_FL RX7 34 7 10 := ⟨_, rfl, cf_X7, by decide, fk_X7_34⟩
theorem fk_X7_37 : Cond.fieldLink RX7 37 (TX7 11).1 (TX7 11).2.1 (TX7 11).2.2.1 ∈ ax_g := ax_gm 629 (by decide +kernel) rfl
theorem fl_X7_37 : ax_FL RX7 37 7 11 := ⟨_, rfl, cf_X7, by decide, fk_X7_37⟩
theorem fk_X7_40 : Cond.fieldLink RX7 40 (TX7 12).1 (TX7 12).2.1 (TX7 12).2.2.1 ∈ ax_g := ax_gm 630 (by decide +kernel) rfl
theorem fl_X7_40 : ax_FL RX7 40 7 12 := ⟨_, rfl, cf_X7, by decide, fk_X7_40⟩
theorem fk_X7_43 : Cond.fieldLink RX7 43 (TX7 13).1 (TX7 13).2.1 (TX7 13).2.2.1 ∈ ax_g := ax_gm 631 (by decide +kernel) rfl
theorem fl_X7_43 : ax_FL RX7 43 7 13 := ⟨_, rfl, cf_X7, by decide, fk_X7_43⟩
theorem fk_X7_46 : Cond.fieldLink RX7 46 (TX7 14).1 (TX7 14).2.1 (TX7 14).2.2.1 ∈ ax_g := ax_gm 632 (by decide +kernel) rfl
theorem fl_X7_46 : ax_FL RX7 46 7 14 := ⟨_, rfl, cf_X7, by decide, fk_X7_46⟩
theorem fk_X7_49 : Cond.fieldLink RX7 49 (TX7 15).1 (TX7 15).2.1 (TX7 15).2.2.1 ∈ ax_g := ax_gm 633 (by decide +kernel) rfl
theorem fl_X7_49 : ax_FL RX7 49 7 15 := ⟨_, rfl, cf_X7, by decide, fk_X7_49⟩
theorem fk_X7_52 : Cond.fieldLink RX7 52 (TX7 17).1 (TX7 17).2.1 (TX7 17).2.2.1 ∈ ax_g := ax_gm 635 (by decide +kernel) rfl
theorem fl_X7_52 : ax_FL RX7 52 7 17 := ⟨_, rfl, cf_X7, by decide, fk_X7_52⟩
theorem fk_X7_55 : Cond.fieldLink RX7 55 (TX7 19).1 (TX7 19).2.1 (TX7 19).2.2.1 ∈ ax_g := ax_gm 637 (by decide +kernel) rfl
theorem fl_X7_55 : ax_FL RX7 55 7 19 := ⟨_, rfl, cf_X7, by decide, fk_X7_55⟩
theorem fk_X7_58 : Cond.fieldLink RX7 58 (TX7 20).1 (TX7 20).2.1 (TX7 20).2.2.1 ∈ ax_g := ax_gm 638 (by decide +kernel) rfl
theorem fl_X7_58 : ax_FL RX7 58 7 20 := ⟨_, rfl, cf_X7, by decide, fk_X7_58⟩
theorem fk_X7_61 : Cond.fieldLink RX7 61 (TX7 21).1 (TX7 21).2.1 (TX7 21).2.2.1 ∈ ax_g := ax_gm 639 (by decide +kernel) rfl
theorem fl_X7_61 : ax_FL RX7 61 7 21 := ⟨_, rfl, cf_X7, by decide, fk_X7_61⟩
theorem fk_X7_64 : Cond.fieldLink RX7 64 (TX7 22).1 (TX7 22).2.1 (TX7 22).2.2.1 ∈ ax_g := ax_gm 640 (by decide +kernel) rfl
theorem fl_X7_64 : ax_FL RX7 64 7 22 := ⟨_, rfl, cf_X7, by decide, fk_X7_64⟩
theorem fk_X7_67 : Cond.fieldLink RX7 67 (TX7 28).1 (TX7 28).2.1 (TX7 28).2.2.1 ∈ ax_g := ax_gm 646 (by decide +kernel) rfl
theorem fl_X7_67 : ax_FL RX7 67 7 28 := ⟨_, rfl, cf_X7, by decide, fk_X7_67⟩
theorem fk_X7_70 : Cond.fieldLink RX7 70 (TX7 29).1 (TX7 29).2.1 (TX7 29).2.2.1 ∈ ax_g := ax_gm 647 (by decide +kernel) rfl
theorem fl_X7_70 : ax_FL RX7 70 7 29 := ⟨_, rfl, cf_X7, by decide, fk_X7_70⟩
theorem fk_X7_73 : Cond.fieldLink RX7 73 (TX7 32).1 (TX7 32).2.1 (TX7 32).2.2.1 ∈ ax_g := ax_gm 650 (by decide +kernel) rfl
theorem fl_X7_73 : ax_FL RX7 73 7 32 := ⟨_, rfl, cf_X7, by decide, fk_X7_73⟩
theorem fk_X7_77 : Cond.fieldLink RX7 77 (TX7 33).1 (TX7 33).2.1 (TX7 33).2.2.1 ∈ ax_g := ax_gm 651 (by decide +kernel) rfl
theorem fl_X7_77 : ax_FL RX7 77 7 33 := ⟨_, rfl, cf_X7, by decide, fk_X7_77⟩
theorem fk_X7_80 : Cond.fieldLink RX7 80 (TX7 34).1 (TX7 34).2.1 (TX7 34).2.2.1 ∈ ax_g := ax_gm 652 (by decide +kernel) rfl
theorem fl_X7_80 : ax_FL RX7 80 7 34 := ⟨_, rfl, cf_X7, by decide, fk_X7_80⟩
theorem fk_X7_83 : Cond.fieldLink RX7 83 (TX7 35).1 (TX7 35).2.1 (TX7 35).2.2.1 ∈ ax_g := ax_gm 653 (by decide +kernel) rfl
theorem fl_X7_83 : ax_FL RX7 83 7 35 := ⟨_, rfl, cf_X7, by decide, fk_X7_83⟩
theorem fk_X7_97 : Cond.fieldLink RX7 97 (TX7 0).1 (TX7 0).2.1 (TX7 0).2.2.1 ∈ ax_g := ax_gm 618 (by decide +kernel) rfl
theorem fl_X7_97 : ax_FL RX7 97 7 0 := ⟨_, rfl, cf_X7, by decide, fk_X7_97⟩
theorem fk_X7_135 : Cond.fieldLink RX7 135 (TX7 18).1 (TX7 18).2.1 (TX7 18).2.2.1 ∈ ax_g := ax_gm 636 (by decide +kernel) rfl
theorem fl_X7_135 : ax_FL RX7 135 7 18 := ⟨_, rfl, cf_X7, by decide, fk_X7_135⟩
theorem fk_X7_146 : Cond.fieldLink RX7 146 (TX7 23).1 (TX7 23).2.1 (TX7 23).2.2.1 ∈ ax_g := ax_gm 641 (by decide +kernel) rfl
theorem fl_X7_146 : ax_FL RX7 146 7 23 := ⟨_, rfl, cf_X7, by decide, fk_X7_146⟩
theorem fk_X7_173 : Cond.fieldLink RX7 173 (TX7 1).1 (TX7 1).2.1 (TX7 1).2.2.1 ∈ ax_g := ax_gm 619 (by decide +kernel) rfl
theorem fl_X7_173 : ax_FL RX7 173 7 1 := ⟨_, rfl, cf_X7, by decide, fk_X7_173⟩
theorem fk_X7_179 : Cond.fieldLink RX7 179 (TX7 24).1 (TX7 24).2.1 (TX7 24).2.2.1 ∈ ax_g := ax_gm 642 (by decide +kernel) rfl
theorem fl_X7_179 : ax_FL RX7 179 7 24 := ⟨_, rfl, cf_X7, by decide, fk_X7_179⟩
theorem fk_X7_185 : Cond.fieldLink RX7 185 (TX7 25).1 (TX7 25).2.1 (TX7 25).2.2.1 ∈ ax_g := ax_gm 643 (by decide +kernel) rfl
theorem fl_X7_185 : ax_FL RX7 185 7 25 := ⟨_, rfl, cf_X7, by decide, fk_X7_185⟩
theorem fk_X7_188 : Cond.fieldLink RX7 188 (TX7 27).1 (TX7 27).2.1 (TX7 27).2.2.1 ∈ ax_g := ax_gm 645 (by decide +kernel) rfl
theorem fl_X7_188 : ax_FL RX7 188 7 27 := ⟨_, rfl, cf_X7, by decide, fk_X7_188⟩
theorem fk_X7_191 : Cond.fieldLink RX7 191 (TX7 26).1 (TX7 26).2.1 (TX7 26).2.2.1 ∈ ax_g := ax_gm 644 (by decide +kernel) rfl
theorem fl_X7_191 : ax_FL RX7 191 7 26 := ⟨_, rfl, cf_X7, by decide, fk_X7_191⟩
theorem fk_X7_200 : Cond.fieldLink RX7 200 (TX7 30).1 (TX7 30).2.1 (TX7 30).2.2.1 ∈ ax_g := ax_gm 648 (by decide +kernel) rfl
theorem fl_X7_200 : ax_FL RX7 200 7 30 := ⟨_, rfl, cf_X7, by decide, fk_X7_200⟩
theorem fk_X7_203 : Cond.fieldLink RX7 203 (TX7 31).1 (TX7 31).2.1 (TX7 31).2.2.1 ∈ ax_g := ax_gm 649 (by decide +kernel) rfl
theorem fl_X7_203 : ax_FL RX7 203 7 31 := ⟨_, rfl, cf_X7, by decide, fk_X7_203⟩
theorem fk_X7_285 : Cond.fieldLink RX7 285 (TX7 16).1 (TX7 16).2.1 (TX7 16).2.2.1 ∈ ax_g := ax_gm 634 (by decide +kernel) rfl
theorem fl_X7_285 : ax_FL RX7 285 7 16 := ⟨_, rfl, cf_X7, by decide, fk_X7_285⟩
theorem fk_X7_306 : Cond.fieldLink RX7 306 (TX7 37).1 (TX7 37).2.1 (TX7 37).2.2.1 ∈ ax_g := ax_gm 655 (by decide +kernel) rfl
theorem fl_X7_306 : ax_FL RX7 306 7 37 := ⟨_, rfl, cf_X7, by decide, fk_X7_306⟩
theorem fk_X7_310 : Cond.fieldLink RX7 310 (TX7 36).1 (TX7 36).2.1 (TX7 36).2.2.1 ∈ ax_g := ax_gm 654 (by decide +kernel) rfl
theorem fl_X7_310 : ax_FL RX7 310 7 36 := ⟨_, rfl, cf_X7, by decide, fk_X7_310⟩
theorem ml_X7_1 : Cond.methodLink RX7 1 objectInit ∈ ax_g := ax_gm 617 (by decide +kernel) rfl
theorem ml_X7_89 : Cond.methodLink RX7 89 yX7_in ∈ ax_g := ax_gm 742 (by decide +kernel) rfl
theorem ml_X7_93 : Cond.methodLink RX7 93 yX7_isNumber ∈ ax_g := ax_gm 738 (by decide +kernel) rfl
theorem ml_X7_109 : Cond.methodLink RX7 109 yX7_ones ∈ ax_g := ax_gm 750 (by decide +kernel) rfl
theorem ml_X7_120 : Cond.methodLink RX7 120 yX7_isParish ∈ ax_g := ax_gm 771 (by decide +kernel) rfl
theorem ml_X7_149 : Cond.methodLink RX7 149 yX7_isLetter ∈ ax_g := ax_gm 809 (by decide +kernel) rfl
theorem ml_X7_166 : Cond.methodLink RX7 166 yX7_isParishLetter ∈ ax_g := ax_gm 824 (by decide +kernel) rfl
theorem ml_X7_232 : Cond.methodLink RX7 232 yX7_over ∈ ax_g := ax_gm 899 (by decide +kernel) rfl
theorem ml_X7_247 : Cond.methodLink RX7 247 yX7_lowest ∈ ax_g := ax_gm 914 (by decide +kernel) rfl
theorem ml_X7_274 : Cond.methodLink RX7 274 yX7_at ∈ ax_g := ax_gm 963 (by decide +kernel) rfl
theorem ml_X7_288 : Cond.methodLink RX7 288 yX7_makes ∈ ax_g := ax_gm 990 (by decide +kernel) rfl
theorem ml_X7_105 : Cond.methodLink RX7 105 yX7_clearParts ∈ ax_g := ax_gm 746 (by decide +kernel) rfl
theorem ml_X7_113 : Cond.methodLink RX7 113 yX7_isChild ∈ ax_g := ax_gm 757 (by decide +kernel) rfl
theorem ml_X7_152 : Cond.methodLink RX7 152 yX7_close ∈ ax_g := ax_gm 814 (by decide +kernel) rfl
theorem ml_X7_160 : Cond.methodLink RX7 160 yX7_begin ∈ ax_g := ax_gm 805 (by decide +kernel) rfl
theorem ml_X7_163 : Cond.methodLink RX7 163 yX7_deed ∈ ax_g := ax_gm 818 (by decide +kernel) rfl
theorem ml_X7_169 : Cond.methodLink RX7 169 yX7_readOn ∈ ax_g := ax_gm 801 (by decide +kernel) rfl
theorem ml_X7_176 : Cond.methodLink RX7 176 yX7_heldBy ∈ ax_g := ax_gm 850 (by decide +kernel) rfl
theorem ml_X7_182 : Cond.methodLink RX7 182 yX7_isSaint ∈ ax_g := ax_gm 866 (by decide +kernel) rfl
theorem ml_X7_194 : Cond.methodLink RX7 194 yX7_fall ∈ ax_g := ax_gm 858 (by decide +kernel) rfl
theorem ml_X7_197 : Cond.methodLink RX7 197 yX7_feast ∈ ax_g := ax_gm 862 (by decide +kernel) rfl
theorem ml_X7_206 : Cond.methodLink RX7 206 yX7_whyNot ∈ ax_g := ax_gm 846 (by decide +kernel) rfl
theorem ml_X7_210 : Cond.methodLink RX7 210 yX7_happen ∈ ax_g := ax_gm 854 (by decide +kernel) rfl
theorem ml_X7_214 : Cond.methodLink RX7 214 yX7_fault ∈ ax_g := ax_gm 837 (by decide +kernel) rfl
theorem ml_X7_217 : Cond.methodLink RX7 217 yX7_store ∈ ax_g := ax_gm 838 (by decide +kernel) rfl
theorem ml_X7_221 : Cond.methodLink RX7 221 yX7_goYears ∈ ax_g := ax_gm 842 (by decide +kernel) rfl
theorem ml_X7_224 : Cond.methodLink RX7 224 yX7_lay ∈ ax_g := ax_gm 870 (by decide +kernel) rfl
theorem ml_X7_227 : Cond.methodLink RX7 227 yX7_refusal ∈ ax_g := ax_gm 833 (by decide +kernel) rfl
theorem ml_X7_243 : Cond.methodLink RX7 243 yX7_yearOdds ∈ ax_g := ax_gm 910 (by decide +kernel) rfl
theorem ml_X7_251 : Cond.methodLink RX7 251 yX7_sumOf ∈ ax_g := ax_gm 921 (by decide +kernel) rfl
theorem ml_X7_255 : Cond.methodLink RX7 255 yX7_seenBy ∈ ax_g := ax_gm 929 (by decide +kernel) rfl
theorem ml_X7_258 : Cond.methodLink RX7 258 yX7_mostDays ∈ ax_g := ax_gm 938 (by decide +kernel) rfl
theorem ml_X7_261 : Cond.methodLink RX7 261 yX7_saints ∈ ax_g := ax_gm 937 (by decide +kernel) rfl
theorem ml_X7_264 : Cond.methodLink RX7 264 yX7_dayIn ∈ ax_g := ax_gm 942 (by decide +kernel) rfl
theorem ml_X7_268 : Cond.methodLink RX7 268 yX7_wondersAt ∈ ax_g := ax_gm 955 (by decide +kernel) rfl
theorem ml_X7_271 : Cond.methodLink RX7 271 yX7_sinsAt ∈ ax_g := ax_gm 959 (by decide +kernel) rfl
theorem ml_X7_277 : Cond.methodLink RX7 277 yX7_endOf ∈ ax_g := ax_gm 966 (by decide +kernel) rfl
theorem ml_X7_282 : Cond.methodLink RX7 282 yX7_findEnds ∈ ax_g := ax_gm 951 (by decide +kernel) rfl
theorem ml_X7_292 : Cond.methodLink RX7 292 yX7_fits ∈ ax_g := ax_gm 986 (by decide +kernel) rfl
theorem ml_X7_295 : Cond.methodLink RX7 295 yX7_mostLeft ∈ ax_g := ax_gm 997 (by decide +kernel) rfl
theorem ml_X7_313 : Cond.methodLink RX7 313 yX7_pass ∈ ax_g := ax_gm 1017 (by decide +kernel) rfl
theorem ml_X7_316 : Cond.methodLink RX7 316 yX7_passRow ∈ ax_g := ax_gm 1021 (by decide +kernel) rfl
theorem ml_X7_320 : Cond.methodLink RX7 320 yX7_passAll ∈ ax_g := ax_gm 1013 (by decide +kernel) rfl
theorem ml_X7_329 : Cond.methodLink RX7 329 yX7_toldOf ∈ ax_g := ax_gm 1035 (by decide +kernel) rfl
theorem ct_X7_87 : Cond.constantLong RX7 87 (5) ∈ ax_g := ax_gm 741 (by decide +kernel) rfl
theorem ct_X7_101 : Cond.constantLong RX7 101 (3) ∈ ax_g := ax_gm 774 (by decide +kernel) rfl
theorem ct_X7_103 : Cond.constantLong RX7 103 (99) ∈ ax_g := ax_gm 745 (by decide +kernel) rfl
theorem ct_X7_116 : Cond.constantLong RX7 116 (2) ∈ ax_g := ax_gm 765 (by decide +kernel) rfl
theorem ct_X7_118 : Cond.constantLong RX7 118 (9) ∈ ax_g := ax_gm 766 (by decide +kernel) rfl
theorem ct_X7_123 : Cond.constantLong RX7 123 (999) ∈ ax_g := ax_gm 775 (by decide +kernel) rfl
theorem ct_X7_125 : Cond.constantLong RX7 125 (4095) ∈ ax_g := ax_gm 780 (by decide +kernel) rfl
theorem ct_X7_127 : Cond.constantLong RX7 127 (7) ∈ ax_g := ax_gm 785 (by decide +kernel) rfl
theorem ct_X7_129 : Cond.constantLong RX7 129 (1023) ∈ ax_g := ax_gm 786 (by decide +kernel) rfl
theorem ct_X7_131 : Cond.constantLong RX7 131 (33) ∈ ax_g := ax_gm 791 (by decide +kernel) rfl
theorem ct_X7_133 : Cond.constantLong RX7 133 (126) ∈ ax_g := ax_gm 792 (by decide +kernel) rfl
theorem ct_X7_138 : Cond.constantLong RX7 138 (65) ∈ ax_g := ax_gm 812 (by decide +kernel) rfl
theorem ct_X7_140 : Cond.constantLong RX7 140 (70) ∈ ax_g := ax_gm 813 (by decide +kernel) rfl
theorem ct_X7_142 : Cond.constantLong RX7 142 (97) ∈ ax_g := ax_gm 827 (by decide +kernel) rfl
theorem ct_X7_144 : Cond.constantLong RX7 144 (100) ∈ ax_g := ax_gm 828 (by decide +kernel) rfl
theorem ct_X7_156 : Cond.constantLong RX7 156 (48) ∈ ax_g := ax_gm 822 (by decide +kernel) rfl
theorem ct_X7_158 : Cond.constantLong RX7 158 (55) ∈ ax_g := ax_gm 823 (by decide +kernel) rfl
theorem ct_X7_230 : Cond.constantLong RX7 230 (4) ∈ ax_g := ax_gm 878 (by decide +kernel) rfl
theorem ct_X7_235 : Cond.constantLong RX7 235 (10) ∈ ax_g := ax_gm 907 (by decide +kernel) rfl
theorem ct_X7_237 : Cond.constantLong RX7 237 (-1000000000000000001) ∈ ax_g := ax_gm 906 (by decide +kernel) rfl
theorem ct_X7_239 : Cond.constantLong RX7 239 (8) ∈ ax_g := ax_gm 908 (by decide +kernel) rfl
theorem ct_X7_241 : Cond.constantLong RX7 241 (-1000000000000000002) ∈ ax_g := ax_gm 909 (by decide +kernel) rfl
theorem ct_X7_280 : Cond.constantLong RX7 280 (12) ∈ ax_g := ax_gm 950 (by decide +kernel) rfl
theorem ct_X7_298 : Cond.constantLong RX7 298 (9999) ∈ ax_g := ax_gm 1005 (by decide +kernel) rfl
theorem ct_X7_300 : Cond.constantLong RX7 300 (75) ∈ ax_g := ax_gm 1006 (by decide +kernel) rfl
theorem ct_X7_302 : Cond.constantLong RX7 302 (74) ∈ ax_g := ax_gm 1007 (by decide +kernel) rfl
theorem ct_X7_304 : Cond.constantLong RX7 304 (65537) ∈ ax_g := ax_gm 1008 (by decide +kernel) rfl
theorem ct_X7_323 : Cond.constantLong RX7 323 (17) ∈ ax_g := ax_gm 1039 (by decide +kernel) rfl
theorem ct_X7_325 : Cond.constantLong RX7 325 (50) ∈ ax_g := ax_gm 1033 (by decide +kernel) rfl
theorem ct_X7_327 : Cond.constantLong RX7 327 (349) ∈ ax_g := ax_gm 1034 (by decide +kernel) rfl
theorem ct_X7_332 : Cond.constantLong RX7 332 (20) ∈ ax_g := ax_gm 1040 (by decide +kernel) rfl
theorem ct_X7_334 : Cond.constantLong RX7 334 (27) ∈ ax_g := ax_gm 1041 (by decide +kernel) rfl
theorem ct_X7_336 : Cond.constantLong RX7 336 (13) ∈ ax_g := ax_gm 1042 (by decide +kernel) rfl
theorem ff_X7_7 : ax_FF RX7 7 7 2 (.array .int) := ⟨_, rfl, cf_X7, by decide, fk_X7_7, rfl, rfl, by decide +kernel⟩
theorem ff_X7_13 : ax_FF RX7 13 7 3 (.array .int) := ⟨_, rfl, cf_X7, by decide, fk_X7_13, rfl, rfl, by decide +kernel⟩
theorem ff_X7_16 : ax_FF RX7 16 7 4 (.array .int) := ⟨_, rfl, cf_X7, by decide, fk_X7_16, rfl, rfl, by decide +kernel⟩
theorem ff_X7_19 : ax_FF RX7 19 7 5 (.array .int) := ⟨_, rfl, cf_X7, by decide, fk_X7_19, rfl, rfl, by decide +kernel⟩
theorem ff_X7_22 : ax_FF RX7 22 7 6 (.array .int) := ⟨_, rfl, cf_X7, by decide, fk_X7_22, rfl, rfl, by decide +kernel⟩
theorem ff_X7_25 : ax_FF RX7 25 7 7 (.array .int) := ⟨_, rfl, cf_X7, by decide, fk_X7_25, rfl, rfl, by decide +kernel⟩
theorem ff_X7_28 : ax_FF RX7 28 7 8 (.array .int) := ⟨_, rfl, cf_X7, by decide, fk_X7_28, rfl, rfl, by decide +kernel⟩
theorem ff_X7_31 : ax_FF RX7 31 7 9 (.array .int) := ⟨_, rfl, cf_X7, by decide, fk_X7_31, rfl, rfl, by decide +kernel⟩
theorem ff_X7_34 : ax_FF RX7 34 7 10 (.array .int) := ⟨_, rfl, cf_X7, by decide, fk_X7_34, rfl, rfl, by decide +kernel⟩
theorem ff_X7_37 : ax_FF RX7 37 7 11 (.array .int) := ⟨_, rfl, cf_X7, by decide, fk_X7_37, rfl, rfl, by decide +kernel⟩
theorem ff_X7_40 : ax_FF RX7 40 7 12 (.array .int) := ⟨_, rfl, cf_X7, by decide, fk_X7_40, rfl, rfl, by decide +kernel⟩
theorem ff_X7_43 : ax_FF RX7 43 7 13 (.array .int) := ⟨_, rfl, cf_X7, by decide, fk_X7_43, rfl, rfl, by decide +kernel⟩
theorem ff_X7_46 : ax_FF RX7 46 7 14 (.array .int) := ⟨_, rfl, cf_X7, by decide, fk_X7_46, rfl, rfl, by decide +kernel⟩
theorem ff_X7_49 : ax_FF RX7 49 7 15 (.array .int) := ⟨_, rfl, cf_X7, by decide, fk_X7_49, rfl, rfl, by decide +kernel⟩
theorem ff_X7_52 : ax_FF RX7 52 7 17 (.array .int) := ⟨_, rfl, cf_X7, by decide, fk_X7_52, rfl, rfl, by decide +kernel⟩
theorem ff_X7_55 : ax_FF RX7 55 7 19 (.array .int) := ⟨_, rfl, cf_X7, by decide, fk_X7_55, rfl, rfl, by decide +kernel⟩
theorem ff_X7_58 : ax_FF RX7 58 7 20 (.array .int) := ⟨_, rfl, cf_X7, by decide, fk_X7_58, rfl, rfl, by decide +kernel⟩
theorem ff_X7_61 : ax_FF RX7 61 7 21 (.array .int) := ⟨_, rfl, cf_X7, by decide, fk_X7_61, rfl, rfl, by decide +kernel⟩
theorem ff_X7_64 : ax_FF RX7 64 7 22 (.array .int) := ⟨_, rfl, cf_X7, by decide, fk_X7_64, rfl, rfl, by decide +kernel⟩
theorem ff_X7_67 : ax_FF RX7 67 7 28 (.array .int) := ⟨_, rfl, cf_X7, by decide, fk_X7_67, rfl, rfl, by decide +kernel⟩
theorem ff_X7_70 : ax_FF RX7 70 7 29 (.array .int) := ⟨_, rfl, cf_X7, by decide, fk_X7_70, rfl, rfl, by decide +kernel⟩
theorem ff_X7_73 : ax_FF RX7 73 7 32 (.array .long) := ⟨_, rfl, cf_X7, by decide, fk_X7_73, rfl, rfl, by decide +kernel⟩
theorem ff_X7_77 : ax_FF RX7 77 7 33 (.array .int) := ⟨_, rfl, cf_X7, by decide, fk_X7_77, rfl, rfl, by decide +kernel⟩
theorem ff_X7_80 : ax_FF RX7 80 7 34 (.array .int) := ⟨_, rfl, cf_X7, by decide, fk_X7_80, rfl, rfl, by decide +kernel⟩
theorem ff_X7_83 : ax_FF RX7 83 7 35 (.array .boolean) := ⟨_, rfl, cf_X7, by decide, fk_X7_83, rfl, rfl, by decide +kernel⟩
theorem fp_X7_97 : ax_FP RX7 97 7 0 .int := ⟨_, rfl, cf_X7, by decide, fk_X7_97, rfl, by decide +kernel⟩
theorem fp_X7_135 : ax_FP RX7 135 7 18 .int := ⟨_, rfl, cf_X7, by decide, fk_X7_135, rfl, by decide +kernel⟩
theorem fp_X7_146 : ax_FP RX7 146 7 23 .int := ⟨_, rfl, cf_X7, by decide, fk_X7_146, rfl, by decide +kernel⟩
theorem fp_X7_173 : ax_FP RX7 173 7 1 .int := ⟨_, rfl, cf_X7, by decide, fk_X7_173, rfl, by decide +kernel⟩
theorem fp_X7_179 : ax_FP RX7 179 7 24 .int := ⟨_, rfl, cf_X7, by decide, fk_X7_179, rfl, by decide +kernel⟩
theorem fp_X7_185 : ax_FP RX7 185 7 25 .int := ⟨_, rfl, cf_X7, by decide, fk_X7_185, rfl, by decide +kernel⟩
theorem fp_X7_188 : ax_FP RX7 188 7 27 .int := ⟨_, rfl, cf_X7, by decide, fk_X7_188, rfl, by decide +kernel⟩
theorem fp_X7_191 : ax_FP RX7 191 7 26 .int := ⟨_, rfl, cf_X7, by decide, fk_X7_191, rfl, by decide +kernel⟩
theorem fp_X7_200 : ax_FP RX7 200 7 30 .int := ⟨_, rfl, cf_X7, by decide, fk_X7_200, rfl, by decide +kernel⟩
theorem fp_X7_203 : ax_FP RX7 203 7 31 .int := ⟨_, rfl, cf_X7, by decide, fk_X7_203, rfl, by decide +kernel⟩
theorem fp_X7_285 : ax_FP RX7 285 7 16 .int := ⟨_, rfl, cf_X7, by decide, fk_X7_285, rfl, by decide +kernel⟩
theorem fp_X7_306 : ax_FP RX7 306 7 37 .boolean := ⟨_, rfl, cf_X7, by decide, fk_X7_306, rfl, by decide +kernel⟩
theorem fp_X7_310 : ax_FP RX7 310 7 36 .int := ⟨_, rfl, cf_X7, by decide, fk_X7_310, rfl, by decide +kernel⟩
theorem yk_X0_init : ax_Y yX0_init cX0_init 1 none 0 := ⟨ax_gm 162 (by decide +kernel) rfl, ax_gm 47 (by decide +kernel) rfl, ⟨by decide +kernel, by decide +kernel, by decide +kernel⟩, by decide⟩
theorem in_X0_init : Cond.instanceMethod yX0_init ∈ ax_g := ax_gm 161 (by decide +kernel) rfl
theorem yk_X0_put : ax_Y yX0_put cX0_put 5 none 4 := ⟨ax_gm 384 (by decide +kernel) rfl, ax_gm 47 (by decide +kernel) rfl, ⟨by decide +kernel, by decide +kernel, by decide +kernel⟩, by decide⟩
theorem in_X0_put : Cond.instanceMethod yX0_put ∈ ax_g := ax_gm 382 (by decide +kernel) rfl
theorem se_X0_put : Cond.selects yX0_put.cls yX0_put yX0_put ∈ ax_g := ax_gm 383 (by decide +kernel) rfl
theorem yk_X0_draw : ax_Y yX0_draw cX0_draw 2 none 1 := ⟨ax_gm 579 (by decide +kernel) rfl, ax_gm 47 (by decide +kernel) rfl, ⟨by decide +kernel, by decide +kernel, by decide +kernel⟩, by decide⟩
theorem in_X0_draw : Cond.instanceMethod yX0_draw ∈ ax_g := ax_gm 577 (by decide +kernel) rfl
theorem se_X0_draw : Cond.selects yX0_draw.cls yX0_draw yX0_draw ∈ ax_g := ax_gm 578 (by decide +kernel) rfl
theorem yk_X0_drawnKind : ax_Y yX0_drawnKind cX0_drawnKind 1 (some .int) 1 := ⟨ax_gm 582 (by decide +kernel) rfl, ax_gm 47 (by decide +kernel) rfl, ⟨by decide +kernel, by decide +kernel, by decide +kernel⟩, by decide⟩
theorem st_X0_drawnKind : Cond.static yX0_drawnKind ∈ ax_g := ax_gm 581 (by decide +kernel) rfl
theorem yk_X1_init : ax_Y yX1_init cX1_init 1 none 0 := ⟨ax_gm 217 (by decide +kernel) rfl, ax_gm 48 (by decide +kernel) rfl, ⟨by decide +kernel, by decide +kernel, by decide +kernel⟩, by decide⟩
theorem in_X1_init : Cond.instanceMethod yX1_init ∈ ax_g := ax_gm 216 (by decide +kernel) rfl
theorem yk_X1_spread : ax_Y yX1_spread cX1_spread 6 none 4 := ⟨ax_gm 474 (by decide +kernel) rfl, ax_gm 48 (by decide +kernel) rfl, ⟨by decide +kernel, by decide +kernel, by decide +kernel⟩, by decide⟩
theorem in_X1_spread : Cond.instanceMethod yX1_spread ∈ ax_g := ax_gm 472 (by decide +kernel) rfl
theorem se_X1_spread : Cond.selects yX1_spread.cls yX1_spread yX1_spread ∈ ax_g := ax_gm 473 (by decide +kernel) rfl
theorem yk_X1_addYear : ax_Y yX1_addYear cX1_addYear 8 none 2 := ⟨ax_gm 478 (by decide +kernel) rfl, ax_gm 48 (by decide +kernel) rfl, ⟨by decide +kernel, by decide +kernel, by decide +kernel⟩, by decide⟩
theorem in_X1_addYear : Cond.instanceMethod yX1_addYear ∈ ax_g := ax_gm 477 (by decide +kernel) rfl
theorem se_X1_addYear : Cond.selects yX1_addYear.cls yX1_addYear yX1_addYear ∈ ax_g := ax_gm 7 (by decide +kernel) rfl
theorem yk_X1_waysToSaint : ax_Y yX1_waysToSaint cX1_waysToSaint 7 (some .long) 2 := ⟨ax_gm 482 (by decide +kernel) rfl, ax_gm 48 (by decide +kernel) rfl, ⟨by decide +kernel, by decide +kernel, by decide +kernel⟩, by decide⟩
theorem in_X1_waysToSaint : Cond.instanceMethod yX1_waysToSaint ∈ ax_g := ax_gm 480 (by decide +kernel) rfl
theorem se_X1_waysToSaint : Cond.selects yX1_waysToSaint.cls yX1_waysToSaint yX1_waysToSaint ∈ ax_g := ax_gm 481 (by decide +kernel) rfl
theorem yk_X1_allWays : ax_Y yX1_allWays cX1_allWays 5 (some .long) 1 := ⟨ax_gm 487 (by decide +kernel) rfl, ax_gm 48 (by decide +kernel) rfl, ⟨by decide +kernel, by decide +kernel, by decide +kernel⟩, by decide⟩
theorem in_X1_allWays : Cond.instanceMethod yX1_allWays ∈ ax_g := ax_gm 485 (by decide +kernel) rfl
theorem se_X1_allWays : Cond.selects yX1_allWays.cls yX1_allWays yX1_allWays ∈ ax_g := ax_gm 486 (by decide +kernel) rfl
theorem yk_X2_init : ax_Y yX2_init cX2_init 2 none 0 := ⟨ax_gm 66 (by decide +kernel) rfl, ax_gm 44 (by decide +kernel) rfl, ⟨by decide +kernel, by decide +kernel, by decide +kernel⟩, by decide⟩
theorem in_X2_init : Cond.instanceMethod yX2_init ∈ ax_g := ax_gm 65 (by decide +kernel) rfl
theorem yk_X2_copyFrom : ax_Y yX2_copyFrom cX2_copyFrom 2 none 1 := ⟨ax_gm 365 (by decide +kernel) rfl, ax_gm 44 (by decide +kernel) rfl, ⟨by decide +kernel, by decide +kernel, by decide +kernel⟩, by decide⟩
theorem in_X2_copyFrom : Cond.instanceMethod yX2_copyFrom ∈ ax_g := ax_gm 363 (by decide +kernel) rfl
theorem se_X2_copyFrom : Cond.selects yX2_copyFrom.cls yX2_copyFrom yX2_copyFrom ∈ ax_g := ax_gm 364 (by decide +kernel) rfl
theorem yk_X2_isThere : ax_Y yX2_isThere cX2_isThere 2 (some .boolean) 1 := ⟨ax_gm 292 (by decide +kernel) rfl, ax_gm 44 (by decide +kernel) rfl, ⟨by decide +kernel, by decide +kernel, by decide +kernel⟩, by decide⟩
theorem in_X2_isThere : Cond.instanceMethod yX2_isThere ∈ ax_g := ax_gm 290 (by decide +kernel) rfl
theorem se_X2_isThere : Cond.selects yX2_isThere.cls yX2_isThere yX2_isThere ∈ ax_g := ax_gm 291 (by decide +kernel) rfl
theorem yk_X2_isFallen : ax_Y yX2_isFallen cX2_isFallen 2 (some .boolean) 1 := ⟨ax_gm 393 (by decide +kernel) rfl, ax_gm 44 (by decide +kernel) rfl, ⟨by decide +kernel, by decide +kernel, by decide +kernel⟩, by decide⟩
theorem in_X2_isFallen : Cond.instanceMethod yX2_isFallen ∈ ax_g := ax_gm 391 (by decide +kernel) rfl
theorem se_X2_isFallen : Cond.selects yX2_isFallen.cls yX2_isFallen yX2_isFallen ∈ ax_g := ax_gm 392 (by decide +kernel) rfl
theorem yk_X2_isSaint : ax_Y yX2_isSaint cX2_isSaint 2 (some .boolean) 1 := ⟨ax_gm 421 (by decide +kernel) rfl, ax_gm 44 (by decide +kernel) rfl, ⟨by decide +kernel, by decide +kernel, by decide +kernel⟩, by decide⟩
theorem in_X2_isSaint : Cond.instanceMethod yX2_isSaint ∈ ax_g := ax_gm 419 (by decide +kernel) rfl
theorem se_X2_isSaint : Cond.selects yX2_isSaint.cls yX2_isSaint yX2_isSaint ∈ ax_g := ax_gm 420 (by decide +kernel) rfl
theorem yk_X2_wouldBeSaint : ax_Y yX2_wouldBeSaint cX2_wouldBeSaint 4 (some .boolean) 3 := ⟨ax_gm 425 (by decide +kernel) rfl, ax_gm 44 (by decide +kernel) rfl, ⟨by decide +kernel, by decide +kernel, by decide +kernel⟩, by decide⟩
theorem in_X2_wouldBeSaint : Cond.instanceMethod yX2_wouldBeSaint ∈ ax_g := ax_gm 423 (by decide +kernel) rfl
theorem se_X2_wouldBeSaint : Cond.selects yX2_wouldBeSaint.cls yX2_wouldBeSaint yX2_wouldBeSaint ∈ ax_g := ax_gm 424 (by decide +kernel) rfl
theorem yk_X2_saintBits : ax_Y yX2_saintBits cX2_saintBits 3 (some .int) 0 := ⟨ax_gm 456 (by decide +kernel) rfl, ax_gm 44 (by decide +kernel) rfl, ⟨by decide +kernel, by decide +kernel, by decide +kernel⟩, by decide⟩
theorem in_X2_saintBits : Cond.instanceMethod yX2_saintBits ∈ ax_g := ax_gm 454 (by decide +kernel) rfl
theorem se_X2_saintBits : Cond.selects yX2_saintBits.cls yX2_saintBits yX2_saintBits ∈ ax_g := ax_gm 455 (by decide +kernel) rfl
theorem yk_X2_enter : ax_Y yX2_enter cX2_enter 5 none 4 := ⟨ax_gm 274 (by decide +kernel) rfl, ax_gm 44 (by decide +kernel) rfl, ⟨by decide +kernel, by decide +kernel, by decide +kernel⟩, by decide⟩
theorem in_X2_enter : Cond.instanceMethod yX2_enter ∈ ax_g := ax_gm 272 (by decide +kernel) rfl
theorem se_X2_enter : Cond.selects yX2_enter.cls yX2_enter yX2_enter ∈ ax_g := ax_gm 273 (by decide +kernel) rfl
theorem yk_X2_remove : ax_Y yX2_remove cX2_remove 2 none 1 := ⟨ax_gm 297 (by decide +kernel) rfl, ax_gm 44 (by decide +kernel) rfl, ⟨by decide +kernel, by decide +kernel, by decide +kernel⟩, by decide⟩
theorem in_X2_remove : Cond.instanceMethod yX2_remove ∈ ax_g := ax_gm 295 (by decide +kernel) rfl
theorem se_X2_remove : Cond.selects yX2_remove.cls yX2_remove yX2_remove ∈ ax_g := ax_gm 296 (by decide +kernel) rfl
theorem yk_X2_freeParts : ax_Y yX2_freeParts cX2_freeParts 3 none 1 := ⟨ax_gm 278 (by decide +kernel) rfl, ax_gm 44 (by decide +kernel) rfl, ⟨by decide +kernel, by decide +kernel, by decide +kernel⟩, by decide⟩
theorem in_X2_freeParts : Cond.instanceMethod yX2_freeParts ∈ ax_g := ax_gm 277 (by decide +kernel) rfl
theorem se_X2_freeParts : Cond.selects yX2_freeParts.cls yX2_freeParts yX2_freeParts ∈ ax_g := ax_gm 0 (by decide +kernel) rfl
theorem yk_X2_holderOf : ax_Y yX2_holderOf cX2_holderOf 3 (some .int) 2 := ⟨ax_gm 401 (by decide +kernel) rfl, ax_gm 44 (by decide +kernel) rfl, ⟨by decide +kernel, by decide +kernel, by decide +kernel⟩, by decide⟩
theorem in_X2_holderOf : Cond.instanceMethod yX2_holderOf ∈ ax_g := ax_gm 399 (by decide +kernel) rfl
theorem se_X2_holderOf : Cond.selects yX2_holderOf.cls yX2_holderOf yX2_holderOf ∈ ax_g := ax_gm 400 (by decide +kernel) rfl
theorem yk_X2_partBits : ax_Y yX2_partBits cX2_partBits 5 (some .int) 2 := ⟨ax_gm 405 (by decide +kernel) rfl, ax_gm 44 (by decide +kernel) rfl, ⟨by decide +kernel, by decide +kernel, by decide +kernel⟩, by decide⟩
theorem in_X2_partBits : Cond.instanceMethod yX2_partBits ∈ ax_g := ax_gm 403 (by decide +kernel) rfl
theorem se_X2_partBits : Cond.selects yX2_partBits.cls yX2_partBits yX2_partBits ∈ ax_g := ax_gm 404 (by decide +kernel) rfl
theorem yk_X2_heldParts : ax_Y yX2_heldParts cX2_heldParts 2 (some .int) 1 := ⟨ax_gm 536 (by decide +kernel) rfl, ax_gm 44 (by decide +kernel) rfl, ⟨by decide +kernel, by decide +kernel, by decide +kernel⟩, by decide⟩
theorem in_X2_heldParts : Cond.instanceMethod yX2_heldParts ∈ ax_g := ax_gm 534 (by decide +kernel) rfl
theorem se_X2_heldParts : Cond.selects yX2_heldParts.cls yX2_heldParts yX2_heldParts ∈ ax_g := ax_gm 535 (by decide +kernel) rfl
theorem yk_X2_allHeldParts : ax_Y yX2_allHeldParts cX2_allHeldParts 3 (some .int) 0 := ⟨ax_gm 593 (by decide +kernel) rfl, ax_gm 44 (by decide +kernel) rfl, ⟨by decide +kernel, by decide +kernel, by decide +kernel⟩, by decide⟩
theorem in_X2_allHeldParts : Cond.instanceMethod yX2_allHeldParts ∈ ax_g := ax_gm 591 (by decide +kernel) rfl
theorem se_X2_allHeldParts : Cond.selects yX2_allHeldParts.cls yX2_allHeldParts yX2_allHeldParts ∈ ax_g := ax_gm 592 (by decide +kernel) rfl
theorem yk_X2_pursesTogether : ax_Y yX2_pursesTogether cX2_pursesTogether 3 (some .int) 0 := ⟨ax_gm 589 (by decide +kernel) rfl, ax_gm 44 (by decide +kernel) rfl, ⟨by decide +kernel, by decide +kernel, by decide +kernel⟩, by decide⟩
theorem in_X2_pursesTogether : Cond.instanceMethod yX2_pursesTogether ∈ ax_g := ax_gm 587 (by decide +kernel) rfl
theorem se_X2_pursesTogether : Cond.selects yX2_pursesTogether.cls yX2_pursesTogether yX2_pursesTogether ∈ ax_g := ax_gm 588 (by decide +kernel) rfl
theorem yk_X2_addSight : ax_Y yX2_addSight cX2_addSight 5 none 3 := ⟨ax_gm 544 (by decide +kernel) rfl, ax_gm 44 (by decide +kernel) rfl, ⟨by decide +kernel, by decide +kernel, by decide +kernel⟩, by decide⟩
theorem in_X2_addSight : Cond.instanceMethod yX2_addSight ∈ ax_g := ax_gm 542 (by decide +kernel) rfl
theorem se_X2_addSight : Cond.selects yX2_addSight.cls yX2_addSight yX2_addSight ∈ ax_g := ax_gm 543 (by decide +kernel) rfl
theorem yk_X2_reasonAgainst : ax_Y yX2_reasonAgainst cX2_reasonAgainst 2 (some .int) 1 := ⟨ax_gm 388 (by decide +kernel) rfl, ax_gm 44 (by decide +kernel) rfl, ⟨by decide +kernel, by decide +kernel, by decide +kernel⟩, by decide⟩
theorem in_X2_reasonAgainst : Cond.instanceMethod yX2_reasonAgainst ∈ ax_g := ax_gm 386 (by decide +kernel) rfl
theorem se_X2_reasonAgainst : Cond.selects yX2_reasonAgainst.cls yX2_reasonAgainst yX2_reasonAgainst ∈ ax_g := ax_gm 387 (by decide +kernel) rfl
theorem yk_X2_reasonAgainstLetting : ax_Y yX2_reasonAgainstLetting cX2_reasonAgainstLetting 2 (some .int) 1 := ⟨ax_gm 397 (by decide +kernel) rfl, ax_gm 44 (by decide +kernel) rfl, ⟨by decide +kernel, by decide +kernel, by decide +kernel⟩, by decide⟩
theorem in_X2_reasonAgainstLetting : Cond.instanceMethod yX2_reasonAgainstLetting ∈ ax_g := ax_gm 396 (by decide +kernel) rfl
theorem se_X2_reasonAgainstLetting : Cond.selects yX2_reasonAgainstLetting.cls yX2_reasonAgainstLetting yX2_reasonAgainstLetting ∈ ax_g := ax_gm 4 (by decide +kernel) rfl
theorem yk_X2_live : ax_Y yX2_live cX2_live 2 none 1 := ⟨ax_gm 409 (by decide +kernel) rfl, ax_gm 44 (by decide +kernel) rfl, ⟨by decide +kernel, by decide +kernel, by decide +kernel⟩, by decide⟩
theorem in_X2_live : Cond.instanceMethod yX2_live ∈ ax_g := ax_gm 407 (by decide +kernel) rfl
theorem se_X2_live : Cond.selects yX2_live.cls yX2_live yX2_live ∈ ax_g := ax_gm 408 (by decide +kernel) rfl
theorem yk_X2_fall : ax_Y yX2_fall cX2_fall 4 none 1 := ⟨ax_gm 413 (by decide +kernel) rfl, ax_gm 44 (by decide +kernel) rfl, ⟨by decide +kernel, by decide +kernel, by decide +kernel⟩, by decide⟩
theorem in_X2_fall : Cond.instanceMethod yX2_fall ∈ ax_g := ax_gm 412 (by decide +kernel) rfl
theorem se_X2_fall : Cond.selects yX2_fall.cls yX2_fall yX2_fall ∈ ax_g := ax_gm 5 (by decide +kernel) rfl
theorem yk_X3_init : ax_Y yX3_init cX3_init 1 none 0 := ⟨ax_gm 228 (by decide +kernel) rfl, ax_gm 49 (by decide +kernel) rfl, ⟨by decide +kernel, by decide +kernel, by decide +kernel⟩, by decide⟩
theorem in_X3_init : Cond.instanceMethod yX3_init ∈ ax_g := ax_gm 227 (by decide +kernel) rfl
theorem yk_X3_find : ax_Y yX3_find cX3_find 3 none 1 := ⟨ax_gm 556 (by decide +kernel) rfl, ax_gm 49 (by decide +kernel) rfl, ⟨by decide +kernel, by decide +kernel, by decide +kernel⟩, by decide⟩
theorem in_X3_find : Cond.instanceMethod yX3_find ∈ ax_g := ax_gm 554 (by decide +kernel) rfl
theorem se_X3_find : Cond.selects yX3_find.cls yX3_find yX3_find ∈ ax_g := ax_gm 555 (by decide +kernel) rfl
theorem yk_X3_fits : ax_Y yX3_fits cX3_fits 5 (some .boolean) 2 := ⟨ax_gm 559 (by decide +kernel) rfl, ax_gm 49 (by decide +kernel) rfl, ⟨by decide +kernel, by decide +kernel, by decide +kernel⟩, by decide⟩
theorem st_X3_fits : Cond.static yX3_fits ∈ ax_g := ax_gm 558 (by decide +kernel) rfl
theorem yk_X3_makesSaint : ax_Y yX3_makesSaint cX3_makesSaint 3 (some .boolean) 3 := ⟨ax_gm 562 (by decide +kernel) rfl, ax_gm 49 (by decide +kernel) rfl, ⟨by decide +kernel, by decide +kernel, by decide +kernel⟩, by decide⟩
theorem st_X3_makesSaint : Cond.static yX3_makesSaint ∈ ax_g := ax_gm 561 (by decide +kernel) rfl
theorem yk_X3_countThatMake : ax_Y yX3_countThatMake cX3_countThatMake 5 (some .int) 2 := ⟨ax_gm 570 (by decide +kernel) rfl, ax_gm 49 (by decide +kernel) rfl, ⟨by decide +kernel, by decide +kernel, by decide +kernel⟩, by decide⟩
theorem in_X3_countThatMake : Cond.instanceMethod yX3_countThatMake ∈ ax_g := ax_gm 568 (by decide +kernel) rfl
theorem se_X3_countThatMake : Cond.selects yX3_countThatMake.cls yX3_countThatMake yX3_countThatMake ∈ ax_g := ax_gm 569 (by decide +kernel) rfl
theorem yk_X4_init : ax_Y yX4_init cX4_init 1 none 0 := ⟨ax_gm 140 (by decide +kernel) rfl, ax_gm 45 (by decide +kernel) rfl, ⟨by decide +kernel, by decide +kernel, by decide +kernel⟩, by decide⟩
theorem in_X4_init : Cond.instanceMethod yX4_init ∈ ax_g := ax_gm 139 (by decide +kernel) rfl
theorem yk_X4_write : ax_Y yX4_write cX4_write 2 none 1 := ⟨ax_gm 321 (by decide +kernel) rfl, ax_gm 45 (by decide +kernel) rfl, ⟨by decide +kernel, by decide +kernel, by decide +kernel⟩, by decide⟩
theorem in_X4_write : Cond.instanceMethod yX4_write ∈ ax_g := ax_gm 319 (by decide +kernel) rfl
theorem se_X4_write : Cond.selects yX4_write.cls yX4_write yX4_write ∈ ax_g := ax_gm 320 (by decide +kernel) rfl
theorem yk_X4_firstFault : ax_Y yX4_firstFault cX4_firstFault 3 (some .int) 0 := ⟨ax_gm 333 (by decide +kernel) rfl, ax_gm 45 (by decide +kernel) rfl, ⟨by decide +kernel, by decide +kernel, by decide +kernel⟩, by decide⟩
theorem in_X4_firstFault : Cond.instanceMethod yX4_firstFault ∈ ax_g := ax_gm 331 (by decide +kernel) rfl
theorem se_X4_firstFault : Cond.selects yX4_firstFault.cls yX4_firstFault yX4_firstFault ∈ ax_g := ax_gm 332 (by decide +kernel) rfl
theorem yk_X4_wantedAfter : ax_Y yX4_wantedAfter cX4_wantedAfter 2 (some .int) 2 := ⟨ax_gm 341 (by decide +kernel) rfl, ax_gm 45 (by decide +kernel) rfl, ⟨by decide +kernel, by decide +kernel, by decide +kernel⟩, by decide⟩
theorem st_X4_wantedAfter : Cond.static yX4_wantedAfter ∈ ax_g := ax_gm 340 (by decide +kernel) rfl
theorem yk_X4_wantedAfterFirst : ax_Y yX4_wantedAfterFirst cX4_wantedAfterFirst 1 (some .int) 1 := ⟨ax_gm 344 (by decide +kernel) rfl, ax_gm 45 (by decide +kernel) rfl, ⟨by decide +kernel, by decide +kernel, by decide +kernel⟩, by decide⟩
theorem st_X4_wantedAfterFirst : Cond.static yX4_wantedAfterFirst ∈ ax_g := ax_gm 343 (by decide +kernel) rfl
theorem yk_X4_isChild : ax_Y yX4_isChild cX4_isChild 1 (some .boolean) 1 := ⟨ax_gm 347 (by decide +kernel) rfl, ax_gm 45 (by decide +kernel) rfl, ⟨by decide +kernel, by decide +kernel, by decide +kernel⟩, by decide⟩
theorem st_X4_isChild : Cond.static yX4_isChild ∈ ax_g := ax_gm 346 (by decide +kernel) rfl
theorem yk_X4_isParish : ax_Y yX4_isParish cX4_isParish 1 (some .boolean) 1 := ⟨ax_gm 353 (by decide +kernel) rfl, ax_gm 45 (by decide +kernel) rfl, ⟨by decide +kernel, by decide +kernel, by decide +kernel⟩, by decide⟩
theorem st_X4_isParish : Cond.static yX4_isParish ∈ ax_g := ax_gm 352 (by decide +kernel) rfl
theorem yk_X4_deedKind : ax_Y yX4_deedKind cX4_deedKind 1 (some .int) 1 := ⟨ax_gm 350 (by decide +kernel) rfl, ax_gm 45 (by decide +kernel) rfl, ⟨by decide +kernel, by decide +kernel, by decide +kernel⟩, by decide⟩
theorem st_X4_deedKind : Cond.static yX4_deedKind ∈ ax_g := ax_gm 349 (by decide +kernel) rfl
theorem yk_X4_signAt : ax_Y yX4_signAt cX4_signAt 2 (some .char) 1 := ⟨ax_gm 337 (by decide +kernel) rfl, ax_gm 45 (by decide +kernel) rfl, ⟨by decide +kernel, by decide +kernel, by decide +kernel⟩, by decide⟩
theorem in_X4_signAt : Cond.instanceMethod yX4_signAt ∈ ax_g := ax_gm 336 (by decide +kernel) rfl
theorem se_X4_signAt : Cond.selects yX4_signAt.cls yX4_signAt yX4_signAt ∈ ax_g := ax_gm 1 (by decide +kernel) rfl
theorem yk_X4_readAct : ax_Y yX4_readAct cX4_readAct 7 (some .int) 2 := ⟨ax_gm 380 (by decide +kernel) rfl, ax_gm 45 (by decide +kernel) rfl, ⟨by decide +kernel, by decide +kernel, by decide +kernel⟩, by decide⟩
theorem in_X4_readAct : Cond.instanceMethod yX4_readAct ∈ ax_g := ax_gm 378 (by decide +kernel) rfl
theorem se_X4_readAct : Cond.selects yX4_readAct.cls yX4_readAct yX4_readAct ∈ ax_g := ax_gm 379 (by decide +kernel) rfl
theorem yk_X5_init : ax_Y yX5_init cX5_init 1 none 0 := ⟨ax_gm 156 (by decide +kernel) rfl, ax_gm 46 (by decide +kernel) rfl, ⟨by decide +kernel, by decide +kernel, by decide +kernel⟩, by decide⟩
theorem in_X5_init : Cond.instanceMethod yX5_init ∈ ax_g := ax_gm 155 (by decide +kernel) rfl
theorem yk_X5_live : ax_Y yX5_live cX5_live 6 none 2 := ⟨ax_gm 372 (by decide +kernel) rfl, ax_gm 46 (by decide +kernel) rfl, ⟨by decide +kernel, by decide +kernel, by decide +kernel⟩, by decide⟩
theorem in_X5_live : Cond.instanceMethod yX5_live ∈ ax_g := ax_gm 370 (by decide +kernel) rfl
theorem se_X5_live : Cond.selects yX5_live.cls yX5_live yX5_live ∈ ax_g := ax_gm 371 (by decide +kernel) rfl
theorem yk_X5_clear : ax_Y yX5_clear cX5_clear 1 none 0 := ⟨ax_gm 376 (by decide +kernel) rfl, ax_gm 46 (by decide +kernel) rfl, ⟨by decide +kernel, by decide +kernel, by decide +kernel⟩, by decide⟩
theorem in_X5_clear : Cond.instanceMethod yX5_clear ∈ ax_g := ax_gm 375 (by decide +kernel) rfl
theorem se_X5_clear : Cond.selects yX5_clear.cls yX5_clear yX5_clear ∈ ax_g := ax_gm 3 (by decide +kernel) rfl
theorem yk_X5_countFeast : ax_Y yX5_countFeast cX5_countFeast 2 none 1 := ⟨ax_gm 429 (by decide +kernel) rfl, ax_gm 46 (by decide +kernel) rfl, ⟨by decide +kernel, by decide +kernel, by decide +kernel⟩, by decide⟩
theorem in_X5_countFeast : Cond.instanceMethod yX5_countFeast ∈ ax_g := ax_gm 428 (by decide +kernel) rfl
theorem se_X5_countFeast : Cond.selects yX5_countFeast.cls yX5_countFeast yX5_countFeast ∈ ax_g := ax_gm 6 (by decide +kernel) rfl
theorem yk_X6_init : ax_Y yX6_init cX6_init 1 none 0 := ⟨ax_gm 58 (by decide +kernel) rfl, ax_gm 43 (by decide +kernel) rfl, ⟨by decide +kernel, by decide +kernel, by decide +kernel⟩, by decide⟩
theorem in_X6_init : Cond.instanceMethod yX6_init ∈ ax_g := ax_gm 57 (by decide +kernel) rfl
theorem yk_X6_child : ax_Y yX6_child cX6_child 5 (some .int) 4 := ⟨ax_gm 267 (by decide +kernel) rfl, ax_gm 43 (by decide +kernel) rfl, ⟨by decide +kernel, by decide +kernel, by decide +kernel⟩, by decide⟩
theorem in_X6_child : Cond.instanceMethod yX6_child ∈ ax_g := ax_gm 265 (by decide +kernel) rfl
theorem se_X6_child : Cond.selects yX6_child.cls yX6_child yX6_child ∈ ax_g := ax_gm 266 (by decide +kernel) rfl
theorem yk_X6_leave : ax_Y yX6_leave cX6_leave 2 (some .int) 1 := ⟨ax_gm 288 (by decide +kernel) rfl, ax_gm 43 (by decide +kernel) rfl, ⟨by decide +kernel, by decide +kernel, by decide +kernel⟩, by decide⟩
theorem in_X6_leave : Cond.instanceMethod yX6_leave ∈ ax_g := ax_gm 286 (by decide +kernel) rfl
theorem se_X6_leave : Cond.selects yX6_leave.cls yX6_leave yX6_leave ∈ ax_g := ax_gm 287 (by decide +kernel) rfl
theorem yk_X6_law : ax_Y yX6_law cX6_law 4 (some .int) 2 := ⟨ax_gm 301 (by decide +kernel) rfl, ax_gm 43 (by decide +kernel) rfl, ⟨by decide +kernel, by decide +kernel, by decide +kernel⟩, by decide⟩
theorem in_X6_law : Cond.instanceMethod yX6_law ∈ ax_g := ax_gm 299 (by decide +kernel) rfl
theorem se_X6_law : Cond.selects yX6_law.cls yX6_law yX6_law ∈ ax_g := ax_gm 300 (by decide +kernel) rfl
theorem yk_X6_purse : ax_Y yX6_purse cX6_purse 4 (some .int) 2 := ⟨ax_gm 305 (by decide +kernel) rfl, ax_gm 43 (by decide +kernel) rfl, ⟨by decide +kernel, by decide +kernel, by decide +kernel⟩, by decide⟩
theorem in_X6_purse : Cond.instanceMethod yX6_purse ∈ ax_g := ax_gm 303 (by decide +kernel) rfl
theorem se_X6_purse : Cond.selects yX6_purse.cls yX6_purse yX6_purse ∈ ax_g := ax_gm 304 (by decide +kernel) rfl
theorem yk_X6_offer : ax_Y yX6_offer cX6_offer 6 (some .int) 4 := ⟨ax_gm 309 (by decide +kernel) rfl, ax_gm 43 (by decide +kernel) rfl, ⟨by decide +kernel, by decide +kernel, by decide +kernel⟩, by decide⟩
theorem in_X6_offer : Cond.instanceMethod yX6_offer ∈ ax_g := ax_gm 307 (by decide +kernel) rfl
theorem se_X6_offer : Cond.selects yX6_offer.cls yX6_offer yX6_offer ∈ ax_g := ax_gm 308 (by decide +kernel) rfl
theorem yk_X6_witness : ax_Y yX6_witness cX6_witness 4 (some .int) 2 := ⟨ax_gm 313 (by decide +kernel) rfl, ax_gm 43 (by decide +kernel) rfl, ⟨by decide +kernel, by decide +kernel, by decide +kernel⟩, by decide⟩
theorem in_X6_witness : Cond.instanceMethod yX6_witness ∈ ax_g := ax_gm 311 (by decide +kernel) rfl
theorem se_X6_witness : Cond.selects yX6_witness.cls yX6_witness yX6_witness ∈ ax_g := ax_gm 312 (by decide +kernel) rfl
theorem yk_X6_say : ax_Y yX6_say cX6_say 2 (some .int) 1 := ⟨ax_gm 317 (by decide +kernel) rfl, ax_gm 43 (by decide +kernel) rfl, ⟨by decide +kernel, by decide +kernel, by decide +kernel⟩, by decide⟩
theorem in_X6_say : Cond.instanceMethod yX6_say ∈ ax_g := ax_gm 315 (by decide +kernel) rfl
theorem se_X6_say : Cond.selects yX6_say.cls yX6_say yX6_say ∈ ax_g := ax_gm 316 (by decide +kernel) rfl
theorem yk_X6_wipe : ax_Y yX6_wipe cX6_wipe 2 (some .int) 0 := ⟨ax_gm 325 (by decide +kernel) rfl, ax_gm 43 (by decide +kernel) rfl, ⟨by decide +kernel, by decide +kernel, by decide +kernel⟩, by decide⟩
theorem in_X6_wipe : Cond.instanceMethod yX6_wipe ∈ ax_g := ax_gm 323 (by decide +kernel) rfl
theorem se_X6_wipe : Cond.selects yX6_wipe.cls yX6_wipe yX6_wipe ∈ ax_g := ax_gm 324 (by decide +kernel) rfl
theorem yk_X6_fault : ax_Y yX6_fault cX6_fault 1 (some .int) 0 := ⟨ax_gm 329 (by decide +kernel) rfl, ax_gm 43 (by decide +kernel) rfl, ⟨by decide +kernel, by decide +kernel, by decide +kernel⟩, by decide⟩
theorem in_X6_fault : Cond.instanceMethod yX6_fault ∈ ax_g := ax_gm 327 (by decide +kernel) rfl
theorem se_X6_fault : Cond.selects yX6_fault.cls yX6_fault yX6_fault ∈ ax_g := ax_gm 328 (by decide +kernel) rfl
theorem yk_X6_judge : ax_Y yX6_judge cX6_judge 3 (some .int) 1 := ⟨ax_gm 357 (by decide +kernel) rfl, ax_gm 43 (by decide +kernel) rfl, ⟨by decide +kernel, by decide +kernel, by decide +kernel⟩, by decide⟩
theorem in_X6_judge : Cond.instanceMethod yX6_judge ∈ ax_g := ax_gm 355 (by decide +kernel) rfl
theorem se_X6_judge : Cond.selects yX6_judge.cls yX6_judge yX6_judge ∈ ax_g := ax_gm 356 (by decide +kernel) rfl
theorem yk_X6_behind : ax_Y yX6_behind cX6_behind 4 (some .int) 2 := ⟨ax_gm 433 (by decide +kernel) rfl, ax_gm 43 (by decide +kernel) rfl, ⟨by decide +kernel, by decide +kernel, by decide +kernel⟩, by decide⟩
theorem in_X6_behind : Cond.instanceMethod yX6_behind ∈ ax_g := ax_gm 431 (by decide +kernel) rfl
theorem se_X6_behind : Cond.selects yX6_behind.cls yX6_behind yX6_behind ∈ ax_g := ax_gm 432 (by decide +kernel) rfl
theorem yk_X6_holds : ax_Y yX6_holds cX6_holds 4 (some .int) 2 := ⟨ax_gm 439 (by decide +kernel) rfl, ax_gm 43 (by decide +kernel) rfl, ⟨by decide +kernel, by decide +kernel, by decide +kernel⟩, by decide⟩
theorem in_X6_holds : Cond.instanceMethod yX6_holds ∈ ax_g := ax_gm 437 (by decide +kernel) rfl
theorem se_X6_holds : Cond.selects yX6_holds.cls yX6_holds yX6_holds ∈ ax_g := ax_gm 438 (by decide +kernel) rfl
theorem yk_X6_wrong : ax_Y yX6_wrong cX6_wrong 3 (some .int) 1 := ⟨ax_gm 444 (by decide +kernel) rfl, ax_gm 43 (by decide +kernel) rfl, ⟨by decide +kernel, by decide +kernel, by decide +kernel⟩, by decide⟩
theorem in_X6_wrong : Cond.instanceMethod yX6_wrong ∈ ax_g := ax_gm 442 (by decide +kernel) rfl
theorem se_X6_wrong : Cond.selects yX6_wrong.cls yX6_wrong yX6_wrong ∈ ax_g := ax_gm 443 (by decide +kernel) rfl
theorem yk_X6_done : ax_Y yX6_done cX6_done 2 (some .int) 0 := ⟨ax_gm 448 (by decide +kernel) rfl, ax_gm 43 (by decide +kernel) rfl, ⟨by decide +kernel, by decide +kernel, by decide +kernel⟩, by decide⟩
theorem in_X6_done : Cond.instanceMethod yX6_done ∈ ax_g := ax_gm 446 (by decide +kernel) rfl
theorem se_X6_done : Cond.selects yX6_done.cls yX6_done yX6_done ∈ ax_g := ax_gm 447 (by decide +kernel) rfl
theorem yk_X6_saints : ax_Y yX6_saints cX6_saints 1 (some .int) 0 := ⟨ax_gm 452 (by decide +kernel) rfl, ax_gm 43 (by decide +kernel) rfl, ⟨by decide +kernel, by decide +kernel, by decide +kernel⟩, by decide⟩
theorem in_X6_saints : Cond.instanceMethod yX6_saints ∈ ax_g := ax_gm 450 (by decide +kernel) rfl
theorem se_X6_saints : Cond.selects yX6_saints.cls yX6_saints yX6_saints ∈ ax_g := ax_gm 451 (by decide +kernel) rfl
theorem yk_X6_lacks : ax_Y yX6_lacks cX6_lacks 2 (some .int) 1 := ⟨ax_gm 461 (by decide +kernel) rfl, ax_gm 43 (by decide +kernel) rfl, ⟨by decide +kernel, by decide +kernel, by decide +kernel⟩, by decide⟩
theorem in_X6_lacks : Cond.instanceMethod yX6_lacks ∈ ax_g := ax_gm 459 (by decide +kernel) rfl
theorem se_X6_lacks : Cond.selects yX6_lacks.cls yX6_lacks yX6_lacks ∈ ax_g := ax_gm 460 (by decide +kernel) rfl
theorem yk_X6_odds : ax_Y yX6_odds cX6_odds 14 (some .long) 6 := ⟨ax_gm 468 (by decide +kernel) rfl, ax_gm 43 (by decide +kernel) rfl, ⟨by decide +kernel, by decide +kernel, by decide +kernel⟩, by decide⟩
theorem in_X6_odds : Cond.instanceMethod yX6_odds ∈ ax_g := ax_gm 466 (by decide +kernel) rfl
theorem se_X6_odds : Cond.selects yX6_odds.cls yX6_odds yX6_odds ∈ ax_g := ax_gm 467 (by decide +kernel) rfl
theorem yk_X6_back : ax_Y yX6_back cX6_back 8 (some .int) 2 := ⟨ax_gm 498 (by decide +kernel) rfl, ax_gm 43 (by decide +kernel) rfl, ⟨by decide +kernel, by decide +kernel, by decide +kernel⟩, by decide⟩
theorem in_X6_back : Cond.instanceMethod yX6_back ∈ ax_g := ax_gm 496 (by decide +kernel) rfl
theorem se_X6_back : Cond.selects yX6_back.cls yX6_back yX6_back ∈ ax_g := ax_gm 497 (by decide +kernel) rfl
theorem yk_X6_fewest : ax_Y yX6_fewest cX6_fewest 7 (some .int) 2 := ⟨ax_gm 505 (by decide +kernel) rfl, ax_gm 43 (by decide +kernel) rfl, ⟨by decide +kernel, by decide +kernel, by decide +kernel⟩, by decide⟩
theorem in_X6_fewest : Cond.instanceMethod yX6_fewest ∈ ax_g := ax_gm 503 (by decide +kernel) rfl
theorem se_X6_fewest : Cond.selects yX6_fewest.cls yX6_fewest yX6_fewest ∈ ax_g := ax_gm 504 (by decide +kernel) rfl
theorem yk_X6_day : ax_Y yX6_day cX6_day 7 (some .int) 1 := ⟨ax_gm 512 (by decide +kernel) rfl, ax_gm 43 (by decide +kernel) rfl, ⟨by decide +kernel, by decide +kernel, by decide +kernel⟩, by decide⟩
theorem in_X6_day : Cond.instanceMethod yX6_day ∈ ax_g := ax_gm 510 (by decide +kernel) rfl
theorem se_X6_day : Cond.selects yX6_day.cls yX6_day yX6_day ∈ ax_g := ax_gm 511 (by decide +kernel) rfl
theorem yk_X6_rivals : ax_Y yX6_rivals cX6_rivals 8 (some .int) 3 := ⟨ax_gm 524 (by decide +kernel) rfl, ax_gm 43 (by decide +kernel) rfl, ⟨by decide +kernel, by decide +kernel, by decide +kernel⟩, by decide⟩
theorem in_X6_rivals : Cond.instanceMethod yX6_rivals ∈ ax_g := ax_gm 522 (by decide +kernel) rfl
theorem se_X6_rivals : Cond.selects yX6_rivals.cls yX6_rivals yX6_rivals ∈ ax_g := ax_gm 523 (by decide +kernel) rfl
theorem yk_X6_share : ax_Y yX6_share cX6_share 10 (some .int) 3 := ⟨ax_gm 532 (by decide +kernel) rfl, ax_gm 43 (by decide +kernel) rfl, ⟨by decide +kernel, by decide +kernel, by decide +kernel⟩, by decide⟩
theorem in_X6_share : Cond.instanceMethod yX6_share ∈ ax_g := ax_gm 530 (by decide +kernel) rfl
theorem se_X6_share : Cond.selects yX6_share.cls yX6_share yX6_share ∈ ax_g := ax_gm 531 (by decide +kernel) rfl
theorem yk_X6_seen : ax_Y yX6_seen cX6_seen 4 (some .int) 3 := ⟨ax_gm 540 (by decide +kernel) rfl, ax_gm 43 (by decide +kernel) rfl, ⟨by decide +kernel, by decide +kernel, by decide +kernel⟩, by decide⟩
theorem in_X6_seen : Cond.instanceMethod yX6_seen ∈ ax_g := ax_gm 538 (by decide +kernel) rfl
theorem se_X6_seen : Cond.selects yX6_seen.cls yX6_seen yX6_seen ∈ ax_g := ax_gm 539 (by decide +kernel) rfl
theorem yk_X6_forget : ax_Y yX6_forget cX6_forget 2 (some .int) 0 := ⟨ax_gm 548 (by decide +kernel) rfl, ax_gm 43 (by decide +kernel) rfl, ⟨by decide +kernel, by decide +kernel, by decide +kernel⟩, by decide⟩
theorem in_X6_forget : Cond.instanceMethod yX6_forget ∈ ax_g := ax_gm 546 (by decide +kernel) rfl
theorem se_X6_forget : Cond.selects yX6_forget.cls yX6_forget yX6_forget ∈ ax_g := ax_gm 547 (by decide +kernel) rfl
theorem yk_X6_laws : ax_Y yX6_laws cX6_laws 2 (some .int) 1 := ⟨ax_gm 552 (by decide +kernel) rfl, ax_gm 43 (by decide +kernel) rfl, ⟨by decide +kernel, by decide +kernel, by decide +kernel⟩, by decide⟩
theorem in_X6_laws : Cond.instanceMethod yX6_laws ∈ ax_g := ax_gm 550 (by decide +kernel) rfl
theorem se_X6_laws : Cond.selects yX6_laws.cls yX6_laws yX6_laws ∈ ax_g := ax_gm 551 (by decide +kernel) rfl
theorem yk_X6_ask : ax_Y yX6_ask cX6_ask 7 (some .int) 1 := ⟨ax_gm 566 (by decide +kernel) rfl, ax_gm 43 (by decide +kernel) rfl, ⟨by decide +kernel, by decide +kernel, by decide +kernel⟩, by decide⟩
theorem in_X6_ask : Cond.instanceMethod yX6_ask ∈ ax_g := ax_gm 564 (by decide +kernel) rfl
theorem se_X6_ask : Cond.selects yX6_ask.cls yX6_ask yX6_ask ∈ ax_g := ax_gm 565 (by decide +kernel) rfl
theorem yk_X6_book : ax_Y yX6_book cX6_book 6 (some .int) 3 := ⟨ax_gm 574 (by decide +kernel) rfl, ax_gm 43 (by decide +kernel) rfl, ⟨by decide +kernel, by decide +kernel, by decide +kernel⟩, by decide⟩
theorem in_X6_book : Cond.instanceMethod yX6_book ∈ ax_g := ax_gm 572 (by decide +kernel) rfl
theorem se_X6_book : Cond.selects yX6_book.cls yX6_book yX6_book ∈ ax_g := ax_gm 573 (by decide +kernel) rfl
theorem yk_X6_image : ax_Y yX6_image cX6_image 3 (some .int) 1 := ⟨ax_gm 598 (by decide +kernel) rfl, ax_gm 43 (by decide +kernel) rfl, ⟨by decide +kernel, by decide +kernel, by decide +kernel⟩, by decide⟩
theorem in_X6_image : Cond.instanceMethod yX6_image ∈ ax_g := ax_gm 596 (by decide +kernel) rfl
theorem se_X6_image : Cond.selects yX6_image.cls yX6_image yX6_image ∈ ax_g := ax_gm 597 (by decide +kernel) rfl
theorem yk_X6_restore : ax_Y yX6_restore cX6_restore 3 (some .int) 1 := ⟨ax_gm 602 (by decide +kernel) rfl, ax_gm 43 (by decide +kernel) rfl, ⟨by decide +kernel, by decide +kernel, by decide +kernel⟩, by decide⟩
theorem in_X6_restore : Cond.instanceMethod yX6_restore ∈ ax_g := ax_gm 600 (by decide +kernel) rfl
theorem se_X6_restore : Cond.selects yX6_restore.cls yX6_restore yX6_restore ∈ ax_g := ax_gm 601 (by decide +kernel) rfl
theorem yk_X6_told : ax_Y yX6_told cX6_told 2 (some .int) 1 := ⟨ax_gm 606 (by decide +kernel) rfl, ax_gm 43 (by decide +kernel) rfl, ⟨by decide +kernel, by decide +kernel, by decide +kernel⟩, by decide⟩
theorem in_X6_told : Cond.instanceMethod yX6_told ∈ ax_g := ax_gm 604 (by decide +kernel) rfl
theorem se_X6_told : Cond.selects yX6_told.cls yX6_told yX6_told ∈ ax_g := ax_gm 605 (by decide +kernel) rfl
theorem yk_X6_toldOfChild : ax_Y yX6_toldOfChild cX6_toldOfChild 3 (some .int) 2 := ⟨ax_gm 610 (by decide +kernel) rfl, ax_gm 43 (by decide +kernel) rfl, ⟨by decide +kernel, by decide +kernel, by decide +kernel⟩, by decide⟩
theorem in_X6_toldOfChild : Cond.instanceMethod yX6_toldOfChild ∈ ax_g := ax_gm 609 (by decide +kernel) rfl
theorem se_X6_toldOfChild : Cond.selects yX6_toldOfChild.cls yX6_toldOfChild yX6_toldOfChild ∈ ax_g := ax_gm 10 (by decide +kernel) rfl
theorem yk_X6_refusalOfYears : ax_Y yX6_refusalOfYears cX6_refusalOfYears 1 (some .int) 0 := ⟨ax_gm 361 (by decide +kernel) rfl, ax_gm 43 (by decide +kernel) rfl, ⟨by decide +kernel, by decide +kernel, by decide +kernel⟩, by decide⟩
theorem in_X6_refusalOfYears : Cond.instanceMethod yX6_refusalOfYears ∈ ax_g := ax_gm 360 (by decide +kernel) rfl
theorem se_X6_refusalOfYears : Cond.selects yX6_refusalOfYears.cls yX6_refusalOfYears yX6_refusalOfYears ∈ ax_g := ax_gm 2 (by decide +kernel) rfl
theorem yk_X6_firstDay : ax_Y yX6_firstDay cX6_firstDay 7 (some .int) 4 := ⟨ax_gm 520 (by decide +kernel) rfl, ax_gm 43 (by decide +kernel) rfl, ⟨by decide +kernel, by decide +kernel, by decide +kernel⟩, by decide⟩
theorem in_X6_firstDay : Cond.instanceMethod yX6_firstDay ∈ ax_g := ax_gm 519 (by decide +kernel) rfl
theorem se_X6_firstDay : Cond.selects yX6_firstDay.cls yX6_firstDay yX6_firstDay ∈ ax_g := ax_gm 9 (by decide +kernel) rfl
theorem yk_X6_mostWithDays : ax_Y yX6_mostWithDays cX6_mostWithDays 6 (some .int) 2 := ⟨ax_gm 516 (by decide +kernel) rfl, ax_gm 43 (by decide +kernel) rfl, ⟨by decide +kernel, by decide +kernel, by decide +kernel⟩, by decide⟩
theorem in_X6_mostWithDays : Cond.instanceMethod yX6_mostWithDays ∈ ax_g := ax_gm 515 (by decide +kernel) rfl
theorem se_X6_mostWithDays : Cond.selects yX6_mostWithDays.cls yX6_mostWithDays yX6_mostWithDays ∈ ax_g := ax_gm 8 (by decide +kernel) rfl
theorem yk_X6_endsAsSaint : ax_Y yX6_endsAsSaint cX6_endsAsSaint 6 (some .boolean) 6 := ⟨ax_gm 527 (by decide +kernel) rfl, ax_gm 43 (by decide +kernel) rfl, ⟨by decide +kernel, by decide +kernel, by decide +kernel⟩, by decide⟩
theorem st_X6_endsAsSaint : Cond.static yX6_endsAsSaint ∈ ax_g := ax_gm 526 (by decide +kernel) rfl
theorem yk_X6_within : ax_Y yX6_within cX6_within 3 (some .boolean) 3 := ⟨ax_gm 270 (by decide +kernel) rfl, ax_gm 43 (by decide +kernel) rfl, ⟨by decide +kernel, by decide +kernel, by decide +kernel⟩, by decide⟩
theorem st_X6_within : Cond.static yX6_within ∈ ax_g := ax_gm 269 (by decide +kernel) rfl
theorem yk_X6_sumOver : ax_Y yX6_sumOver cX6_sumOver 4 (some .int) 2 := ⟨ax_gm 501 (by decide +kernel) rfl, ax_gm 43 (by decide +kernel) rfl, ⟨by decide +kernel, by decide +kernel, by decide +kernel⟩, by decide⟩
theorem st_X6_sumOver : Cond.static yX6_sumOver ∈ ax_g := ax_gm 500 (by decide +kernel) rfl
theorem yk_X6_unionOver : ax_Y yX6_unionOver cX6_unionOver 4 (some .int) 2 := ⟨ax_gm 508 (by decide +kernel) rfl, ax_gm 43 (by decide +kernel) rfl, ⟨by decide +kernel, by decide +kernel, by decide +kernel⟩, by decide⟩
theorem st_X6_unionOver : Cond.static yX6_unionOver ∈ ax_g := ax_gm 507 (by decide +kernel) rfl
theorem yk_X6_commonDivisor : ax_Y yX6_commonDivisor cX6_commonDivisor 11 (some .long) 2 := ⟨ax_gm 491 (by decide +kernel) rfl, ax_gm 43 (by decide +kernel) rfl, ⟨by decide +kernel, by decide +kernel, by decide +kernel⟩, by decide⟩
theorem st_X6_commonDivisor : Cond.static yX6_commonDivisor ∈ ax_g := ax_gm 490 (by decide +kernel) rfl
theorem yk_X7_init : ax_Y yX7_init cX7_init 2 none 0 := ⟨ax_gm 616 (by decide +kernel) rfl, ax_gm 50 (by decide +kernel) rfl, ⟨by decide +kernel, by decide +kernel, by decide +kernel⟩, by decide⟩
theorem in_X7_init : Cond.instanceMethod yX7_init ∈ ax_g := ax_gm 615 (by decide +kernel) rfl
theorem yk_X7_in : ax_Y yX7_in cX7_in 6 (some .boolean) 3 := ⟨ax_gm 744 (by decide +kernel) rfl, ax_gm 50 (by decide +kernel) rfl, ⟨by decide +kernel, by decide +kernel, by decide +kernel⟩, by decide⟩
theorem st_X7_in : Cond.static yX7_in ∈ ax_g := ax_gm 743 (by decide +kernel) rfl
theorem yk_X7_ones : ax_Y yX7_ones cX7_ones 3 (some .int) 1 := ⟨ax_gm 752 (by decide +kernel) rfl, ax_gm 50 (by decide +kernel) rfl, ⟨by decide +kernel, by decide +kernel, by decide +kernel⟩, by decide⟩
theorem st_X7_ones : Cond.static yX7_ones ∈ ax_g := ax_gm 751 (by decide +kernel) rfl
theorem yk_X7_isNumber : ax_Y yX7_isNumber cX7_isNumber 1 (some .boolean) 1 := ⟨ax_gm 740 (by decide +kernel) rfl, ax_gm 50 (by decide +kernel) rfl, ⟨by decide +kernel, by decide +kernel, by decide +kernel⟩, by decide⟩
theorem st_X7_isNumber : Cond.static yX7_isNumber ∈ ax_g := ax_gm 739 (by decide +kernel) rfl
theorem yk_X7_isChild : ax_Y yX7_isChild cX7_isChild 2 (some .boolean) 1 := ⟨ax_gm 760 (by decide +kernel) rfl, ax_gm 50 (by decide +kernel) rfl, ⟨by decide +kernel, by decide +kernel, by decide +kernel⟩, by decide⟩
theorem in_X7_isChild : Cond.instanceMethod yX7_isChild ∈ ax_g := ax_gm 759 (by decide +kernel) rfl
theorem se_X7_isChild : Cond.selects yX7_isChild.cls yX7_isChild yX7_isChild ∈ ax_g := ax_gm 12 (by decide +kernel) rfl
theorem yk_X7_isParish : ax_Y yX7_isParish cX7_isParish 1 (some .boolean) 1 := ⟨ax_gm 773 (by decide +kernel) rfl, ax_gm 50 (by decide +kernel) rfl, ⟨by decide +kernel, by decide +kernel, by decide +kernel⟩, by decide⟩
theorem st_X7_isParish : Cond.static yX7_isParish ∈ ax_g := ax_gm 772 (by decide +kernel) rfl
theorem yk_X7_clearParts : ax_Y yX7_clearParts cX7_clearParts 3 none 1 := ⟨ax_gm 749 (by decide +kernel) rfl, ax_gm 50 (by decide +kernel) rfl, ⟨by decide +kernel, by decide +kernel, by decide +kernel⟩, by decide⟩
theorem in_X7_clearParts : Cond.instanceMethod yX7_clearParts ∈ ax_g := ax_gm 748 (by decide +kernel) rfl
theorem se_X7_clearParts : Cond.selects yX7_clearParts.cls yX7_clearParts yX7_clearParts ∈ ax_g := ax_gm 11 (by decide +kernel) rfl
theorem yk_X7_child : ax_Y yX7_child cX7_child 5 (some .int) 4 := ⟨ax_gm 737 (by decide +kernel) rfl, ax_gm 50 (by decide +kernel) rfl, ⟨by decide +kernel, by decide +kernel, by decide +kernel⟩, by decide⟩
theorem in_X7_child : Cond.instanceMethod yX7_child ∈ ax_g := ax_gm 735 (by decide +kernel) rfl
theorem se_X7_child : Cond.selects yX7_child.cls yX7_child yX7_child ∈ ax_g := ax_gm 736 (by decide +kernel) rfl
theorem yk_X7_leave : ax_Y yX7_leave cX7_leave 2 (some .int) 1 := ⟨ax_gm 756 (by decide +kernel) rfl, ax_gm 50 (by decide +kernel) rfl, ⟨by decide +kernel, by decide +kernel, by decide +kernel⟩, by decide⟩
theorem in_X7_leave : Cond.instanceMethod yX7_leave ∈ ax_g := ax_gm 754 (by decide +kernel) rfl
theorem se_X7_leave : Cond.selects yX7_leave.cls yX7_leave yX7_leave ∈ ax_g := ax_gm 755 (by decide +kernel) rfl
theorem yk_X7_law : ax_Y yX7_law cX7_law 4 (some .int) 2 := ⟨ax_gm 764 (by decide +kernel) rfl, ax_gm 50 (by decide +kernel) rfl, ⟨by decide +kernel, by decide +kernel, by decide +kernel⟩, by decide⟩
theorem in_X7_law : Cond.instanceMethod yX7_law ∈ ax_g := ax_gm 762 (by decide +kernel) rfl
theorem se_X7_law : Cond.selects yX7_law.cls yX7_law yX7_law ∈ ax_g := ax_gm 763 (by decide +kernel) rfl
theorem yk_X7_purse : ax_Y yX7_purse cX7_purse 4 (some .int) 2 := ⟨ax_gm 770 (by decide +kernel) rfl, ax_gm 50 (by decide +kernel) rfl, ⟨by decide +kernel, by decide +kernel, by decide +kernel⟩, by decide⟩
theorem in_X7_purse : Cond.instanceMethod yX7_purse ∈ ax_g := ax_gm 768 (by decide +kernel) rfl
theorem se_X7_purse : Cond.selects yX7_purse.cls yX7_purse yX7_purse ∈ ax_g := ax_gm 769 (by decide +kernel) rfl
theorem yk_X7_offer : ax_Y yX7_offer cX7_offer 6 (some .int) 4 := ⟨ax_gm 779 (by decide +kernel) rfl, ax_gm 50 (by decide +kernel) rfl, ⟨by decide +kernel, by decide +kernel, by decide +kernel⟩, by decide⟩
theorem in_X7_offer : Cond.instanceMethod yX7_offer ∈ ax_g := ax_gm 777 (by decide +kernel) rfl
theorem se_X7_offer : Cond.selects yX7_offer.cls yX7_offer yX7_offer ∈ ax_g := ax_gm 778 (by decide +kernel) rfl
theorem yk_X7_witness : ax_Y yX7_witness cX7_witness 4 (some .int) 2 := ⟨ax_gm 784 (by decide +kernel) rfl, ax_gm 50 (by decide +kernel) rfl, ⟨by decide +kernel, by decide +kernel, by decide +kernel⟩, by decide⟩
theorem in_X7_witness : Cond.instanceMethod yX7_witness ∈ ax_g := ax_gm 782 (by decide +kernel) rfl
theorem se_X7_witness : Cond.selects yX7_witness.cls yX7_witness yX7_witness ∈ ax_g := ax_gm 783 (by decide +kernel) rfl
theorem yk_X7_say : ax_Y yX7_say cX7_say 2 (some .int) 1 := ⟨ax_gm 790 (by decide +kernel) rfl, ax_gm 50 (by decide +kernel) rfl, ⟨by decide +kernel, by decide +kernel, by decide +kernel⟩, by decide⟩
theorem in_X7_say : Cond.instanceMethod yX7_say ∈ ax_g := ax_gm 788 (by decide +kernel) rfl
theorem se_X7_say : Cond.selects yX7_say.cls yX7_say yX7_say ∈ ax_g := ax_gm 789 (by decide +kernel) rfl
theorem yk_X7_wipe : ax_Y yX7_wipe cX7_wipe 2 (some .int) 0 := ⟨ax_gm 796 (by decide +kernel) rfl, ax_gm 50 (by decide +kernel) rfl, ⟨by decide +kernel, by decide +kernel, by decide +kernel⟩, by decide⟩
theorem in_X7_wipe : Cond.instanceMethod yX7_wipe ∈ ax_g := ax_gm 794 (by decide +kernel) rfl
theorem se_X7_wipe : Cond.selects yX7_wipe.cls yX7_wipe yX7_wipe ∈ ax_g := ax_gm 795 (by decide +kernel) rfl
theorem yk_X7_isLetter : ax_Y yX7_isLetter cX7_isLetter 1 (some .boolean) 1 := ⟨ax_gm 811 (by decide +kernel) rfl, ax_gm 50 (by decide +kernel) rfl, ⟨by decide +kernel, by decide +kernel, by decide +kernel⟩, by decide⟩
theorem st_X7_isLetter : Cond.static yX7_isLetter ∈ ax_g := ax_gm 810 (by decide +kernel) rfl
theorem yk_X7_isParishLetter : ax_Y yX7_isParishLetter cX7_isParishLetter 1 (some .boolean) 1 := ⟨ax_gm 826 (by decide +kernel) rfl, ax_gm 50 (by decide +kernel) rfl, ⟨by decide +kernel, by decide +kernel, by decide +kernel⟩, by decide⟩
theorem st_X7_isParishLetter : Cond.static yX7_isParishLetter ∈ ax_g := ax_gm 825 (by decide +kernel) rfl
theorem yk_X7_close : ax_Y yX7_close cX7_close 1 (some .int) 0 := ⟨ax_gm 817 (by decide +kernel) rfl, ax_gm 50 (by decide +kernel) rfl, ⟨by decide +kernel, by decide +kernel, by decide +kernel⟩, by decide⟩
theorem in_X7_close : Cond.instanceMethod yX7_close ∈ ax_g := ax_gm 816 (by decide +kernel) rfl
theorem se_X7_close : Cond.selects yX7_close.cls yX7_close yX7_close ∈ ax_g := ax_gm 15 (by decide +kernel) rfl
theorem yk_X7_begin : ax_Y yX7_begin cX7_begin 2 (some .int) 1 := ⟨ax_gm 808 (by decide +kernel) rfl, ax_gm 50 (by decide +kernel) rfl, ⟨by decide +kernel, by decide +kernel, by decide +kernel⟩, by decide⟩
theorem in_X7_begin : Cond.instanceMethod yX7_begin ∈ ax_g := ax_gm 807 (by decide +kernel) rfl
theorem se_X7_begin : Cond.selects yX7_begin.cls yX7_begin yX7_begin ∈ ax_g := ax_gm 14 (by decide +kernel) rfl
theorem yk_X7_deed : ax_Y yX7_deed cX7_deed 3 (some .int) 1 := ⟨ax_gm 821 (by decide +kernel) rfl, ax_gm 50 (by decide +kernel) rfl, ⟨by decide +kernel, by decide +kernel, by decide +kernel⟩, by decide⟩
theorem in_X7_deed : Cond.instanceMethod yX7_deed ∈ ax_g := ax_gm 820 (by decide +kernel) rfl
theorem se_X7_deed : Cond.selects yX7_deed.cls yX7_deed yX7_deed ∈ ax_g := ax_gm 16 (by decide +kernel) rfl
theorem yk_X7_readOn : ax_Y yX7_readOn cX7_readOn 3 (some .int) 2 := ⟨ax_gm 804 (by decide +kernel) rfl, ax_gm 50 (by decide +kernel) rfl, ⟨by decide +kernel, by decide +kernel, by decide +kernel⟩, by decide⟩
theorem in_X7_readOn : Cond.instanceMethod yX7_readOn ∈ ax_g := ax_gm 803 (by decide +kernel) rfl
theorem se_X7_readOn : Cond.selects yX7_readOn.cls yX7_readOn yX7_readOn ∈ ax_g := ax_gm 13 (by decide +kernel) rfl
theorem yk_X7_fault : ax_Y yX7_fault cX7_fault 3 (some .int) 0 := ⟨ax_gm 800 (by decide +kernel) rfl, ax_gm 50 (by decide +kernel) rfl, ⟨by decide +kernel, by decide +kernel, by decide +kernel⟩, by decide⟩
theorem in_X7_fault : Cond.instanceMethod yX7_fault ∈ ax_g := ax_gm 798 (by decide +kernel) rfl
theorem se_X7_fault : Cond.selects yX7_fault.cls yX7_fault yX7_fault ∈ ax_g := ax_gm 799 (by decide +kernel) rfl
theorem yk_X7_isSaint : ax_Y yX7_isSaint cX7_isSaint 3 (some .boolean) 1 := ⟨ax_gm 869 (by decide +kernel) rfl, ax_gm 50 (by decide +kernel) rfl, ⟨by decide +kernel, by decide +kernel, by decide +kernel⟩, by decide⟩
theorem in_X7_isSaint : Cond.instanceMethod yX7_isSaint ∈ ax_g := ax_gm 868 (by decide +kernel) rfl
theorem se_X7_isSaint : Cond.selects yX7_isSaint.cls yX7_isSaint yX7_isSaint ∈ ax_g := ax_gm 25 (by decide +kernel) rfl
theorem yk_X7_heldBy : ax_Y yX7_heldBy cX7_heldBy 5 (some .int) 2 := ⟨ax_gm 853 (by decide +kernel) rfl, ax_gm 50 (by decide +kernel) rfl, ⟨by decide +kernel, by decide +kernel, by decide +kernel⟩, by decide⟩
theorem in_X7_heldBy : Cond.instanceMethod yX7_heldBy ∈ ax_g := ax_gm 852 (by decide +kernel) rfl
theorem se_X7_heldBy : Cond.selects yX7_heldBy.cls yX7_heldBy yX7_heldBy ∈ ax_g := ax_gm 21 (by decide +kernel) rfl
theorem yk_X7_whyNot : ax_Y yX7_whyNot cX7_whyNot 5 (some .int) 4 := ⟨ax_gm 849 (by decide +kernel) rfl, ax_gm 50 (by decide +kernel) rfl, ⟨by decide +kernel, by decide +kernel, by decide +kernel⟩, by decide⟩
theorem in_X7_whyNot : Cond.instanceMethod yX7_whyNot ∈ ax_g := ax_gm 848 (by decide +kernel) rfl
theorem se_X7_whyNot : Cond.selects yX7_whyNot.cls yX7_whyNot yX7_whyNot ∈ ax_g := ax_gm 20 (by decide +kernel) rfl
theorem yk_X7_fall : ax_Y yX7_fall cX7_fall 4 none 1 := ⟨ax_gm 861 (by decide +kernel) rfl, ax_gm 50 (by decide +kernel) rfl, ⟨by decide +kernel, by decide +kernel, by decide +kernel⟩, by decide⟩
theorem in_X7_fall : Cond.instanceMethod yX7_fall ∈ ax_g := ax_gm 860 (by decide +kernel) rfl
theorem se_X7_fall : Cond.selects yX7_fall.cls yX7_fall yX7_fall ∈ ax_g := ax_gm 23 (by decide +kernel) rfl
theorem yk_X7_feast : ax_Y yX7_feast cX7_feast 2 none 1 := ⟨ax_gm 865 (by decide +kernel) rfl, ax_gm 50 (by decide +kernel) rfl, ⟨by decide +kernel, by decide +kernel, by decide +kernel⟩, by decide⟩
theorem in_X7_feast : Cond.instanceMethod yX7_feast ∈ ax_g := ax_gm 864 (by decide +kernel) rfl
theorem se_X7_feast : Cond.selects yX7_feast.cls yX7_feast yX7_feast ∈ ax_g := ax_gm 24 (by decide +kernel) rfl
theorem yk_X7_happen : ax_Y yX7_happen cX7_happen 5 none 4 := ⟨ax_gm 857 (by decide +kernel) rfl, ax_gm 50 (by decide +kernel) rfl, ⟨by decide +kernel, by decide +kernel, by decide +kernel⟩, by decide⟩
theorem in_X7_happen : Cond.instanceMethod yX7_happen ∈ ax_g := ax_gm 856 (by decide +kernel) rfl
theorem se_X7_happen : Cond.selects yX7_happen.cls yX7_happen yX7_happen ∈ ax_g := ax_gm 22 (by decide +kernel) rfl
theorem yk_X7_store : ax_Y yX7_store cX7_store 3 none 1 := ⟨ax_gm 841 (by decide +kernel) rfl, ax_gm 50 (by decide +kernel) rfl, ⟨by decide +kernel, by decide +kernel, by decide +kernel⟩, by decide⟩
theorem in_X7_store : Cond.instanceMethod yX7_store ∈ ax_g := ax_gm 840 (by decide +kernel) rfl
theorem se_X7_store : Cond.selects yX7_store.cls yX7_store yX7_store ∈ ax_g := ax_gm 18 (by decide +kernel) rfl
theorem yk_X7_lay : ax_Y yX7_lay cX7_lay 3 none 1 := ⟨ax_gm 873 (by decide +kernel) rfl, ax_gm 50 (by decide +kernel) rfl, ⟨by decide +kernel, by decide +kernel, by decide +kernel⟩, by decide⟩
theorem in_X7_lay : Cond.instanceMethod yX7_lay ∈ ax_g := ax_gm 872 (by decide +kernel) rfl
theorem se_X7_lay : Cond.selects yX7_lay.cls yX7_lay yX7_lay ∈ ax_g := ax_gm 26 (by decide +kernel) rfl
theorem yk_X7_goYears : ax_Y yX7_goYears cX7_goYears 3 none 0 := ⟨ax_gm 845 (by decide +kernel) rfl, ax_gm 50 (by decide +kernel) rfl, ⟨by decide +kernel, by decide +kernel, by decide +kernel⟩, by decide⟩
theorem in_X7_goYears : Cond.instanceMethod yX7_goYears ∈ ax_g := ax_gm 844 (by decide +kernel) rfl
theorem se_X7_goYears : Cond.selects yX7_goYears.cls yX7_goYears yX7_goYears ∈ ax_g := ax_gm 19 (by decide +kernel) rfl
theorem yk_X7_refusal : ax_Y yX7_refusal cX7_refusal 2 (some .int) 0 := ⟨ax_gm 836 (by decide +kernel) rfl, ax_gm 50 (by decide +kernel) rfl, ⟨by decide +kernel, by decide +kernel, by decide +kernel⟩, by decide⟩
theorem in_X7_refusal : Cond.instanceMethod yX7_refusal ∈ ax_g := ax_gm 835 (by decide +kernel) rfl
theorem se_X7_refusal : Cond.selects yX7_refusal.cls yX7_refusal yX7_refusal ∈ ax_g := ax_gm 17 (by decide +kernel) rfl
theorem yk_X7_judge : ax_Y yX7_judge cX7_judge 3 (some .int) 1 := ⟨ax_gm 832 (by decide +kernel) rfl, ax_gm 50 (by decide +kernel) rfl, ⟨by decide +kernel, by decide +kernel, by decide +kernel⟩, by decide⟩
theorem in_X7_judge : Cond.instanceMethod yX7_judge ∈ ax_g := ax_gm 830 (by decide +kernel) rfl
theorem se_X7_judge : Cond.selects yX7_judge.cls yX7_judge yX7_judge ∈ ax_g := ax_gm 831 (by decide +kernel) rfl
theorem yk_X7_behind : ax_Y yX7_behind cX7_behind 4 (some .int) 2 := ⟨ax_gm 877 (by decide +kernel) rfl, ax_gm 50 (by decide +kernel) rfl, ⟨by decide +kernel, by decide +kernel, by decide +kernel⟩, by decide⟩
theorem in_X7_behind : Cond.instanceMethod yX7_behind ∈ ax_g := ax_gm 875 (by decide +kernel) rfl
theorem se_X7_behind : Cond.selects yX7_behind.cls yX7_behind yX7_behind ∈ ax_g := ax_gm 876 (by decide +kernel) rfl
theorem yk_X7_holds : ax_Y yX7_holds cX7_holds 6 (some .int) 2 := ⟨ax_gm 882 (by decide +kernel) rfl, ax_gm 50 (by decide +kernel) rfl, ⟨by decide +kernel, by decide +kernel, by decide +kernel⟩, by decide⟩
theorem in_X7_holds : Cond.instanceMethod yX7_holds ∈ ax_g := ax_gm 880 (by decide +kernel) rfl
theorem se_X7_holds : Cond.selects yX7_holds.cls yX7_holds yX7_holds ∈ ax_g := ax_gm 881 (by decide +kernel) rfl
theorem yk_X7_wrong : ax_Y yX7_wrong cX7_wrong 3 (some .int) 1 := ⟨ax_gm 886 (by decide +kernel) rfl, ax_gm 50 (by decide +kernel) rfl, ⟨by decide +kernel, by decide +kernel, by decide +kernel⟩, by decide⟩
theorem in_X7_wrong : Cond.instanceMethod yX7_wrong ∈ ax_g := ax_gm 884 (by decide +kernel) rfl
theorem se_X7_wrong : Cond.selects yX7_wrong.cls yX7_wrong yX7_wrong ∈ ax_g := ax_gm 885 (by decide +kernel) rfl
theorem yk_X7_done : ax_Y yX7_done cX7_done 2 (some .int) 0 := ⟨ax_gm 890 (by decide +kernel) rfl, ax_gm 50 (by decide +kernel) rfl, ⟨by decide +kernel, by decide +kernel, by decide +kernel⟩, by decide⟩
theorem in_X7_done : Cond.instanceMethod yX7_done ∈ ax_g := ax_gm 888 (by decide +kernel) rfl
theorem se_X7_done : Cond.selects yX7_done.cls yX7_done yX7_done ∈ ax_g := ax_gm 889 (by decide +kernel) rfl
theorem yk_X7_saints : ax_Y yX7_saints cX7_saints 3 (some .int) 0 := ⟨ax_gm 894 (by decide +kernel) rfl, ax_gm 50 (by decide +kernel) rfl, ⟨by decide +kernel, by decide +kernel, by decide +kernel⟩, by decide⟩
theorem in_X7_saints : Cond.instanceMethod yX7_saints ∈ ax_g := ax_gm 892 (by decide +kernel) rfl
theorem se_X7_saints : Cond.selects yX7_saints.cls yX7_saints yX7_saints ∈ ax_g := ax_gm 893 (by decide +kernel) rfl
theorem yk_X7_over : ax_Y yX7_over cX7_over 1 (some .int) 1 := ⟨ax_gm 901 (by decide +kernel) rfl, ax_gm 50 (by decide +kernel) rfl, ⟨by decide +kernel, by decide +kernel, by decide +kernel⟩, by decide⟩
theorem st_X7_over : Cond.static yX7_over ∈ ax_g := ax_gm 900 (by decide +kernel) rfl
theorem yk_X7_lacks : ax_Y yX7_lacks cX7_lacks 2 (some .int) 1 := ⟨ax_gm 898 (by decide +kernel) rfl, ax_gm 50 (by decide +kernel) rfl, ⟨by decide +kernel, by decide +kernel, by decide +kernel⟩, by decide⟩
theorem in_X7_lacks : Cond.instanceMethod yX7_lacks ∈ ax_g := ax_gm 896 (by decide +kernel) rfl
theorem se_X7_lacks : Cond.selects yX7_lacks.cls yX7_lacks yX7_lacks ∈ ax_g := ax_gm 897 (by decide +kernel) rfl
theorem yk_X7_lowest : ax_Y yX7_lowest cX7_lowest 11 (some .long) 3 := ⟨ax_gm 916 (by decide +kernel) rfl, ax_gm 50 (by decide +kernel) rfl, ⟨by decide +kernel, by decide +kernel, by decide +kernel⟩, by decide⟩
theorem st_X7_lowest : Cond.static yX7_lowest ∈ ax_g := ax_gm 915 (by decide +kernel) rfl
theorem yk_X7_yearOdds : ax_Y yX7_yearOdds cX7_yearOdds 8 none 2 := ⟨ax_gm 913 (by decide +kernel) rfl, ax_gm 50 (by decide +kernel) rfl, ⟨by decide +kernel, by decide +kernel, by decide +kernel⟩, by decide⟩
theorem in_X7_yearOdds : Cond.instanceMethod yX7_yearOdds ∈ ax_g := ax_gm 912 (by decide +kernel) rfl
theorem se_X7_yearOdds : Cond.selects yX7_yearOdds.cls yX7_yearOdds yX7_yearOdds ∈ ax_g := ax_gm 27 (by decide +kernel) rfl
theorem yk_X7_odds : ax_Y yX7_odds cX7_odds 15 (some .long) 6 := ⟨ax_gm 905 (by decide +kernel) rfl, ax_gm 50 (by decide +kernel) rfl, ⟨by decide +kernel, by decide +kernel, by decide +kernel⟩, by decide⟩
theorem in_X7_odds : Cond.instanceMethod yX7_odds ∈ ax_g := ax_gm 903 (by decide +kernel) rfl
theorem se_X7_odds : Cond.selects yX7_odds.cls yX7_odds yX7_odds ∈ ax_g := ax_gm 904 (by decide +kernel) rfl
theorem yk_X7_sumOf : ax_Y yX7_sumOf cX7_sumOf 5 (some .int) 2 := ⟨ax_gm 924 (by decide +kernel) rfl, ax_gm 50 (by decide +kernel) rfl, ⟨by decide +kernel, by decide +kernel, by decide +kernel⟩, by decide⟩
theorem in_X7_sumOf : Cond.instanceMethod yX7_sumOf ∈ ax_g := ax_gm 923 (by decide +kernel) rfl
theorem se_X7_sumOf : Cond.selects yX7_sumOf.cls yX7_sumOf yX7_sumOf ∈ ax_g := ax_gm 28 (by decide +kernel) rfl
theorem yk_X7_back : ax_Y yX7_back cX7_back 6 (some .int) 2 := ⟨ax_gm 920 (by decide +kernel) rfl, ax_gm 50 (by decide +kernel) rfl, ⟨by decide +kernel, by decide +kernel, by decide +kernel⟩, by decide⟩
theorem in_X7_back : Cond.instanceMethod yX7_back ∈ ax_g := ax_gm 918 (by decide +kernel) rfl
theorem se_X7_back : Cond.selects yX7_back.cls yX7_back yX7_back ∈ ax_g := ax_gm 919 (by decide +kernel) rfl
theorem yk_X7_seenBy : ax_Y yX7_seenBy cX7_seenBy 4 (some .int) 1 := ⟨ax_gm 932 (by decide +kernel) rfl, ax_gm 50 (by decide +kernel) rfl, ⟨by decide +kernel, by decide +kernel, by decide +kernel⟩, by decide⟩
theorem in_X7_seenBy : Cond.instanceMethod yX7_seenBy ∈ ax_g := ax_gm 931 (by decide +kernel) rfl
theorem se_X7_seenBy : Cond.selects yX7_seenBy.cls yX7_seenBy yX7_seenBy ∈ ax_g := ax_gm 29 (by decide +kernel) rfl
theorem yk_X7_fewest : ax_Y yX7_fewest cX7_fewest 6 (some .int) 2 := ⟨ax_gm 928 (by decide +kernel) rfl, ax_gm 50 (by decide +kernel) rfl, ⟨by decide +kernel, by decide +kernel, by decide +kernel⟩, by decide⟩
theorem in_X7_fewest : Cond.instanceMethod yX7_fewest ∈ ax_g := ax_gm 926 (by decide +kernel) rfl
theorem se_X7_fewest : Cond.selects yX7_fewest.cls yX7_fewest yX7_fewest ∈ ax_g := ax_gm 927 (by decide +kernel) rfl
theorem yk_X7_mostDays : ax_Y yX7_mostDays cX7_mostDays 7 (some .int) 2 := ⟨ax_gm 941 (by decide +kernel) rfl, ax_gm 50 (by decide +kernel) rfl, ⟨by decide +kernel, by decide +kernel, by decide +kernel⟩, by decide⟩
theorem in_X7_mostDays : Cond.instanceMethod yX7_mostDays ∈ ax_g := ax_gm 940 (by decide +kernel) rfl
theorem se_X7_mostDays : Cond.selects yX7_mostDays.cls yX7_mostDays yX7_mostDays ∈ ax_g := ax_gm 30 (by decide +kernel) rfl
theorem yk_X7_dayIn : ax_Y yX7_dayIn cX7_dayIn 7 (some .int) 3 := ⟨ax_gm 945 (by decide +kernel) rfl, ax_gm 50 (by decide +kernel) rfl, ⟨by decide +kernel, by decide +kernel, by decide +kernel⟩, by decide⟩
theorem in_X7_dayIn : Cond.instanceMethod yX7_dayIn ∈ ax_g := ax_gm 944 (by decide +kernel) rfl
theorem se_X7_dayIn : Cond.selects yX7_dayIn.cls yX7_dayIn yX7_dayIn ∈ ax_g := ax_gm 31 (by decide +kernel) rfl
theorem yk_X7_day : ax_Y yX7_day cX7_day 6 (some .int) 1 := ⟨ax_gm 936 (by decide +kernel) rfl, ax_gm 50 (by decide +kernel) rfl, ⟨by decide +kernel, by decide +kernel, by decide +kernel⟩, by decide⟩
theorem in_X7_day : Cond.instanceMethod yX7_day ∈ ax_g := ax_gm 934 (by decide +kernel) rfl
theorem se_X7_day : Cond.selects yX7_day.cls yX7_day yX7_day ∈ ax_g := ax_gm 935 (by decide +kernel) rfl
theorem yk_X7_at : ax_Y yX7_at cX7_at 3 (some .int) 3 := ⟨ax_gm 965 (by decide +kernel) rfl, ax_gm 50 (by decide +kernel) rfl, ⟨by decide +kernel, by decide +kernel, by decide +kernel⟩, by decide⟩
theorem st_X7_at : Cond.static yX7_at ∈ ax_g := ax_gm 964 (by decide +kernel) rfl
theorem yk_X7_wondersAt : ax_Y yX7_wondersAt cX7_wondersAt 4 (some .int) 3 := ⟨ax_gm 958 (by decide +kernel) rfl, ax_gm 50 (by decide +kernel) rfl, ⟨by decide +kernel, by decide +kernel, by decide +kernel⟩, by decide⟩
theorem in_X7_wondersAt : Cond.instanceMethod yX7_wondersAt ∈ ax_g := ax_gm 957 (by decide +kernel) rfl
theorem se_X7_wondersAt : Cond.selects yX7_wondersAt.cls yX7_wondersAt yX7_wondersAt ∈ ax_g := ax_gm 33 (by decide +kernel) rfl
theorem yk_X7_sinsAt : ax_Y yX7_sinsAt cX7_sinsAt 5 (some .int) 4 := ⟨ax_gm 962 (by decide +kernel) rfl, ax_gm 50 (by decide +kernel) rfl, ⟨by decide +kernel, by decide +kernel, by decide +kernel⟩, by decide⟩
theorem in_X7_sinsAt : Cond.instanceMethod yX7_sinsAt ∈ ax_g := ax_gm 961 (by decide +kernel) rfl
theorem se_X7_sinsAt : Cond.selects yX7_sinsAt.cls yX7_sinsAt yX7_sinsAt ∈ ax_g := ax_gm 34 (by decide +kernel) rfl
theorem yk_X7_endOf : ax_Y yX7_endOf cX7_endOf 9 (some .int) 4 := ⟨ax_gm 969 (by decide +kernel) rfl, ax_gm 50 (by decide +kernel) rfl, ⟨by decide +kernel, by decide +kernel, by decide +kernel⟩, by decide⟩
theorem in_X7_endOf : Cond.instanceMethod yX7_endOf ∈ ax_g := ax_gm 968 (by decide +kernel) rfl
theorem se_X7_endOf : Cond.selects yX7_endOf.cls yX7_endOf yX7_endOf ∈ ax_g := ax_gm 35 (by decide +kernel) rfl
theorem yk_X7_findEnds : ax_Y yX7_findEnds cX7_findEnds 7 none 2 := ⟨ax_gm 954 (by decide +kernel) rfl, ax_gm 50 (by decide +kernel) rfl, ⟨by decide +kernel, by decide +kernel, by decide +kernel⟩, by decide⟩
theorem in_X7_findEnds : Cond.instanceMethod yX7_findEnds ∈ ax_g := ax_gm 953 (by decide +kernel) rfl
theorem se_X7_findEnds : Cond.selects yX7_findEnds.cls yX7_findEnds yX7_findEnds ∈ ax_g := ax_gm 32 (by decide +kernel) rfl
theorem yk_X7_rivals : ax_Y yX7_rivals cX7_rivals 6 (some .int) 3 := ⟨ax_gm 949 (by decide +kernel) rfl, ax_gm 50 (by decide +kernel) rfl, ⟨by decide +kernel, by decide +kernel, by decide +kernel⟩, by decide⟩
theorem in_X7_rivals : Cond.instanceMethod yX7_rivals ∈ ax_g := ax_gm 947 (by decide +kernel) rfl
theorem se_X7_rivals : Cond.selects yX7_rivals.cls yX7_rivals yX7_rivals ∈ ax_g := ax_gm 948 (by decide +kernel) rfl
theorem yk_X7_share : ax_Y yX7_share cX7_share 10 (some .int) 3 := ⟨ax_gm 973 (by decide +kernel) rfl, ax_gm 50 (by decide +kernel) rfl, ⟨by decide +kernel, by decide +kernel, by decide +kernel⟩, by decide⟩
theorem in_X7_share : Cond.instanceMethod yX7_share ∈ ax_g := ax_gm 971 (by decide +kernel) rfl
theorem se_X7_share : Cond.selects yX7_share.cls yX7_share yX7_share ∈ ax_g := ax_gm 972 (by decide +kernel) rfl
theorem yk_X7_seen : ax_Y yX7_seen cX7_seen 4 (some .int) 3 := ⟨ax_gm 977 (by decide +kernel) rfl, ax_gm 50 (by decide +kernel) rfl, ⟨by decide +kernel, by decide +kernel, by decide +kernel⟩, by decide⟩
theorem in_X7_seen : Cond.instanceMethod yX7_seen ∈ ax_g := ax_gm 975 (by decide +kernel) rfl
theorem se_X7_seen : Cond.selects yX7_seen.cls yX7_seen yX7_seen ∈ ax_g := ax_gm 976 (by decide +kernel) rfl
theorem yk_X7_forget : ax_Y yX7_forget cX7_forget 2 (some .int) 0 := ⟨ax_gm 981 (by decide +kernel) rfl, ax_gm 50 (by decide +kernel) rfl, ⟨by decide +kernel, by decide +kernel, by decide +kernel⟩, by decide⟩
theorem in_X7_forget : Cond.instanceMethod yX7_forget ∈ ax_g := ax_gm 979 (by decide +kernel) rfl
theorem se_X7_forget : Cond.selects yX7_forget.cls yX7_forget yX7_forget ∈ ax_g := ax_gm 980 (by decide +kernel) rfl
theorem yk_X7_makes : ax_Y yX7_makes cX7_makes 3 (some .boolean) 3 := ⟨ax_gm 992 (by decide +kernel) rfl, ax_gm 50 (by decide +kernel) rfl, ⟨by decide +kernel, by decide +kernel, by decide +kernel⟩, by decide⟩
theorem st_X7_makes : Cond.static yX7_makes ∈ ax_g := ax_gm 991 (by decide +kernel) rfl
theorem yk_X7_fits : ax_Y yX7_fits cX7_fits 4 (some .boolean) 1 := ⟨ax_gm 989 (by decide +kernel) rfl, ax_gm 50 (by decide +kernel) rfl, ⟨by decide +kernel, by decide +kernel, by decide +kernel⟩, by decide⟩
theorem in_X7_fits : Cond.instanceMethod yX7_fits ∈ ax_g := ax_gm 988 (by decide +kernel) rfl
theorem se_X7_fits : Cond.selects yX7_fits.cls yX7_fits yX7_fits ∈ ax_g := ax_gm 36 (by decide +kernel) rfl
theorem yk_X7_laws : ax_Y yX7_laws cX7_laws 4 (some .int) 1 := ⟨ax_gm 985 (by decide +kernel) rfl, ax_gm 50 (by decide +kernel) rfl, ⟨by decide +kernel, by decide +kernel, by decide +kernel⟩, by decide⟩
theorem in_X7_laws : Cond.instanceMethod yX7_laws ∈ ax_g := ax_gm 983 (by decide +kernel) rfl
theorem se_X7_laws : Cond.selects yX7_laws.cls yX7_laws yX7_laws ∈ ax_g := ax_gm 984 (by decide +kernel) rfl
theorem yk_X7_mostLeft : ax_Y yX7_mostLeft cX7_mostLeft 7 (some .int) 1 := ⟨ax_gm 1000 (by decide +kernel) rfl, ax_gm 50 (by decide +kernel) rfl, ⟨by decide +kernel, by decide +kernel, by decide +kernel⟩, by decide⟩
theorem in_X7_mostLeft : Cond.instanceMethod yX7_mostLeft ∈ ax_g := ax_gm 999 (by decide +kernel) rfl
theorem se_X7_mostLeft : Cond.selects yX7_mostLeft.cls yX7_mostLeft yX7_mostLeft ∈ ax_g := ax_gm 37 (by decide +kernel) rfl
theorem yk_X7_ask : ax_Y yX7_ask cX7_ask 6 (some .int) 1 := ⟨ax_gm 996 (by decide +kernel) rfl, ax_gm 50 (by decide +kernel) rfl, ⟨by decide +kernel, by decide +kernel, by decide +kernel⟩, by decide⟩
theorem in_X7_ask : Cond.instanceMethod yX7_ask ∈ ax_g := ax_gm 994 (by decide +kernel) rfl
theorem se_X7_ask : Cond.selects yX7_ask.cls yX7_ask yX7_ask ∈ ax_g := ax_gm 995 (by decide +kernel) rfl
theorem yk_X7_book : ax_Y yX7_book cX7_book 10 (some .int) 3 := ⟨ax_gm 1004 (by decide +kernel) rfl, ax_gm 50 (by decide +kernel) rfl, ⟨by decide +kernel, by decide +kernel, by decide +kernel⟩, by decide⟩
theorem in_X7_book : Cond.instanceMethod yX7_book ∈ ax_g := ax_gm 1002 (by decide +kernel) rfl
theorem se_X7_book : Cond.selects yX7_book.cls yX7_book yX7_book ∈ ax_g := ax_gm 1003 (by decide +kernel) rfl
theorem yk_X7_pass : ax_Y yX7_pass cX7_pass 3 (some .int) 1 := ⟨ax_gm 1020 (by decide +kernel) rfl, ax_gm 50 (by decide +kernel) rfl, ⟨by decide +kernel, by decide +kernel, by decide +kernel⟩, by decide⟩
theorem in_X7_pass : Cond.instanceMethod yX7_pass ∈ ax_g := ax_gm 1019 (by decide +kernel) rfl
theorem se_X7_pass : Cond.selects yX7_pass.cls yX7_pass yX7_pass ∈ ax_g := ax_gm 39 (by decide +kernel) rfl
theorem yk_X7_passRow : ax_Y yX7_passRow cX7_passRow 4 none 2 := ⟨ax_gm 1024 (by decide +kernel) rfl, ax_gm 50 (by decide +kernel) rfl, ⟨by decide +kernel, by decide +kernel, by decide +kernel⟩, by decide⟩
theorem in_X7_passRow : Cond.instanceMethod yX7_passRow ∈ ax_g := ax_gm 1023 (by decide +kernel) rfl
theorem se_X7_passRow : Cond.selects yX7_passRow.cls yX7_passRow yX7_passRow ∈ ax_g := ax_gm 40 (by decide +kernel) rfl
theorem yk_X7_passAll : ax_Y yX7_passAll cX7_passAll 1 none 0 := ⟨ax_gm 1016 (by decide +kernel) rfl, ax_gm 50 (by decide +kernel) rfl, ⟨by decide +kernel, by decide +kernel, by decide +kernel⟩, by decide⟩
theorem in_X7_passAll : Cond.instanceMethod yX7_passAll ∈ ax_g := ax_gm 1015 (by decide +kernel) rfl
theorem se_X7_passAll : Cond.selects yX7_passAll.cls yX7_passAll yX7_passAll ∈ ax_g := ax_gm 38 (by decide +kernel) rfl
theorem yk_X7_image : ax_Y yX7_image cX7_image 2 (some .int) 1 := ⟨ax_gm 1012 (by decide +kernel) rfl, ax_gm 50 (by decide +kernel) rfl, ⟨by decide +kernel, by decide +kernel, by decide +kernel⟩, by decide⟩
theorem in_X7_image : Cond.instanceMethod yX7_image ∈ ax_g := ax_gm 1010 (by decide +kernel) rfl
theorem se_X7_image : Cond.selects yX7_image.cls yX7_image yX7_image ∈ ax_g := ax_gm 1011 (by decide +kernel) rfl
theorem yk_X7_restore : ax_Y yX7_restore cX7_restore 2 (some .int) 1 := ⟨ax_gm 1028 (by decide +kernel) rfl, ax_gm 50 (by decide +kernel) rfl, ⟨by decide +kernel, by decide +kernel, by decide +kernel⟩, by decide⟩
theorem in_X7_restore : Cond.instanceMethod yX7_restore ∈ ax_g := ax_gm 1026 (by decide +kernel) rfl
theorem se_X7_restore : Cond.selects yX7_restore.cls yX7_restore yX7_restore ∈ ax_g := ax_gm 1027 (by decide +kernel) rfl
theorem yk_X7_toldOf : ax_Y yX7_toldOf cX7_toldOf 3 (some .int) 2 := ⟨ax_gm 1038 (by decide +kernel) rfl, ax_gm 50 (by decide +kernel) rfl, ⟨by decide +kernel, by decide +kernel, by decide +kernel⟩, by decide⟩
theorem in_X7_toldOf : Cond.instanceMethod yX7_toldOf ∈ ax_g := ax_gm 1037 (by decide +kernel) rfl
theorem se_X7_toldOf : Cond.selects yX7_toldOf.cls yX7_toldOf yX7_toldOf ∈ ax_g := ax_gm 41 (by decide +kernel) rfl
theorem yk_X7_told : ax_Y yX7_told cX7_told 3 (some .int) 1 := ⟨ax_gm 1032 (by decide +kernel) rfl, ax_gm 50 (by decide +kernel) rfl, ⟨by decide +kernel, by decide +kernel, by decide +kernel⟩, by decide⟩
theorem in_X7_told : Cond.instanceMethod yX7_told ∈ ax_g := ax_gm 1030 (by decide +kernel) rfl
theorem se_X7_told : Cond.selects yX7_told.cls yX7_told yX7_told ∈ ax_g := ax_gm 1031 (by decide +kernel) rfl
theorem yk_J6_bitCount_0f7a4 : ax_Y yJ6_bitCount_0f7a4 cJ6_bitCount_0f7a4 1 (some .int) 1 := ⟨ax_gm 281 (by decide +kernel) rfl, ax_gm 51 (by decide +kernel) rfl, ⟨by decide +kernel, by decide +kernel, by decide +kernel⟩, by decide⟩
theorem st_J6_bitCount_0f7a4 : Cond.static yJ6_bitCount_0f7a4 ∈ ax_g := ax_gm 280 (by decide +kernel) rfl
theorem yk_J9_max_7cf53 : ax_Y yJ9_max_7cf53 cJ9_max_7cf53 2 (some .int) 2 := ⟨ax_gm 464 (by decide +kernel) rfl, ax_gm 53 (by decide +kernel) rfl, ⟨by decide +kernel, by decide +kernel, by decide +kernel⟩, by decide⟩
theorem st_J9_max_7cf53 : Cond.static yJ9_max_7cf53 ∈ ax_g := ax_gm 463 (by decide +kernel) rfl
theorem yk_J9_max_f86c9 : ax_Y yJ9_max_f86c9 cJ9_max_f86c9 4 (some .long) 2 := ⟨ax_gm 494 (by decide +kernel) rfl, ax_gm 53 (by decide +kernel) rfl, ⟨by decide +kernel, by decide +kernel, by decide +kernel⟩, by decide⟩
theorem st_J9_max_f86c9 : Cond.static yJ9_max_f86c9 ∈ ax_g := ax_gm 493 (by decide +kernel) rfl
theorem yk_J9_min_7cf53 : ax_Y yJ9_min_7cf53 cJ9_min_7cf53 2 (some .int) 2 := ⟨ax_gm 417 (by decide +kernel) rfl, ax_gm 53 (by decide +kernel) rfl, ⟨by decide +kernel, by decide +kernel, by decide +kernel⟩, by decide⟩
theorem st_J9_min_7cf53 : Cond.static yJ9_min_7cf53 ∈ ax_g := ax_gm 416 (by decide +kernel) rfl
theorem in_obj : Cond.instanceMethod objectInit ∈ ax_g := ax_gm 60 (by decide +kernel) rfl
theorem co_obj : Cond.code objectInit ⟨#[0xb1]⟩ 1 none ∈ ax_g := ax_gm 61 (by decide +kernel) rfl
theorem nat_ac : Cond.native arraycopyName ∈ ax_g := ax_gm 368 (by decide +kernel) rfl
theorem st_ac : Cond.static arraycopyName ∈ ax_g := ax_gm 367 (by decide +kernel) rfl
theorem ini_sys : Cond.initialized "java/lang/System" ∈ ax_g := ax_gm 52 (by decide +kernel) rfl
theorem ini_X0 : Cond.initialized RX0 ∈ ax_g := ax_gm 47 (by decide +kernel) rfl
theorem inst_X0 : Cond.instantiable RX0 4 ∈ ax_g := ax_gm 159 (by decide +kernel) rfl
theorem ini_X1 : Cond.initialized RX1 ∈ ax_g := ax_gm 48 (by decide +kernel) rfl
theorem inst_X1 : Cond.instantiable RX1 1 ∈ ax_g := ax_gm 214 (by decide +kernel) rfl
theorem ini_X2 : Cond.initialized RX2 ∈ ax_g := ax_gm 44 (by decide +kernel) rfl
theorem inst_X2 : Cond.instantiable RX2 16 ∈ ax_g := ax_gm 63 (by decide +kernel) rfl
theorem ini_X3 : Cond.initialized RX3 ∈ ax_g := ax_gm 49 (by decide +kernel) rfl
theorem inst_X3 : Cond.instantiable RX3 2 ∈ ax_g := ax_gm 225 (by decide +kernel) rfl
theorem ini_X4 : Cond.initialized RX4 ∈ ax_g := ax_gm 45 (by decide +kernel) rfl
theorem inst_X4 : Cond.instantiable RX4 2 ∈ ax_g := ax_gm 137 (by decide +kernel) rfl
theorem ini_X5 : Cond.initialized RX5 ∈ ax_g := ax_gm 46 (by decide +kernel) rfl
theorem inst_X5 : Cond.instantiable RX5 7 ∈ ax_g := ax_gm 153 (by decide +kernel) rfl
theorem ini_X6 : Cond.initialized RX6 ∈ ax_g := ax_gm 43 (by decide +kernel) rfl
theorem inst_X6 : Cond.instantiable RX6 8 ∈ ax_g := ax_gm 55 (by decide +kernel) rfl
theorem ini_X7 : Cond.initialized RX7 ∈ ax_g := ax_gm 50 (by decide +kernel) rfl
theorem inst_X7 : Cond.instantiable RX7 38 ∈ ax_g := ax_gm 613 (by decide +kernel) rfl
theorem ac_int : Cond.arrayClass .int ∈ ax_g := ax_gm 134 (by decide +kernel) rfl
theorem ac_char : Cond.arrayClass .char ∈ ax_g := ax_gm 151 (by decide +kernel) rfl
theorem ac_boolean : Cond.arrayClass .boolean ∈ ax_g := ax_gm 733 (by decide +kernel) rfl
theorem ac_long : Cond.arrayClass .long ∈ ax_g := ax_gm 223 (by decide +kernel) rfl
/-! ===== the layout of the run ===== -/
def ax_L (B : Nat) (g : Nat → Option Nat) : List ax_S := [
  .inl (6, [some (.ref (B + 1)), some (.ref (B + 13)), some (.ref (B + 25)), some (.ref (B + 26)), some (.ref (B + 28)), some (.ref (B + 30)), some (.ref (B + 31)), some (.ref (B + 33))]),
  .inl (2, [none, none, none, none, none, some (.ref (B + 2)), some (.ref (B + 3)), some (.ref (B + 4)), some (.ref (B + 5)), some (.ref (B + 6)), some (.ref (B + 7)), some (.ref (B + 8)), some (.ref (B + 9)), some (.ref (B + 10)), some (.ref (B + 11)), some (.ref (B + 12))]),
  .inr (.inl (0, 6)),
  .inr (.inl (0, 6)),
  .inr (.inl (0, 6)),
  .inr (.inl (0, 48)),
  .inr (.inl (0, 6)),
  .inr (.inl (0, 6)),
  .inr (.inl (0, 6)),
  .inr (.inl (0, 4)),
  .inr (.inl (0, 3)),
  .inr (.inl (0, 8)),
  .inr (.inl (0, 8)),
  .inl (2, [none, none, none, none, none, some (.ref (B + 14)), some (.ref (B + 15)), some (.ref (B + 16)), some (.ref (B + 17)), some (.ref (B + 18)), some (.ref (B + 19)), some (.ref (B + 20)), some (.ref (B + 21)), some (.ref (B + 22)), some (.ref (B + 23)), some (.ref (B + 24))]),
  .inr (.inl (0, 6)),
  .inr (.inl (0, 6)),
  .inr (.inl (0, 6)),
  .inr (.inl (0, 48)),
  .inr (.inl (0, 6)),
  .inr (.inl (0, 6)),
  .inr (.inl (0, 6)),
  .inr (.inl (0, 4)),
  .inr (.inl (0, 3)),
  .inr (.inl (0, 8)),
  .inr (.inl (0, 8)),
  .inr (.inr (2, g)),
  .inl (4, [some (.ref (B + 27)), none]),
  .inr (.inl (1, 60)),
  .inl (5, [some (.ref (B + 29)), none, none, none, none, none, none]),
  .inl (0, [none, none, none, none]),
  .inl (0, [none, none, none, none]),
  .inl (1, [some (.ref (B + 32))]),
  .inr (.inl (3, 81)),
  .inl (3, [some (.ref (B + 34)), none]),
  .inr (.inl (0, 100)),
  .inl (7, [none, none, some (.ref (B + 36)), some (.ref (B + 37)), some (.ref (B + 38)), some (.ref (B + 39)), some (.ref (B + 40)), some (.ref (B + 41)), some (.ref (B + 42)), some (.ref (B + 43)), some (.ref (B + 44)), some (.ref (B + 45)), some (.ref (B + 46)), some (.ref (B + 47)), some (.ref (B + 48)), some (.ref (B + 49)), none, some (.ref (B + 50)), none, some (.ref (B + 51)), some (.ref (B + 52)), some (.ref (B + 53)), some (.ref (B + 54)), none, none, none, none, none, some (.ref (B + 55)), some (.ref (B + 56)), none, none, some (.ref (B + 57)), some (.ref (B + 58)), some (.ref (B + 59)), some (.ref (B + 60)), none, none]),
  .inr (.inl (0, 6)),
  .inr (.inl (0, 6)),
  .inr (.inl (0, 6)),
  .inr (.inl (0, 6)),
  .inr (.inl (0, 48)),
  .inr (.inl (0, 6)),
  .inr (.inl (0, 6)),
  .inr (.inl (0, 6)),
  .inr (.inl (0, 4)),
  .inr (.inl (0, 3)),
  .inr (.inl (0, 8)),
  .inr (.inl (0, 8)),
  .inr (.inl (0, 8)),
  .inr (.inl (0, 8)),
  .inr (.inl (0, 60)),
  .inr (.inl (0, 60)),
  .inr (.inl (0, 60)),
  .inr (.inl (0, 60)),
  .inr (.inl (0, 60)),
  .inr (.inl (0, 77)),
  .inr (.inl (0, 83)),
  .inr (.inl (3, 81)),
  .inr (.inl (0, 637)),
  .inr (.inl (0, 320)),
  .inr (.inl (2, 2))]
def ax_LL (B : Nat) (lay : List ax_S) : Prop := ∃ (g : Nat → Option Nat) (ext : List ax_S), lay = ax_L B g ++ ext
theorem lk_0 {B : Nat} {lay : List ax_S} (h : ax_LL B lay) : lay[0]? = some (.inl (6, [some (.ref (B + 1)), some (.ref (B + 13)), some (.ref (B + 25)), some (.ref (B + 26)), some (.ref (B + 28)), some (.ref (B + 30)), some (.ref (B + 31)), some (.ref (B + 33))])) := by
  obtain ⟨g, ext, rfl⟩ := h
  rfl
theorem lk_1 {B : Nat} {lay : List ax_S} (h : ax_LL B lay) : lay[1]? = some (.inl (2, [none, none, none, none, none, some (.ref (B + 2)), some (.ref (B + 3)), some (.ref (B + 4)), some (.ref (B + 5)), some (.ref (B + 6)), some (.ref (B + 7)), some (.ref (B + 8)), some (.ref (B + 9)), some (.ref (B + 10)), some (.ref (B + 11)), some (.ref (B + 12))])) := by
  obtain ⟨g, ext, rfl⟩ := h
  rfl
theorem lk_2 {B : Nat} {lay : List ax_S} (h : ax_LL B lay) : lay[2]? = some (.inr (.inl (0, 6))) := by
  obtain ⟨g, ext, rfl⟩ := h
  rfl
theorem lk_3 {B : Nat} {lay : List ax_S} (h : ax_LL B lay) : lay[3]? = some (.inr (.inl (0, 6))) := by
  obtain ⟨g, ext, rfl⟩ := h
  rfl
theorem lk_4 {B : Nat} {lay : List ax_S} (h : ax_LL B lay) : lay[4]? = some (.inr (.inl (0, 6))) := by
  obtain ⟨g, ext, rfl⟩ := h
  rfl
theorem lk_5 {B : Nat} {lay : List ax_S} (h : ax_LL B lay) : lay[5]? = some (.inr (.inl (0, 48))) := by
  obtain ⟨g, ext, rfl⟩ := h
  rfl
theorem lk_6 {B : Nat} {lay : List ax_S} (h : ax_LL B lay) : lay[6]? = some (.inr (.inl (0, 6))) := by
  obtain ⟨g, ext, rfl⟩ := h
  rfl
theorem lk_7 {B : Nat} {lay : List ax_S} (h : ax_LL B lay) : lay[7]? = some (.inr (.inl (0, 6))) := by
  obtain ⟨g, ext, rfl⟩ := h
  rfl
theorem lk_8 {B : Nat} {lay : List ax_S} (h : ax_LL B lay) : lay[8]? = some (.inr (.inl (0, 6))) := by
  obtain ⟨g, ext, rfl⟩ := h
  rfl
theorem lk_9 {B : Nat} {lay : List ax_S} (h : ax_LL B lay) : lay[9]? = some (.inr (.inl (0, 4))) := by
  obtain ⟨g, ext, rfl⟩ := h
  rfl
theorem lk_10 {B : Nat} {lay : List ax_S} (h : ax_LL B lay) : lay[10]? = some (.inr (.inl (0, 3))) := by
  obtain ⟨g, ext, rfl⟩ := h
  rfl
theorem lk_11 {B : Nat} {lay : List ax_S} (h : ax_LL B lay) : lay[11]? = some (.inr (.inl (0, 8))) := by
  obtain ⟨g, ext, rfl⟩ := h
  rfl
theorem lk_12 {B : Nat} {lay : List ax_S} (h : ax_LL B lay) : lay[12]? = some (.inr (.inl (0, 8))) := by
  obtain ⟨g, ext, rfl⟩ := h
  rfl
theorem lk_13 {B : Nat} {lay : List ax_S} (h : ax_LL B lay) : lay[13]? = some (.inl (2, [none, none, none, none, none, some (.ref (B + 14)), some (.ref (B + 15)), some (.ref (B + 16)), some (.ref (B + 17)), some (.ref (B + 18)), some (.ref (B + 19)), some (.ref (B + 20)), some (.ref (B + 21)), some (.ref (B + 22)), some (.ref (B + 23)), some (.ref (B + 24))])) := by
  obtain ⟨g, ext, rfl⟩ := h
  rfl
theorem lk_14 {B : Nat} {lay : List ax_S} (h : ax_LL B lay) : lay[14]? = some (.inr (.inl (0, 6))) := by
  obtain ⟨g, ext, rfl⟩ := h
  rfl
theorem lk_15 {B : Nat} {lay : List ax_S} (h : ax_LL B lay) : lay[15]? = some (.inr (.inl (0, 6))) := by
  obtain ⟨g, ext, rfl⟩ := h
  rfl
theorem lk_16 {B : Nat} {lay : List ax_S} (h : ax_LL B lay) : lay[16]? = some (.inr (.inl (0, 6))) := by
  obtain ⟨g, ext, rfl⟩ := h
  rfl
theorem lk_17 {B : Nat} {lay : List ax_S} (h : ax_LL B lay) : lay[17]? = some (.inr (.inl (0, 48))) := by
  obtain ⟨g, ext, rfl⟩ := h
  rfl
theorem lk_18 {B : Nat} {lay : List ax_S} (h : ax_LL B lay) : lay[18]? = some (.inr (.inl (0, 6))) := by
  obtain ⟨g, ext, rfl⟩ := h
  rfl
theorem lk_19 {B : Nat} {lay : List ax_S} (h : ax_LL B lay) : lay[19]? = some (.inr (.inl (0, 6))) := by
  obtain ⟨g, ext, rfl⟩ := h
  rfl
theorem lk_20 {B : Nat} {lay : List ax_S} (h : ax_LL B lay) : lay[20]? = some (.inr (.inl (0, 6))) := by
  obtain ⟨g, ext, rfl⟩ := h
  rfl
theorem lk_21 {B : Nat} {lay : List ax_S} (h : ax_LL B lay) : lay[21]? = some (.inr (.inl (0, 4))) := by
  obtain ⟨g, ext, rfl⟩ := h
  rfl
theorem lk_22 {B : Nat} {lay : List ax_S} (h : ax_LL B lay) : lay[22]? = some (.inr (.inl (0, 3))) := by
  obtain ⟨g, ext, rfl⟩ := h
  rfl
theorem lk_23 {B : Nat} {lay : List ax_S} (h : ax_LL B lay) : lay[23]? = some (.inr (.inl (0, 8))) := by
  obtain ⟨g, ext, rfl⟩ := h
  rfl
theorem lk_24 {B : Nat} {lay : List ax_S} (h : ax_LL B lay) : lay[24]? = some (.inr (.inl (0, 8))) := by
  obtain ⟨g, ext, rfl⟩ := h
  rfl
theorem lk_26 {B : Nat} {lay : List ax_S} (h : ax_LL B lay) : lay[26]? = some (.inl (4, [some (.ref (B + 27)), none])) := by
  obtain ⟨g, ext, rfl⟩ := h
  rfl
theorem lk_27 {B : Nat} {lay : List ax_S} (h : ax_LL B lay) : lay[27]? = some (.inr (.inl (1, 60))) := by
  obtain ⟨g, ext, rfl⟩ := h
  rfl
theorem lk_28 {B : Nat} {lay : List ax_S} (h : ax_LL B lay) : lay[28]? = some (.inl (5, [some (.ref (B + 29)), none, none, none, none, none, none])) := by
  obtain ⟨g, ext, rfl⟩ := h
  rfl
theorem lk_29 {B : Nat} {lay : List ax_S} (h : ax_LL B lay) : lay[29]? = some (.inl (0, [none, none, none, none])) := by
  obtain ⟨g, ext, rfl⟩ := h
  rfl
theorem lk_30 {B : Nat} {lay : List ax_S} (h : ax_LL B lay) : lay[30]? = some (.inl (0, [none, none, none, none])) := by
  obtain ⟨g, ext, rfl⟩ := h
  rfl
theorem lk_31 {B : Nat} {lay : List ax_S} (h : ax_LL B lay) : lay[31]? = some (.inl (1, [some (.ref (B + 32))])) := by
  obtain ⟨g, ext, rfl⟩ := h
  rfl
theorem lk_32 {B : Nat} {lay : List ax_S} (h : ax_LL B lay) : lay[32]? = some (.inr (.inl (3, 81))) := by
  obtain ⟨g, ext, rfl⟩ := h
  rfl
theorem lk_33 {B : Nat} {lay : List ax_S} (h : ax_LL B lay) : lay[33]? = some (.inl (3, [some (.ref (B + 34)), none])) := by
  obtain ⟨g, ext, rfl⟩ := h
  rfl
theorem lk_34 {B : Nat} {lay : List ax_S} (h : ax_LL B lay) : lay[34]? = some (.inr (.inl (0, 100))) := by
  obtain ⟨g, ext, rfl⟩ := h
  rfl
theorem lk_35 {B : Nat} {lay : List ax_S} (h : ax_LL B lay) : lay[35]? = some (.inl (7, [none, none, some (.ref (B + 36)), some (.ref (B + 37)), some (.ref (B + 38)), some (.ref (B + 39)), some (.ref (B + 40)), some (.ref (B + 41)), some (.ref (B + 42)), some (.ref (B + 43)), some (.ref (B + 44)), some (.ref (B + 45)), some (.ref (B + 46)), some (.ref (B + 47)), some (.ref (B + 48)), some (.ref (B + 49)), none, some (.ref (B + 50)), none, some (.ref (B + 51)), some (.ref (B + 52)), some (.ref (B + 53)), some (.ref (B + 54)), none, none, none, none, none, some (.ref (B + 55)), some (.ref (B + 56)), none, none, some (.ref (B + 57)), some (.ref (B + 58)), some (.ref (B + 59)), some (.ref (B + 60)), none, none])) := by
  obtain ⟨g, ext, rfl⟩ := h
  rfl
theorem lk_36 {B : Nat} {lay : List ax_S} (h : ax_LL B lay) : lay[36]? = some (.inr (.inl (0, 6))) := by
  obtain ⟨g, ext, rfl⟩ := h
  rfl
theorem lk_37 {B : Nat} {lay : List ax_S} (h : ax_LL B lay) : lay[37]? = some (.inr (.inl (0, 6))) := by
  obtain ⟨g, ext, rfl⟩ := h
  rfl
theorem lk_38 {B : Nat} {lay : List ax_S} (h : ax_LL B lay) : lay[38]? = some (.inr (.inl (0, 6))) := by
  obtain ⟨g, ext, rfl⟩ := h
  rfl
theorem lk_39 {B : Nat} {lay : List ax_S} (h : ax_LL B lay) : lay[39]? = some (.inr (.inl (0, 6))) := by
  obtain ⟨g, ext, rfl⟩ := h
  rfl
theorem lk_40 {B : Nat} {lay : List ax_S} (h : ax_LL B lay) : lay[40]? = some (.inr (.inl (0, 48))) := by
  obtain ⟨g, ext, rfl⟩ := h
  rfl
theorem lk_41 {B : Nat} {lay : List ax_S} (h : ax_LL B lay) : lay[41]? = some (.inr (.inl (0, 6))) := by
  obtain ⟨g, ext, rfl⟩ := h
  rfl
theorem lk_42 {B : Nat} {lay : List ax_S} (h : ax_LL B lay) : lay[42]? = some (.inr (.inl (0, 6))) := by
  obtain ⟨g, ext, rfl⟩ := h
  rfl
theorem lk_43 {B : Nat} {lay : List ax_S} (h : ax_LL B lay) : lay[43]? = some (.inr (.inl (0, 6))) := by
  obtain ⟨g, ext, rfl⟩ := h
  rfl
theorem lk_44 {B : Nat} {lay : List ax_S} (h : ax_LL B lay) : lay[44]? = some (.inr (.inl (0, 4))) := by
  obtain ⟨g, ext, rfl⟩ := h
  rfl
theorem lk_45 {B : Nat} {lay : List ax_S} (h : ax_LL B lay) : lay[45]? = some (.inr (.inl (0, 3))) := by
  obtain ⟨g, ext, rfl⟩ := h
  rfl
theorem lk_46 {B : Nat} {lay : List ax_S} (h : ax_LL B lay) : lay[46]? = some (.inr (.inl (0, 8))) := by
  obtain ⟨g, ext, rfl⟩ := h
  rfl
theorem lk_47 {B : Nat} {lay : List ax_S} (h : ax_LL B lay) : lay[47]? = some (.inr (.inl (0, 8))) := by
  obtain ⟨g, ext, rfl⟩ := h
  rfl
theorem lk_48 {B : Nat} {lay : List ax_S} (h : ax_LL B lay) : lay[48]? = some (.inr (.inl (0, 8))) := by
  obtain ⟨g, ext, rfl⟩ := h
  rfl
theorem lk_49 {B : Nat} {lay : List ax_S} (h : ax_LL B lay) : lay[49]? = some (.inr (.inl (0, 8))) := by
  obtain ⟨g, ext, rfl⟩ := h
  rfl
theorem lk_50 {B : Nat} {lay : List ax_S} (h : ax_LL B lay) : lay[50]? = some (.inr (.inl (0, 60))) := by
  obtain ⟨g, ext, rfl⟩ := h
  rfl
theorem lk_51 {B : Nat} {lay : List ax_S} (h : ax_LL B lay) : lay[51]? = some (.inr (.inl (0, 60))) := by
  obtain ⟨g, ext, rfl⟩ := h
  rfl
theorem lk_52 {B : Nat} {lay : List ax_S} (h : ax_LL B lay) : lay[52]? = some (.inr (.inl (0, 60))) := by
  obtain ⟨g, ext, rfl⟩ := h
  rfl
theorem lk_53 {B : Nat} {lay : List ax_S} (h : ax_LL B lay) : lay[53]? = some (.inr (.inl (0, 60))) := by
  obtain ⟨g, ext, rfl⟩ := h
  rfl
theorem lk_54 {B : Nat} {lay : List ax_S} (h : ax_LL B lay) : lay[54]? = some (.inr (.inl (0, 60))) := by
  obtain ⟨g, ext, rfl⟩ := h
  rfl
theorem lk_55 {B : Nat} {lay : List ax_S} (h : ax_LL B lay) : lay[55]? = some (.inr (.inl (0, 77))) := by
  obtain ⟨g, ext, rfl⟩ := h
  rfl
theorem lk_56 {B : Nat} {lay : List ax_S} (h : ax_LL B lay) : lay[56]? = some (.inr (.inl (0, 83))) := by
  obtain ⟨g, ext, rfl⟩ := h
  rfl
theorem lk_57 {B : Nat} {lay : List ax_S} (h : ax_LL B lay) : lay[57]? = some (.inr (.inl (3, 81))) := by
  obtain ⟨g, ext, rfl⟩ := h
  rfl
theorem lk_58 {B : Nat} {lay : List ax_S} (h : ax_LL B lay) : lay[58]? = some (.inr (.inl (0, 637))) := by
  obtain ⟨g, ext, rfl⟩ := h
  rfl
theorem lk_59 {B : Nat} {lay : List ax_S} (h : ax_LL B lay) : lay[59]? = some (.inr (.inl (0, 320))) := by
  obtain ⟨g, ext, rfl⟩ := h
  rfl
theorem lk_60 {B : Nat} {lay : List ax_S} (h : ax_LL B lay) : lay[60]? = some (.inr (.inl (2, 2))) := by
  obtain ⟨g, ext, rfl⟩ := h
  rfl
/-- a Diocese at b: itself and its rows behind it -/
def ax_Dio (B : Nat) (lay : List ax_S) (b : Nat) : Prop := lay[b]? = some (.inl (2, [none, none, none, none, none, some (.ref (B + (b + 1))), some (.ref (B + (b + 2))), some (.ref (B + (b + 3))), some (.ref (B + (b + 4))), some (.ref (B + (b + 5))), some (.ref (B + (b + 6))), some (.ref (B + (b + 7))), some (.ref (B + (b + 8))), some (.ref (B + (b + 9))), some (.ref (B + (b + 10))), some (.ref (B + (b + 11)))])) ∧ lay[b + 1]? = some (.inr (.inl (0, 6))) ∧ lay[b + 2]? = some (.inr (.inl (0, 6))) ∧ lay[b + 3]? = some (.inr (.inl (0, 6))) ∧ lay[b + 4]? = some (.inr (.inl (0, 48))) ∧ lay[b + 5]? = some (.inr (.inl (0, 6))) ∧ lay[b + 6]? = some (.inr (.inl (0, 6))) ∧ lay[b + 7]? = some (.inr (.inl (0, 6))) ∧ lay[b + 8]? = some (.inr (.inl (0, 4))) ∧ lay[b + 9]? = some (.inr (.inl (0, 3))) ∧ lay[b + 10]? = some (.inr (.inl (0, 8))) ∧ lay[b + 11]? = some (.inr (.inl (0, 8)))
theorem dio_0 {B : Nat} {lay : List ax_S} {b : Nat} (h : ax_Dio B lay b) : lay[b]? = some (.inl (2, [none, none, none, none, none, some (.ref (B + (b + 1))), some (.ref (B + (b + 2))), some (.ref (B + (b + 3))), some (.ref (B + (b + 4))), some (.ref (B + (b + 5))), some (.ref (B + (b + 6))), some (.ref (B + (b + 7))), some (.ref (B + (b + 8))), some (.ref (B + (b + 9))), some (.ref (B + (b + 10))), some (.ref (B + (b + 11)))])) := h.1
theorem dio_1 {B : Nat} {lay : List ax_S} {b : Nat} (h : ax_Dio B lay b) : lay[b + 1]? = some (.inr (.inl (0, 6))) := h.2.1
theorem dio_2 {B : Nat} {lay : List ax_S} {b : Nat} (h : ax_Dio B lay b) : lay[b + 2]? = some (.inr (.inl (0, 6))) := h.2.2.1
theorem dio_3 {B : Nat} {lay : List ax_S} {b : Nat} (h : ax_Dio B lay b) : lay[b + 3]? = some (.inr (.inl (0, 6))) := h.2.2.2.1
theorem dio_4 {B : Nat} {lay : List ax_S} {b : Nat} (h : ax_Dio B lay b) : lay[b + 4]? = some (.inr (.inl (0, 48))) := h.2.2.2.2.1
theorem dio_5 {B : Nat} {lay : List ax_S} {b : Nat} (h : ax_Dio B lay b) : lay[b + 5]? = some (.inr (.inl (0, 6))) := h.2.2.2.2.2.1
theorem dio_6 {B : Nat} {lay : List ax_S} {b : Nat} (h : ax_Dio B lay b) : lay[b + 6]? = some (.inr (.inl (0, 6))) := h.2.2.2.2.2.2.1
theorem dio_7 {B : Nat} {lay : List ax_S} {b : Nat} (h : ax_Dio B lay b) : lay[b + 7]? = some (.inr (.inl (0, 6))) := h.2.2.2.2.2.2.2.1
theorem dio_8 {B : Nat} {lay : List ax_S} {b : Nat} (h : ax_Dio B lay b) : lay[b + 8]? = some (.inr (.inl (0, 4))) := h.2.2.2.2.2.2.2.2.1
theorem dio_9 {B : Nat} {lay : List ax_S} {b : Nat} (h : ax_Dio B lay b) : lay[b + 9]? = some (.inr (.inl (0, 3))) := h.2.2.2.2.2.2.2.2.2.1
theorem dio_10 {B : Nat} {lay : List ax_S} {b : Nat} (h : ax_Dio B lay b) : lay[b + 10]? = some (.inr (.inl (0, 8))) := h.2.2.2.2.2.2.2.2.2.2.1
theorem dio_11 {B : Nat} {lay : List ax_S} {b : Nat} (h : ax_Dio B lay b) : lay[b + 11]? = some (.inr (.inl (0, 8))) := h.2.2.2.2.2.2.2.2.2.2.2
theorem dio_at1 {B : Nat} {lay : List ax_S} (h : ax_LL B lay) : ax_Dio B lay 1 := by
  obtain ⟨g, ext, rfl⟩ := h
  exact ⟨rfl, rfl, rfl, rfl, rfl, rfl, rfl, rfl, rfl, rfl, rfl, rfl⟩
theorem dio_at13 {B : Nat} {lay : List ax_S} (h : ax_LL B lay) : ax_Dio B lay 13 := by
  obtain ⟨g, ext, rfl⟩ := h
  exact ⟨rfl, rfl, rfl, rfl, rfl, rfl, rfl, rfl, rfl, rfl, rfl, rfl⟩
abbrev ax_Ac : ax_S := .inl (0, [none, none, none, none])
