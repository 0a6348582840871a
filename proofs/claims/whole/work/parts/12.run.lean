section GEN
variable {p : Program} {l : Launch} {e : Env} {R : Room} {s : State} {m : MethodId} {args : Array Value} {below : List Frame} {meth : Method} {c : Code} {E : ax_E} {B mc ms : Nat}
def F_X6_offer (I : ax_I) (x1 : Int32) (x2 : Int32) (x3 : Int32) (x4 : Int32) : Option (Int32 × ax_I) :=
  (F_X6_within I x1 0 5).bind (fun q3 => if q3 = 0 then some ((-1), I) else (F_X6_within I x2 0 99).bind (fun q15 => if q15 = 0 then some ((-2), I) else (F_X6_within I x3 0 999).bind (fun q26 => if q26 = 0 then some ((-2), I) else (F_X6_within I x4 0 4095).bind (fun q38 => if q38 = 0 then some ((-2), I) else if ax_in x1 6 = true then if ax_in x1 6 = true then if ax_in x1 6 = true then if ax_in x1 6 = true then some ((I 8 x1.toNatClampNeg), (ax_u (ax_u (ax_u I 6 x1.toNatClampNeg x2) 7 x1.toNatClampNeg x3) 8 x1.toNatClampNeg x4)) else none else none else none else none))))
set_option maxRecDepth 100000 in
set_option maxHeartbeats 4000000 in
theorem t_X6_offer_0 {lay : List ax_S} {J : ax_J} {rv : Int32} {I9 : ax_I} (hL : ax_LL B lay) (C : ax_C p R s m args meth c yX6_offer cX6_offer 6 (some .int) 4 E mc ms) : ∀ (I : ax_I) (x1 : Int32) (x2 : Int32) (x3 : Int32) (x4 : Int32), F_X6_offer I x1 x2 x3 x4 = some (rv, I9) → AM p l e R s m args below meth c E B lay.length (ax_z lay) 6 (some (.int rv)) lay I9 J lay I J 0 [(0, .ref (B + 0)), (1, .int x1), (2, .int x2), (3, .int x3), (4, .int x4)] [] := by
  obtain ⟨hx, hb, hr, hml, hown, hts, hlocks, hK, hfr, hlo, hmc, hms, hnm⟩ := id C
  have hown : s.vm.findClass RX6 = some m.cls := hown
  intro I x1 x2 x3 x4 h H locs cells slots ls hc hz hR hS hl
  unfold F_X6_offer at h
  refine lv_iload_n hx hb dX6_offer_0 rfl (lv_at hl 1 rfl) ?_
  refine lv_iconst (v := 0) hx hb dX6_offer_1 (by decide) ?_
  refine lv_iconst (v := 5) hx hb dX6_offer_2 (by decide) ?_
  obtain ⟨q3, hq, h⟩ := ax_bd h
  refine ax_cS (rest := []) (st1 := [.int q3]) C hc hz hS hR (M_X6_within  hq) yk_X6_within st_X6_within ml_X6_58 (by decide) rfl hl.1 (Nat.le_of_ble_eq_true rfl) rfl rfl dX6_offer_3 (fun H locs hR hS => ?_)
  refine lv_if_ne (tgt := 11) hx hb dX6_offer_6 (by decide) (fun q => ?_) (fun q => ?_)
  · have h := ax_iN q h
    refine lv_iload_n hx hb dX6_offer_11 rfl (lv_at hl 2 rfl) ?_
    refine lv_iconst (v := 0) hx hb dX6_offer_12 (by decide) ?_
    refine lv_bipush (v := 99) hx hb dX6_offer_13 (by decide) ?_
    obtain ⟨q15, hq, h⟩ := ax_bd h
    refine ax_cS (rest := []) (st1 := [.int q15]) C hc hz hS hR (M_X6_within  hq) yk_X6_within st_X6_within ml_X6_58 (by decide) rfl hl.1 (Nat.le_of_ble_eq_true rfl) rfl rfl dX6_offer_15 (fun H locs hR hS => ?_)
    refine lv_if_eq (tgt := 44) hx hb dX6_offer_18 (by decide) (fun q => ?_) (fun q => ?_)
    · have h := ax_ip q h
      refine lv_bipush (v := (-2)) hx hb dX6_offer_44 (by decide) ?_
      cases h
      exact ax_iret C hc hz hR hS rfl rfl dX6_offer_46
    · have h := ax_iN q h
      refine lv_iload_n hx hb dX6_offer_21 rfl (lv_at hl 3 rfl) ?_
      refine lv_iconst (v := 0) hx hb dX6_offer_22 (by decide) ?_
      refine lv_sipush (v := 999) hx hb dX6_offer_23 (by decide) ?_
      obtain ⟨q26, hq, h⟩ := ax_bd h
      refine ax_cS (rest := []) (st1 := [.int q26]) C hc hz hS hR (M_X6_within  hq) yk_X6_within st_X6_within ml_X6_58 (by decide) rfl hl.1 (Nat.le_of_ble_eq_true rfl) rfl rfl dX6_offer_26 (fun H locs hR hS => ?_)
      refine lv_if_eq (tgt := 44) hx hb dX6_offer_29 (by decide) (fun q => ?_) (fun q => ?_)
      · have h := ax_ip q h
        refine lv_bipush (v := (-2)) hx hb dX6_offer_44 (by decide) ?_
        cases h
        exact ax_iret C hc hz hR hS rfl rfl dX6_offer_46
      · have h := ax_iN q h
        refine lv_iload hx hb dX6_offer_32 (lv_at hl 4 rfl) ?_
        refine lv_iconst (v := 0) hx hb dX6_offer_34 (by decide) ?_
        refine lv_sipush (v := 4095) hx hb dX6_offer_35 (by decide) ?_
        obtain ⟨q38, hq, h⟩ := ax_bd h
        refine ax_cS (rest := []) (st1 := [.int q38]) C hc hz hS hR (M_X6_within  hq) yk_X6_within st_X6_within ml_X6_58 (by decide) rfl hl.1 (Nat.le_of_ble_eq_true rfl) rfl rfl dX6_offer_38 (fun H locs hR hS => ?_)
        refine lv_if_ne (tgt := 47) hx hb dX6_offer_41 (by decide) (fun q => ?_) (fun q => ?_)
        · have h := ax_iN q h
          refine lv_aload_n hx hb dX6_offer_47 rfl (lv_at hl 0 rfl) ?_
          refine ax_getV hx hb hts hown hK hR fl_X6_10 (lk_0 hL) rfl dX6_offer_48 ?_
          refine ax_getV hx hb hts hown hK hR fl_X6_91 (lk_1 hL) rfl dX6_offer_51 ?_
          refine lv_iload_n hx hb dX6_offer_54 rfl (lv_at hl 1 rfl) ?_
          obtain ⟨hq, h⟩ := ax_ck h
          refine ax_iald hx hb hK hR (lk_8 hL) hq dX6_offer_55 ?_
          refine lv_istore (lv' := [(5, .int (I 8 x1.toNatClampNeg)), (0, .ref (B + 0)), (1, .int x1), (2, .int x2), (3, .int x3), (4, .int x4)]) hx hb dX6_offer_56 hl (by decide) rfl (fun ls hl => ?_)
          refine lv_aload_n hx hb dX6_offer_58 rfl (lv_at hl 1 rfl) ?_
          refine ax_getV hx hb hts hown hK hR fl_X6_10 (lk_0 hL) rfl dX6_offer_59 ?_
          refine ax_getV hx hb hts hown hK hR fl_X6_94 (lk_1 hL) rfl dX6_offer_62 ?_
          refine lv_iload_n hx hb dX6_offer_65 rfl (lv_at hl 2 rfl) ?_
          refine lv_iload_n hx hb dX6_offer_66 rfl (lv_at hl 3 rfl) ?_
          obtain ⟨hq, h⟩ := ax_ck h
          refine ax_iast hx hb hK hR hS (lk_6 hL) hq dX6_offer_67 (fun H locs hR hS => ?_)
          refine lv_aload_n hx hb dX6_offer_68 rfl (lv_at hl 1 rfl) ?_
          refine ax_getV hx hb hts hown hK hR fl_X6_10 (lk_0 hL) rfl dX6_offer_69 ?_
          refine ax_getV hx hb hts hown hK hR fl_X6_97 (lk_1 hL) rfl dX6_offer_72 ?_
          refine lv_iload_n hx hb dX6_offer_75 rfl (lv_at hl 2 rfl) ?_
          refine lv_iload_n hx hb dX6_offer_76 rfl (lv_at hl 4 rfl) ?_
          obtain ⟨hq, h⟩ := ax_ck h
          refine ax_iast hx hb hK hR hS (lk_7 hL) hq dX6_offer_77 (fun H locs hR hS => ?_)
          refine lv_aload_n hx hb dX6_offer_78 rfl (lv_at hl 1 rfl) ?_
          refine ax_getV hx hb hts hown hK hR fl_X6_10 (lk_0 hL) rfl dX6_offer_79 ?_
          refine ax_getV hx hb hts hown hK hR fl_X6_91 (lk_1 hL) rfl dX6_offer_82 ?_
          refine lv_iload_n hx hb dX6_offer_85 rfl (lv_at hl 2 rfl) ?_
          refine lv_iload hx hb dX6_offer_86 (lv_at hl 5 rfl) ?_
          obtain ⟨hq, h⟩ := ax_ck h
          refine ax_iast hx hb hK hR hS (lk_8 hL) hq dX6_offer_88 (fun H locs hR hS => ?_)
          refine lv_iload hx hb dX6_offer_89 (lv_at hl 0 rfl) ?_
          cases h
          exact ax_iret C hc hz hR hS rfl rfl dX6_offer_91
        · have h := ax_ip q h
          refine lv_bipush (v := (-2)) hx hb dX6_offer_44 (by decide) ?_
          cases h
          exact ax_iret C hc hz hR hS rfl rfl dX6_offer_46
  · have h := ax_ip q h
    refine lv_iconst (v := (-1)) hx hb dX6_offer_9 (by decide) ?_
    cases h
    exact ax_iret C hc hz hR hS rfl rfl dX6_offer_10
theorem M_X6_offer {l : Launch} {E : ax_E} {B : Nat} {lay : List ax_S} {I : ax_I} {J : ax_J} {x1 : Int32} {x2 : Int32} {x3 : Int32} {x4 : Int32} {rv : Int32} {I9 : ax_I} (hL : ax_LL B lay) (h : F_X6_offer I x1 x2 x3 x4 = some (rv, I9)) : Cm l yX6_offer cX6_offer 6 (some .int) 4 E B [.ref (B + 0), .int x1, .int x2, .int x3, .int x4] lay I J (some (.int rv)) lay I9 J :=
  ax_met (by decide) (Nat.le_of_ble_eq_true rfl) (fun p e R s m args below meth c C => t_X6_offer_0 hL C _ _ _ _ _ h)
def F_X6_witness (I : ax_I) (x1 : Int32) (x2 : Int32) : Option (Int32 × ax_I) :=
  (F_X6_within I x1 0 7).bind (fun q4 => if q4 = 0 then some ((-1), I) else (F_X6_within I x2 0 1023).bind (fun q17 => if q17 = 0 then some ((-2), I) else if ax_in x1 8 = true then if ax_in x1 8 = true then some ((I 11 x1.toNatClampNeg), (ax_u I 11 x1.toNatClampNeg x2)) else none else none))
set_option maxRecDepth 100000 in
set_option maxHeartbeats 4000000 in
theorem t_X6_witness_0 {lay : List ax_S} {J : ax_J} {rv : Int32} {I9 : ax_I} (hL : ax_LL B lay) (C : ax_C p R s m args meth c yX6_witness cX6_witness 4 (some .int) 4 E mc ms) : ∀ (I : ax_I) (x1 : Int32) (x2 : Int32), F_X6_witness I x1 x2 = some (rv, I9) → AM p l e R s m args below meth c E B lay.length (ax_z lay) 4 (some (.int rv)) lay I9 J lay I J 0 [(0, .ref (B + 0)), (1, .int x1), (2, .int x2)] [] := by
  obtain ⟨hx, hb, hr, hml, hown, hts, hlocks, hK, hfr, hlo, hmc, hms, hnm⟩ := id C
  have hown : s.vm.findClass RX6 = some m.cls := hown
  intro I x1 x2 h H locs cells slots ls hc hz hR hS hl
  unfold F_X6_witness at h
  refine lv_iload_n hx hb dX6_witness_0 rfl (lv_at hl 1 rfl) ?_
  refine lv_iconst (v := 0) hx hb dX6_witness_1 (by decide) ?_
  refine lv_bipush (v := 7) hx hb dX6_witness_2 (by decide) ?_
  obtain ⟨q4, hq, h⟩ := ax_bd h
  refine ax_cS (rest := []) (st1 := [.int q4]) C hc hz hS hR (M_X6_within  hq) yk_X6_within st_X6_within ml_X6_58 (by decide) rfl hl.1 (Nat.le_of_ble_eq_true rfl) rfl rfl dX6_witness_4 (fun H locs hR hS => ?_)
  refine lv_if_ne (tgt := 12) hx hb dX6_witness_7 (by decide) (fun q => ?_) (fun q => ?_)
  · have h := ax_iN q h
    refine lv_iload_n hx hb dX6_witness_12 rfl (lv_at hl 2 rfl) ?_
    refine lv_iconst (v := 0) hx hb dX6_witness_13 (by decide) ?_
    refine lv_sipush (v := 1023) hx hb dX6_witness_14 (by decide) ?_
    obtain ⟨q17, hq, h⟩ := ax_bd h
    refine ax_cS (rest := []) (st1 := [.int q17]) C hc hz hS hR (M_X6_within  hq) yk_X6_within st_X6_within ml_X6_58 (by decide) rfl hl.1 (Nat.le_of_ble_eq_true rfl) rfl rfl dX6_witness_17 (fun H locs hR hS => ?_)
    refine lv_if_ne (tgt := 26) hx hb dX6_witness_20 (by decide) (fun q => ?_) (fun q => ?_)
    · have h := ax_iN q h
      refine lv_aload_n hx hb dX6_witness_26 rfl (lv_at hl 0 rfl) ?_
      refine ax_getV hx hb hts hown hK hR fl_X6_10 (lk_0 hL) rfl dX6_witness_27 ?_
      refine ax_getV hx hb hts hown hK hR fl_X6_100 (lk_1 hL) rfl dX6_witness_30 ?_
      refine lv_iload_n hx hb dX6_witness_33 rfl (lv_at hl 1 rfl) ?_
      obtain ⟨hq, h⟩ := ax_ck h
      refine ax_iald hx hb hK hR (lk_11 hL) hq dX6_witness_34 ?_
      refine lv_istore_n (lv' := [(3, .int (I 11 x1.toNatClampNeg)), (0, .ref (B + 0)), (1, .int x1), (2, .int x2)]) hx hb dX6_witness_35 rfl hl (by decide) rfl (fun ls hl => ?_)
      refine lv_aload_n hx hb dX6_witness_36 rfl (lv_at hl 1 rfl) ?_
      refine ax_getV hx hb hts hown hK hR fl_X6_10 (lk_0 hL) rfl dX6_witness_37 ?_
      refine ax_getV hx hb hts hown hK hR fl_X6_100 (lk_1 hL) rfl dX6_witness_40 ?_
      refine lv_iload_n hx hb dX6_witness_43 rfl (lv_at hl 2 rfl) ?_
      refine lv_iload_n hx hb dX6_witness_44 rfl (lv_at hl 3 rfl) ?_
      obtain ⟨hq, h⟩ := ax_ck h
      refine ax_iast hx hb hK hR hS (lk_11 hL) hq dX6_witness_45 (fun H locs hR hS => ?_)
      refine lv_iload_n hx hb dX6_witness_46 rfl (lv_at hl 0 rfl) ?_
      cases h
      exact ax_iret C hc hz hR hS rfl rfl dX6_witness_47
    · have h := ax_ip q h
      refine lv_bipush (v := (-2)) hx hb dX6_witness_23 (by decide) ?_
      cases h
      exact ax_iret C hc hz hR hS rfl rfl dX6_witness_25
  · have h := ax_ip q h
    refine lv_iconst (v := (-1)) hx hb dX6_witness_10 (by decide) ?_
    cases h
    exact ax_iret C hc hz hR hS rfl rfl dX6_witness_11
theorem M_X6_witness {l : Launch} {E : ax_E} {B : Nat} {lay : List ax_S} {I : ax_I} {J : ax_J} {x1 : Int32} {x2 : Int32} {rv : Int32} {I9 : ax_I} (hL : ax_LL B lay) (h : F_X6_witness I x1 x2 = some (rv, I9)) : Cm l yX6_witness cX6_witness 4 (some .int) 4 E B [.ref (B + 0), .int x1, .int x2] lay I J (some (.int rv)) lay I9 J :=
  ax_met (by decide) (Nat.le_of_ble_eq_true rfl) (fun p e R s m args below meth c C => t_X6_witness_0 hL C _ _ _ h)
def F_X6_say (I : ax_I) (x1 : Int32) : Option (Int32 × ax_I) :=
  (F_X6_within I x1 33 126).bind (fun q5 => if q5 = 0 then some ((-2), I) else if (I 26 1) < 60 then (F_X4_write I (((x1 : Int32).toUInt32 % 65536).toInt32)).bind (fun q35 => some ((q35 26 1), q35)) else some ((-4), I))
set_option maxRecDepth 100000 in
set_option maxHeartbeats 4000000 in
theorem t_X6_say_0 {lay : List ax_S} {J : ax_J} {rv : Int32} {I9 : ax_I} (hL : ax_LL B lay) (C : ax_C p R s m args meth c yX6_say cX6_say 2 (some .int) 4 E mc ms) : ∀ (I : ax_I) (x1 : Int32), F_X6_say I x1 = some (rv, I9) → AM p l e R s m args below meth c E B lay.length (ax_z lay) 2 (some (.int rv)) lay I9 J lay I J 0 [(0, .ref (B + 0)), (1, .int x1)] [] := by
  obtain ⟨hx, hb, hr, hml, hown, hts, hlocks, hK, hfr, hlo, hmc, hms, hnm⟩ := id C
  have hown : s.vm.findClass RX6 = some m.cls := hown
  intro I x1 h H locs cells slots ls hc hz hR hS hl
  unfold F_X6_say at h
  refine lv_iload_n hx hb dX6_say_0 rfl (lv_at hl 1 rfl) ?_
  refine lv_bipush (v := 33) hx hb dX6_say_1 (by decide) ?_
  refine lv_bipush (v := 126) hx hb dX6_say_3 (by decide) ?_
  obtain ⟨q5, hq, h⟩ := ax_bd h
  refine ax_cS (rest := []) (st1 := [.int q5]) C hc hz hS hR (M_X6_within  hq) yk_X6_within st_X6_within ml_X6_58 (by decide) rfl hl.1 (Nat.le_of_ble_eq_true rfl) rfl rfl dX6_say_5 (fun H locs hR hS => ?_)
  refine lv_if_ne (tgt := 14) hx hb dX6_say_8 (by decide) (fun q => ?_) (fun q => ?_)
  · have h := ax_iN q h
    refine lv_aload_n hx hb dX6_say_14 rfl (lv_at hl 0 rfl) ?_
    refine ax_getV hx hb hts hown hK hR fl_X6_26 (lk_0 hL) rfl dX6_say_15 ?_
    refine ax_getI hx hb hts hown hK hR fl_X6_103 (lk_26 hL) rfl dX6_say_18 ?_
    refine lv_bipush (v := 60) hx hb dX6_say_21 (by decide) ?_
    refine lv_icmp_lt (tgt := 29) hx hb dX6_say_23 (by decide) (fun q => ?_) (fun q => ?_)
    · have h := ax_ip q h
      refine lv_aload_n hx hb dX6_say_29 rfl (lv_at hl 0 rfl) ?_
      refine ax_getV hx hb hts hown hK hR fl_X6_26 (lk_0 hL) rfl dX6_say_30 ?_
      refine lv_iload_n hx hb dX6_say_33 rfl (lv_at hl 1 rfl) ?_
      refine lv_i2c hx hb dX6_say_34 rfl ?_
      obtain ⟨q35, hq, h⟩ := ax_bd h
      refine ax_cV (rest := []) (st1 := []) C hc hz hS hR (M_X4_write hL hq) yk_X4_write in_X4_write se_X4_write ml_X6_106 (lk_26 hL) rfl rfl (by decide) rfl hl.1 (Nat.le_of_ble_eq_true rfl) rfl rfl dX6_say_35 (fun H locs hR hS => ?_)
      refine lv_aload_n hx hb dX6_say_38 rfl (lv_at hl 0 rfl) ?_
      refine ax_getV hx hb hts hown hK hR fl_X6_26 (lk_0 hL) rfl dX6_say_39 ?_
      refine ax_getI hx hb hts hown hK hR fl_X6_103 (lk_26 hL) rfl dX6_say_42 ?_
      cases h
      exact ax_iret C hc hz hR hS rfl rfl dX6_say_45
    · have h := ax_iN q h
      refine lv_bipush (v := (-4)) hx hb dX6_say_26 (by decide) ?_
      cases h
      exact ax_iret C hc hz hR hS rfl rfl dX6_say_28
  · have h := ax_ip q h
    refine lv_bipush (v := (-2)) hx hb dX6_say_11 (by decide) ?_
    cases h
    exact ax_iret C hc hz hR hS rfl rfl dX6_say_13
theorem M_X6_say {l : Launch} {E : ax_E} {B : Nat} {lay : List ax_S} {I : ax_I} {J : ax_J} {x1 : Int32} {rv : Int32} {I9 : ax_I} (hL : ax_LL B lay) (h : F_X6_say I x1 = some (rv, I9)) : Cm l yX6_say cX6_say 2 (some .int) 4 E B [.ref (B + 0), .int x1] lay I J (some (.int rv)) lay I9 J :=
  ax_met (by decide) (Nat.le_of_ble_eq_true rfl) (fun p e R s m args below meth c C => t_X6_say_0 hL C _ _ h)
def F_X6_wipe (I : ax_I) : Option (Int32 × ax_I) :=
  some ((I 26 1), (ax_u I 26 1 0))
set_option maxRecDepth 100000 in
set_option maxHeartbeats 4000000 in
theorem t_X6_wipe_0 {lay : List ax_S} {J : ax_J} {rv : Int32} {I9 : ax_I} (hL : ax_LL B lay) (C : ax_C p R s m args meth c yX6_wipe cX6_wipe 2 (some .int) 2 E mc ms) : ∀ (I : ax_I), F_X6_wipe I = some (rv, I9) → AM p l e R s m args below meth c E B lay.length (ax_z lay) 2 (some (.int rv)) lay I9 J lay I J 0 [(0, .ref (B + 0))] [] := by
  obtain ⟨hx, hb, hr, hml, hown, hts, hlocks, hK, hfr, hlo, hmc, hms, hnm⟩ := id C
  have hown : s.vm.findClass RX6 = some m.cls := hown
  intro I h H locs cells slots ls hc hz hR hS hl
  unfold F_X6_wipe at h
  refine lv_aload_n hx hb dX6_wipe_0 rfl (lv_at hl 0 rfl) ?_
  refine ax_getV hx hb hts hown hK hR fl_X6_26 (lk_0 hL) rfl dX6_wipe_1 ?_
  refine ax_getI hx hb hts hown hK hR fl_X6_103 (lk_26 hL) rfl dX6_wipe_4 ?_
  refine lv_istore_n (lv' := [(1, .int (I 26 1)), (0, .ref (B + 0))]) hx hb dX6_wipe_7 rfl hl (by decide) rfl (fun ls hl => ?_)
  refine lv_aload_n hx hb dX6_wipe_8 rfl (lv_at hl 1 rfl) ?_
  refine ax_getV hx hb hts hown hK hR fl_X6_26 (lk_0 hL) rfl dX6_wipe_9 ?_
  refine lv_iconst (v := 0) hx hb dX6_wipe_12 (by decide) ?_
  refine ax_putI hx hb hts hown hK hR hS fp_X6_103 (lk_26 hL) rfl rfl rfl dX6_wipe_13 (fun H locs hR hS => ?_)
  refine lv_iload_n hx hb dX6_wipe_16 rfl (lv_at hl 0 rfl) ?_
  cases h
  exact ax_iret C hc hz hR hS rfl rfl dX6_wipe_17
theorem M_X6_wipe {l : Launch} {E : ax_E} {B : Nat} {lay : List ax_S} {I : ax_I} {J : ax_J} {rv : Int32} {I9 : ax_I} (hL : ax_LL B lay) (h : F_X6_wipe I = some (rv, I9)) : Cm l yX6_wipe cX6_wipe 2 (some .int) 2 E B [.ref (B + 0)] lay I J (some (.int rv)) lay I9 J :=
  ax_met (by decide) (Nat.le_of_ble_eq_true rfl) (fun p e R s m args below meth c C => t_X6_wipe_0 hL C _ h)
def F_X6_fault (I : ax_I) : Option Int32 :=
  (F_X4_firstFault I).bind (fun q4 => some q4)
set_option maxRecDepth 100000 in
set_option maxHeartbeats 4000000 in
theorem t_X6_fault_0 {lay : List ax_S} {J : ax_J} {rv : Int32} (hL : ax_LL B lay) (C : ax_C p R s m args meth c yX6_fault cX6_fault 1 (some .int) 12 E mc ms) : ∀ (I : ax_I), F_X6_fault I = some rv → AM p l e R s m args below meth c E B lay.length (ax_z lay) 1 (some (.int rv)) lay I J lay I J 0 [(0, .ref (B + 0))] [] := by
  obtain ⟨hx, hb, hr, hml, hown, hts, hlocks, hK, hfr, hlo, hmc, hms, hnm⟩ := id C
  have hown : s.vm.findClass RX6 = some m.cls := hown
  intro I h H locs cells slots ls hc hz hR hS hl
  unfold F_X6_fault at h
  refine lv_aload_n hx hb dX6_fault_0 rfl (lv_at hl 0 rfl) ?_
  refine ax_getV hx hb hts hown hK hR fl_X6_26 (lk_0 hL) rfl dX6_fault_1 ?_
  obtain ⟨q4, hq, h⟩ := ax_bd h
  refine ax_cV (rest := []) (st1 := [.int q4]) C hc hz hS hR (M_X4_firstFault hL hq) yk_X4_firstFault in_X4_firstFault se_X4_firstFault ml_X6_110 (lk_26 hL) rfl rfl (by decide) rfl hl.1 (Nat.le_of_ble_eq_true rfl) rfl rfl dX6_fault_4 (fun H locs hR hS => ?_)
  cases h
  exact ax_iret C hc hz hR hS rfl rfl dX6_fault_7
theorem M_X6_fault {l : Launch} {E : ax_E} {B : Nat} {lay : List ax_S} {I : ax_I} {J : ax_J} {rv : Int32} (hL : ax_LL B lay) (h : F_X6_fault I = some rv) : Cm l yX6_fault cX6_fault 1 (some .int) 12 E B [.ref (B + 0)] lay I J (some (.int rv)) lay I J :=
  ax_met (by decide) (Nat.le_of_ble_eq_true rfl) (fun p e R s m args below meth c C => t_X6_fault_0 hL C _ h)
def F_X6_refusalOfYears (I : ax_I) : Option (Int32 × ax_I) :=
  (F_X4_firstFault I).bind (fun q4 => if q4 = (-6) then (F_X2_copyFrom I 13 1).bind (fun q23 => (F_X5_live q23 13).bind (fun q38 => if (q38 28 2) = (-6) then some (0, q38) else some ((-3), q38))) else some ((-5), I))
set_option maxRecDepth 100000 in
set_option maxHeartbeats 4000000 in
theorem t_X6_refusalOfYears_0 {lay : List ax_S} {J : ax_J} {rv : Int32} {I9 : ax_I} (hL : ax_LL B lay) (C : ax_C p R s m args meth c yX6_refusalOfYears cX6_refusalOfYears 1 (some .int) 14 E mc ms) : ∀ (I : ax_I), F_X6_refusalOfYears I = some (rv, I9) → AM p l e R s m args below meth c E B lay.length (ax_z lay) 1 (some (.int rv)) lay I9 J lay I J 0 [(0, .ref (B + 0))] [] := by
  obtain ⟨hx, hb, hr, hml, hown, hts, hlocks, hK, hfr, hlo, hmc, hms, hnm⟩ := id C
  have hown : s.vm.findClass RX6 = some m.cls := hown
  intro I h H locs cells slots ls hc hz hR hS hl
  unfold F_X6_refusalOfYears at h
  refine lv_aload_n hx hb dX6_refusalOfYears_0 rfl (lv_at hl 0 rfl) ?_
  refine ax_getV hx hb hts hown hK hR fl_X6_26 (lk_0 hL) rfl dX6_refusalOfYears_1 ?_
  obtain ⟨q4, hq, h⟩ := ax_bd h
  refine ax_cV (rest := []) (st1 := [.int q4]) C hc hz hS hR (M_X4_firstFault hL hq) yk_X4_firstFault in_X4_firstFault se_X4_firstFault ml_X6_110 (lk_26 hL) rfl rfl (by decide) rfl hl.1 (Nat.le_of_ble_eq_true rfl) rfl rfl dX6_refusalOfYears_4 (fun H locs hR hS => ?_)
  refine lv_bipush (v := (-6)) hx hb dX6_refusalOfYears_7 (by decide) ?_
  refine lv_icmp_eq (tgt := 15) hx hb dX6_refusalOfYears_9 (by decide) (fun q => ?_) (fun q => ?_)
  · have h := ax_ip q h
    refine lv_aload_n hx hb dX6_refusalOfYears_15 rfl (lv_at hl 0 rfl) ?_
    refine ax_getV hx hb hts hown hK hR fl_X6_16 (lk_0 hL) rfl dX6_refusalOfYears_16 ?_
    refine lv_aload_n hx hb dX6_refusalOfYears_19 rfl (lv_at hl 0 rfl) ?_
    refine ax_getV hx hb hts hown hK hR fl_X6_10 (lk_0 hL) rfl dX6_refusalOfYears_20 ?_
    obtain ⟨q23, hq, h⟩ := ax_bd h
    refine ax_cV (rest := []) (st1 := []) C hc hz hS hR (M_X2_copyFrom (dio_at13 hL) (dio_at1 hL) hq) yk_X2_copyFrom in_X2_copyFrom se_X2_copyFrom ml_X6_151 (lk_13 hL) rfl rfl (by decide) rfl hl.1 (Nat.le_of_ble_eq_true rfl) rfl rfl dX6_refusalOfYears_23 (fun H locs hR hS => ?_)
    refine lv_aload_n hx hb dX6_refusalOfYears_26 rfl (lv_at hl 0 rfl) ?_
    refine ax_getV hx hb hts hown hK hR fl_X6_33 (lk_0 hL) rfl dX6_refusalOfYears_27 ?_
    refine lv_aload_n hx hb dX6_refusalOfYears_30 rfl (lv_at hl 0 rfl) ?_
    refine ax_getV hx hb hts hown hK hR fl_X6_26 (lk_0 hL) rfl dX6_refusalOfYears_31 ?_
    refine lv_aload_n hx hb dX6_refusalOfYears_34 rfl (lv_at hl 0 rfl) ?_
    refine ax_getV hx hb hts hown hK hR fl_X6_16 (lk_0 hL) rfl dX6_refusalOfYears_35 ?_
    obtain ⟨q38, hq, h⟩ := ax_bd h
    refine ax_cV (rest := []) (st1 := []) C hc hz hS hR (M_X5_live hL (dio_at13 hL) hq) yk_X5_live in_X5_live se_X5_live ml_X6_250 (lk_28 hL) rfl rfl (by decide) rfl hl.1 (Nat.le_of_ble_eq_true rfl) rfl rfl dX6_refusalOfYears_38 (fun H locs hR hS => ?_)
    refine lv_aload_n hx hb dX6_refusalOfYears_41 rfl (lv_at hl 0 rfl) ?_
    refine ax_getV hx hb hts hown hK hR fl_X6_33 (lk_0 hL) rfl dX6_refusalOfYears_42 ?_
    refine ax_getI hx hb hts hown hK hR fl_X6_117 (lk_28 hL) rfl dX6_refusalOfYears_45 ?_
    refine lv_bipush (v := (-6)) hx hb dX6_refusalOfYears_48 (by decide) ?_
    refine lv_icmp_ne (tgt := 57) hx hb dX6_refusalOfYears_50 (by decide) (fun q => ?_) (fun q => ?_)
    · have h := ax_iN q h
      refine lv_bipush (v := (-3)) hx hb dX6_refusalOfYears_57 (by decide) ?_
      cases h
      exact ax_iret C hc hz hR hS rfl rfl dX6_refusalOfYears_59
    · have h := ax_ip q h
      refine lv_iconst (v := 0) hx hb dX6_refusalOfYears_53 (by decide) ?_
      refine lv_goto (tgt := 59) hx hb dX6_refusalOfYears_54 (by decide) ?_
      cases h
      exact ax_iret C hc hz hR hS rfl rfl dX6_refusalOfYears_59
  · have h := ax_iN q h
    refine lv_bipush (v := (-5)) hx hb dX6_refusalOfYears_12 (by decide) ?_
    cases h
    exact ax_iret C hc hz hR hS rfl rfl dX6_refusalOfYears_14
theorem M_X6_refusalOfYears {l : Launch} {E : ax_E} {B : Nat} {lay : List ax_S} {I : ax_I} {J : ax_J} {rv : Int32} {I9 : ax_I} (hL : ax_LL B lay) (h : F_X6_refusalOfYears I = some (rv, I9)) : Cm l yX6_refusalOfYears cX6_refusalOfYears 1 (some .int) 14 E B [.ref (B + 0)] lay I J (some (.int rv)) lay I9 J :=
  ax_met (by decide) (Nat.le_of_ble_eq_true rfl) (fun p e R s m args below meth c C => t_X6_refusalOfYears_0 hL C _ h)
def f_X6_judge_36 (I : ax_I) (x1 : Int32) : Option (Int32 × ax_I) :=
  if x1 = 0 then some ((I 28 2), I) else if x1 = 1 then some ((I 28 3), I) else some ((I 28 4), I)
def F_X6_judge (I : ax_I) (x1 : Int32) : Option (Int32 × ax_I) :=
  (F_X6_within I x1 0 2).bind (fun q3 => if q3 = 0 then some ((-2), I) else (F_X6_refusalOfYears I).bind (fun q13 => if q13.1 = (-5) then some (q13.1, q13.2) else if x1 = 2 then (if q13.1 = (-3) then some (q13.1, q13.2) else f_X6_judge_36 q13.2 x1) else f_X6_judge_36 q13.2 x1))
set_option maxRecDepth 100000 in
set_option maxHeartbeats 4000000 in
theorem t_X6_judge_36 {lay : List ax_S} {J : ax_J} {rv : Int32} {I9 : ax_I} (hL : ax_LL B lay) (C : ax_C p R s m args meth c yX6_judge cX6_judge 3 (some .int) 16 E mc ms) : ∀ (I : ax_I) (x1 : Int32), f_X6_judge_36 I x1 = some (rv, I9) → AM p l e R s m args below meth c E B lay.length (ax_z lay) 3 (some (.int rv)) lay I9 J lay I J 36 [(0, .ref (B + 0)), (1, .int x1)] [] := by
  obtain ⟨hx, hb, hr, hml, hown, hts, hlocks, hK, hfr, hlo, hmc, hms, hnm⟩ := id C
  have hown : s.vm.findClass RX6 = some m.cls := hown
  intro I x1 h H locs cells slots ls hc hz hR hS hl
  unfold f_X6_judge_36 at h
  refine lv_iload_n hx hb dX6_judge_36 rfl (lv_at hl 1 rfl) ?_
  refine lv_if_ne (tgt := 48) hx hb dX6_judge_37 (by decide) (fun q => ?_) (fun q => ?_)
  · have h := ax_iN q h
    refine lv_iload_n hx hb dX6_judge_48 rfl (lv_at hl 1 rfl) ?_
    refine lv_iconst (v := 1) hx hb dX6_judge_49 (by decide) ?_
    refine lv_icmp_ne (tgt := 63) hx hb dX6_judge_50 (by decide) (fun q => ?_) (fun q => ?_)
    · have h := ax_iN q h
      refine lv_aload_n hx hb dX6_judge_63 rfl (lv_at hl 0 rfl) ?_
      refine ax_getV hx hb hts hown hK hR fl_X6_33 (lk_0 hL) rfl dX6_judge_64 ?_
      refine ax_getI hx hb hts hown hK hR fl_X6_123 (lk_28 hL) rfl dX6_judge_67 ?_
      cases h
      exact ax_iret C hc hz hR hS rfl rfl dX6_judge_70
    · have h := ax_ip q h
      refine lv_aload_n hx hb dX6_judge_53 rfl (lv_at hl 0 rfl) ?_
      refine ax_getV hx hb hts hown hK hR fl_X6_33 (lk_0 hL) rfl dX6_judge_54 ?_
      refine ax_getI hx hb hts hown hK hR fl_X6_120 (lk_28 hL) rfl dX6_judge_57 ?_
      refine lv_goto (tgt := 70) hx hb dX6_judge_60 (by decide) ?_
      cases h
      exact ax_iret C hc hz hR hS rfl rfl dX6_judge_70
  · have h := ax_ip q h
    refine lv_aload_n hx hb dX6_judge_40 rfl (lv_at hl 0 rfl) ?_
    refine ax_getV hx hb hts hown hK hR fl_X6_33 (lk_0 hL) rfl dX6_judge_41 ?_
    refine ax_getI hx hb hts hown hK hR fl_X6_117 (lk_28 hL) rfl dX6_judge_44 ?_
    cases h
    exact ax_iret C hc hz hR hS rfl rfl dX6_judge_47
set_option maxRecDepth 100000 in
set_option maxHeartbeats 4000000 in
theorem t_X6_judge_0 {lay : List ax_S} {J : ax_J} {rv : Int32} {I9 : ax_I} (hL : ax_LL B lay) (C : ax_C p R s m args meth c yX6_judge cX6_judge 3 (some .int) 16 E mc ms) : ∀ (I : ax_I) (x1 : Int32), F_X6_judge I x1 = some (rv, I9) → AM p l e R s m args below meth c E B lay.length (ax_z lay) 3 (some (.int rv)) lay I9 J lay I J 0 [(0, .ref (B + 0)), (1, .int x1)] [] := by
  obtain ⟨hx, hb, hr, hml, hown, hts, hlocks, hK, hfr, hlo, hmc, hms, hnm⟩ := id C
  have hown : s.vm.findClass RX6 = some m.cls := hown
  intro I x1 h H locs cells slots ls hc hz hR hS hl
  unfold F_X6_judge at h
  refine lv_iload_n hx hb dX6_judge_0 rfl (lv_at hl 1 rfl) ?_
  refine lv_iconst (v := 0) hx hb dX6_judge_1 (by decide) ?_
  refine lv_iconst (v := 2) hx hb dX6_judge_2 (by decide) ?_
  obtain ⟨q3, hq, h⟩ := ax_bd h
  refine ax_cS (rest := []) (st1 := [.int q3]) C hc hz hS hR (M_X6_within  hq) yk_X6_within st_X6_within ml_X6_58 (by decide) rfl hl.1 (Nat.le_of_ble_eq_true rfl) rfl rfl dX6_judge_3 (fun H locs hR hS => ?_)
  refine lv_if_ne (tgt := 12) hx hb dX6_judge_6 (by decide) (fun q => ?_) (fun q => ?_)
  · have h := ax_iN q h
    refine lv_aload_n hx hb dX6_judge_12 rfl (lv_at hl 0 rfl) ?_
    obtain ⟨q13, hq, h⟩ := ax_bd h
    refine ax_cV (rest := []) (st1 := [.int q13.1]) C hc hz hS hR (M_X6_refusalOfYears hL hq) yk_X6_refusalOfYears in_X6_refusalOfYears se_X6_refusalOfYears ml_X6_114 (lk_0 hL) rfl rfl (by decide) rfl hl.1 (Nat.le_of_ble_eq_true rfl) rfl rfl dX6_judge_13 (fun H locs hR hS => ?_)
    refine lv_istore_n (lv' := [(2, .int q13.1), (0, .ref (B + 0)), (1, .int x1)]) hx hb dX6_judge_16 rfl hl (by decide) rfl (fun ls hl => ?_)
    refine lv_iload_n hx hb dX6_judge_17 rfl (lv_at hl 0 rfl) ?_
    refine lv_bipush (v := (-5)) hx hb dX6_judge_18 (by decide) ?_
    refine lv_icmp_eq (tgt := 34) hx hb dX6_judge_20 (by decide) (fun q => ?_) (fun q => ?_)
    · have h := ax_ip q h
      refine lv_iload_n hx hb dX6_judge_34 rfl (lv_at hl 0 rfl) ?_
      cases h
      exact ax_iret C hc hz hR hS rfl rfl dX6_judge_35
    · have h := ax_iN q h
      refine lv_iload_n hx hb dX6_judge_23 rfl (lv_at hl 2 rfl) ?_
      refine lv_iconst (v := 2) hx hb dX6_judge_24 (by decide) ?_
      refine lv_icmp_ne (tgt := 36) hx hb dX6_judge_25 (by decide) (fun q => ?_) (fun q => ?_)
      · have h := ax_iN q h
        exact t_X6_judge_36 hL C  _ _ h H locs cells slots ls hc hz hR hS (lv_sub hl [1, 2] rfl)
      · have h := ax_ip q h
        refine lv_iload_n hx hb dX6_judge_28 rfl (lv_at hl 0 rfl) ?_
        refine lv_bipush (v := (-3)) hx hb dX6_judge_29 (by decide) ?_
        refine lv_icmp_ne (tgt := 36) hx hb dX6_judge_31 (by decide) (fun q => ?_) (fun q => ?_)
        · have h := ax_iN q h
          exact t_X6_judge_36 hL C  _ _ h H locs cells slots ls hc hz hR hS (lv_sub hl [1, 2] rfl)
        · have h := ax_ip q h
          refine lv_iload_n hx hb dX6_judge_34 rfl (lv_at hl 0 rfl) ?_
          cases h
          exact ax_iret C hc hz hR hS rfl rfl dX6_judge_35
  · have h := ax_ip q h
    refine lv_bipush (v := (-2)) hx hb dX6_judge_9 (by decide) ?_
    cases h
    exact ax_iret C hc hz hR hS rfl rfl dX6_judge_11
theorem M_X6_judge {l : Launch} {E : ax_E} {B : Nat} {lay : List ax_S} {I : ax_I} {J : ax_J} {x1 : Int32} {rv : Int32} {I9 : ax_I} (hL : ax_LL B lay) (h : F_X6_judge I x1 = some (rv, I9)) : Cm l yX6_judge cX6_judge 3 (some .int) 16 E B [.ref (B + 0), .int x1] lay I J (some (.int rv)) lay I9 J :=
  ax_met (by decide) (Nat.le_of_ble_eq_true rfl) (fun p e R s m args below meth c C => t_X6_judge_0 hL C _ _ h)
def F_X6_behind (I : ax_I) (x1 : Int32) (x2 : Int32) : Option (Int32 × ax_I) :=
  (F_X2_isThere I 1 x1).bind (fun q5 => if q5 = 0 then some ((-1), I) else (F_X6_within I x2 0 4).bind (fun q16 => if q16 = 0 then some ((-2), I) else (F_X6_refusalOfYears I).bind (fun q26 => if q26.1 = 0 then (if x2 = 0 then (if ax_in x1 6 = true then some ((q26.2 14 x1.toNatClampNeg), q26.2) else none) else if x2 = 1 then (if ax_in x1 6 = true then some ((q26.2 15 x1.toNatClampNeg), q26.2) else none) else if x2 = 2 then (if ax_in x1 6 = true then some ((q26.2 16 x1.toNatClampNeg), q26.2) else none) else if x2 = 3 then (F_X2_isSaint q26.2 13 x1).bind (fun q103 => if q103 = 0 then some (0, q26.2) else some (1, q26.2)) else (F_X2_isFallen q26.2 13 x1).bind (fun q120 => if q120 = 0 then some (0, q26.2) else some (1, q26.2))) else some (q26.1, q26.2))))
set_option maxRecDepth 100000 in
set_option maxHeartbeats 4000000 in
theorem t_X6_behind_0 {lay : List ax_S} {J : ax_J} {rv : Int32} {I9 : ax_I} (hL : ax_LL B lay) (C : ax_C p R s m args meth c yX6_behind cX6_behind 4 (some .int) 16 E mc ms) : ∀ (I : ax_I) (x1 : Int32) (x2 : Int32), F_X6_behind I x1 x2 = some (rv, I9) → AM p l e R s m args below meth c E B lay.length (ax_z lay) 4 (some (.int rv)) lay I9 J lay I J 0 [(0, .ref (B + 0)), (1, .int x1), (2, .int x2)] [] := by
  obtain ⟨hx, hb, hr, hml, hown, hts, hlocks, hK, hfr, hlo, hmc, hms, hnm⟩ := id C
  have hown : s.vm.findClass RX6 = some m.cls := hown
  intro I x1 x2 h H locs cells slots ls hc hz hR hS hl
  unfold F_X6_behind at h
  refine lv_aload_n hx hb dX6_behind_0 rfl (lv_at hl 0 rfl) ?_
  refine ax_getV hx hb hts hown hK hR fl_X6_10 (lk_0 hL) rfl dX6_behind_1 ?_
  refine lv_iload_n hx hb dX6_behind_4 rfl (lv_at hl 1 rfl) ?_
  obtain ⟨q5, hq, h⟩ := ax_bd h
  refine ax_cV (rest := []) (st1 := [.int q5]) C hc hz hS hR (M_X2_isThere (dio_at1 hL) hq) yk_X2_isThere in_X2_isThere se_X2_isThere ml_X6_76 (lk_1 hL) rfl rfl (by decide) rfl hl.1 (Nat.le_of_ble_eq_true rfl) rfl rfl dX6_behind_5 (fun H locs hR hS => ?_)
  refine lv_if_ne (tgt := 13) hx hb dX6_behind_8 (by decide) (fun q => ?_) (fun q => ?_)
  · have h := ax_iN q h
    refine lv_iload_n hx hb dX6_behind_13 rfl (lv_at hl 2 rfl) ?_
    refine lv_iconst (v := 0) hx hb dX6_behind_14 (by decide) ?_
    refine lv_iconst (v := 4) hx hb dX6_behind_15 (by decide) ?_
    obtain ⟨q16, hq, h⟩ := ax_bd h
    refine ax_cS (rest := []) (st1 := [.int q16]) C hc hz hS hR (M_X6_within  hq) yk_X6_within st_X6_within ml_X6_58 (by decide) rfl hl.1 (Nat.le_of_ble_eq_true rfl) rfl rfl dX6_behind_16 (fun H locs hR hS => ?_)
    refine lv_if_ne (tgt := 25) hx hb dX6_behind_19 (by decide) (fun q => ?_) (fun q => ?_)
    · have h := ax_iN q h
      refine lv_aload_n hx hb dX6_behind_25 rfl (lv_at hl 0 rfl) ?_
      obtain ⟨q26, hq, h⟩ := ax_bd h
      refine ax_cV (rest := []) (st1 := [.int q26.1]) C hc hz hS hR (M_X6_refusalOfYears hL hq) yk_X6_refusalOfYears in_X6_refusalOfYears se_X6_refusalOfYears ml_X6_114 (lk_0 hL) rfl rfl (by decide) rfl hl.1 (Nat.le_of_ble_eq_true rfl) rfl rfl dX6_behind_26 (fun H locs hR hS => ?_)
      refine lv_istore_n (lv' := [(3, .int q26.1), (0, .ref (B + 0)), (1, .int x1), (2, .int x2)]) hx hb dX6_behind_29 rfl hl (by decide) rfl (fun ls hl => ?_)
      refine lv_iload_n hx hb dX6_behind_30 rfl (lv_at hl 0 rfl) ?_
      refine lv_if_eq (tgt := 36) hx hb dX6_behind_31 (by decide) (fun q => ?_) (fun q => ?_)
      · have h := ax_ip q h
        refine lv_iload_n hx hb dX6_behind_36 rfl (lv_at hl 3 rfl) ?_
        by_cases q0 : x2 = 0
        · have h := ax_ip q0 h
          refine lv_tableIn (off := 31) (tgt := 68) hx hb dX6_behind_37 (by rw [q0]; decide) (by rw [q0]; decide) (by rw [q0]; rfl) (by decide) ?_
          refine lv_aload_n hx hb dX6_behind_68 rfl (lv_at hl 1 rfl) ?_
          refine ax_getV hx hb hts hown hK hR fl_X6_16 (lk_0 hL) rfl dX6_behind_69 ?_
          refine ax_getV hx hb hts hown hK hR fl_X6_126 (lk_13 hL) rfl dX6_behind_72 ?_
          refine lv_iload_n hx hb dX6_behind_75 rfl (lv_at hl 2 rfl) ?_
          obtain ⟨hq, h⟩ := ax_ck h
          refine ax_iald hx hb hK hR (lk_14 hL) hq dX6_behind_76 ?_
          cases h
          exact ax_iret C hc hz hR hS rfl rfl dX6_behind_77
        · have h := ax_iN q0 h
          by_cases q1 : x2 = 1
          · have h := ax_ip q1 h
            refine lv_tableIn (off := 41) (tgt := 78) hx hb dX6_behind_37 (by rw [q1]; decide) (by rw [q1]; decide) (by rw [q1]; rfl) (by decide) ?_
            refine lv_aload_n hx hb dX6_behind_78 rfl (lv_at hl 1 rfl) ?_
            refine ax_getV hx hb hts hown hK hR fl_X6_16 (lk_0 hL) rfl dX6_behind_79 ?_
            refine ax_getV hx hb hts hown hK hR fl_X6_129 (lk_13 hL) rfl dX6_behind_82 ?_
            refine lv_iload_n hx hb dX6_behind_85 rfl (lv_at hl 2 rfl) ?_
            obtain ⟨hq, h⟩ := ax_ck h
            refine ax_iald hx hb hK hR (lk_15 hL) hq dX6_behind_86 ?_
            cases h
            exact ax_iret C hc hz hR hS rfl rfl dX6_behind_87
          · have h := ax_iN q1 h
            by_cases q2 : x2 = 2
            · have h := ax_ip q2 h
              refine lv_tableIn (off := 51) (tgt := 88) hx hb dX6_behind_37 (by rw [q2]; decide) (by rw [q2]; decide) (by rw [q2]; rfl) (by decide) ?_
              refine lv_aload_n hx hb dX6_behind_88 rfl (lv_at hl 1 rfl) ?_
              refine ax_getV hx hb hts hown hK hR fl_X6_16 (lk_0 hL) rfl dX6_behind_89 ?_
              refine ax_getV hx hb hts hown hK hR fl_X6_132 (lk_13 hL) rfl dX6_behind_92 ?_
              refine lv_iload_n hx hb dX6_behind_95 rfl (lv_at hl 2 rfl) ?_
              obtain ⟨hq, h⟩ := ax_ck h
              refine ax_iald hx hb hK hR (lk_16 hL) hq dX6_behind_96 ?_
              cases h
              exact ax_iret C hc hz hR hS rfl rfl dX6_behind_97
            · have h := ax_iN q2 h
              by_cases q3 : x2 = 3
              · have h := ax_ip q3 h
                refine lv_tableIn (off := 61) (tgt := 98) hx hb dX6_behind_37 (by rw [q3]; decide) (by rw [q3]; decide) (by rw [q3]; rfl) (by decide) ?_
                refine lv_aload_n hx hb dX6_behind_98 rfl (lv_at hl 1 rfl) ?_
                refine ax_getV hx hb hts hown hK hR fl_X6_16 (lk_0 hL) rfl dX6_behind_99 ?_
                refine lv_iload_n hx hb dX6_behind_102 rfl (lv_at hl 2 rfl) ?_
                obtain ⟨q103, hq, h⟩ := ax_bd h
                refine ax_cV (rest := []) (st1 := [.int q103]) C hc hz hS hR (M_X2_isSaint (dio_at13 hL) hq) yk_X2_isSaint in_X2_isSaint se_X2_isSaint ml_X6_135 (lk_13 hL) rfl rfl (by decide) rfl hl.1 (Nat.le_of_ble_eq_true rfl) rfl rfl dX6_behind_103 (fun H locs hR hS => ?_)
                refine lv_if_eq (tgt := 113) hx hb dX6_behind_106 (by decide) (fun q => ?_) (fun q => ?_)
                · have h := ax_ip q h
                  refine lv_iconst (v := 0) hx hb dX6_behind_113 (by decide) ?_
                  cases h
                  exact ax_iret C hc hz hR hS rfl rfl dX6_behind_114
                · have h := ax_iN q h
                  refine lv_iconst (v := 1) hx hb dX6_behind_109 (by decide) ?_
                  refine lv_goto (tgt := 114) hx hb dX6_behind_110 (by decide) ?_
                  cases h
                  exact ax_iret C hc hz hR hS rfl rfl dX6_behind_114
              · have h := ax_iN q3 h
                have e0 := ax_nt (z := 0) q0 (by decide)
                have e1 := ax_nt (z := 1) q1 (by decide)
                have e2 := ax_nt (z := 2) q2 (by decide)
                have e3 := ax_nt (z := 3) q3 (by decide)
                refine lv_tableOut (tgt := 115) hx hb dX6_behind_37 (by omega) (by decide) ?_
                refine lv_aload_n hx hb dX6_behind_115 rfl (lv_at hl 1 rfl) ?_
                refine ax_getV hx hb hts hown hK hR fl_X6_16 (lk_0 hL) rfl dX6_behind_116 ?_
                refine lv_iload_n hx hb dX6_behind_119 rfl (lv_at hl 2 rfl) ?_
                obtain ⟨q120, hq, h⟩ := ax_bd h
                refine ax_cV (rest := []) (st1 := [.int q120]) C hc hz hS hR (M_X2_isFallen (dio_at13 hL) hq) yk_X2_isFallen in_X2_isFallen se_X2_isFallen ml_X6_138 (lk_13 hL) rfl rfl (by decide) rfl hl.1 (Nat.le_of_ble_eq_true rfl) rfl rfl dX6_behind_120 (fun H locs hR hS => ?_)
                refine lv_if_eq (tgt := 130) hx hb dX6_behind_123 (by decide) (fun q => ?_) (fun q => ?_)
                · have h := ax_ip q h
                  refine lv_iconst (v := 0) hx hb dX6_behind_130 (by decide) ?_
                  cases h
                  exact ax_iret C hc hz hR hS rfl rfl dX6_behind_131
                · have h := ax_iN q h
                  refine lv_iconst (v := 1) hx hb dX6_behind_126 (by decide) ?_
                  refine lv_goto (tgt := 131) hx hb dX6_behind_127 (by decide) ?_
                  cases h
                  exact ax_iret C hc hz hR hS rfl rfl dX6_behind_131
      · have h := ax_iN q h
        refine lv_iload_n hx hb dX6_behind_34 rfl (lv_at hl 0 rfl) ?_
        cases h
        exact ax_iret C hc hz hR hS rfl rfl dX6_behind_35
    · have h := ax_ip q h
      refine lv_bipush (v := (-2)) hx hb dX6_behind_22 (by decide) ?_
      cases h
      exact ax_iret C hc hz hR hS rfl rfl dX6_behind_24
  · have h := ax_ip q h
    refine lv_iconst (v := (-1)) hx hb dX6_behind_11 (by decide) ?_
    cases h
    exact ax_iret C hc hz hR hS rfl rfl dX6_behind_12
theorem M_X6_behind {l : Launch} {E : ax_E} {B : Nat} {lay : List ax_S} {I : ax_I} {J : ax_J} {x1 : Int32} {x2 : Int32} {rv : Int32} {I9 : ax_I} (hL : ax_LL B lay) (h : F_X6_behind I x1 x2 = some (rv, I9)) : Cm l yX6_behind cX6_behind 4 (some .int) 16 E B [.ref (B + 0), .int x1, .int x2] lay I J (some (.int rv)) lay I9 J :=
  ax_met (by decide) (Nat.le_of_ble_eq_true rfl) (fun p e R s m args below meth c C => t_X6_behind_0 hL C _ _ _ h)
def f_X6_holds_27 (I : ax_I) (x1 : Int32) (x2 : Int32) : Option (Int32 × ax_I) :=
  (F_X6_refusalOfYears I).bind (fun q28 => if q28.1 = 0 then (if x2 = (-1) then (if ax_in x1 4 = true then some ((q28.2 21 x1.toNatClampNeg), q28.2) else none) else (F_X2_partBits q28.2 13 x2 x1).bind (fun q61 => some (q61, q28.2))) else some (q28.1, q28.2))
def F_X6_holds (I : ax_I) (x1 : Int32) (x2 : Int32) : Option (Int32 × ax_I) :=
  (F_X6_within I x1 0 3).bind (fun q3 => if q3 = 0 then some ((-1), I) else if x2 = (-1) then f_X6_holds_27 I x1 x2 else (F_X2_isThere I 1 x2).bind (fun q19 => if q19 = 0 then some ((-1), I) else f_X6_holds_27 I x1 x2))
set_option maxRecDepth 100000 in
set_option maxHeartbeats 4000000 in
theorem t_X6_holds_27 {lay : List ax_S} {J : ax_J} {rv : Int32} {I9 : ax_I} (hL : ax_LL B lay) (C : ax_C p R s m args meth c yX6_holds cX6_holds 4 (some .int) 16 E mc ms) : ∀ (I : ax_I) (x1 : Int32) (x2 : Int32), f_X6_holds_27 I x1 x2 = some (rv, I9) → AM p l e R s m args below meth c E B lay.length (ax_z lay) 4 (some (.int rv)) lay I9 J lay I J 27 [(0, .ref (B + 0)), (1, .int x1), (2, .int x2)] [] := by
  obtain ⟨hx, hb, hr, hml, hown, hts, hlocks, hK, hfr, hlo, hmc, hms, hnm⟩ := id C
  have hown : s.vm.findClass RX6 = some m.cls := hown
  intro I x1 x2 h H locs cells slots ls hc hz hR hS hl
  unfold f_X6_holds_27 at h
  refine lv_aload_n hx hb dX6_holds_27 rfl (lv_at hl 0 rfl) ?_
  obtain ⟨q28, hq, h⟩ := ax_bd h
  refine ax_cV (rest := []) (st1 := [.int q28.1]) C hc hz hS hR (M_X6_refusalOfYears hL hq) yk_X6_refusalOfYears in_X6_refusalOfYears se_X6_refusalOfYears ml_X6_114 (lk_0 hL) rfl rfl (by decide) rfl hl.1 (Nat.le_of_ble_eq_true rfl) rfl rfl dX6_holds_28 (fun H locs hR hS => ?_)
  refine lv_istore_n (lv' := [(3, .int q28.1), (0, .ref (B + 0)), (1, .int x1), (2, .int x2)]) hx hb dX6_holds_31 rfl hl (by decide) rfl (fun ls hl => ?_)
  refine lv_iload_n hx hb dX6_holds_32 rfl (lv_at hl 0 rfl) ?_
  refine lv_if_eq (tgt := 38) hx hb dX6_holds_33 (by decide) (fun q => ?_) (fun q => ?_)
  · have h := ax_ip q h
    refine lv_iload_n hx hb dX6_holds_38 rfl (lv_at hl 3 rfl) ?_
    refine lv_iconst (v := (-1)) hx hb dX6_holds_39 (by decide) ?_
    refine lv_icmp_ne (tgt := 55) hx hb dX6_holds_40 (by decide) (fun q => ?_) (fun q => ?_)
    · have h := ax_iN q h
      refine lv_aload_n hx hb dX6_holds_55 rfl (lv_at hl 1 rfl) ?_
      refine ax_getV hx hb hts hown hK hR fl_X6_16 (lk_0 hL) rfl dX6_holds_56 ?_
      refine lv_iload_n hx hb dX6_holds_59 rfl (lv_at hl 3 rfl) ?_
      refine lv_iload_n hx hb dX6_holds_60 rfl (lv_at hl 2 rfl) ?_
      obtain ⟨q61, hq, h⟩ := ax_bd h
      refine ax_cV (rest := []) (st1 := [.int q61]) C hc hz hS hR (M_X2_partBits (dio_at13 hL) hq) yk_X2_partBits in_X2_partBits se_X2_partBits ml_X6_141 (lk_13 hL) rfl rfl (by decide) rfl hl.1 (Nat.le_of_ble_eq_true rfl) rfl rfl dX6_holds_61 (fun H locs hR hS => ?_)
      cases h
      exact ax_iret C hc hz hR hS rfl rfl dX6_holds_64
    · have h := ax_ip q h
      refine lv_aload_n hx hb dX6_holds_43 rfl (lv_at hl 1 rfl) ?_
      refine ax_getV hx hb hts hown hK hR fl_X6_16 (lk_0 hL) rfl dX6_holds_44 ?_
      refine ax_getV hx hb hts hown hK hR fl_X6_88 (lk_13 hL) rfl dX6_holds_47 ?_
      refine lv_iload_n hx hb dX6_holds_50 rfl (lv_at hl 2 rfl) ?_
      obtain ⟨hq, h⟩ := ax_ck h
      refine ax_iald hx hb hK hR (lk_21 hL) hq dX6_holds_51 ?_
      refine lv_goto (tgt := 64) hx hb dX6_holds_52 (by decide) ?_
      cases h
      exact ax_iret C hc hz hR hS rfl rfl dX6_holds_64
  · have h := ax_iN q h
    refine lv_iload_n hx hb dX6_holds_36 rfl (lv_at hl 0 rfl) ?_
    cases h
    exact ax_iret C hc hz hR hS rfl rfl dX6_holds_37
set_option maxRecDepth 100000 in
set_option maxHeartbeats 4000000 in
theorem t_X6_holds_0 {lay : List ax_S} {J : ax_J} {rv : Int32} {I9 : ax_I} (hL : ax_LL B lay) (C : ax_C p R s m args meth c yX6_holds cX6_holds 4 (some .int) 16 E mc ms) : ∀ (I : ax_I) (x1 : Int32) (x2 : Int32), F_X6_holds I x1 x2 = some (rv, I9) → AM p l e R s m args below meth c E B lay.length (ax_z lay) 4 (some (.int rv)) lay I9 J lay I J 0 [(0, .ref (B + 0)), (1, .int x1), (2, .int x2)] [] := by
  obtain ⟨hx, hb, hr, hml, hown, hts, hlocks, hK, hfr, hlo, hmc, hms, hnm⟩ := id C
  have hown : s.vm.findClass RX6 = some m.cls := hown
  intro I x1 x2 h H locs cells slots ls hc hz hR hS hl
  unfold F_X6_holds at h
  refine lv_iload_n hx hb dX6_holds_0 rfl (lv_at hl 1 rfl) ?_
  refine lv_iconst (v := 0) hx hb dX6_holds_1 (by decide) ?_
  refine lv_iconst (v := 3) hx hb dX6_holds_2 (by decide) ?_
  obtain ⟨q3, hq, h⟩ := ax_bd h
  refine ax_cS (rest := []) (st1 := [.int q3]) C hc hz hS hR (M_X6_within  hq) yk_X6_within st_X6_within ml_X6_58 (by decide) rfl hl.1 (Nat.le_of_ble_eq_true rfl) rfl rfl dX6_holds_3 (fun H locs hR hS => ?_)
  refine lv_if_eq (tgt := 25) hx hb dX6_holds_6 (by decide) (fun q => ?_) (fun q => ?_)
  · have h := ax_ip q h
    refine lv_iconst (v := (-1)) hx hb dX6_holds_25 (by decide) ?_
    cases h
    exact ax_iret C hc hz hR hS rfl rfl dX6_holds_26
  · have h := ax_iN q h
    refine lv_iload_n hx hb dX6_holds_9 rfl (lv_at hl 2 rfl) ?_
    refine lv_iconst (v := (-1)) hx hb dX6_holds_10 (by decide) ?_
    refine lv_icmp_eq (tgt := 27) hx hb dX6_holds_11 (by decide) (fun q => ?_) (fun q => ?_)
    · have h := ax_ip q h
      exact t_X6_holds_27 hL C  _ _ _ h H locs cells slots ls hc hz hR hS (lv_sub hl [0, 1, 2] rfl)
    · have h := ax_iN q h
      refine lv_aload_n hx hb dX6_holds_14 rfl (lv_at hl 0 rfl) ?_
      refine ax_getV hx hb hts hown hK hR fl_X6_10 (lk_0 hL) rfl dX6_holds_15 ?_
      refine lv_iload_n hx hb dX6_holds_18 rfl (lv_at hl 2 rfl) ?_
      obtain ⟨q19, hq, h⟩ := ax_bd h
      refine ax_cV (rest := []) (st1 := [.int q19]) C hc hz hS hR (M_X2_isThere (dio_at1 hL) hq) yk_X2_isThere in_X2_isThere se_X2_isThere ml_X6_76 (lk_1 hL) rfl rfl (by decide) rfl hl.1 (Nat.le_of_ble_eq_true rfl) rfl rfl dX6_holds_19 (fun H locs hR hS => ?_)
      refine lv_if_ne (tgt := 27) hx hb dX6_holds_22 (by decide) (fun q => ?_) (fun q => ?_)
      · have h := ax_iN q h
        exact t_X6_holds_27 hL C  _ _ _ h H locs cells slots ls hc hz hR hS (lv_sub hl [0, 1, 2] rfl)
      · have h := ax_ip q h
        refine lv_iconst (v := (-1)) hx hb dX6_holds_25 (by decide) ?_
        cases h
        exact ax_iret C hc hz hR hS rfl rfl dX6_holds_26
theorem M_X6_holds {l : Launch} {E : ax_E} {B : Nat} {lay : List ax_S} {I : ax_I} {J : ax_J} {x1 : Int32} {x2 : Int32} {rv : Int32} {I9 : ax_I} (hL : ax_LL B lay) (h : F_X6_holds I x1 x2 = some (rv, I9)) : Cm l yX6_holds cX6_holds 4 (some .int) 16 E B [.ref (B + 0), .int x1, .int x2] lay I J (some (.int rv)) lay I9 J :=
  ax_met (by decide) (Nat.le_of_ble_eq_true rfl) (fun p e R s m args below meth c C => t_X6_holds_0 hL C _ _ _ h)
def F_X6_wrong (I : ax_I) (x1 : Int32) : Option (Int32 × ax_I) :=
  (F_X6_within I x1 0 1).bind (fun q3 => if q3 = 0 then some ((-2), I) else (F_X6_refusalOfYears I).bind (fun q13 => if q13.1 = 0 then (if x1 = 0 then some ((q13.2 28 5), q13.2) else some ((q13.2 28 6), q13.2)) else some (q13.1, q13.2)))
set_option maxRecDepth 100000 in
set_option maxHeartbeats 4000000 in
theorem t_X6_wrong_0 {lay : List ax_S} {J : ax_J} {rv : Int32} {I9 : ax_I} (hL : ax_LL B lay) (C : ax_C p R s m args meth c yX6_wrong cX6_wrong 3 (some .int) 16 E mc ms) : ∀ (I : ax_I) (x1 : Int32), F_X6_wrong I x1 = some (rv, I9) → AM p l e R s m args below meth c E B lay.length (ax_z lay) 3 (some (.int rv)) lay I9 J lay I J 0 [(0, .ref (B + 0)), (1, .int x1)] [] := by
  obtain ⟨hx, hb, hr, hml, hown, hts, hlocks, hK, hfr, hlo, hmc, hms, hnm⟩ := id C
  have hown : s.vm.findClass RX6 = some m.cls := hown
  intro I x1 h H locs cells slots ls hc hz hR hS hl
  unfold F_X6_wrong at h
  refine lv_iload_n hx hb dX6_wrong_0 rfl (lv_at hl 1 rfl) ?_
  refine lv_iconst (v := 0) hx hb dX6_wrong_1 (by decide) ?_
  refine lv_iconst (v := 1) hx hb dX6_wrong_2 (by decide) ?_
  obtain ⟨q3, hq, h⟩ := ax_bd h
  refine ax_cS (rest := []) (st1 := [.int q3]) C hc hz hS hR (M_X6_within  hq) yk_X6_within st_X6_within ml_X6_58 (by decide) rfl hl.1 (Nat.le_of_ble_eq_true rfl) rfl rfl dX6_wrong_3 (fun H locs hR hS => ?_)
  refine lv_if_ne (tgt := 12) hx hb dX6_wrong_6 (by decide) (fun q => ?_) (fun q => ?_)
  · have h := ax_iN q h
    refine lv_aload_n hx hb dX6_wrong_12 rfl (lv_at hl 0 rfl) ?_
    obtain ⟨q13, hq, h⟩ := ax_bd h
    refine ax_cV (rest := []) (st1 := [.int q13.1]) C hc hz hS hR (M_X6_refusalOfYears hL hq) yk_X6_refusalOfYears in_X6_refusalOfYears se_X6_refusalOfYears ml_X6_114 (lk_0 hL) rfl rfl (by decide) rfl hl.1 (Nat.le_of_ble_eq_true rfl) rfl rfl dX6_wrong_13 (fun H locs hR hS => ?_)
    refine lv_istore_n (lv' := [(2, .int q13.1), (0, .ref (B + 0)), (1, .int x1)]) hx hb dX6_wrong_16 rfl hl (by decide) rfl (fun ls hl => ?_)
    refine lv_iload_n hx hb dX6_wrong_17 rfl (lv_at hl 0 rfl) ?_
    refine lv_if_eq (tgt := 23) hx hb dX6_wrong_18 (by decide) (fun q => ?_) (fun q => ?_)
    · have h := ax_ip q h
      refine lv_iload_n hx hb dX6_wrong_23 rfl (lv_at hl 2 rfl) ?_
      refine lv_if_ne (tgt := 37) hx hb dX6_wrong_24 (by decide) (fun q => ?_) (fun q => ?_)
      · have h := ax_iN q h
        refine lv_aload_n hx hb dX6_wrong_37 rfl (lv_at hl 1 rfl) ?_
        refine ax_getV hx hb hts hown hK hR fl_X6_33 (lk_0 hL) rfl dX6_wrong_38 ?_
        refine ax_getI hx hb hts hown hK hR fl_X6_148 (lk_28 hL) rfl dX6_wrong_41 ?_
        cases h
        exact ax_iret C hc hz hR hS rfl rfl dX6_wrong_44
      · have h := ax_ip q h
        refine lv_aload_n hx hb dX6_wrong_27 rfl (lv_at hl 1 rfl) ?_
        refine ax_getV hx hb hts hown hK hR fl_X6_33 (lk_0 hL) rfl dX6_wrong_28 ?_
        refine ax_getI hx hb hts hown hK hR fl_X6_145 (lk_28 hL) rfl dX6_wrong_31 ?_
        refine lv_goto (tgt := 44) hx hb dX6_wrong_34 (by decide) ?_
        cases h
        exact ax_iret C hc hz hR hS rfl rfl dX6_wrong_44
    · have h := ax_iN q h
      refine lv_iload_n hx hb dX6_wrong_21 rfl (lv_at hl 0 rfl) ?_
      cases h
      exact ax_iret C hc hz hR hS rfl rfl dX6_wrong_22
  · have h := ax_ip q h
    refine lv_bipush (v := (-2)) hx hb dX6_wrong_9 (by decide) ?_
    cases h
    exact ax_iret C hc hz hR hS rfl rfl dX6_wrong_11
theorem M_X6_wrong {l : Launch} {E : ax_E} {B : Nat} {lay : List ax_S} {I : ax_I} {J : ax_J} {x1 : Int32} {rv : Int32} {I9 : ax_I} (hL : ax_LL B lay) (h : F_X6_wrong I x1 = some (rv, I9)) : Cm l yX6_wrong cX6_wrong 3 (some .int) 16 E B [.ref (B + 0), .int x1] lay I J (some (.int rv)) lay I9 J :=
  ax_met (by decide) (Nat.le_of_ble_eq_true rfl) (fun p e R s m args below meth c C => t_X6_wrong_0 hL C _ _ h)
def F_X6_done (I : ax_I) : Option (Int32 × ax_I) :=
  (F_X6_refusalOfYears I).bind (fun q1 => if q1.1 = 0 then (F_X2_copyFrom q1.2 1 13).bind (fun q19 => some (((ax_u q19 26 1 0) 28 1), (ax_u q19 26 1 0))) else some (q1.1, q1.2))
set_option maxRecDepth 100000 in
set_option maxHeartbeats 4000000 in
theorem t_X6_done_0 {lay : List ax_S} {J : ax_J} {rv : Int32} {I9 : ax_I} (hL : ax_LL B lay) (C : ax_C p R s m args meth c yX6_done cX6_done 2 (some .int) 16 E mc ms) : ∀ (I : ax_I), F_X6_done I = some (rv, I9) → AM p l e R s m args below meth c E B lay.length (ax_z lay) 2 (some (.int rv)) lay I9 J lay I J 0 [(0, .ref (B + 0))] [] := by
  obtain ⟨hx, hb, hr, hml, hown, hts, hlocks, hK, hfr, hlo, hmc, hms, hnm⟩ := id C
  have hown : s.vm.findClass RX6 = some m.cls := hown
  intro I h H locs cells slots ls hc hz hR hS hl
  unfold F_X6_done at h
  refine lv_aload_n hx hb dX6_done_0 rfl (lv_at hl 0 rfl) ?_
  obtain ⟨q1, hq, h⟩ := ax_bd h
  refine ax_cV (rest := []) (st1 := [.int q1.1]) C hc hz hS hR (M_X6_refusalOfYears hL hq) yk_X6_refusalOfYears in_X6_refusalOfYears se_X6_refusalOfYears ml_X6_114 (lk_0 hL) rfl rfl (by decide) rfl hl.1 (Nat.le_of_ble_eq_true rfl) rfl rfl dX6_done_1 (fun H locs hR hS => ?_)
  refine lv_istore_n (lv' := [(1, .int q1.1), (0, .ref (B + 0))]) hx hb dX6_done_4 rfl hl (by decide) rfl (fun ls hl => ?_)
  refine lv_iload_n hx hb dX6_done_5 rfl (lv_at hl 0 rfl) ?_
  refine lv_if_eq (tgt := 11) hx hb dX6_done_6 (by decide) (fun q => ?_) (fun q => ?_)
  · have h := ax_ip q h
    refine lv_aload_n hx hb dX6_done_11 rfl (lv_at hl 1 rfl) ?_
    refine ax_getV hx hb hts hown hK hR fl_X6_10 (lk_0 hL) rfl dX6_done_12 ?_
    refine lv_aload_n hx hb dX6_done_15 rfl (lv_at hl 1 rfl) ?_
    refine ax_getV hx hb hts hown hK hR fl_X6_16 (lk_0 hL) rfl dX6_done_16 ?_
    obtain ⟨q19, hq, h⟩ := ax_bd h
    refine ax_cV (rest := []) (st1 := []) C hc hz hS hR (M_X2_copyFrom (dio_at1 hL) (dio_at13 hL) hq) yk_X2_copyFrom in_X2_copyFrom se_X2_copyFrom ml_X6_151 (lk_1 hL) rfl rfl (by decide) rfl hl.1 (Nat.le_of_ble_eq_true rfl) rfl rfl dX6_done_19 (fun H locs hR hS => ?_)
    refine lv_aload_n hx hb dX6_done_22 rfl (lv_at hl 1 rfl) ?_
    refine ax_getV hx hb hts hown hK hR fl_X6_26 (lk_0 hL) rfl dX6_done_23 ?_
    refine lv_iconst (v := 0) hx hb dX6_done_26 (by decide) ?_
    refine ax_putI hx hb hts hown hK hR hS fp_X6_103 (lk_26 hL) rfl rfl rfl dX6_done_27 (fun H locs hR hS => ?_)
    refine lv_aload_n hx hb dX6_done_30 rfl (lv_at hl 1 rfl) ?_
    refine ax_getV hx hb hts hown hK hR fl_X6_33 (lk_0 hL) rfl dX6_done_31 ?_
    refine ax_getI hx hb hts hown hK hR fl_X6_155 (lk_28 hL) rfl dX6_done_34 ?_
    cases h
    exact ax_iret C hc hz hR hS rfl rfl dX6_done_37
  · have h := ax_iN q h
    refine lv_iload_n hx hb dX6_done_9 rfl (lv_at hl 0 rfl) ?_
    cases h
    exact ax_iret C hc hz hR hS rfl rfl dX6_done_10
theorem M_X6_done {l : Launch} {E : ax_E} {B : Nat} {lay : List ax_S} {I : ax_I} {J : ax_J} {rv : Int32} {I9 : ax_I} (hL : ax_LL B lay) (h : F_X6_done I = some (rv, I9)) : Cm l yX6_done cX6_done 2 (some .int) 16 E B [.ref (B + 0)] lay I J (some (.int rv)) lay I9 J :=
  ax_met (by decide) (Nat.le_of_ble_eq_true rfl) (fun p e R s m args below meth c C => t_X6_done_0 hL C _ h)
def F_X6_saints (I : ax_I) : Option Int32 :=
  (F_X2_saintBits I 1).bind (fun q4 => some q4)
set_option maxRecDepth 100000 in
set_option maxHeartbeats 4000000 in
theorem t_X6_saints_0 {lay : List ax_S} {J : ax_J} {rv : Int32} (hL : ax_LL B lay) (C : ax_C p R s m args meth c yX6_saints cX6_saints 1 (some .int) 14 E mc ms) : ∀ (I : ax_I), F_X6_saints I = some rv → AM p l e R s m args below meth c E B lay.length (ax_z lay) 1 (some (.int rv)) lay I J lay I J 0 [(0, .ref (B + 0))] [] := by
  obtain ⟨hx, hb, hr, hml, hown, hts, hlocks, hK, hfr, hlo, hmc, hms, hnm⟩ := id C
  have hown : s.vm.findClass RX6 = some m.cls := hown
  intro I h H locs cells slots ls hc hz hR hS hl
  unfold F_X6_saints at h
  refine lv_aload_n hx hb dX6_saints_0 rfl (lv_at hl 0 rfl) ?_
  refine ax_getV hx hb hts hown hK hR fl_X6_10 (lk_0 hL) rfl dX6_saints_1 ?_
  obtain ⟨q4, hq, h⟩ := ax_bd h
  refine ax_cV (rest := []) (st1 := [.int q4]) C hc hz hS hR (M_X2_saintBits (dio_at1 hL) hq) yk_X2_saintBits in_X2_saintBits se_X2_saintBits ml_X6_158 (lk_1 hL) rfl rfl (by decide) rfl hl.1 (Nat.le_of_ble_eq_true rfl) rfl rfl dX6_saints_4 (fun H locs hR hS => ?_)
  cases h
  exact ax_iret C hc hz hR hS rfl rfl dX6_saints_7
theorem M_X6_saints {l : Launch} {E : ax_E} {B : Nat} {lay : List ax_S} {I : ax_I} {J : ax_J} {rv : Int32} (hL : ax_LL B lay) (h : F_X6_saints I = some rv) : Cm l yX6_saints cX6_saints 1 (some .int) 14 E B [.ref (B + 0)] lay I J (some (.int rv)) lay I J :=
  ax_met (by decide) (Nat.le_of_ble_eq_true rfl) (fun p e R s m args below meth c C => t_X6_saints_0 hL C _ h)
def F_X6_lacks (I : ax_I) (x1 : Int32) : Option Int32 :=
  (F_X2_isThere I 1 x1).bind (fun q5 => if q5 = 0 then some (-1) else (F_X2_isFallen I 1 x1).bind (fun q18 => if q18 = 0 then (if ax_in x1 6 = true then if ax_in x1 6 = true then if ax_in x1 6 = true then some (((if 0 < ((I 10 (0 : Int32).toNatClampNeg) - (I 2 x1.toNatClampNeg)) then ((I 10 (0 : Int32).toNatClampNeg) - (I 2 x1.toNatClampNeg)) else 0) + (if 0 < ((I 3 x1.toNatClampNeg) - (I 10 (1 : Int32).toNatClampNeg)) then ((I 3 x1.toNatClampNeg) - (I 10 (1 : Int32).toNatClampNeg)) else 0)) + (if 0 < ((I 10 (2 : Int32).toNatClampNeg) - (I 4 x1.toNatClampNeg)) then ((I 10 (2 : Int32).toNatClampNeg) - (I 4 x1.toNatClampNeg)) else 0)) else none else none else none) else some (-3)))
set_option maxRecDepth 100000 in
set_option maxHeartbeats 4000000 in
theorem t_X6_lacks_0 {lay : List ax_S} {J : ax_J} {rv : Int32} (hL : ax_LL B lay) (C : ax_C p R s m args meth c yX6_lacks cX6_lacks 2 (some .int) 8 E mc ms) : ∀ (I : ax_I) (x1 : Int32), F_X6_lacks I x1 = some rv → AM p l e R s m args below meth c E B lay.length (ax_z lay) 2 (some (.int rv)) lay I J lay I J 0 [(0, .ref (B + 0)), (1, .int x1)] [] := by
  obtain ⟨hx, hb, hr, hml, hown, hts, hlocks, hK, hfr, hlo, hmc, hms, hnm⟩ := id C
  have hown : s.vm.findClass RX6 = some m.cls := hown
  intro I x1 h H locs cells slots ls hc hz hR hS hl
  unfold F_X6_lacks at h
  refine lv_aload_n hx hb dX6_lacks_0 rfl (lv_at hl 0 rfl) ?_
  refine ax_getV hx hb hts hown hK hR fl_X6_10 (lk_0 hL) rfl dX6_lacks_1 ?_
  refine lv_iload_n hx hb dX6_lacks_4 rfl (lv_at hl 1 rfl) ?_
  obtain ⟨q5, hq, h⟩ := ax_bd h
  refine ax_cV (rest := []) (st1 := [.int q5]) C hc hz hS hR (M_X2_isThere (dio_at1 hL) hq) yk_X2_isThere in_X2_isThere se_X2_isThere ml_X6_76 (lk_1 hL) rfl rfl (by decide) rfl hl.1 (Nat.le_of_ble_eq_true rfl) rfl rfl dX6_lacks_5 (fun H locs hR hS => ?_)
  refine lv_if_ne (tgt := 13) hx hb dX6_lacks_8 (by decide) (fun q => ?_) (fun q => ?_)
  · have h := ax_iN q h
    refine lv_aload_n hx hb dX6_lacks_13 rfl (lv_at hl 0 rfl) ?_
    refine ax_getV hx hb hts hown hK hR fl_X6_10 (lk_0 hL) rfl dX6_lacks_14 ?_
    refine lv_iload_n hx hb dX6_lacks_17 rfl (lv_at hl 1 rfl) ?_
    obtain ⟨q18, hq, h⟩ := ax_bd h
    refine ax_cV (rest := []) (st1 := [.int q18]) C hc hz hS hR (M_X2_isFallen (dio_at1 hL) hq) yk_X2_isFallen in_X2_isFallen se_X2_isFallen ml_X6_138 (lk_1 hL) rfl rfl (by decide) rfl hl.1 (Nat.le_of_ble_eq_true rfl) rfl rfl dX6_lacks_18 (fun H locs hR hS => ?_)
    refine lv_if_eq (tgt := 27) hx hb dX6_lacks_21 (by decide) (fun q => ?_) (fun q => ?_)
    · have h := ax_ip q h
      refine lv_iconst (v := 0) hx hb dX6_lacks_27 (by decide) ?_
      refine lv_aload_n hx hb dX6_lacks_28 rfl (lv_at hl 0 rfl) ?_
      refine ax_getV hx hb hts hown hK hR fl_X6_10 (lk_0 hL) rfl dX6_lacks_29 ?_
      refine ax_getV hx hb hts hown hK hR fl_X6_84 (lk_1 hL) rfl dX6_lacks_32 ?_
      refine lv_iconst (v := 0) hx hb dX6_lacks_35 (by decide) ?_
      refine ax_iald hx hb hK hR (lk_10 hL) (by decide) dX6_lacks_36 ?_
      refine lv_aload_n hx hb dX6_lacks_37 rfl (lv_at hl 0 rfl) ?_
      refine ax_getV hx hb hts hown hK hR fl_X6_10 (lk_0 hL) rfl dX6_lacks_38 ?_
      refine ax_getV hx hb hts hown hK hR fl_X6_126 (lk_1 hL) rfl dX6_lacks_41 ?_
      refine lv_iload_n hx hb dX6_lacks_44 rfl (lv_at hl 1 rfl) ?_
      obtain ⟨hq, h⟩ := ax_ck h
      refine ax_iald hx hb hK hR (lk_2 hL) hq dX6_lacks_45 ?_
      refine lv_isub hx hb dX6_lacks_46 ?_
      refine ax_max (rest := []) C hc hz ml_X6_161 (by decide) hl.1 (Nat.le_of_ble_eq_true rfl) dX6_lacks_47 ?_
      refine lv_iconst (v := 0) hx hb dX6_lacks_50 (by decide) ?_
      refine lv_aload_n hx hb dX6_lacks_51 rfl (lv_at hl 0 rfl) ?_
      refine ax_getV hx hb hts hown hK hR fl_X6_10 (lk_0 hL) rfl dX6_lacks_52 ?_
      refine ax_getV hx hb hts hown hK hR fl_X6_129 (lk_1 hL) rfl dX6_lacks_55 ?_
      refine lv_iload_n hx hb dX6_lacks_58 rfl (lv_at hl 1 rfl) ?_
      obtain ⟨hq, h⟩ := ax_ck h
      refine ax_iald hx hb hK hR (lk_3 hL) hq dX6_lacks_59 ?_
      refine lv_aload_n hx hb dX6_lacks_60 rfl (lv_at hl 0 rfl) ?_
      refine ax_getV hx hb hts hown hK hR fl_X6_10 (lk_0 hL) rfl dX6_lacks_61 ?_
      refine ax_getV hx hb hts hown hK hR fl_X6_84 (lk_1 hL) rfl dX6_lacks_64 ?_
      refine lv_iconst (v := 1) hx hb dX6_lacks_67 (by decide) ?_
      refine ax_iald hx hb hK hR (lk_10 hL) (by decide) dX6_lacks_68 ?_
      refine lv_isub hx hb dX6_lacks_69 ?_
      refine ax_max (rest := [.int (if 0 < ((I 10 (0 : Int32).toNatClampNeg) - (I 2 x1.toNatClampNeg)) then ((I 10 (0 : Int32).toNatClampNeg) - (I 2 x1.toNatClampNeg)) else 0)]) C hc hz ml_X6_161 (by decide) hl.1 (Nat.le_of_ble_eq_true rfl) dX6_lacks_70 ?_
      refine lv_iadd hx hb dX6_lacks_73 ?_
      refine lv_iconst (v := 0) hx hb dX6_lacks_74 (by decide) ?_
      refine lv_aload_n hx hb dX6_lacks_75 rfl (lv_at hl 0 rfl) ?_
      refine ax_getV hx hb hts hown hK hR fl_X6_10 (lk_0 hL) rfl dX6_lacks_76 ?_
      refine ax_getV hx hb hts hown hK hR fl_X6_84 (lk_1 hL) rfl dX6_lacks_79 ?_
      refine lv_iconst (v := 2) hx hb dX6_lacks_82 (by decide) ?_
      refine ax_iald hx hb hK hR (lk_10 hL) (by decide) dX6_lacks_83 ?_
      refine lv_aload_n hx hb dX6_lacks_84 rfl (lv_at hl 0 rfl) ?_
      refine ax_getV hx hb hts hown hK hR fl_X6_10 (lk_0 hL) rfl dX6_lacks_85 ?_
      refine ax_getV hx hb hts hown hK hR fl_X6_132 (lk_1 hL) rfl dX6_lacks_88 ?_
      refine lv_iload_n hx hb dX6_lacks_91 rfl (lv_at hl 1 rfl) ?_
      obtain ⟨hq, h⟩ := ax_ck h
      refine ax_iald hx hb hK hR (lk_4 hL) hq dX6_lacks_92 ?_
      refine lv_isub hx hb dX6_lacks_93 ?_
      refine ax_max (rest := [.int ((if 0 < ((I 10 (0 : Int32).toNatClampNeg) - (I 2 x1.toNatClampNeg)) then ((I 10 (0 : Int32).toNatClampNeg) - (I 2 x1.toNatClampNeg)) else 0) + (if 0 < ((I 3 x1.toNatClampNeg) - (I 10 (1 : Int32).toNatClampNeg)) then ((I 3 x1.toNatClampNeg) - (I 10 (1 : Int32).toNatClampNeg)) else 0))]) C hc hz ml_X6_161 (by decide) hl.1 (Nat.le_of_ble_eq_true rfl) dX6_lacks_94 ?_
      refine lv_iadd hx hb dX6_lacks_97 ?_
      cases h
      exact ax_iret C hc hz hR hS rfl rfl dX6_lacks_98
    · have h := ax_iN q h
      refine lv_bipush (v := (-3)) hx hb dX6_lacks_24 (by decide) ?_
      cases h
      exact ax_iret C hc hz hR hS rfl rfl dX6_lacks_26
  · have h := ax_ip q h
    refine lv_iconst (v := (-1)) hx hb dX6_lacks_11 (by decide) ?_
    cases h
    exact ax_iret C hc hz hR hS rfl rfl dX6_lacks_12
theorem M_X6_lacks {l : Launch} {E : ax_E} {B : Nat} {lay : List ax_S} {I : ax_I} {J : ax_J} {x1 : Int32} {rv : Int32} (hL : ax_LL B lay) (h : F_X6_lacks I x1 = some rv) : Cm l yX6_lacks cX6_lacks 2 (some .int) 8 E B [.ref (B + 0), .int x1] lay I J (some (.int rv)) lay I J :=
  ax_met (by decide) (Nat.le_of_ble_eq_true rfl) (fun p e R s m args below meth c C => t_X6_lacks_0 hL C _ _ h)
def f_X6_commonDivisor_44 (I : ax_I) (x4 : Int64) : Option Int64 :=
  some (if x4 < 1 then 1 else x4)
def f_X6_commonDivisor_9 : Nat → ax_I → Int64 → Int64 → Int32 → Option Int64
  | 0, _, _, _, _ => none
  | n + 1, I, x4, x6, x8 => if 100 ≤ x8 then f_X6_commonDivisor_44 I x4 else if (lg_cmp x6 0) = 0 then f_X6_commonDivisor_44 I x4 else if ¬ (x6 = 0) then f_X6_commonDivisor_9 n I x6 (x4 - x4 / x6 * x6) (x8 + 1) else none
def F_X6_commonDivisor (I : ax_I) (x0 : Int64) (x2 : Int64) : Option Int64 :=
  f_X6_commonDivisor_9 ax_N I x0 x2 0
set_option maxRecDepth 100000 in
set_option maxHeartbeats 4000000 in
theorem t_X6_commonDivisor_44 {lay : List ax_S} {J : ax_J} {rv : Int64} (C : ax_C p R s m args meth c yX6_commonDivisor cX6_commonDivisor 11 (some .long) 2 E mc ms) : ∀ (I : ax_I) (x4 : Int64), f_X6_commonDivisor_44 I x4 = some rv → AM p l e R s m args below meth c E B lay.length (ax_z lay) 11 (some (.long rv)) lay I J lay I J 44 [(4, .long x4)] [] := by
  obtain ⟨hx, hb, hr, hml, hown, hts, hlocks, hK, hfr, hlo, hmc, hms, hnm⟩ := id C
  have hown : s.vm.findClass RX6 = some m.cls := hown
  intro I x4 h H locs cells slots ls hc hz hR hS hl
  unfold f_X6_commonDivisor_44 at h
  refine lv_lconst (v := 1) hx hb dX6_commonDivisor_44 (by decide) ?_
  refine lv_lload hx hb dX6_commonDivisor_45 (lv_at hl 0 rfl) ?_
  refine ax_maxL (rest := []) C hc hz ml_X6_256 (by decide) hl.1 (Nat.le_of_ble_eq_true rfl) dX6_commonDivisor_47 ?_
  cases h
  exact ax_lret C hc hz hR hS dX6_commonDivisor_50
set_option maxRecDepth 100000 in
set_option maxHeartbeats 4000000 in
theorem t_X6_commonDivisor_9 {lay : List ax_S} {J : ax_J} {rv : Int64} (C : ax_C p R s m args meth c yX6_commonDivisor cX6_commonDivisor 11 (some .long) 2 E mc ms) : ∀ (n : Nat) (I : ax_I) (x4 : Int64) (x6 : Int64) (x8 : Int32), f_X6_commonDivisor_9 n I x4 x6 x8 = some rv → AM p l e R s m args below meth c E B lay.length (ax_z lay) 11 (some (.long rv)) lay I J lay I J 9 [(4, .long x4), (6, .long x6), (8, .int x8)] [] := by
  obtain ⟨hx, hb, hr, hml, hown, hts, hlocks, hK, hfr, hlo, hmc, hms, hnm⟩ := id C
  have hown : s.vm.findClass RX6 = some m.cls := hown
  intro n
  induction n with
  | zero => intro I x4 x6 x8 h; cases h
  | succ n ih =>
    intro I x4 x6 x8 h H locs cells slots ls hc hz hR hS hl
    rw [f_X6_commonDivisor_9] at h
    refine lv_iload hx hb dX6_commonDivisor_9 (lv_at hl 2 rfl) ?_
    refine lv_bipush (v := 100) hx hb dX6_commonDivisor_11 (by decide) ?_
    refine lv_icmp_ge (tgt := 44) hx hb dX6_commonDivisor_13 (by decide) (fun q => ?_) (fun q => ?_)
    · have h := ax_ip q h
      exact t_X6_commonDivisor_44  C  _ _ h H locs cells slots ls hc hz hR hS (lv_sub hl [0] rfl)
    · have h := ax_iN q h
      refine lv_lload hx hb dX6_commonDivisor_16 (lv_at hl 1 rfl) ?_
      refine lv_lconst (v := 0) hx hb dX6_commonDivisor_18 (by decide) ?_
      refine W.lcmp hx hb dX6_commonDivisor_19 ?_
      refine lv_if_eq (tgt := 44) hx hb dX6_commonDivisor_20 (by decide) (fun q => ?_) (fun q => ?_)
      · have h := ax_ip q h
        exact t_X6_commonDivisor_44  C  _ _ h H locs cells slots ls hc hz hR hS (lv_sub hl [0] rfl)
      · have h := ax_iN q h
        refine lv_lload hx hb dX6_commonDivisor_23 (lv_at hl 0 rfl) ?_
        refine lv_lload hx hb dX6_commonDivisor_25 (lv_at hl 1 rfl) ?_
        obtain ⟨hq, h⟩ := ax_ck h
        refine lv_lrem hx hb dX6_commonDivisor_27 hq ?_
        refine lv_lstore (lv' := [(9, .long (x4 - x4 / x6 * x6)), (4, .long x4), (6, .long x6), (8, .int x8)]) hx hb dX6_commonDivisor_28 hl (by decide) rfl (fun ls hl => ?_)
        refine lv_lload hx hb dX6_commonDivisor_30 (lv_at hl 2 rfl) ?_
        refine lv_lstore (lv' := [(4, .long x6), (9, .long (x4 - x4 / x6 * x6)), (6, .long x6), (8, .int x8)]) hx hb dX6_commonDivisor_32 hl (by decide) rfl (fun ls hl => ?_)
        refine lv_lload hx hb dX6_commonDivisor_34 (lv_at hl 1 rfl) ?_
        refine lv_lstore (lv' := [(6, .long (x4 - x4 / x6 * x6)), (4, .long x6), (9, .long (x4 - x4 / x6 * x6)), (8, .int x8)]) hx hb dX6_commonDivisor_36 hl (by decide) rfl (fun ls hl => ?_)
        refine lv_iinc (v := (x8 + 1)) (lv' := [(8, .int (x8 + 1)), (6, .long (x4 - x4 / x6 * x6)), (4, .long x6), (9, .long (x4 - x4 / x6 * x6))]) hx hb dX6_commonDivisor_38 hl (k := 3) rfl rfl (by decide) rfl (fun ls hl => ?_)
        refine lv_goto (tgt := 9) hx hb dX6_commonDivisor_41 (by decide) ?_
        exact ih _ _ _ _ h H locs cells slots ls hc hz hR hS (lv_sub hl [2, 1, 0] rfl)
set_option maxRecDepth 100000 in
set_option maxHeartbeats 4000000 in
theorem t_X6_commonDivisor_0 {lay : List ax_S} {J : ax_J} {rv : Int64} (C : ax_C p R s m args meth c yX6_commonDivisor cX6_commonDivisor 11 (some .long) 2 E mc ms) : ∀ (I : ax_I) (x0 : Int64) (x2 : Int64), F_X6_commonDivisor I x0 x2 = some rv → AM p l e R s m args below meth c E B lay.length (ax_z lay) 11 (some (.long rv)) lay I J lay I J 0 [(0, .long x0), (2, .long x2)] [] := by
  obtain ⟨hx, hb, hr, hml, hown, hts, hlocks, hK, hfr, hlo, hmc, hms, hnm⟩ := id C
  have hown : s.vm.findClass RX6 = some m.cls := hown
  intro I x0 x2 h H locs cells slots ls hc hz hR hS hl
  unfold F_X6_commonDivisor at h
  refine lv_lload_n hx hb dX6_commonDivisor_0 rfl (lv_at hl 0 rfl) ?_
  refine lv_lstore (lv' := [(4, .long x0), (0, .long x0), (2, .long x2)]) hx hb dX6_commonDivisor_1 hl (by decide) rfl (fun ls hl => ?_)
  refine lv_lload_n hx hb dX6_commonDivisor_3 rfl (lv_at hl 2 rfl) ?_
  refine lv_lstore (lv' := [(6, .long x2), (4, .long x0), (0, .long x0), (2, .long x2)]) hx hb dX6_commonDivisor_4 hl (by decide) rfl (fun ls hl => ?_)
  refine lv_iconst (v := 0) hx hb dX6_commonDivisor_6 (by decide) ?_
  refine lv_istore (lv' := [(8, .int 0), (6, .long x2), (4, .long x0), (0, .long x0), (2, .long x2)]) hx hb dX6_commonDivisor_7 hl (by decide) rfl (fun ls hl => ?_)
  exact t_X6_commonDivisor_9  C  ax_N _ _ _ _ h H locs cells slots ls hc hz hR hS (lv_sub hl [2, 1, 0] rfl)
theorem M_X6_commonDivisor {l : Launch} {E : ax_E} {B : Nat} {lay : List ax_S} {I : ax_I} {J : ax_J} {x0 : Int64} {x2 : Int64} {rv : Int64} (h : F_X6_commonDivisor I x0 x2 = some rv) : Cm l yX6_commonDivisor cX6_commonDivisor 11 (some .long) 2 E B [.long x0, .long x2] lay I J (some (.long rv)) lay I J :=
  ax_met (by decide) (Nat.le_of_ble_eq_true rfl) (fun p e R s m args below meth c C => t_X6_commonDivisor_0  C _ _ _ h)
def f_X6_odds_87 (I : ax_I) (J : ax_J) : Option (Int64 × ax_J) :=
  some ((-1000000000000000002), J)
def f_X6_odds_149 (I : ax_I) (J : ax_J) (x12 : Int64) (s0 : Int64) : Option (Int64 × ax_J) :=
  if ¬ (x12 = 0) then some ((s0 / x12), J) else none
def f_X6_odds_50 (I : ax_I) (J : ax_J) (x1 : Int32) (x2 : Int32) (x3 : Int32) (x4 : Int32) (x5 : Int32) (x6 : Int32) (s0 : Int32) : Option (Int64 × ax_J) :=
  (F_X6_within I x2 0 8).bind (fun q56 => if q56 = 0 then f_X6_odds_87 I J else if s0 = 0 then f_X6_odds_87 I J else (F_X6_within I x5 0 x2).bind (fun q71 => if q71 = 0 then f_X6_odds_87 I J else (F_X6_within I x6 0 1).bind (fun q81 => if q81 = 0 then f_X6_odds_87 I J else (F_X1_spread I J x2 x3 x4 x5).bind (fun q101 => (F_X1_waysToSaint I q101 1 x1).bind (fun q113 => (F_X1_allWays I x2).bind (fun q123 => (F_X6_commonDivisor I q113 q123).bind (fun q132 => if x6 = 0 then f_X6_odds_149 I q101 q132 q113 else f_X6_odds_149 I q101 q132 q123)))))))
def f_X6_odds_49 (I : ax_I) (J : ax_J) (x1 : Int32) (x2 : Int32) (x3 : Int32) (x4 : Int32) (x5 : Int32) (x6 : Int32) : Option (Int64 × ax_J) :=
  f_X6_odds_50 I J x1 x2 x3 x4 x5 x6 0
def F_X6_odds (I : ax_I) (J : ax_J) (x1 : Int32) (x2 : Int32) (x3 : Int32) (x4 : Int32) (x5 : Int32) (x6 : Int32) : Option (Int64 × ax_J) :=
  (F_X2_isThere I 1 x1).bind (fun q5 => if q5 = 0 then some ((-1000000000000000001), J) else (F_X6_within I x3 0 10).bind (fun q19 => if q19 = 0 then f_X6_odds_49 I J x1 x2 x3 x4 x5 x6 else (F_X6_within I x4 0 10).bind (fun q30 => if q30 = 0 then f_X6_odds_49 I J x1 x2 x3 x4 x5 x6 else if 10 < (x3 + x4) then f_X6_odds_49 I J x1 x2 x3 x4 x5 x6 else f_X6_odds_50 I J x1 x2 x3 x4 x5 x6 1)))
set_option maxRecDepth 100000 in
set_option maxHeartbeats 4000000 in
theorem t_X6_odds_87 {lay : List ax_S} {rv : Int64} {J9 : ax_J} (hL : ax_LL B lay) (C : ax_C p R s m args meth c yX6_odds cX6_odds 14 (some .long) 12 E mc ms) : ∀ (I : ax_I) (J : ax_J), f_X6_odds_87 I J = some (rv, J9) → AM p l e R s m args below meth c E B lay.length (ax_z lay) 14 (some (.long rv)) lay I J9 lay I J 87 [] [] := by
  obtain ⟨hx, hb, hr, hml, hown, hts, hlocks, hK, hfr, hlo, hmc, hms, hnm⟩ := id C
  have hown : s.vm.findClass RX6 = some m.cls := hown
  intro I J h H locs cells slots ls hc hz hR hS hl
  unfold f_X6_odds_87 at h
  refine lv_ldc2 hx hb hown (hts _ ct_X6_168) dX6_odds_87 ?_
  cases h
  exact ax_lret C hc hz hR hS dX6_odds_90
set_option maxRecDepth 100000 in
set_option maxHeartbeats 4000000 in
theorem t_X6_odds_149 {lay : List ax_S} {rv : Int64} {J9 : ax_J} (hL : ax_LL B lay) (C : ax_C p R s m args meth c yX6_odds cX6_odds 14 (some .long) 12 E mc ms) : ∀ (I : ax_I) (J : ax_J) (x12 : Int64) (s0 : Int64), f_X6_odds_149 I J x12 s0 = some (rv, J9) → AM p l e R s m args below meth c E B lay.length (ax_z lay) 14 (some (.long rv)) lay I J9 lay I J 149 [(12, .long x12)] [.long s0] := by
  obtain ⟨hx, hb, hr, hml, hown, hts, hlocks, hK, hfr, hlo, hmc, hms, hnm⟩ := id C
  have hown : s.vm.findClass RX6 = some m.cls := hown
  intro I J x12 s0 h H locs cells slots ls hc hz hR hS hl
  unfold f_X6_odds_149 at h
  refine lv_lload hx hb dX6_odds_149 (lv_at hl 0 rfl) ?_
  obtain ⟨hq, h⟩ := ax_ck h
  refine lv_ldiv hx hb dX6_odds_151 hq ?_
  cases h
  exact ax_lret C hc hz hR hS dX6_odds_152
set_option maxRecDepth 100000 in
set_option maxHeartbeats 4000000 in
theorem t_X6_odds_50 {lay : List ax_S} {rv : Int64} {J9 : ax_J} (hL : ax_LL B lay) (C : ax_C p R s m args meth c yX6_odds cX6_odds 14 (some .long) 12 E mc ms) : ∀ (I : ax_I) (J : ax_J) (x1 : Int32) (x2 : Int32) (x3 : Int32) (x4 : Int32) (x5 : Int32) (x6 : Int32) (s0 : Int32), f_X6_odds_50 I J x1 x2 x3 x4 x5 x6 s0 = some (rv, J9) → AM p l e R s m args below meth c E B lay.length (ax_z lay) 14 (some (.long rv)) lay I J9 lay I J 50 [(0, .ref (B + 0)), (1, .int x1), (2, .int x2), (3, .int x3), (4, .int x4), (5, .int x5), (6, .int x6)] [.int s0] := by
  obtain ⟨hx, hb, hr, hml, hown, hts, hlocks, hK, hfr, hlo, hmc, hms, hnm⟩ := id C
  have hown : s.vm.findClass RX6 = some m.cls := hown
  intro I J x1 x2 x3 x4 x5 x6 s0 h H locs cells slots ls hc hz hR hS hl
  unfold f_X6_odds_50 at h
  refine lv_istore (lv' := [(7, .int s0), (0, .ref (B + 0)), (1, .int x1), (2, .int x2), (3, .int x3), (4, .int x4), (5, .int x5), (6, .int x6)]) hx hb dX6_odds_50 hl (by decide) rfl (fun ls hl => ?_)
  refine lv_iload_n hx hb dX6_odds_52 rfl (lv_at hl 3 rfl) ?_
  refine lv_iconst (v := 0) hx hb dX6_odds_53 (by decide) ?_
  refine lv_bipush (v := 8) hx hb dX6_odds_54 (by decide) ?_
  obtain ⟨q56, hq, h⟩ := ax_bd h
  refine ax_cS (rest := []) (st1 := [.int q56]) C hc hz hS hR (M_X6_within  hq) yk_X6_within st_X6_within ml_X6_58 (by decide) rfl hl.1 (Nat.le_of_ble_eq_true rfl) rfl rfl dX6_odds_56 (fun H locs hR hS => ?_)
  refine lv_if_eq (tgt := 87) hx hb dX6_odds_59 (by decide) (fun q => ?_) (fun q => ?_)
  · have h := ax_ip q h
    exact t_X6_odds_87 hL C  _ _ h H locs cells slots ls hc hz hR hS (lv_sub hl [] rfl)
  · have h := ax_iN q h
    refine lv_iload hx hb dX6_odds_62 (lv_at hl 0 rfl) ?_
    refine lv_if_eq (tgt := 87) hx hb dX6_odds_64 (by decide) (fun q => ?_) (fun q => ?_)
    · have h := ax_ip q h
      exact t_X6_odds_87 hL C  _ _ h H locs cells slots ls hc hz hR hS (lv_sub hl [] rfl)
    · have h := ax_iN q h
      refine lv_iload hx hb dX6_odds_67 (lv_at hl 6 rfl) ?_
      refine lv_iconst (v := 0) hx hb dX6_odds_69 (by decide) ?_
      refine lv_iload_n hx hb dX6_odds_70 rfl (lv_at hl 3 rfl) ?_
      obtain ⟨q71, hq, h⟩ := ax_bd h
      refine ax_cS (rest := []) (st1 := [.int q71]) C hc hz hS hR (M_X6_within  hq) yk_X6_within st_X6_within ml_X6_58 (by decide) rfl hl.1 (Nat.le_of_ble_eq_true rfl) rfl rfl dX6_odds_71 (fun H locs hR hS => ?_)
      refine lv_if_eq (tgt := 87) hx hb dX6_odds_74 (by decide) (fun q => ?_) (fun q => ?_)
      · have h := ax_ip q h
        exact t_X6_odds_87 hL C  _ _ h H locs cells slots ls hc hz hR hS (lv_sub hl [] rfl)
      · have h := ax_iN q h
        refine lv_iload hx hb dX6_odds_77 (lv_at hl 7 rfl) ?_
        refine lv_iconst (v := 0) hx hb dX6_odds_79 (by decide) ?_
        refine lv_iconst (v := 1) hx hb dX6_odds_80 (by decide) ?_
        obtain ⟨q81, hq, h⟩ := ax_bd h
        refine ax_cS (rest := []) (st1 := [.int q81]) C hc hz hS hR (M_X6_within  hq) yk_X6_within st_X6_within ml_X6_58 (by decide) rfl hl.1 (Nat.le_of_ble_eq_true rfl) rfl rfl dX6_odds_81 (fun H locs hR hS => ?_)
        refine lv_if_ne (tgt := 91) hx hb dX6_odds_84 (by decide) (fun q => ?_) (fun q => ?_)
        · have h := ax_iN q h
          refine lv_aload_n hx hb dX6_odds_91 rfl (lv_at hl 1 rfl) ?_
          refine ax_getV hx hb hts hown hK hR fl_X6_47 (lk_0 hL) rfl dX6_odds_92 ?_
          refine lv_iload_n hx hb dX6_odds_95 rfl (lv_at hl 3 rfl) ?_
          refine lv_iload_n hx hb dX6_odds_96 rfl (lv_at hl 4 rfl) ?_
          refine lv_iload hx hb dX6_odds_97 (lv_at hl 5 rfl) ?_
          refine lv_iload hx hb dX6_odds_99 (lv_at hl 6 rfl) ?_
          obtain ⟨q101, hq, h⟩ := ax_bd h
          refine ax_cV (rest := []) (st1 := []) C hc hz hS hR (M_X1_spread hL hq) yk_X1_spread in_X1_spread se_X1_spread ml_X6_170 (lk_31 hL) rfl rfl (by decide) rfl hl.1 (Nat.le_of_ble_eq_true rfl) rfl rfl dX6_odds_101 (fun H locs hR hS => ?_)
          refine lv_aload_n hx hb dX6_odds_104 rfl (lv_at hl 1 rfl) ?_
          refine ax_getV hx hb hts hown hK hR fl_X6_47 (lk_0 hL) rfl dX6_odds_105 ?_
          refine lv_aload_n hx hb dX6_odds_108 rfl (lv_at hl 1 rfl) ?_
          refine ax_getV hx hb hts hown hK hR fl_X6_10 (lk_0 hL) rfl dX6_odds_109 ?_
          refine lv_iload_n hx hb dX6_odds_112 rfl (lv_at hl 2 rfl) ?_
          obtain ⟨q113, hq, h⟩ := ax_bd h
          refine ax_cV (rest := []) (st1 := [.long q113]) C hc hz hS hR (M_X1_waysToSaint hL (dio_at1 hL) hq) yk_X1_waysToSaint in_X1_waysToSaint se_X1_waysToSaint ml_X6_173 (lk_31 hL) rfl rfl (by decide) rfl hl.1 (Nat.le_of_ble_eq_true rfl) rfl rfl dX6_odds_113 (fun H locs hR hS => ?_)
          refine lv_lstore (lv' := [(8, .long q113), (7, .int s0), (0, .ref (B + 0)), (1, .int x1), (2, .int x2), (3, .int x3), (4, .int x4), (5, .int x5), (6, .int x6)]) hx hb dX6_odds_116 hl (by decide) rfl (fun ls hl => ?_)
          refine lv_aload_n hx hb dX6_odds_118 rfl (lv_at hl 2 rfl) ?_
          refine ax_getV hx hb hts hown hK hR fl_X6_47 (lk_0 hL) rfl dX6_odds_119 ?_
          refine lv_iload_n hx hb dX6_odds_122 rfl (lv_at hl 4 rfl) ?_
          obtain ⟨q123, hq, h⟩ := ax_bd h
          refine ax_cV (rest := []) (st1 := [.long q123]) C hc hz hS hR (M_X1_allWays hL hq) yk_X1_allWays in_X1_allWays se_X1_allWays ml_X6_177 (lk_31 hL) rfl rfl (by decide) rfl hl.1 (Nat.le_of_ble_eq_true rfl) rfl rfl dX6_odds_123 (fun H locs hR hS => ?_)
          refine lv_lstore (lv' := [(10, .long q123), (8, .long q113), (7, .int s0), (0, .ref (B + 0)), (1, .int x1), (2, .int x2), (3, .int x3), (4, .int x4), (5, .int x5), (6, .int x6)]) hx hb dX6_odds_126 hl (by decide) rfl (fun ls hl => ?_)
          refine lv_lload hx hb dX6_odds_128 (lv_at hl 1 rfl) ?_
          refine lv_lload hx hb dX6_odds_130 (lv_at hl 0 rfl) ?_
          obtain ⟨q132, hq, h⟩ := ax_bd h
          refine ax_cS (rest := []) (st1 := [.long q132]) C hc hz hS hR (M_X6_commonDivisor  hq) yk_X6_commonDivisor st_X6_commonDivisor ml_X6_181 (by decide) rfl hl.1 (Nat.le_of_ble_eq_true rfl) rfl rfl dX6_odds_132 (fun H locs hR hS => ?_)
          refine lv_lstore (lv' := [(12, .long q132), (10, .long q123), (8, .long q113), (7, .int s0), (0, .ref (B + 0)), (1, .int x1), (2, .int x2), (3, .int x3), (4, .int x4), (5, .int x5), (6, .int x6)]) hx hb dX6_odds_135 hl (by decide) rfl (fun ls hl => ?_)
          refine lv_iload hx hb dX6_odds_137 (lv_at hl 10 rfl) ?_
          refine lv_if_ne (tgt := 147) hx hb dX6_odds_139 (by decide) (fun q => ?_) (fun q => ?_)
          · have h := ax_iN q h
            refine lv_lload hx hb dX6_odds_147 (lv_at hl 1 rfl) ?_
            exact t_X6_odds_149 hL C  _ _ _ _ h H locs cells slots ls hc hz hR hS (lv_sub hl [0] rfl)
          · have h := ax_ip q h
            refine lv_lload hx hb dX6_odds_142 (lv_at hl 2 rfl) ?_
            refine lv_goto (tgt := 149) hx hb dX6_odds_144 (by decide) ?_
            exact t_X6_odds_149 hL C  _ _ _ _ h H locs cells slots ls hc hz hR hS (lv_sub hl [0] rfl)
        · have h := ax_ip q h
          exact t_X6_odds_87 hL C  _ _ h H locs cells slots ls hc hz hR hS (lv_sub hl [] rfl)
set_option maxRecDepth 100000 in
set_option maxHeartbeats 4000000 in
theorem t_X6_odds_49 {lay : List ax_S} {rv : Int64} {J9 : ax_J} (hL : ax_LL B lay) (C : ax_C p R s m args meth c yX6_odds cX6_odds 14 (some .long) 12 E mc ms) : ∀ (I : ax_I) (J : ax_J) (x1 : Int32) (x2 : Int32) (x3 : Int32) (x4 : Int32) (x5 : Int32) (x6 : Int32), f_X6_odds_49 I J x1 x2 x3 x4 x5 x6 = some (rv, J9) → AM p l e R s m args below meth c E B lay.length (ax_z lay) 14 (some (.long rv)) lay I J9 lay I J 49 [(0, .ref (B + 0)), (1, .int x1), (2, .int x2), (3, .int x3), (4, .int x4), (5, .int x5), (6, .int x6)] [] := by
  obtain ⟨hx, hb, hr, hml, hown, hts, hlocks, hK, hfr, hlo, hmc, hms, hnm⟩ := id C
  have hown : s.vm.findClass RX6 = some m.cls := hown
  intro I J x1 x2 x3 x4 x5 x6 h H locs cells slots ls hc hz hR hS hl
  unfold f_X6_odds_49 at h
  refine lv_iconst (v := 0) hx hb dX6_odds_49 (by decide) ?_
  exact t_X6_odds_50 hL C  _ _ _ _ _ _ _ _ _ h H locs cells slots ls hc hz hR hS (lv_sub hl [0, 1, 2, 3, 4, 5, 6] rfl)
set_option maxRecDepth 100000 in
set_option maxHeartbeats 4000000 in
theorem t_X6_odds_0 {lay : List ax_S} {rv : Int64} {J9 : ax_J} (hL : ax_LL B lay) (C : ax_C p R s m args meth c yX6_odds cX6_odds 14 (some .long) 12 E mc ms) : ∀ (I : ax_I) (J : ax_J) (x1 : Int32) (x2 : Int32) (x3 : Int32) (x4 : Int32) (x5 : Int32) (x6 : Int32), F_X6_odds I J x1 x2 x3 x4 x5 x6 = some (rv, J9) → AM p l e R s m args below meth c E B lay.length (ax_z lay) 14 (some (.long rv)) lay I J9 lay I J 0 [(0, .ref (B + 0)), (1, .int x1), (2, .int x2), (3, .int x3), (4, .int x4), (5, .int x5), (6, .int x6)] [] := by
  obtain ⟨hx, hb, hr, hml, hown, hts, hlocks, hK, hfr, hlo, hmc, hms, hnm⟩ := id C
  have hown : s.vm.findClass RX6 = some m.cls := hown
  intro I J x1 x2 x3 x4 x5 x6 h H locs cells slots ls hc hz hR hS hl
  unfold F_X6_odds at h
  refine lv_aload_n hx hb dX6_odds_0 rfl (lv_at hl 0 rfl) ?_
  refine ax_getV hx hb hts hown hK hR fl_X6_10 (lk_0 hL) rfl dX6_odds_1 ?_
  refine lv_iload_n hx hb dX6_odds_4 rfl (lv_at hl 1 rfl) ?_
  obtain ⟨q5, hq, h⟩ := ax_bd h
  refine ax_cV (rest := []) (st1 := [.int q5]) C hc hz hS hR (M_X2_isThere (dio_at1 hL) hq) yk_X2_isThere in_X2_isThere se_X2_isThere ml_X6_76 (lk_1 hL) rfl rfl (by decide) rfl hl.1 (Nat.le_of_ble_eq_true rfl) rfl rfl dX6_odds_5 (fun H locs hR hS => ?_)
  refine lv_if_ne (tgt := 15) hx hb dX6_odds_8 (by decide) (fun q => ?_) (fun q => ?_)
  · have h := ax_iN q h
    refine lv_iload_n hx hb dX6_odds_15 rfl (lv_at hl 3 rfl) ?_
    refine lv_iconst (v := 0) hx hb dX6_odds_16 (by decide) ?_
    refine lv_bipush (v := 10) hx hb dX6_odds_17 (by decide) ?_
    obtain ⟨q19, hq, h⟩ := ax_bd h
    refine ax_cS (rest := []) (st1 := [.int q19]) C hc hz hS hR (M_X6_within  hq) yk_X6_within st_X6_within ml_X6_58 (by decide) rfl hl.1 (Nat.le_of_ble_eq_true rfl) rfl rfl dX6_odds_19 (fun H locs hR hS => ?_)
    refine lv_if_eq (tgt := 49) hx hb dX6_odds_22 (by decide) (fun q => ?_) (fun q => ?_)
    · have h := ax_ip q h
      exact t_X6_odds_49 hL C  _ _ _ _ _ _ _ _ h H locs cells slots ls hc hz hR hS (lv_sub hl [0, 1, 2, 3, 4, 5, 6] rfl)
    · have h := ax_iN q h
      refine lv_iload hx hb dX6_odds_25 (lv_at hl 4 rfl) ?_
      refine lv_iconst (v := 0) hx hb dX6_odds_27 (by decide) ?_
      refine lv_bipush (v := 10) hx hb dX6_odds_28 (by decide) ?_
      obtain ⟨q30, hq, h⟩ := ax_bd h
      refine ax_cS (rest := []) (st1 := [.int q30]) C hc hz hS hR (M_X6_within  hq) yk_X6_within st_X6_within ml_X6_58 (by decide) rfl hl.1 (Nat.le_of_ble_eq_true rfl) rfl rfl dX6_odds_30 (fun H locs hR hS => ?_)
      refine lv_if_eq (tgt := 49) hx hb dX6_odds_33 (by decide) (fun q => ?_) (fun q => ?_)
      · have h := ax_ip q h
        exact t_X6_odds_49 hL C  _ _ _ _ _ _ _ _ h H locs cells slots ls hc hz hR hS (lv_sub hl [0, 1, 2, 3, 4, 5, 6] rfl)
      · have h := ax_iN q h
        refine lv_iload_n hx hb dX6_odds_36 rfl (lv_at hl 3 rfl) ?_
        refine lv_iload hx hb dX6_odds_37 (lv_at hl 4 rfl) ?_
        refine lv_iadd hx hb dX6_odds_39 ?_
        refine lv_bipush (v := 10) hx hb dX6_odds_40 (by decide) ?_
        refine lv_icmp_gt (tgt := 49) hx hb dX6_odds_42 (by decide) (fun q => ?_) (fun q => ?_)
        · have h := ax_ip q h
          exact t_X6_odds_49 hL C  _ _ _ _ _ _ _ _ h H locs cells slots ls hc hz hR hS (lv_sub hl [0, 1, 2, 3, 4, 5, 6] rfl)
        · have h := ax_iN q h
          refine lv_iconst (v := 1) hx hb dX6_odds_45 (by decide) ?_
          refine lv_goto (tgt := 50) hx hb dX6_odds_46 (by decide) ?_
          exact t_X6_odds_50 hL C  _ _ _ _ _ _ _ _ _ h H locs cells slots ls hc hz hR hS (lv_sub hl [0, 1, 2, 3, 4, 5, 6] rfl)
  · have h := ax_ip q h
    refine lv_ldc2 hx hb hown (hts _ ct_X6_166) dX6_odds_11 ?_
    cases h
    exact ax_lret C hc hz hR hS dX6_odds_14
theorem M_X6_odds {l : Launch} {E : ax_E} {B : Nat} {lay : List ax_S} {I : ax_I} {J : ax_J} {x1 : Int32} {x2 : Int32} {x3 : Int32} {x4 : Int32} {x5 : Int32} {x6 : Int32} {rv : Int64} {J9 : ax_J} (hL : ax_LL B lay) (h : F_X6_odds I J x1 x2 x3 x4 x5 x6 = some (rv, J9)) : Cm l yX6_odds cX6_odds 14 (some .long) 12 E B [.ref (B + 0), .int x1, .int x2, .int x3, .int x4, .int x5, .int x6] lay I J (some (.long rv)) lay I J9 :=
  ax_met (by decide) (Nat.le_of_ble_eq_true rfl) (fun p e R s m args below meth c C => t_X6_odds_0 hL C _ _ _ _ _ _ _ _ h)
def f_X6_sumOver_24 (k1 : Nat) (n1 : Nat) (r4 : ax_I → Int32 → Int32 → Int32 → Option (Int32)) (I : ax_I) (x0 : Int32) (x2 : Int32) (x3 : Int32) : Option Int32 :=
  r4 I x0 x2 (x3 + 1)
def f_X6_sumOver_4 (k1 : Nat) (n1 : Nat) : Nat → ax_I → Int32 → Int32 → Int32 → Option Int32
  | 0, _, _, _, _ => none
  | n + 1, I, x0, x2, x3 => if (Int32.ofNat n1) ≤ x3 then some x2 else if ((x0 >>> (x3 &&& 31)) &&& 1) = 0 then f_X6_sumOver_24 k1 n1 (f_X6_sumOver_4 k1 n1 n) I x0 x2 x3 else if ax_in x3 n1 = true then f_X6_sumOver_24 k1 n1 (f_X6_sumOver_4 k1 n1 n) I x0 (x2 + (I k1 x3.toNatClampNeg)) x3 else none
def F_X6_sumOver (I : ax_I) (x0 : Int32) (k1 : Nat) (n1 : Nat) : Option Int32 :=
  f_X6_sumOver_4 k1 n1 ax_N I x0 0 0
set_option maxRecDepth 100000 in
set_option maxHeartbeats 4000000 in
theorem t_X6_sumOver_24 {lay : List ax_S} {k1 : Nat} {n1 : Nat} {J : ax_J} {rv : Int32} (hPk1 : lay[k1]? = some (.inr (.inl (0, n1)))) (C : ax_C p R s m args meth c yX6_sumOver cX6_sumOver 4 (some .int) 2 E mc ms) {r4 : ax_I → Int32 → Int32 → Int32 → Option (Int32)} (hr4 : ∀ (I : ax_I) (x0 : Int32) (x2 : Int32) (x3 : Int32), r4 I x0 x2 x3 = some rv → AM p l e R s m args below meth c E B lay.length (ax_z lay) 4 (some (.int rv)) lay I J lay I J 4 [(0, .int x0), (1, .ref (B + k1)), (2, .int x2), (3, .int x3)] []) : ∀ (I : ax_I) (x0 : Int32) (x2 : Int32) (x3 : Int32), f_X6_sumOver_24 k1 n1 r4 I x0 x2 x3 = some rv → AM p l e R s m args below meth c E B lay.length (ax_z lay) 4 (some (.int rv)) lay I J lay I J 24 [(0, .int x0), (1, .ref (B + k1)), (2, .int x2), (3, .int x3)] [] := by
  obtain ⟨hx, hb, hr, hml, hown, hts, hlocks, hK, hfr, hlo, hmc, hms, hnm⟩ := id C
  have hown : s.vm.findClass RX6 = some m.cls := hown
  intro I x0 x2 x3 h H locs cells slots ls hc hz hR hS hl
  unfold f_X6_sumOver_24 at h
  refine lv_iinc (v := (x3 + 1)) (lv' := [(3, .int (x3 + 1)), (0, .int x0), (1, .ref (B + k1)), (2, .int x2)]) hx hb dX6_sumOver_24 hl (k := 3) rfl rfl (by decide) rfl (fun ls hl => ?_)
  refine lv_goto (tgt := 4) hx hb dX6_sumOver_27 (by decide) ?_
  exact hr4 _ _ _ _ h H locs cells slots ls hc hz hR hS (lv_sub hl [1, 2, 3, 0] rfl)
set_option maxRecDepth 100000 in
set_option maxHeartbeats 4000000 in
theorem t_X6_sumOver_4 {lay : List ax_S} {k1 : Nat} {n1 : Nat} {J : ax_J} {rv : Int32} (hPk1 : lay[k1]? = some (.inr (.inl (0, n1)))) (C : ax_C p R s m args meth c yX6_sumOver cX6_sumOver 4 (some .int) 2 E mc ms) : ∀ (n : Nat) (I : ax_I) (x0 : Int32) (x2 : Int32) (x3 : Int32), f_X6_sumOver_4 k1 n1 n I x0 x2 x3 = some rv → AM p l e R s m args below meth c E B lay.length (ax_z lay) 4 (some (.int rv)) lay I J lay I J 4 [(0, .int x0), (1, .ref (B + k1)), (2, .int x2), (3, .int x3)] [] := by
  obtain ⟨hx, hb, hr, hml, hown, hts, hlocks, hK, hfr, hlo, hmc, hms, hnm⟩ := id C
  have hown : s.vm.findClass RX6 = some m.cls := hown
  intro n
  induction n with
  | zero => intro I x0 x2 x3 h; cases h
  | succ n ih =>
    intro I x0 x2 x3 h H locs cells slots ls hc hz hR hS hl
    rw [f_X6_sumOver_4] at h
    refine lv_iload_n hx hb dX6_sumOver_4 rfl (lv_at hl 3 rfl) ?_
    refine lv_aload_n hx hb dX6_sumOver_5 rfl (lv_at hl 1 rfl) ?_
    refine ax_alen hx hb hK hR hPk1 rfl dX6_sumOver_6 ?_
    refine lv_icmp_ge (tgt := 30) hx hb dX6_sumOver_7 (by decide) (fun q => ?_) (fun q => ?_)
    · have h := ax_ip q h
      refine lv_iload_n hx hb dX6_sumOver_30 rfl (lv_at hl 2 rfl) ?_
      cases h
      exact ax_iret C hc hz hR hS rfl rfl dX6_sumOver_31
    · have h := ax_iN q h
      refine lv_iload_n hx hb dX6_sumOver_10 rfl (lv_at hl 0 rfl) ?_
      refine lv_iload_n hx hb dX6_sumOver_11 rfl (lv_at hl 3 rfl) ?_
      refine lv_ishr hx hb dX6_sumOver_12 ?_
      refine lv_iconst (v := 1) hx hb dX6_sumOver_13 (by decide) ?_
      refine lv_iand hx hb dX6_sumOver_14 ?_
      refine lv_if_eq (tgt := 24) hx hb dX6_sumOver_15 (by decide) (fun q => ?_) (fun q => ?_)
      · have h := ax_ip q h
        exact t_X6_sumOver_24 hPk1 C ih _ _ _ _ h H locs cells slots ls hc hz hR hS (lv_sub hl [0, 1, 2, 3] rfl)
      · have h := ax_iN q h
        refine lv_iload_n hx hb dX6_sumOver_18 rfl (lv_at hl 2 rfl) ?_
        refine lv_aload_n hx hb dX6_sumOver_19 rfl (lv_at hl 1 rfl) ?_
        refine lv_iload_n hx hb dX6_sumOver_20 rfl (lv_at hl 3 rfl) ?_
        obtain ⟨hq, h⟩ := ax_ck h
        refine ax_iald hx hb hK hR hPk1 hq dX6_sumOver_21 ?_
        refine lv_iadd hx hb dX6_sumOver_22 ?_
        refine lv_istore_n (lv' := [(2, .int (x2 + (I k1 x3.toNatClampNeg))), (0, .int x0), (1, .ref (B + k1)), (3, .int x3)]) hx hb dX6_sumOver_23 rfl hl (by decide) rfl (fun ls hl => ?_)
        exact t_X6_sumOver_24 hPk1 C ih _ _ _ _ h H locs cells slots ls hc hz hR hS (lv_sub hl [1, 2, 0, 3] rfl)
set_option maxRecDepth 100000 in
set_option maxHeartbeats 4000000 in
theorem t_X6_sumOver_0 {lay : List ax_S} {k1 : Nat} {n1 : Nat} {J : ax_J} {rv : Int32} (hPk1 : lay[k1]? = some (.inr (.inl (0, n1)))) (C : ax_C p R s m args meth c yX6_sumOver cX6_sumOver 4 (some .int) 2 E mc ms) : ∀ (I : ax_I) (x0 : Int32), F_X6_sumOver I x0 k1 n1 = some rv → AM p l e R s m args below meth c E B lay.length (ax_z lay) 4 (some (.int rv)) lay I J lay I J 0 [(0, .int x0), (1, .ref (B + k1))] [] := by
  obtain ⟨hx, hb, hr, hml, hown, hts, hlocks, hK, hfr, hlo, hmc, hms, hnm⟩ := id C
  have hown : s.vm.findClass RX6 = some m.cls := hown
  intro I x0 h H locs cells slots ls hc hz hR hS hl
  unfold F_X6_sumOver at h
  refine lv_iconst (v := 0) hx hb dX6_sumOver_0 (by decide) ?_
  refine lv_istore_n (lv' := [(2, .int 0), (0, .int x0), (1, .ref (B + k1))]) hx hb dX6_sumOver_1 rfl hl (by decide) rfl (fun ls hl => ?_)
  refine lv_iconst (v := 0) hx hb dX6_sumOver_2 (by decide) ?_
  refine lv_istore_n (lv' := [(3, .int 0), (2, .int 0), (0, .int x0), (1, .ref (B + k1))]) hx hb dX6_sumOver_3 rfl hl (by decide) rfl (fun ls hl => ?_)
  exact t_X6_sumOver_4 hPk1 C  ax_N _ _ _ _ h H locs cells slots ls hc hz hR hS (lv_sub hl [2, 3, 1, 0] rfl)
theorem M_X6_sumOver {l : Launch} {E : ax_E} {B : Nat} {lay : List ax_S} {I : ax_I} {J : ax_J} {x0 : Int32} {k1 : Nat} {n1 : Nat} {rv : Int32} (hPk1 : lay[k1]? = some (.inr (.inl (0, n1)))) (h : F_X6_sumOver I x0 k1 n1 = some rv) : Cm l yX6_sumOver cX6_sumOver 4 (some .int) 2 E B [.int x0, .ref (B + k1)] lay I J (some (.int rv)) lay I J :=
  ax_met (by decide) (Nat.le_of_ble_eq_true rfl) (fun p e R s m args below meth c C => t_X6_sumOver_0 hPk1 C _ _ h)
def f_X6_back_108 (r31 : ax_I → Int32 → Int32 → Int32 → Int32 → Int32 → Option (Int32)) (I : ax_I) (x1 : Int32) (x2 : Int32) (x3 : Int32) (x4 : Int32) (x5 : Int32) : Option Int32 :=
  r31 I x1 x2 x3 x4 (x5 + 1)
def f_X6_back_74 (r31 : ax_I → Int32 → Int32 → Int32 → Int32 → Int32 → Option (Int32)) (I : ax_I) (x1 : Int32) (x2 : Int32) (x3 : Int32) (x4 : Int32) (x5 : Int32) (s0 : Int32) : Option Int32 :=
  (F_X6_sumOver I x5 7 6).bind (fun q85 => if s0 = 0 then f_X6_back_108 r31 I x1 x2 x3 x4 x5 else if q85 ≤ x3 then f_X6_back_108 r31 I x1 x2 x3 x4 x5 else f_X6_back_108 r31 I x1 x2 q85 x5 x5)
def f_X6_back_73 (r31 : ax_I → Int32 → Int32 → Int32 → Int32 → Int32 → Option (Int32)) (I : ax_I) (x1 : Int32) (x2 : Int32) (x3 : Int32) (x4 : Int32) (x5 : Int32) : Option Int32 :=
  f_X6_back_74 r31 I x1 x2 x3 x4 x5 0
def f_X6_back_31 : Nat → ax_I → Int32 → Int32 → Int32 → Int32 → Int32 → Option Int32
  | 0, _, _, _, _, _, _ => none
  | n + 1, I, x1, x2, x3, x4, x5 => if 64 ≤ x5 then (if x2 = 0 then some x3 else some x4) else if (x5 &&& ((I 1 0) ^^^ (-1))) = 0 then (F_X6_sumOver I x5 6 6).bind (fun q62 => if x1 < q62 then f_X6_back_73 (f_X6_back_31 n) I x1 x2 x3 x4 x5 else f_X6_back_74 (f_X6_back_31 n) I x1 x2 x3 x4 x5 1) else f_X6_back_73 (f_X6_back_31 n) I x1 x2 x3 x4 x5
def F_X6_back (I : ax_I) (x1 : Int32) (x2 : Int32) : Option Int32 :=
  (F_X6_within I x1 0 999).bind (fun q5 => if q5 = 0 then some (-2) else (F_X6_within I x2 0 1).bind (fun q14 => if q14 = 0 then some (-2) else f_X6_back_31 ax_N I x1 x2 0 0 0))
set_option maxRecDepth 100000 in
set_option maxHeartbeats 4000000 in
theorem t_X6_back_108 {lay : List ax_S} {J : ax_J} {rv : Int32} (hL : ax_LL B lay) (C : ax_C p R s m args meth c yX6_back cX6_back 8 (some .int) 4 E mc ms) {r31 : ax_I → Int32 → Int32 → Int32 → Int32 → Int32 → Option (Int32)} (hr31 : ∀ (I : ax_I) (x1 : Int32) (x2 : Int32) (x3 : Int32) (x4 : Int32) (x5 : Int32), r31 I x1 x2 x3 x4 x5 = some rv → AM p l e R s m args below meth c E B lay.length (ax_z lay) 8 (some (.int rv)) lay I J lay I J 31 [(0, .ref (B + 0)), (1, .int x1), (2, .int x2), (3, .int x3), (4, .int x4), (5, .int x5)] []) : ∀ (I : ax_I) (x1 : Int32) (x2 : Int32) (x3 : Int32) (x4 : Int32) (x5 : Int32), f_X6_back_108 r31 I x1 x2 x3 x4 x5 = some rv → AM p l e R s m args below meth c E B lay.length (ax_z lay) 8 (some (.int rv)) lay I J lay I J 108 [(0, .ref (B + 0)), (1, .int x1), (2, .int x2), (3, .int x3), (4, .int x4), (5, .int x5)] [] := by
  obtain ⟨hx, hb, hr, hml, hown, hts, hlocks, hK, hfr, hlo, hmc, hms, hnm⟩ := id C
  have hown : s.vm.findClass RX6 = some m.cls := hown
  intro I x1 x2 x3 x4 x5 h H locs cells slots ls hc hz hR hS hl
  unfold f_X6_back_108 at h
  refine lv_iinc (v := (x5 + 1)) (lv' := [(5, .int (x5 + 1)), (0, .ref (B + 0)), (1, .int x1), (2, .int x2), (3, .int x3), (4, .int x4)]) hx hb dX6_back_108 hl (k := 5) rfl rfl (by decide) rfl (fun ls hl => ?_)
  refine lv_goto (tgt := 31) hx hb dX6_back_111 (by decide) ?_
  exact hr31 _ _ _ _ _ _ h H locs cells slots ls hc hz hR hS (lv_sub hl [1, 2, 3, 4, 5, 0] rfl)
set_option maxRecDepth 100000 in
set_option maxHeartbeats 4000000 in
theorem t_X6_back_74 {lay : List ax_S} {J : ax_J} {rv : Int32} (hL : ax_LL B lay) (C : ax_C p R s m args meth c yX6_back cX6_back 8 (some .int) 4 E mc ms) {r31 : ax_I → Int32 → Int32 → Int32 → Int32 → Int32 → Option (Int32)} (hr31 : ∀ (I : ax_I) (x1 : Int32) (x2 : Int32) (x3 : Int32) (x4 : Int32) (x5 : Int32), r31 I x1 x2 x3 x4 x5 = some rv → AM p l e R s m args below meth c E B lay.length (ax_z lay) 8 (some (.int rv)) lay I J lay I J 31 [(0, .ref (B + 0)), (1, .int x1), (2, .int x2), (3, .int x3), (4, .int x4), (5, .int x5)] []) : ∀ (I : ax_I) (x1 : Int32) (x2 : Int32) (x3 : Int32) (x4 : Int32) (x5 : Int32) (s0 : Int32), f_X6_back_74 r31 I x1 x2 x3 x4 x5 s0 = some rv → AM p l e R s m args below meth c E B lay.length (ax_z lay) 8 (some (.int rv)) lay I J lay I J 74 [(0, .ref (B + 0)), (1, .int x1), (2, .int x2), (3, .int x3), (4, .int x4), (5, .int x5)] [.int s0] := by
  obtain ⟨hx, hb, hr, hml, hown, hts, hlocks, hK, hfr, hlo, hmc, hms, hnm⟩ := id C
  have hown : s.vm.findClass RX6 = some m.cls := hown
  intro I x1 x2 x3 x4 x5 s0 h H locs cells slots ls hc hz hR hS hl
  unfold f_X6_back_74 at h
  refine lv_istore (lv' := [(6, .int s0), (0, .ref (B + 0)), (1, .int x1), (2, .int x2), (3, .int x3), (4, .int x4), (5, .int x5)]) hx hb dX6_back_74 hl (by decide) rfl (fun ls hl => ?_)
  refine lv_iload hx hb dX6_back_76 (lv_at hl 6 rfl) ?_
  refine lv_aload_n hx hb dX6_back_78 rfl (lv_at hl 1 rfl) ?_
  refine ax_getV hx hb hts hown hK hR fl_X6_10 (lk_0 hL) rfl dX6_back_79 ?_
  refine ax_getV hx hb hts hown hK hR fl_X6_97 (lk_1 hL) rfl dX6_back_82 ?_
  obtain ⟨q85, hq, h⟩ := ax_bd h
  refine ax_cS (rest := []) (st1 := [.int q85]) C hc hz hS hR (M_X6_sumOver (lk_7 hL) hq) yk_X6_sumOver st_X6_sumOver ml_X6_185 (by decide) rfl hl.1 (Nat.le_of_ble_eq_true rfl) rfl rfl dX6_back_85 (fun H locs hR hS => ?_)
  refine lv_istore (lv' := [(7, .int q85), (6, .int s0), (0, .ref (B + 0)), (1, .int x1), (2, .int x2), (3, .int x3), (4, .int x4), (5, .int x5)]) hx hb dX6_back_88 hl (by decide) rfl (fun ls hl => ?_)
  refine lv_iload hx hb dX6_back_90 (lv_at hl 1 rfl) ?_
  refine lv_if_eq (tgt := 108) hx hb dX6_back_92 (by decide) (fun q => ?_) (fun q => ?_)
  · have h := ax_ip q h
    exact t_X6_back_108 hL C hr31 _ _ _ _ _ _ h H locs cells slots ls hc hz hR hS (lv_sub hl [2, 3, 4, 5, 6, 7] rfl)
  · have h := ax_iN q h
    refine lv_iload hx hb dX6_back_95 (lv_at hl 0 rfl) ?_
    refine lv_iload_n hx hb dX6_back_97 rfl (lv_at hl 5 rfl) ?_
    refine lv_icmp_le (tgt := 108) hx hb dX6_back_98 (by decide) (fun q => ?_) (fun q => ?_)
    · have h := ax_ip q h
      exact t_X6_back_108 hL C hr31 _ _ _ _ _ _ h H locs cells slots ls hc hz hR hS (lv_sub hl [2, 3, 4, 5, 6, 7] rfl)
    · have h := ax_iN q h
      refine lv_iload hx hb dX6_back_101 (lv_at hl 0 rfl) ?_
      refine lv_istore_n (lv' := [(3, .int q85), (7, .int q85), (6, .int s0), (0, .ref (B + 0)), (1, .int x1), (2, .int x2), (4, .int x4), (5, .int x5)]) hx hb dX6_back_103 rfl hl (by decide) rfl (fun ls hl => ?_)
      refine lv_iload hx hb dX6_back_104 (lv_at hl 7 rfl) ?_
      refine lv_istore (lv' := [(4, .int x5), (3, .int q85), (7, .int q85), (6, .int s0), (0, .ref (B + 0)), (1, .int x1), (2, .int x2), (5, .int x5)]) hx hb dX6_back_106 hl (by decide) rfl (fun ls hl => ?_)
      exact t_X6_back_108 hL C hr31 _ _ _ _ _ _ h H locs cells slots ls hc hz hR hS (lv_sub hl [4, 5, 6, 1, 0, 7] rfl)
set_option maxRecDepth 100000 in
set_option maxHeartbeats 4000000 in
theorem t_X6_back_73 {lay : List ax_S} {J : ax_J} {rv : Int32} (hL : ax_LL B lay) (C : ax_C p R s m args meth c yX6_back cX6_back 8 (some .int) 4 E mc ms) {r31 : ax_I → Int32 → Int32 → Int32 → Int32 → Int32 → Option (Int32)} (hr31 : ∀ (I : ax_I) (x1 : Int32) (x2 : Int32) (x3 : Int32) (x4 : Int32) (x5 : Int32), r31 I x1 x2 x3 x4 x5 = some rv → AM p l e R s m args below meth c E B lay.length (ax_z lay) 8 (some (.int rv)) lay I J lay I J 31 [(0, .ref (B + 0)), (1, .int x1), (2, .int x2), (3, .int x3), (4, .int x4), (5, .int x5)] []) : ∀ (I : ax_I) (x1 : Int32) (x2 : Int32) (x3 : Int32) (x4 : Int32) (x5 : Int32), f_X6_back_73 r31 I x1 x2 x3 x4 x5 = some rv → AM p l e R s m args below meth c E B lay.length (ax_z lay) 8 (some (.int rv)) lay I J lay I J 73 [(0, .ref (B + 0)), (1, .int x1), (2, .int x2), (3, .int x3), (4, .int x4), (5, .int x5)] [] := by
  obtain ⟨hx, hb, hr, hml, hown, hts, hlocks, hK, hfr, hlo, hmc, hms, hnm⟩ := id C
  have hown : s.vm.findClass RX6 = some m.cls := hown
  intro I x1 x2 x3 x4 x5 h H locs cells slots ls hc hz hR hS hl
  unfold f_X6_back_73 at h
  refine lv_iconst (v := 0) hx hb dX6_back_73 (by decide) ?_
  exact t_X6_back_74 hL C hr31 _ _ _ _ _ _ _ h H locs cells slots ls hc hz hR hS (lv_sub hl [0, 1, 2, 3, 4, 5] rfl)
set_option maxRecDepth 100000 in
set_option maxHeartbeats 4000000 in
theorem t_X6_back_31 {lay : List ax_S} {J : ax_J} {rv : Int32} (hL : ax_LL B lay) (C : ax_C p R s m args meth c yX6_back cX6_back 8 (some .int) 4 E mc ms) : ∀ (n : Nat) (I : ax_I) (x1 : Int32) (x2 : Int32) (x3 : Int32) (x4 : Int32) (x5 : Int32), f_X6_back_31 n I x1 x2 x3 x4 x5 = some rv → AM p l e R s m args below meth c E B lay.length (ax_z lay) 8 (some (.int rv)) lay I J lay I J 31 [(0, .ref (B + 0)), (1, .int x1), (2, .int x2), (3, .int x3), (4, .int x4), (5, .int x5)] [] := by
  obtain ⟨hx, hb, hr, hml, hown, hts, hlocks, hK, hfr, hlo, hmc, hms, hnm⟩ := id C
  have hown : s.vm.findClass RX6 = some m.cls := hown
  intro n
  induction n with
  | zero => intro I x1 x2 x3 x4 x5 h; cases h
  | succ n ih =>
    intro I x1 x2 x3 x4 x5 h H locs cells slots ls hc hz hR hS hl
    rw [f_X6_back_31] at h
    refine lv_iload hx hb dX6_back_31 (lv_at hl 5 rfl) ?_
    refine lv_bipush (v := 64) hx hb dX6_back_33 (by decide) ?_
    refine lv_icmp_ge (tgt := 114) hx hb dX6_back_35 (by decide) (fun q => ?_) (fun q => ?_)
    · have h := ax_ip q h
      refine lv_iload_n hx hb dX6_back_114 rfl (lv_at hl 2 rfl) ?_
      refine lv_if_ne (tgt := 122) hx hb dX6_back_115 (by decide) (fun q => ?_) (fun q => ?_)
      · have h := ax_iN q h
        refine lv_iload hx hb dX6_back_122 (lv_at hl 4 rfl) ?_
        cases h
        exact ax_iret C hc hz hR hS rfl rfl dX6_back_124
      · have h := ax_ip q h
        refine lv_iload_n hx hb dX6_back_118 rfl (lv_at hl 3 rfl) ?_
        refine lv_goto (tgt := 124) hx hb dX6_back_119 (by decide) ?_
        cases h
        exact ax_iret C hc hz hR hS rfl rfl dX6_back_124
    · have h := ax_iN q h
      refine lv_iload hx hb dX6_back_38 (lv_at hl 5 rfl) ?_
      refine lv_aload_n hx hb dX6_back_40 rfl (lv_at hl 0 rfl) ?_
      refine ax_getV hx hb hts hown hK hR fl_X6_10 (lk_0 hL) rfl dX6_back_41 ?_
      refine ax_getI hx hb hts hown hK hR fl_X6_66 (lk_1 hL) rfl dX6_back_44 ?_
      refine lv_iconst (v := (-1)) hx hb dX6_back_47 (by decide) ?_
      refine lv_ixor hx hb dX6_back_48 ?_
      refine lv_iand hx hb dX6_back_49 ?_
      refine lv_if_ne (tgt := 73) hx hb dX6_back_50 (by decide) (fun q => ?_) (fun q => ?_)
      · have h := ax_iN q h
        exact t_X6_back_73 hL C ih _ _ _ _ _ _ h H locs cells slots ls hc hz hR hS (lv_sub hl [0, 1, 2, 3, 4, 5] rfl)
      · have h := ax_ip q h
        refine lv_iload hx hb dX6_back_53 (lv_at hl 5 rfl) ?_
        refine lv_aload_n hx hb dX6_back_55 rfl (lv_at hl 0 rfl) ?_
        refine ax_getV hx hb hts hown hK hR fl_X6_10 (lk_0 hL) rfl dX6_back_56 ?_
        refine ax_getV hx hb hts hown hK hR fl_X6_94 (lk_1 hL) rfl dX6_back_59 ?_
        obtain ⟨q62, hq, h⟩ := ax_bd h
        refine ax_cS (rest := []) (st1 := [.int q62]) C hc hz hS hR (M_X6_sumOver (lk_6 hL) hq) yk_X6_sumOver st_X6_sumOver ml_X6_185 (by decide) rfl hl.1 (Nat.le_of_ble_eq_true rfl) rfl rfl dX6_back_62 (fun H locs hR hS => ?_)
        refine lv_iload_n hx hb dX6_back_65 rfl (lv_at hl 1 rfl) ?_
        refine lv_icmp_gt (tgt := 73) hx hb dX6_back_66 (by decide) (fun q => ?_) (fun q => ?_)
        · have h := ax_ip q h
          exact t_X6_back_73 hL C ih _ _ _ _ _ _ h H locs cells slots ls hc hz hR hS (lv_sub hl [0, 1, 2, 3, 4, 5] rfl)
        · have h := ax_iN q h
          refine lv_iconst (v := 1) hx hb dX6_back_69 (by decide) ?_
          refine lv_goto (tgt := 74) hx hb dX6_back_70 (by decide) ?_
          exact t_X6_back_74 hL C ih _ _ _ _ _ _ _ h H locs cells slots ls hc hz hR hS (lv_sub hl [0, 1, 2, 3, 4, 5] rfl)
set_option maxRecDepth 100000 in
set_option maxHeartbeats 4000000 in
theorem t_X6_back_0 {lay : List ax_S} {J : ax_J} {rv : Int32} (hL : ax_LL B lay) (C : ax_C p R s m args meth c yX6_back cX6_back 8 (some .int) 4 E mc ms) : ∀ (I : ax_I) (x1 : Int32) (x2 : Int32), F_X6_back I x1 x2 = some rv → AM p l e R s m args below meth c E B lay.length (ax_z lay) 8 (some (.int rv)) lay I J lay I J 0 [(0, .ref (B + 0)), (1, .int x1), (2, .int x2)] [] := by
  obtain ⟨hx, hb, hr, hml, hown, hts, hlocks, hK, hfr, hlo, hmc, hms, hnm⟩ := id C
  have hown : s.vm.findClass RX6 = some m.cls := hown
  intro I x1 x2 h H locs cells slots ls hc hz hR hS hl
  unfold F_X6_back at h
  refine lv_iload_n hx hb dX6_back_0 rfl (lv_at hl 1 rfl) ?_
  refine lv_iconst (v := 0) hx hb dX6_back_1 (by decide) ?_
  refine lv_sipush (v := 999) hx hb dX6_back_2 (by decide) ?_
  obtain ⟨q5, hq, h⟩ := ax_bd h
  refine ax_cS (rest := []) (st1 := [.int q5]) C hc hz hS hR (M_X6_within  hq) yk_X6_within st_X6_within ml_X6_58 (by decide) rfl hl.1 (Nat.le_of_ble_eq_true rfl) rfl rfl dX6_back_5 (fun H locs hR hS => ?_)
  refine lv_if_eq (tgt := 20) hx hb dX6_back_8 (by decide) (fun q => ?_) (fun q => ?_)
  · have h := ax_ip q h
    refine lv_bipush (v := (-2)) hx hb dX6_back_20 (by decide) ?_
    cases h
    exact ax_iret C hc hz hR hS rfl rfl dX6_back_22
  · have h := ax_iN q h
    refine lv_iload_n hx hb dX6_back_11 rfl (lv_at hl 2 rfl) ?_
    refine lv_iconst (v := 0) hx hb dX6_back_12 (by decide) ?_
    refine lv_iconst (v := 1) hx hb dX6_back_13 (by decide) ?_
    obtain ⟨q14, hq, h⟩ := ax_bd h
    refine ax_cS (rest := []) (st1 := [.int q14]) C hc hz hS hR (M_X6_within  hq) yk_X6_within st_X6_within ml_X6_58 (by decide) rfl hl.1 (Nat.le_of_ble_eq_true rfl) rfl rfl dX6_back_14 (fun H locs hR hS => ?_)
    refine lv_if_ne (tgt := 23) hx hb dX6_back_17 (by decide) (fun q => ?_) (fun q => ?_)
    · have h := ax_iN q h
      refine lv_iconst (v := 0) hx hb dX6_back_23 (by decide) ?_
      refine lv_istore_n (lv' := [(3, .int 0), (0, .ref (B + 0)), (1, .int x1), (2, .int x2)]) hx hb dX6_back_24 rfl hl (by decide) rfl (fun ls hl => ?_)
      refine lv_iconst (v := 0) hx hb dX6_back_25 (by decide) ?_
      refine lv_istore (lv' := [(4, .int 0), (3, .int 0), (0, .ref (B + 0)), (1, .int x1), (2, .int x2)]) hx hb dX6_back_26 hl (by decide) rfl (fun ls hl => ?_)
      refine lv_iconst (v := 0) hx hb dX6_back_28 (by decide) ?_
      refine lv_istore (lv' := [(5, .int 0), (4, .int 0), (3, .int 0), (0, .ref (B + 0)), (1, .int x1), (2, .int x2)]) hx hb dX6_back_29 hl (by decide) rfl (fun ls hl => ?_)
      exact t_X6_back_31 hL C  ax_N _ _ _ _ _ _ h H locs cells slots ls hc hz hR hS (lv_sub hl [3, 4, 5, 2, 1, 0] rfl)
    · have h := ax_ip q h
      refine lv_bipush (v := (-2)) hx hb dX6_back_20 (by decide) ?_
      cases h
      exact ax_iret C hc hz hR hS rfl rfl dX6_back_22
theorem M_X6_back {l : Launch} {E : ax_E} {B : Nat} {lay : List ax_S} {I : ax_I} {J : ax_J} {x1 : Int32} {x2 : Int32} {rv : Int32} (hL : ax_LL B lay) (h : F_X6_back I x1 x2 = some rv) : Cm l yX6_back cX6_back 8 (some .int) 4 E B [.ref (B + 0), .int x1, .int x2] lay I J (some (.int rv)) lay I J :=
  ax_met (by decide) (Nat.le_of_ble_eq_true rfl) (fun p e R s m args below meth c C => t_X6_back_0 hL C _ _ _ h)
def f_X6_unionOver_24 (k1 : Nat) (n1 : Nat) (r4 : ax_I → Int32 → Int32 → Int32 → Option (Int32)) (I : ax_I) (x0 : Int32) (x2 : Int32) (x3 : Int32) : Option Int32 :=
  r4 I x0 x2 (x3 + 1)
def f_X6_unionOver_4 (k1 : Nat) (n1 : Nat) : Nat → ax_I → Int32 → Int32 → Int32 → Option Int32
  | 0, _, _, _, _ => none
  | n + 1, I, x0, x2, x3 => if (Int32.ofNat n1) ≤ x3 then some x2 else if ((x0 >>> (x3 &&& 31)) &&& 1) = 0 then f_X6_unionOver_24 k1 n1 (f_X6_unionOver_4 k1 n1 n) I x0 x2 x3 else if ax_in x3 n1 = true then f_X6_unionOver_24 k1 n1 (f_X6_unionOver_4 k1 n1 n) I x0 (x2 ||| (I k1 x3.toNatClampNeg)) x3 else none
def F_X6_unionOver (I : ax_I) (x0 : Int32) (k1 : Nat) (n1 : Nat) : Option Int32 :=
  f_X6_unionOver_4 k1 n1 ax_N I x0 0 0
set_option maxRecDepth 100000 in
set_option maxHeartbeats 4000000 in
theorem t_X6_unionOver_24 {lay : List ax_S} {k1 : Nat} {n1 : Nat} {J : ax_J} {rv : Int32} (hPk1 : lay[k1]? = some (.inr (.inl (0, n1)))) (C : ax_C p R s m args meth c yX6_unionOver cX6_unionOver 4 (some .int) 2 E mc ms) {r4 : ax_I → Int32 → Int32 → Int32 → Option (Int32)} (hr4 : ∀ (I : ax_I) (x0 : Int32) (x2 : Int32) (x3 : Int32), r4 I x0 x2 x3 = some rv → AM p l e R s m args below meth c E B lay.length (ax_z lay) 4 (some (.int rv)) lay I J lay I J 4 [(0, .int x0), (1, .ref (B + k1)), (2, .int x2), (3, .int x3)] []) : ∀ (I : ax_I) (x0 : Int32) (x2 : Int32) (x3 : Int32), f_X6_unionOver_24 k1 n1 r4 I x0 x2 x3 = some rv → AM p l e R s m args below meth c E B lay.length (ax_z lay) 4 (some (.int rv)) lay I J lay I J 24 [(0, .int x0), (1, .ref (B + k1)), (2, .int x2), (3, .int x3)] [] := by
  obtain ⟨hx, hb, hr, hml, hown, hts, hlocks, hK, hfr, hlo, hmc, hms, hnm⟩ := id C
  have hown : s.vm.findClass RX6 = some m.cls := hown
  intro I x0 x2 x3 h H locs cells slots ls hc hz hR hS hl
  unfold f_X6_unionOver_24 at h
  refine lv_iinc (v := (x3 + 1)) (lv' := [(3, .int (x3 + 1)), (0, .int x0), (1, .ref (B + k1)), (2, .int x2)]) hx hb dX6_unionOver_24 hl (k := 3) rfl rfl (by decide) rfl (fun ls hl => ?_)
  refine lv_goto (tgt := 4) hx hb dX6_unionOver_27 (by decide) ?_
  exact hr4 _ _ _ _ h H locs cells slots ls hc hz hR hS (lv_sub hl [1, 2, 3, 0] rfl)
set_option maxRecDepth 100000 in
set_option maxHeartbeats 4000000 in
theorem t_X6_unionOver_4 {lay : List ax_S} {k1 : Nat} {n1 : Nat} {J : ax_J} {rv : Int32} (hPk1 : lay[k1]? = some (.inr (.inl (0, n1)))) (C : ax_C p R s m args meth c yX6_unionOver cX6_unionOver 4 (some .int) 2 E mc ms) : ∀ (n : Nat) (I : ax_I) (x0 : Int32) (x2 : Int32) (x3 : Int32), f_X6_unionOver_4 k1 n1 n I x0 x2 x3 = some rv → AM p l e R s m args below meth c E B lay.length (ax_z lay) 4 (some (.int rv)) lay I J lay I J 4 [(0, .int x0), (1, .ref (B + k1)), (2, .int x2), (3, .int x3)] [] := by
  obtain ⟨hx, hb, hr, hml, hown, hts, hlocks, hK, hfr, hlo, hmc, hms, hnm⟩ := id C
  have hown : s.vm.findClass RX6 = some m.cls := hown
  intro n
  induction n with
  | zero => intro I x0 x2 x3 h; cases h
  | succ n ih =>
    intro I x0 x2 x3 h H locs cells slots ls hc hz hR hS hl
    rw [f_X6_unionOver_4] at h
    refine lv_iload_n hx hb dX6_unionOver_4 rfl (lv_at hl 3 rfl) ?_
    refine lv_aload_n hx hb dX6_unionOver_5 rfl (lv_at hl 1 rfl) ?_
    refine ax_alen hx hb hK hR hPk1 rfl dX6_unionOver_6 ?_
    refine lv_icmp_ge (tgt := 30) hx hb dX6_unionOver_7 (by decide) (fun q => ?_) (fun q => ?_)
    · have h := ax_ip q h
      refine lv_iload_n hx hb dX6_unionOver_30 rfl (lv_at hl 2 rfl) ?_
      cases h
      exact ax_iret C hc hz hR hS rfl rfl dX6_unionOver_31
    · have h := ax_iN q h
      refine lv_iload_n hx hb dX6_unionOver_10 rfl (lv_at hl 0 rfl) ?_
      refine lv_iload_n hx hb dX6_unionOver_11 rfl (lv_at hl 3 rfl) ?_
      refine lv_ishr hx hb dX6_unionOver_12 ?_
      refine lv_iconst (v := 1) hx hb dX6_unionOver_13 (by decide) ?_
      refine lv_iand hx hb dX6_unionOver_14 ?_
      refine lv_if_eq (tgt := 24) hx hb dX6_unionOver_15 (by decide) (fun q => ?_) (fun q => ?_)
      · have h := ax_ip q h
        exact t_X6_unionOver_24 hPk1 C ih _ _ _ _ h H locs cells slots ls hc hz hR hS (lv_sub hl [0, 1, 2, 3] rfl)
      · have h := ax_iN q h
        refine lv_iload_n hx hb dX6_unionOver_18 rfl (lv_at hl 2 rfl) ?_
        refine lv_aload_n hx hb dX6_unionOver_19 rfl (lv_at hl 1 rfl) ?_
        refine lv_iload_n hx hb dX6_unionOver_20 rfl (lv_at hl 3 rfl) ?_
        obtain ⟨hq, h⟩ := ax_ck h
        refine ax_iald hx hb hK hR hPk1 hq dX6_unionOver_21 ?_
        refine lv_ior hx hb dX6_unionOver_22 ?_
        refine lv_istore_n (lv' := [(2, .int (x2 ||| (I k1 x3.toNatClampNeg))), (0, .int x0), (1, .ref (B + k1)), (3, .int x3)]) hx hb dX6_unionOver_23 rfl hl (by decide) rfl (fun ls hl => ?_)
        exact t_X6_unionOver_24 hPk1 C ih _ _ _ _ h H locs cells slots ls hc hz hR hS (lv_sub hl [1, 2, 0, 3] rfl)
set_option maxRecDepth 100000 in
set_option maxHeartbeats 4000000 in
theorem t_X6_unionOver_0 {lay : List ax_S} {k1 : Nat} {n1 : Nat} {J : ax_J} {rv : Int32} (hPk1 : lay[k1]? = some (.inr (.inl (0, n1)))) (C : ax_C p R s m args meth c yX6_unionOver cX6_unionOver 4 (some .int) 2 E mc ms) : ∀ (I : ax_I) (x0 : Int32), F_X6_unionOver I x0 k1 n1 = some rv → AM p l e R s m args below meth c E B lay.length (ax_z lay) 4 (some (.int rv)) lay I J lay I J 0 [(0, .int x0), (1, .ref (B + k1))] [] := by
  obtain ⟨hx, hb, hr, hml, hown, hts, hlocks, hK, hfr, hlo, hmc, hms, hnm⟩ := id C
  have hown : s.vm.findClass RX6 = some m.cls := hown
  intro I x0 h H locs cells slots ls hc hz hR hS hl
  unfold F_X6_unionOver at h
  refine lv_iconst (v := 0) hx hb dX6_unionOver_0 (by decide) ?_
  refine lv_istore_n (lv' := [(2, .int 0), (0, .int x0), (1, .ref (B + k1))]) hx hb dX6_unionOver_1 rfl hl (by decide) rfl (fun ls hl => ?_)
  refine lv_iconst (v := 0) hx hb dX6_unionOver_2 (by decide) ?_
  refine lv_istore_n (lv' := [(3, .int 0), (2, .int 0), (0, .int x0), (1, .ref (B + k1))]) hx hb dX6_unionOver_3 rfl hl (by decide) rfl (fun ls hl => ?_)
  exact t_X6_unionOver_4 hPk1 C  ax_N _ _ _ _ h H locs cells slots ls hc hz hR hS (lv_sub hl [2, 3, 1, 0] rfl)
theorem M_X6_unionOver {l : Launch} {E : ax_E} {B : Nat} {lay : List ax_S} {I : ax_I} {J : ax_J} {x0 : Int32} {k1 : Nat} {n1 : Nat} {rv : Int32} (hPk1 : lay[k1]? = some (.inr (.inl (0, n1)))) (h : F_X6_unionOver I x0 k1 n1 = some rv) : Cm l yX6_unionOver cX6_unionOver 4 (some .int) 2 E B [.int x0, .ref (B + k1)] lay I J (some (.int rv)) lay I J :=
  ax_met (by decide) (Nat.le_of_ble_eq_true rfl) (fun p e R s m args below meth c C => t_X6_unionOver_0 hPk1 C _ _ h)
def f_X6_fewest_79 (r32 : ax_I → Int32 → Int32 → Int32 → Int32 → Int32 → Option (Int32)) (I : ax_I) (x1 : Int32) (x2 : Int32) (x3 : Int32) (x4 : Int32) (x5 : Int32) : Option Int32 :=
  r32 I x1 x2 x3 x4 (x5 + 1)
def f_X6_fewest_32 : Nat → ax_I → Int32 → Int32 → Int32 → Int32 → Int32 → Option Int32
  | 0, _, _, _, _, _, _ => none
  | n + 1, I, x1, x2, x3, x4, x5 => if 256 ≤ x5 then (if x3 ≤ 8 then (if x2 = 0 then some x3 else some x4) else some (-6)) else (F_J6_bitCount_0f7a4 I x5).bind (fun q42 => if x3 ≤ q42 then f_X6_fewest_79 (f_X6_fewest_32 n) I x1 x2 x3 x4 x5 else (F_X6_unionOver I x5 11 8).bind (fun q63 => if (x1 &&& (q63 ^^^ (-1))) = 0 then f_X6_fewest_79 (f_X6_fewest_32 n) I x1 x2 q42 x5 x5 else f_X6_fewest_79 (f_X6_fewest_32 n) I x1 x2 x3 x4 x5))
def F_X6_fewest (I : ax_I) (x1 : Int32) (x2 : Int32) : Option Int32 :=
  (F_X6_within I x1 0 1023).bind (fun q5 => if q5 = 0 then some (-2) else (F_X6_within I x2 0 1).bind (fun q14 => if q14 = 0 then some (-2) else f_X6_fewest_32 ax_N I x1 x2 9 0 0))
set_option maxRecDepth 100000 in
set_option maxHeartbeats 4000000 in
theorem t_X6_fewest_79 {lay : List ax_S} {J : ax_J} {rv : Int32} (hL : ax_LL B lay) (C : ax_C p R s m args meth c yX6_fewest cX6_fewest 7 (some .int) 4 E mc ms) {r32 : ax_I → Int32 → Int32 → Int32 → Int32 → Int32 → Option (Int32)} (hr32 : ∀ (I : ax_I) (x1 : Int32) (x2 : Int32) (x3 : Int32) (x4 : Int32) (x5 : Int32), r32 I x1 x2 x3 x4 x5 = some rv → AM p l e R s m args below meth c E B lay.length (ax_z lay) 7 (some (.int rv)) lay I J lay I J 32 [(0, .ref (B + 0)), (1, .int x1), (2, .int x2), (3, .int x3), (4, .int x4), (5, .int x5)] []) : ∀ (I : ax_I) (x1 : Int32) (x2 : Int32) (x3 : Int32) (x4 : Int32) (x5 : Int32), f_X6_fewest_79 r32 I x1 x2 x3 x4 x5 = some rv → AM p l e R s m args below meth c E B lay.length (ax_z lay) 7 (some (.int rv)) lay I J lay I J 79 [(0, .ref (B + 0)), (1, .int x1), (2, .int x2), (3, .int x3), (4, .int x4), (5, .int x5)] [] := by
  obtain ⟨hx, hb, hr, hml, hown, hts, hlocks, hK, hfr, hlo, hmc, hms, hnm⟩ := id C
  have hown : s.vm.findClass RX6 = some m.cls := hown
  intro I x1 x2 x3 x4 x5 h H locs cells slots ls hc hz hR hS hl
  unfold f_X6_fewest_79 at h
  refine lv_iinc (v := (x5 + 1)) (lv' := [(5, .int (x5 + 1)), (0, .ref (B + 0)), (1, .int x1), (2, .int x2), (3, .int x3), (4, .int x4)]) hx hb dX6_fewest_79 hl (k := 5) rfl rfl (by decide) rfl (fun ls hl => ?_)
  refine lv_goto (tgt := 32) hx hb dX6_fewest_82 (by decide) ?_
  exact hr32 _ _ _ _ _ _ h H locs cells slots ls hc hz hR hS (lv_sub hl [1, 2, 3, 4, 5, 0] rfl)
set_option maxRecDepth 100000 in
set_option maxHeartbeats 4000000 in
theorem t_X6_fewest_32 {lay : List ax_S} {J : ax_J} {rv : Int32} (hL : ax_LL B lay) (C : ax_C p R s m args meth c yX6_fewest cX6_fewest 7 (some .int) 4 E mc ms) : ∀ (n : Nat) (I : ax_I) (x1 : Int32) (x2 : Int32) (x3 : Int32) (x4 : Int32) (x5 : Int32), f_X6_fewest_32 n I x1 x2 x3 x4 x5 = some rv → AM p l e R s m args below meth c E B lay.length (ax_z lay) 7 (some (.int rv)) lay I J lay I J 32 [(0, .ref (B + 0)), (1, .int x1), (2, .int x2), (3, .int x3), (4, .int x4), (5, .int x5)] [] := by
  obtain ⟨hx, hb, hr, hml, hown, hts, hlocks, hK, hfr, hlo, hmc, hms, hnm⟩ := id C
  have hown : s.vm.findClass RX6 = some m.cls := hown
  intro n
  induction n with
  | zero => intro I x1 x2 x3 x4 x5 h; cases h
  | succ n ih =>
    intro I x1 x2 x3 x4 x5 h H locs cells slots ls hc hz hR hS hl
    rw [f_X6_fewest_32] at h
    refine lv_iload hx hb dX6_fewest_32 (lv_at hl 5 rfl) ?_
    refine lv_sipush (v := 256) hx hb dX6_fewest_34 (by decide) ?_
    refine lv_icmp_ge (tgt := 85) hx hb dX6_fewest_37 (by decide) (fun q => ?_) (fun q => ?_)
    · have h := ax_ip q h
      refine lv_iload_n hx hb dX6_fewest_85 rfl (lv_at hl 3 rfl) ?_
      refine lv_bipush (v := 8) hx hb dX6_fewest_86 (by decide) ?_
      refine lv_icmp_le (tgt := 94) hx hb dX6_fewest_88 (by decide) (fun q => ?_) (fun q => ?_)
      · have h := ax_ip q h
        refine lv_iload_n hx hb dX6_fewest_94 rfl (lv_at hl 2 rfl) ?_
        refine lv_if_ne (tgt := 102) hx hb dX6_fewest_95 (by decide) (fun q => ?_) (fun q => ?_)
        · have h := ax_iN q h
          refine lv_iload hx hb dX6_fewest_102 (lv_at hl 4 rfl) ?_
          cases h
          exact ax_iret C hc hz hR hS rfl rfl dX6_fewest_104
        · have h := ax_ip q h
          refine lv_iload_n hx hb dX6_fewest_98 rfl (lv_at hl 3 rfl) ?_
          refine lv_goto (tgt := 104) hx hb dX6_fewest_99 (by decide) ?_
          cases h
          exact ax_iret C hc hz hR hS rfl rfl dX6_fewest_104
      · have h := ax_iN q h
        refine lv_bipush (v := (-6)) hx hb dX6_fewest_91 (by decide) ?_
        cases h
        exact ax_iret C hc hz hR hS rfl rfl dX6_fewest_93
    · have h := ax_iN q h
      refine lv_iload hx hb dX6_fewest_40 (lv_at hl 5 rfl) ?_
      obtain ⟨q42, hq, h⟩ := ax_bd h
      refine ax_cS (rest := []) (st1 := [.int q42]) C hc hz hS hR (M_J6_bitCount_0f7a4  hq) yk_J6_bitCount_0f7a4 st_J6_bitCount_0f7a4 ml_X6_70 (by decide) rfl hl.1 (Nat.le_of_ble_eq_true rfl) rfl rfl dX6_fewest_42 (fun H locs hR hS => ?_)
      refine lv_istore (lv' := [(6, .int q42), (0, .ref (B + 0)), (1, .int x1), (2, .int x2), (3, .int x3), (4, .int x4), (5, .int x5)]) hx hb dX6_fewest_45 hl (by decide) rfl (fun ls hl => ?_)
      refine lv_iload hx hb dX6_fewest_47 (lv_at hl 0 rfl) ?_
      refine lv_iload_n hx hb dX6_fewest_49 rfl (lv_at hl 4 rfl) ?_
      refine lv_icmp_ge (tgt := 79) hx hb dX6_fewest_50 (by decide) (fun q => ?_) (fun q => ?_)
      · have h := ax_ip q h
        exact t_X6_fewest_79 hL C ih _ _ _ _ _ _ h H locs cells slots ls hc hz hR hS (lv_sub hl [1, 2, 3, 4, 5, 6] rfl)
      · have h := ax_iN q h
        refine lv_iload_n hx hb dX6_fewest_53 rfl (lv_at hl 2 rfl) ?_
        refine lv_iload hx hb dX6_fewest_54 (lv_at hl 6 rfl) ?_
        refine lv_aload_n hx hb dX6_fewest_56 rfl (lv_at hl 1 rfl) ?_
        refine ax_getV hx hb hts hown hK hR fl_X6_10 (lk_0 hL) rfl dX6_fewest_57 ?_
        refine ax_getV hx hb hts hown hK hR fl_X6_100 (lk_1 hL) rfl dX6_fewest_60 ?_
        obtain ⟨q63, hq, h⟩ := ax_bd h
        refine ax_cS (rest := [.int x1]) (st1 := [.int q63, .int x1]) C hc hz hS hR (M_X6_unionOver (lk_11 hL) hq) yk_X6_unionOver st_X6_unionOver ml_X6_189 (by decide) rfl hl.1 (Nat.le_of_ble_eq_true rfl) rfl rfl dX6_fewest_63 (fun H locs hR hS => ?_)
        refine lv_iconst (v := (-1)) hx hb dX6_fewest_66 (by decide) ?_
        refine lv_ixor hx hb dX6_fewest_67 ?_
        refine lv_iand hx hb dX6_fewest_68 ?_
        refine lv_if_ne (tgt := 79) hx hb dX6_fewest_69 (by decide) (fun q => ?_) (fun q => ?_)
        · have h := ax_iN q h
          exact t_X6_fewest_79 hL C ih _ _ _ _ _ _ h H locs cells slots ls hc hz hR hS (lv_sub hl [1, 2, 3, 4, 5, 6] rfl)
        · have h := ax_ip q h
          refine lv_iload hx hb dX6_fewest_72 (lv_at hl 0 rfl) ?_
          refine lv_istore_n (lv' := [(3, .int q42), (6, .int q42), (0, .ref (B + 0)), (1, .int x1), (2, .int x2), (4, .int x4), (5, .int x5)]) hx hb dX6_fewest_74 rfl hl (by decide) rfl (fun ls hl => ?_)
          refine lv_iload hx hb dX6_fewest_75 (lv_at hl 6 rfl) ?_
          refine lv_istore (lv' := [(4, .int x5), (3, .int q42), (6, .int q42), (0, .ref (B + 0)), (1, .int x1), (2, .int x2), (5, .int x5)]) hx hb dX6_fewest_77 hl (by decide) rfl (fun ls hl => ?_)
          exact t_X6_fewest_79 hL C ih _ _ _ _ _ _ h H locs cells slots ls hc hz hR hS (lv_sub hl [3, 4, 5, 1, 0, 6] rfl)
set_option maxRecDepth 100000 in
set_option maxHeartbeats 4000000 in
theorem t_X6_fewest_0 {lay : List ax_S} {J : ax_J} {rv : Int32} (hL : ax_LL B lay) (C : ax_C p R s m args meth c yX6_fewest cX6_fewest 7 (some .int) 4 E mc ms) : ∀ (I : ax_I) (x1 : Int32) (x2 : Int32), F_X6_fewest I x1 x2 = some rv → AM p l e R s m args below meth c E B lay.length (ax_z lay) 7 (some (.int rv)) lay I J lay I J 0 [(0, .ref (B + 0)), (1, .int x1), (2, .int x2)] [] := by
  obtain ⟨hx, hb, hr, hml, hown, hts, hlocks, hK, hfr, hlo, hmc, hms, hnm⟩ := id C
  have hown : s.vm.findClass RX6 = some m.cls := hown
  intro I x1 x2 h H locs cells slots ls hc hz hR hS hl
  unfold F_X6_fewest at h
  refine lv_iload_n hx hb dX6_fewest_0 rfl (lv_at hl 1 rfl) ?_
  refine lv_iconst (v := 0) hx hb dX6_fewest_1 (by decide) ?_
  refine lv_sipush (v := 1023) hx hb dX6_fewest_2 (by decide) ?_
  obtain ⟨q5, hq, h⟩ := ax_bd h
  refine ax_cS (rest := []) (st1 := [.int q5]) C hc hz hS hR (M_X6_within  hq) yk_X6_within st_X6_within ml_X6_58 (by decide) rfl hl.1 (Nat.le_of_ble_eq_true rfl) rfl rfl dX6_fewest_5 (fun H locs hR hS => ?_)
  refine lv_if_eq (tgt := 20) hx hb dX6_fewest_8 (by decide) (fun q => ?_) (fun q => ?_)
  · have h := ax_ip q h
    refine lv_bipush (v := (-2)) hx hb dX6_fewest_20 (by decide) ?_
    cases h
    exact ax_iret C hc hz hR hS rfl rfl dX6_fewest_22
  · have h := ax_iN q h
    refine lv_iload_n hx hb dX6_fewest_11 rfl (lv_at hl 2 rfl) ?_
    refine lv_iconst (v := 0) hx hb dX6_fewest_12 (by decide) ?_
    refine lv_iconst (v := 1) hx hb dX6_fewest_13 (by decide) ?_
    obtain ⟨q14, hq, h⟩ := ax_bd h
    refine ax_cS (rest := []) (st1 := [.int q14]) C hc hz hS hR (M_X6_within  hq) yk_X6_within st_X6_within ml_X6_58 (by decide) rfl hl.1 (Nat.le_of_ble_eq_true rfl) rfl rfl dX6_fewest_14 (fun H locs hR hS => ?_)
    refine lv_if_ne (tgt := 23) hx hb dX6_fewest_17 (by decide) (fun q => ?_) (fun q => ?_)
    · have h := ax_iN q h
      refine lv_bipush (v := 9) hx hb dX6_fewest_23 (by decide) ?_
      refine lv_istore_n (lv' := [(3, .int 9), (0, .ref (B + 0)), (1, .int x1), (2, .int x2)]) hx hb dX6_fewest_25 rfl hl (by decide) rfl (fun ls hl => ?_)
      refine lv_iconst (v := 0) hx hb dX6_fewest_26 (by decide) ?_
      refine lv_istore (lv' := [(4, .int 0), (3, .int 9), (0, .ref (B + 0)), (1, .int x1), (2, .int x2)]) hx hb dX6_fewest_27 hl (by decide) rfl (fun ls hl => ?_)
      refine lv_iconst (v := 0) hx hb dX6_fewest_29 (by decide) ?_
      refine lv_istore (lv' := [(5, .int 0), (4, .int 0), (3, .int 9), (0, .ref (B + 0)), (1, .int x1), (2, .int x2)]) hx hb dX6_fewest_30 hl (by decide) rfl (fun ls hl => ?_)
      exact t_X6_fewest_32 hL C  ax_N _ _ _ _ _ _ h H locs cells slots ls hc hz hR hS (lv_sub hl [3, 4, 5, 2, 1, 0] rfl)
    · have h := ax_ip q h
      refine lv_bipush (v := (-2)) hx hb dX6_fewest_20 (by decide) ?_
      cases h
      exact ax_iret C hc hz hR hS rfl rfl dX6_fewest_22
theorem M_X6_fewest {l : Launch} {E : ax_E} {B : Nat} {lay : List ax_S} {I : ax_I} {J : ax_J} {x1 : Int32} {x2 : Int32} {rv : Int32} (hL : ax_LL B lay) (h : F_X6_fewest I x1 x2 = some rv) : Cm l yX6_fewest cX6_fewest 7 (some .int) 4 E B [.ref (B + 0), .int x1, .int x2] lay I J (some (.int rv)) lay I J :=
  ax_met (by decide) (Nat.le_of_ble_eq_true rfl) (fun p e R s m args below meth c C => t_X6_fewest_0 hL C _ _ _ h)
def f_X6_mostWithDays_55 (r5 : ax_I → Int32 → Int32 → Int32 → Int32 → Option (Int32)) (I : ax_I) (x1 : Int32) (x2 : Int32) (x3 : Int32) (x4 : Int32) : Option Int32 :=
  r5 I x1 x2 x3 (x4 + 1)
def f_X6_mostWithDays_5 : Nat → ax_I → Int32 → Int32 → Int32 → Int32 → Option Int32
  | 0, _, _, _, _, _ => none
  | n + 1, I, x1, x2, x3, x4 => if 64 ≤ x4 then (F_J6_bitCount_0f7a4 I x1).bind (fun q62 => some (q62 - x3)) else if (x4 &&& (x1 ^^^ (-1))) = 0 then (F_X6_unionOver I x4 8 6).bind (fun q30 => (F_J6_bitCount_0f7a4 I x4).bind (fun q42 => (F_J6_bitCount_0f7a4 I (q30 &&& (x2 ^^^ (-1)))).bind (fun q47 => f_X6_mostWithDays_55 (f_X6_mostWithDays_5 n) I x1 x2 (if x3 < (q42 - q47) then (q42 - q47) else x3) x4))) else f_X6_mostWithDays_55 (f_X6_mostWithDays_5 n) I x1 x2 x3 x4
def F_X6_mostWithDays (I : ax_I) (x1 : Int32) (x2 : Int32) : Option Int32 :=
  f_X6_mostWithDays_5 ax_N I x1 x2 0 0
set_option maxRecDepth 100000 in
set_option maxHeartbeats 4000000 in
theorem t_X6_mostWithDays_55 {lay : List ax_S} {J : ax_J} {rv : Int32} (hL : ax_LL B lay) (C : ax_C p R s m args meth c yX6_mostWithDays cX6_mostWithDays 6 (some .int) 4 E mc ms) {r5 : ax_I → Int32 → Int32 → Int32 → Int32 → Option (Int32)} (hr5 : ∀ (I : ax_I) (x1 : Int32) (x2 : Int32) (x3 : Int32) (x4 : Int32), r5 I x1 x2 x3 x4 = some rv → AM p l e R s m args below meth c E B lay.length (ax_z lay) 6 (some (.int rv)) lay I J lay I J 5 [(0, .ref (B + 0)), (1, .int x1), (2, .int x2), (3, .int x3), (4, .int x4)] []) : ∀ (I : ax_I) (x1 : Int32) (x2 : Int32) (x3 : Int32) (x4 : Int32), f_X6_mostWithDays_55 r5 I x1 x2 x3 x4 = some rv → AM p l e R s m args below meth c E B lay.length (ax_z lay) 6 (some (.int rv)) lay I J lay I J 55 [(0, .ref (B + 0)), (1, .int x1), (2, .int x2), (3, .int x3), (4, .int x4)] [] := by
  obtain ⟨hx, hb, hr, hml, hown, hts, hlocks, hK, hfr, hlo, hmc, hms, hnm⟩ := id C
  have hown : s.vm.findClass RX6 = some m.cls := hown
  intro I x1 x2 x3 x4 h H locs cells slots ls hc hz hR hS hl
  unfold f_X6_mostWithDays_55 at h
  refine lv_iinc (v := (x4 + 1)) (lv' := [(4, .int (x4 + 1)), (0, .ref (B + 0)), (1, .int x1), (2, .int x2), (3, .int x3)]) hx hb dX6_mostWithDays_55 hl (k := 4) rfl rfl (by decide) rfl (fun ls hl => ?_)
  refine lv_goto (tgt := 5) hx hb dX6_mostWithDays_58 (by decide) ?_
  exact hr5 _ _ _ _ _ h H locs cells slots ls hc hz hR hS (lv_sub hl [1, 2, 3, 4, 0] rfl)
set_option maxRecDepth 100000 in
set_option maxHeartbeats 4000000 in
theorem t_X6_mostWithDays_5 {lay : List ax_S} {J : ax_J} {rv : Int32} (hL : ax_LL B lay) (C : ax_C p R s m args meth c yX6_mostWithDays cX6_mostWithDays 6 (some .int) 4 E mc ms) : ∀ (n : Nat) (I : ax_I) (x1 : Int32) (x2 : Int32) (x3 : Int32) (x4 : Int32), f_X6_mostWithDays_5 n I x1 x2 x3 x4 = some rv → AM p l e R s m args below meth c E B lay.length (ax_z lay) 6 (some (.int rv)) lay I J lay I J 5 [(0, .ref (B + 0)), (1, .int x1), (2, .int x2), (3, .int x3), (4, .int x4)] [] := by
  obtain ⟨hx, hb, hr, hml, hown, hts, hlocks, hK, hfr, hlo, hmc, hms, hnm⟩ := id C
  have hown : s.vm.findClass RX6 = some m.cls := hown
  intro n
  induction n with
  | zero => intro I x1 x2 x3 x4 h; cases h
  | succ n ih =>
    intro I x1 x2 x3 x4 h H locs cells slots ls hc hz hR hS hl
    rw [f_X6_mostWithDays_5] at h
    refine lv_iload hx hb dX6_mostWithDays_5 (lv_at hl 4 rfl) ?_
    refine lv_bipush (v := 64) hx hb dX6_mostWithDays_7 (by decide) ?_
    refine lv_icmp_ge (tgt := 61) hx hb dX6_mostWithDays_9 (by decide) (fun q => ?_) (fun q => ?_)
    · have h := ax_ip q h
      refine lv_iload_n hx hb dX6_mostWithDays_61 rfl (lv_at hl 1 rfl) ?_
      obtain ⟨q62, hq, h⟩ := ax_bd h
      refine ax_cS (rest := []) (st1 := [.int q62]) C hc hz hS hR (M_J6_bitCount_0f7a4  hq) yk_J6_bitCount_0f7a4 st_J6_bitCount_0f7a4 ml_X6_70 (by decide) rfl hl.1 (Nat.le_of_ble_eq_true rfl) rfl rfl dX6_mostWithDays_62 (fun H locs hR hS => ?_)
      refine lv_iload_n hx hb dX6_mostWithDays_65 rfl (lv_at hl 3 rfl) ?_
      refine lv_isub hx hb dX6_mostWithDays_66 ?_
      cases h
      exact ax_iret C hc hz hR hS rfl rfl dX6_mostWithDays_67
    · have h := ax_iN q h
      refine lv_iload hx hb dX6_mostWithDays_12 (lv_at hl 4 rfl) ?_
      refine lv_iload_n hx hb dX6_mostWithDays_14 rfl (lv_at hl 1 rfl) ?_
      refine lv_iconst (v := (-1)) hx hb dX6_mostWithDays_15 (by decide) ?_
      refine lv_ixor hx hb dX6_mostWithDays_16 ?_
      refine lv_iand hx hb dX6_mostWithDays_17 ?_
      refine lv_if_ne (tgt := 55) hx hb dX6_mostWithDays_18 (by decide) (fun q => ?_) (fun q => ?_)
      · have h := ax_iN q h
        exact t_X6_mostWithDays_55 hL C ih _ _ _ _ _ h H locs cells slots ls hc hz hR hS (lv_sub hl [0, 1, 2, 3, 4] rfl)
      · have h := ax_ip q h
        refine lv_iload hx hb dX6_mostWithDays_21 (lv_at hl 4 rfl) ?_
        refine lv_aload_n hx hb dX6_mostWithDays_23 rfl (lv_at hl 0 rfl) ?_
        refine ax_getV hx hb hts hown hK hR fl_X6_10 (lk_0 hL) rfl dX6_mostWithDays_24 ?_
        refine ax_getV hx hb hts hown hK hR fl_X6_91 (lk_1 hL) rfl dX6_mostWithDays_27 ?_
        obtain ⟨q30, hq, h⟩ := ax_bd h
        refine ax_cS (rest := []) (st1 := [.int q30]) C hc hz hS hR (M_X6_unionOver (lk_8 hL) hq) yk_X6_unionOver st_X6_unionOver ml_X6_189 (by decide) rfl hl.1 (Nat.le_of_ble_eq_true rfl) rfl rfl dX6_mostWithDays_30 (fun H locs hR hS => ?_)
        refine lv_iload_n hx hb dX6_mostWithDays_33 rfl (lv_at hl 2 rfl) ?_
        refine lv_iconst (v := (-1)) hx hb dX6_mostWithDays_34 (by decide) ?_
        refine lv_ixor hx hb dX6_mostWithDays_35 ?_
        refine lv_iand hx hb dX6_mostWithDays_36 ?_
        refine lv_istore (lv' := [(5, .int (q30 &&& (x2 ^^^ (-1)))), (0, .ref (B + 0)), (1, .int x1), (2, .int x2), (3, .int x3), (4, .int x4)]) hx hb dX6_mostWithDays_37 hl (by decide) rfl (fun ls hl => ?_)
        refine lv_iload_n hx hb dX6_mostWithDays_39 rfl (lv_at hl 4 rfl) ?_
        refine lv_iload hx hb dX6_mostWithDays_40 (lv_at hl 5 rfl) ?_
        obtain ⟨q42, hq, h⟩ := ax_bd h
        refine ax_cS (rest := [.int x3]) (st1 := [.int q42, .int x3]) C hc hz hS hR (M_J6_bitCount_0f7a4  hq) yk_J6_bitCount_0f7a4 st_J6_bitCount_0f7a4 ml_X6_70 (by decide) rfl hl.1 (Nat.le_of_ble_eq_true rfl) rfl rfl dX6_mostWithDays_42 (fun H locs hR hS => ?_)
        refine lv_iload hx hb dX6_mostWithDays_45 (lv_at hl 0 rfl) ?_
        obtain ⟨q47, hq, h⟩ := ax_bd h
        refine ax_cS (rest := [.int q42, .int x3]) (st1 := [.int q47, .int q42, .int x3]) C hc hz hS hR (M_J6_bitCount_0f7a4  hq) yk_J6_bitCount_0f7a4 st_J6_bitCount_0f7a4 ml_X6_70 (by decide) rfl hl.1 (Nat.le_of_ble_eq_true rfl) rfl rfl dX6_mostWithDays_47 (fun H locs hR hS => ?_)
        refine lv_isub hx hb dX6_mostWithDays_50 ?_
        refine ax_max (rest := []) C hc hz ml_X6_161 (by decide) hl.1 (Nat.le_of_ble_eq_true rfl) dX6_mostWithDays_51 ?_
        refine lv_istore_n (lv' := [(3, .int (if x3 < (q42 - q47) then (q42 - q47) else x3)), (5, .int (q30 &&& (x2 ^^^ (-1)))), (0, .ref (B + 0)), (1, .int x1), (2, .int x2), (4, .int x4)]) hx hb dX6_mostWithDays_54 rfl hl (by decide) rfl (fun ls hl => ?_)
        exact t_X6_mostWithDays_55 hL C ih _ _ _ _ _ h H locs cells slots ls hc hz hR hS (lv_sub hl [2, 3, 4, 0, 5] rfl)
set_option maxRecDepth 100000 in
set_option maxHeartbeats 4000000 in
theorem t_X6_mostWithDays_0 {lay : List ax_S} {J : ax_J} {rv : Int32} (hL : ax_LL B lay) (C : ax_C p R s m args meth c yX6_mostWithDays cX6_mostWithDays 6 (some .int) 4 E mc ms) : ∀ (I : ax_I) (x1 : Int32) (x2 : Int32), F_X6_mostWithDays I x1 x2 = some rv → AM p l e R s m args below meth c E B lay.length (ax_z lay) 6 (some (.int rv)) lay I J lay I J 0 [(0, .ref (B + 0)), (1, .int x1), (2, .int x2)] [] := by
  obtain ⟨hx, hb, hr, hml, hown, hts, hlocks, hK, hfr, hlo, hmc, hms, hnm⟩ := id C
  have hown : s.vm.findClass RX6 = some m.cls := hown
  intro I x1 x2 h H locs cells slots ls hc hz hR hS hl
  unfold F_X6_mostWithDays at h
  refine lv_iconst (v := 0) hx hb dX6_mostWithDays_0 (by decide) ?_
  refine lv_istore_n (lv' := [(3, .int 0), (0, .ref (B + 0)), (1, .int x1), (2, .int x2)]) hx hb dX6_mostWithDays_1 rfl hl (by decide) rfl (fun ls hl => ?_)
  refine lv_iconst (v := 0) hx hb dX6_mostWithDays_2 (by decide) ?_
  refine lv_istore (lv' := [(4, .int 0), (3, .int 0), (0, .ref (B + 0)), (1, .int x1), (2, .int x2)]) hx hb dX6_mostWithDays_3 hl (by decide) rfl (fun ls hl => ?_)
  exact t_X6_mostWithDays_5 hL C  ax_N _ _ _ _ _ h H locs cells slots ls hc hz hR hS (lv_sub hl [2, 3, 4, 1, 0] rfl)
theorem M_X6_mostWithDays {l : Launch} {E : ax_E} {B : Nat} {lay : List ax_S} {I : ax_I} {J : ax_J} {x1 : Int32} {x2 : Int32} {rv : Int32} (hL : ax_LL B lay) (h : F_X6_mostWithDays I x1 x2 = some rv) : Cm l yX6_mostWithDays cX6_mostWithDays 6 (some .int) 4 E B [.ref (B + 0), .int x1, .int x2] lay I J (some (.int rv)) lay I J :=
  ax_met (by decide) (Nat.le_of_ble_eq_true rfl) (fun p e R s m args below meth c C => t_X6_mostWithDays_0 hL C _ _ _ h)
end GEN
