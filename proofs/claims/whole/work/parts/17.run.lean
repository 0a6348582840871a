section GEN
variable {p : Program} {l : Launch} {e : Env} {R : Room} {s : State} {m : MethodId} {args : Array Value} {below : List Frame} {meth : Method} {c : Code} {E : ax_E} {B mc ms : Nat}
def f_X7_endOf_78 (I : ax_I) (x7 : Int32) (s0 : Int32) : Option Int32 :=
  if x7 ≤ s0 then some s0 else some x7
def f_X7_endOf_53 (I : ax_I) (x2 : Int32) (x3 : Int32) (x4 : Int32) (x6 : Int32) (s0 : Int32) : Option Int32 :=
  if x6 ≤ 0 then f_X7_endOf_78 I s0 0 else (F_X7_at I (x2 + 1) x3 x4).bind (fun q70 => if ax_in q70 637 = true then f_X7_endOf_78 I s0 (I 58 q70.toNatClampNeg) else none)
def f_X7_endOf_143 (I : ax_I) (x7 : Int32) (s0 : Int32) : Option Int32 :=
  if s0 ≤ x7 then some s0 else some x7
def f_X7_endOf_142 (I : ax_I) (x7 : Int32) : Option Int32 :=
  f_X7_endOf_143 I x7 1
def F_X7_endOf (I : ax_I) (x1 : Int32) (x2 : Int32) (x3 : Int32) (x4 : Int32) : Option Int32 :=
  (F_X7_wondersAt I x1 x3 x4).bind (fun q5 => (F_X7_sinsAt I x1 x2 x3 x4).bind (fun q16 => if (x2 - x2 / 2 * 2) = 0 then (if 6 ≤ x3 then f_X7_endOf_53 I x2 x3 x4 q16 0 else (F_X7_at I (x2 + 1) (x3 + 1) x4).bind (fun q45 => if ax_in q45 637 = true then f_X7_endOf_53 I x2 x3 x4 q16 (I 58 q45.toNatClampNeg) else none)) else (F_X7_at I (x2 + 1) x3 x4).bind (fun q105 => if ax_in q105 637 = true then if q5 ≤ 0 then f_X7_endOf_142 I (I 58 q105.toNatClampNeg) else if 6 ≤ x4 then f_X7_endOf_142 I (I 58 q105.toNatClampNeg) else (F_X7_at I (x2 + 1) x3 (x4 + 1)).bind (fun q135 => if ax_in q135 637 = true then f_X7_endOf_143 I (I 58 q105.toNatClampNeg) (I 58 q135.toNatClampNeg) else none) else none)))
set_option maxRecDepth 100000 in
set_option maxHeartbeats 4000000 in
theorem t_X7_endOf_78 {lay : List ax_S} {J : ax_J} {rv : Int32} (hL : ax_LL B lay) (C : ax_C p R s m args meth c yX7_endOf cX7_endOf 9 (some .int) 4 E mc ms) : ∀ (I : ax_I) (x7 : Int32) (s0 : Int32), f_X7_endOf_78 I x7 s0 = some rv → AM p l e R s m args below meth c E B lay.length (ax_z lay) 9 (some (.int rv)) lay I J lay I J 78 [(7, .int x7)] [.int s0] := by
  obtain ⟨hx, hb, hr, hml, hown, hts, hlocks, hK, hfr, hlo, hmc, hms, hnm⟩ := id C
  have hown : s.vm.findClass RX7 = some m.cls := hown
  intro I x7 s0 h H locs cells slots ls hc hz hR hS hl
  unfold f_X7_endOf_78 at h
  refine lv_istore (lv' := [(8, .int s0), (7, .int x7)]) hx hb dX7_endOf_78 hl (by decide) rfl (fun ls hl => ?_)
  refine lv_iload hx hb dX7_endOf_80 (lv_at hl 1 rfl) ?_
  refine lv_iload hx hb dX7_endOf_82 (lv_at hl 0 rfl) ?_
  refine lv_icmp_le (tgt := 92) hx hb dX7_endOf_84 (by decide) (fun q => ?_) (fun q => ?_)
  · have h := ax_ip q h
    refine lv_iload hx hb dX7_endOf_92 (lv_at hl 0 rfl) ?_
    cases h
    exact ax_iret C hc hz hR hS rfl rfl dX7_endOf_94
  · have h := ax_iN q h
    refine lv_iload hx hb dX7_endOf_87 (lv_at hl 1 rfl) ?_
    refine lv_goto (tgt := 94) hx hb dX7_endOf_89 (by decide) ?_
    cases h
    exact ax_iret C hc hz hR hS rfl rfl dX7_endOf_94
set_option maxRecDepth 100000 in
set_option maxHeartbeats 4000000 in
theorem t_X7_endOf_53 {lay : List ax_S} {J : ax_J} {rv : Int32} (hL : ax_LL B lay) (C : ax_C p R s m args meth c yX7_endOf cX7_endOf 9 (some .int) 4 E mc ms) : ∀ (I : ax_I) (x2 : Int32) (x3 : Int32) (x4 : Int32) (x6 : Int32) (s0 : Int32), f_X7_endOf_53 I x2 x3 x4 x6 s0 = some rv → AM p l e R s m args below meth c E B lay.length (ax_z lay) 9 (some (.int rv)) lay I J lay I J 53 [(0, .ref (B + 35)), (2, .int x2), (3, .int x3), (4, .int x4), (6, .int x6)] [.int s0] := by
  obtain ⟨hx, hb, hr, hml, hown, hts, hlocks, hK, hfr, hlo, hmc, hms, hnm⟩ := id C
  have hown : s.vm.findClass RX7 = some m.cls := hown
  intro I x2 x3 x4 x6 s0 h H locs cells slots ls hc hz hR hS hl
  unfold f_X7_endOf_53 at h
  refine lv_istore (lv' := [(7, .int s0), (0, .ref (B + 35)), (2, .int x2), (3, .int x3), (4, .int x4), (6, .int x6)]) hx hb dX7_endOf_53 hl (by decide) rfl (fun ls hl => ?_)
  refine lv_iload hx hb dX7_endOf_55 (lv_at hl 5 rfl) ?_
  refine lv_if_le (tgt := 77) hx hb dX7_endOf_57 (by decide) (fun q => ?_) (fun q => ?_)
  · have h := ax_ip q h
    refine lv_iconst (v := 0) hx hb dX7_endOf_77 (by decide) ?_
    exact t_X7_endOf_78 hL C  _ _ _ h H locs cells slots ls hc hz hR hS (lv_sub hl [0] rfl)
  · have h := ax_iN q h
    refine lv_aload_n hx hb dX7_endOf_60 rfl (lv_at hl 1 rfl) ?_
    refine ax_getV hx hb hts hown hK hR fl_X7_77 (lk_35 hL) rfl dX7_endOf_61 ?_
    refine lv_iload_n hx hb dX7_endOf_64 rfl (lv_at hl 2 rfl) ?_
    refine lv_iconst (v := 1) hx hb dX7_endOf_65 (by decide) ?_
    refine lv_iadd hx hb dX7_endOf_66 ?_
    refine lv_iload_n hx hb dX7_endOf_67 rfl (lv_at hl 3 rfl) ?_
    refine lv_iload hx hb dX7_endOf_68 (lv_at hl 4 rfl) ?_
    obtain ⟨q70, hq, h⟩ := ax_bd h
    refine ax_cS (rest := [.ref (B + 58)]) (st1 := [.int q70, .ref (B + 58)]) C hc hz hS hR (M_X7_at  hq) yk_X7_at st_X7_at ml_X7_274 (by decide) rfl hl.1 (Nat.le_of_ble_eq_true rfl) rfl rfl dX7_endOf_70 (fun H locs hR hS => ?_)
    obtain ⟨hq, h⟩ := ax_ck h
    refine ax_iald hx hb hK hR (lk_58 hL) hq dX7_endOf_73 ?_
    refine lv_goto (tgt := 78) hx hb dX7_endOf_74 (by decide) ?_
    exact t_X7_endOf_78 hL C  _ _ _ h H locs cells slots ls hc hz hR hS (lv_sub hl [0] rfl)
set_option maxRecDepth 100000 in
set_option maxHeartbeats 4000000 in
theorem t_X7_endOf_143 {lay : List ax_S} {J : ax_J} {rv : Int32} (hL : ax_LL B lay) (C : ax_C p R s m args meth c yX7_endOf cX7_endOf 9 (some .int) 4 E mc ms) : ∀ (I : ax_I) (x7 : Int32) (s0 : Int32), f_X7_endOf_143 I x7 s0 = some rv → AM p l e R s m args below meth c E B lay.length (ax_z lay) 9 (some (.int rv)) lay I J lay I J 143 [(7, .int x7)] [.int s0] := by
  obtain ⟨hx, hb, hr, hml, hown, hts, hlocks, hK, hfr, hlo, hmc, hms, hnm⟩ := id C
  have hown : s.vm.findClass RX7 = some m.cls := hown
  intro I x7 s0 h H locs cells slots ls hc hz hR hS hl
  unfold f_X7_endOf_143 at h
  refine lv_istore (lv' := [(8, .int s0), (7, .int x7)]) hx hb dX7_endOf_143 hl (by decide) rfl (fun ls hl => ?_)
  refine lv_iload hx hb dX7_endOf_145 (lv_at hl 1 rfl) ?_
  refine lv_iload hx hb dX7_endOf_147 (lv_at hl 0 rfl) ?_
  refine lv_icmp_ge (tgt := 157) hx hb dX7_endOf_149 (by decide) (fun q => ?_) (fun q => ?_)
  · have h := ax_ip q h
    refine lv_iload hx hb dX7_endOf_157 (lv_at hl 0 rfl) ?_
    cases h
    exact ax_iret C hc hz hR hS rfl rfl dX7_endOf_159
  · have h := ax_iN q h
    refine lv_iload hx hb dX7_endOf_152 (lv_at hl 1 rfl) ?_
    refine lv_goto (tgt := 159) hx hb dX7_endOf_154 (by decide) ?_
    cases h
    exact ax_iret C hc hz hR hS rfl rfl dX7_endOf_159
set_option maxRecDepth 100000 in
set_option maxHeartbeats 4000000 in
theorem t_X7_endOf_142 {lay : List ax_S} {J : ax_J} {rv : Int32} (hL : ax_LL B lay) (C : ax_C p R s m args meth c yX7_endOf cX7_endOf 9 (some .int) 4 E mc ms) : ∀ (I : ax_I) (x7 : Int32), f_X7_endOf_142 I x7 = some rv → AM p l e R s m args below meth c E B lay.length (ax_z lay) 9 (some (.int rv)) lay I J lay I J 142 [(7, .int x7)] [] := by
  obtain ⟨hx, hb, hr, hml, hown, hts, hlocks, hK, hfr, hlo, hmc, hms, hnm⟩ := id C
  have hown : s.vm.findClass RX7 = some m.cls := hown
  intro I x7 h H locs cells slots ls hc hz hR hS hl
  unfold f_X7_endOf_142 at h
  refine lv_iconst (v := 1) hx hb dX7_endOf_142 (by decide) ?_
  exact t_X7_endOf_143 hL C  _ _ _ h H locs cells slots ls hc hz hR hS (lv_sub hl [0] rfl)
set_option maxRecDepth 100000 in
set_option maxHeartbeats 4000000 in
theorem t_X7_endOf_0 {lay : List ax_S} {J : ax_J} {rv : Int32} (hL : ax_LL B lay) (C : ax_C p R s m args meth c yX7_endOf cX7_endOf 9 (some .int) 4 E mc ms) : ∀ (I : ax_I) (x1 : Int32) (x2 : Int32) (x3 : Int32) (x4 : Int32), F_X7_endOf I x1 x2 x3 x4 = some rv → AM p l e R s m args below meth c E B lay.length (ax_z lay) 9 (some (.int rv)) lay I J lay I J 0 [(0, .ref (B + 35)), (1, .int x1), (2, .int x2), (3, .int x3), (4, .int x4)] [] := by
  obtain ⟨hx, hb, hr, hml, hown, hts, hlocks, hK, hfr, hlo, hmc, hms, hnm⟩ := id C
  have hown : s.vm.findClass RX7 = some m.cls := hown
  intro I x1 x2 x3 x4 h H locs cells slots ls hc hz hR hS hl
  unfold F_X7_endOf at h
  refine lv_aload_n hx hb dX7_endOf_0 rfl (lv_at hl 0 rfl) ?_
  refine lv_iload_n hx hb dX7_endOf_1 rfl (lv_at hl 1 rfl) ?_
  refine lv_iload_n hx hb dX7_endOf_2 rfl (lv_at hl 3 rfl) ?_
  refine lv_iload hx hb dX7_endOf_3 (lv_at hl 4 rfl) ?_
  obtain ⟨q5, hq, h⟩ := ax_bd h
  refine ax_cV (rest := []) (st1 := [.int q5]) C hc hz hS hR (M_X7_wondersAt hL hq) yk_X7_wondersAt in_X7_wondersAt se_X7_wondersAt ml_X7_268 (lk_35 hL) rfl rfl (by decide) rfl hl.1 (Nat.le_of_ble_eq_true rfl) rfl rfl dX7_endOf_5 (fun H locs hR hS => ?_)
  refine lv_istore (lv' := [(5, .int q5), (0, .ref (B + 35)), (1, .int x1), (2, .int x2), (3, .int x3), (4, .int x4)]) hx hb dX7_endOf_8 hl (by decide) rfl (fun ls hl => ?_)
  refine lv_aload_n hx hb dX7_endOf_10 rfl (lv_at hl 1 rfl) ?_
  refine lv_iload_n hx hb dX7_endOf_11 rfl (lv_at hl 2 rfl) ?_
  refine lv_iload_n hx hb dX7_endOf_12 rfl (lv_at hl 3 rfl) ?_
  refine lv_iload_n hx hb dX7_endOf_13 rfl (lv_at hl 4 rfl) ?_
  refine lv_iload hx hb dX7_endOf_14 (lv_at hl 5 rfl) ?_
  obtain ⟨q16, hq, h⟩ := ax_bd h
  refine ax_cV (rest := []) (st1 := [.int q16]) C hc hz hS hR (M_X7_sinsAt hL hq) yk_X7_sinsAt in_X7_sinsAt se_X7_sinsAt ml_X7_271 (lk_35 hL) rfl rfl (by decide) rfl hl.1 (Nat.le_of_ble_eq_true rfl) rfl rfl dX7_endOf_16 (fun H locs hR hS => ?_)
  refine lv_istore (lv' := [(6, .int q16), (5, .int q5), (0, .ref (B + 35)), (1, .int x1), (2, .int x2), (3, .int x3), (4, .int x4)]) hx hb dX7_endOf_19 hl (by decide) rfl (fun ls hl => ?_)
  refine lv_iload_n hx hb dX7_endOf_21 rfl (lv_at hl 4 rfl) ?_
  refine lv_iconst (v := 2) hx hb dX7_endOf_22 (by decide) ?_
  refine lv_irem hx hb dX7_endOf_23 (by decide) ?_
  refine lv_if_ne (tgt := 95) hx hb dX7_endOf_24 (by decide) (fun q => ?_) (fun q => ?_)
  · have h := ax_iN q h
    refine lv_aload_n hx hb dX7_endOf_95 rfl (lv_at hl 2 rfl) ?_
    refine ax_getV hx hb hts hown hK hR fl_X7_77 (lk_35 hL) rfl dX7_endOf_96 ?_
    refine lv_iload_n hx hb dX7_endOf_99 rfl (lv_at hl 4 rfl) ?_
    refine lv_iconst (v := 1) hx hb dX7_endOf_100 (by decide) ?_
    refine lv_iadd hx hb dX7_endOf_101 ?_
    refine lv_iload_n hx hb dX7_endOf_102 rfl (lv_at hl 5 rfl) ?_
    refine lv_iload hx hb dX7_endOf_103 (lv_at hl 6 rfl) ?_
    obtain ⟨q105, hq, h⟩ := ax_bd h
    refine ax_cS (rest := [.ref (B + 58)]) (st1 := [.int q105, .ref (B + 58)]) C hc hz hS hR (M_X7_at  hq) yk_X7_at st_X7_at ml_X7_274 (by decide) rfl hl.1 (Nat.le_of_ble_eq_true rfl) rfl rfl dX7_endOf_105 (fun H locs hR hS => ?_)
    obtain ⟨hq, h⟩ := ax_ck h
    refine ax_iald hx hb hK hR (lk_58 hL) hq dX7_endOf_108 ?_
    refine lv_istore (lv' := [(7, .int (I 58 q105.toNatClampNeg)), (6, .int q16), (5, .int q5), (0, .ref (B + 35)), (1, .int x1), (2, .int x2), (3, .int x3), (4, .int x4)]) hx hb dX7_endOf_109 hl (by decide) rfl (fun ls hl => ?_)
    refine lv_iload hx hb dX7_endOf_111 (lv_at hl 2 rfl) ?_
    refine lv_if_le (tgt := 142) hx hb dX7_endOf_113 (by decide) (fun q => ?_) (fun q => ?_)
    · have h := ax_ip q h
      exact t_X7_endOf_142 hL C  _ _ h H locs cells slots ls hc hz hR hS (lv_sub hl [0] rfl)
    · have h := ax_iN q h
      refine lv_iload hx hb dX7_endOf_116 (lv_at hl 7 rfl) ?_
      refine lv_bipush (v := 6) hx hb dX7_endOf_118 (by decide) ?_
      refine lv_icmp_ge (tgt := 142) hx hb dX7_endOf_120 (by decide) (fun q => ?_) (fun q => ?_)
      · have h := ax_ip q h
        exact t_X7_endOf_142 hL C  _ _ h H locs cells slots ls hc hz hR hS (lv_sub hl [0] rfl)
      · have h := ax_iN q h
        refine lv_aload_n hx hb dX7_endOf_123 rfl (lv_at hl 3 rfl) ?_
        refine ax_getV hx hb hts hown hK hR fl_X7_77 (lk_35 hL) rfl dX7_endOf_124 ?_
        refine lv_iload_n hx hb dX7_endOf_127 rfl (lv_at hl 5 rfl) ?_
        refine lv_iconst (v := 1) hx hb dX7_endOf_128 (by decide) ?_
        refine lv_iadd hx hb dX7_endOf_129 ?_
        refine lv_iload_n hx hb dX7_endOf_130 rfl (lv_at hl 6 rfl) ?_
        refine lv_iload hx hb dX7_endOf_131 (lv_at hl 7 rfl) ?_
        refine lv_iconst (v := 1) hx hb dX7_endOf_133 (by decide) ?_
        refine lv_iadd hx hb dX7_endOf_134 ?_
        obtain ⟨q135, hq, h⟩ := ax_bd h
        refine ax_cS (rest := [.ref (B + 58)]) (st1 := [.int q135, .ref (B + 58)]) C hc hz hS hR (M_X7_at  hq) yk_X7_at st_X7_at ml_X7_274 (by decide) rfl hl.1 (Nat.le_of_ble_eq_true rfl) rfl rfl dX7_endOf_135 (fun H locs hR hS => ?_)
        obtain ⟨hq, h⟩ := ax_ck h
        refine ax_iald hx hb hK hR (lk_58 hL) hq dX7_endOf_138 ?_
        refine lv_goto (tgt := 143) hx hb dX7_endOf_139 (by decide) ?_
        exact t_X7_endOf_143 hL C  _ _ _ h H locs cells slots ls hc hz hR hS (lv_sub hl [0] rfl)
  · have h := ax_ip q h
    refine lv_iload_n hx hb dX7_endOf_27 rfl (lv_at hl 5 rfl) ?_
    refine lv_bipush (v := 6) hx hb dX7_endOf_28 (by decide) ?_
    refine lv_icmp_ge (tgt := 52) hx hb dX7_endOf_30 (by decide) (fun q => ?_) (fun q => ?_)
    · have h := ax_ip q h
      refine lv_iconst (v := 0) hx hb dX7_endOf_52 (by decide) ?_
      exact t_X7_endOf_53 hL C  _ _ _ _ _ _ h H locs cells slots ls hc hz hR hS (lv_sub hl [2, 4, 5, 6, 0] rfl)
    · have h := ax_iN q h
      refine lv_aload_n hx hb dX7_endOf_33 rfl (lv_at hl 2 rfl) ?_
      refine ax_getV hx hb hts hown hK hR fl_X7_77 (lk_35 hL) rfl dX7_endOf_34 ?_
      refine lv_iload_n hx hb dX7_endOf_37 rfl (lv_at hl 4 rfl) ?_
      refine lv_iconst (v := 1) hx hb dX7_endOf_38 (by decide) ?_
      refine lv_iadd hx hb dX7_endOf_39 ?_
      refine lv_iload_n hx hb dX7_endOf_40 rfl (lv_at hl 5 rfl) ?_
      refine lv_iconst (v := 1) hx hb dX7_endOf_41 (by decide) ?_
      refine lv_iadd hx hb dX7_endOf_42 ?_
      refine lv_iload hx hb dX7_endOf_43 (lv_at hl 6 rfl) ?_
      obtain ⟨q45, hq, h⟩ := ax_bd h
      refine ax_cS (rest := [.ref (B + 58)]) (st1 := [.int q45, .ref (B + 58)]) C hc hz hS hR (M_X7_at  hq) yk_X7_at st_X7_at ml_X7_274 (by decide) rfl hl.1 (Nat.le_of_ble_eq_true rfl) rfl rfl dX7_endOf_45 (fun H locs hR hS => ?_)
      obtain ⟨hq, h⟩ := ax_ck h
      refine ax_iald hx hb hK hR (lk_58 hL) hq dX7_endOf_48 ?_
      refine lv_goto (tgt := 53) hx hb dX7_endOf_49 (by decide) ?_
      exact t_X7_endOf_53 hL C  _ _ _ _ _ _ h H locs cells slots ls hc hz hR hS (lv_sub hl [2, 4, 5, 6, 0] rfl)
theorem M_X7_endOf {l : Launch} {E : ax_E} {B : Nat} {lay : List ax_S} {I : ax_I} {J : ax_J} {x1 : Int32} {x2 : Int32} {x3 : Int32} {x4 : Int32} {rv : Int32} (hL : ax_LL B lay) (h : F_X7_endOf I x1 x2 x3 x4 = some rv) : Cm l yX7_endOf cX7_endOf 9 (some .int) 4 E B [.ref (B + 35), .int x1, .int x2, .int x3, .int x4] lay I J (some (.int rv)) lay I J :=
  ax_met (by decide) (Nat.le_of_ble_eq_true rfl) (fun p e R s m args below meth c C => t_X7_endOf_0 hL C _ _ _ _ _ h)
def f_X7_findEnds_125 (r2 : ax_I → Int32 → Int32 → Int32 → Option (ax_I)) (r9 : ax_I → Int32 → Int32 → Int32 → Int32 → Option (ax_I)) (r19 : ax_I → Int32 → Int32 → Int32 → Int32 → Int32 → Option (ax_I)) (I : ax_I) (x1 : Int32) (x2 : Int32) (x3 : Int32) (x4 : Int32) (x5 : Int32) (s0 : Int32) (s1 : Int32) : Option ax_I :=
  if ax_in s1 637 = true then r19 (ax_u I 58 s1.toNatClampNeg s0) x1 x2 x3 x4 (x5 + 1) else none
def f_X7_findEnds_83 (r2 : ax_I → Int32 → Int32 → Int32 → Option (ax_I)) (r9 : ax_I → Int32 → Int32 → Int32 → Int32 → Option (ax_I)) (r19 : ax_I → Int32 → Int32 → Int32 → Int32 → Int32 → Option (ax_I)) (I : ax_I) (x1 : Int32) (x2 : Int32) (x3 : Int32) (x4 : Int32) (x5 : Int32) (s0 : Int32) : Option ax_I :=
  (F_X7_at I x3 x4 x5).bind (fun q94 => if x3 = x2 then (if s0 = 0 then f_X7_findEnds_125 r2 r9 r19 I x1 x2 x3 x4 x5 0 q94 else f_X7_findEnds_125 r2 r9 r19 I x1 x2 x3 x4 x5 1 q94) else (F_X7_endOf I x1 x3 x4 x5).bind (fun q122 => f_X7_findEnds_125 r2 r9 r19 I x1 x2 x3 x4 x5 q122 q94))
def f_X7_findEnds_82 (r2 : ax_I → Int32 → Int32 → Int32 → Option (ax_I)) (r9 : ax_I → Int32 → Int32 → Int32 → Int32 → Option (ax_I)) (r19 : ax_I → Int32 → Int32 → Int32 → Int32 → Int32 → Option (ax_I)) (I : ax_I) (x1 : Int32) (x2 : Int32) (x3 : Int32) (x4 : Int32) (x5 : Int32) : Option ax_I :=
  f_X7_findEnds_83 r2 r9 r19 I x1 x2 x3 x4 x5 0
def f_X7_findEnds_19 (r2 : ax_I → Int32 → Int32 → Int32 → Option (ax_I)) (r9 : ax_I → Int32 → Int32 → Int32 → Int32 → Option (ax_I)) : Nat → ax_I → Int32 → Int32 → Int32 → Int32 → Int32 → Option ax_I
  | 0, _, _, _, _, _, _ => none
  | n + 1, I, x1, x2, x3, x4, x5 => if 7 ≤ x5 then r9 I x1 x2 x3 (x4 + 1) else (F_X7_wondersAt I x1 x4 x5).bind (fun q32 => if q32 < (I 45 (0 : Int32).toNatClampNeg) then f_X7_findEnds_82 r2 r9 (f_X7_findEnds_19 r2 r9 n) I x1 x2 x3 x4 x5 else (F_X7_sinsAt I x1 x3 x4 x5).bind (fun q51 => if (I 45 (1 : Int32).toNatClampNeg) < q51 then f_X7_findEnds_82 r2 r9 (f_X7_findEnds_19 r2 r9 n) I x1 x2 x3 x4 x5 else if ax_in x1 6 = true then if (I 38 x1.toNatClampNeg) < (I 45 (2 : Int32).toNatClampNeg) then f_X7_findEnds_82 r2 r9 (f_X7_findEnds_19 r2 r9 n) I x1 x2 x3 x4 x5 else f_X7_findEnds_83 r2 r9 (f_X7_findEnds_19 r2 r9 n) I x1 x2 x3 x4 x5 1 else none))
def f_X7_findEnds_9 (r2 : ax_I → Int32 → Int32 → Int32 → Option (ax_I)) : Nat → ax_I → Int32 → Int32 → Int32 → Int32 → Option ax_I
  | 0, _, _, _, _, _ => none
  | n + 1, I, x1, x2, x3, x4 => if 7 ≤ x4 then r2 I x1 x2 (x3 + (-1)) else f_X7_findEnds_19 r2 (f_X7_findEnds_9 r2 n) ax_N I x1 x2 x3 x4 0
def f_X7_findEnds_2 : Nat → ax_I → Int32 → Int32 → Int32 → Option ax_I
  | 0, _, _, _, _ => none
  | n + 1, I, x1, x2, x3 => if x3 < 0 then some I else f_X7_findEnds_9 (f_X7_findEnds_2 n) ax_N I x1 x2 x3 0
def F_X7_findEnds (I : ax_I) (x1 : Int32) (x2 : Int32) : Option ax_I :=
  f_X7_findEnds_2 ax_N I x1 x2 x2
set_option maxRecDepth 100000 in
set_option maxHeartbeats 4000000 in
theorem t_X7_findEnds_125 {lay : List ax_S} {J : ax_J} {I9 : ax_I} (hL : ax_LL B lay) (C : ax_C p R s m args meth c yX7_findEnds cX7_findEnds 7 none 6 E mc ms) {r2 : ax_I → Int32 → Int32 → Int32 → Option (ax_I)} (hr2 : ∀ (I : ax_I) (x1 : Int32) (x2 : Int32) (x3 : Int32), r2 I x1 x2 x3 = some I9 → AM p l e R s m args below meth c E B lay.length (ax_z lay) 7 none lay I9 J lay I J 2 [(0, .ref (B + 35)), (1, .int x1), (2, .int x2), (3, .int x3)] []) {r9 : ax_I → Int32 → Int32 → Int32 → Int32 → Option (ax_I)} (hr9 : ∀ (I : ax_I) (x1 : Int32) (x2 : Int32) (x3 : Int32) (x4 : Int32), r9 I x1 x2 x3 x4 = some I9 → AM p l e R s m args below meth c E B lay.length (ax_z lay) 7 none lay I9 J lay I J 9 [(0, .ref (B + 35)), (1, .int x1), (2, .int x2), (3, .int x3), (4, .int x4)] []) {r19 : ax_I → Int32 → Int32 → Int32 → Int32 → Int32 → Option (ax_I)} (hr19 : ∀ (I : ax_I) (x1 : Int32) (x2 : Int32) (x3 : Int32) (x4 : Int32) (x5 : Int32), r19 I x1 x2 x3 x4 x5 = some I9 → AM p l e R s m args below meth c E B lay.length (ax_z lay) 7 none lay I9 J lay I J 19 [(0, .ref (B + 35)), (1, .int x1), (2, .int x2), (3, .int x3), (4, .int x4), (5, .int x5)] []) : ∀ (I : ax_I) (x1 : Int32) (x2 : Int32) (x3 : Int32) (x4 : Int32) (x5 : Int32) (s0 : Int32) (s1 : Int32), f_X7_findEnds_125 r2 r9 r19 I x1 x2 x3 x4 x5 s0 s1 = some I9 → AM p l e R s m args below meth c E B lay.length (ax_z lay) 7 none lay I9 J lay I J 125 [(0, .ref (B + 35)), (1, .int x1), (2, .int x2), (3, .int x3), (4, .int x4), (5, .int x5)] [.int s0, .int s1, .ref (B + 58)] := by
  obtain ⟨hx, hb, hr, hml, hown, hts, hlocks, hK, hfr, hlo, hmc, hms, hnm⟩ := id C
  have hown : s.vm.findClass RX7 = some m.cls := hown
  intro I x1 x2 x3 x4 x5 s0 s1 h H locs cells slots ls hc hz hR hS hl
  unfold f_X7_findEnds_125 at h
  obtain ⟨hq, h⟩ := ax_ck h
  refine ax_iast hx hb hK hR hS (lk_58 hL) hq dX7_findEnds_125 (fun H locs hR hS => ?_)
  refine lv_iinc (v := (x5 + 1)) (lv' := [(5, .int (x5 + 1)), (0, .ref (B + 35)), (1, .int x1), (2, .int x2), (3, .int x3), (4, .int x4)]) hx hb dX7_findEnds_126 hl (k := 5) rfl rfl (by decide) rfl (fun ls hl => ?_)
  refine lv_goto (tgt := 19) hx hb dX7_findEnds_129 (by decide) ?_
  exact hr19 _ _ _ _ _ _ h H locs cells slots ls hc hz hR hS (lv_sub hl [1, 2, 3, 4, 5, 0] rfl)
set_option maxRecDepth 100000 in
set_option maxHeartbeats 4000000 in
theorem t_X7_findEnds_83 {lay : List ax_S} {J : ax_J} {I9 : ax_I} (hL : ax_LL B lay) (C : ax_C p R s m args meth c yX7_findEnds cX7_findEnds 7 none 6 E mc ms) {r2 : ax_I → Int32 → Int32 → Int32 → Option (ax_I)} (hr2 : ∀ (I : ax_I) (x1 : Int32) (x2 : Int32) (x3 : Int32), r2 I x1 x2 x3 = some I9 → AM p l e R s m args below meth c E B lay.length (ax_z lay) 7 none lay I9 J lay I J 2 [(0, .ref (B + 35)), (1, .int x1), (2, .int x2), (3, .int x3)] []) {r9 : ax_I → Int32 → Int32 → Int32 → Int32 → Option (ax_I)} (hr9 : ∀ (I : ax_I) (x1 : Int32) (x2 : Int32) (x3 : Int32) (x4 : Int32), r9 I x1 x2 x3 x4 = some I9 → AM p l e R s m args below meth c E B lay.length (ax_z lay) 7 none lay I9 J lay I J 9 [(0, .ref (B + 35)), (1, .int x1), (2, .int x2), (3, .int x3), (4, .int x4)] []) {r19 : ax_I → Int32 → Int32 → Int32 → Int32 → Int32 → Option (ax_I)} (hr19 : ∀ (I : ax_I) (x1 : Int32) (x2 : Int32) (x3 : Int32) (x4 : Int32) (x5 : Int32), r19 I x1 x2 x3 x4 x5 = some I9 → AM p l e R s m args below meth c E B lay.length (ax_z lay) 7 none lay I9 J lay I J 19 [(0, .ref (B + 35)), (1, .int x1), (2, .int x2), (3, .int x3), (4, .int x4), (5, .int x5)] []) : ∀ (I : ax_I) (x1 : Int32) (x2 : Int32) (x3 : Int32) (x4 : Int32) (x5 : Int32) (s0 : Int32), f_X7_findEnds_83 r2 r9 r19 I x1 x2 x3 x4 x5 s0 = some I9 → AM p l e R s m args below meth c E B lay.length (ax_z lay) 7 none lay I9 J lay I J 83 [(0, .ref (B + 35)), (1, .int x1), (2, .int x2), (3, .int x3), (4, .int x4), (5, .int x5)] [.int s0] := by
  obtain ⟨hx, hb, hr, hml, hown, hts, hlocks, hK, hfr, hlo, hmc, hms, hnm⟩ := id C
  have hown : s.vm.findClass RX7 = some m.cls := hown
  intro I x1 x2 x3 x4 x5 s0 h H locs cells slots ls hc hz hR hS hl
  unfold f_X7_findEnds_83 at h
  refine lv_istore (lv' := [(6, .int s0), (0, .ref (B + 35)), (1, .int x1), (2, .int x2), (3, .int x3), (4, .int x4), (5, .int x5)]) hx hb dX7_findEnds_83 hl (by decide) rfl (fun ls hl => ?_)
  refine lv_aload_n hx hb dX7_findEnds_85 rfl (lv_at hl 1 rfl) ?_
  refine ax_getV hx hb hts hown hK hR fl_X7_77 (lk_35 hL) rfl dX7_findEnds_86 ?_
  refine lv_iload_n hx hb dX7_findEnds_89 rfl (lv_at hl 4 rfl) ?_
  refine lv_iload hx hb dX7_findEnds_90 (lv_at hl 5 rfl) ?_
  refine lv_iload hx hb dX7_findEnds_92 (lv_at hl 6 rfl) ?_
  obtain ⟨q94, hq, h⟩ := ax_bd h
  refine ax_cS (rest := [.ref (B + 58)]) (st1 := [.int q94, .ref (B + 58)]) C hc hz hS hR (M_X7_at  hq) yk_X7_at st_X7_at ml_X7_274 (by decide) rfl hl.1 (Nat.le_of_ble_eq_true rfl) rfl rfl dX7_findEnds_94 (fun H locs hR hS => ?_)
  refine lv_iload_n hx hb dX7_findEnds_97 rfl (lv_at hl 4 rfl) ?_
  refine lv_iload_n hx hb dX7_findEnds_98 rfl (lv_at hl 3 rfl) ?_
  refine lv_icmp_ne (tgt := 115) hx hb dX7_findEnds_99 (by decide) (fun q => ?_) (fun q => ?_)
  · have h := ax_iN q h
    refine lv_aload_n hx hb dX7_findEnds_115 rfl (lv_at hl 1 rfl) ?_
    refine lv_iload_n hx hb dX7_findEnds_116 rfl (lv_at hl 2 rfl) ?_
    refine lv_iload_n hx hb dX7_findEnds_117 rfl (lv_at hl 4 rfl) ?_
    refine lv_iload hx hb dX7_findEnds_118 (lv_at hl 5 rfl) ?_
    refine lv_iload hx hb dX7_findEnds_120 (lv_at hl 6 rfl) ?_
    obtain ⟨q122, hq, h⟩ := ax_bd h
    refine ax_cV (rest := [.int q94, .ref (B + 58)]) (st1 := [.int q122, .int q94, .ref (B + 58)]) C hc hz hS hR (M_X7_endOf hL hq) yk_X7_endOf in_X7_endOf se_X7_endOf ml_X7_277 (lk_35 hL) rfl rfl (by decide) rfl hl.1 (Nat.le_of_ble_eq_true rfl) rfl rfl dX7_findEnds_122 (fun H locs hR hS => ?_)
    exact t_X7_findEnds_125 hL C hr2 hr9 hr19 _ _ _ _ _ _ _ _ h H locs cells slots ls hc hz hR hS (lv_sub hl [1, 2, 3, 4, 5, 6] rfl)
  · have h := ax_ip q h
    refine lv_iload hx hb dX7_findEnds_102 (lv_at hl 0 rfl) ?_
    refine lv_if_eq (tgt := 111) hx hb dX7_findEnds_104 (by decide) (fun q => ?_) (fun q => ?_)
    · have h := ax_ip q h
      refine lv_iconst (v := 0) hx hb dX7_findEnds_111 (by decide) ?_
      refine lv_goto (tgt := 125) hx hb dX7_findEnds_112 (by decide) ?_
      exact t_X7_findEnds_125 hL C hr2 hr9 hr19 _ _ _ _ _ _ _ _ h H locs cells slots ls hc hz hR hS (lv_sub hl [1, 2, 3, 4, 5, 6] rfl)
    · have h := ax_iN q h
      refine lv_iconst (v := 1) hx hb dX7_findEnds_107 (by decide) ?_
      refine lv_goto (tgt := 125) hx hb dX7_findEnds_108 (by decide) ?_
      exact t_X7_findEnds_125 hL C hr2 hr9 hr19 _ _ _ _ _ _ _ _ h H locs cells slots ls hc hz hR hS (lv_sub hl [1, 2, 3, 4, 5, 6] rfl)
set_option maxRecDepth 100000 in
set_option maxHeartbeats 4000000 in
theorem t_X7_findEnds_82 {lay : List ax_S} {J : ax_J} {I9 : ax_I} (hL : ax_LL B lay) (C : ax_C p R s m args meth c yX7_findEnds cX7_findEnds 7 none 6 E mc ms) {r2 : ax_I → Int32 → Int32 → Int32 → Option (ax_I)} (hr2 : ∀ (I : ax_I) (x1 : Int32) (x2 : Int32) (x3 : Int32), r2 I x1 x2 x3 = some I9 → AM p l e R s m args below meth c E B lay.length (ax_z lay) 7 none lay I9 J lay I J 2 [(0, .ref (B + 35)), (1, .int x1), (2, .int x2), (3, .int x3)] []) {r9 : ax_I → Int32 → Int32 → Int32 → Int32 → Option (ax_I)} (hr9 : ∀ (I : ax_I) (x1 : Int32) (x2 : Int32) (x3 : Int32) (x4 : Int32), r9 I x1 x2 x3 x4 = some I9 → AM p l e R s m args below meth c E B lay.length (ax_z lay) 7 none lay I9 J lay I J 9 [(0, .ref (B + 35)), (1, .int x1), (2, .int x2), (3, .int x3), (4, .int x4)] []) {r19 : ax_I → Int32 → Int32 → Int32 → Int32 → Int32 → Option (ax_I)} (hr19 : ∀ (I : ax_I) (x1 : Int32) (x2 : Int32) (x3 : Int32) (x4 : Int32) (x5 : Int32), r19 I x1 x2 x3 x4 x5 = some I9 → AM p l e R s m args below meth c E B lay.length (ax_z lay) 7 none lay I9 J lay I J 19 [(0, .ref (B + 35)), (1, .int x1), (2, .int x2), (3, .int x3), (4, .int x4), (5, .int x5)] []) : ∀ (I : ax_I) (x1 : Int32) (x2 : Int32) (x3 : Int32) (x4 : Int32) (x5 : Int32), f_X7_findEnds_82 r2 r9 r19 I x1 x2 x3 x4 x5 = some I9 → AM p l e R s m args below meth c E B lay.length (ax_z lay) 7 none lay I9 J lay I J 82 [(0, .ref (B + 35)), (1, .int x1), (2, .int x2), (3, .int x3), (4, .int x4), (5, .int x5)] [] := by
  obtain ⟨hx, hb, hr, hml, hown, hts, hlocks, hK, hfr, hlo, hmc, hms, hnm⟩ := id C
  have hown : s.vm.findClass RX7 = some m.cls := hown
  intro I x1 x2 x3 x4 x5 h H locs cells slots ls hc hz hR hS hl
  unfold f_X7_findEnds_82 at h
  refine lv_iconst (v := 0) hx hb dX7_findEnds_82 (by decide) ?_
  exact t_X7_findEnds_83 hL C hr2 hr9 hr19 _ _ _ _ _ _ _ h H locs cells slots ls hc hz hR hS (lv_sub hl [0, 1, 2, 3, 4, 5] rfl)
set_option maxRecDepth 100000 in
set_option maxHeartbeats 4000000 in
theorem t_X7_findEnds_19 {lay : List ax_S} {J : ax_J} {I9 : ax_I} (hL : ax_LL B lay) (C : ax_C p R s m args meth c yX7_findEnds cX7_findEnds 7 none 6 E mc ms) {r2 : ax_I → Int32 → Int32 → Int32 → Option (ax_I)} (hr2 : ∀ (I : ax_I) (x1 : Int32) (x2 : Int32) (x3 : Int32), r2 I x1 x2 x3 = some I9 → AM p l e R s m args below meth c E B lay.length (ax_z lay) 7 none lay I9 J lay I J 2 [(0, .ref (B + 35)), (1, .int x1), (2, .int x2), (3, .int x3)] []) {r9 : ax_I → Int32 → Int32 → Int32 → Int32 → Option (ax_I)} (hr9 : ∀ (I : ax_I) (x1 : Int32) (x2 : Int32) (x3 : Int32) (x4 : Int32), r9 I x1 x2 x3 x4 = some I9 → AM p l e R s m args below meth c E B lay.length (ax_z lay) 7 none lay I9 J lay I J 9 [(0, .ref (B + 35)), (1, .int x1), (2, .int x2), (3, .int x3), (4, .int x4)] []) : ∀ (n : Nat) (I : ax_I) (x1 : Int32) (x2 : Int32) (x3 : Int32) (x4 : Int32) (x5 : Int32), f_X7_findEnds_19 r2 r9 n I x1 x2 x3 x4 x5 = some I9 → AM p l e R s m args below meth c E B lay.length (ax_z lay) 7 none lay I9 J lay I J 19 [(0, .ref (B + 35)), (1, .int x1), (2, .int x2), (3, .int x3), (4, .int x4), (5, .int x5)] [] := by
  obtain ⟨hx, hb, hr, hml, hown, hts, hlocks, hK, hfr, hlo, hmc, hms, hnm⟩ := id C
  have hown : s.vm.findClass RX7 = some m.cls := hown
  intro n
  induction n with
  | zero => intro I x1 x2 x3 x4 x5 h; cases h
  | succ n ih =>
    intro I x1 x2 x3 x4 x5 h H locs cells slots ls hc hz hR hS hl
    rw [f_X7_findEnds_19] at h
    refine lv_iload hx hb dX7_findEnds_19 (lv_at hl 5 rfl) ?_
    refine lv_bipush (v := 7) hx hb dX7_findEnds_21 (by decide) ?_
    refine lv_icmp_ge (tgt := 132) hx hb dX7_findEnds_23 (by decide) (fun q => ?_) (fun q => ?_)
    · have h := ax_ip q h
      refine lv_iinc (v := (x4 + 1)) (lv' := [(4, .int (x4 + 1)), (0, .ref (B + 35)), (1, .int x1), (2, .int x2), (3, .int x3), (5, .int x5)]) hx hb dX7_findEnds_132 hl (k := 4) rfl rfl (by decide) rfl (fun ls hl => ?_)
      refine lv_goto (tgt := 9) hx hb dX7_findEnds_135 (by decide) ?_
      exact hr9 _ _ _ _ _ h H locs cells slots ls hc hz hR hS (lv_sub hl [1, 2, 3, 4, 0] rfl)
    · have h := ax_iN q h
      refine lv_aload_n hx hb dX7_findEnds_26 rfl (lv_at hl 0 rfl) ?_
      refine lv_iload_n hx hb dX7_findEnds_27 rfl (lv_at hl 1 rfl) ?_
      refine lv_iload hx hb dX7_findEnds_28 (lv_at hl 4 rfl) ?_
      refine lv_iload hx hb dX7_findEnds_30 (lv_at hl 5 rfl) ?_
      obtain ⟨q32, hq, h⟩ := ax_bd h
      refine ax_cV (rest := []) (st1 := [.int q32]) C hc hz hS hR (M_X7_wondersAt hL hq) yk_X7_wondersAt in_X7_wondersAt se_X7_wondersAt ml_X7_268 (lk_35 hL) rfl rfl (by decide) rfl hl.1 (Nat.le_of_ble_eq_true rfl) rfl rfl dX7_findEnds_32 (fun H locs hR hS => ?_)
      refine lv_aload_n hx hb dX7_findEnds_35 rfl (lv_at hl 0 rfl) ?_
      refine ax_getV hx hb hts hown hK hR fl_X7_37 (lk_35 hL) rfl dX7_findEnds_36 ?_
      refine lv_iconst (v := 0) hx hb dX7_findEnds_39 (by decide) ?_
      refine ax_iald hx hb hK hR (lk_45 hL) (by decide) dX7_findEnds_40 ?_
      refine lv_icmp_lt (tgt := 82) hx hb dX7_findEnds_41 (by decide) (fun q => ?_) (fun q => ?_)
      · have h := ax_ip q h
        exact t_X7_findEnds_82 hL C hr2 hr9 ih _ _ _ _ _ _ h H locs cells slots ls hc hz hR hS (lv_sub hl [0, 1, 2, 3, 4, 5] rfl)
      · have h := ax_iN q h
        refine lv_aload_n hx hb dX7_findEnds_44 rfl (lv_at hl 0 rfl) ?_
        refine lv_iload_n hx hb dX7_findEnds_45 rfl (lv_at hl 1 rfl) ?_
        refine lv_iload_n hx hb dX7_findEnds_46 rfl (lv_at hl 3 rfl) ?_
        refine lv_iload hx hb dX7_findEnds_47 (lv_at hl 4 rfl) ?_
        refine lv_iload hx hb dX7_findEnds_49 (lv_at hl 5 rfl) ?_
        obtain ⟨q51, hq, h⟩ := ax_bd h
        refine ax_cV (rest := []) (st1 := [.int q51]) C hc hz hS hR (M_X7_sinsAt hL hq) yk_X7_sinsAt in_X7_sinsAt se_X7_sinsAt ml_X7_271 (lk_35 hL) rfl rfl (by decide) rfl hl.1 (Nat.le_of_ble_eq_true rfl) rfl rfl dX7_findEnds_51 (fun H locs hR hS => ?_)
        refine lv_aload_n hx hb dX7_findEnds_54 rfl (lv_at hl 0 rfl) ?_
        refine ax_getV hx hb hts hown hK hR fl_X7_37 (lk_35 hL) rfl dX7_findEnds_55 ?_
        refine lv_iconst (v := 1) hx hb dX7_findEnds_58 (by decide) ?_
        refine ax_iald hx hb hK hR (lk_45 hL) (by decide) dX7_findEnds_59 ?_
        refine lv_icmp_gt (tgt := 82) hx hb dX7_findEnds_60 (by decide) (fun q => ?_) (fun q => ?_)
        · have h := ax_ip q h
          exact t_X7_findEnds_82 hL C hr2 hr9 ih _ _ _ _ _ _ h H locs cells slots ls hc hz hR hS (lv_sub hl [0, 1, 2, 3, 4, 5] rfl)
        · have h := ax_iN q h
          refine lv_aload_n hx hb dX7_findEnds_63 rfl (lv_at hl 0 rfl) ?_
          refine ax_getV hx hb hts hown hK hR fl_X7_16 (lk_35 hL) rfl dX7_findEnds_64 ?_
          refine lv_iload_n hx hb dX7_findEnds_67 rfl (lv_at hl 1 rfl) ?_
          obtain ⟨hq, h⟩ := ax_ck h
          refine ax_iald hx hb hK hR (lk_38 hL) hq dX7_findEnds_68 ?_
          refine lv_aload_n hx hb dX7_findEnds_69 rfl (lv_at hl 0 rfl) ?_
          refine ax_getV hx hb hts hown hK hR fl_X7_37 (lk_35 hL) rfl dX7_findEnds_70 ?_
          refine lv_iconst (v := 2) hx hb dX7_findEnds_73 (by decide) ?_
          refine ax_iald hx hb hK hR (lk_45 hL) (by decide) dX7_findEnds_74 ?_
          refine lv_icmp_lt (tgt := 82) hx hb dX7_findEnds_75 (by decide) (fun q => ?_) (fun q => ?_)
          · have h := ax_ip q h
            exact t_X7_findEnds_82 hL C hr2 hr9 ih _ _ _ _ _ _ h H locs cells slots ls hc hz hR hS (lv_sub hl [0, 1, 2, 3, 4, 5] rfl)
          · have h := ax_iN q h
            refine lv_iconst (v := 1) hx hb dX7_findEnds_78 (by decide) ?_
            refine lv_goto (tgt := 83) hx hb dX7_findEnds_79 (by decide) ?_
            exact t_X7_findEnds_83 hL C hr2 hr9 ih _ _ _ _ _ _ _ h H locs cells slots ls hc hz hR hS (lv_sub hl [0, 1, 2, 3, 4, 5] rfl)
set_option maxRecDepth 100000 in
set_option maxHeartbeats 4000000 in
theorem t_X7_findEnds_9 {lay : List ax_S} {J : ax_J} {I9 : ax_I} (hL : ax_LL B lay) (C : ax_C p R s m args meth c yX7_findEnds cX7_findEnds 7 none 6 E mc ms) {r2 : ax_I → Int32 → Int32 → Int32 → Option (ax_I)} (hr2 : ∀ (I : ax_I) (x1 : Int32) (x2 : Int32) (x3 : Int32), r2 I x1 x2 x3 = some I9 → AM p l e R s m args below meth c E B lay.length (ax_z lay) 7 none lay I9 J lay I J 2 [(0, .ref (B + 35)), (1, .int x1), (2, .int x2), (3, .int x3)] []) : ∀ (n : Nat) (I : ax_I) (x1 : Int32) (x2 : Int32) (x3 : Int32) (x4 : Int32), f_X7_findEnds_9 r2 n I x1 x2 x3 x4 = some I9 → AM p l e R s m args below meth c E B lay.length (ax_z lay) 7 none lay I9 J lay I J 9 [(0, .ref (B + 35)), (1, .int x1), (2, .int x2), (3, .int x3), (4, .int x4)] [] := by
  obtain ⟨hx, hb, hr, hml, hown, hts, hlocks, hK, hfr, hlo, hmc, hms, hnm⟩ := id C
  have hown : s.vm.findClass RX7 = some m.cls := hown
  intro n
  induction n with
  | zero => intro I x1 x2 x3 x4 h; cases h
  | succ n ih =>
    intro I x1 x2 x3 x4 h H locs cells slots ls hc hz hR hS hl
    rw [f_X7_findEnds_9] at h
    refine lv_iload hx hb dX7_findEnds_9 (lv_at hl 4 rfl) ?_
    refine lv_bipush (v := 7) hx hb dX7_findEnds_11 (by decide) ?_
    refine lv_icmp_ge (tgt := 138) hx hb dX7_findEnds_13 (by decide) (fun q => ?_) (fun q => ?_)
    · have h := ax_ip q h
      refine lv_iinc (v := (x3 + (-1))) (lv' := [(3, .int (x3 + (-1))), (0, .ref (B + 35)), (1, .int x1), (2, .int x2), (4, .int x4)]) hx hb dX7_findEnds_138 hl (k := 3) rfl rfl (by decide) rfl (fun ls hl => ?_)
      refine lv_goto (tgt := 2) hx hb dX7_findEnds_141 (by decide) ?_
      exact hr2 _ _ _ _ h H locs cells slots ls hc hz hR hS (lv_sub hl [1, 2, 3, 0] rfl)
    · have h := ax_iN q h
      refine lv_iconst (v := 0) hx hb dX7_findEnds_16 (by decide) ?_
      refine lv_istore (lv' := [(5, .int 0), (0, .ref (B + 35)), (1, .int x1), (2, .int x2), (3, .int x3), (4, .int x4)]) hx hb dX7_findEnds_17 hl (by decide) rfl (fun ls hl => ?_)
      exact t_X7_findEnds_19 hL C hr2 ih ax_N _ _ _ _ _ _ h H locs cells slots ls hc hz hR hS (lv_sub hl [1, 2, 3, 4, 5, 0] rfl)
set_option maxRecDepth 100000 in
set_option maxHeartbeats 4000000 in
theorem t_X7_findEnds_2 {lay : List ax_S} {J : ax_J} {I9 : ax_I} (hL : ax_LL B lay) (C : ax_C p R s m args meth c yX7_findEnds cX7_findEnds 7 none 6 E mc ms) : ∀ (n : Nat) (I : ax_I) (x1 : Int32) (x2 : Int32) (x3 : Int32), f_X7_findEnds_2 n I x1 x2 x3 = some I9 → AM p l e R s m args below meth c E B lay.length (ax_z lay) 7 none lay I9 J lay I J 2 [(0, .ref (B + 35)), (1, .int x1), (2, .int x2), (3, .int x3)] [] := by
  obtain ⟨hx, hb, hr, hml, hown, hts, hlocks, hK, hfr, hlo, hmc, hms, hnm⟩ := id C
  have hown : s.vm.findClass RX7 = some m.cls := hown
  intro n
  induction n with
  | zero => intro I x1 x2 x3 h; cases h
  | succ n ih =>
    intro I x1 x2 x3 h H locs cells slots ls hc hz hR hS hl
    rw [f_X7_findEnds_2] at h
    refine lv_iload_n hx hb dX7_findEnds_2 rfl (lv_at hl 3 rfl) ?_
    refine lv_if_lt (tgt := 144) hx hb dX7_findEnds_3 (by decide) (fun q => ?_) (fun q => ?_)
    · have h := ax_ip q h
      cases h
      exact ax_vret C hc hz hR hS dX7_findEnds_144
    · have h := ax_iN q h
      refine lv_iconst (v := 0) hx hb dX7_findEnds_6 (by decide) ?_
      refine lv_istore (lv' := [(4, .int 0), (0, .ref (B + 35)), (1, .int x1), (2, .int x2), (3, .int x3)]) hx hb dX7_findEnds_7 hl (by decide) rfl (fun ls hl => ?_)
      exact t_X7_findEnds_9 hL C ih ax_N _ _ _ _ _ h H locs cells slots ls hc hz hR hS (lv_sub hl [1, 2, 3, 4, 0] rfl)
set_option maxRecDepth 100000 in
set_option maxHeartbeats 4000000 in
theorem t_X7_findEnds_0 {lay : List ax_S} {J : ax_J} {I9 : ax_I} (hL : ax_LL B lay) (C : ax_C p R s m args meth c yX7_findEnds cX7_findEnds 7 none 6 E mc ms) : ∀ (I : ax_I) (x1 : Int32) (x2 : Int32), F_X7_findEnds I x1 x2 = some I9 → AM p l e R s m args below meth c E B lay.length (ax_z lay) 7 none lay I9 J lay I J 0 [(0, .ref (B + 35)), (1, .int x1), (2, .int x2)] [] := by
  obtain ⟨hx, hb, hr, hml, hown, hts, hlocks, hK, hfr, hlo, hmc, hms, hnm⟩ := id C
  have hown : s.vm.findClass RX7 = some m.cls := hown
  intro I x1 x2 h H locs cells slots ls hc hz hR hS hl
  unfold F_X7_findEnds at h
  refine lv_iload_n hx hb dX7_findEnds_0 rfl (lv_at hl 2 rfl) ?_
  refine lv_istore_n (lv' := [(3, .int x2), (0, .ref (B + 35)), (1, .int x1), (2, .int x2)]) hx hb dX7_findEnds_1 rfl hl (by decide) rfl (fun ls hl => ?_)
  exact t_X7_findEnds_2 hL C  ax_N _ _ _ _ h H locs cells slots ls hc hz hR hS (lv_sub hl [1, 2, 3, 0] rfl)
theorem M_X7_findEnds {l : Launch} {E : ax_E} {B : Nat} {lay : List ax_S} {I : ax_I} {J : ax_J} {x1 : Int32} {x2 : Int32} {I9 : ax_I} (hL : ax_LL B lay) (h : F_X7_findEnds I x1 x2 = some I9) : Cm l yX7_findEnds cX7_findEnds 7 none 6 E B [.ref (B + 35), .int x1, .int x2] lay I J none lay I9 J :=
  ax_met (by decide) (Nat.le_of_ble_eq_true rfl) (fun p e R s m args below meth c C => t_X7_findEnds_0 hL C _ _ _ h)
def f_X7_rivals_114 (I : ax_I) (x4 : Int32) (s0 : Int32) : Option (Int32 × ax_I) :=
  some ((x4 + s0), I)
def f_X7_rivals_113 (I : ax_I) (x4 : Int32) : Option (Int32 × ax_I) :=
  f_X7_rivals_114 I x4 0
def f_X7_rivals_84 (I : ax_I) (x1 : Int32) (x2 : Int32) (s0 : Int32) : Option (Int32 × ax_I) :=
  if x2 ≤ 0 then f_X7_rivals_113 I s0 else if ax_in x1 6 = true then if (I 37 x1.toNatClampNeg) ≤ 0 then f_X7_rivals_113 I s0 else (F_X7_at I 1 0 0).bind (fun q106 => if ax_in q106 637 = true then f_X7_rivals_114 I s0 (I 58 q106.toNatClampNeg) else none) else none
def F_X7_rivals (I : ax_I) (x1 : Int32) (x2 : Int32) (x3 : Int32) : Option (Int32 × ax_I) :=
  (F_X7_isChild I x1).bind (fun q2 => if q2 = 0 then some ((-1), I) else (F_X7_in I ((x2 : Int32).toInt64) 0 12).bind (fun q16 => if q16 = 0 then some ((-2), I) else (F_X7_in I ((x3 : Int32).toInt64) 0 1).bind (fun q26 => if q26 = 0 then some ((-2), I) else if ax_in x1 6 = true then if (I 39 x1.toNatClampNeg) = 1 then some ((-3), I) else (F_X7_findEnds I x1 x2).bind (fun q51 => if x3 = 0 then some ((q51 58 (0 : Int32).toNatClampNeg), q51) else if x2 ≤ 0 then f_X7_rivals_84 q51 x1 x2 0 else (F_X7_at q51 1 1 0).bind (fun q76 => if ax_in q76 637 = true then f_X7_rivals_84 q51 x1 x2 (q51 58 q76.toNatClampNeg) else none)) else none)))
set_option maxRecDepth 100000 in
set_option maxHeartbeats 4000000 in
theorem t_X7_rivals_114 {lay : List ax_S} {J : ax_J} {rv : Int32} {I9 : ax_I} (hL : ax_LL B lay) (C : ax_C p R s m args meth c yX7_rivals cX7_rivals 6 (some .int) 8 E mc ms) : ∀ (I : ax_I) (x4 : Int32) (s0 : Int32), f_X7_rivals_114 I x4 s0 = some (rv, I9) → AM p l e R s m args below meth c E B lay.length (ax_z lay) 6 (some (.int rv)) lay I9 J lay I J 114 [(4, .int x4)] [.int s0] := by
  obtain ⟨hx, hb, hr, hml, hown, hts, hlocks, hK, hfr, hlo, hmc, hms, hnm⟩ := id C
  have hown : s.vm.findClass RX7 = some m.cls := hown
  intro I x4 s0 h H locs cells slots ls hc hz hR hS hl
  unfold f_X7_rivals_114 at h
  refine lv_istore (lv' := [(5, .int s0), (4, .int x4)]) hx hb dX7_rivals_114 hl (by decide) rfl (fun ls hl => ?_)
  refine lv_iload hx hb dX7_rivals_116 (lv_at hl 1 rfl) ?_
  refine lv_iload hx hb dX7_rivals_118 (lv_at hl 0 rfl) ?_
  refine lv_iadd hx hb dX7_rivals_120 ?_
  cases h
  exact ax_iret C hc hz hR hS rfl rfl dX7_rivals_121
set_option maxRecDepth 100000 in
set_option maxHeartbeats 4000000 in
theorem t_X7_rivals_113 {lay : List ax_S} {J : ax_J} {rv : Int32} {I9 : ax_I} (hL : ax_LL B lay) (C : ax_C p R s m args meth c yX7_rivals cX7_rivals 6 (some .int) 8 E mc ms) : ∀ (I : ax_I) (x4 : Int32), f_X7_rivals_113 I x4 = some (rv, I9) → AM p l e R s m args below meth c E B lay.length (ax_z lay) 6 (some (.int rv)) lay I9 J lay I J 113 [(4, .int x4)] [] := by
  obtain ⟨hx, hb, hr, hml, hown, hts, hlocks, hK, hfr, hlo, hmc, hms, hnm⟩ := id C
  have hown : s.vm.findClass RX7 = some m.cls := hown
  intro I x4 h H locs cells slots ls hc hz hR hS hl
  unfold f_X7_rivals_113 at h
  refine lv_iconst (v := 0) hx hb dX7_rivals_113 (by decide) ?_
  exact t_X7_rivals_114 hL C  _ _ _ h H locs cells slots ls hc hz hR hS (lv_sub hl [0] rfl)
set_option maxRecDepth 100000 in
set_option maxHeartbeats 4000000 in
theorem t_X7_rivals_84 {lay : List ax_S} {J : ax_J} {rv : Int32} {I9 : ax_I} (hL : ax_LL B lay) (C : ax_C p R s m args meth c yX7_rivals cX7_rivals 6 (some .int) 8 E mc ms) : ∀ (I : ax_I) (x1 : Int32) (x2 : Int32) (s0 : Int32), f_X7_rivals_84 I x1 x2 s0 = some (rv, I9) → AM p l e R s m args below meth c E B lay.length (ax_z lay) 6 (some (.int rv)) lay I9 J lay I J 84 [(0, .ref (B + 35)), (1, .int x1), (2, .int x2)] [.int s0] := by
  obtain ⟨hx, hb, hr, hml, hown, hts, hlocks, hK, hfr, hlo, hmc, hms, hnm⟩ := id C
  have hown : s.vm.findClass RX7 = some m.cls := hown
  intro I x1 x2 s0 h H locs cells slots ls hc hz hR hS hl
  unfold f_X7_rivals_84 at h
  refine lv_istore (lv' := [(4, .int s0), (0, .ref (B + 35)), (1, .int x1), (2, .int x2)]) hx hb dX7_rivals_84 hl (by decide) rfl (fun ls hl => ?_)
  refine lv_iload_n hx hb dX7_rivals_86 rfl (lv_at hl 3 rfl) ?_
  refine lv_if_le (tgt := 113) hx hb dX7_rivals_87 (by decide) (fun q => ?_) (fun q => ?_)
  · have h := ax_ip q h
    exact t_X7_rivals_113 hL C  _ _ h H locs cells slots ls hc hz hR hS (lv_sub hl [0] rfl)
  · have h := ax_iN q h
    refine lv_aload_n hx hb dX7_rivals_90 rfl (lv_at hl 1 rfl) ?_
    refine ax_getV hx hb hts hown hK hR fl_X7_13 (lk_35 hL) rfl dX7_rivals_91 ?_
    refine lv_iload_n hx hb dX7_rivals_94 rfl (lv_at hl 2 rfl) ?_
    obtain ⟨hq, h⟩ := ax_ck h
    refine ax_iald hx hb hK hR (lk_37 hL) hq dX7_rivals_95 ?_
    refine lv_if_le (tgt := 113) hx hb dX7_rivals_96 (by decide) (fun q => ?_) (fun q => ?_)
    · have h := ax_ip q h
      exact t_X7_rivals_113 hL C  _ _ h H locs cells slots ls hc hz hR hS (lv_sub hl [0] rfl)
    · have h := ax_iN q h
      refine lv_aload_n hx hb dX7_rivals_99 rfl (lv_at hl 1 rfl) ?_
      refine ax_getV hx hb hts hown hK hR fl_X7_77 (lk_35 hL) rfl dX7_rivals_100 ?_
      refine lv_iconst (v := 1) hx hb dX7_rivals_103 (by decide) ?_
      refine lv_iconst (v := 0) hx hb dX7_rivals_104 (by decide) ?_
      refine lv_iconst (v := 0) hx hb dX7_rivals_105 (by decide) ?_
      obtain ⟨q106, hq, h⟩ := ax_bd h
      refine ax_cS (rest := [.ref (B + 58)]) (st1 := [.int q106, .ref (B + 58)]) C hc hz hS hR (M_X7_at  hq) yk_X7_at st_X7_at ml_X7_274 (by decide) rfl hl.1 (Nat.le_of_ble_eq_true rfl) rfl rfl dX7_rivals_106 (fun H locs hR hS => ?_)
      obtain ⟨hq, h⟩ := ax_ck h
      refine ax_iald hx hb hK hR (lk_58 hL) hq dX7_rivals_109 ?_
      refine lv_goto (tgt := 114) hx hb dX7_rivals_110 (by decide) ?_
      exact t_X7_rivals_114 hL C  _ _ _ h H locs cells slots ls hc hz hR hS (lv_sub hl [0] rfl)
set_option maxRecDepth 100000 in
set_option maxHeartbeats 4000000 in
theorem t_X7_rivals_0 {lay : List ax_S} {J : ax_J} {rv : Int32} {I9 : ax_I} (hL : ax_LL B lay) (C : ax_C p R s m args meth c yX7_rivals cX7_rivals 6 (some .int) 8 E mc ms) : ∀ (I : ax_I) (x1 : Int32) (x2 : Int32) (x3 : Int32), F_X7_rivals I x1 x2 x3 = some (rv, I9) → AM p l e R s m args below meth c E B lay.length (ax_z lay) 6 (some (.int rv)) lay I9 J lay I J 0 [(0, .ref (B + 35)), (1, .int x1), (2, .int x2), (3, .int x3)] [] := by
  obtain ⟨hx, hb, hr, hml, hown, hts, hlocks, hK, hfr, hlo, hmc, hms, hnm⟩ := id C
  have hown : s.vm.findClass RX7 = some m.cls := hown
  intro I x1 x2 x3 h H locs cells slots ls hc hz hR hS hl
  unfold F_X7_rivals at h
  refine lv_aload_n hx hb dX7_rivals_0 rfl (lv_at hl 0 rfl) ?_
  refine lv_iload_n hx hb dX7_rivals_1 rfl (lv_at hl 1 rfl) ?_
  obtain ⟨q2, hq, h⟩ := ax_bd h
  refine ax_cV (rest := []) (st1 := [.int q2]) C hc hz hS hR (M_X7_isChild hL hq) yk_X7_isChild in_X7_isChild se_X7_isChild ml_X7_113 (lk_35 hL) rfl rfl (by decide) rfl hl.1 (Nat.le_of_ble_eq_true rfl) rfl rfl dX7_rivals_2 (fun H locs hR hS => ?_)
  refine lv_if_ne (tgt := 10) hx hb dX7_rivals_5 (by decide) (fun q => ?_) (fun q => ?_)
  · have h := ax_iN q h
    refine lv_iload_n hx hb dX7_rivals_10 rfl (lv_at hl 2 rfl) ?_
    refine lv_i2l hx hb dX7_rivals_11 rfl ?_
    refine lv_lconst (v := 0) hx hb dX7_rivals_12 (by decide) ?_
    refine lv_ldc2 hx hb hown (hts _ ct_X7_280) dX7_rivals_13 ?_
    obtain ⟨q16, hq, h⟩ := ax_bd h
    refine ax_cS (rest := []) (st1 := [.int q16]) C hc hz hS hR (M_X7_in  hq) yk_X7_in st_X7_in ml_X7_89 (by decide) rfl hl.1 (Nat.le_of_ble_eq_true rfl) rfl rfl dX7_rivals_16 (fun H locs hR hS => ?_)
    refine lv_if_eq (tgt := 32) hx hb dX7_rivals_19 (by decide) (fun q => ?_) (fun q => ?_)
    · have h := ax_ip q h
      refine lv_bipush (v := (-2)) hx hb dX7_rivals_32 (by decide) ?_
      cases h
      exact ax_iret C hc hz hR hS rfl rfl dX7_rivals_34
    · have h := ax_iN q h
      refine lv_iload_n hx hb dX7_rivals_22 rfl (lv_at hl 3 rfl) ?_
      refine lv_i2l hx hb dX7_rivals_23 rfl ?_
      refine lv_lconst (v := 0) hx hb dX7_rivals_24 (by decide) ?_
      refine lv_lconst (v := 1) hx hb dX7_rivals_25 (by decide) ?_
      obtain ⟨q26, hq, h⟩ := ax_bd h
      refine ax_cS (rest := []) (st1 := [.int q26]) C hc hz hS hR (M_X7_in  hq) yk_X7_in st_X7_in ml_X7_89 (by decide) rfl hl.1 (Nat.le_of_ble_eq_true rfl) rfl rfl dX7_rivals_26 (fun H locs hR hS => ?_)
      refine lv_if_ne (tgt := 35) hx hb dX7_rivals_29 (by decide) (fun q => ?_) (fun q => ?_)
      · have h := ax_iN q h
        refine lv_aload_n hx hb dX7_rivals_35 rfl (lv_at hl 0 rfl) ?_
        refine ax_getV hx hb hts hown hK hR fl_X7_19 (lk_35 hL) rfl dX7_rivals_36 ?_
        refine lv_iload_n hx hb dX7_rivals_39 rfl (lv_at hl 1 rfl) ?_
        obtain ⟨hq, h⟩ := ax_ck h
        refine ax_iald hx hb hK hR (lk_39 hL) hq dX7_rivals_40 ?_
        refine lv_iconst (v := 1) hx hb dX7_rivals_41 (by decide) ?_
        refine lv_icmp_ne (tgt := 48) hx hb dX7_rivals_42 (by decide) (fun q => ?_) (fun q => ?_)
        · have h := ax_iN q h
          refine lv_aload_n hx hb dX7_rivals_48 rfl (lv_at hl 0 rfl) ?_
          refine lv_iload_n hx hb dX7_rivals_49 rfl (lv_at hl 1 rfl) ?_
          refine lv_iload_n hx hb dX7_rivals_50 rfl (lv_at hl 2 rfl) ?_
          obtain ⟨q51, hq, h⟩ := ax_bd h
          refine ax_cV (rest := []) (st1 := []) C hc hz hS hR (M_X7_findEnds hL hq) yk_X7_findEnds in_X7_findEnds se_X7_findEnds ml_X7_282 (lk_35 hL) rfl rfl (by decide) rfl hl.1 (Nat.le_of_ble_eq_true rfl) rfl rfl dX7_rivals_51 (fun H locs hR hS => ?_)
          refine lv_iload_n hx hb dX7_rivals_54 rfl (lv_at hl 3 rfl) ?_
          refine lv_if_ne (tgt := 65) hx hb dX7_rivals_55 (by decide) (fun q => ?_) (fun q => ?_)
          · have h := ax_iN q h
            refine lv_iload_n hx hb dX7_rivals_65 rfl (lv_at hl 2 rfl) ?_
            refine lv_if_le (tgt := 83) hx hb dX7_rivals_66 (by decide) (fun q => ?_) (fun q => ?_)
            · have h := ax_ip q h
              refine lv_iconst (v := 0) hx hb dX7_rivals_83 (by decide) ?_
              exact t_X7_rivals_84 hL C  _ _ _ _ h H locs cells slots ls hc hz hR hS (lv_sub hl [0, 1, 2] rfl)
            · have h := ax_iN q h
              refine lv_aload_n hx hb dX7_rivals_69 rfl (lv_at hl 0 rfl) ?_
              refine ax_getV hx hb hts hown hK hR fl_X7_77 (lk_35 hL) rfl dX7_rivals_70 ?_
              refine lv_iconst (v := 1) hx hb dX7_rivals_73 (by decide) ?_
              refine lv_iconst (v := 1) hx hb dX7_rivals_74 (by decide) ?_
              refine lv_iconst (v := 0) hx hb dX7_rivals_75 (by decide) ?_
              obtain ⟨q76, hq, h⟩ := ax_bd h
              refine ax_cS (rest := [.ref (B + 58)]) (st1 := [.int q76, .ref (B + 58)]) C hc hz hS hR (M_X7_at  hq) yk_X7_at st_X7_at ml_X7_274 (by decide) rfl hl.1 (Nat.le_of_ble_eq_true rfl) rfl rfl dX7_rivals_76 (fun H locs hR hS => ?_)
              obtain ⟨hq, h⟩ := ax_ck h
              refine ax_iald hx hb hK hR (lk_58 hL) hq dX7_rivals_79 ?_
              refine lv_goto (tgt := 84) hx hb dX7_rivals_80 (by decide) ?_
              exact t_X7_rivals_84 hL C  _ _ _ _ h H locs cells slots ls hc hz hR hS (lv_sub hl [0, 1, 2] rfl)
          · have h := ax_ip q h
            refine lv_aload_n hx hb dX7_rivals_58 rfl (lv_at hl 0 rfl) ?_
            refine ax_getV hx hb hts hown hK hR fl_X7_77 (lk_35 hL) rfl dX7_rivals_59 ?_
            refine lv_iconst (v := 0) hx hb dX7_rivals_62 (by decide) ?_
            refine ax_iald hx hb hK hR (lk_58 hL) (by decide) dX7_rivals_63 ?_
            cases h
            exact ax_iret C hc hz hR hS rfl rfl dX7_rivals_64
        · have h := ax_ip q h
          refine lv_bipush (v := (-3)) hx hb dX7_rivals_45 (by decide) ?_
          cases h
          exact ax_iret C hc hz hR hS rfl rfl dX7_rivals_47
      · have h := ax_ip q h
        refine lv_bipush (v := (-2)) hx hb dX7_rivals_32 (by decide) ?_
        cases h
        exact ax_iret C hc hz hR hS rfl rfl dX7_rivals_34
  · have h := ax_ip q h
    refine lv_iconst (v := (-1)) hx hb dX7_rivals_8 (by decide) ?_
    cases h
    exact ax_iret C hc hz hR hS rfl rfl dX7_rivals_9
theorem M_X7_rivals {l : Launch} {E : ax_E} {B : Nat} {lay : List ax_S} {I : ax_I} {J : ax_J} {x1 : Int32} {x2 : Int32} {x3 : Int32} {rv : Int32} {I9 : ax_I} (hL : ax_LL B lay) (h : F_X7_rivals I x1 x2 x3 = some (rv, I9)) : Cm l yX7_rivals cX7_rivals 6 (some .int) 8 E B [.ref (B + 35), .int x1, .int x2, .int x3] lay I J (some (.int rv)) lay I9 J :=
  ax_met (by decide) (Nat.le_of_ble_eq_true rfl) (fun p e R s m args below meth c C => t_X7_rivals_0 hL C _ _ _ _ h)
def f_X7_share_149 (r92 : ax_I → Int32 → Int32 → Int32 → Int32 → Int32 → Int32 → Int32 → Int32 → Option (Int32)) (I : ax_I) (x1 : Int32) (x2 : Int32) (x3 : Int32) (x4 : Int32) (x5 : Int32) (x6 : Int32) (x8 : Int32) (s0 : Int32) (s1 : Int32) : Option Int32 :=
  r92 I x1 x2 x3 x4 x5 x6 (s1 + s0) (x8 + 1)
def f_X7_share_144 (r92 : ax_I → Int32 → Int32 → Int32 → Int32 → Int32 → Int32 → Int32 → Int32 → Option (Int32)) (I : ax_I) (x1 : Int32) (x2 : Int32) (x3 : Int32) (x4 : Int32) (x5 : Int32) (x6 : Int32) (x8 : Int32) (s0 : Int32) : Option Int32 :=
  f_X7_share_149 r92 I x1 x2 x3 x4 x5 x6 x8 1 s0
def f_X7_share_148 (r92 : ax_I → Int32 → Int32 → Int32 → Int32 → Int32 → Int32 → Int32 → Int32 → Option (Int32)) (I : ax_I) (x1 : Int32) (x2 : Int32) (x3 : Int32) (x4 : Int32) (x5 : Int32) (x6 : Int32) (x8 : Int32) (s0 : Int32) : Option Int32 :=
  f_X7_share_149 r92 I x1 x2 x3 x4 x5 x6 x8 0 s0
def f_X7_share_177 (I : ax_I) (s0 : Int32) (s1 : Int32) : Option Int32 :=
  some (s1 + s0)
def f_X7_share_92 : Nat → ax_I → Int32 → Int32 → Int32 → Int32 → Int32 → Int32 → Int32 → Int32 → Option Int32
  | 0, _, _, _, _, _, _, _, _, _ => none
  | n + 1, I, x1, x2, x3, x4, x5, x6, x7, x8 => if 4 ≤ x8 then (if ¬ (x4 = 0) then if x6 ≤ x7 then f_X7_share_177 I 0 ((x2 * x5) / x4) else f_X7_share_177 I 1 ((x2 * x5) / x4) else none) else (F_X7_heldBy I x8 x1).bind (fun q102 => (F_X7_ones I q102).bind (fun q105 => if ¬ (x4 = 0) then if x5 < q105 then f_X7_share_144 (f_X7_share_92 n) I x1 x2 x3 x4 x5 (x6 - ((x2 * q105) / x4)) x8 x7 else if q105 = x5 then (if x3 ≤ x8 then f_X7_share_148 (f_X7_share_92 n) I x1 x2 x3 x4 x5 (x6 - ((x2 * q105) / x4)) x8 x7 else f_X7_share_144 (f_X7_share_92 n) I x1 x2 x3 x4 x5 (x6 - ((x2 * q105) / x4)) x8 x7) else f_X7_share_148 (f_X7_share_92 n) I x1 x2 x3 x4 x5 (x6 - ((x2 * q105) / x4)) x8 x7 else none))
def f_X7_share_38 : Nat → ax_I → Int32 → Int32 → Int32 → Int32 → Int32 → Option Int32
  | 0, _, _, _, _, _, _ => none
  | n + 1, I, x1, x2, x3, x4, x5 => if 4 ≤ x5 then (if x4 = 0 then some 0 else (F_X7_heldBy I x3 x1).bind (fun q75 => (F_X7_ones I q75).bind (fun q78 => f_X7_share_92 ax_N I x1 x2 x3 x4 q78 x2 0 0))) else (F_X7_heldBy I x5 x1).bind (fun q50 => (F_X7_ones I q50).bind (fun q53 => f_X7_share_38 n I x1 x2 x3 (x4 + q53) (x5 + 1)))
def F_X7_share (I : ax_I) (x1 : Int32) (x2 : Int32) (x3 : Int32) : Option Int32 :=
  (F_X7_isChild I x1).bind (fun q2 => if q2 = 0 then some (-1) else (F_X7_isParish I x3).bind (fun q9 => if q9 = 0 then some (-1) else (F_X7_in I ((x2 : Int32).toInt64) 0 999).bind (fun q23 => if q23 = 0 then some (-2) else f_X7_share_38 ax_N I x1 x2 x3 0 0)))
set_option maxRecDepth 100000 in
set_option maxHeartbeats 4000000 in
theorem t_X7_share_149 {lay : List ax_S} {J : ax_J} {rv : Int32} (hL : ax_LL B lay) (C : ax_C p R s m args meth c yX7_share cX7_share 10 (some .int) 8 E mc ms) {r92 : ax_I → Int32 → Int32 → Int32 → Int32 → Int32 → Int32 → Int32 → Int32 → Option (Int32)} (hr92 : ∀ (I : ax_I) (x1 : Int32) (x2 : Int32) (x3 : Int32) (x4 : Int32) (x5 : Int32) (x6 : Int32) (x7 : Int32) (x8 : Int32), r92 I x1 x2 x3 x4 x5 x6 x7 x8 = some rv → AM p l e R s m args below meth c E B lay.length (ax_z lay) 10 (some (.int rv)) lay I J lay I J 92 [(0, .ref (B + 35)), (1, .int x1), (2, .int x2), (3, .int x3), (4, .int x4), (5, .int x5), (6, .int x6), (7, .int x7), (8, .int x8)] []) : ∀ (I : ax_I) (x1 : Int32) (x2 : Int32) (x3 : Int32) (x4 : Int32) (x5 : Int32) (x6 : Int32) (x8 : Int32) (s0 : Int32) (s1 : Int32), f_X7_share_149 r92 I x1 x2 x3 x4 x5 x6 x8 s0 s1 = some rv → AM p l e R s m args below meth c E B lay.length (ax_z lay) 10 (some (.int rv)) lay I J lay I J 149 [(0, .ref (B + 35)), (1, .int x1), (2, .int x2), (3, .int x3), (4, .int x4), (5, .int x5), (6, .int x6), (8, .int x8)] [.int s0, .int s1] := by
  obtain ⟨hx, hb, hr, hml, hown, hts, hlocks, hK, hfr, hlo, hmc, hms, hnm⟩ := id C
  have hown : s.vm.findClass RX7 = some m.cls := hown
  intro I x1 x2 x3 x4 x5 x6 x8 s0 s1 h H locs cells slots ls hc hz hR hS hl
  unfold f_X7_share_149 at h
  refine lv_iadd hx hb dX7_share_149 ?_
  refine lv_istore (lv' := [(7, .int (s1 + s0)), (0, .ref (B + 35)), (1, .int x1), (2, .int x2), (3, .int x3), (4, .int x4), (5, .int x5), (6, .int x6), (8, .int x8)]) hx hb dX7_share_150 hl (by decide) rfl (fun ls hl => ?_)
  refine lv_iinc (v := (x8 + 1)) (lv' := [(8, .int (x8 + 1)), (7, .int (s1 + s0)), (0, .ref (B + 35)), (1, .int x1), (2, .int x2), (3, .int x3), (4, .int x4), (5, .int x5), (6, .int x6)]) hx hb dX7_share_152 hl (k := 8) rfl rfl (by decide) rfl (fun ls hl => ?_)
  refine lv_goto (tgt := 92) hx hb dX7_share_155 (by decide) ?_
  exact hr92 _ _ _ _ _ _ _ _ _ h H locs cells slots ls hc hz hR hS (lv_sub hl [2, 3, 4, 5, 6, 7, 8, 1, 0] rfl)
set_option maxRecDepth 100000 in
set_option maxHeartbeats 4000000 in
theorem t_X7_share_144 {lay : List ax_S} {J : ax_J} {rv : Int32} (hL : ax_LL B lay) (C : ax_C p R s m args meth c yX7_share cX7_share 10 (some .int) 8 E mc ms) {r92 : ax_I → Int32 → Int32 → Int32 → Int32 → Int32 → Int32 → Int32 → Int32 → Option (Int32)} (hr92 : ∀ (I : ax_I) (x1 : Int32) (x2 : Int32) (x3 : Int32) (x4 : Int32) (x5 : Int32) (x6 : Int32) (x7 : Int32) (x8 : Int32), r92 I x1 x2 x3 x4 x5 x6 x7 x8 = some rv → AM p l e R s m args below meth c E B lay.length (ax_z lay) 10 (some (.int rv)) lay I J lay I J 92 [(0, .ref (B + 35)), (1, .int x1), (2, .int x2), (3, .int x3), (4, .int x4), (5, .int x5), (6, .int x6), (7, .int x7), (8, .int x8)] []) : ∀ (I : ax_I) (x1 : Int32) (x2 : Int32) (x3 : Int32) (x4 : Int32) (x5 : Int32) (x6 : Int32) (x8 : Int32) (s0 : Int32), f_X7_share_144 r92 I x1 x2 x3 x4 x5 x6 x8 s0 = some rv → AM p l e R s m args below meth c E B lay.length (ax_z lay) 10 (some (.int rv)) lay I J lay I J 144 [(0, .ref (B + 35)), (1, .int x1), (2, .int x2), (3, .int x3), (4, .int x4), (5, .int x5), (6, .int x6), (8, .int x8)] [.int s0] := by
  obtain ⟨hx, hb, hr, hml, hown, hts, hlocks, hK, hfr, hlo, hmc, hms, hnm⟩ := id C
  have hown : s.vm.findClass RX7 = some m.cls := hown
  intro I x1 x2 x3 x4 x5 x6 x8 s0 h H locs cells slots ls hc hz hR hS hl
  unfold f_X7_share_144 at h
  refine lv_iconst (v := 1) hx hb dX7_share_144 (by decide) ?_
  refine lv_goto (tgt := 149) hx hb dX7_share_145 (by decide) ?_
  exact t_X7_share_149 hL C hr92 _ _ _ _ _ _ _ _ _ _ h H locs cells slots ls hc hz hR hS (lv_sub hl [0, 1, 2, 3, 4, 5, 6, 7] rfl)
set_option maxRecDepth 100000 in
set_option maxHeartbeats 4000000 in
theorem t_X7_share_148 {lay : List ax_S} {J : ax_J} {rv : Int32} (hL : ax_LL B lay) (C : ax_C p R s m args meth c yX7_share cX7_share 10 (some .int) 8 E mc ms) {r92 : ax_I → Int32 → Int32 → Int32 → Int32 → Int32 → Int32 → Int32 → Int32 → Option (Int32)} (hr92 : ∀ (I : ax_I) (x1 : Int32) (x2 : Int32) (x3 : Int32) (x4 : Int32) (x5 : Int32) (x6 : Int32) (x7 : Int32) (x8 : Int32), r92 I x1 x2 x3 x4 x5 x6 x7 x8 = some rv → AM p l e R s m args below meth c E B lay.length (ax_z lay) 10 (some (.int rv)) lay I J lay I J 92 [(0, .ref (B + 35)), (1, .int x1), (2, .int x2), (3, .int x3), (4, .int x4), (5, .int x5), (6, .int x6), (7, .int x7), (8, .int x8)] []) : ∀ (I : ax_I) (x1 : Int32) (x2 : Int32) (x3 : Int32) (x4 : Int32) (x5 : Int32) (x6 : Int32) (x8 : Int32) (s0 : Int32), f_X7_share_148 r92 I x1 x2 x3 x4 x5 x6 x8 s0 = some rv → AM p l e R s m args below meth c E B lay.length (ax_z lay) 10 (some (.int rv)) lay I J lay I J 148 [(0, .ref (B + 35)), (1, .int x1), (2, .int x2), (3, .int x3), (4, .int x4), (5, .int x5), (6, .int x6), (8, .int x8)] [.int s0] := by
  obtain ⟨hx, hb, hr, hml, hown, hts, hlocks, hK, hfr, hlo, hmc, hms, hnm⟩ := id C
  have hown : s.vm.findClass RX7 = some m.cls := hown
  intro I x1 x2 x3 x4 x5 x6 x8 s0 h H locs cells slots ls hc hz hR hS hl
  unfold f_X7_share_148 at h
  refine lv_iconst (v := 0) hx hb dX7_share_148 (by decide) ?_
  exact t_X7_share_149 hL C hr92 _ _ _ _ _ _ _ _ _ _ h H locs cells slots ls hc hz hR hS (lv_sub hl [0, 1, 2, 3, 4, 5, 6, 7] rfl)
set_option maxRecDepth 100000 in
set_option maxHeartbeats 4000000 in
theorem t_X7_share_177 {lay : List ax_S} {J : ax_J} {rv : Int32} (hL : ax_LL B lay) (C : ax_C p R s m args meth c yX7_share cX7_share 10 (some .int) 8 E mc ms) : ∀ (I : ax_I) (s0 : Int32) (s1 : Int32), f_X7_share_177 I s0 s1 = some rv → AM p l e R s m args below meth c E B lay.length (ax_z lay) 10 (some (.int rv)) lay I J lay I J 177 [] [.int s0, .int s1] := by
  obtain ⟨hx, hb, hr, hml, hown, hts, hlocks, hK, hfr, hlo, hmc, hms, hnm⟩ := id C
  have hown : s.vm.findClass RX7 = some m.cls := hown
  intro I s0 s1 h H locs cells slots ls hc hz hR hS hl
  unfold f_X7_share_177 at h
  refine lv_iadd hx hb dX7_share_177 ?_
  cases h
  exact ax_iret C hc hz hR hS rfl rfl dX7_share_178
set_option maxRecDepth 100000 in
set_option maxHeartbeats 4000000 in
theorem t_X7_share_92 {lay : List ax_S} {J : ax_J} {rv : Int32} (hL : ax_LL B lay) (C : ax_C p R s m args meth c yX7_share cX7_share 10 (some .int) 8 E mc ms) : ∀ (n : Nat) (I : ax_I) (x1 : Int32) (x2 : Int32) (x3 : Int32) (x4 : Int32) (x5 : Int32) (x6 : Int32) (x7 : Int32) (x8 : Int32), f_X7_share_92 n I x1 x2 x3 x4 x5 x6 x7 x8 = some rv → AM p l e R s m args below meth c E B lay.length (ax_z lay) 10 (some (.int rv)) lay I J lay I J 92 [(0, .ref (B + 35)), (1, .int x1), (2, .int x2), (3, .int x3), (4, .int x4), (5, .int x5), (6, .int x6), (7, .int x7), (8, .int x8)] [] := by
  obtain ⟨hx, hb, hr, hml, hown, hts, hlocks, hK, hfr, hlo, hmc, hms, hnm⟩ := id C
  have hown : s.vm.findClass RX7 = some m.cls := hown
  intro n
  induction n with
  | zero => intro I x1 x2 x3 x4 x5 x6 x7 x8 h; cases h
  | succ n ih =>
    intro I x1 x2 x3 x4 x5 x6 x7 x8 h H locs cells slots ls hc hz hR hS hl
    rw [f_X7_share_92] at h
    refine lv_iload hx hb dX7_share_92 (lv_at hl 8 rfl) ?_
    refine lv_iconst (v := 4) hx hb dX7_share_94 (by decide) ?_
    refine lv_icmp_ge (tgt := 158) hx hb dX7_share_95 (by decide) (fun q => ?_) (fun q => ?_)
    · have h := ax_ip q h
      refine lv_iload_n hx hb dX7_share_158 rfl (lv_at hl 2 rfl) ?_
      refine lv_iload hx hb dX7_share_159 (lv_at hl 5 rfl) ?_
      refine lv_imul hx hb dX7_share_161 ?_
      refine lv_iload hx hb dX7_share_162 (lv_at hl 4 rfl) ?_
      obtain ⟨hq, h⟩ := ax_ck h
      refine lv_idiv hx hb dX7_share_164 hq ?_
      refine lv_iload hx hb dX7_share_165 (lv_at hl 7 rfl) ?_
      refine lv_iload hx hb dX7_share_167 (lv_at hl 6 rfl) ?_
      refine lv_icmp_ge (tgt := 176) hx hb dX7_share_169 (by decide) (fun q => ?_) (fun q => ?_)
      · have h := ax_ip q h
        refine lv_iconst (v := 0) hx hb dX7_share_176 (by decide) ?_
        exact t_X7_share_177 hL C  _ _ _ h H locs cells slots ls hc hz hR hS (lv_sub hl [] rfl)
      · have h := ax_iN q h
        refine lv_iconst (v := 1) hx hb dX7_share_172 (by decide) ?_
        refine lv_goto (tgt := 177) hx hb dX7_share_173 (by decide) ?_
        exact t_X7_share_177 hL C  _ _ _ h H locs cells slots ls hc hz hR hS (lv_sub hl [] rfl)
    · have h := ax_iN q h
      refine lv_aload_n hx hb dX7_share_98 rfl (lv_at hl 0 rfl) ?_
      refine lv_iload hx hb dX7_share_99 (lv_at hl 8 rfl) ?_
      refine lv_iload_n hx hb dX7_share_101 rfl (lv_at hl 1 rfl) ?_
      obtain ⟨q102, hq, h⟩ := ax_bd h
      refine ax_cV (rest := []) (st1 := [.int q102]) C hc hz hS hR (M_X7_heldBy hL hq) yk_X7_heldBy in_X7_heldBy se_X7_heldBy ml_X7_176 (lk_35 hL) rfl rfl (by decide) rfl hl.1 (Nat.le_of_ble_eq_true rfl) rfl rfl dX7_share_102 (fun H locs hR hS => ?_)
      obtain ⟨q105, hq, h⟩ := ax_bd h
      refine ax_cS (rest := []) (st1 := [.int q105]) C hc hz hS hR (M_X7_ones  hq) yk_X7_ones st_X7_ones ml_X7_109 (by decide) rfl hl.1 (Nat.le_of_ble_eq_true rfl) rfl rfl dX7_share_105 (fun H locs hR hS => ?_)
      refine lv_istore (lv' := [(9, .int q105), (0, .ref (B + 35)), (1, .int x1), (2, .int x2), (3, .int x3), (4, .int x4), (5, .int x5), (6, .int x6), (7, .int x7), (8, .int x8)]) hx hb dX7_share_108 hl (by decide) rfl (fun ls hl => ?_)
      refine lv_iload hx hb dX7_share_110 (lv_at hl 7 rfl) ?_
      refine lv_iload_n hx hb dX7_share_112 rfl (lv_at hl 3 rfl) ?_
      refine lv_iload hx hb dX7_share_113 (lv_at hl 0 rfl) ?_
      refine lv_imul hx hb dX7_share_115 ?_
      refine lv_iload hx hb dX7_share_116 (lv_at hl 5 rfl) ?_
      obtain ⟨hq, h⟩ := ax_ck h
      refine lv_idiv hx hb dX7_share_118 hq ?_
      refine lv_isub hx hb dX7_share_119 ?_
      refine lv_istore (lv' := [(6, .int (x6 - ((x2 * q105) / x4))), (9, .int q105), (0, .ref (B + 35)), (1, .int x1), (2, .int x2), (3, .int x3), (4, .int x4), (5, .int x5), (7, .int x7), (8, .int x8)]) hx hb dX7_share_120 hl (by decide) rfl (fun ls hl => ?_)
      refine lv_iload hx hb dX7_share_122 (lv_at hl 8 rfl) ?_
      refine lv_iload hx hb dX7_share_124 (lv_at hl 1 rfl) ?_
      refine lv_iload hx hb dX7_share_126 (lv_at hl 7 rfl) ?_
      refine lv_icmp_gt (tgt := 144) hx hb dX7_share_128 (by decide) (fun q => ?_) (fun q => ?_)
      · have h := ax_ip q h
        exact t_X7_share_144 hL C ih _ _ _ _ _ _ _ _ _ h H locs cells slots ls hc hz hR hS (lv_sub hl [2, 3, 4, 5, 6, 7, 0, 9] rfl)
      · have h := ax_iN q h
        refine lv_iload hx hb dX7_share_131 (lv_at hl 1 rfl) ?_
        refine lv_iload hx hb dX7_share_133 (lv_at hl 7 rfl) ?_
        refine lv_icmp_ne (tgt := 148) hx hb dX7_share_135 (by decide) (fun q => ?_) (fun q => ?_)
        · have h := ax_iN q h
          exact t_X7_share_148 hL C ih _ _ _ _ _ _ _ _ _ h H locs cells slots ls hc hz hR hS (lv_sub hl [2, 3, 4, 5, 6, 7, 0, 9] rfl)
        · have h := ax_ip q h
          refine lv_iload hx hb dX7_share_138 (lv_at hl 9 rfl) ?_
          refine lv_iload_n hx hb dX7_share_140 rfl (lv_at hl 5 rfl) ?_
          refine lv_icmp_ge (tgt := 148) hx hb dX7_share_141 (by decide) (fun q => ?_) (fun q => ?_)
          · have h := ax_ip q h
            exact t_X7_share_148 hL C ih _ _ _ _ _ _ _ _ _ h H locs cells slots ls hc hz hR hS (lv_sub hl [2, 3, 4, 5, 6, 7, 0, 9] rfl)
          · have h := ax_iN q h
            exact t_X7_share_144 hL C ih _ _ _ _ _ _ _ _ _ h H locs cells slots ls hc hz hR hS (lv_sub hl [2, 3, 4, 5, 6, 7, 0, 9] rfl)
set_option maxRecDepth 100000 in
set_option maxHeartbeats 4000000 in
theorem t_X7_share_38 {lay : List ax_S} {J : ax_J} {rv : Int32} (hL : ax_LL B lay) (C : ax_C p R s m args meth c yX7_share cX7_share 10 (some .int) 8 E mc ms) : ∀ (n : Nat) (I : ax_I) (x1 : Int32) (x2 : Int32) (x3 : Int32) (x4 : Int32) (x5 : Int32), f_X7_share_38 n I x1 x2 x3 x4 x5 = some rv → AM p l e R s m args below meth c E B lay.length (ax_z lay) 10 (some (.int rv)) lay I J lay I J 38 [(0, .ref (B + 35)), (1, .int x1), (2, .int x2), (3, .int x3), (4, .int x4), (5, .int x5)] [] := by
  obtain ⟨hx, hb, hr, hml, hown, hts, hlocks, hK, hfr, hlo, hmc, hms, hnm⟩ := id C
  have hown : s.vm.findClass RX7 = some m.cls := hown
  intro n
  induction n with
  | zero => intro I x1 x2 x3 x4 x5 h; cases h
  | succ n ih =>
    intro I x1 x2 x3 x4 x5 h H locs cells slots ls hc hz hR hS hl
    rw [f_X7_share_38] at h
    refine lv_iload hx hb dX7_share_38 (lv_at hl 5 rfl) ?_
    refine lv_iconst (v := 4) hx hb dX7_share_40 (by decide) ?_
    refine lv_icmp_ge (tgt := 65) hx hb dX7_share_41 (by decide) (fun q => ?_) (fun q => ?_)
    · have h := ax_ip q h
      refine lv_iload hx hb dX7_share_65 (lv_at hl 4 rfl) ?_
      refine lv_if_ne (tgt := 72) hx hb dX7_share_67 (by decide) (fun q => ?_) (fun q => ?_)
      · have h := ax_iN q h
        refine lv_aload_n hx hb dX7_share_72 rfl (lv_at hl 0 rfl) ?_
        refine lv_iload_n hx hb dX7_share_73 rfl (lv_at hl 3 rfl) ?_
        refine lv_iload_n hx hb dX7_share_74 rfl (lv_at hl 1 rfl) ?_
        obtain ⟨q75, hq, h⟩ := ax_bd h
        refine ax_cV (rest := []) (st1 := [.int q75]) C hc hz hS hR (M_X7_heldBy hL hq) yk_X7_heldBy in_X7_heldBy se_X7_heldBy ml_X7_176 (lk_35 hL) rfl rfl (by decide) rfl hl.1 (Nat.le_of_ble_eq_true rfl) rfl rfl dX7_share_75 (fun H locs hR hS => ?_)
        obtain ⟨q78, hq, h⟩ := ax_bd h
        refine ax_cS (rest := []) (st1 := [.int q78]) C hc hz hS hR (M_X7_ones  hq) yk_X7_ones st_X7_ones ml_X7_109 (by decide) rfl hl.1 (Nat.le_of_ble_eq_true rfl) rfl rfl dX7_share_78 (fun H locs hR hS => ?_)
        refine lv_istore (lv' := [(5, .int q78), (0, .ref (B + 35)), (1, .int x1), (2, .int x2), (3, .int x3), (4, .int x4)]) hx hb dX7_share_81 hl (by decide) rfl (fun ls hl => ?_)
        refine lv_iload_n hx hb dX7_share_83 rfl (lv_at hl 3 rfl) ?_
        refine lv_istore (lv' := [(6, .int x2), (5, .int q78), (0, .ref (B + 35)), (1, .int x1), (2, .int x2), (3, .int x3), (4, .int x4)]) hx hb dX7_share_84 hl (by decide) rfl (fun ls hl => ?_)
        refine lv_iconst (v := 0) hx hb dX7_share_86 (by decide) ?_
        refine lv_istore (lv' := [(7, .int 0), (6, .int x2), (5, .int q78), (0, .ref (B + 35)), (1, .int x1), (2, .int x2), (3, .int x3), (4, .int x4)]) hx hb dX7_share_87 hl (by decide) rfl (fun ls hl => ?_)
        refine lv_iconst (v := 0) hx hb dX7_share_89 (by decide) ?_
        refine lv_istore (lv' := [(8, .int 0), (7, .int 0), (6, .int x2), (5, .int q78), (0, .ref (B + 35)), (1, .int x1), (2, .int x2), (3, .int x3), (4, .int x4)]) hx hb dX7_share_90 hl (by decide) rfl (fun ls hl => ?_)
        exact t_X7_share_92 hL C  ax_N _ _ _ _ _ _ _ _ _ h H locs cells slots ls hc hz hR hS (lv_sub hl [4, 5, 6, 7, 8, 3, 2, 1, 0] rfl)
      · have h := ax_ip q h
        refine lv_iconst (v := 0) hx hb dX7_share_70 (by decide) ?_
        cases h
        exact ax_iret C hc hz hR hS rfl rfl dX7_share_71
    · have h := ax_iN q h
      refine lv_iload hx hb dX7_share_44 (lv_at hl 4 rfl) ?_
      refine lv_aload_n hx hb dX7_share_46 rfl (lv_at hl 0 rfl) ?_
      refine lv_iload hx hb dX7_share_47 (lv_at hl 5 rfl) ?_
      refine lv_iload_n hx hb dX7_share_49 rfl (lv_at hl 1 rfl) ?_
      obtain ⟨q50, hq, h⟩ := ax_bd h
      refine ax_cV (rest := [.int x4]) (st1 := [.int q50, .int x4]) C hc hz hS hR (M_X7_heldBy hL hq) yk_X7_heldBy in_X7_heldBy se_X7_heldBy ml_X7_176 (lk_35 hL) rfl rfl (by decide) rfl hl.1 (Nat.le_of_ble_eq_true rfl) rfl rfl dX7_share_50 (fun H locs hR hS => ?_)
      obtain ⟨q53, hq, h⟩ := ax_bd h
      refine ax_cS (rest := [.int x4]) (st1 := [.int q53, .int x4]) C hc hz hS hR (M_X7_ones  hq) yk_X7_ones st_X7_ones ml_X7_109 (by decide) rfl hl.1 (Nat.le_of_ble_eq_true rfl) rfl rfl dX7_share_53 (fun H locs hR hS => ?_)
      refine lv_iadd hx hb dX7_share_56 ?_
      refine lv_istore (lv' := [(4, .int (x4 + q53)), (0, .ref (B + 35)), (1, .int x1), (2, .int x2), (3, .int x3), (5, .int x5)]) hx hb dX7_share_57 hl (by decide) rfl (fun ls hl => ?_)
      refine lv_iinc (v := (x5 + 1)) (lv' := [(5, .int (x5 + 1)), (4, .int (x4 + q53)), (0, .ref (B + 35)), (1, .int x1), (2, .int x2), (3, .int x3)]) hx hb dX7_share_59 hl (k := 5) rfl rfl (by decide) rfl (fun ls hl => ?_)
      refine lv_goto (tgt := 38) hx hb dX7_share_62 (by decide) ?_
      exact ih _ _ _ _ _ _ h H locs cells slots ls hc hz hR hS (lv_sub hl [2, 3, 4, 5, 1, 0] rfl)
set_option maxRecDepth 100000 in
set_option maxHeartbeats 4000000 in
theorem t_X7_share_0 {lay : List ax_S} {J : ax_J} {rv : Int32} (hL : ax_LL B lay) (C : ax_C p R s m args meth c yX7_share cX7_share 10 (some .int) 8 E mc ms) : ∀ (I : ax_I) (x1 : Int32) (x2 : Int32) (x3 : Int32), F_X7_share I x1 x2 x3 = some rv → AM p l e R s m args below meth c E B lay.length (ax_z lay) 10 (some (.int rv)) lay I J lay I J 0 [(0, .ref (B + 35)), (1, .int x1), (2, .int x2), (3, .int x3)] [] := by
  obtain ⟨hx, hb, hr, hml, hown, hts, hlocks, hK, hfr, hlo, hmc, hms, hnm⟩ := id C
  have hown : s.vm.findClass RX7 = some m.cls := hown
  intro I x1 x2 x3 h H locs cells slots ls hc hz hR hS hl
  unfold F_X7_share at h
  refine lv_aload_n hx hb dX7_share_0 rfl (lv_at hl 0 rfl) ?_
  refine lv_iload_n hx hb dX7_share_1 rfl (lv_at hl 1 rfl) ?_
  obtain ⟨q2, hq, h⟩ := ax_bd h
  refine ax_cV (rest := []) (st1 := [.int q2]) C hc hz hS hR (M_X7_isChild hL hq) yk_X7_isChild in_X7_isChild se_X7_isChild ml_X7_113 (lk_35 hL) rfl rfl (by decide) rfl hl.1 (Nat.le_of_ble_eq_true rfl) rfl rfl dX7_share_2 (fun H locs hR hS => ?_)
  refine lv_if_eq (tgt := 15) hx hb dX7_share_5 (by decide) (fun q => ?_) (fun q => ?_)
  · have h := ax_ip q h
    refine lv_iconst (v := (-1)) hx hb dX7_share_15 (by decide) ?_
    cases h
    exact ax_iret C hc hz hR hS rfl rfl dX7_share_16
  · have h := ax_iN q h
    refine lv_iload_n hx hb dX7_share_8 rfl (lv_at hl 3 rfl) ?_
    obtain ⟨q9, hq, h⟩ := ax_bd h
    refine ax_cS (rest := []) (st1 := [.int q9]) C hc hz hS hR (M_X7_isParish  hq) yk_X7_isParish st_X7_isParish ml_X7_120 (by decide) rfl hl.1 (Nat.le_of_ble_eq_true rfl) rfl rfl dX7_share_9 (fun H locs hR hS => ?_)
    refine lv_if_ne (tgt := 17) hx hb dX7_share_12 (by decide) (fun q => ?_) (fun q => ?_)
    · have h := ax_iN q h
      refine lv_iload_n hx hb dX7_share_17 rfl (lv_at hl 2 rfl) ?_
      refine lv_i2l hx hb dX7_share_18 rfl ?_
      refine lv_lconst (v := 0) hx hb dX7_share_19 (by decide) ?_
      refine lv_ldc2 hx hb hown (hts _ ct_X7_123) dX7_share_20 ?_
      obtain ⟨q23, hq, h⟩ := ax_bd h
      refine ax_cS (rest := []) (st1 := [.int q23]) C hc hz hS hR (M_X7_in  hq) yk_X7_in st_X7_in ml_X7_89 (by decide) rfl hl.1 (Nat.le_of_ble_eq_true rfl) rfl rfl dX7_share_23 (fun H locs hR hS => ?_)
      refine lv_if_ne (tgt := 32) hx hb dX7_share_26 (by decide) (fun q => ?_) (fun q => ?_)
      · have h := ax_iN q h
        refine lv_iconst (v := 0) hx hb dX7_share_32 (by decide) ?_
        refine lv_istore (lv' := [(4, .int 0), (0, .ref (B + 35)), (1, .int x1), (2, .int x2), (3, .int x3)]) hx hb dX7_share_33 hl (by decide) rfl (fun ls hl => ?_)
        refine lv_iconst (v := 0) hx hb dX7_share_35 (by decide) ?_
        refine lv_istore (lv' := [(5, .int 0), (4, .int 0), (0, .ref (B + 35)), (1, .int x1), (2, .int x2), (3, .int x3)]) hx hb dX7_share_36 hl (by decide) rfl (fun ls hl => ?_)
        exact t_X7_share_38 hL C  ax_N _ _ _ _ _ _ h H locs cells slots ls hc hz hR hS (lv_sub hl [2, 3, 4, 5, 1, 0] rfl)
      · have h := ax_ip q h
        refine lv_bipush (v := (-2)) hx hb dX7_share_29 (by decide) ?_
        cases h
        exact ax_iret C hc hz hR hS rfl rfl dX7_share_31
    · have h := ax_ip q h
      refine lv_iconst (v := (-1)) hx hb dX7_share_15 (by decide) ?_
      cases h
      exact ax_iret C hc hz hR hS rfl rfl dX7_share_16
theorem M_X7_share {l : Launch} {E : ax_E} {B : Nat} {lay : List ax_S} {I : ax_I} {J : ax_J} {x1 : Int32} {x2 : Int32} {x3 : Int32} {rv : Int32} (hL : ax_LL B lay) (h : F_X7_share I x1 x2 x3 = some rv) : Cm l yX7_share cX7_share 10 (some .int) 8 E B [.ref (B + 35), .int x1, .int x2, .int x3] lay I J (some (.int rv)) lay I J :=
  ax_met (by decide) (Nat.le_of_ble_eq_true rfl) (fun p e R s m args below meth c C => t_X7_share_0 hL C _ _ _ _ h)
def f_X7_seen_76 (I : ax_I) (s0 : Int32) (s1 : Int32) : Option (Int32 × ax_I) :=
  if ax_in s1 8 = true then some (((ax_u (ax_u I 49 s1.toNatClampNeg s0) 35 16 (((ax_u I 49 s1.toNatClampNeg s0) 35 16) + 1)) 35 16), (ax_u (ax_u I 49 s1.toNatClampNeg s0) 35 16 (((ax_u I 49 s1.toNatClampNeg s0) 35 16) + 1))) else none
def f_X7_seen_59 (I : ax_I) (x3 : Int32) : Option (Int32 × ax_I) :=
  if x3 = 0 then f_X7_seen_76 I 0 (I 35 16) else f_X7_seen_76 I 1 (I 35 16)
def F_X7_seen (I : ax_I) (x1 : Int32) (x2 : Int32) (x3 : Int32) : Option (Int32 × ax_I) :=
  (F_X7_in I ((x1 : Int32).toInt64) 0 9).bind (fun q6 => if q6 = 0 then some ((-2), I) else (F_X7_in I ((x2 : Int32).toInt64) 0 9).bind (fun q18 => if q18 = 0 then some ((-2), I) else if (I 35 16) = 8 then some ((-4), I) else if ax_in (I 35 16) 8 = true then if ax_in ((ax_u I 47 (I 35 16).toNatClampNeg x1) 35 16) 8 = true then f_X7_seen_59 (ax_u (ax_u I 47 (I 35 16).toNatClampNeg x1) 48 ((ax_u I 47 (I 35 16).toNatClampNeg x1) 35 16).toNatClampNeg x2) x3 else none else none))
set_option maxRecDepth 100000 in
set_option maxHeartbeats 4000000 in
theorem t_X7_seen_76 {lay : List ax_S} {J : ax_J} {rv : Int32} {I9 : ax_I} (hL : ax_LL B lay) (C : ax_C p R s m args meth c yX7_seen cX7_seen 4 (some .int) 4 E mc ms) : ∀ (I : ax_I) (s0 : Int32) (s1 : Int32), f_X7_seen_76 I s0 s1 = some (rv, I9) → AM p l e R s m args below meth c E B lay.length (ax_z lay) 4 (some (.int rv)) lay I9 J lay I J 76 [(0, .ref (B + 35))] [.int s0, .int s1, .ref (B + 49)] := by
  obtain ⟨hx, hb, hr, hml, hown, hts, hlocks, hK, hfr, hlo, hmc, hms, hnm⟩ := id C
  have hown : s.vm.findClass RX7 = some m.cls := hown
  intro I s0 s1 h H locs cells slots ls hc hz hR hS hl
  unfold f_X7_seen_76 at h
  obtain ⟨hq, h⟩ := ax_ck h
  refine ax_iast hx hb hK hR hS (lk_49 hL) hq dX7_seen_76 (fun H locs hR hS => ?_)
  refine lv_aload_n hx hb dX7_seen_77 rfl (lv_at hl 0 rfl) ?_
  refine lv_dup hx hb dX7_seen_78 rfl ?_
  refine ax_getI hx hb hts hown hK hR fl_X7_285 (lk_35 hL) rfl dX7_seen_79 ?_
  refine lv_iconst (v := 1) hx hb dX7_seen_82 (by decide) ?_
  refine lv_iadd hx hb dX7_seen_83 ?_
  refine ax_putI hx hb hts hown hK hR hS fp_X7_285 (lk_35 hL) rfl rfl rfl dX7_seen_84 (fun H locs hR hS => ?_)
  refine lv_aload_n hx hb dX7_seen_87 rfl (lv_at hl 0 rfl) ?_
  refine ax_getI hx hb hts hown hK hR fl_X7_285 (lk_35 hL) rfl dX7_seen_88 ?_
  cases h
  exact ax_iret C hc hz hR hS rfl rfl dX7_seen_91
set_option maxRecDepth 100000 in
set_option maxHeartbeats 4000000 in
theorem t_X7_seen_59 {lay : List ax_S} {J : ax_J} {rv : Int32} {I9 : ax_I} (hL : ax_LL B lay) (C : ax_C p R s m args meth c yX7_seen cX7_seen 4 (some .int) 4 E mc ms) : ∀ (I : ax_I) (x3 : Int32), f_X7_seen_59 I x3 = some (rv, I9) → AM p l e R s m args below meth c E B lay.length (ax_z lay) 4 (some (.int rv)) lay I9 J lay I J 59 [(0, .ref (B + 35)), (3, .int x3)] [] := by
  obtain ⟨hx, hb, hr, hml, hown, hts, hlocks, hK, hfr, hlo, hmc, hms, hnm⟩ := id C
  have hown : s.vm.findClass RX7 = some m.cls := hown
  intro I x3 h H locs cells slots ls hc hz hR hS hl
  unfold f_X7_seen_59 at h
  refine lv_aload_n hx hb dX7_seen_59 rfl (lv_at hl 0 rfl) ?_
  refine ax_getV hx hb hts hown hK hR fl_X7_49 (lk_35 hL) rfl dX7_seen_60 ?_
  refine lv_aload_n hx hb dX7_seen_63 rfl (lv_at hl 0 rfl) ?_
  refine ax_getI hx hb hts hown hK hR fl_X7_285 (lk_35 hL) rfl dX7_seen_64 ?_
  refine lv_iload_n hx hb dX7_seen_67 rfl (lv_at hl 1 rfl) ?_
  refine lv_if_eq (tgt := 75) hx hb dX7_seen_68 (by decide) (fun q => ?_) (fun q => ?_)
  · have h := ax_ip q h
    refine lv_iconst (v := 0) hx hb dX7_seen_75 (by decide) ?_
    exact t_X7_seen_76 hL C  _ _ _ h H locs cells slots ls hc hz hR hS (lv_sub hl [0] rfl)
  · have h := ax_iN q h
    refine lv_iconst (v := 1) hx hb dX7_seen_71 (by decide) ?_
    refine lv_goto (tgt := 76) hx hb dX7_seen_72 (by decide) ?_
    exact t_X7_seen_76 hL C  _ _ _ h H locs cells slots ls hc hz hR hS (lv_sub hl [0] rfl)
set_option maxRecDepth 100000 in
set_option maxHeartbeats 4000000 in
theorem t_X7_seen_0 {lay : List ax_S} {J : ax_J} {rv : Int32} {I9 : ax_I} (hL : ax_LL B lay) (C : ax_C p R s m args meth c yX7_seen cX7_seen 4 (some .int) 4 E mc ms) : ∀ (I : ax_I) (x1 : Int32) (x2 : Int32) (x3 : Int32), F_X7_seen I x1 x2 x3 = some (rv, I9) → AM p l e R s m args below meth c E B lay.length (ax_z lay) 4 (some (.int rv)) lay I9 J lay I J 0 [(0, .ref (B + 35)), (1, .int x1), (2, .int x2), (3, .int x3)] [] := by
  obtain ⟨hx, hb, hr, hml, hown, hts, hlocks, hK, hfr, hlo, hmc, hms, hnm⟩ := id C
  have hown : s.vm.findClass RX7 = some m.cls := hown
  intro I x1 x2 x3 h H locs cells slots ls hc hz hR hS hl
  unfold F_X7_seen at h
  refine lv_iload_n hx hb dX7_seen_0 rfl (lv_at hl 1 rfl) ?_
  refine lv_i2l hx hb dX7_seen_1 rfl ?_
  refine lv_lconst (v := 0) hx hb dX7_seen_2 (by decide) ?_
  refine lv_ldc2 hx hb hown (hts _ ct_X7_118) dX7_seen_3 ?_
  obtain ⟨q6, hq, h⟩ := ax_bd h
  refine ax_cS (rest := []) (st1 := [.int q6]) C hc hz hS hR (M_X7_in  hq) yk_X7_in st_X7_in ml_X7_89 (by decide) rfl hl.1 (Nat.le_of_ble_eq_true rfl) rfl rfl dX7_seen_6 (fun H locs hR hS => ?_)
  refine lv_if_eq (tgt := 24) hx hb dX7_seen_9 (by decide) (fun q => ?_) (fun q => ?_)
  · have h := ax_ip q h
    refine lv_bipush (v := (-2)) hx hb dX7_seen_24 (by decide) ?_
    cases h
    exact ax_iret C hc hz hR hS rfl rfl dX7_seen_26
  · have h := ax_iN q h
    refine lv_iload_n hx hb dX7_seen_12 rfl (lv_at hl 2 rfl) ?_
    refine lv_i2l hx hb dX7_seen_13 rfl ?_
    refine lv_lconst (v := 0) hx hb dX7_seen_14 (by decide) ?_
    refine lv_ldc2 hx hb hown (hts _ ct_X7_118) dX7_seen_15 ?_
    obtain ⟨q18, hq, h⟩ := ax_bd h
    refine ax_cS (rest := []) (st1 := [.int q18]) C hc hz hS hR (M_X7_in  hq) yk_X7_in st_X7_in ml_X7_89 (by decide) rfl hl.1 (Nat.le_of_ble_eq_true rfl) rfl rfl dX7_seen_18 (fun H locs hR hS => ?_)
    refine lv_if_ne (tgt := 27) hx hb dX7_seen_21 (by decide) (fun q => ?_) (fun q => ?_)
    · have h := ax_iN q h
      refine lv_aload_n hx hb dX7_seen_27 rfl (lv_at hl 0 rfl) ?_
      refine ax_getI hx hb hts hown hK hR fl_X7_285 (lk_35 hL) rfl dX7_seen_28 ?_
      refine lv_bipush (v := 8) hx hb dX7_seen_31 (by decide) ?_
      refine lv_icmp_ne (tgt := 39) hx hb dX7_seen_33 (by decide) (fun q => ?_) (fun q => ?_)
      · have h := ax_iN q h
        refine lv_aload_n hx hb dX7_seen_39 rfl (lv_at hl 0 rfl) ?_
        refine ax_getV hx hb hts hown hK hR fl_X7_43 (lk_35 hL) rfl dX7_seen_40 ?_
        refine lv_aload_n hx hb dX7_seen_43 rfl (lv_at hl 0 rfl) ?_
        refine ax_getI hx hb hts hown hK hR fl_X7_285 (lk_35 hL) rfl dX7_seen_44 ?_
        refine lv_iload_n hx hb dX7_seen_47 rfl (lv_at hl 1 rfl) ?_
        obtain ⟨hq, h⟩ := ax_ck h
        refine ax_iast hx hb hK hR hS (lk_47 hL) hq dX7_seen_48 (fun H locs hR hS => ?_)
        refine lv_aload_n hx hb dX7_seen_49 rfl (lv_at hl 0 rfl) ?_
        refine ax_getV hx hb hts hown hK hR fl_X7_46 (lk_35 hL) rfl dX7_seen_50 ?_
        refine lv_aload_n hx hb dX7_seen_53 rfl (lv_at hl 0 rfl) ?_
        refine ax_getI hx hb hts hown hK hR fl_X7_285 (lk_35 hL) rfl dX7_seen_54 ?_
        refine lv_iload_n hx hb dX7_seen_57 rfl (lv_at hl 2 rfl) ?_
        obtain ⟨hq, h⟩ := ax_ck h
        refine ax_iast hx hb hK hR hS (lk_48 hL) hq dX7_seen_58 (fun H locs hR hS => ?_)
        exact t_X7_seen_59 hL C  _ _ h H locs cells slots ls hc hz hR hS (lv_sub hl [0, 3] rfl)
      · have h := ax_ip q h
        refine lv_bipush (v := (-4)) hx hb dX7_seen_36 (by decide) ?_
        cases h
        exact ax_iret C hc hz hR hS rfl rfl dX7_seen_38
    · have h := ax_ip q h
      refine lv_bipush (v := (-2)) hx hb dX7_seen_24 (by decide) ?_
      cases h
      exact ax_iret C hc hz hR hS rfl rfl dX7_seen_26
theorem M_X7_seen {l : Launch} {E : ax_E} {B : Nat} {lay : List ax_S} {I : ax_I} {J : ax_J} {x1 : Int32} {x2 : Int32} {x3 : Int32} {rv : Int32} {I9 : ax_I} (hL : ax_LL B lay) (h : F_X7_seen I x1 x2 x3 = some (rv, I9)) : Cm l yX7_seen cX7_seen 4 (some .int) 4 E B [.ref (B + 35), .int x1, .int x2, .int x3] lay I J (some (.int rv)) lay I9 J :=
  ax_met (by decide) (Nat.le_of_ble_eq_true rfl) (fun p e R s m args below meth c C => t_X7_seen_0 hL C _ _ _ _ h)
def F_X7_forget (I : ax_I) : Option (Int32 × ax_I) :=
  some ((I 35 16), (ax_u I 35 16 0))
set_option maxRecDepth 100000 in
set_option maxHeartbeats 4000000 in
theorem t_X7_forget_0 {lay : List ax_S} {J : ax_J} {rv : Int32} {I9 : ax_I} (hL : ax_LL B lay) (C : ax_C p R s m args meth c yX7_forget cX7_forget 2 (some .int) 2 E mc ms) : ∀ (I : ax_I), F_X7_forget I = some (rv, I9) → AM p l e R s m args below meth c E B lay.length (ax_z lay) 2 (some (.int rv)) lay I9 J lay I J 0 [(0, .ref (B + 35))] [] := by
  obtain ⟨hx, hb, hr, hml, hown, hts, hlocks, hK, hfr, hlo, hmc, hms, hnm⟩ := id C
  have hown : s.vm.findClass RX7 = some m.cls := hown
  intro I h H locs cells slots ls hc hz hR hS hl
  unfold F_X7_forget at h
  refine lv_aload_n hx hb dX7_forget_0 rfl (lv_at hl 0 rfl) ?_
  refine ax_getI hx hb hts hown hK hR fl_X7_285 (lk_35 hL) rfl dX7_forget_1 ?_
  refine lv_istore_n (lv' := [(1, .int (I 35 16)), (0, .ref (B + 35))]) hx hb dX7_forget_4 rfl hl (by decide) rfl (fun ls hl => ?_)
  refine lv_aload_n hx hb dX7_forget_5 rfl (lv_at hl 1 rfl) ?_
  refine lv_iconst (v := 0) hx hb dX7_forget_6 (by decide) ?_
  refine ax_putI hx hb hts hown hK hR hS fp_X7_285 (lk_35 hL) rfl rfl rfl dX7_forget_7 (fun H locs hR hS => ?_)
  refine lv_iload_n hx hb dX7_forget_10 rfl (lv_at hl 0 rfl) ?_
  cases h
  exact ax_iret C hc hz hR hS rfl rfl dX7_forget_11
theorem M_X7_forget {l : Launch} {E : ax_E} {B : Nat} {lay : List ax_S} {I : ax_I} {J : ax_J} {rv : Int32} {I9 : ax_I} (hL : ax_LL B lay) (h : F_X7_forget I = some (rv, I9)) : Cm l yX7_forget cX7_forget 2 (some .int) 2 E B [.ref (B + 35)] lay I J (some (.int rv)) lay I9 J :=
  ax_met (by decide) (Nat.le_of_ble_eq_true rfl) (fun p e R s m args below meth c C => t_X7_forget_0 hL C _ h)
def F_X7_makes (I : ax_I) (x0 : Int32) (x1 : Int32) (x2 : Int32) : Option Int32 :=
  if x1 < (x0 / 10) then some 0 else if (x0 - x0 / 10 * 10) < x2 then some 0 else some 1
set_option maxRecDepth 100000 in
set_option maxHeartbeats 4000000 in
theorem t_X7_makes_0 {lay : List ax_S} {J : ax_J} {rv : Int32} (C : ax_C p R s m args meth c yX7_makes cX7_makes 3 (some .boolean) 2 E mc ms) : ∀ (I : ax_I) (x0 : Int32) (x1 : Int32) (x2 : Int32), F_X7_makes I x0 x1 x2 = some rv → AM p l e R s m args below meth c E B lay.length (ax_z lay) 3 (some (.int rv)) lay I J lay I J 0 [(0, .int x0), (1, .int x1), (2, .int x2)] [] := by
  obtain ⟨hx, hb, hr, hml, hown, hts, hlocks, hK, hfr, hlo, hmc, hms, hnm⟩ := id C
  have hown : s.vm.findClass RX7 = some m.cls := hown
  intro I x0 x1 x2 h H locs cells slots ls hc hz hR hS hl
  unfold F_X7_makes at h
  refine lv_iload_n hx hb dX7_makes_0 rfl (lv_at hl 1 rfl) ?_
  refine lv_iload_n hx hb dX7_makes_1 rfl (lv_at hl 0 rfl) ?_
  refine lv_bipush (v := 10) hx hb dX7_makes_2 (by decide) ?_
  refine lv_idiv hx hb dX7_makes_4 (by decide) ?_
  refine lv_icmp_lt (tgt := 20) hx hb dX7_makes_5 (by decide) (fun q => ?_) (fun q => ?_)
  · have h := ax_ip q h
    refine lv_iconst (v := 0) hx hb dX7_makes_20 (by decide) ?_
    cases h
    exact ax_iret C hc hz hR hS rfl ax_bool_n0 dX7_makes_21
  · have h := ax_iN q h
    refine lv_iload_n hx hb dX7_makes_8 rfl (lv_at hl 2 rfl) ?_
    refine lv_iload_n hx hb dX7_makes_9 rfl (lv_at hl 0 rfl) ?_
    refine lv_bipush (v := 10) hx hb dX7_makes_10 (by decide) ?_
    refine lv_irem hx hb dX7_makes_12 (by decide) ?_
    refine lv_icmp_gt (tgt := 20) hx hb dX7_makes_13 (by decide) (fun q => ?_) (fun q => ?_)
    · have h := ax_ip q h
      refine lv_iconst (v := 0) hx hb dX7_makes_20 (by decide) ?_
      cases h
      exact ax_iret C hc hz hR hS rfl ax_bool_n0 dX7_makes_21
    · have h := ax_iN q h
      refine lv_iconst (v := 1) hx hb dX7_makes_16 (by decide) ?_
      refine lv_goto (tgt := 21) hx hb dX7_makes_17 (by decide) ?_
      cases h
      exact ax_iret C hc hz hR hS rfl ax_bool_n1 dX7_makes_21
theorem M_X7_makes {l : Launch} {E : ax_E} {B : Nat} {lay : List ax_S} {I : ax_I} {J : ax_J} {x0 : Int32} {x1 : Int32} {x2 : Int32} {rv : Int32} (h : F_X7_makes I x0 x1 x2 = some rv) : Cm l yX7_makes cX7_makes 3 (some .boolean) 2 E B [.int x0, .int x1, .int x2] lay I J (some (.int rv)) lay I J :=
  ax_met (by decide) (Nat.le_of_ble_eq_true rfl) (fun p e R s m args below meth c C => t_X7_makes_0  C _ _ _ _ h)
def f_X7_fits_55 (r4 : ax_I → Int32 → Int32 → Int32 → Option (Int32)) (I : ax_I) (x1 : Int32) (x3 : Int32) (s0 : Int32) : Option Int32 :=
  r4 I x1 s0 (x3 + 1)
def f_X7_fits_54 (r4 : ax_I → Int32 → Int32 → Int32 → Option (Int32)) (I : ax_I) (x1 : Int32) (x3 : Int32) : Option Int32 :=
  f_X7_fits_55 r4 I x1 x3 0
def f_X7_fits_47 (r4 : ax_I → Int32 → Int32 → Int32 → Option (Int32)) (I : ax_I) (x1 : Int32) (x3 : Int32) (s0 : Int32) (s1 : Int32) : Option Int32 :=
  if s1 = s0 then f_X7_fits_55 r4 I x1 x3 1 else f_X7_fits_54 r4 I x1 x3
def f_X7_fits_4 : Nat → ax_I → Int32 → Int32 → Int32 → Option Int32
  | 0, _, _, _, _ => none
  | n + 1, I, x1, x2, x3 => if (I 35 16) ≤ x3 then (if ax_bool x2 = true then some x2 else none) else if x2 = 0 then f_X7_fits_54 (f_X7_fits_4 n) I x1 x3 else if ax_in x3 8 = true then if ax_in x3 8 = true then (F_X7_makes I x1 (I 47 x3.toNatClampNeg) (I 48 x3.toNatClampNeg)).bind (fun q29 => if ax_in x3 8 = true then if (I 49 x3.toNatClampNeg) = 1 then f_X7_fits_47 (f_X7_fits_4 n) I x1 x3 1 q29 else f_X7_fits_47 (f_X7_fits_4 n) I x1 x3 0 q29 else none) else none else none
def F_X7_fits (I : ax_I) (x1 : Int32) : Option Int32 :=
  f_X7_fits_4 ax_N I x1 1 0
set_option maxRecDepth 100000 in
set_option maxHeartbeats 4000000 in
theorem t_X7_fits_55 {lay : List ax_S} {J : ax_J} {rv : Int32} (hL : ax_LL B lay) (C : ax_C p R s m args meth c yX7_fits cX7_fits 4 (some .boolean) 4 E mc ms) {r4 : ax_I → Int32 → Int32 → Int32 → Option (Int32)} (hr4 : ∀ (I : ax_I) (x1 : Int32) (x2 : Int32) (x3 : Int32), r4 I x1 x2 x3 = some rv → AM p l e R s m args below meth c E B lay.length (ax_z lay) 4 (some (.int rv)) lay I J lay I J 4 [(0, .ref (B + 35)), (1, .int x1), (2, .int x2), (3, .int x3)] []) : ∀ (I : ax_I) (x1 : Int32) (x3 : Int32) (s0 : Int32), f_X7_fits_55 r4 I x1 x3 s0 = some rv → AM p l e R s m args below meth c E B lay.length (ax_z lay) 4 (some (.int rv)) lay I J lay I J 55 [(0, .ref (B + 35)), (1, .int x1), (3, .int x3)] [.int s0] := by
  obtain ⟨hx, hb, hr, hml, hown, hts, hlocks, hK, hfr, hlo, hmc, hms, hnm⟩ := id C
  have hown : s.vm.findClass RX7 = some m.cls := hown
  intro I x1 x3 s0 h H locs cells slots ls hc hz hR hS hl
  unfold f_X7_fits_55 at h
  refine lv_istore_n (lv' := [(2, .int s0), (0, .ref (B + 35)), (1, .int x1), (3, .int x3)]) hx hb dX7_fits_55 rfl hl (by decide) rfl (fun ls hl => ?_)
  refine lv_iinc (v := (x3 + 1)) (lv' := [(3, .int (x3 + 1)), (2, .int s0), (0, .ref (B + 35)), (1, .int x1)]) hx hb dX7_fits_56 hl (k := 3) rfl rfl (by decide) rfl (fun ls hl => ?_)
  refine lv_goto (tgt := 4) hx hb dX7_fits_59 (by decide) ?_
  exact hr4 _ _ _ _ h H locs cells slots ls hc hz hR hS (lv_sub hl [2, 3, 1, 0] rfl)
set_option maxRecDepth 100000 in
set_option maxHeartbeats 4000000 in
theorem t_X7_fits_54 {lay : List ax_S} {J : ax_J} {rv : Int32} (hL : ax_LL B lay) (C : ax_C p R s m args meth c yX7_fits cX7_fits 4 (some .boolean) 4 E mc ms) {r4 : ax_I → Int32 → Int32 → Int32 → Option (Int32)} (hr4 : ∀ (I : ax_I) (x1 : Int32) (x2 : Int32) (x3 : Int32), r4 I x1 x2 x3 = some rv → AM p l e R s m args below meth c E B lay.length (ax_z lay) 4 (some (.int rv)) lay I J lay I J 4 [(0, .ref (B + 35)), (1, .int x1), (2, .int x2), (3, .int x3)] []) : ∀ (I : ax_I) (x1 : Int32) (x3 : Int32), f_X7_fits_54 r4 I x1 x3 = some rv → AM p l e R s m args below meth c E B lay.length (ax_z lay) 4 (some (.int rv)) lay I J lay I J 54 [(0, .ref (B + 35)), (1, .int x1), (3, .int x3)] [] := by
  obtain ⟨hx, hb, hr, hml, hown, hts, hlocks, hK, hfr, hlo, hmc, hms, hnm⟩ := id C
  have hown : s.vm.findClass RX7 = some m.cls := hown
  intro I x1 x3 h H locs cells slots ls hc hz hR hS hl
  unfold f_X7_fits_54 at h
  refine lv_iconst (v := 0) hx hb dX7_fits_54 (by decide) ?_
  exact t_X7_fits_55 hL C hr4 _ _ _ _ h H locs cells slots ls hc hz hR hS (lv_sub hl [0, 1, 2] rfl)
set_option maxRecDepth 100000 in
set_option maxHeartbeats 4000000 in
theorem t_X7_fits_47 {lay : List ax_S} {J : ax_J} {rv : Int32} (hL : ax_LL B lay) (C : ax_C p R s m args meth c yX7_fits cX7_fits 4 (some .boolean) 4 E mc ms) {r4 : ax_I → Int32 → Int32 → Int32 → Option (Int32)} (hr4 : ∀ (I : ax_I) (x1 : Int32) (x2 : Int32) (x3 : Int32), r4 I x1 x2 x3 = some rv → AM p l e R s m args below meth c E B lay.length (ax_z lay) 4 (some (.int rv)) lay I J lay I J 4 [(0, .ref (B + 35)), (1, .int x1), (2, .int x2), (3, .int x3)] []) : ∀ (I : ax_I) (x1 : Int32) (x3 : Int32) (s0 : Int32) (s1 : Int32), f_X7_fits_47 r4 I x1 x3 s0 s1 = some rv → AM p l e R s m args below meth c E B lay.length (ax_z lay) 4 (some (.int rv)) lay I J lay I J 47 [(0, .ref (B + 35)), (1, .int x1), (3, .int x3)] [.int s0, .int s1] := by
  obtain ⟨hx, hb, hr, hml, hown, hts, hlocks, hK, hfr, hlo, hmc, hms, hnm⟩ := id C
  have hown : s.vm.findClass RX7 = some m.cls := hown
  intro I x1 x3 s0 s1 h H locs cells slots ls hc hz hR hS hl
  unfold f_X7_fits_47 at h
  refine lv_icmp_ne (tgt := 54) hx hb dX7_fits_47 (by decide) (fun q => ?_) (fun q => ?_)
  · have h := ax_iN q h
    exact t_X7_fits_54 hL C hr4 _ _ _ h H locs cells slots ls hc hz hR hS (lv_sub hl [0, 1, 2] rfl)
  · have h := ax_ip q h
    refine lv_iconst (v := 1) hx hb dX7_fits_50 (by decide) ?_
    refine lv_goto (tgt := 55) hx hb dX7_fits_51 (by decide) ?_
    exact t_X7_fits_55 hL C hr4 _ _ _ _ h H locs cells slots ls hc hz hR hS (lv_sub hl [0, 1, 2] rfl)
set_option maxRecDepth 100000 in
set_option maxHeartbeats 4000000 in
theorem t_X7_fits_4 {lay : List ax_S} {J : ax_J} {rv : Int32} (hL : ax_LL B lay) (C : ax_C p R s m args meth c yX7_fits cX7_fits 4 (some .boolean) 4 E mc ms) : ∀ (n : Nat) (I : ax_I) (x1 : Int32) (x2 : Int32) (x3 : Int32), f_X7_fits_4 n I x1 x2 x3 = some rv → AM p l e R s m args below meth c E B lay.length (ax_z lay) 4 (some (.int rv)) lay I J lay I J 4 [(0, .ref (B + 35)), (1, .int x1), (2, .int x2), (3, .int x3)] [] := by
  obtain ⟨hx, hb, hr, hml, hown, hts, hlocks, hK, hfr, hlo, hmc, hms, hnm⟩ := id C
  have hown : s.vm.findClass RX7 = some m.cls := hown
  intro n
  induction n with
  | zero => intro I x1 x2 x3 h; cases h
  | succ n ih =>
    intro I x1 x2 x3 h H locs cells slots ls hc hz hR hS hl
    rw [f_X7_fits_4] at h
    refine lv_iload_n hx hb dX7_fits_4 rfl (lv_at hl 3 rfl) ?_
    refine lv_aload_n hx hb dX7_fits_5 rfl (lv_at hl 0 rfl) ?_
    refine ax_getI hx hb hts hown hK hR fl_X7_285 (lk_35 hL) rfl dX7_fits_6 ?_
    refine lv_icmp_ge (tgt := 62) hx hb dX7_fits_9 (by decide) (fun q => ?_) (fun q => ?_)
    · have h := ax_ip q h
      refine lv_iload_n hx hb dX7_fits_62 rfl (lv_at hl 2 rfl) ?_
      obtain ⟨hq, h⟩ := ax_ck h
      cases h
      exact ax_iret C hc hz hR hS rfl (ax_bool_n hq) dX7_fits_63
    · have h := ax_iN q h
      refine lv_iload_n hx hb dX7_fits_12 rfl (lv_at hl 2 rfl) ?_
      refine lv_if_eq (tgt := 54) hx hb dX7_fits_13 (by decide) (fun q => ?_) (fun q => ?_)
      · have h := ax_ip q h
        exact t_X7_fits_54 hL C ih _ _ _ h H locs cells slots ls hc hz hR hS (lv_sub hl [0, 1, 3] rfl)
      · have h := ax_iN q h
        refine lv_iload_n hx hb dX7_fits_16 rfl (lv_at hl 1 rfl) ?_
        refine lv_aload_n hx hb dX7_fits_17 rfl (lv_at hl 0 rfl) ?_
        refine ax_getV hx hb hts hown hK hR fl_X7_43 (lk_35 hL) rfl dX7_fits_18 ?_
        refine lv_iload_n hx hb dX7_fits_21 rfl (lv_at hl 3 rfl) ?_
        obtain ⟨hq, h⟩ := ax_ck h
        refine ax_iald hx hb hK hR (lk_47 hL) hq dX7_fits_22 ?_
        refine lv_aload_n hx hb dX7_fits_23 rfl (lv_at hl 0 rfl) ?_
        refine ax_getV hx hb hts hown hK hR fl_X7_46 (lk_35 hL) rfl dX7_fits_24 ?_
        refine lv_iload_n hx hb dX7_fits_27 rfl (lv_at hl 3 rfl) ?_
        obtain ⟨hq, h⟩ := ax_ck h
        refine ax_iald hx hb hK hR (lk_48 hL) hq dX7_fits_28 ?_
        obtain ⟨q29, hq, h⟩ := ax_bd h
        refine ax_cS (rest := []) (st1 := [.int q29]) C hc hz hS hR (M_X7_makes  hq) yk_X7_makes st_X7_makes ml_X7_288 (by decide) rfl hl.1 (Nat.le_of_ble_eq_true rfl) rfl rfl dX7_fits_29 (fun H locs hR hS => ?_)
        refine lv_aload_n hx hb dX7_fits_32 rfl (lv_at hl 0 rfl) ?_
        refine ax_getV hx hb hts hown hK hR fl_X7_49 (lk_35 hL) rfl dX7_fits_33 ?_
        refine lv_iload_n hx hb dX7_fits_36 rfl (lv_at hl 3 rfl) ?_
        obtain ⟨hq, h⟩ := ax_ck h
        refine ax_iald hx hb hK hR (lk_49 hL) hq dX7_fits_37 ?_
        refine lv_iconst (v := 1) hx hb dX7_fits_38 (by decide) ?_
        refine lv_icmp_ne (tgt := 46) hx hb dX7_fits_39 (by decide) (fun q => ?_) (fun q => ?_)
        · have h := ax_iN q h
          refine lv_iconst (v := 0) hx hb dX7_fits_46 (by decide) ?_
          exact t_X7_fits_47 hL C ih _ _ _ _ _ h H locs cells slots ls hc hz hR hS (lv_sub hl [0, 1, 3] rfl)
        · have h := ax_ip q h
          refine lv_iconst (v := 1) hx hb dX7_fits_42 (by decide) ?_
          refine lv_goto (tgt := 47) hx hb dX7_fits_43 (by decide) ?_
          exact t_X7_fits_47 hL C ih _ _ _ _ _ h H locs cells slots ls hc hz hR hS (lv_sub hl [0, 1, 3] rfl)
set_option maxRecDepth 100000 in
set_option maxHeartbeats 4000000 in
theorem t_X7_fits_0 {lay : List ax_S} {J : ax_J} {rv : Int32} (hL : ax_LL B lay) (C : ax_C p R s m args meth c yX7_fits cX7_fits 4 (some .boolean) 4 E mc ms) : ∀ (I : ax_I) (x1 : Int32), F_X7_fits I x1 = some rv → AM p l e R s m args below meth c E B lay.length (ax_z lay) 4 (some (.int rv)) lay I J lay I J 0 [(0, .ref (B + 35)), (1, .int x1)] [] := by
  obtain ⟨hx, hb, hr, hml, hown, hts, hlocks, hK, hfr, hlo, hmc, hms, hnm⟩ := id C
  have hown : s.vm.findClass RX7 = some m.cls := hown
  intro I x1 h H locs cells slots ls hc hz hR hS hl
  unfold F_X7_fits at h
  refine lv_iconst (v := 1) hx hb dX7_fits_0 (by decide) ?_
  refine lv_istore_n (lv' := [(2, .int 1), (0, .ref (B + 35)), (1, .int x1)]) hx hb dX7_fits_1 rfl hl (by decide) rfl (fun ls hl => ?_)
  refine lv_iconst (v := 0) hx hb dX7_fits_2 (by decide) ?_
  refine lv_istore_n (lv' := [(3, .int 0), (2, .int 1), (0, .ref (B + 35)), (1, .int x1)]) hx hb dX7_fits_3 rfl hl (by decide) rfl (fun ls hl => ?_)
  exact t_X7_fits_4 hL C  ax_N _ _ _ _ h H locs cells slots ls hc hz hR hS (lv_sub hl [2, 3, 1, 0] rfl)
theorem M_X7_fits {l : Launch} {E : ax_E} {B : Nat} {lay : List ax_S} {I : ax_I} {J : ax_J} {x1 : Int32} {rv : Int32} (hL : ax_LL B lay) (h : F_X7_fits I x1 = some rv) : Cm l yX7_fits cX7_fits 4 (some .boolean) 4 E B [.ref (B + 35), .int x1] lay I J (some (.int rv)) lay I J :=
  ax_met (by decide) (Nat.le_of_ble_eq_true rfl) (fun p e R s m args below meth c C => t_X7_fits_0 hL C _ _ h)
def f_X7_laws_28 (r4 : ax_I → Int32 → Int32 → Int32 → Option (Int32)) (I : ax_I) (x1 : Int32) (x2 : Int32) (x3 : Int32) : Option Int32 :=
  r4 I x1 x2 (x3 + 1)
def f_X7_laws_4 : Nat → ax_I → Int32 → Int32 → Int32 → Option Int32
  | 0, _, _, _, _ => none
  | n + 1, I, x1, x2, x3 => if 100 ≤ x3 then (if x1 = (-1) then some x2 else some (-6)) else (F_X7_fits I x3).bind (fun q12 => if q12 = 0 then f_X7_laws_28 (f_X7_laws_4 n) I x1 x2 x3 else if x2 = x1 then some x3 else f_X7_laws_28 (f_X7_laws_4 n) I x1 (x2 + 1) x3)
def F_X7_laws (I : ax_I) (x1 : Int32) : Option Int32 :=
  f_X7_laws_4 ax_N I x1 0 0
set_option maxRecDepth 100000 in
set_option maxHeartbeats 4000000 in
theorem t_X7_laws_28 {lay : List ax_S} {J : ax_J} {rv : Int32} (hL : ax_LL B lay) (C : ax_C p R s m args meth c yX7_laws cX7_laws 4 (some .int) 6 E mc ms) {r4 : ax_I → Int32 → Int32 → Int32 → Option (Int32)} (hr4 : ∀ (I : ax_I) (x1 : Int32) (x2 : Int32) (x3 : Int32), r4 I x1 x2 x3 = some rv → AM p l e R s m args below meth c E B lay.length (ax_z lay) 4 (some (.int rv)) lay I J lay I J 4 [(0, .ref (B + 35)), (1, .int x1), (2, .int x2), (3, .int x3)] []) : ∀ (I : ax_I) (x1 : Int32) (x2 : Int32) (x3 : Int32), f_X7_laws_28 r4 I x1 x2 x3 = some rv → AM p l e R s m args below meth c E B lay.length (ax_z lay) 4 (some (.int rv)) lay I J lay I J 28 [(0, .ref (B + 35)), (1, .int x1), (2, .int x2), (3, .int x3)] [] := by
  obtain ⟨hx, hb, hr, hml, hown, hts, hlocks, hK, hfr, hlo, hmc, hms, hnm⟩ := id C
  have hown : s.vm.findClass RX7 = some m.cls := hown
  intro I x1 x2 x3 h H locs cells slots ls hc hz hR hS hl
  unfold f_X7_laws_28 at h
  refine lv_iinc (v := (x3 + 1)) (lv' := [(3, .int (x3 + 1)), (0, .ref (B + 35)), (1, .int x1), (2, .int x2)]) hx hb dX7_laws_28 hl (k := 3) rfl rfl (by decide) rfl (fun ls hl => ?_)
  refine lv_goto (tgt := 4) hx hb dX7_laws_31 (by decide) ?_
  exact hr4 _ _ _ _ h H locs cells slots ls hc hz hR hS (lv_sub hl [1, 2, 3, 0] rfl)
set_option maxRecDepth 100000 in
set_option maxHeartbeats 4000000 in
theorem t_X7_laws_4 {lay : List ax_S} {J : ax_J} {rv : Int32} (hL : ax_LL B lay) (C : ax_C p R s m args meth c yX7_laws cX7_laws 4 (some .int) 6 E mc ms) : ∀ (n : Nat) (I : ax_I) (x1 : Int32) (x2 : Int32) (x3 : Int32), f_X7_laws_4 n I x1 x2 x3 = some rv → AM p l e R s m args below meth c E B lay.length (ax_z lay) 4 (some (.int rv)) lay I J lay I J 4 [(0, .ref (B + 35)), (1, .int x1), (2, .int x2), (3, .int x3)] [] := by
  obtain ⟨hx, hb, hr, hml, hown, hts, hlocks, hK, hfr, hlo, hmc, hms, hnm⟩ := id C
  have hown : s.vm.findClass RX7 = some m.cls := hown
  intro n
  induction n with
  | zero => intro I x1 x2 x3 h; cases h
  | succ n ih =>
    intro I x1 x2 x3 h H locs cells slots ls hc hz hR hS hl
    rw [f_X7_laws_4] at h
    refine lv_iload_n hx hb dX7_laws_4 rfl (lv_at hl 3 rfl) ?_
    refine lv_bipush (v := 100) hx hb dX7_laws_5 (by decide) ?_
    refine lv_icmp_ge (tgt := 34) hx hb dX7_laws_7 (by decide) (fun q => ?_) (fun q => ?_)
    · have h := ax_ip q h
      refine lv_iload_n hx hb dX7_laws_34 rfl (lv_at hl 1 rfl) ?_
      refine lv_iconst (v := (-1)) hx hb dX7_laws_35 (by decide) ?_
      refine lv_icmp_ne (tgt := 43) hx hb dX7_laws_36 (by decide) (fun q => ?_) (fun q => ?_)
      · have h := ax_iN q h
        refine lv_bipush (v := (-6)) hx hb dX7_laws_43 (by decide) ?_
        cases h
        exact ax_iret C hc hz hR hS rfl rfl dX7_laws_45
      · have h := ax_ip q h
        refine lv_iload_n hx hb dX7_laws_39 rfl (lv_at hl 2 rfl) ?_
        refine lv_goto (tgt := 45) hx hb dX7_laws_40 (by decide) ?_
        cases h
        exact ax_iret C hc hz hR hS rfl rfl dX7_laws_45
    · have h := ax_iN q h
      refine lv_aload_n hx hb dX7_laws_10 rfl (lv_at hl 0 rfl) ?_
      refine lv_iload_n hx hb dX7_laws_11 rfl (lv_at hl 3 rfl) ?_
      obtain ⟨q12, hq, h⟩ := ax_bd h
      refine ax_cV (rest := []) (st1 := [.int q12]) C hc hz hS hR (M_X7_fits hL hq) yk_X7_fits in_X7_fits se_X7_fits ml_X7_292 (lk_35 hL) rfl rfl (by decide) rfl hl.1 (Nat.le_of_ble_eq_true rfl) rfl rfl dX7_laws_12 (fun H locs hR hS => ?_)
      refine lv_if_eq (tgt := 28) hx hb dX7_laws_15 (by decide) (fun q => ?_) (fun q => ?_)
      · have h := ax_ip q h
        exact t_X7_laws_28 hL C ih _ _ _ _ h H locs cells slots ls hc hz hR hS (lv_sub hl [0, 1, 2, 3] rfl)
      · have h := ax_iN q h
        refine lv_iload_n hx hb dX7_laws_18 rfl (lv_at hl 2 rfl) ?_
        refine lv_iload_n hx hb dX7_laws_19 rfl (lv_at hl 1 rfl) ?_
        refine lv_icmp_ne (tgt := 25) hx hb dX7_laws_20 (by decide) (fun q => ?_) (fun q => ?_)
        · have h := ax_iN q h
          refine lv_iinc (v := (x2 + 1)) (lv' := [(2, .int (x2 + 1)), (0, .ref (B + 35)), (1, .int x1), (3, .int x3)]) hx hb dX7_laws_25 hl (k := 2) rfl rfl (by decide) rfl (fun ls hl => ?_)
          exact t_X7_laws_28 hL C ih _ _ _ _ h H locs cells slots ls hc hz hR hS (lv_sub hl [1, 2, 0, 3] rfl)
        · have h := ax_ip q h
          refine lv_iload_n hx hb dX7_laws_23 rfl (lv_at hl 3 rfl) ?_
          cases h
          exact ax_iret C hc hz hR hS rfl rfl dX7_laws_24
set_option maxRecDepth 100000 in
set_option maxHeartbeats 4000000 in
theorem t_X7_laws_0 {lay : List ax_S} {J : ax_J} {rv : Int32} (hL : ax_LL B lay) (C : ax_C p R s m args meth c yX7_laws cX7_laws 4 (some .int) 6 E mc ms) : ∀ (I : ax_I) (x1 : Int32), F_X7_laws I x1 = some rv → AM p l e R s m args below meth c E B lay.length (ax_z lay) 4 (some (.int rv)) lay I J lay I J 0 [(0, .ref (B + 35)), (1, .int x1)] [] := by
  obtain ⟨hx, hb, hr, hml, hown, hts, hlocks, hK, hfr, hlo, hmc, hms, hnm⟩ := id C
  have hown : s.vm.findClass RX7 = some m.cls := hown
  intro I x1 h H locs cells slots ls hc hz hR hS hl
  unfold F_X7_laws at h
  refine lv_iconst (v := 0) hx hb dX7_laws_0 (by decide) ?_
  refine lv_istore_n (lv' := [(2, .int 0), (0, .ref (B + 35)), (1, .int x1)]) hx hb dX7_laws_1 rfl hl (by decide) rfl (fun ls hl => ?_)
  refine lv_iconst (v := 0) hx hb dX7_laws_2 (by decide) ?_
  refine lv_istore_n (lv' := [(3, .int 0), (2, .int 0), (0, .ref (B + 35)), (1, .int x1)]) hx hb dX7_laws_3 rfl hl (by decide) rfl (fun ls hl => ?_)
  exact t_X7_laws_4 hL C  ax_N _ _ _ _ h H locs cells slots ls hc hz hR hS (lv_sub hl [2, 3, 1, 0] rfl)
theorem M_X7_laws {l : Launch} {E : ax_E} {B : Nat} {lay : List ax_S} {I : ax_I} {J : ax_J} {x1 : Int32} {rv : Int32} (hL : ax_LL B lay) (h : F_X7_laws I x1 = some rv) : Cm l yX7_laws cX7_laws 4 (some .int) 6 E B [.ref (B + 35), .int x1] lay I J (some (.int rv)) lay I J :=
  ax_met (by decide) (Nat.le_of_ble_eq_true rfl) (fun p e R s m args below meth c C => t_X7_laws_0 hL C _ _ h)
def f_X7_mostLeft_71 (r7 : ax_I → Int32 → Int32 → Int32 → Int32 → Option (Int32)) (I : ax_I) (x1 : Int32) (x2 : Int32) (x4 : Int32) (s0 : Int32) (s1 : Int32) : Option Int32 :=
  r7 I x1 x2 (s1 + s0) (x4 + 1)
def f_X7_mostLeft_70 (r7 : ax_I → Int32 → Int32 → Int32 → Int32 → Option (Int32)) (I : ax_I) (x1 : Int32) (x2 : Int32) (x4 : Int32) (s0 : Int32) : Option Int32 :=
  f_X7_mostLeft_71 r7 I x1 x2 x4 0 s0
def f_X7_mostLeft_53 (r7 : ax_I → Int32 → Int32 → Int32 → Int32 → Option (Int32)) (I : ax_I) (x1 : Int32) (x3 : Int32) (x4 : Int32) (x5 : Int32) (x6 : Int32) (s0 : Int32) (s1 : Int32) : Option Int32 :=
  if x5 = 0 then f_X7_mostLeft_70 r7 I x1 (s1 + s0) x4 x3 else if x6 = 0 then f_X7_mostLeft_71 r7 I x1 (s1 + s0) x4 1 x3 else f_X7_mostLeft_70 r7 I x1 (s1 + s0) x4 x3
def f_X7_mostLeft_52 (r7 : ax_I → Int32 → Int32 → Int32 → Int32 → Option (Int32)) (I : ax_I) (x1 : Int32) (x3 : Int32) (x4 : Int32) (x5 : Int32) (x6 : Int32) (s0 : Int32) : Option Int32 :=
  f_X7_mostLeft_53 r7 I x1 x3 x4 x5 x6 0 s0
def f_X7_mostLeft_7 : Nat → ax_I → Int32 → Int32 → Int32 → Int32 → Option Int32
  | 0, _, _, _, _, _ => none
  | n + 1, I, x1, x2, x3, x4 => if 100 ≤ x4 then (if x2 ≤ x3 then some x3 else some x2) else (F_X7_fits I x4).bind (fun q17 => (F_X7_makes I x4 (x1 / 10) (x1 - x1 / 10 * 10)).bind (fun q32 => if q17 = 0 then f_X7_mostLeft_52 (f_X7_mostLeft_7 n) I x1 x3 x4 q17 q32 x2 else if q32 = 0 then f_X7_mostLeft_52 (f_X7_mostLeft_7 n) I x1 x3 x4 q17 q32 x2 else f_X7_mostLeft_53 (f_X7_mostLeft_7 n) I x1 x3 x4 q17 q32 1 x2))
def F_X7_mostLeft (I : ax_I) (x1 : Int32) : Option Int32 :=
  f_X7_mostLeft_7 ax_N I x1 0 0 0
set_option maxRecDepth 100000 in
set_option maxHeartbeats 4000000 in
theorem t_X7_mostLeft_71 {lay : List ax_S} {J : ax_J} {rv : Int32} (hL : ax_LL B lay) (C : ax_C p R s m args meth c yX7_mostLeft cX7_mostLeft 7 (some .int) 6 E mc ms) {r7 : ax_I → Int32 → Int32 → Int32 → Int32 → Option (Int32)} (hr7 : ∀ (I : ax_I) (x1 : Int32) (x2 : Int32) (x3 : Int32) (x4 : Int32), r7 I x1 x2 x3 x4 = some rv → AM p l e R s m args below meth c E B lay.length (ax_z lay) 7 (some (.int rv)) lay I J lay I J 7 [(0, .ref (B + 35)), (1, .int x1), (2, .int x2), (3, .int x3), (4, .int x4)] []) : ∀ (I : ax_I) (x1 : Int32) (x2 : Int32) (x4 : Int32) (s0 : Int32) (s1 : Int32), f_X7_mostLeft_71 r7 I x1 x2 x4 s0 s1 = some rv → AM p l e R s m args below meth c E B lay.length (ax_z lay) 7 (some (.int rv)) lay I J lay I J 71 [(0, .ref (B + 35)), (1, .int x1), (2, .int x2), (4, .int x4)] [.int s0, .int s1] := by
  obtain ⟨hx, hb, hr, hml, hown, hts, hlocks, hK, hfr, hlo, hmc, hms, hnm⟩ := id C
  have hown : s.vm.findClass RX7 = some m.cls := hown
  intro I x1 x2 x4 s0 s1 h H locs cells slots ls hc hz hR hS hl
  unfold f_X7_mostLeft_71 at h
  refine lv_iadd hx hb dX7_mostLeft_71 ?_
  refine lv_istore_n (lv' := [(3, .int (s1 + s0)), (0, .ref (B + 35)), (1, .int x1), (2, .int x2), (4, .int x4)]) hx hb dX7_mostLeft_72 rfl hl (by decide) rfl (fun ls hl => ?_)
  refine lv_iinc (v := (x4 + 1)) (lv' := [(4, .int (x4 + 1)), (3, .int (s1 + s0)), (0, .ref (B + 35)), (1, .int x1), (2, .int x2)]) hx hb dX7_mostLeft_73 hl (k := 4) rfl rfl (by decide) rfl (fun ls hl => ?_)
  refine lv_goto (tgt := 7) hx hb dX7_mostLeft_76 (by decide) ?_
  exact hr7 _ _ _ _ _ h H locs cells slots ls hc hz hR hS (lv_sub hl [2, 3, 4, 1, 0] rfl)
set_option maxRecDepth 100000 in
set_option maxHeartbeats 4000000 in
theorem t_X7_mostLeft_70 {lay : List ax_S} {J : ax_J} {rv : Int32} (hL : ax_LL B lay) (C : ax_C p R s m args meth c yX7_mostLeft cX7_mostLeft 7 (some .int) 6 E mc ms) {r7 : ax_I → Int32 → Int32 → Int32 → Int32 → Option (Int32)} (hr7 : ∀ (I : ax_I) (x1 : Int32) (x2 : Int32) (x3 : Int32) (x4 : Int32), r7 I x1 x2 x3 x4 = some rv → AM p l e R s m args below meth c E B lay.length (ax_z lay) 7 (some (.int rv)) lay I J lay I J 7 [(0, .ref (B + 35)), (1, .int x1), (2, .int x2), (3, .int x3), (4, .int x4)] []) : ∀ (I : ax_I) (x1 : Int32) (x2 : Int32) (x4 : Int32) (s0 : Int32), f_X7_mostLeft_70 r7 I x1 x2 x4 s0 = some rv → AM p l e R s m args below meth c E B lay.length (ax_z lay) 7 (some (.int rv)) lay I J lay I J 70 [(0, .ref (B + 35)), (1, .int x1), (2, .int x2), (4, .int x4)] [.int s0] := by
  obtain ⟨hx, hb, hr, hml, hown, hts, hlocks, hK, hfr, hlo, hmc, hms, hnm⟩ := id C
  have hown : s.vm.findClass RX7 = some m.cls := hown
  intro I x1 x2 x4 s0 h H locs cells slots ls hc hz hR hS hl
  unfold f_X7_mostLeft_70 at h
  refine lv_iconst (v := 0) hx hb dX7_mostLeft_70 (by decide) ?_
  exact t_X7_mostLeft_71 hL C hr7 _ _ _ _ _ _ h H locs cells slots ls hc hz hR hS (lv_sub hl [0, 1, 2, 3] rfl)
set_option maxRecDepth 100000 in
set_option maxHeartbeats 4000000 in
theorem t_X7_mostLeft_53 {lay : List ax_S} {J : ax_J} {rv : Int32} (hL : ax_LL B lay) (C : ax_C p R s m args meth c yX7_mostLeft cX7_mostLeft 7 (some .int) 6 E mc ms) {r7 : ax_I → Int32 → Int32 → Int32 → Int32 → Option (Int32)} (hr7 : ∀ (I : ax_I) (x1 : Int32) (x2 : Int32) (x3 : Int32) (x4 : Int32), r7 I x1 x2 x3 x4 = some rv → AM p l e R s m args below meth c E B lay.length (ax_z lay) 7 (some (.int rv)) lay I J lay I J 7 [(0, .ref (B + 35)), (1, .int x1), (2, .int x2), (3, .int x3), (4, .int x4)] []) : ∀ (I : ax_I) (x1 : Int32) (x3 : Int32) (x4 : Int32) (x5 : Int32) (x6 : Int32) (s0 : Int32) (s1 : Int32), f_X7_mostLeft_53 r7 I x1 x3 x4 x5 x6 s0 s1 = some rv → AM p l e R s m args below meth c E B lay.length (ax_z lay) 7 (some (.int rv)) lay I J lay I J 53 [(0, .ref (B + 35)), (1, .int x1), (3, .int x3), (4, .int x4), (5, .int x5), (6, .int x6)] [.int s0, .int s1] := by
  obtain ⟨hx, hb, hr, hml, hown, hts, hlocks, hK, hfr, hlo, hmc, hms, hnm⟩ := id C
  have hown : s.vm.findClass RX7 = some m.cls := hown
  intro I x1 x3 x4 x5 x6 s0 s1 h H locs cells slots ls hc hz hR hS hl
  unfold f_X7_mostLeft_53 at h
  refine lv_iadd hx hb dX7_mostLeft_53 ?_
  refine lv_istore_n (lv' := [(2, .int (s1 + s0)), (0, .ref (B + 35)), (1, .int x1), (3, .int x3), (4, .int x4), (5, .int x5), (6, .int x6)]) hx hb dX7_mostLeft_54 rfl hl (by decide) rfl (fun ls hl => ?_)
  refine lv_iload_n hx hb dX7_mostLeft_55 rfl (lv_at hl 3 rfl) ?_
  refine lv_iload hx hb dX7_mostLeft_56 (lv_at hl 5 rfl) ?_
  refine lv_if_eq (tgt := 70) hx hb dX7_mostLeft_58 (by decide) (fun q => ?_) (fun q => ?_)
  · have h := ax_ip q h
    exact t_X7_mostLeft_70 hL C hr7 _ _ _ _ _ h H locs cells slots ls hc hz hR hS (lv_sub hl [1, 2, 0, 4] rfl)
  · have h := ax_iN q h
    refine lv_iload hx hb dX7_mostLeft_61 (lv_at hl 6 rfl) ?_
    refine lv_if_ne (tgt := 70) hx hb dX7_mostLeft_63 (by decide) (fun q => ?_) (fun q => ?_)
    · have h := ax_iN q h
      exact t_X7_mostLeft_70 hL C hr7 _ _ _ _ _ h H locs cells slots ls hc hz hR hS (lv_sub hl [1, 2, 0, 4] rfl)
    · have h := ax_ip q h
      refine lv_iconst (v := 1) hx hb dX7_mostLeft_66 (by decide) ?_
      refine lv_goto (tgt := 71) hx hb dX7_mostLeft_67 (by decide) ?_
      exact t_X7_mostLeft_71 hL C hr7 _ _ _ _ _ _ h H locs cells slots ls hc hz hR hS (lv_sub hl [1, 2, 0, 4] rfl)
set_option maxRecDepth 100000 in
set_option maxHeartbeats 4000000 in
theorem t_X7_mostLeft_52 {lay : List ax_S} {J : ax_J} {rv : Int32} (hL : ax_LL B lay) (C : ax_C p R s m args meth c yX7_mostLeft cX7_mostLeft 7 (some .int) 6 E mc ms) {r7 : ax_I → Int32 → Int32 → Int32 → Int32 → Option (Int32)} (hr7 : ∀ (I : ax_I) (x1 : Int32) (x2 : Int32) (x3 : Int32) (x4 : Int32), r7 I x1 x2 x3 x4 = some rv → AM p l e R s m args below meth c E B lay.length (ax_z lay) 7 (some (.int rv)) lay I J lay I J 7 [(0, .ref (B + 35)), (1, .int x1), (2, .int x2), (3, .int x3), (4, .int x4)] []) : ∀ (I : ax_I) (x1 : Int32) (x3 : Int32) (x4 : Int32) (x5 : Int32) (x6 : Int32) (s0 : Int32), f_X7_mostLeft_52 r7 I x1 x3 x4 x5 x6 s0 = some rv → AM p l e R s m args below meth c E B lay.length (ax_z lay) 7 (some (.int rv)) lay I J lay I J 52 [(0, .ref (B + 35)), (1, .int x1), (3, .int x3), (4, .int x4), (5, .int x5), (6, .int x6)] [.int s0] := by
  obtain ⟨hx, hb, hr, hml, hown, hts, hlocks, hK, hfr, hlo, hmc, hms, hnm⟩ := id C
  have hown : s.vm.findClass RX7 = some m.cls := hown
  intro I x1 x3 x4 x5 x6 s0 h H locs cells slots ls hc hz hR hS hl
  unfold f_X7_mostLeft_52 at h
  refine lv_iconst (v := 0) hx hb dX7_mostLeft_52 (by decide) ?_
  exact t_X7_mostLeft_53 hL C hr7 _ _ _ _ _ _ _ _ h H locs cells slots ls hc hz hR hS (lv_sub hl [0, 1, 2, 3, 4, 5] rfl)
set_option maxRecDepth 100000 in
set_option maxHeartbeats 4000000 in
theorem t_X7_mostLeft_7 {lay : List ax_S} {J : ax_J} {rv : Int32} (hL : ax_LL B lay) (C : ax_C p R s m args meth c yX7_mostLeft cX7_mostLeft 7 (some .int) 6 E mc ms) : ∀ (n : Nat) (I : ax_I) (x1 : Int32) (x2 : Int32) (x3 : Int32) (x4 : Int32), f_X7_mostLeft_7 n I x1 x2 x3 x4 = some rv → AM p l e R s m args below meth c E B lay.length (ax_z lay) 7 (some (.int rv)) lay I J lay I J 7 [(0, .ref (B + 35)), (1, .int x1), (2, .int x2), (3, .int x3), (4, .int x4)] [] := by
  obtain ⟨hx, hb, hr, hml, hown, hts, hlocks, hK, hfr, hlo, hmc, hms, hnm⟩ := id C
  have hown : s.vm.findClass RX7 = some m.cls := hown
  intro n
  induction n with
  | zero => intro I x1 x2 x3 x4 h; cases h
  | succ n ih =>
    intro I x1 x2 x3 x4 h H locs cells slots ls hc hz hR hS hl
    rw [f_X7_mostLeft_7] at h
    refine lv_iload hx hb dX7_mostLeft_7 (lv_at hl 4 rfl) ?_
    refine lv_bipush (v := 100) hx hb dX7_mostLeft_9 (by decide) ?_
    refine lv_icmp_ge (tgt := 79) hx hb dX7_mostLeft_11 (by decide) (fun q => ?_) (fun q => ?_)
    · have h := ax_ip q h
      refine lv_iload_n hx hb dX7_mostLeft_79 rfl (lv_at hl 2 rfl) ?_
      refine lv_iload_n hx hb dX7_mostLeft_80 rfl (lv_at hl 3 rfl) ?_
      refine lv_icmp_le (tgt := 88) hx hb dX7_mostLeft_81 (by decide) (fun q => ?_) (fun q => ?_)
      · have h := ax_ip q h
        refine lv_iload_n hx hb dX7_mostLeft_88 rfl (lv_at hl 3 rfl) ?_
        cases h
        exact ax_iret C hc hz hR hS rfl rfl dX7_mostLeft_89
      · have h := ax_iN q h
        refine lv_iload_n hx hb dX7_mostLeft_84 rfl (lv_at hl 2 rfl) ?_
        refine lv_goto (tgt := 89) hx hb dX7_mostLeft_85 (by decide) ?_
        cases h
        exact ax_iret C hc hz hR hS rfl rfl dX7_mostLeft_89
    · have h := ax_iN q h
      refine lv_aload_n hx hb dX7_mostLeft_14 rfl (lv_at hl 0 rfl) ?_
      refine lv_iload hx hb dX7_mostLeft_15 (lv_at hl 4 rfl) ?_
      obtain ⟨q17, hq, h⟩ := ax_bd h
      refine ax_cV (rest := []) (st1 := [.int q17]) C hc hz hS hR (M_X7_fits hL hq) yk_X7_fits in_X7_fits se_X7_fits ml_X7_292 (lk_35 hL) rfl rfl (by decide) rfl hl.1 (Nat.le_of_ble_eq_true rfl) rfl rfl dX7_mostLeft_17 (fun H locs hR hS => ?_)
      refine lv_istore (lv' := [(5, .int q17), (0, .ref (B + 35)), (1, .int x1), (2, .int x2), (3, .int x3), (4, .int x4)]) hx hb dX7_mostLeft_20 hl (by decide) rfl (fun ls hl => ?_)
      refine lv_iload hx hb dX7_mostLeft_22 (lv_at hl 5 rfl) ?_
      refine lv_iload_n hx hb dX7_mostLeft_24 rfl (lv_at hl 2 rfl) ?_
      refine lv_bipush (v := 10) hx hb dX7_mostLeft_25 (by decide) ?_
      refine lv_idiv hx hb dX7_mostLeft_27 (by decide) ?_
      refine lv_iload_n hx hb dX7_mostLeft_28 rfl (lv_at hl 2 rfl) ?_
      refine lv_bipush (v := 10) hx hb dX7_mostLeft_29 (by decide) ?_
      refine lv_irem hx hb dX7_mostLeft_31 (by decide) ?_
      obtain ⟨q32, hq, h⟩ := ax_bd h
      refine ax_cS (rest := []) (st1 := [.int q32]) C hc hz hS hR (M_X7_makes  hq) yk_X7_makes st_X7_makes ml_X7_288 (by decide) rfl hl.1 (Nat.le_of_ble_eq_true rfl) rfl rfl dX7_mostLeft_32 (fun H locs hR hS => ?_)
      refine lv_istore (lv' := [(6, .int q32), (5, .int q17), (0, .ref (B + 35)), (1, .int x1), (2, .int x2), (3, .int x3), (4, .int x4)]) hx hb dX7_mostLeft_35 hl (by decide) rfl (fun ls hl => ?_)
      refine lv_iload_n hx hb dX7_mostLeft_37 rfl (lv_at hl 4 rfl) ?_
      refine lv_iload hx hb dX7_mostLeft_38 (lv_at hl 1 rfl) ?_
      refine lv_if_eq (tgt := 52) hx hb dX7_mostLeft_40 (by decide) (fun q => ?_) (fun q => ?_)
      · have h := ax_ip q h
        exact t_X7_mostLeft_52 hL C ih _ _ _ _ _ _ _ h H locs cells slots ls hc hz hR hS (lv_sub hl [2, 3, 5, 6, 1, 0] rfl)
      · have h := ax_iN q h
        refine lv_iload hx hb dX7_mostLeft_43 (lv_at hl 0 rfl) ?_
        refine lv_if_eq (tgt := 52) hx hb dX7_mostLeft_45 (by decide) (fun q => ?_) (fun q => ?_)
        · have h := ax_ip q h
          exact t_X7_mostLeft_52 hL C ih _ _ _ _ _ _ _ h H locs cells slots ls hc hz hR hS (lv_sub hl [2, 3, 5, 6, 1, 0] rfl)
        · have h := ax_iN q h
          refine lv_iconst (v := 1) hx hb dX7_mostLeft_48 (by decide) ?_
          refine lv_goto (tgt := 53) hx hb dX7_mostLeft_49 (by decide) ?_
          exact t_X7_mostLeft_53 hL C ih _ _ _ _ _ _ _ _ h H locs cells slots ls hc hz hR hS (lv_sub hl [2, 3, 5, 6, 1, 0] rfl)
set_option maxRecDepth 100000 in
set_option maxHeartbeats 4000000 in
theorem t_X7_mostLeft_0 {lay : List ax_S} {J : ax_J} {rv : Int32} (hL : ax_LL B lay) (C : ax_C p R s m args meth c yX7_mostLeft cX7_mostLeft 7 (some .int) 6 E mc ms) : ∀ (I : ax_I) (x1 : Int32), F_X7_mostLeft I x1 = some rv → AM p l e R s m args below meth c E B lay.length (ax_z lay) 7 (some (.int rv)) lay I J lay I J 0 [(0, .ref (B + 35)), (1, .int x1)] [] := by
  obtain ⟨hx, hb, hr, hml, hown, hts, hlocks, hK, hfr, hlo, hmc, hms, hnm⟩ := id C
  have hown : s.vm.findClass RX7 = some m.cls := hown
  intro I x1 h H locs cells slots ls hc hz hR hS hl
  unfold F_X7_mostLeft at h
  refine lv_iconst (v := 0) hx hb dX7_mostLeft_0 (by decide) ?_
  refine lv_istore_n (lv' := [(2, .int 0), (0, .ref (B + 35)), (1, .int x1)]) hx hb dX7_mostLeft_1 rfl hl (by decide) rfl (fun ls hl => ?_)
  refine lv_iconst (v := 0) hx hb dX7_mostLeft_2 (by decide) ?_
  refine lv_istore_n (lv' := [(3, .int 0), (2, .int 0), (0, .ref (B + 35)), (1, .int x1)]) hx hb dX7_mostLeft_3 rfl hl (by decide) rfl (fun ls hl => ?_)
  refine lv_iconst (v := 0) hx hb dX7_mostLeft_4 (by decide) ?_
  refine lv_istore (lv' := [(4, .int 0), (3, .int 0), (2, .int 0), (0, .ref (B + 35)), (1, .int x1)]) hx hb dX7_mostLeft_5 hl (by decide) rfl (fun ls hl => ?_)
  exact t_X7_mostLeft_7 hL C  ax_N _ _ _ _ _ h H locs cells slots ls hc hz hR hS (lv_sub hl [3, 4, 2, 1, 0] rfl)
theorem M_X7_mostLeft {l : Launch} {E : ax_E} {B : Nat} {lay : List ax_S} {I : ax_I} {J : ax_J} {x1 : Int32} {rv : Int32} (hL : ax_LL B lay) (h : F_X7_mostLeft I x1 = some rv) : Cm l yX7_mostLeft cX7_mostLeft 7 (some .int) 6 E B [.ref (B + 35), .int x1] lay I J (some (.int rv)) lay I J :=
  ax_met (by decide) (Nat.le_of_ble_eq_true rfl) (fun p e R s m args below meth c C => t_X7_mostLeft_0 hL C _ _ h)
def f_X7_ask_64 (r24 : ax_I → Int32 → Int32 → Int32 → Int32 → Option (Int32)) (I : ax_I) (x1 : Int32) (x2 : Int32) (x4 : Int32) (s0 : Int32) : Option Int32 :=
  r24 I x1 x2 s0 (x4 + 1)
def f_X7_ask_51 (r24 : ax_I → Int32 → Int32 → Int32 → Int32 → Option (Int32)) (I : ax_I) (x1 : Int32) (x3 : Int32) (x4 : Int32) (x5 : Int32) (s0 : Int32) : Option Int32 :=
  if x3 ≤ x5 then f_X7_ask_64 r24 I x1 s0 x4 x3 else f_X7_ask_64 r24 I x1 s0 x4 x5
def f_X7_ask_24 : Nat → ax_I → Int32 → Int32 → Int32 → Int32 → Option Int32
  | 0, _, _, _, _, _ => none
  | n + 1, I, x1, x2, x3, x4 => if 100 ≤ x4 then (if x3 = 0 then some (-6) else if x1 = 0 then some x2 else some x3) else (F_X7_mostLeft I x4).bind (fun q34 => if x3 ≤ q34 then f_X7_ask_51 (f_X7_ask_24 n) I x1 x3 x4 q34 x2 else f_X7_ask_51 (f_X7_ask_24 n) I x1 x3 x4 q34 x4)
def F_X7_ask (I : ax_I) (x1 : Int32) : Option Int32 :=
  (F_X7_in I ((x1 : Int32).toInt64) 0 1).bind (fun q4 => if q4 = 0 then some (-2) else (F_X7_mostLeft I 0).bind (fun q17 => f_X7_ask_24 ax_N I x1 0 q17 1))
set_option maxRecDepth 100000 in
set_option maxHeartbeats 4000000 in
theorem t_X7_ask_64 {lay : List ax_S} {J : ax_J} {rv : Int32} (hL : ax_LL B lay) (C : ax_C p R s m args meth c yX7_ask cX7_ask 6 (some .int) 8 E mc ms) {r24 : ax_I → Int32 → Int32 → Int32 → Int32 → Option (Int32)} (hr24 : ∀ (I : ax_I) (x1 : Int32) (x2 : Int32) (x3 : Int32) (x4 : Int32), r24 I x1 x2 x3 x4 = some rv → AM p l e R s m args below meth c E B lay.length (ax_z lay) 6 (some (.int rv)) lay I J lay I J 24 [(0, .ref (B + 35)), (1, .int x1), (2, .int x2), (3, .int x3), (4, .int x4)] []) : ∀ (I : ax_I) (x1 : Int32) (x2 : Int32) (x4 : Int32) (s0 : Int32), f_X7_ask_64 r24 I x1 x2 x4 s0 = some rv → AM p l e R s m args below meth c E B lay.length (ax_z lay) 6 (some (.int rv)) lay I J lay I J 64 [(0, .ref (B + 35)), (1, .int x1), (2, .int x2), (4, .int x4)] [.int s0] := by
  obtain ⟨hx, hb, hr, hml, hown, hts, hlocks, hK, hfr, hlo, hmc, hms, hnm⟩ := id C
  have hown : s.vm.findClass RX7 = some m.cls := hown
  intro I x1 x2 x4 s0 h H locs cells slots ls hc hz hR hS hl
  unfold f_X7_ask_64 at h
  refine lv_istore_n (lv' := [(3, .int s0), (0, .ref (B + 35)), (1, .int x1), (2, .int x2), (4, .int x4)]) hx hb dX7_ask_64 rfl hl (by decide) rfl (fun ls hl => ?_)
  refine lv_iinc (v := (x4 + 1)) (lv' := [(4, .int (x4 + 1)), (3, .int s0), (0, .ref (B + 35)), (1, .int x1), (2, .int x2)]) hx hb dX7_ask_65 hl (k := 4) rfl rfl (by decide) rfl (fun ls hl => ?_)
  refine lv_goto (tgt := 24) hx hb dX7_ask_68 (by decide) ?_
  exact hr24 _ _ _ _ _ h H locs cells slots ls hc hz hR hS (lv_sub hl [2, 3, 4, 1, 0] rfl)
set_option maxRecDepth 100000 in
set_option maxHeartbeats 4000000 in
theorem t_X7_ask_51 {lay : List ax_S} {J : ax_J} {rv : Int32} (hL : ax_LL B lay) (C : ax_C p R s m args meth c yX7_ask cX7_ask 6 (some .int) 8 E mc ms) {r24 : ax_I → Int32 → Int32 → Int32 → Int32 → Option (Int32)} (hr24 : ∀ (I : ax_I) (x1 : Int32) (x2 : Int32) (x3 : Int32) (x4 : Int32), r24 I x1 x2 x3 x4 = some rv → AM p l e R s m args below meth c E B lay.length (ax_z lay) 6 (some (.int rv)) lay I J lay I J 24 [(0, .ref (B + 35)), (1, .int x1), (2, .int x2), (3, .int x3), (4, .int x4)] []) : ∀ (I : ax_I) (x1 : Int32) (x3 : Int32) (x4 : Int32) (x5 : Int32) (s0 : Int32), f_X7_ask_51 r24 I x1 x3 x4 x5 s0 = some rv → AM p l e R s m args below meth c E B lay.length (ax_z lay) 6 (some (.int rv)) lay I J lay I J 51 [(0, .ref (B + 35)), (1, .int x1), (3, .int x3), (4, .int x4), (5, .int x5)] [.int s0] := by
  obtain ⟨hx, hb, hr, hml, hown, hts, hlocks, hK, hfr, hlo, hmc, hms, hnm⟩ := id C
  have hown : s.vm.findClass RX7 = some m.cls := hown
  intro I x1 x3 x4 x5 s0 h H locs cells slots ls hc hz hR hS hl
  unfold f_X7_ask_51 at h
  refine lv_istore_n (lv' := [(2, .int s0), (0, .ref (B + 35)), (1, .int x1), (3, .int x3), (4, .int x4), (5, .int x5)]) hx hb dX7_ask_51 rfl hl (by decide) rfl (fun ls hl => ?_)
  refine lv_iload hx hb dX7_ask_52 (lv_at hl 5 rfl) ?_
  refine lv_iload_n hx hb dX7_ask_54 rfl (lv_at hl 3 rfl) ?_
  refine lv_icmp_ge (tgt := 63) hx hb dX7_ask_55 (by decide) (fun q => ?_) (fun q => ?_)
  · have h := ax_ip q h
    refine lv_iload_n hx hb dX7_ask_63 rfl (lv_at hl 3 rfl) ?_
    exact t_X7_ask_64 hL C hr24 _ _ _ _ _ h H locs cells slots ls hc hz hR hS (lv_sub hl [1, 2, 0, 4] rfl)
  · have h := ax_iN q h
    refine lv_iload hx hb dX7_ask_58 (lv_at hl 5 rfl) ?_
    refine lv_goto (tgt := 64) hx hb dX7_ask_60 (by decide) ?_
    exact t_X7_ask_64 hL C hr24 _ _ _ _ _ h H locs cells slots ls hc hz hR hS (lv_sub hl [1, 2, 0, 4] rfl)
set_option maxRecDepth 100000 in
set_option maxHeartbeats 4000000 in
theorem t_X7_ask_24 {lay : List ax_S} {J : ax_J} {rv : Int32} (hL : ax_LL B lay) (C : ax_C p R s m args meth c yX7_ask cX7_ask 6 (some .int) 8 E mc ms) : ∀ (n : Nat) (I : ax_I) (x1 : Int32) (x2 : Int32) (x3 : Int32) (x4 : Int32), f_X7_ask_24 n I x1 x2 x3 x4 = some rv → AM p l e R s m args below meth c E B lay.length (ax_z lay) 6 (some (.int rv)) lay I J lay I J 24 [(0, .ref (B + 35)), (1, .int x1), (2, .int x2), (3, .int x3), (4, .int x4)] [] := by
  obtain ⟨hx, hb, hr, hml, hown, hts, hlocks, hK, hfr, hlo, hmc, hms, hnm⟩ := id C
  have hown : s.vm.findClass RX7 = some m.cls := hown
  intro n
  induction n with
  | zero => intro I x1 x2 x3 x4 h; cases h
  | succ n ih =>
    intro I x1 x2 x3 x4 h H locs cells slots ls hc hz hR hS hl
    rw [f_X7_ask_24] at h
    refine lv_iload hx hb dX7_ask_24 (lv_at hl 4 rfl) ?_
    refine lv_bipush (v := 100) hx hb dX7_ask_26 (by decide) ?_
    refine lv_icmp_ge (tgt := 71) hx hb dX7_ask_28 (by decide) (fun q => ?_) (fun q => ?_)
    · have h := ax_ip q h
      refine lv_iload_n hx hb dX7_ask_71 rfl (lv_at hl 3 rfl) ?_
      refine lv_if_ne (tgt := 80) hx hb dX7_ask_72 (by decide) (fun q => ?_) (fun q => ?_)
      · have h := ax_iN q h
        refine lv_iload_n hx hb dX7_ask_80 rfl (lv_at hl 1 rfl) ?_
        refine lv_if_ne (tgt := 88) hx hb dX7_ask_81 (by decide) (fun q => ?_) (fun q => ?_)
        · have h := ax_iN q h
          refine lv_iload_n hx hb dX7_ask_88 rfl (lv_at hl 3 rfl) ?_
          cases h
          exact ax_iret C hc hz hR hS rfl rfl dX7_ask_89
        · have h := ax_ip q h
          refine lv_iload_n hx hb dX7_ask_84 rfl (lv_at hl 2 rfl) ?_
          refine lv_goto (tgt := 89) hx hb dX7_ask_85 (by decide) ?_
          cases h
          exact ax_iret C hc hz hR hS rfl rfl dX7_ask_89
      · have h := ax_ip q h
        refine lv_bipush (v := (-6)) hx hb dX7_ask_75 (by decide) ?_
        refine lv_goto (tgt := 89) hx hb dX7_ask_77 (by decide) ?_
        cases h
        exact ax_iret C hc hz hR hS rfl rfl dX7_ask_89
    · have h := ax_iN q h
      refine lv_aload_n hx hb dX7_ask_31 rfl (lv_at hl 0 rfl) ?_
      refine lv_iload hx hb dX7_ask_32 (lv_at hl 4 rfl) ?_
      obtain ⟨q34, hq, h⟩ := ax_bd h
      refine ax_cV (rest := []) (st1 := [.int q34]) C hc hz hS hR (M_X7_mostLeft hL hq) yk_X7_mostLeft in_X7_mostLeft se_X7_mostLeft ml_X7_295 (lk_35 hL) rfl rfl (by decide) rfl hl.1 (Nat.le_of_ble_eq_true rfl) rfl rfl dX7_ask_34 (fun H locs hR hS => ?_)
      refine lv_istore (lv' := [(5, .int q34), (0, .ref (B + 35)), (1, .int x1), (2, .int x2), (3, .int x3), (4, .int x4)]) hx hb dX7_ask_37 hl (by decide) rfl (fun ls hl => ?_)
      refine lv_iload hx hb dX7_ask_39 (lv_at hl 0 rfl) ?_
      refine lv_iload_n hx hb dX7_ask_41 rfl (lv_at hl 4 rfl) ?_
      refine lv_icmp_ge (tgt := 50) hx hb dX7_ask_42 (by decide) (fun q => ?_) (fun q => ?_)
      · have h := ax_ip q h
        refine lv_iload_n hx hb dX7_ask_50 rfl (lv_at hl 3 rfl) ?_
        exact t_X7_ask_51 hL C ih _ _ _ _ _ _ h H locs cells slots ls hc hz hR hS (lv_sub hl [1, 2, 4, 5, 0] rfl)
      · have h := ax_iN q h
        refine lv_iload hx hb dX7_ask_45 (lv_at hl 5 rfl) ?_
        refine lv_goto (tgt := 51) hx hb dX7_ask_47 (by decide) ?_
        exact t_X7_ask_51 hL C ih _ _ _ _ _ _ h H locs cells slots ls hc hz hR hS (lv_sub hl [1, 2, 4, 5, 0] rfl)
set_option maxRecDepth 100000 in
set_option maxHeartbeats 4000000 in
theorem t_X7_ask_0 {lay : List ax_S} {J : ax_J} {rv : Int32} (hL : ax_LL B lay) (C : ax_C p R s m args meth c yX7_ask cX7_ask 6 (some .int) 8 E mc ms) : ∀ (I : ax_I) (x1 : Int32), F_X7_ask I x1 = some rv → AM p l e R s m args below meth c E B lay.length (ax_z lay) 6 (some (.int rv)) lay I J lay I J 0 [(0, .ref (B + 35)), (1, .int x1)] [] := by
  obtain ⟨hx, hb, hr, hml, hown, hts, hlocks, hK, hfr, hlo, hmc, hms, hnm⟩ := id C
  have hown : s.vm.findClass RX7 = some m.cls := hown
  intro I x1 h H locs cells slots ls hc hz hR hS hl
  unfold F_X7_ask at h
  refine lv_iload_n hx hb dX7_ask_0 rfl (lv_at hl 1 rfl) ?_
  refine lv_i2l hx hb dX7_ask_1 rfl ?_
  refine lv_lconst (v := 0) hx hb dX7_ask_2 (by decide) ?_
  refine lv_lconst (v := 1) hx hb dX7_ask_3 (by decide) ?_
  obtain ⟨q4, hq, h⟩ := ax_bd h
  refine ax_cS (rest := []) (st1 := [.int q4]) C hc hz hS hR (M_X7_in  hq) yk_X7_in st_X7_in ml_X7_89 (by decide) rfl hl.1 (Nat.le_of_ble_eq_true rfl) rfl rfl dX7_ask_4 (fun H locs hR hS => ?_)
  refine lv_if_ne (tgt := 13) hx hb dX7_ask_7 (by decide) (fun q => ?_) (fun q => ?_)
  · have h := ax_iN q h
    refine lv_iconst (v := 0) hx hb dX7_ask_13 (by decide) ?_
    refine lv_istore_n (lv' := [(2, .int 0), (0, .ref (B + 35)), (1, .int x1)]) hx hb dX7_ask_14 rfl hl (by decide) rfl (fun ls hl => ?_)
    refine lv_aload_n hx hb dX7_ask_15 rfl (lv_at hl 1 rfl) ?_
    refine lv_iconst (v := 0) hx hb dX7_ask_16 (by decide) ?_
    obtain ⟨q17, hq, h⟩ := ax_bd h
    refine ax_cV (rest := []) (st1 := [.int q17]) C hc hz hS hR (M_X7_mostLeft hL hq) yk_X7_mostLeft in_X7_mostLeft se_X7_mostLeft ml_X7_295 (lk_35 hL) rfl rfl (by decide) rfl hl.1 (Nat.le_of_ble_eq_true rfl) rfl rfl dX7_ask_17 (fun H locs hR hS => ?_)
    refine lv_istore_n (lv' := [(3, .int q17), (2, .int 0), (0, .ref (B + 35)), (1, .int x1)]) hx hb dX7_ask_20 rfl hl (by decide) rfl (fun ls hl => ?_)
    refine lv_iconst (v := 1) hx hb dX7_ask_21 (by decide) ?_
    refine lv_istore (lv' := [(4, .int 1), (3, .int q17), (2, .int 0), (0, .ref (B + 35)), (1, .int x1)]) hx hb dX7_ask_22 hl (by decide) rfl (fun ls hl => ?_)
    exact t_X7_ask_24 hL C  ax_N _ _ _ _ _ h H locs cells slots ls hc hz hR hS (lv_sub hl [3, 4, 2, 1, 0] rfl)
  · have h := ax_ip q h
    refine lv_bipush (v := (-2)) hx hb dX7_ask_10 (by decide) ?_
    cases h
    exact ax_iret C hc hz hR hS rfl rfl dX7_ask_12
theorem M_X7_ask {l : Launch} {E : ax_E} {B : Nat} {lay : List ax_S} {I : ax_I} {J : ax_J} {x1 : Int32} {rv : Int32} (hL : ax_LL B lay) (h : F_X7_ask I x1 = some rv) : Cm l yX7_ask cX7_ask 6 (some .int) 8 E B [.ref (B + 35), .int x1] lay I J (some (.int rv)) lay I J :=
  ax_met (by decide) (Nat.le_of_ble_eq_true rfl) (fun p e R s m args below meth c C => t_X7_ask_0 hL C _ _ h)
end GEN
