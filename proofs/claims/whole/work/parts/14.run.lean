section GEN
variable {p : Program} {l : Launch} {e : Env} {R : Room} {s : State} {m : MethodId} {args : Array Value} {below : List Frame} {meth : Method} {c : Code} {E : ax_E} {B mc ms : Nat}
def F_X7_isChild (I : ax_I) (x1 : Int32) : Option Int32 :=
  (F_X7_isNumber I x1).bind (fun q1 => if q1 = 0 then some 0 else if (((I 35 0) >>> (x1 &&& 31)) &&& 1) = 1 then some 1 else some 0)
set_option maxRecDepth 100000 in
set_option maxHeartbeats 4000000 in
theorem t_X7_isChild_0 {lay : List ax_S} {J : ax_J} {rv : Int32} (hL : ax_LL B lay) (C : ax_C p R s m args meth c yX7_isChild cX7_isChild 2 (some .boolean) 6 E mc ms) : ∀ (I : ax_I) (x1 : Int32), F_X7_isChild I x1 = some rv → AM p l e R s m args below meth c E B lay.length (ax_z lay) 2 (some (.int rv)) lay I J lay I J 0 [(0, .ref (B + 35)), (1, .int x1)] [] := by
  obtain ⟨hx, hb, hr, hml, hown, hts, hlocks, hK, hfr, hlo, hmc, hms, hnm⟩ := id C
  have hown : s.vm.findClass RX7 = some m.cls := hown
  intro I x1 h H locs cells slots ls hc hz hR hS hl
  unfold F_X7_isChild at h
  refine lv_iload_n hx hb dX7_isChild_0 rfl (lv_at hl 1 rfl) ?_
  obtain ⟨q1, hq, h⟩ := ax_bd h
  refine ax_cS (rest := []) (st1 := [.int q1]) C hc hz hS hR (M_X7_isNumber  hq) yk_X7_isNumber st_X7_isNumber ml_X7_93 (by decide) rfl hl.1 (Nat.le_of_ble_eq_true rfl) rfl rfl dX7_isChild_1 (fun H locs hR hS => ?_)
  refine lv_if_eq (tgt := 23) hx hb dX7_isChild_4 (by decide) (fun q => ?_) (fun q => ?_)
  · have h := ax_ip q h
    refine lv_iconst (v := 0) hx hb dX7_isChild_23 (by decide) ?_
    cases h
    exact ax_iret C hc hz hR hS rfl ax_bool_n0 dX7_isChild_24
  · have h := ax_iN q h
    refine lv_aload_n hx hb dX7_isChild_7 rfl (lv_at hl 0 rfl) ?_
    refine ax_getI hx hb hts hown hK hR fl_X7_97 (lk_35 hL) rfl dX7_isChild_8 ?_
    refine lv_iload_n hx hb dX7_isChild_11 rfl (lv_at hl 1 rfl) ?_
    refine lv_ishr hx hb dX7_isChild_12 ?_
    refine lv_iconst (v := 1) hx hb dX7_isChild_13 (by decide) ?_
    refine lv_iand hx hb dX7_isChild_14 ?_
    refine lv_iconst (v := 1) hx hb dX7_isChild_15 (by decide) ?_
    refine lv_icmp_ne (tgt := 23) hx hb dX7_isChild_16 (by decide) (fun q => ?_) (fun q => ?_)
    · have h := ax_iN q h
      refine lv_iconst (v := 0) hx hb dX7_isChild_23 (by decide) ?_
      cases h
      exact ax_iret C hc hz hR hS rfl ax_bool_n0 dX7_isChild_24
    · have h := ax_ip q h
      refine lv_iconst (v := 1) hx hb dX7_isChild_19 (by decide) ?_
      refine lv_goto (tgt := 24) hx hb dX7_isChild_20 (by decide) ?_
      cases h
      exact ax_iret C hc hz hR hS rfl ax_bool_n1 dX7_isChild_24
theorem M_X7_isChild {l : Launch} {E : ax_E} {B : Nat} {lay : List ax_S} {I : ax_I} {J : ax_J} {x1 : Int32} {rv : Int32} (hL : ax_LL B lay) (h : F_X7_isChild I x1 = some rv) : Cm l yX7_isChild cX7_isChild 2 (some .boolean) 6 E B [.ref (B + 35), .int x1] lay I J (some (.int rv)) lay I J :=
  ax_met (by decide) (Nat.le_of_ble_eq_true rfl) (fun p e R s m args below meth c C => t_X7_isChild_0 hL C _ _ h)
def F_X7_isParish (I : ax_I) (x0 : Int32) : Option Int32 :=
  (F_X7_in I ((x0 : Int32).toInt64) 0 3).bind (fun q6 => if ax_bool q6 = true then some q6 else none)
set_option maxRecDepth 100000 in
set_option maxHeartbeats 4000000 in
theorem t_X7_isParish_0 {lay : List ax_S} {J : ax_J} {rv : Int32} (C : ax_C p R s m args meth c yX7_isParish cX7_isParish 1 (some .boolean) 4 E mc ms) : ∀ (I : ax_I) (x0 : Int32), F_X7_isParish I x0 = some rv → AM p l e R s m args below meth c E B lay.length (ax_z lay) 1 (some (.int rv)) lay I J lay I J 0 [(0, .int x0)] [] := by
  obtain ⟨hx, hb, hr, hml, hown, hts, hlocks, hK, hfr, hlo, hmc, hms, hnm⟩ := id C
  have hown : s.vm.findClass RX7 = some m.cls := hown
  intro I x0 h H locs cells slots ls hc hz hR hS hl
  unfold F_X7_isParish at h
  refine lv_iload_n hx hb dX7_isParish_0 rfl (lv_at hl 0 rfl) ?_
  refine lv_i2l hx hb dX7_isParish_1 rfl ?_
  refine lv_lconst (v := 0) hx hb dX7_isParish_2 (by decide) ?_
  refine lv_ldc2 hx hb hown (hts _ ct_X7_101) dX7_isParish_3 ?_
  obtain ⟨q6, hq, h⟩ := ax_bd h
  refine ax_cS (rest := []) (st1 := [.int q6]) C hc hz hS hR (M_X7_in  hq) yk_X7_in st_X7_in ml_X7_89 (by decide) rfl hl.1 (Nat.le_of_ble_eq_true rfl) rfl rfl dX7_isParish_6 (fun H locs hR hS => ?_)
  obtain ⟨hq, h⟩ := ax_ck h
  cases h
  exact ax_iret C hc hz hR hS rfl (ax_bool_n hq) dX7_isParish_9
theorem M_X7_isParish {l : Launch} {E : ax_E} {B : Nat} {lay : List ax_S} {I : ax_I} {J : ax_J} {x0 : Int32} {rv : Int32} (h : F_X7_isParish I x0 = some rv) : Cm l yX7_isParish cX7_isParish 1 (some .boolean) 4 E B [.int x0] lay I J (some (.int rv)) lay I J :=
  ax_met (by decide) (Nat.le_of_ble_eq_true rfl) (fun p e R s m args below meth c C => t_X7_isParish_0  C _ _ h)
def f_X7_clearParts_2 : Nat → ax_I → Int32 → Int32 → Option ax_I
  | 0, _, _, _ => none
  | n + 1, I, x1, x2 => if 8 ≤ x2 then some I else if ax_in ((8 * x1) + x2) 48 = true then f_X7_clearParts_2 n (ax_u I 40 ((8 * x1) + x2).toNatClampNeg (-6)) x1 (x2 + 1) else none
def F_X7_clearParts (I : ax_I) (x1 : Int32) : Option ax_I :=
  f_X7_clearParts_2 ax_N I x1 0
set_option maxRecDepth 100000 in
set_option maxHeartbeats 4000000 in
theorem t_X7_clearParts_2 {lay : List ax_S} {J : ax_J} {I9 : ax_I} (hL : ax_LL B lay) (C : ax_C p R s m args meth c yX7_clearParts cX7_clearParts 3 none 2 E mc ms) : ∀ (n : Nat) (I : ax_I) (x1 : Int32) (x2 : Int32), f_X7_clearParts_2 n I x1 x2 = some I9 → AM p l e R s m args below meth c E B lay.length (ax_z lay) 3 none lay I9 J lay I J 2 [(0, .ref (B + 35)), (1, .int x1), (2, .int x2)] [] := by
  obtain ⟨hx, hb, hr, hml, hown, hts, hlocks, hK, hfr, hlo, hmc, hms, hnm⟩ := id C
  have hown : s.vm.findClass RX7 = some m.cls := hown
  intro n
  induction n with
  | zero => intro I x1 x2 h; cases h
  | succ n ih =>
    intro I x1 x2 h H locs cells slots ls hc hz hR hS hl
    rw [f_X7_clearParts_2] at h
    refine lv_iload_n hx hb dX7_clearParts_2 rfl (lv_at hl 2 rfl) ?_
    refine lv_bipush (v := 8) hx hb dX7_clearParts_3 (by decide) ?_
    refine lv_icmp_ge (tgt := 27) hx hb dX7_clearParts_5 (by decide) (fun q => ?_) (fun q => ?_)
    · have h := ax_ip q h
      cases h
      exact ax_vret C hc hz hR hS dX7_clearParts_27
    · have h := ax_iN q h
      refine lv_aload_n hx hb dX7_clearParts_8 rfl (lv_at hl 0 rfl) ?_
      refine ax_getV hx hb hts hown hK hR fl_X7_22 (lk_35 hL) rfl dX7_clearParts_9 ?_
      refine lv_bipush (v := 8) hx hb dX7_clearParts_12 (by decide) ?_
      refine lv_iload_n hx hb dX7_clearParts_14 rfl (lv_at hl 1 rfl) ?_
      refine lv_imul hx hb dX7_clearParts_15 ?_
      refine lv_iload_n hx hb dX7_clearParts_16 rfl (lv_at hl 2 rfl) ?_
      refine lv_iadd hx hb dX7_clearParts_17 ?_
      refine lv_bipush (v := (-6)) hx hb dX7_clearParts_18 (by decide) ?_
      obtain ⟨hq, h⟩ := ax_ck h
      refine ax_iast hx hb hK hR hS (lk_40 hL) hq dX7_clearParts_20 (fun H locs hR hS => ?_)
      refine lv_iinc (v := (x2 + 1)) (lv' := [(2, .int (x2 + 1)), (0, .ref (B + 35)), (1, .int x1)]) hx hb dX7_clearParts_21 hl (k := 2) rfl rfl (by decide) rfl (fun ls hl => ?_)
      refine lv_goto (tgt := 2) hx hb dX7_clearParts_24 (by decide) ?_
      exact ih _ _ _ h H locs cells slots ls hc hz hR hS (lv_sub hl [1, 2, 0] rfl)
set_option maxRecDepth 100000 in
set_option maxHeartbeats 4000000 in
theorem t_X7_clearParts_0 {lay : List ax_S} {J : ax_J} {I9 : ax_I} (hL : ax_LL B lay) (C : ax_C p R s m args meth c yX7_clearParts cX7_clearParts 3 none 2 E mc ms) : ∀ (I : ax_I) (x1 : Int32), F_X7_clearParts I x1 = some I9 → AM p l e R s m args below meth c E B lay.length (ax_z lay) 3 none lay I9 J lay I J 0 [(0, .ref (B + 35)), (1, .int x1)] [] := by
  obtain ⟨hx, hb, hr, hml, hown, hts, hlocks, hK, hfr, hlo, hmc, hms, hnm⟩ := id C
  have hown : s.vm.findClass RX7 = some m.cls := hown
  intro I x1 h H locs cells slots ls hc hz hR hS hl
  unfold F_X7_clearParts at h
  refine lv_iconst (v := 0) hx hb dX7_clearParts_0 (by decide) ?_
  refine lv_istore_n (lv' := [(2, .int 0), (0, .ref (B + 35)), (1, .int x1)]) hx hb dX7_clearParts_1 rfl hl (by decide) rfl (fun ls hl => ?_)
  exact t_X7_clearParts_2 hL C  ax_N _ _ _ h H locs cells slots ls hc hz hR hS (lv_sub hl [1, 2, 0] rfl)
theorem M_X7_clearParts {l : Launch} {E : ax_E} {B : Nat} {lay : List ax_S} {I : ax_I} {J : ax_J} {x1 : Int32} {I9 : ax_I} (hL : ax_LL B lay) (h : F_X7_clearParts I x1 = some I9) : Cm l yX7_clearParts cX7_clearParts 3 none 2 E B [.ref (B + 35), .int x1] lay I J none lay I9 J :=
  ax_met (by decide) (Nat.le_of_ble_eq_true rfl) (fun p e R s m args below meth c C => t_X7_clearParts_0 hL C _ _ h)
def f_X7_child_75 (I : ax_I) (x1 : Int32) (x4 : Int32) : Option (Int32 × ax_I) :=
  if ax_in x1 6 = true then if ax_in x1 6 = true then (F_X7_clearParts (ax_u (ax_u I 38 x1.toNatClampNeg x4) 39 x1.toNatClampNeg 0) x1).bind (fun q92 => (F_X7_ones q92 (q92 35 0)).bind (fun q99 => some (q99, q92))) else none else none
def F_X7_child (I : ax_I) (x1 : Int32) (x2 : Int32) (x3 : Int32) (x4 : Int32) : Option (Int32 × ax_I) :=
  (F_X7_isNumber I x1).bind (fun q1 => if q1 = 0 then some ((-1), I) else (F_X7_in I ((x2 : Int32).toInt64) 0 99).bind (fun q15 => if q15 = 0 then some ((-2), I) else (F_X7_in I ((x3 : Int32).toInt64) 0 99).bind (fun q27 => if q27 = 0 then some ((-2), I) else (F_X7_in I ((x4 : Int32).toInt64) 0 99).bind (fun q40 => if q40 = 0 then some ((-2), I) else if ax_in x1 6 = true then if ax_in x1 6 = true then f_X7_child_75 (ax_u (ax_u (ax_u I 35 0 ((I 35 0) ||| ((1 : Int32) <<< (x1 &&& 31)))) 36 x1.toNatClampNeg x2) 37 x1.toNatClampNeg x3) x1 x4 else none else none))))
set_option maxRecDepth 100000 in
set_option maxHeartbeats 4000000 in
theorem t_X7_child_75 {lay : List ax_S} {J : ax_J} {rv : Int32} {I9 : ax_I} (hL : ax_LL B lay) (C : ax_C p R s m args meth c yX7_child cX7_child 5 (some .int) 6 E mc ms) : ∀ (I : ax_I) (x1 : Int32) (x4 : Int32), f_X7_child_75 I x1 x4 = some (rv, I9) → AM p l e R s m args below meth c E B lay.length (ax_z lay) 5 (some (.int rv)) lay I9 J lay I J 75 [(0, .ref (B + 35)), (1, .int x1), (4, .int x4)] [] := by
  obtain ⟨hx, hb, hr, hml, hown, hts, hlocks, hK, hfr, hlo, hmc, hms, hnm⟩ := id C
  have hown : s.vm.findClass RX7 = some m.cls := hown
  intro I x1 x4 h H locs cells slots ls hc hz hR hS hl
  unfold f_X7_child_75 at h
  refine lv_aload_n hx hb dX7_child_75 rfl (lv_at hl 0 rfl) ?_
  refine ax_getV hx hb hts hown hK hR fl_X7_16 (lk_35 hL) rfl dX7_child_76 ?_
  refine lv_iload_n hx hb dX7_child_79 rfl (lv_at hl 1 rfl) ?_
  refine lv_iload hx hb dX7_child_80 (lv_at hl 2 rfl) ?_
  obtain ⟨hq, h⟩ := ax_ck h
  refine ax_iast hx hb hK hR hS (lk_38 hL) hq dX7_child_82 (fun H locs hR hS => ?_)
  refine lv_aload_n hx hb dX7_child_83 rfl (lv_at hl 0 rfl) ?_
  refine ax_getV hx hb hts hown hK hR fl_X7_19 (lk_35 hL) rfl dX7_child_84 ?_
  refine lv_iload_n hx hb dX7_child_87 rfl (lv_at hl 1 rfl) ?_
  refine lv_iconst (v := 0) hx hb dX7_child_88 (by decide) ?_
  obtain ⟨hq, h⟩ := ax_ck h
  refine ax_iast hx hb hK hR hS (lk_39 hL) hq dX7_child_89 (fun H locs hR hS => ?_)
  refine lv_aload_n hx hb dX7_child_90 rfl (lv_at hl 0 rfl) ?_
  refine lv_iload_n hx hb dX7_child_91 rfl (lv_at hl 1 rfl) ?_
  obtain ⟨q92, hq, h⟩ := ax_bd h
  refine ax_cV (rest := []) (st1 := []) C hc hz hS hR (M_X7_clearParts hL hq) yk_X7_clearParts in_X7_clearParts se_X7_clearParts ml_X7_105 (lk_35 hL) rfl rfl (by decide) rfl hl.1 (Nat.le_of_ble_eq_true rfl) rfl rfl dX7_child_92 (fun H locs hR hS => ?_)
  refine lv_aload_n hx hb dX7_child_95 rfl (lv_at hl 0 rfl) ?_
  refine ax_getI hx hb hts hown hK hR fl_X7_97 (lk_35 hL) rfl dX7_child_96 ?_
  obtain ⟨q99, hq, h⟩ := ax_bd h
  refine ax_cS (rest := []) (st1 := [.int q99]) C hc hz hS hR (M_X7_ones  hq) yk_X7_ones st_X7_ones ml_X7_109 (by decide) rfl hl.1 (Nat.le_of_ble_eq_true rfl) rfl rfl dX7_child_99 (fun H locs hR hS => ?_)
  cases h
  exact ax_iret C hc hz hR hS rfl rfl dX7_child_102
set_option maxRecDepth 100000 in
set_option maxHeartbeats 4000000 in
theorem t_X7_child_0 {lay : List ax_S} {J : ax_J} {rv : Int32} {I9 : ax_I} (hL : ax_LL B lay) (C : ax_C p R s m args meth c yX7_child cX7_child 5 (some .int) 6 E mc ms) : ∀ (I : ax_I) (x1 : Int32) (x2 : Int32) (x3 : Int32) (x4 : Int32), F_X7_child I x1 x2 x3 x4 = some (rv, I9) → AM p l e R s m args below meth c E B lay.length (ax_z lay) 5 (some (.int rv)) lay I9 J lay I J 0 [(0, .ref (B + 35)), (1, .int x1), (2, .int x2), (3, .int x3), (4, .int x4)] [] := by
  obtain ⟨hx, hb, hr, hml, hown, hts, hlocks, hK, hfr, hlo, hmc, hms, hnm⟩ := id C
  have hown : s.vm.findClass RX7 = some m.cls := hown
  intro I x1 x2 x3 x4 h H locs cells slots ls hc hz hR hS hl
  unfold F_X7_child at h
  refine lv_iload_n hx hb dX7_child_0 rfl (lv_at hl 1 rfl) ?_
  obtain ⟨q1, hq, h⟩ := ax_bd h
  refine ax_cS (rest := []) (st1 := [.int q1]) C hc hz hS hR (M_X7_isNumber  hq) yk_X7_isNumber st_X7_isNumber ml_X7_93 (by decide) rfl hl.1 (Nat.le_of_ble_eq_true rfl) rfl rfl dX7_child_1 (fun H locs hR hS => ?_)
  refine lv_if_ne (tgt := 9) hx hb dX7_child_4 (by decide) (fun q => ?_) (fun q => ?_)
  · have h := ax_iN q h
    refine lv_iload_n hx hb dX7_child_9 rfl (lv_at hl 2 rfl) ?_
    refine lv_i2l hx hb dX7_child_10 rfl ?_
    refine lv_lconst (v := 0) hx hb dX7_child_11 (by decide) ?_
    refine lv_ldc2 hx hb hown (hts _ ct_X7_103) dX7_child_12 ?_
    obtain ⟨q15, hq, h⟩ := ax_bd h
    refine ax_cS (rest := []) (st1 := [.int q15]) C hc hz hS hR (M_X7_in  hq) yk_X7_in st_X7_in ml_X7_89 (by decide) rfl hl.1 (Nat.le_of_ble_eq_true rfl) rfl rfl dX7_child_15 (fun H locs hR hS => ?_)
    refine lv_if_eq (tgt := 46) hx hb dX7_child_18 (by decide) (fun q => ?_) (fun q => ?_)
    · have h := ax_ip q h
      refine lv_bipush (v := (-2)) hx hb dX7_child_46 (by decide) ?_
      cases h
      exact ax_iret C hc hz hR hS rfl rfl dX7_child_48
    · have h := ax_iN q h
      refine lv_iload_n hx hb dX7_child_21 rfl (lv_at hl 3 rfl) ?_
      refine lv_i2l hx hb dX7_child_22 rfl ?_
      refine lv_lconst (v := 0) hx hb dX7_child_23 (by decide) ?_
      refine lv_ldc2 hx hb hown (hts _ ct_X7_103) dX7_child_24 ?_
      obtain ⟨q27, hq, h⟩ := ax_bd h
      refine ax_cS (rest := []) (st1 := [.int q27]) C hc hz hS hR (M_X7_in  hq) yk_X7_in st_X7_in ml_X7_89 (by decide) rfl hl.1 (Nat.le_of_ble_eq_true rfl) rfl rfl dX7_child_27 (fun H locs hR hS => ?_)
      refine lv_if_eq (tgt := 46) hx hb dX7_child_30 (by decide) (fun q => ?_) (fun q => ?_)
      · have h := ax_ip q h
        refine lv_bipush (v := (-2)) hx hb dX7_child_46 (by decide) ?_
        cases h
        exact ax_iret C hc hz hR hS rfl rfl dX7_child_48
      · have h := ax_iN q h
        refine lv_iload hx hb dX7_child_33 (lv_at hl 4 rfl) ?_
        refine lv_i2l hx hb dX7_child_35 rfl ?_
        refine lv_lconst (v := 0) hx hb dX7_child_36 (by decide) ?_
        refine lv_ldc2 hx hb hown (hts _ ct_X7_103) dX7_child_37 ?_
        obtain ⟨q40, hq, h⟩ := ax_bd h
        refine ax_cS (rest := []) (st1 := [.int q40]) C hc hz hS hR (M_X7_in  hq) yk_X7_in st_X7_in ml_X7_89 (by decide) rfl hl.1 (Nat.le_of_ble_eq_true rfl) rfl rfl dX7_child_40 (fun H locs hR hS => ?_)
        refine lv_if_ne (tgt := 49) hx hb dX7_child_43 (by decide) (fun q => ?_) (fun q => ?_)
        · have h := ax_iN q h
          refine lv_aload_n hx hb dX7_child_49 rfl (lv_at hl 0 rfl) ?_
          refine lv_dup hx hb dX7_child_50 rfl ?_
          refine ax_getI hx hb hts hown hK hR fl_X7_97 (lk_35 hL) rfl dX7_child_51 ?_
          refine lv_iconst (v := 1) hx hb dX7_child_54 (by decide) ?_
          refine lv_iload_n hx hb dX7_child_55 rfl (lv_at hl 1 rfl) ?_
          refine lv_ishl hx hb dX7_child_56 ?_
          refine lv_ior hx hb dX7_child_57 ?_
          refine ax_putI hx hb hts hown hK hR hS fp_X7_97 (lk_35 hL) rfl rfl rfl dX7_child_58 (fun H locs hR hS => ?_)
          refine lv_aload_n hx hb dX7_child_61 rfl (lv_at hl 0 rfl) ?_
          refine ax_getV hx hb hts hown hK hR fl_X7_7 (lk_35 hL) rfl dX7_child_62 ?_
          refine lv_iload_n hx hb dX7_child_65 rfl (lv_at hl 1 rfl) ?_
          refine lv_iload_n hx hb dX7_child_66 rfl (lv_at hl 2 rfl) ?_
          obtain ⟨hq, h⟩ := ax_ck h
          refine ax_iast hx hb hK hR hS (lk_36 hL) hq dX7_child_67 (fun H locs hR hS => ?_)
          refine lv_aload_n hx hb dX7_child_68 rfl (lv_at hl 0 rfl) ?_
          refine ax_getV hx hb hts hown hK hR fl_X7_13 (lk_35 hL) rfl dX7_child_69 ?_
          refine lv_iload_n hx hb dX7_child_72 rfl (lv_at hl 1 rfl) ?_
          refine lv_iload_n hx hb dX7_child_73 rfl (lv_at hl 3 rfl) ?_
          obtain ⟨hq, h⟩ := ax_ck h
          refine ax_iast hx hb hK hR hS (lk_37 hL) hq dX7_child_74 (fun H locs hR hS => ?_)
          exact t_X7_child_75 hL C  _ _ _ h H locs cells slots ls hc hz hR hS (lv_sub hl [0, 1, 4] rfl)
        · have h := ax_ip q h
          refine lv_bipush (v := (-2)) hx hb dX7_child_46 (by decide) ?_
          cases h
          exact ax_iret C hc hz hR hS rfl rfl dX7_child_48
  · have h := ax_ip q h
    refine lv_iconst (v := (-1)) hx hb dX7_child_7 (by decide) ?_
    cases h
    exact ax_iret C hc hz hR hS rfl rfl dX7_child_8
theorem M_X7_child {l : Launch} {E : ax_E} {B : Nat} {lay : List ax_S} {I : ax_I} {J : ax_J} {x1 : Int32} {x2 : Int32} {x3 : Int32} {x4 : Int32} {rv : Int32} {I9 : ax_I} (hL : ax_LL B lay) (h : F_X7_child I x1 x2 x3 x4 = some (rv, I9)) : Cm l yX7_child cX7_child 5 (some .int) 6 E B [.ref (B + 35), .int x1, .int x2, .int x3, .int x4] lay I J (some (.int rv)) lay I9 J :=
  ax_met (by decide) (Nat.le_of_ble_eq_true rfl) (fun p e R s m args below meth c C => t_X7_child_0 hL C _ _ _ _ _ h)
def F_X7_leave (I : ax_I) (x1 : Int32) : Option (Int32 × ax_I) :=
  (F_X7_isChild I x1).bind (fun q2 => if q2 = 0 then some ((-1), I) else (F_X7_clearParts (ax_u I 35 0 ((I 35 0) &&& (((1 : Int32) <<< (x1 &&& 31)) ^^^ (-1)))) x1).bind (fun q26 => (F_X7_ones q26 (q26 35 0)).bind (fun q33 => some (q33, q26))))
set_option maxRecDepth 100000 in
set_option maxHeartbeats 4000000 in
theorem t_X7_leave_0 {lay : List ax_S} {J : ax_J} {rv : Int32} {I9 : ax_I} (hL : ax_LL B lay) (C : ax_C p R s m args meth c yX7_leave cX7_leave 2 (some .int) 8 E mc ms) : ∀ (I : ax_I) (x1 : Int32), F_X7_leave I x1 = some (rv, I9) → AM p l e R s m args below meth c E B lay.length (ax_z lay) 2 (some (.int rv)) lay I9 J lay I J 0 [(0, .ref (B + 35)), (1, .int x1)] [] := by
  obtain ⟨hx, hb, hr, hml, hown, hts, hlocks, hK, hfr, hlo, hmc, hms, hnm⟩ := id C
  have hown : s.vm.findClass RX7 = some m.cls := hown
  intro I x1 h H locs cells slots ls hc hz hR hS hl
  unfold F_X7_leave at h
  refine lv_aload_n hx hb dX7_leave_0 rfl (lv_at hl 0 rfl) ?_
  refine lv_iload_n hx hb dX7_leave_1 rfl (lv_at hl 1 rfl) ?_
  obtain ⟨q2, hq, h⟩ := ax_bd h
  refine ax_cV (rest := []) (st1 := [.int q2]) C hc hz hS hR (M_X7_isChild hL hq) yk_X7_isChild in_X7_isChild se_X7_isChild ml_X7_113 (lk_35 hL) rfl rfl (by decide) rfl hl.1 (Nat.le_of_ble_eq_true rfl) rfl rfl dX7_leave_2 (fun H locs hR hS => ?_)
  refine lv_if_ne (tgt := 10) hx hb dX7_leave_5 (by decide) (fun q => ?_) (fun q => ?_)
  · have h := ax_iN q h
    refine lv_aload_n hx hb dX7_leave_10 rfl (lv_at hl 0 rfl) ?_
    refine lv_dup hx hb dX7_leave_11 rfl ?_
    refine ax_getI hx hb hts hown hK hR fl_X7_97 (lk_35 hL) rfl dX7_leave_12 ?_
    refine lv_iconst (v := 1) hx hb dX7_leave_15 (by decide) ?_
    refine lv_iload_n hx hb dX7_leave_16 rfl (lv_at hl 1 rfl) ?_
    refine lv_ishl hx hb dX7_leave_17 ?_
    refine lv_iconst (v := (-1)) hx hb dX7_leave_18 (by decide) ?_
    refine lv_ixor hx hb dX7_leave_19 ?_
    refine lv_iand hx hb dX7_leave_20 ?_
    refine ax_putI hx hb hts hown hK hR hS fp_X7_97 (lk_35 hL) rfl rfl rfl dX7_leave_21 (fun H locs hR hS => ?_)
    refine lv_aload_n hx hb dX7_leave_24 rfl (lv_at hl 0 rfl) ?_
    refine lv_iload_n hx hb dX7_leave_25 rfl (lv_at hl 1 rfl) ?_
    obtain ⟨q26, hq, h⟩ := ax_bd h
    refine ax_cV (rest := []) (st1 := []) C hc hz hS hR (M_X7_clearParts hL hq) yk_X7_clearParts in_X7_clearParts se_X7_clearParts ml_X7_105 (lk_35 hL) rfl rfl (by decide) rfl hl.1 (Nat.le_of_ble_eq_true rfl) rfl rfl dX7_leave_26 (fun H locs hR hS => ?_)
    refine lv_aload_n hx hb dX7_leave_29 rfl (lv_at hl 0 rfl) ?_
    refine ax_getI hx hb hts hown hK hR fl_X7_97 (lk_35 hL) rfl dX7_leave_30 ?_
    obtain ⟨q33, hq, h⟩ := ax_bd h
    refine ax_cS (rest := []) (st1 := [.int q33]) C hc hz hS hR (M_X7_ones  hq) yk_X7_ones st_X7_ones ml_X7_109 (by decide) rfl hl.1 (Nat.le_of_ble_eq_true rfl) rfl rfl dX7_leave_33 (fun H locs hR hS => ?_)
    cases h
    exact ax_iret C hc hz hR hS rfl rfl dX7_leave_36
  · have h := ax_ip q h
    refine lv_iconst (v := (-1)) hx hb dX7_leave_8 (by decide) ?_
    cases h
    exact ax_iret C hc hz hR hS rfl rfl dX7_leave_9
theorem M_X7_leave {l : Launch} {E : ax_E} {B : Nat} {lay : List ax_S} {I : ax_I} {J : ax_J} {x1 : Int32} {rv : Int32} {I9 : ax_I} (hL : ax_LL B lay) (h : F_X7_leave I x1 = some (rv, I9)) : Cm l yX7_leave cX7_leave 2 (some .int) 8 E B [.ref (B + 35), .int x1] lay I J (some (.int rv)) lay I9 J :=
  ax_met (by decide) (Nat.le_of_ble_eq_true rfl) (fun p e R s m args below meth c C => t_X7_leave_0 hL C _ _ h)
def F_X7_law (I : ax_I) (x1 : Int32) (x2 : Int32) : Option (Int32 × ax_I) :=
  (F_X7_in I ((x1 : Int32).toInt64) 0 2).bind (fun q6 => if q6 = 0 then some ((-2), I) else (F_X7_in I ((x2 : Int32).toInt64) 0 9).bind (fun q18 => if q18 = 0 then some ((-2), I) else if ax_in x1 3 = true then if ax_in x1 3 = true then some ((I 45 x1.toNatClampNeg), (ax_u I 45 x1.toNatClampNeg x2)) else none else none))
set_option maxRecDepth 100000 in
set_option maxHeartbeats 4000000 in
theorem t_X7_law_0 {lay : List ax_S} {J : ax_J} {rv : Int32} {I9 : ax_I} (hL : ax_LL B lay) (C : ax_C p R s m args meth c yX7_law cX7_law 4 (some .int) 4 E mc ms) : ∀ (I : ax_I) (x1 : Int32) (x2 : Int32), F_X7_law I x1 x2 = some (rv, I9) → AM p l e R s m args below meth c E B lay.length (ax_z lay) 4 (some (.int rv)) lay I9 J lay I J 0 [(0, .ref (B + 35)), (1, .int x1), (2, .int x2)] [] := by
  obtain ⟨hx, hb, hr, hml, hown, hts, hlocks, hK, hfr, hlo, hmc, hms, hnm⟩ := id C
  have hown : s.vm.findClass RX7 = some m.cls := hown
  intro I x1 x2 h H locs cells slots ls hc hz hR hS hl
  unfold F_X7_law at h
  refine lv_iload_n hx hb dX7_law_0 rfl (lv_at hl 1 rfl) ?_
  refine lv_i2l hx hb dX7_law_1 rfl ?_
  refine lv_lconst (v := 0) hx hb dX7_law_2 (by decide) ?_
  refine lv_ldc2 hx hb hown (hts _ ct_X7_116) dX7_law_3 ?_
  obtain ⟨q6, hq, h⟩ := ax_bd h
  refine ax_cS (rest := []) (st1 := [.int q6]) C hc hz hS hR (M_X7_in  hq) yk_X7_in st_X7_in ml_X7_89 (by decide) rfl hl.1 (Nat.le_of_ble_eq_true rfl) rfl rfl dX7_law_6 (fun H locs hR hS => ?_)
  refine lv_if_eq (tgt := 24) hx hb dX7_law_9 (by decide) (fun q => ?_) (fun q => ?_)
  · have h := ax_ip q h
    refine lv_bipush (v := (-2)) hx hb dX7_law_24 (by decide) ?_
    cases h
    exact ax_iret C hc hz hR hS rfl rfl dX7_law_26
  · have h := ax_iN q h
    refine lv_iload_n hx hb dX7_law_12 rfl (lv_at hl 2 rfl) ?_
    refine lv_i2l hx hb dX7_law_13 rfl ?_
    refine lv_lconst (v := 0) hx hb dX7_law_14 (by decide) ?_
    refine lv_ldc2 hx hb hown (hts _ ct_X7_118) dX7_law_15 ?_
    obtain ⟨q18, hq, h⟩ := ax_bd h
    refine ax_cS (rest := []) (st1 := [.int q18]) C hc hz hS hR (M_X7_in  hq) yk_X7_in st_X7_in ml_X7_89 (by decide) rfl hl.1 (Nat.le_of_ble_eq_true rfl) rfl rfl dX7_law_18 (fun H locs hR hS => ?_)
    refine lv_if_ne (tgt := 27) hx hb dX7_law_21 (by decide) (fun q => ?_) (fun q => ?_)
    · have h := ax_iN q h
      refine lv_aload_n hx hb dX7_law_27 rfl (lv_at hl 0 rfl) ?_
      refine ax_getV hx hb hts hown hK hR fl_X7_37 (lk_35 hL) rfl dX7_law_28 ?_
      refine lv_iload_n hx hb dX7_law_31 rfl (lv_at hl 1 rfl) ?_
      obtain ⟨hq, h⟩ := ax_ck h
      refine ax_iald hx hb hK hR (lk_45 hL) hq dX7_law_32 ?_
      refine lv_istore_n (lv' := [(3, .int (I 45 x1.toNatClampNeg)), (0, .ref (B + 35)), (1, .int x1), (2, .int x2)]) hx hb dX7_law_33 rfl hl (by decide) rfl (fun ls hl => ?_)
      refine lv_aload_n hx hb dX7_law_34 rfl (lv_at hl 1 rfl) ?_
      refine ax_getV hx hb hts hown hK hR fl_X7_37 (lk_35 hL) rfl dX7_law_35 ?_
      refine lv_iload_n hx hb dX7_law_38 rfl (lv_at hl 2 rfl) ?_
      refine lv_iload_n hx hb dX7_law_39 rfl (lv_at hl 3 rfl) ?_
      obtain ⟨hq, h⟩ := ax_ck h
      refine ax_iast hx hb hK hR hS (lk_45 hL) hq dX7_law_40 (fun H locs hR hS => ?_)
      refine lv_iload_n hx hb dX7_law_41 rfl (lv_at hl 0 rfl) ?_
      cases h
      exact ax_iret C hc hz hR hS rfl rfl dX7_law_42
    · have h := ax_ip q h
      refine lv_bipush (v := (-2)) hx hb dX7_law_24 (by decide) ?_
      cases h
      exact ax_iret C hc hz hR hS rfl rfl dX7_law_26
theorem M_X7_law {l : Launch} {E : ax_E} {B : Nat} {lay : List ax_S} {I : ax_I} {J : ax_J} {x1 : Int32} {x2 : Int32} {rv : Int32} {I9 : ax_I} (hL : ax_LL B lay) (h : F_X7_law I x1 x2 = some (rv, I9)) : Cm l yX7_law cX7_law 4 (some .int) 4 E B [.ref (B + 35), .int x1, .int x2] lay I J (some (.int rv)) lay I9 J :=
  ax_met (by decide) (Nat.le_of_ble_eq_true rfl) (fun p e R s m args below meth c C => t_X7_law_0 hL C _ _ _ h)
def F_X7_purse (I : ax_I) (x1 : Int32) (x2 : Int32) : Option (Int32 × ax_I) :=
  (F_X7_isParish I x1).bind (fun q1 => if q1 = 0 then some ((-1), I) else (F_X7_in I ((x2 : Int32).toInt64) 0 999).bind (fun q15 => if q15 = 0 then some ((-2), I) else if ax_in x1 4 = true then if ax_in x1 4 = true then some ((I 44 x1.toNatClampNeg), (ax_u I 44 x1.toNatClampNeg x2)) else none else none))
set_option maxRecDepth 100000 in
set_option maxHeartbeats 4000000 in
theorem t_X7_purse_0 {lay : List ax_S} {J : ax_J} {rv : Int32} {I9 : ax_I} (hL : ax_LL B lay) (C : ax_C p R s m args meth c yX7_purse cX7_purse 4 (some .int) 6 E mc ms) : ∀ (I : ax_I) (x1 : Int32) (x2 : Int32), F_X7_purse I x1 x2 = some (rv, I9) → AM p l e R s m args below meth c E B lay.length (ax_z lay) 4 (some (.int rv)) lay I9 J lay I J 0 [(0, .ref (B + 35)), (1, .int x1), (2, .int x2)] [] := by
  obtain ⟨hx, hb, hr, hml, hown, hts, hlocks, hK, hfr, hlo, hmc, hms, hnm⟩ := id C
  have hown : s.vm.findClass RX7 = some m.cls := hown
  intro I x1 x2 h H locs cells slots ls hc hz hR hS hl
  unfold F_X7_purse at h
  refine lv_iload_n hx hb dX7_purse_0 rfl (lv_at hl 1 rfl) ?_
  obtain ⟨q1, hq, h⟩ := ax_bd h
  refine ax_cS (rest := []) (st1 := [.int q1]) C hc hz hS hR (M_X7_isParish  hq) yk_X7_isParish st_X7_isParish ml_X7_120 (by decide) rfl hl.1 (Nat.le_of_ble_eq_true rfl) rfl rfl dX7_purse_1 (fun H locs hR hS => ?_)
  refine lv_if_ne (tgt := 9) hx hb dX7_purse_4 (by decide) (fun q => ?_) (fun q => ?_)
  · have h := ax_iN q h
    refine lv_iload_n hx hb dX7_purse_9 rfl (lv_at hl 2 rfl) ?_
    refine lv_i2l hx hb dX7_purse_10 rfl ?_
    refine lv_lconst (v := 0) hx hb dX7_purse_11 (by decide) ?_
    refine lv_ldc2 hx hb hown (hts _ ct_X7_123) dX7_purse_12 ?_
    obtain ⟨q15, hq, h⟩ := ax_bd h
    refine ax_cS (rest := []) (st1 := [.int q15]) C hc hz hS hR (M_X7_in  hq) yk_X7_in st_X7_in ml_X7_89 (by decide) rfl hl.1 (Nat.le_of_ble_eq_true rfl) rfl rfl dX7_purse_15 (fun H locs hR hS => ?_)
    refine lv_if_ne (tgt := 24) hx hb dX7_purse_18 (by decide) (fun q => ?_) (fun q => ?_)
    · have h := ax_iN q h
      refine lv_aload_n hx hb dX7_purse_24 rfl (lv_at hl 0 rfl) ?_
      refine ax_getV hx hb hts hown hK hR fl_X7_34 (lk_35 hL) rfl dX7_purse_25 ?_
      refine lv_iload_n hx hb dX7_purse_28 rfl (lv_at hl 1 rfl) ?_
      obtain ⟨hq, h⟩ := ax_ck h
      refine ax_iald hx hb hK hR (lk_44 hL) hq dX7_purse_29 ?_
      refine lv_istore_n (lv' := [(3, .int (I 44 x1.toNatClampNeg)), (0, .ref (B + 35)), (1, .int x1), (2, .int x2)]) hx hb dX7_purse_30 rfl hl (by decide) rfl (fun ls hl => ?_)
      refine lv_aload_n hx hb dX7_purse_31 rfl (lv_at hl 1 rfl) ?_
      refine ax_getV hx hb hts hown hK hR fl_X7_34 (lk_35 hL) rfl dX7_purse_32 ?_
      refine lv_iload_n hx hb dX7_purse_35 rfl (lv_at hl 2 rfl) ?_
      refine lv_iload_n hx hb dX7_purse_36 rfl (lv_at hl 3 rfl) ?_
      obtain ⟨hq, h⟩ := ax_ck h
      refine ax_iast hx hb hK hR hS (lk_44 hL) hq dX7_purse_37 (fun H locs hR hS => ?_)
      refine lv_iload_n hx hb dX7_purse_38 rfl (lv_at hl 0 rfl) ?_
      cases h
      exact ax_iret C hc hz hR hS rfl rfl dX7_purse_39
    · have h := ax_ip q h
      refine lv_bipush (v := (-2)) hx hb dX7_purse_21 (by decide) ?_
      cases h
      exact ax_iret C hc hz hR hS rfl rfl dX7_purse_23
  · have h := ax_ip q h
    refine lv_iconst (v := (-1)) hx hb dX7_purse_7 (by decide) ?_
    cases h
    exact ax_iret C hc hz hR hS rfl rfl dX7_purse_8
theorem M_X7_purse {l : Launch} {E : ax_E} {B : Nat} {lay : List ax_S} {I : ax_I} {J : ax_J} {x1 : Int32} {x2 : Int32} {rv : Int32} {I9 : ax_I} (hL : ax_LL B lay) (h : F_X7_purse I x1 x2 = some (rv, I9)) : Cm l yX7_purse cX7_purse 4 (some .int) 6 E B [.ref (B + 35), .int x1, .int x2] lay I J (some (.int rv)) lay I9 J :=
  ax_met (by decide) (Nat.le_of_ble_eq_true rfl) (fun p e R s m args below meth c C => t_X7_purse_0 hL C _ _ _ h)
def F_X7_offer (I : ax_I) (x1 : Int32) (x2 : Int32) (x3 : Int32) (x4 : Int32) : Option (Int32 × ax_I) :=
  (F_X7_isNumber I x1).bind (fun q1 => if q1 = 0 then some ((-1), I) else (F_X7_in I ((x2 : Int32).toInt64) 0 99).bind (fun q15 => if q15 = 0 then some ((-2), I) else (F_X7_in I ((x3 : Int32).toInt64) 0 999).bind (fun q27 => if q27 = 0 then some ((-2), I) else (F_X7_in I ((x4 : Int32).toInt64) 0 4095).bind (fun q40 => if q40 = 0 then some ((-2), I) else if ax_in x1 6 = true then if ax_in x1 6 = true then if ax_in x1 6 = true then if ax_in x1 6 = true then some ((I 43 x1.toNatClampNeg), (ax_u (ax_u (ax_u I 41 x1.toNatClampNeg x2) 42 x1.toNatClampNeg x3) 43 x1.toNatClampNeg x4)) else none else none else none else none))))
set_option maxRecDepth 100000 in
set_option maxHeartbeats 4000000 in
theorem t_X7_offer_0 {lay : List ax_S} {J : ax_J} {rv : Int32} {I9 : ax_I} (hL : ax_LL B lay) (C : ax_C p R s m args meth c yX7_offer cX7_offer 6 (some .int) 6 E mc ms) : ∀ (I : ax_I) (x1 : Int32) (x2 : Int32) (x3 : Int32) (x4 : Int32), F_X7_offer I x1 x2 x3 x4 = some (rv, I9) → AM p l e R s m args below meth c E B lay.length (ax_z lay) 6 (some (.int rv)) lay I9 J lay I J 0 [(0, .ref (B + 35)), (1, .int x1), (2, .int x2), (3, .int x3), (4, .int x4)] [] := by
  obtain ⟨hx, hb, hr, hml, hown, hts, hlocks, hK, hfr, hlo, hmc, hms, hnm⟩ := id C
  have hown : s.vm.findClass RX7 = some m.cls := hown
  intro I x1 x2 x3 x4 h H locs cells slots ls hc hz hR hS hl
  unfold F_X7_offer at h
  refine lv_iload_n hx hb dX7_offer_0 rfl (lv_at hl 1 rfl) ?_
  obtain ⟨q1, hq, h⟩ := ax_bd h
  refine ax_cS (rest := []) (st1 := [.int q1]) C hc hz hS hR (M_X7_isNumber  hq) yk_X7_isNumber st_X7_isNumber ml_X7_93 (by decide) rfl hl.1 (Nat.le_of_ble_eq_true rfl) rfl rfl dX7_offer_1 (fun H locs hR hS => ?_)
  refine lv_if_ne (tgt := 9) hx hb dX7_offer_4 (by decide) (fun q => ?_) (fun q => ?_)
  · have h := ax_iN q h
    refine lv_iload_n hx hb dX7_offer_9 rfl (lv_at hl 2 rfl) ?_
    refine lv_i2l hx hb dX7_offer_10 rfl ?_
    refine lv_lconst (v := 0) hx hb dX7_offer_11 (by decide) ?_
    refine lv_ldc2 hx hb hown (hts _ ct_X7_103) dX7_offer_12 ?_
    obtain ⟨q15, hq, h⟩ := ax_bd h
    refine ax_cS (rest := []) (st1 := [.int q15]) C hc hz hS hR (M_X7_in  hq) yk_X7_in st_X7_in ml_X7_89 (by decide) rfl hl.1 (Nat.le_of_ble_eq_true rfl) rfl rfl dX7_offer_15 (fun H locs hR hS => ?_)
    refine lv_if_eq (tgt := 46) hx hb dX7_offer_18 (by decide) (fun q => ?_) (fun q => ?_)
    · have h := ax_ip q h
      refine lv_bipush (v := (-2)) hx hb dX7_offer_46 (by decide) ?_
      cases h
      exact ax_iret C hc hz hR hS rfl rfl dX7_offer_48
    · have h := ax_iN q h
      refine lv_iload_n hx hb dX7_offer_21 rfl (lv_at hl 3 rfl) ?_
      refine lv_i2l hx hb dX7_offer_22 rfl ?_
      refine lv_lconst (v := 0) hx hb dX7_offer_23 (by decide) ?_
      refine lv_ldc2 hx hb hown (hts _ ct_X7_123) dX7_offer_24 ?_
      obtain ⟨q27, hq, h⟩ := ax_bd h
      refine ax_cS (rest := []) (st1 := [.int q27]) C hc hz hS hR (M_X7_in  hq) yk_X7_in st_X7_in ml_X7_89 (by decide) rfl hl.1 (Nat.le_of_ble_eq_true rfl) rfl rfl dX7_offer_27 (fun H locs hR hS => ?_)
      refine lv_if_eq (tgt := 46) hx hb dX7_offer_30 (by decide) (fun q => ?_) (fun q => ?_)
      · have h := ax_ip q h
        refine lv_bipush (v := (-2)) hx hb dX7_offer_46 (by decide) ?_
        cases h
        exact ax_iret C hc hz hR hS rfl rfl dX7_offer_48
      · have h := ax_iN q h
        refine lv_iload hx hb dX7_offer_33 (lv_at hl 4 rfl) ?_
        refine lv_i2l hx hb dX7_offer_35 rfl ?_
        refine lv_lconst (v := 0) hx hb dX7_offer_36 (by decide) ?_
        refine lv_ldc2 hx hb hown (hts _ ct_X7_125) dX7_offer_37 ?_
        obtain ⟨q40, hq, h⟩ := ax_bd h
        refine ax_cS (rest := []) (st1 := [.int q40]) C hc hz hS hR (M_X7_in  hq) yk_X7_in st_X7_in ml_X7_89 (by decide) rfl hl.1 (Nat.le_of_ble_eq_true rfl) rfl rfl dX7_offer_40 (fun H locs hR hS => ?_)
        refine lv_if_ne (tgt := 49) hx hb dX7_offer_43 (by decide) (fun q => ?_) (fun q => ?_)
        · have h := ax_iN q h
          refine lv_aload_n hx hb dX7_offer_49 rfl (lv_at hl 0 rfl) ?_
          refine ax_getV hx hb hts hown hK hR fl_X7_31 (lk_35 hL) rfl dX7_offer_50 ?_
          refine lv_iload_n hx hb dX7_offer_53 rfl (lv_at hl 1 rfl) ?_
          obtain ⟨hq, h⟩ := ax_ck h
          refine ax_iald hx hb hK hR (lk_43 hL) hq dX7_offer_54 ?_
          refine lv_istore (lv' := [(5, .int (I 43 x1.toNatClampNeg)), (0, .ref (B + 35)), (1, .int x1), (2, .int x2), (3, .int x3), (4, .int x4)]) hx hb dX7_offer_55 hl (by decide) rfl (fun ls hl => ?_)
          refine lv_aload_n hx hb dX7_offer_57 rfl (lv_at hl 1 rfl) ?_
          refine ax_getV hx hb hts hown hK hR fl_X7_25 (lk_35 hL) rfl dX7_offer_58 ?_
          refine lv_iload_n hx hb dX7_offer_61 rfl (lv_at hl 2 rfl) ?_
          refine lv_iload_n hx hb dX7_offer_62 rfl (lv_at hl 3 rfl) ?_
          obtain ⟨hq, h⟩ := ax_ck h
          refine ax_iast hx hb hK hR hS (lk_41 hL) hq dX7_offer_63 (fun H locs hR hS => ?_)
          refine lv_aload_n hx hb dX7_offer_64 rfl (lv_at hl 1 rfl) ?_
          refine ax_getV hx hb hts hown hK hR fl_X7_28 (lk_35 hL) rfl dX7_offer_65 ?_
          refine lv_iload_n hx hb dX7_offer_68 rfl (lv_at hl 2 rfl) ?_
          refine lv_iload_n hx hb dX7_offer_69 rfl (lv_at hl 4 rfl) ?_
          obtain ⟨hq, h⟩ := ax_ck h
          refine ax_iast hx hb hK hR hS (lk_42 hL) hq dX7_offer_70 (fun H locs hR hS => ?_)
          refine lv_aload_n hx hb dX7_offer_71 rfl (lv_at hl 1 rfl) ?_
          refine ax_getV hx hb hts hown hK hR fl_X7_31 (lk_35 hL) rfl dX7_offer_72 ?_
          refine lv_iload_n hx hb dX7_offer_75 rfl (lv_at hl 2 rfl) ?_
          refine lv_iload hx hb dX7_offer_76 (lv_at hl 5 rfl) ?_
          obtain ⟨hq, h⟩ := ax_ck h
          refine ax_iast hx hb hK hR hS (lk_43 hL) hq dX7_offer_78 (fun H locs hR hS => ?_)
          refine lv_iload hx hb dX7_offer_79 (lv_at hl 0 rfl) ?_
          cases h
          exact ax_iret C hc hz hR hS rfl rfl dX7_offer_81
        · have h := ax_ip q h
          refine lv_bipush (v := (-2)) hx hb dX7_offer_46 (by decide) ?_
          cases h
          exact ax_iret C hc hz hR hS rfl rfl dX7_offer_48
  · have h := ax_ip q h
    refine lv_iconst (v := (-1)) hx hb dX7_offer_7 (by decide) ?_
    cases h
    exact ax_iret C hc hz hR hS rfl rfl dX7_offer_8
theorem M_X7_offer {l : Launch} {E : ax_E} {B : Nat} {lay : List ax_S} {I : ax_I} {J : ax_J} {x1 : Int32} {x2 : Int32} {x3 : Int32} {x4 : Int32} {rv : Int32} {I9 : ax_I} (hL : ax_LL B lay) (h : F_X7_offer I x1 x2 x3 x4 = some (rv, I9)) : Cm l yX7_offer cX7_offer 6 (some .int) 6 E B [.ref (B + 35), .int x1, .int x2, .int x3, .int x4] lay I J (some (.int rv)) lay I9 J :=
  ax_met (by decide) (Nat.le_of_ble_eq_true rfl) (fun p e R s m args below meth c C => t_X7_offer_0 hL C _ _ _ _ _ h)
def F_X7_witness (I : ax_I) (x1 : Int32) (x2 : Int32) : Option (Int32 × ax_I) :=
  (F_X7_in I ((x1 : Int32).toInt64) 0 7).bind (fun q6 => if q6 = 0 then some ((-1), I) else (F_X7_in I ((x2 : Int32).toInt64) 0 1023).bind (fun q20 => if q20 = 0 then some ((-2), I) else if ax_in x1 8 = true then if ax_in x1 8 = true then some ((I 46 x1.toNatClampNeg), (ax_u I 46 x1.toNatClampNeg x2)) else none else none))
set_option maxRecDepth 100000 in
set_option maxHeartbeats 4000000 in
theorem t_X7_witness_0 {lay : List ax_S} {J : ax_J} {rv : Int32} {I9 : ax_I} (hL : ax_LL B lay) (C : ax_C p R s m args meth c yX7_witness cX7_witness 4 (some .int) 4 E mc ms) : ∀ (I : ax_I) (x1 : Int32) (x2 : Int32), F_X7_witness I x1 x2 = some (rv, I9) → AM p l e R s m args below meth c E B lay.length (ax_z lay) 4 (some (.int rv)) lay I9 J lay I J 0 [(0, .ref (B + 35)), (1, .int x1), (2, .int x2)] [] := by
  obtain ⟨hx, hb, hr, hml, hown, hts, hlocks, hK, hfr, hlo, hmc, hms, hnm⟩ := id C
  have hown : s.vm.findClass RX7 = some m.cls := hown
  intro I x1 x2 h H locs cells slots ls hc hz hR hS hl
  unfold F_X7_witness at h
  refine lv_iload_n hx hb dX7_witness_0 rfl (lv_at hl 1 rfl) ?_
  refine lv_i2l hx hb dX7_witness_1 rfl ?_
  refine lv_lconst (v := 0) hx hb dX7_witness_2 (by decide) ?_
  refine lv_ldc2 hx hb hown (hts _ ct_X7_127) dX7_witness_3 ?_
  obtain ⟨q6, hq, h⟩ := ax_bd h
  refine ax_cS (rest := []) (st1 := [.int q6]) C hc hz hS hR (M_X7_in  hq) yk_X7_in st_X7_in ml_X7_89 (by decide) rfl hl.1 (Nat.le_of_ble_eq_true rfl) rfl rfl dX7_witness_6 (fun H locs hR hS => ?_)
  refine lv_if_ne (tgt := 14) hx hb dX7_witness_9 (by decide) (fun q => ?_) (fun q => ?_)
  · have h := ax_iN q h
    refine lv_iload_n hx hb dX7_witness_14 rfl (lv_at hl 2 rfl) ?_
    refine lv_i2l hx hb dX7_witness_15 rfl ?_
    refine lv_lconst (v := 0) hx hb dX7_witness_16 (by decide) ?_
    refine lv_ldc2 hx hb hown (hts _ ct_X7_129) dX7_witness_17 ?_
    obtain ⟨q20, hq, h⟩ := ax_bd h
    refine ax_cS (rest := []) (st1 := [.int q20]) C hc hz hS hR (M_X7_in  hq) yk_X7_in st_X7_in ml_X7_89 (by decide) rfl hl.1 (Nat.le_of_ble_eq_true rfl) rfl rfl dX7_witness_20 (fun H locs hR hS => ?_)
    refine lv_if_ne (tgt := 29) hx hb dX7_witness_23 (by decide) (fun q => ?_) (fun q => ?_)
    · have h := ax_iN q h
      refine lv_aload_n hx hb dX7_witness_29 rfl (lv_at hl 0 rfl) ?_
      refine ax_getV hx hb hts hown hK hR fl_X7_40 (lk_35 hL) rfl dX7_witness_30 ?_
      refine lv_iload_n hx hb dX7_witness_33 rfl (lv_at hl 1 rfl) ?_
      obtain ⟨hq, h⟩ := ax_ck h
      refine ax_iald hx hb hK hR (lk_46 hL) hq dX7_witness_34 ?_
      refine lv_istore_n (lv' := [(3, .int (I 46 x1.toNatClampNeg)), (0, .ref (B + 35)), (1, .int x1), (2, .int x2)]) hx hb dX7_witness_35 rfl hl (by decide) rfl (fun ls hl => ?_)
      refine lv_aload_n hx hb dX7_witness_36 rfl (lv_at hl 1 rfl) ?_
      refine ax_getV hx hb hts hown hK hR fl_X7_40 (lk_35 hL) rfl dX7_witness_37 ?_
      refine lv_iload_n hx hb dX7_witness_40 rfl (lv_at hl 2 rfl) ?_
      refine lv_iload_n hx hb dX7_witness_41 rfl (lv_at hl 3 rfl) ?_
      obtain ⟨hq, h⟩ := ax_ck h
      refine ax_iast hx hb hK hR hS (lk_46 hL) hq dX7_witness_42 (fun H locs hR hS => ?_)
      refine lv_iload_n hx hb dX7_witness_43 rfl (lv_at hl 0 rfl) ?_
      cases h
      exact ax_iret C hc hz hR hS rfl rfl dX7_witness_44
    · have h := ax_ip q h
      refine lv_bipush (v := (-2)) hx hb dX7_witness_26 (by decide) ?_
      cases h
      exact ax_iret C hc hz hR hS rfl rfl dX7_witness_28
  · have h := ax_ip q h
    refine lv_iconst (v := (-1)) hx hb dX7_witness_12 (by decide) ?_
    cases h
    exact ax_iret C hc hz hR hS rfl rfl dX7_witness_13
theorem M_X7_witness {l : Launch} {E : ax_E} {B : Nat} {lay : List ax_S} {I : ax_I} {J : ax_J} {x1 : Int32} {x2 : Int32} {rv : Int32} {I9 : ax_I} (hL : ax_LL B lay) (h : F_X7_witness I x1 x2 = some (rv, I9)) : Cm l yX7_witness cX7_witness 4 (some .int) 4 E B [.ref (B + 35), .int x1, .int x2] lay I J (some (.int rv)) lay I9 J :=
  ax_met (by decide) (Nat.le_of_ble_eq_true rfl) (fun p e R s m args below meth c C => t_X7_witness_0 hL C _ _ _ h)
def F_X7_say (I : ax_I) (x1 : Int32) : Option (Int32 × ax_I) :=
  (F_X7_in I ((x1 : Int32).toInt64) 33 126).bind (fun q8 => if q8 = 0 then some ((-2), I) else if (I 35 18) = 60 then some ((-4), I) else if ax_in (I 35 18) 60 = true then some (((ax_u (ax_u I 50 (I 35 18).toNatClampNeg x1) 35 18 (((ax_u I 50 (I 35 18).toNatClampNeg x1) 35 18) + 1)) 35 18), (ax_u (ax_u I 50 (I 35 18).toNatClampNeg x1) 35 18 (((ax_u I 50 (I 35 18).toNatClampNeg x1) 35 18) + 1))) else none)
set_option maxRecDepth 100000 in
set_option maxHeartbeats 4000000 in
theorem t_X7_say_0 {lay : List ax_S} {J : ax_J} {rv : Int32} {I9 : ax_I} (hL : ax_LL B lay) (C : ax_C p R s m args meth c yX7_say cX7_say 2 (some .int) 4 E mc ms) : ∀ (I : ax_I) (x1 : Int32), F_X7_say I x1 = some (rv, I9) → AM p l e R s m args below meth c E B lay.length (ax_z lay) 2 (some (.int rv)) lay I9 J lay I J 0 [(0, .ref (B + 35)), (1, .int x1)] [] := by
  obtain ⟨hx, hb, hr, hml, hown, hts, hlocks, hK, hfr, hlo, hmc, hms, hnm⟩ := id C
  have hown : s.vm.findClass RX7 = some m.cls := hown
  intro I x1 h H locs cells slots ls hc hz hR hS hl
  unfold F_X7_say at h
  refine lv_iload_n hx hb dX7_say_0 rfl (lv_at hl 1 rfl) ?_
  refine lv_i2l hx hb dX7_say_1 rfl ?_
  refine lv_ldc2 hx hb hown (hts _ ct_X7_131) dX7_say_2 ?_
  refine lv_ldc2 hx hb hown (hts _ ct_X7_133) dX7_say_5 ?_
  obtain ⟨q8, hq, h⟩ := ax_bd h
  refine ax_cS (rest := []) (st1 := [.int q8]) C hc hz hS hR (M_X7_in  hq) yk_X7_in st_X7_in ml_X7_89 (by decide) rfl hl.1 (Nat.le_of_ble_eq_true rfl) rfl rfl dX7_say_8 (fun H locs hR hS => ?_)
  refine lv_if_ne (tgt := 17) hx hb dX7_say_11 (by decide) (fun q => ?_) (fun q => ?_)
  · have h := ax_iN q h
    refine lv_aload_n hx hb dX7_say_17 rfl (lv_at hl 0 rfl) ?_
    refine ax_getI hx hb hts hown hK hR fl_X7_135 (lk_35 hL) rfl dX7_say_18 ?_
    refine lv_bipush (v := 60) hx hb dX7_say_21 (by decide) ?_
    refine lv_icmp_ne (tgt := 29) hx hb dX7_say_23 (by decide) (fun q => ?_) (fun q => ?_)
    · have h := ax_iN q h
      refine lv_aload_n hx hb dX7_say_29 rfl (lv_at hl 0 rfl) ?_
      refine ax_getV hx hb hts hown hK hR fl_X7_52 (lk_35 hL) rfl dX7_say_30 ?_
      refine lv_aload_n hx hb dX7_say_33 rfl (lv_at hl 0 rfl) ?_
      refine ax_getI hx hb hts hown hK hR fl_X7_135 (lk_35 hL) rfl dX7_say_34 ?_
      refine lv_iload_n hx hb dX7_say_37 rfl (lv_at hl 1 rfl) ?_
      obtain ⟨hq, h⟩ := ax_ck h
      refine ax_iast hx hb hK hR hS (lk_50 hL) hq dX7_say_38 (fun H locs hR hS => ?_)
      refine lv_aload_n hx hb dX7_say_39 rfl (lv_at hl 0 rfl) ?_
      refine lv_dup hx hb dX7_say_40 rfl ?_
      refine ax_getI hx hb hts hown hK hR fl_X7_135 (lk_35 hL) rfl dX7_say_41 ?_
      refine lv_iconst (v := 1) hx hb dX7_say_44 (by decide) ?_
      refine lv_iadd hx hb dX7_say_45 ?_
      refine ax_putI hx hb hts hown hK hR hS fp_X7_135 (lk_35 hL) rfl rfl rfl dX7_say_46 (fun H locs hR hS => ?_)
      refine lv_aload_n hx hb dX7_say_49 rfl (lv_at hl 0 rfl) ?_
      refine ax_getI hx hb hts hown hK hR fl_X7_135 (lk_35 hL) rfl dX7_say_50 ?_
      cases h
      exact ax_iret C hc hz hR hS rfl rfl dX7_say_53
    · have h := ax_ip q h
      refine lv_bipush (v := (-4)) hx hb dX7_say_26 (by decide) ?_
      cases h
      exact ax_iret C hc hz hR hS rfl rfl dX7_say_28
  · have h := ax_ip q h
    refine lv_bipush (v := (-2)) hx hb dX7_say_14 (by decide) ?_
    cases h
    exact ax_iret C hc hz hR hS rfl rfl dX7_say_16
theorem M_X7_say {l : Launch} {E : ax_E} {B : Nat} {lay : List ax_S} {I : ax_I} {J : ax_J} {x1 : Int32} {rv : Int32} {I9 : ax_I} (hL : ax_LL B lay) (h : F_X7_say I x1 = some (rv, I9)) : Cm l yX7_say cX7_say 2 (some .int) 4 E B [.ref (B + 35), .int x1] lay I J (some (.int rv)) lay I9 J :=
  ax_met (by decide) (Nat.le_of_ble_eq_true rfl) (fun p e R s m args below meth c C => t_X7_say_0 hL C _ _ h)
def F_X7_wipe (I : ax_I) : Option (Int32 × ax_I) :=
  some ((I 35 18), (ax_u I 35 18 0))
set_option maxRecDepth 100000 in
set_option maxHeartbeats 4000000 in
theorem t_X7_wipe_0 {lay : List ax_S} {J : ax_J} {rv : Int32} {I9 : ax_I} (hL : ax_LL B lay) (C : ax_C p R s m args meth c yX7_wipe cX7_wipe 2 (some .int) 2 E mc ms) : ∀ (I : ax_I), F_X7_wipe I = some (rv, I9) → AM p l e R s m args below meth c E B lay.length (ax_z lay) 2 (some (.int rv)) lay I9 J lay I J 0 [(0, .ref (B + 35))] [] := by
  obtain ⟨hx, hb, hr, hml, hown, hts, hlocks, hK, hfr, hlo, hmc, hms, hnm⟩ := id C
  have hown : s.vm.findClass RX7 = some m.cls := hown
  intro I h H locs cells slots ls hc hz hR hS hl
  unfold F_X7_wipe at h
  refine lv_aload_n hx hb dX7_wipe_0 rfl (lv_at hl 0 rfl) ?_
  refine ax_getI hx hb hts hown hK hR fl_X7_135 (lk_35 hL) rfl dX7_wipe_1 ?_
  refine lv_istore_n (lv' := [(1, .int (I 35 18)), (0, .ref (B + 35))]) hx hb dX7_wipe_4 rfl hl (by decide) rfl (fun ls hl => ?_)
  refine lv_aload_n hx hb dX7_wipe_5 rfl (lv_at hl 1 rfl) ?_
  refine lv_iconst (v := 0) hx hb dX7_wipe_6 (by decide) ?_
  refine ax_putI hx hb hts hown hK hR hS fp_X7_135 (lk_35 hL) rfl rfl rfl dX7_wipe_7 (fun H locs hR hS => ?_)
  refine lv_iload_n hx hb dX7_wipe_10 rfl (lv_at hl 0 rfl) ?_
  cases h
  exact ax_iret C hc hz hR hS rfl rfl dX7_wipe_11
theorem M_X7_wipe {l : Launch} {E : ax_E} {B : Nat} {lay : List ax_S} {I : ax_I} {J : ax_J} {rv : Int32} {I9 : ax_I} (hL : ax_LL B lay) (h : F_X7_wipe I = some (rv, I9)) : Cm l yX7_wipe cX7_wipe 2 (some .int) 2 E B [.ref (B + 35)] lay I J (some (.int rv)) lay I9 J :=
  ax_met (by decide) (Nat.le_of_ble_eq_true rfl) (fun p e R s m args below meth c C => t_X7_wipe_0 hL C _ h)
def F_X7_isLetter (I : ax_I) (x0 : Int32) : Option Int32 :=
  (F_X7_in I ((x0 : Int32).toInt64) 65 70).bind (fun q8 => if ax_bool q8 = true then some q8 else none)
set_option maxRecDepth 100000 in
set_option maxHeartbeats 4000000 in
theorem t_X7_isLetter_0 {lay : List ax_S} {J : ax_J} {rv : Int32} (C : ax_C p R s m args meth c yX7_isLetter cX7_isLetter 1 (some .boolean) 4 E mc ms) : ∀ (I : ax_I) (x0 : Int32), F_X7_isLetter I x0 = some rv → AM p l e R s m args below meth c E B lay.length (ax_z lay) 1 (some (.int rv)) lay I J lay I J 0 [(0, .int x0)] [] := by
  obtain ⟨hx, hb, hr, hml, hown, hts, hlocks, hK, hfr, hlo, hmc, hms, hnm⟩ := id C
  have hown : s.vm.findClass RX7 = some m.cls := hown
  intro I x0 h H locs cells slots ls hc hz hR hS hl
  unfold F_X7_isLetter at h
  refine lv_iload_n hx hb dX7_isLetter_0 rfl (lv_at hl 0 rfl) ?_
  refine lv_i2l hx hb dX7_isLetter_1 rfl ?_
  refine lv_ldc2 hx hb hown (hts _ ct_X7_138) dX7_isLetter_2 ?_
  refine lv_ldc2 hx hb hown (hts _ ct_X7_140) dX7_isLetter_5 ?_
  obtain ⟨q8, hq, h⟩ := ax_bd h
  refine ax_cS (rest := []) (st1 := [.int q8]) C hc hz hS hR (M_X7_in  hq) yk_X7_in st_X7_in ml_X7_89 (by decide) rfl hl.1 (Nat.le_of_ble_eq_true rfl) rfl rfl dX7_isLetter_8 (fun H locs hR hS => ?_)
  obtain ⟨hq, h⟩ := ax_ck h
  cases h
  exact ax_iret C hc hz hR hS rfl (ax_bool_n hq) dX7_isLetter_11
theorem M_X7_isLetter {l : Launch} {E : ax_E} {B : Nat} {lay : List ax_S} {I : ax_I} {J : ax_J} {x0 : Int32} {rv : Int32} (h : F_X7_isLetter I x0 = some rv) : Cm l yX7_isLetter cX7_isLetter 1 (some .boolean) 4 E B [.int x0] lay I J (some (.int rv)) lay I J :=
  ax_met (by decide) (Nat.le_of_ble_eq_true rfl) (fun p e R s m args below meth c C => t_X7_isLetter_0  C _ _ h)
def F_X7_isParishLetter (I : ax_I) (x0 : Int32) : Option Int32 :=
  (F_X7_in I ((x0 : Int32).toInt64) 97 100).bind (fun q8 => if ax_bool q8 = true then some q8 else none)
set_option maxRecDepth 100000 in
set_option maxHeartbeats 4000000 in
theorem t_X7_isParishLetter_0 {lay : List ax_S} {J : ax_J} {rv : Int32} (C : ax_C p R s m args meth c yX7_isParishLetter cX7_isParishLetter 1 (some .boolean) 4 E mc ms) : ∀ (I : ax_I) (x0 : Int32), F_X7_isParishLetter I x0 = some rv → AM p l e R s m args below meth c E B lay.length (ax_z lay) 1 (some (.int rv)) lay I J lay I J 0 [(0, .int x0)] [] := by
  obtain ⟨hx, hb, hr, hml, hown, hts, hlocks, hK, hfr, hlo, hmc, hms, hnm⟩ := id C
  have hown : s.vm.findClass RX7 = some m.cls := hown
  intro I x0 h H locs cells slots ls hc hz hR hS hl
  unfold F_X7_isParishLetter at h
  refine lv_iload_n hx hb dX7_isParishLetter_0 rfl (lv_at hl 0 rfl) ?_
  refine lv_i2l hx hb dX7_isParishLetter_1 rfl ?_
  refine lv_ldc2 hx hb hown (hts _ ct_X7_142) dX7_isParishLetter_2 ?_
  refine lv_ldc2 hx hb hown (hts _ ct_X7_144) dX7_isParishLetter_5 ?_
  obtain ⟨q8, hq, h⟩ := ax_bd h
  refine ax_cS (rest := []) (st1 := [.int q8]) C hc hz hS hR (M_X7_in  hq) yk_X7_in st_X7_in ml_X7_89 (by decide) rfl hl.1 (Nat.le_of_ble_eq_true rfl) rfl rfl dX7_isParishLetter_8 (fun H locs hR hS => ?_)
  obtain ⟨hq, h⟩ := ax_ck h
  cases h
  exact ax_iret C hc hz hR hS rfl (ax_bool_n hq) dX7_isParishLetter_11
theorem M_X7_isParishLetter {l : Launch} {E : ax_E} {B : Nat} {lay : List ax_S} {I : ax_I} {J : ax_J} {x0 : Int32} {rv : Int32} (h : F_X7_isParishLetter I x0 = some rv) : Cm l yX7_isParishLetter cX7_isParishLetter 1 (some .boolean) 4 E B [.int x0] lay I J (some (.int rv)) lay I J :=
  ax_met (by decide) (Nat.le_of_ble_eq_true rfl) (fun p e R s m args below meth c C => t_X7_isParishLetter_0  C _ _ h)
def F_X7_close (I : ax_I) : Option (Int32 × ax_I) :=
  some (0, (ax_u I 35 23 ((I 35 23) + 1)))
set_option maxRecDepth 100000 in
set_option maxHeartbeats 4000000 in
theorem t_X7_close_0 {lay : List ax_S} {J : ax_J} {rv : Int32} {I9 : ax_I} (hL : ax_LL B lay) (C : ax_C p R s m args meth c yX7_close cX7_close 1 (some .int) 2 E mc ms) : ∀ (I : ax_I), F_X7_close I = some (rv, I9) → AM p l e R s m args below meth c E B lay.length (ax_z lay) 1 (some (.int rv)) lay I9 J lay I J 0 [(0, .ref (B + 35))] [] := by
  obtain ⟨hx, hb, hr, hml, hown, hts, hlocks, hK, hfr, hlo, hmc, hms, hnm⟩ := id C
  have hown : s.vm.findClass RX7 = some m.cls := hown
  intro I h H locs cells slots ls hc hz hR hS hl
  unfold F_X7_close at h
  refine lv_aload_n hx hb dX7_close_0 rfl (lv_at hl 0 rfl) ?_
  refine lv_dup hx hb dX7_close_1 rfl ?_
  refine ax_getI hx hb hts hown hK hR fl_X7_146 (lk_35 hL) rfl dX7_close_2 ?_
  refine lv_iconst (v := 1) hx hb dX7_close_5 (by decide) ?_
  refine lv_iadd hx hb dX7_close_6 ?_
  refine ax_putI hx hb hts hown hK hR hS fp_X7_146 (lk_35 hL) rfl rfl rfl dX7_close_7 (fun H locs hR hS => ?_)
  refine lv_iconst (v := 0) hx hb dX7_close_10 (by decide) ?_
  cases h
  exact ax_iret C hc hz hR hS rfl rfl dX7_close_11
theorem M_X7_close {l : Launch} {E : ax_E} {B : Nat} {lay : List ax_S} {I : ax_I} {J : ax_J} {rv : Int32} {I9 : ax_I} (hL : ax_LL B lay) (h : F_X7_close I = some (rv, I9)) : Cm l yX7_close cX7_close 1 (some .int) 2 E B [.ref (B + 35)] lay I J (some (.int rv)) lay I9 J :=
  ax_met (by decide) (Nat.le_of_ble_eq_true rfl) (fun p e R s m args below meth c C => t_X7_close_0 hL C _ h)
def f_X7_begin_65 (I : ax_I) (x1 : Int32) (s0 : Int32) (s1 : Int32) : Option (Int32 × ax_I) :=
  if ax_in s1 60 = true then (F_X7_isLetter (ax_u I 51 s1.toNatClampNeg s0) x1).bind (fun q67 => if q67 = 0 then (if x1 = 102 then some (2, (ax_u I 51 s1.toNatClampNeg s0)) else if x1 = 46 then (F_X7_close (ax_u I 51 s1.toNatClampNeg s0)).bind (fun q94 => some (q94.1, q94.2)) else some ((-6), (ax_u I 51 s1.toNatClampNeg s0))) else some (1, (ax_u I 51 s1.toNatClampNeg s0))) else none
def f_X7_begin_44 (I : ax_I) (x1 : Int32) : Option (Int32 × ax_I) :=
  if x1 = 46 then f_X7_begin_65 I x1 7 (I 35 23) else f_X7_begin_65 I x1 6 (I 35 23)
def f_X7_begin_23 (I : ax_I) (x1 : Int32) (s0 : Int32) (s1 : Int32) : Option (Int32 × ax_I) :=
  if ax_in s1 60 = true then if ax_in ((ax_u I 52 s1.toNatClampNeg s0) 35 23) 60 = true then if ax_in ((ax_u (ax_u I 52 s1.toNatClampNeg s0) 53 ((ax_u I 52 s1.toNatClampNeg s0) 35 23).toNatClampNeg 0) 35 23) 60 = true then f_X7_begin_44 (ax_u (ax_u (ax_u I 52 s1.toNatClampNeg s0) 53 ((ax_u I 52 s1.toNatClampNeg s0) 35 23).toNatClampNeg 0) 54 ((ax_u (ax_u I 52 s1.toNatClampNeg s0) 53 ((ax_u I 52 s1.toNatClampNeg s0) 35 23).toNatClampNeg 0) 35 23).toNatClampNeg 0) x1 else none else none else none
def F_X7_begin (I : ax_I) (x1 : Int32) : Option (Int32 × ax_I) :=
  (F_X7_isLetter I x1).bind (fun q9 => if q9 = 0 then f_X7_begin_23 I x1 0 (I 35 23) else f_X7_begin_23 I x1 (x1 - 65) (I 35 23))
set_option maxRecDepth 100000 in
set_option maxHeartbeats 4000000 in
theorem t_X7_begin_65 {lay : List ax_S} {J : ax_J} {rv : Int32} {I9 : ax_I} (hL : ax_LL B lay) (C : ax_C p R s m args meth c yX7_begin cX7_begin 2 (some .int) 6 E mc ms) : ∀ (I : ax_I) (x1 : Int32) (s0 : Int32) (s1 : Int32), f_X7_begin_65 I x1 s0 s1 = some (rv, I9) → AM p l e R s m args below meth c E B lay.length (ax_z lay) 2 (some (.int rv)) lay I9 J lay I J 65 [(0, .ref (B + 35)), (1, .int x1)] [.int s0, .int s1, .ref (B + 51)] := by
  obtain ⟨hx, hb, hr, hml, hown, hts, hlocks, hK, hfr, hlo, hmc, hms, hnm⟩ := id C
  have hown : s.vm.findClass RX7 = some m.cls := hown
  intro I x1 s0 s1 h H locs cells slots ls hc hz hR hS hl
  unfold f_X7_begin_65 at h
  obtain ⟨hq, h⟩ := ax_ck h
  refine ax_iast hx hb hK hR hS (lk_51 hL) hq dX7_begin_65 (fun H locs hR hS => ?_)
  refine lv_iload_n hx hb dX7_begin_66 rfl (lv_at hl 1 rfl) ?_
  obtain ⟨q67, hq, h⟩ := ax_bd h
  refine ax_cS (rest := []) (st1 := [.int q67]) C hc hz hS hR (M_X7_isLetter  hq) yk_X7_isLetter st_X7_isLetter ml_X7_149 (by decide) rfl hl.1 (Nat.le_of_ble_eq_true rfl) rfl rfl dX7_begin_67 (fun H locs hR hS => ?_)
  refine lv_if_eq (tgt := 77) hx hb dX7_begin_70 (by decide) (fun q => ?_) (fun q => ?_)
  · have h := ax_ip q h
    refine lv_iload_n hx hb dX7_begin_77 rfl (lv_at hl 1 rfl) ?_
    refine lv_bipush (v := 102) hx hb dX7_begin_78 (by decide) ?_
    refine lv_icmp_ne (tgt := 87) hx hb dX7_begin_80 (by decide) (fun q => ?_) (fun q => ?_)
    · have h := ax_iN q h
      refine lv_iload_n hx hb dX7_begin_87 rfl (lv_at hl 1 rfl) ?_
      refine lv_bipush (v := 46) hx hb dX7_begin_88 (by decide) ?_
      refine lv_icmp_ne (tgt := 100) hx hb dX7_begin_90 (by decide) (fun q => ?_) (fun q => ?_)
      · have h := ax_iN q h
        refine lv_bipush (v := (-6)) hx hb dX7_begin_100 (by decide) ?_
        cases h
        exact ax_iret C hc hz hR hS rfl rfl dX7_begin_102
      · have h := ax_ip q h
        refine lv_aload_n hx hb dX7_begin_93 rfl (lv_at hl 0 rfl) ?_
        obtain ⟨q94, hq, h⟩ := ax_bd h
        refine ax_cV (rest := []) (st1 := [.int q94.1]) C hc hz hS hR (M_X7_close hL hq) yk_X7_close in_X7_close se_X7_close ml_X7_152 (lk_35 hL) rfl rfl (by decide) rfl hl.1 (Nat.le_of_ble_eq_true rfl) rfl rfl dX7_begin_94 (fun H locs hR hS => ?_)
        refine lv_goto (tgt := 102) hx hb dX7_begin_97 (by decide) ?_
        cases h
        exact ax_iret C hc hz hR hS rfl rfl dX7_begin_102
    · have h := ax_ip q h
      refine lv_iconst (v := 2) hx hb dX7_begin_83 (by decide) ?_
      refine lv_goto (tgt := 102) hx hb dX7_begin_84 (by decide) ?_
      cases h
      exact ax_iret C hc hz hR hS rfl rfl dX7_begin_102
  · have h := ax_iN q h
    refine lv_iconst (v := 1) hx hb dX7_begin_73 (by decide) ?_
    refine lv_goto (tgt := 102) hx hb dX7_begin_74 (by decide) ?_
    cases h
    exact ax_iret C hc hz hR hS rfl rfl dX7_begin_102
set_option maxRecDepth 100000 in
set_option maxHeartbeats 4000000 in
theorem t_X7_begin_44 {lay : List ax_S} {J : ax_J} {rv : Int32} {I9 : ax_I} (hL : ax_LL B lay) (C : ax_C p R s m args meth c yX7_begin cX7_begin 2 (some .int) 6 E mc ms) : ∀ (I : ax_I) (x1 : Int32), f_X7_begin_44 I x1 = some (rv, I9) → AM p l e R s m args below meth c E B lay.length (ax_z lay) 2 (some (.int rv)) lay I9 J lay I J 44 [(0, .ref (B + 35)), (1, .int x1)] [] := by
  obtain ⟨hx, hb, hr, hml, hown, hts, hlocks, hK, hfr, hlo, hmc, hms, hnm⟩ := id C
  have hown : s.vm.findClass RX7 = some m.cls := hown
  intro I x1 h H locs cells slots ls hc hz hR hS hl
  unfold f_X7_begin_44 at h
  refine lv_aload_n hx hb dX7_begin_44 rfl (lv_at hl 0 rfl) ?_
  refine ax_getV hx hb hts hown hK hR fl_X7_55 (lk_35 hL) rfl dX7_begin_45 ?_
  refine lv_aload_n hx hb dX7_begin_48 rfl (lv_at hl 0 rfl) ?_
  refine ax_getI hx hb hts hown hK hR fl_X7_146 (lk_35 hL) rfl dX7_begin_49 ?_
  refine lv_iload_n hx hb dX7_begin_52 rfl (lv_at hl 1 rfl) ?_
  refine lv_bipush (v := 46) hx hb dX7_begin_53 (by decide) ?_
  refine lv_icmp_ne (tgt := 63) hx hb dX7_begin_55 (by decide) (fun q => ?_) (fun q => ?_)
  · have h := ax_iN q h
    refine lv_bipush (v := 6) hx hb dX7_begin_63 (by decide) ?_
    exact t_X7_begin_65 hL C  _ _ _ _ h H locs cells slots ls hc hz hR hS (lv_sub hl [0, 1] rfl)
  · have h := ax_ip q h
    refine lv_bipush (v := 7) hx hb dX7_begin_58 (by decide) ?_
    refine lv_goto (tgt := 65) hx hb dX7_begin_60 (by decide) ?_
    exact t_X7_begin_65 hL C  _ _ _ _ h H locs cells slots ls hc hz hR hS (lv_sub hl [0, 1] rfl)
set_option maxRecDepth 100000 in
set_option maxHeartbeats 4000000 in
theorem t_X7_begin_23 {lay : List ax_S} {J : ax_J} {rv : Int32} {I9 : ax_I} (hL : ax_LL B lay) (C : ax_C p R s m args meth c yX7_begin cX7_begin 2 (some .int) 6 E mc ms) : ∀ (I : ax_I) (x1 : Int32) (s0 : Int32) (s1 : Int32), f_X7_begin_23 I x1 s0 s1 = some (rv, I9) → AM p l e R s m args below meth c E B lay.length (ax_z lay) 2 (some (.int rv)) lay I9 J lay I J 23 [(0, .ref (B + 35)), (1, .int x1)] [.int s0, .int s1, .ref (B + 52)] := by
  obtain ⟨hx, hb, hr, hml, hown, hts, hlocks, hK, hfr, hlo, hmc, hms, hnm⟩ := id C
  have hown : s.vm.findClass RX7 = some m.cls := hown
  intro I x1 s0 s1 h H locs cells slots ls hc hz hR hS hl
  unfold f_X7_begin_23 at h
  obtain ⟨hq, h⟩ := ax_ck h
  refine ax_iast hx hb hK hR hS (lk_52 hL) hq dX7_begin_23 (fun H locs hR hS => ?_)
  refine lv_aload_n hx hb dX7_begin_24 rfl (lv_at hl 0 rfl) ?_
  refine ax_getV hx hb hts hown hK hR fl_X7_61 (lk_35 hL) rfl dX7_begin_25 ?_
  refine lv_aload_n hx hb dX7_begin_28 rfl (lv_at hl 0 rfl) ?_
  refine ax_getI hx hb hts hown hK hR fl_X7_146 (lk_35 hL) rfl dX7_begin_29 ?_
  refine lv_iconst (v := 0) hx hb dX7_begin_32 (by decide) ?_
  obtain ⟨hq, h⟩ := ax_ck h
  refine ax_iast hx hb hK hR hS (lk_53 hL) hq dX7_begin_33 (fun H locs hR hS => ?_)
  refine lv_aload_n hx hb dX7_begin_34 rfl (lv_at hl 0 rfl) ?_
  refine ax_getV hx hb hts hown hK hR fl_X7_64 (lk_35 hL) rfl dX7_begin_35 ?_
  refine lv_aload_n hx hb dX7_begin_38 rfl (lv_at hl 0 rfl) ?_
  refine ax_getI hx hb hts hown hK hR fl_X7_146 (lk_35 hL) rfl dX7_begin_39 ?_
  refine lv_iconst (v := 0) hx hb dX7_begin_42 (by decide) ?_
  obtain ⟨hq, h⟩ := ax_ck h
  refine ax_iast hx hb hK hR hS (lk_54 hL) hq dX7_begin_43 (fun H locs hR hS => ?_)
  exact t_X7_begin_44 hL C  _ _ h H locs cells slots ls hc hz hR hS (lv_sub hl [0, 1] rfl)
set_option maxRecDepth 100000 in
set_option maxHeartbeats 4000000 in
theorem t_X7_begin_0 {lay : List ax_S} {J : ax_J} {rv : Int32} {I9 : ax_I} (hL : ax_LL B lay) (C : ax_C p R s m args meth c yX7_begin cX7_begin 2 (some .int) 6 E mc ms) : ∀ (I : ax_I) (x1 : Int32), F_X7_begin I x1 = some (rv, I9) → AM p l e R s m args below meth c E B lay.length (ax_z lay) 2 (some (.int rv)) lay I9 J lay I J 0 [(0, .ref (B + 35)), (1, .int x1)] [] := by
  obtain ⟨hx, hb, hr, hml, hown, hts, hlocks, hK, hfr, hlo, hmc, hms, hnm⟩ := id C
  have hown : s.vm.findClass RX7 = some m.cls := hown
  intro I x1 h H locs cells slots ls hc hz hR hS hl
  unfold F_X7_begin at h
  refine lv_aload_n hx hb dX7_begin_0 rfl (lv_at hl 0 rfl) ?_
  refine ax_getV hx hb hts hown hK hR fl_X7_58 (lk_35 hL) rfl dX7_begin_1 ?_
  refine lv_aload_n hx hb dX7_begin_4 rfl (lv_at hl 0 rfl) ?_
  refine ax_getI hx hb hts hown hK hR fl_X7_146 (lk_35 hL) rfl dX7_begin_5 ?_
  refine lv_iload_n hx hb dX7_begin_8 rfl (lv_at hl 1 rfl) ?_
  obtain ⟨q9, hq, h⟩ := ax_bd h
  refine ax_cS (rest := [.int (I 35 23), .ref (B + 52)]) (st1 := [.int q9, .int (I 35 23), .ref (B + 52)]) C hc hz hS hR (M_X7_isLetter  hq) yk_X7_isLetter st_X7_isLetter ml_X7_149 (by decide) rfl hl.1 (Nat.le_of_ble_eq_true rfl) rfl rfl dX7_begin_9 (fun H locs hR hS => ?_)
  refine lv_if_eq (tgt := 22) hx hb dX7_begin_12 (by decide) (fun q => ?_) (fun q => ?_)
  · have h := ax_ip q h
    refine lv_iconst (v := 0) hx hb dX7_begin_22 (by decide) ?_
    exact t_X7_begin_23 hL C  _ _ _ _ h H locs cells slots ls hc hz hR hS (lv_sub hl [0, 1] rfl)
  · have h := ax_iN q h
    refine lv_iload_n hx hb dX7_begin_15 rfl (lv_at hl 1 rfl) ?_
    refine lv_bipush (v := 65) hx hb dX7_begin_16 (by decide) ?_
    refine lv_isub hx hb dX7_begin_18 ?_
    refine lv_goto (tgt := 23) hx hb dX7_begin_19 (by decide) ?_
    exact t_X7_begin_23 hL C  _ _ _ _ h H locs cells slots ls hc hz hR hS (lv_sub hl [0, 1] rfl)
theorem M_X7_begin {l : Launch} {E : ax_E} {B : Nat} {lay : List ax_S} {I : ax_I} {J : ax_J} {x1 : Int32} {rv : Int32} {I9 : ax_I} (hL : ax_LL B lay) (h : F_X7_begin I x1 = some (rv, I9)) : Cm l yX7_begin cX7_begin 2 (some .int) 6 E B [.ref (B + 35), .int x1] lay I J (some (.int rv)) lay I9 J :=
  ax_met (by decide) (Nat.le_of_ble_eq_true rfl) (fun p e R s m args below meth c C => t_X7_begin_0 hL C _ _ h)
def f_X7_deed_37 (I : ax_I) : Option (Int32 × ax_I) :=
  some (4, I)
def f_X7_deed_91 (I : ax_I) (s0 : Int32) : Option (Int32 × ax_I) :=
  if ax_in (I 35 23) 60 = true then if 0 ≤ s0 then (F_X7_close (ax_u I 51 (I 35 23).toNatClampNeg s0)).bind (fun q112 => some (q112.1, q112.2)) else some ((-6), (ax_u I 51 (I 35 23).toNatClampNeg s0)) else none
def F_X7_deed (I : ax_I) (x1 : Int32) : Option (Int32 × ax_I) :=
  (F_X7_in I ((x1 : Int32).toInt64) 48 55).bind (fun q8 => if q8 = 0 then (if x1 = 119 then f_X7_deed_91 I 0 else if x1 = 115 then f_X7_deed_91 I 1 else if x1 = 112 then f_X7_deed_91 I 2 else if x1 = 101 then f_X7_deed_91 I 3 else if x1 = 120 then f_X7_deed_91 I 4 else f_X7_deed_91 I (-6)) else if ax_in (I 35 23) 60 = true then if ax_in ((ax_u I 51 (I 35 23).toNatClampNeg 5) 35 23) 60 = true then f_X7_deed_37 (ax_u (ax_u I 51 (I 35 23).toNatClampNeg 5) 54 ((ax_u I 51 (I 35 23).toNatClampNeg 5) 35 23).toNatClampNeg (x1 - 48)) else none else none)
set_option maxRecDepth 100000 in
set_option maxHeartbeats 4000000 in
theorem t_X7_deed_37 {lay : List ax_S} {J : ax_J} {rv : Int32} {I9 : ax_I} (hL : ax_LL B lay) (C : ax_C p R s m args meth c yX7_deed cX7_deed 3 (some .int) 4 E mc ms) : ∀ (I : ax_I), f_X7_deed_37 I = some (rv, I9) → AM p l e R s m args below meth c E B lay.length (ax_z lay) 3 (some (.int rv)) lay I9 J lay I J 37 [] [] := by
  obtain ⟨hx, hb, hr, hml, hown, hts, hlocks, hK, hfr, hlo, hmc, hms, hnm⟩ := id C
  have hown : s.vm.findClass RX7 = some m.cls := hown
  intro I h H locs cells slots ls hc hz hR hS hl
  unfold f_X7_deed_37 at h
  refine lv_iconst (v := 4) hx hb dX7_deed_37 (by decide) ?_
  cases h
  exact ax_iret C hc hz hR hS rfl rfl dX7_deed_38
set_option maxRecDepth 100000 in
set_option maxHeartbeats 4000000 in
theorem t_X7_deed_91 {lay : List ax_S} {J : ax_J} {rv : Int32} {I9 : ax_I} (hL : ax_LL B lay) (C : ax_C p R s m args meth c yX7_deed cX7_deed 3 (some .int) 4 E mc ms) : ∀ (I : ax_I) (s0 : Int32), f_X7_deed_91 I s0 = some (rv, I9) → AM p l e R s m args below meth c E B lay.length (ax_z lay) 3 (some (.int rv)) lay I9 J lay I J 91 [(0, .ref (B + 35))] [.int s0] := by
  obtain ⟨hx, hb, hr, hml, hown, hts, hlocks, hK, hfr, hlo, hmc, hms, hnm⟩ := id C
  have hown : s.vm.findClass RX7 = some m.cls := hown
  intro I s0 h H locs cells slots ls hc hz hR hS hl
  unfold f_X7_deed_91 at h
  refine lv_istore_n (lv' := [(2, .int s0), (0, .ref (B + 35))]) hx hb dX7_deed_91 rfl hl (by decide) rfl (fun ls hl => ?_)
  refine lv_aload_n hx hb dX7_deed_92 rfl (lv_at hl 1 rfl) ?_
  refine ax_getV hx hb hts hown hK hR fl_X7_55 (lk_35 hL) rfl dX7_deed_93 ?_
  refine lv_aload_n hx hb dX7_deed_96 rfl (lv_at hl 1 rfl) ?_
  refine ax_getI hx hb hts hown hK hR fl_X7_146 (lk_35 hL) rfl dX7_deed_97 ?_
  refine lv_iload_n hx hb dX7_deed_100 rfl (lv_at hl 0 rfl) ?_
  obtain ⟨hq, h⟩ := ax_ck h
  refine ax_iast hx hb hK hR hS (lk_51 hL) hq dX7_deed_101 (fun H locs hR hS => ?_)
  refine lv_iload_n hx hb dX7_deed_102 rfl (lv_at hl 0 rfl) ?_
  refine lv_if_ge (tgt := 111) hx hb dX7_deed_103 (by decide) (fun q => ?_) (fun q => ?_)
  · have h := ax_ip q h
    refine lv_aload_n hx hb dX7_deed_111 rfl (lv_at hl 1 rfl) ?_
    obtain ⟨q112, hq, h⟩ := ax_bd h
    refine ax_cV (rest := []) (st1 := [.int q112.1]) C hc hz hS hR (M_X7_close hL hq) yk_X7_close in_X7_close se_X7_close ml_X7_152 (lk_35 hL) rfl rfl (by decide) rfl hl.1 (Nat.le_of_ble_eq_true rfl) rfl rfl dX7_deed_112 (fun H locs hR hS => ?_)
    cases h
    exact ax_iret C hc hz hR hS rfl rfl dX7_deed_115
  · have h := ax_iN q h
    refine lv_bipush (v := (-6)) hx hb dX7_deed_106 (by decide) ?_
    refine lv_goto (tgt := 115) hx hb dX7_deed_108 (by decide) ?_
    cases h
    exact ax_iret C hc hz hR hS rfl rfl dX7_deed_115
set_option maxRecDepth 100000 in
set_option maxHeartbeats 4000000 in
theorem t_X7_deed_0 {lay : List ax_S} {J : ax_J} {rv : Int32} {I9 : ax_I} (hL : ax_LL B lay) (C : ax_C p R s m args meth c yX7_deed cX7_deed 3 (some .int) 4 E mc ms) : ∀ (I : ax_I) (x1 : Int32), F_X7_deed I x1 = some (rv, I9) → AM p l e R s m args below meth c E B lay.length (ax_z lay) 3 (some (.int rv)) lay I9 J lay I J 0 [(0, .ref (B + 35)), (1, .int x1)] [] := by
  obtain ⟨hx, hb, hr, hml, hown, hts, hlocks, hK, hfr, hlo, hmc, hms, hnm⟩ := id C
  have hown : s.vm.findClass RX7 = some m.cls := hown
  intro I x1 h H locs cells slots ls hc hz hR hS hl
  unfold F_X7_deed at h
  refine lv_iload_n hx hb dX7_deed_0 rfl (lv_at hl 1 rfl) ?_
  refine lv_i2l hx hb dX7_deed_1 rfl ?_
  refine lv_ldc2 hx hb hown (hts _ ct_X7_156) dX7_deed_2 ?_
  refine lv_ldc2 hx hb hown (hts _ ct_X7_158) dX7_deed_5 ?_
  obtain ⟨q8, hq, h⟩ := ax_bd h
  refine ax_cS (rest := []) (st1 := [.int q8]) C hc hz hS hR (M_X7_in  hq) yk_X7_in st_X7_in ml_X7_89 (by decide) rfl hl.1 (Nat.le_of_ble_eq_true rfl) rfl rfl dX7_deed_8 (fun H locs hR hS => ?_)
  refine lv_if_eq (tgt := 39) hx hb dX7_deed_11 (by decide) (fun q => ?_) (fun q => ?_)
  · have h := ax_ip q h
    refine lv_iload_n hx hb dX7_deed_39 rfl (lv_at hl 1 rfl) ?_
    refine lv_bipush (v := 119) hx hb dX7_deed_40 (by decide) ?_
    refine lv_icmp_ne (tgt := 49) hx hb dX7_deed_42 (by decide) (fun q => ?_) (fun q => ?_)
    · have h := ax_iN q h
      refine lv_iload_n hx hb dX7_deed_49 rfl (lv_at hl 1 rfl) ?_
      refine lv_bipush (v := 115) hx hb dX7_deed_50 (by decide) ?_
      refine lv_icmp_ne (tgt := 59) hx hb dX7_deed_52 (by decide) (fun q => ?_) (fun q => ?_)
      · have h := ax_iN q h
        refine lv_iload_n hx hb dX7_deed_59 rfl (lv_at hl 1 rfl) ?_
        refine lv_bipush (v := 112) hx hb dX7_deed_60 (by decide) ?_
        refine lv_icmp_ne (tgt := 69) hx hb dX7_deed_62 (by decide) (fun q => ?_) (fun q => ?_)
        · have h := ax_iN q h
          refine lv_iload_n hx hb dX7_deed_69 rfl (lv_at hl 1 rfl) ?_
          refine lv_bipush (v := 101) hx hb dX7_deed_70 (by decide) ?_
          refine lv_icmp_ne (tgt := 79) hx hb dX7_deed_72 (by decide) (fun q => ?_) (fun q => ?_)
          · have h := ax_iN q h
            refine lv_iload_n hx hb dX7_deed_79 rfl (lv_at hl 1 rfl) ?_
            refine lv_bipush (v := 120) hx hb dX7_deed_80 (by decide) ?_
            refine lv_icmp_ne (tgt := 89) hx hb dX7_deed_82 (by decide) (fun q => ?_) (fun q => ?_)
            · have h := ax_iN q h
              refine lv_bipush (v := (-6)) hx hb dX7_deed_89 (by decide) ?_
              exact t_X7_deed_91 hL C  _ _ h H locs cells slots ls hc hz hR hS (lv_sub hl [0] rfl)
            · have h := ax_ip q h
              refine lv_iconst (v := 4) hx hb dX7_deed_85 (by decide) ?_
              refine lv_goto (tgt := 91) hx hb dX7_deed_86 (by decide) ?_
              exact t_X7_deed_91 hL C  _ _ h H locs cells slots ls hc hz hR hS (lv_sub hl [0] rfl)
          · have h := ax_ip q h
            refine lv_iconst (v := 3) hx hb dX7_deed_75 (by decide) ?_
            refine lv_goto (tgt := 91) hx hb dX7_deed_76 (by decide) ?_
            exact t_X7_deed_91 hL C  _ _ h H locs cells slots ls hc hz hR hS (lv_sub hl [0] rfl)
        · have h := ax_ip q h
          refine lv_iconst (v := 2) hx hb dX7_deed_65 (by decide) ?_
          refine lv_goto (tgt := 91) hx hb dX7_deed_66 (by decide) ?_
          exact t_X7_deed_91 hL C  _ _ h H locs cells slots ls hc hz hR hS (lv_sub hl [0] rfl)
      · have h := ax_ip q h
        refine lv_iconst (v := 1) hx hb dX7_deed_55 (by decide) ?_
        refine lv_goto (tgt := 91) hx hb dX7_deed_56 (by decide) ?_
        exact t_X7_deed_91 hL C  _ _ h H locs cells slots ls hc hz hR hS (lv_sub hl [0] rfl)
    · have h := ax_ip q h
      refine lv_iconst (v := 0) hx hb dX7_deed_45 (by decide) ?_
      refine lv_goto (tgt := 91) hx hb dX7_deed_46 (by decide) ?_
      exact t_X7_deed_91 hL C  _ _ h H locs cells slots ls hc hz hR hS (lv_sub hl [0] rfl)
  · have h := ax_iN q h
    refine lv_aload_n hx hb dX7_deed_14 rfl (lv_at hl 0 rfl) ?_
    refine ax_getV hx hb hts hown hK hR fl_X7_55 (lk_35 hL) rfl dX7_deed_15 ?_
    refine lv_aload_n hx hb dX7_deed_18 rfl (lv_at hl 0 rfl) ?_
    refine ax_getI hx hb hts hown hK hR fl_X7_146 (lk_35 hL) rfl dX7_deed_19 ?_
    refine lv_iconst (v := 5) hx hb dX7_deed_22 (by decide) ?_
    obtain ⟨hq, h⟩ := ax_ck h
    refine ax_iast hx hb hK hR hS (lk_51 hL) hq dX7_deed_23 (fun H locs hR hS => ?_)
    refine lv_aload_n hx hb dX7_deed_24 rfl (lv_at hl 0 rfl) ?_
    refine ax_getV hx hb hts hown hK hR fl_X7_64 (lk_35 hL) rfl dX7_deed_25 ?_
    refine lv_aload_n hx hb dX7_deed_28 rfl (lv_at hl 0 rfl) ?_
    refine ax_getI hx hb hts hown hK hR fl_X7_146 (lk_35 hL) rfl dX7_deed_29 ?_
    refine lv_iload_n hx hb dX7_deed_32 rfl (lv_at hl 1 rfl) ?_
    refine lv_bipush (v := 48) hx hb dX7_deed_33 (by decide) ?_
    refine lv_isub hx hb dX7_deed_35 ?_
    obtain ⟨hq, h⟩ := ax_ck h
    refine ax_iast hx hb hK hR hS (lk_54 hL) hq dX7_deed_36 (fun H locs hR hS => ?_)
    exact t_X7_deed_37 hL C  _ h H locs cells slots ls hc hz hR hS (lv_sub hl [] rfl)
theorem M_X7_deed {l : Launch} {E : ax_E} {B : Nat} {lay : List ax_S} {I : ax_I} {J : ax_J} {x1 : Int32} {rv : Int32} {I9 : ax_I} (hL : ax_LL B lay) (h : F_X7_deed I x1 = some (rv, I9)) : Cm l yX7_deed cX7_deed 3 (some .int) 4 E B [.ref (B + 35), .int x1] lay I J (some (.int rv)) lay I9 J :=
  ax_met (by decide) (Nat.le_of_ble_eq_true rfl) (fun p e R s m args below meth c C => t_X7_deed_0 hL C _ _ h)
def F_X7_readOn (I : ax_I) (x1 : Int32) (x2 : Int32) : Option (Int32 × ax_I) :=
  if x1 = 0 then (F_X7_begin I x2).bind (fun q6 => some (q6.1, q6.2)) else if x1 = 1 then (F_X7_deed I x2).bind (fun q17 => some (q17.1, q17.2)) else if x1 = 3 then (if ax_in (I 35 23) 60 = true then (F_X7_isLetter (ax_u I 52 (I 35 23).toNatClampNeg (x2 - 65)) x2).bind (fun q40 => if q40 = 0 then some ((-6), (ax_u I 52 (I 35 23).toNatClampNeg (x2 - 65))) else (F_X7_close (ax_u I 52 (I 35 23).toNatClampNeg (x2 - 65))).bind (fun q47 => some (q47.1, q47.2))) else none) else if ax_in (I 35 23) 60 = true then (F_X7_isParishLetter (ax_u I 53 (I 35 23).toNatClampNeg (x2 - 97)) x2).bind (fun q70 => if q70 = 0 then some ((-6), (ax_u I 53 (I 35 23).toNatClampNeg (x2 - 97))) else if x1 = 2 then some (3, (ax_u I 53 (I 35 23).toNatClampNeg (x2 - 97))) else (F_X7_close (ax_u I 53 (I 35 23).toNatClampNeg (x2 - 97))).bind (fun q91 => some (q91.1, q91.2))) else none
set_option maxRecDepth 100000 in
set_option maxHeartbeats 4000000 in
theorem t_X7_readOn_0 {lay : List ax_S} {J : ax_J} {rv : Int32} {I9 : ax_I} (hL : ax_LL B lay) (C : ax_C p R s m args meth c yX7_readOn cX7_readOn 3 (some .int) 8 E mc ms) : ∀ (I : ax_I) (x1 : Int32) (x2 : Int32), F_X7_readOn I x1 x2 = some (rv, I9) → AM p l e R s m args below meth c E B lay.length (ax_z lay) 3 (some (.int rv)) lay I9 J lay I J 0 [(0, .ref (B + 35)), (1, .int x1), (2, .int x2)] [] := by
  obtain ⟨hx, hb, hr, hml, hown, hts, hlocks, hK, hfr, hlo, hmc, hms, hnm⟩ := id C
  have hown : s.vm.findClass RX7 = some m.cls := hown
  intro I x1 x2 h H locs cells slots ls hc hz hR hS hl
  unfold F_X7_readOn at h
  refine lv_iload_n hx hb dX7_readOn_0 rfl (lv_at hl 1 rfl) ?_
  refine lv_if_ne (tgt := 10) hx hb dX7_readOn_1 (by decide) (fun q => ?_) (fun q => ?_)
  · have h := ax_iN q h
    refine lv_iload_n hx hb dX7_readOn_10 rfl (lv_at hl 1 rfl) ?_
    refine lv_iconst (v := 1) hx hb dX7_readOn_11 (by decide) ?_
    refine lv_icmp_ne (tgt := 21) hx hb dX7_readOn_12 (by decide) (fun q => ?_) (fun q => ?_)
    · have h := ax_iN q h
      refine lv_iload_n hx hb dX7_readOn_21 rfl (lv_at hl 1 rfl) ?_
      refine lv_iconst (v := 3) hx hb dX7_readOn_22 (by decide) ?_
      refine lv_icmp_ne (tgt := 56) hx hb dX7_readOn_23 (by decide) (fun q => ?_) (fun q => ?_)
      · have h := ax_iN q h
        refine lv_aload_n hx hb dX7_readOn_56 rfl (lv_at hl 0 rfl) ?_
        refine ax_getV hx hb hts hown hK hR fl_X7_61 (lk_35 hL) rfl dX7_readOn_57 ?_
        refine lv_aload_n hx hb dX7_readOn_60 rfl (lv_at hl 0 rfl) ?_
        refine ax_getI hx hb hts hown hK hR fl_X7_146 (lk_35 hL) rfl dX7_readOn_61 ?_
        refine lv_iload_n hx hb dX7_readOn_64 rfl (lv_at hl 2 rfl) ?_
        refine lv_bipush (v := 97) hx hb dX7_readOn_65 (by decide) ?_
        refine lv_isub hx hb dX7_readOn_67 ?_
        obtain ⟨hq, h⟩ := ax_ck h
        refine ax_iast hx hb hK hR hS (lk_53 hL) hq dX7_readOn_68 (fun H locs hR hS => ?_)
        refine lv_iload_n hx hb dX7_readOn_69 rfl (lv_at hl 2 rfl) ?_
        obtain ⟨q70, hq, h⟩ := ax_bd h
        refine ax_cS (rest := []) (st1 := [.int q70]) C hc hz hS hR (M_X7_isParishLetter  hq) yk_X7_isParishLetter st_X7_isParishLetter ml_X7_166 (by decide) rfl hl.1 (Nat.le_of_ble_eq_true rfl) rfl rfl dX7_readOn_70 (fun H locs hR hS => ?_)
        refine lv_if_ne (tgt := 81) hx hb dX7_readOn_73 (by decide) (fun q => ?_) (fun q => ?_)
        · have h := ax_iN q h
          refine lv_iload_n hx hb dX7_readOn_81 rfl (lv_at hl 1 rfl) ?_
          refine lv_iconst (v := 2) hx hb dX7_readOn_82 (by decide) ?_
          refine lv_icmp_ne (tgt := 90) hx hb dX7_readOn_83 (by decide) (fun q => ?_) (fun q => ?_)
          · have h := ax_iN q h
            refine lv_aload_n hx hb dX7_readOn_90 rfl (lv_at hl 0 rfl) ?_
            obtain ⟨q91, hq, h⟩ := ax_bd h
            refine ax_cV (rest := []) (st1 := [.int q91.1]) C hc hz hS hR (M_X7_close hL hq) yk_X7_close in_X7_close se_X7_close ml_X7_152 (lk_35 hL) rfl rfl (by decide) rfl hl.1 (Nat.le_of_ble_eq_true rfl) rfl rfl dX7_readOn_91 (fun H locs hR hS => ?_)
            cases h
            exact ax_iret C hc hz hR hS rfl rfl dX7_readOn_94
          · have h := ax_ip q h
            refine lv_iconst (v := 3) hx hb dX7_readOn_86 (by decide) ?_
            refine lv_goto (tgt := 94) hx hb dX7_readOn_87 (by decide) ?_
            cases h
            exact ax_iret C hc hz hR hS rfl rfl dX7_readOn_94
        · have h := ax_ip q h
          refine lv_bipush (v := (-6)) hx hb dX7_readOn_76 (by decide) ?_
          refine lv_goto (tgt := 94) hx hb dX7_readOn_78 (by decide) ?_
          cases h
          exact ax_iret C hc hz hR hS rfl rfl dX7_readOn_94
      · have h := ax_ip q h
        refine lv_aload_n hx hb dX7_readOn_26 rfl (lv_at hl 0 rfl) ?_
        refine ax_getV hx hb hts hown hK hR fl_X7_58 (lk_35 hL) rfl dX7_readOn_27 ?_
        refine lv_aload_n hx hb dX7_readOn_30 rfl (lv_at hl 0 rfl) ?_
        refine ax_getI hx hb hts hown hK hR fl_X7_146 (lk_35 hL) rfl dX7_readOn_31 ?_
        refine lv_iload_n hx hb dX7_readOn_34 rfl (lv_at hl 2 rfl) ?_
        refine lv_bipush (v := 65) hx hb dX7_readOn_35 (by decide) ?_
        refine lv_isub hx hb dX7_readOn_37 ?_
        obtain ⟨hq, h⟩ := ax_ck h
        refine ax_iast hx hb hK hR hS (lk_52 hL) hq dX7_readOn_38 (fun H locs hR hS => ?_)
        refine lv_iload_n hx hb dX7_readOn_39 rfl (lv_at hl 2 rfl) ?_
        obtain ⟨q40, hq, h⟩ := ax_bd h
        refine ax_cS (rest := []) (st1 := [.int q40]) C hc hz hS hR (M_X7_isLetter  hq) yk_X7_isLetter st_X7_isLetter ml_X7_149 (by decide) rfl hl.1 (Nat.le_of_ble_eq_true rfl) rfl rfl dX7_readOn_40 (fun H locs hR hS => ?_)
        refine lv_if_eq (tgt := 53) hx hb dX7_readOn_43 (by decide) (fun q => ?_) (fun q => ?_)
        · have h := ax_ip q h
          refine lv_bipush (v := (-6)) hx hb dX7_readOn_53 (by decide) ?_
          cases h
          exact ax_iret C hc hz hR hS rfl rfl dX7_readOn_55
        · have h := ax_iN q h
          refine lv_aload_n hx hb dX7_readOn_46 rfl (lv_at hl 0 rfl) ?_
          obtain ⟨q47, hq, h⟩ := ax_bd h
          refine ax_cV (rest := []) (st1 := [.int q47.1]) C hc hz hS hR (M_X7_close hL hq) yk_X7_close in_X7_close se_X7_close ml_X7_152 (lk_35 hL) rfl rfl (by decide) rfl hl.1 (Nat.le_of_ble_eq_true rfl) rfl rfl dX7_readOn_47 (fun H locs hR hS => ?_)
          refine lv_goto (tgt := 55) hx hb dX7_readOn_50 (by decide) ?_
          cases h
          exact ax_iret C hc hz hR hS rfl rfl dX7_readOn_55
    · have h := ax_ip q h
      refine lv_aload_n hx hb dX7_readOn_15 rfl (lv_at hl 0 rfl) ?_
      refine lv_iload_n hx hb dX7_readOn_16 rfl (lv_at hl 2 rfl) ?_
      obtain ⟨q17, hq, h⟩ := ax_bd h
      refine ax_cV (rest := []) (st1 := [.int q17.1]) C hc hz hS hR (M_X7_deed hL hq) yk_X7_deed in_X7_deed se_X7_deed ml_X7_163 (lk_35 hL) rfl rfl (by decide) rfl hl.1 (Nat.le_of_ble_eq_true rfl) rfl rfl dX7_readOn_17 (fun H locs hR hS => ?_)
      cases h
      exact ax_iret C hc hz hR hS rfl rfl dX7_readOn_20
  · have h := ax_ip q h
    refine lv_aload_n hx hb dX7_readOn_4 rfl (lv_at hl 0 rfl) ?_
    refine lv_iload_n hx hb dX7_readOn_5 rfl (lv_at hl 2 rfl) ?_
    obtain ⟨q6, hq, h⟩ := ax_bd h
    refine ax_cV (rest := []) (st1 := [.int q6.1]) C hc hz hS hR (M_X7_begin hL hq) yk_X7_begin in_X7_begin se_X7_begin ml_X7_160 (lk_35 hL) rfl rfl (by decide) rfl hl.1 (Nat.le_of_ble_eq_true rfl) rfl rfl dX7_readOn_6 (fun H locs hR hS => ?_)
    cases h
    exact ax_iret C hc hz hR hS rfl rfl dX7_readOn_9
theorem M_X7_readOn {l : Launch} {E : ax_E} {B : Nat} {lay : List ax_S} {I : ax_I} {J : ax_J} {x1 : Int32} {x2 : Int32} {rv : Int32} {I9 : ax_I} (hL : ax_LL B lay) (h : F_X7_readOn I x1 x2 = some (rv, I9)) : Cm l yX7_readOn cX7_readOn 3 (some .int) 8 E B [.ref (B + 35), .int x1, .int x2] lay I J (some (.int rv)) lay I9 J :=
  ax_met (by decide) (Nat.le_of_ble_eq_true rfl) (fun p e R s m args below meth c C => t_X7_readOn_0 hL C _ _ _ h)
def f_X7_fault_9 : Nat → ax_I → Int32 → Int32 → Option (Int32 × ax_I)
  | 0, _, _, _ => none
  | n + 1, I, x1, x2 => if (I 35 18) ≤ x2 then (if x1 = 0 then some ((-6), I) else some ((I 35 18), I)) else if ax_in x2 60 = true then (F_X7_readOn I x1 (I 50 x2.toNatClampNeg)).bind (fun q25 => if 0 ≤ q25.1 then f_X7_fault_9 n q25.2 q25.1 (x2 + 1) else some (x2, q25.2)) else none
def F_X7_fault (I : ax_I) : Option (Int32 × ax_I) :=
  f_X7_fault_9 ax_N (ax_u I 35 23 0) 0 0
set_option maxRecDepth 100000 in
set_option maxHeartbeats 4000000 in
theorem t_X7_fault_9 {lay : List ax_S} {J : ax_J} {rv : Int32} {I9 : ax_I} (hL : ax_LL B lay) (C : ax_C p R s m args meth c yX7_fault cX7_fault 3 (some .int) 10 E mc ms) : ∀ (n : Nat) (I : ax_I) (x1 : Int32) (x2 : Int32), f_X7_fault_9 n I x1 x2 = some (rv, I9) → AM p l e R s m args below meth c E B lay.length (ax_z lay) 3 (some (.int rv)) lay I9 J lay I J 9 [(0, .ref (B + 35)), (1, .int x1), (2, .int x2)] [] := by
  obtain ⟨hx, hb, hr, hml, hown, hts, hlocks, hK, hfr, hlo, hmc, hms, hnm⟩ := id C
  have hown : s.vm.findClass RX7 = some m.cls := hown
  intro n
  induction n with
  | zero => intro I x1 x2 h; cases h
  | succ n ih =>
    intro I x1 x2 h H locs cells slots ls hc hz hR hS hl
    rw [f_X7_fault_9] at h
    refine lv_iload_n hx hb dX7_fault_9 rfl (lv_at hl 2 rfl) ?_
    refine lv_aload_n hx hb dX7_fault_10 rfl (lv_at hl 0 rfl) ?_
    refine ax_getI hx hb hts hown hK hR fl_X7_135 (lk_35 hL) rfl dX7_fault_11 ?_
    refine lv_icmp_ge (tgt := 41) hx hb dX7_fault_14 (by decide) (fun q => ?_) (fun q => ?_)
    · have h := ax_ip q h
      refine lv_iload_n hx hb dX7_fault_41 rfl (lv_at hl 1 rfl) ?_
      refine lv_if_ne (tgt := 50) hx hb dX7_fault_42 (by decide) (fun q => ?_) (fun q => ?_)
      · have h := ax_iN q h
        refine lv_aload_n hx hb dX7_fault_50 rfl (lv_at hl 0 rfl) ?_
        refine ax_getI hx hb hts hown hK hR fl_X7_135 (lk_35 hL) rfl dX7_fault_51 ?_
        cases h
        exact ax_iret C hc hz hR hS rfl rfl dX7_fault_54
      · have h := ax_ip q h
        refine lv_bipush (v := (-6)) hx hb dX7_fault_45 (by decide) ?_
        refine lv_goto (tgt := 54) hx hb dX7_fault_47 (by decide) ?_
        cases h
        exact ax_iret C hc hz hR hS rfl rfl dX7_fault_54
    · have h := ax_iN q h
      refine lv_aload_n hx hb dX7_fault_17 rfl (lv_at hl 0 rfl) ?_
      refine lv_iload_n hx hb dX7_fault_18 rfl (lv_at hl 1 rfl) ?_
      refine lv_aload_n hx hb dX7_fault_19 rfl (lv_at hl 0 rfl) ?_
      refine ax_getV hx hb hts hown hK hR fl_X7_52 (lk_35 hL) rfl dX7_fault_20 ?_
      refine lv_iload_n hx hb dX7_fault_23 rfl (lv_at hl 2 rfl) ?_
      obtain ⟨hq, h⟩ := ax_ck h
      refine ax_iald hx hb hK hR (lk_50 hL) hq dX7_fault_24 ?_
      obtain ⟨q25, hq, h⟩ := ax_bd h
      refine ax_cV (rest := []) (st1 := [.int q25.1]) C hc hz hS hR (M_X7_readOn hL hq) yk_X7_readOn in_X7_readOn se_X7_readOn ml_X7_169 (lk_35 hL) rfl rfl (by decide) rfl hl.1 (Nat.le_of_ble_eq_true rfl) rfl rfl dX7_fault_25 (fun H locs hR hS => ?_)
      refine lv_istore_n (lv' := [(1, .int q25.1), (0, .ref (B + 35)), (2, .int x2)]) hx hb dX7_fault_28 rfl hl (by decide) rfl (fun ls hl => ?_)
      refine lv_iload_n hx hb dX7_fault_29 rfl (lv_at hl 0 rfl) ?_
      refine lv_if_ge (tgt := 35) hx hb dX7_fault_30 (by decide) (fun q => ?_) (fun q => ?_)
      · have h := ax_ip q h
        refine lv_iinc (v := (x2 + 1)) (lv' := [(2, .int (x2 + 1)), (1, .int q25.1), (0, .ref (B + 35))]) hx hb dX7_fault_35 hl (k := 2) rfl rfl (by decide) rfl (fun ls hl => ?_)
        refine lv_goto (tgt := 9) hx hb dX7_fault_38 (by decide) ?_
        exact ih _ _ _ h H locs cells slots ls hc hz hR hS (lv_sub hl [2, 1, 0] rfl)
      · have h := ax_iN q h
        refine lv_iload_n hx hb dX7_fault_33 rfl (lv_at hl 2 rfl) ?_
        cases h
        exact ax_iret C hc hz hR hS rfl rfl dX7_fault_34
set_option maxRecDepth 100000 in
set_option maxHeartbeats 4000000 in
theorem t_X7_fault_0 {lay : List ax_S} {J : ax_J} {rv : Int32} {I9 : ax_I} (hL : ax_LL B lay) (C : ax_C p R s m args meth c yX7_fault cX7_fault 3 (some .int) 10 E mc ms) : ∀ (I : ax_I), F_X7_fault I = some (rv, I9) → AM p l e R s m args below meth c E B lay.length (ax_z lay) 3 (some (.int rv)) lay I9 J lay I J 0 [(0, .ref (B + 35))] [] := by
  obtain ⟨hx, hb, hr, hml, hown, hts, hlocks, hK, hfr, hlo, hmc, hms, hnm⟩ := id C
  have hown : s.vm.findClass RX7 = some m.cls := hown
  intro I h H locs cells slots ls hc hz hR hS hl
  unfold F_X7_fault at h
  refine lv_aload_n hx hb dX7_fault_0 rfl (lv_at hl 0 rfl) ?_
  refine lv_iconst (v := 0) hx hb dX7_fault_1 (by decide) ?_
  refine ax_putI hx hb hts hown hK hR hS fp_X7_146 (lk_35 hL) rfl rfl rfl dX7_fault_2 (fun H locs hR hS => ?_)
  refine lv_iconst (v := 0) hx hb dX7_fault_5 (by decide) ?_
  refine lv_istore_n (lv' := [(1, .int 0), (0, .ref (B + 35))]) hx hb dX7_fault_6 rfl hl (by decide) rfl (fun ls hl => ?_)
  refine lv_iconst (v := 0) hx hb dX7_fault_7 (by decide) ?_
  refine lv_istore_n (lv' := [(2, .int 0), (1, .int 0), (0, .ref (B + 35))]) hx hb dX7_fault_8 rfl hl (by decide) rfl (fun ls hl => ?_)
  exact t_X7_fault_9 hL C  ax_N _ _ _ h H locs cells slots ls hc hz hR hS (lv_sub hl [2, 1, 0] rfl)
theorem M_X7_fault {l : Launch} {E : ax_E} {B : Nat} {lay : List ax_S} {I : ax_I} {J : ax_J} {rv : Int32} {I9 : ax_I} (hL : ax_LL B lay) (h : F_X7_fault I = some (rv, I9)) : Cm l yX7_fault cX7_fault 3 (some .int) 10 E B [.ref (B + 35)] lay I J (some (.int rv)) lay I9 J :=
  ax_met (by decide) (Nat.le_of_ble_eq_true rfl) (fun p e R s m args below meth c C => t_X7_fault_0 hL C _ h)
def f_X7_isSaint_50 (I : ax_I) (x1 : Int32) (s0 : Int32) : Option Int32 :=
  (F_X7_isChild I x1).bind (fun q53 => if q53 = 0 then some 0 else if ax_in x1 6 = true then if (I 39 x1.toNatClampNeg) = 0 then (if s0 = 0 then some 0 else some 1) else some 0 else none)
def f_X7_isSaint_49 (I : ax_I) (x1 : Int32) : Option Int32 :=
  f_X7_isSaint_50 I x1 0
def F_X7_isSaint (I : ax_I) (x1 : Int32) : Option Int32 :=
  if ax_in x1 6 = true then if (I 36 x1.toNatClampNeg) < (I 45 (0 : Int32).toNatClampNeg) then f_X7_isSaint_49 I x1 else if ax_in x1 6 = true then if (I 45 (1 : Int32).toNatClampNeg) < (I 37 x1.toNatClampNeg) then f_X7_isSaint_49 I x1 else if ax_in x1 6 = true then if (I 38 x1.toNatClampNeg) < (I 45 (2 : Int32).toNatClampNeg) then f_X7_isSaint_49 I x1 else f_X7_isSaint_50 I x1 1 else none else none else none
set_option maxRecDepth 100000 in
set_option maxHeartbeats 4000000 in
theorem t_X7_isSaint_50 {lay : List ax_S} {J : ax_J} {rv : Int32} (hL : ax_LL B lay) (C : ax_C p R s m args meth c yX7_isSaint cX7_isSaint 3 (some .boolean) 8 E mc ms) : ∀ (I : ax_I) (x1 : Int32) (s0 : Int32), f_X7_isSaint_50 I x1 s0 = some rv → AM p l e R s m args below meth c E B lay.length (ax_z lay) 3 (some (.int rv)) lay I J lay I J 50 [(0, .ref (B + 35)), (1, .int x1)] [.int s0] := by
  obtain ⟨hx, hb, hr, hml, hown, hts, hlocks, hK, hfr, hlo, hmc, hms, hnm⟩ := id C
  have hown : s.vm.findClass RX7 = some m.cls := hown
  intro I x1 s0 h H locs cells slots ls hc hz hR hS hl
  unfold f_X7_isSaint_50 at h
  refine lv_istore_n (lv' := [(2, .int s0), (0, .ref (B + 35)), (1, .int x1)]) hx hb dX7_isSaint_50 rfl hl (by decide) rfl (fun ls hl => ?_)
  refine lv_aload_n hx hb dX7_isSaint_51 rfl (lv_at hl 1 rfl) ?_
  refine lv_iload_n hx hb dX7_isSaint_52 rfl (lv_at hl 2 rfl) ?_
  obtain ⟨q53, hq, h⟩ := ax_bd h
  refine ax_cV (rest := []) (st1 := [.int q53]) C hc hz hS hR (M_X7_isChild hL hq) yk_X7_isChild in_X7_isChild se_X7_isChild ml_X7_113 (lk_35 hL) rfl rfl (by decide) rfl hl.1 (Nat.le_of_ble_eq_true rfl) rfl rfl dX7_isSaint_53 (fun H locs hR hS => ?_)
  refine lv_if_eq (tgt := 76) hx hb dX7_isSaint_56 (by decide) (fun q => ?_) (fun q => ?_)
  · have h := ax_ip q h
    refine lv_iconst (v := 0) hx hb dX7_isSaint_76 (by decide) ?_
    cases h
    exact ax_iret C hc hz hR hS rfl ax_bool_n0 dX7_isSaint_77
  · have h := ax_iN q h
    refine lv_aload_n hx hb dX7_isSaint_59 rfl (lv_at hl 1 rfl) ?_
    refine ax_getV hx hb hts hown hK hR fl_X7_19 (lk_35 hL) rfl dX7_isSaint_60 ?_
    refine lv_iload_n hx hb dX7_isSaint_63 rfl (lv_at hl 2 rfl) ?_
    obtain ⟨hq, h⟩ := ax_ck h
    refine ax_iald hx hb hK hR (lk_39 hL) hq dX7_isSaint_64 ?_
    refine lv_if_ne (tgt := 76) hx hb dX7_isSaint_65 (by decide) (fun q => ?_) (fun q => ?_)
    · have h := ax_iN q h
      refine lv_iconst (v := 0) hx hb dX7_isSaint_76 (by decide) ?_
      cases h
      exact ax_iret C hc hz hR hS rfl ax_bool_n0 dX7_isSaint_77
    · have h := ax_ip q h
      refine lv_iload_n hx hb dX7_isSaint_68 rfl (lv_at hl 0 rfl) ?_
      refine lv_if_eq (tgt := 76) hx hb dX7_isSaint_69 (by decide) (fun q => ?_) (fun q => ?_)
      · have h := ax_ip q h
        refine lv_iconst (v := 0) hx hb dX7_isSaint_76 (by decide) ?_
        cases h
        exact ax_iret C hc hz hR hS rfl ax_bool_n0 dX7_isSaint_77
      · have h := ax_iN q h
        refine lv_iconst (v := 1) hx hb dX7_isSaint_72 (by decide) ?_
        refine lv_goto (tgt := 77) hx hb dX7_isSaint_73 (by decide) ?_
        cases h
        exact ax_iret C hc hz hR hS rfl ax_bool_n1 dX7_isSaint_77
set_option maxRecDepth 100000 in
set_option maxHeartbeats 4000000 in
theorem t_X7_isSaint_49 {lay : List ax_S} {J : ax_J} {rv : Int32} (hL : ax_LL B lay) (C : ax_C p R s m args meth c yX7_isSaint cX7_isSaint 3 (some .boolean) 8 E mc ms) : ∀ (I : ax_I) (x1 : Int32), f_X7_isSaint_49 I x1 = some rv → AM p l e R s m args below meth c E B lay.length (ax_z lay) 3 (some (.int rv)) lay I J lay I J 49 [(0, .ref (B + 35)), (1, .int x1)] [] := by
  obtain ⟨hx, hb, hr, hml, hown, hts, hlocks, hK, hfr, hlo, hmc, hms, hnm⟩ := id C
  have hown : s.vm.findClass RX7 = some m.cls := hown
  intro I x1 h H locs cells slots ls hc hz hR hS hl
  unfold f_X7_isSaint_49 at h
  refine lv_iconst (v := 0) hx hb dX7_isSaint_49 (by decide) ?_
  exact t_X7_isSaint_50 hL C  _ _ _ h H locs cells slots ls hc hz hR hS (lv_sub hl [0, 1] rfl)
set_option maxRecDepth 100000 in
set_option maxHeartbeats 4000000 in
theorem t_X7_isSaint_0 {lay : List ax_S} {J : ax_J} {rv : Int32} (hL : ax_LL B lay) (C : ax_C p R s m args meth c yX7_isSaint cX7_isSaint 3 (some .boolean) 8 E mc ms) : ∀ (I : ax_I) (x1 : Int32), F_X7_isSaint I x1 = some rv → AM p l e R s m args below meth c E B lay.length (ax_z lay) 3 (some (.int rv)) lay I J lay I J 0 [(0, .ref (B + 35)), (1, .int x1)] [] := by
  obtain ⟨hx, hb, hr, hml, hown, hts, hlocks, hK, hfr, hlo, hmc, hms, hnm⟩ := id C
  have hown : s.vm.findClass RX7 = some m.cls := hown
  intro I x1 h H locs cells slots ls hc hz hR hS hl
  unfold F_X7_isSaint at h
  refine lv_aload_n hx hb dX7_isSaint_0 rfl (lv_at hl 0 rfl) ?_
  refine ax_getV hx hb hts hown hK hR fl_X7_7 (lk_35 hL) rfl dX7_isSaint_1 ?_
  refine lv_iload_n hx hb dX7_isSaint_4 rfl (lv_at hl 1 rfl) ?_
  obtain ⟨hq, h⟩ := ax_ck h
  refine ax_iald hx hb hK hR (lk_36 hL) hq dX7_isSaint_5 ?_
  refine lv_aload_n hx hb dX7_isSaint_6 rfl (lv_at hl 0 rfl) ?_
  refine ax_getV hx hb hts hown hK hR fl_X7_37 (lk_35 hL) rfl dX7_isSaint_7 ?_
  refine lv_iconst (v := 0) hx hb dX7_isSaint_10 (by decide) ?_
  refine ax_iald hx hb hK hR (lk_45 hL) (by decide) dX7_isSaint_11 ?_
  refine lv_icmp_lt (tgt := 49) hx hb dX7_isSaint_12 (by decide) (fun q => ?_) (fun q => ?_)
  · have h := ax_ip q h
    exact t_X7_isSaint_49 hL C  _ _ h H locs cells slots ls hc hz hR hS (lv_sub hl [0, 1] rfl)
  · have h := ax_iN q h
    refine lv_aload_n hx hb dX7_isSaint_15 rfl (lv_at hl 0 rfl) ?_
    refine ax_getV hx hb hts hown hK hR fl_X7_13 (lk_35 hL) rfl dX7_isSaint_16 ?_
    refine lv_iload_n hx hb dX7_isSaint_19 rfl (lv_at hl 1 rfl) ?_
    obtain ⟨hq, h⟩ := ax_ck h
    refine ax_iald hx hb hK hR (lk_37 hL) hq dX7_isSaint_20 ?_
    refine lv_aload_n hx hb dX7_isSaint_21 rfl (lv_at hl 0 rfl) ?_
    refine ax_getV hx hb hts hown hK hR fl_X7_37 (lk_35 hL) rfl dX7_isSaint_22 ?_
    refine lv_iconst (v := 1) hx hb dX7_isSaint_25 (by decide) ?_
    refine ax_iald hx hb hK hR (lk_45 hL) (by decide) dX7_isSaint_26 ?_
    refine lv_icmp_gt (tgt := 49) hx hb dX7_isSaint_27 (by decide) (fun q => ?_) (fun q => ?_)
    · have h := ax_ip q h
      exact t_X7_isSaint_49 hL C  _ _ h H locs cells slots ls hc hz hR hS (lv_sub hl [0, 1] rfl)
    · have h := ax_iN q h
      refine lv_aload_n hx hb dX7_isSaint_30 rfl (lv_at hl 0 rfl) ?_
      refine ax_getV hx hb hts hown hK hR fl_X7_16 (lk_35 hL) rfl dX7_isSaint_31 ?_
      refine lv_iload_n hx hb dX7_isSaint_34 rfl (lv_at hl 1 rfl) ?_
      obtain ⟨hq, h⟩ := ax_ck h
      refine ax_iald hx hb hK hR (lk_38 hL) hq dX7_isSaint_35 ?_
      refine lv_aload_n hx hb dX7_isSaint_36 rfl (lv_at hl 0 rfl) ?_
      refine ax_getV hx hb hts hown hK hR fl_X7_37 (lk_35 hL) rfl dX7_isSaint_37 ?_
      refine lv_iconst (v := 2) hx hb dX7_isSaint_40 (by decide) ?_
      refine ax_iald hx hb hK hR (lk_45 hL) (by decide) dX7_isSaint_41 ?_
      refine lv_icmp_lt (tgt := 49) hx hb dX7_isSaint_42 (by decide) (fun q => ?_) (fun q => ?_)
      · have h := ax_ip q h
        exact t_X7_isSaint_49 hL C  _ _ h H locs cells slots ls hc hz hR hS (lv_sub hl [0, 1] rfl)
      · have h := ax_iN q h
        refine lv_iconst (v := 1) hx hb dX7_isSaint_45 (by decide) ?_
        refine lv_goto (tgt := 50) hx hb dX7_isSaint_46 (by decide) ?_
        exact t_X7_isSaint_50 hL C  _ _ _ h H locs cells slots ls hc hz hR hS (lv_sub hl [0, 1] rfl)
theorem M_X7_isSaint {l : Launch} {E : ax_E} {B : Nat} {lay : List ax_S} {I : ax_I} {J : ax_J} {x1 : Int32} {rv : Int32} (hL : ax_LL B lay) (h : F_X7_isSaint I x1 = some rv) : Cm l yX7_isSaint cX7_isSaint 3 (some .boolean) 8 E B [.ref (B + 35), .int x1] lay I J (some (.int rv)) lay I J :=
  ax_met (by decide) (Nat.le_of_ble_eq_true rfl) (fun p e R s m args below meth c C => t_X7_isSaint_0 hL C _ _ h)
def f_X7_heldBy_37 (r5 : ax_I → Int32 → Int32 → Int32 → Int32 → Option (Int32)) (I : ax_I) (x1 : Int32) (x2 : Int32) (x4 : Int32) (s0 : Int32) (s1 : Int32) : Option Int32 :=
  r5 I x1 x2 (s1 ||| s0) (x4 + 1)
def f_X7_heldBy_5 : Nat → ax_I → Int32 → Int32 → Int32 → Int32 → Option Int32
  | 0, _, _, _, _, _ => none
  | n + 1, I, x1, x2, x3, x4 => if 8 ≤ x4 then some x3 else if ax_in ((8 * x2) + x4) 48 = true then if (I 40 ((8 * x2) + x4).toNatClampNeg) = x1 then f_X7_heldBy_37 (f_X7_heldBy_5 n) I x1 x2 x4 ((1 : Int32) <<< (x4 &&& 31)) x3 else f_X7_heldBy_37 (f_X7_heldBy_5 n) I x1 x2 x4 0 x3 else none
def F_X7_heldBy (I : ax_I) (x1 : Int32) (x2 : Int32) : Option Int32 :=
  f_X7_heldBy_5 ax_N I x1 x2 0 0
set_option maxRecDepth 100000 in
set_option maxHeartbeats 4000000 in
theorem t_X7_heldBy_37 {lay : List ax_S} {J : ax_J} {rv : Int32} (hL : ax_LL B lay) (C : ax_C p R s m args meth c yX7_heldBy cX7_heldBy 5 (some .int) 2 E mc ms) {r5 : ax_I → Int32 → Int32 → Int32 → Int32 → Option (Int32)} (hr5 : ∀ (I : ax_I) (x1 : Int32) (x2 : Int32) (x3 : Int32) (x4 : Int32), r5 I x1 x2 x3 x4 = some rv → AM p l e R s m args below meth c E B lay.length (ax_z lay) 5 (some (.int rv)) lay I J lay I J 5 [(0, .ref (B + 35)), (1, .int x1), (2, .int x2), (3, .int x3), (4, .int x4)] []) : ∀ (I : ax_I) (x1 : Int32) (x2 : Int32) (x4 : Int32) (s0 : Int32) (s1 : Int32), f_X7_heldBy_37 r5 I x1 x2 x4 s0 s1 = some rv → AM p l e R s m args below meth c E B lay.length (ax_z lay) 5 (some (.int rv)) lay I J lay I J 37 [(0, .ref (B + 35)), (1, .int x1), (2, .int x2), (4, .int x4)] [.int s0, .int s1] := by
  obtain ⟨hx, hb, hr, hml, hown, hts, hlocks, hK, hfr, hlo, hmc, hms, hnm⟩ := id C
  have hown : s.vm.findClass RX7 = some m.cls := hown
  intro I x1 x2 x4 s0 s1 h H locs cells slots ls hc hz hR hS hl
  unfold f_X7_heldBy_37 at h
  refine lv_ior hx hb dX7_heldBy_37 ?_
  refine lv_istore_n (lv' := [(3, .int (s1 ||| s0)), (0, .ref (B + 35)), (1, .int x1), (2, .int x2), (4, .int x4)]) hx hb dX7_heldBy_38 rfl hl (by decide) rfl (fun ls hl => ?_)
  refine lv_iinc (v := (x4 + 1)) (lv' := [(4, .int (x4 + 1)), (3, .int (s1 ||| s0)), (0, .ref (B + 35)), (1, .int x1), (2, .int x2)]) hx hb dX7_heldBy_39 hl (k := 4) rfl rfl (by decide) rfl (fun ls hl => ?_)
  refine lv_goto (tgt := 5) hx hb dX7_heldBy_42 (by decide) ?_
  exact hr5 _ _ _ _ _ h H locs cells slots ls hc hz hR hS (lv_sub hl [2, 3, 4, 1, 0] rfl)
set_option maxRecDepth 100000 in
set_option maxHeartbeats 4000000 in
theorem t_X7_heldBy_5 {lay : List ax_S} {J : ax_J} {rv : Int32} (hL : ax_LL B lay) (C : ax_C p R s m args meth c yX7_heldBy cX7_heldBy 5 (some .int) 2 E mc ms) : ∀ (n : Nat) (I : ax_I) (x1 : Int32) (x2 : Int32) (x3 : Int32) (x4 : Int32), f_X7_heldBy_5 n I x1 x2 x3 x4 = some rv → AM p l e R s m args below meth c E B lay.length (ax_z lay) 5 (some (.int rv)) lay I J lay I J 5 [(0, .ref (B + 35)), (1, .int x1), (2, .int x2), (3, .int x3), (4, .int x4)] [] := by
  obtain ⟨hx, hb, hr, hml, hown, hts, hlocks, hK, hfr, hlo, hmc, hms, hnm⟩ := id C
  have hown : s.vm.findClass RX7 = some m.cls := hown
  intro n
  induction n with
  | zero => intro I x1 x2 x3 x4 h; cases h
  | succ n ih =>
    intro I x1 x2 x3 x4 h H locs cells slots ls hc hz hR hS hl
    rw [f_X7_heldBy_5] at h
    refine lv_iload hx hb dX7_heldBy_5 (lv_at hl 4 rfl) ?_
    refine lv_bipush (v := 8) hx hb dX7_heldBy_7 (by decide) ?_
    refine lv_icmp_ge (tgt := 45) hx hb dX7_heldBy_9 (by decide) (fun q => ?_) (fun q => ?_)
    · have h := ax_ip q h
      refine lv_iload_n hx hb dX7_heldBy_45 rfl (lv_at hl 3 rfl) ?_
      cases h
      exact ax_iret C hc hz hR hS rfl rfl dX7_heldBy_46
    · have h := ax_iN q h
      refine lv_iload_n hx hb dX7_heldBy_12 rfl (lv_at hl 3 rfl) ?_
      refine lv_aload_n hx hb dX7_heldBy_13 rfl (lv_at hl 0 rfl) ?_
      refine ax_getV hx hb hts hown hK hR fl_X7_22 (lk_35 hL) rfl dX7_heldBy_14 ?_
      refine lv_bipush (v := 8) hx hb dX7_heldBy_17 (by decide) ?_
      refine lv_iload_n hx hb dX7_heldBy_19 rfl (lv_at hl 2 rfl) ?_
      refine lv_imul hx hb dX7_heldBy_20 ?_
      refine lv_iload hx hb dX7_heldBy_21 (lv_at hl 4 rfl) ?_
      refine lv_iadd hx hb dX7_heldBy_23 ?_
      obtain ⟨hq, h⟩ := ax_ck h
      refine ax_iald hx hb hK hR (lk_40 hL) hq dX7_heldBy_24 ?_
      refine lv_iload_n hx hb dX7_heldBy_25 rfl (lv_at hl 1 rfl) ?_
      refine lv_icmp_ne (tgt := 36) hx hb dX7_heldBy_26 (by decide) (fun q => ?_) (fun q => ?_)
      · have h := ax_iN q h
        refine lv_iconst (v := 0) hx hb dX7_heldBy_36 (by decide) ?_
        exact t_X7_heldBy_37 hL C ih _ _ _ _ _ _ h H locs cells slots ls hc hz hR hS (lv_sub hl [0, 1, 2, 4] rfl)
      · have h := ax_ip q h
        refine lv_iconst (v := 1) hx hb dX7_heldBy_29 (by decide) ?_
        refine lv_iload hx hb dX7_heldBy_30 (lv_at hl 4 rfl) ?_
        refine lv_ishl hx hb dX7_heldBy_32 ?_
        refine lv_goto (tgt := 37) hx hb dX7_heldBy_33 (by decide) ?_
        exact t_X7_heldBy_37 hL C ih _ _ _ _ _ _ h H locs cells slots ls hc hz hR hS (lv_sub hl [0, 1, 2, 4] rfl)
set_option maxRecDepth 100000 in
set_option maxHeartbeats 4000000 in
theorem t_X7_heldBy_0 {lay : List ax_S} {J : ax_J} {rv : Int32} (hL : ax_LL B lay) (C : ax_C p R s m args meth c yX7_heldBy cX7_heldBy 5 (some .int) 2 E mc ms) : ∀ (I : ax_I) (x1 : Int32) (x2 : Int32), F_X7_heldBy I x1 x2 = some rv → AM p l e R s m args below meth c E B lay.length (ax_z lay) 5 (some (.int rv)) lay I J lay I J 0 [(0, .ref (B + 35)), (1, .int x1), (2, .int x2)] [] := by
  obtain ⟨hx, hb, hr, hml, hown, hts, hlocks, hK, hfr, hlo, hmc, hms, hnm⟩ := id C
  have hown : s.vm.findClass RX7 = some m.cls := hown
  intro I x1 x2 h H locs cells slots ls hc hz hR hS hl
  unfold F_X7_heldBy at h
  refine lv_iconst (v := 0) hx hb dX7_heldBy_0 (by decide) ?_
  refine lv_istore_n (lv' := [(3, .int 0), (0, .ref (B + 35)), (1, .int x1), (2, .int x2)]) hx hb dX7_heldBy_1 rfl hl (by decide) rfl (fun ls hl => ?_)
  refine lv_iconst (v := 0) hx hb dX7_heldBy_2 (by decide) ?_
  refine lv_istore (lv' := [(4, .int 0), (3, .int 0), (0, .ref (B + 35)), (1, .int x1), (2, .int x2)]) hx hb dX7_heldBy_3 hl (by decide) rfl (fun ls hl => ?_)
  exact t_X7_heldBy_5 hL C  ax_N _ _ _ _ _ h H locs cells slots ls hc hz hR hS (lv_sub hl [2, 3, 4, 1, 0] rfl)
theorem M_X7_heldBy {l : Launch} {E : ax_E} {B : Nat} {lay : List ax_S} {I : ax_I} {J : ax_J} {x1 : Int32} {x2 : Int32} {rv : Int32} (hL : ax_LL B lay) (h : F_X7_heldBy I x1 x2 = some rv) : Cm l yX7_heldBy cX7_heldBy 5 (some .int) 2 E B [.ref (B + 35), .int x1, .int x2] lay I J (some (.int rv)) lay I J :=
  ax_met (by decide) (Nat.le_of_ble_eq_true rfl) (fun p e R s m args below meth c C => t_X7_heldBy_0 hL C _ _ _ h)
def F_X7_whyNot (I : ax_I) (x1 : Int32) (x2 : Int32) (x3 : Int32) (x4 : Int32) : Option Int32 :=
  if x1 = 7 then (if (I 35 1) = 99 then some 7 else some 0) else (F_X7_isChild I x2).bind (fun q24 => if q24 = 0 then some 1 else if ax_in x2 6 = true then if (I 39 x2.toNatClampNeg) = 1 then some 2 else if x1 = 0 then (if ax_in x2 6 = true then if (I 36 x2.toNatClampNeg) = 99 then some 3 else some 0 else none) else if x1 = 1 then (if ax_in x2 6 = true then if (I 37 x2.toNatClampNeg) = 99 then some 3 else some 0 else none) else if x1 = 2 then (if ax_in x2 6 = true then if (I 37 x2.toNatClampNeg) = 0 then some 3 else some 0 else none) else if x1 = 3 then (if ax_in x2 6 = true then if (I 38 x2.toNatClampNeg) = 99 then some 3 else some 0 else none) else if x1 = 4 then some 0 else if x1 = 5 then (if ax_in ((8 * x2) + x4) 48 = true then if (I 40 ((8 * x2) + x4).toNatClampNeg) < 0 then (if ax_in x3 4 = true then if 10 ≤ (I 44 x3.toNatClampNeg) then some 0 else some 5 else none) else some 4 else none) else if x1 = 6 then (F_X7_heldBy I x3 x2).bind (fun q193 => if q193 = 0 then some 6 else some 0) else some 0 else none)
set_option maxRecDepth 100000 in
set_option maxHeartbeats 4000000 in
theorem t_X7_whyNot_0 {lay : List ax_S} {J : ax_J} {rv : Int32} (hL : ax_LL B lay) (C : ax_C p R s m args meth c yX7_whyNot cX7_whyNot 5 (some .int) 8 E mc ms) : ∀ (I : ax_I) (x1 : Int32) (x2 : Int32) (x3 : Int32) (x4 : Int32), F_X7_whyNot I x1 x2 x3 x4 = some rv → AM p l e R s m args below meth c E B lay.length (ax_z lay) 5 (some (.int rv)) lay I J lay I J 0 [(0, .ref (B + 35)), (1, .int x1), (2, .int x2), (3, .int x3), (4, .int x4)] [] := by
  obtain ⟨hx, hb, hr, hml, hown, hts, hlocks, hK, hfr, hlo, hmc, hms, hnm⟩ := id C
  have hown : s.vm.findClass RX7 = some m.cls := hown
  intro I x1 x2 x3 x4 h H locs cells slots ls hc hz hR hS hl
  unfold F_X7_whyNot at h
  refine lv_iload_n hx hb dX7_whyNot_0 rfl (lv_at hl 1 rfl) ?_
  refine lv_bipush (v := 7) hx hb dX7_whyNot_1 (by decide) ?_
  refine lv_icmp_ne (tgt := 22) hx hb dX7_whyNot_3 (by decide) (fun q => ?_) (fun q => ?_)
  · have h := ax_iN q h
    refine lv_aload_n hx hb dX7_whyNot_22 rfl (lv_at hl 0 rfl) ?_
    refine lv_iload_n hx hb dX7_whyNot_23 rfl (lv_at hl 2 rfl) ?_
    obtain ⟨q24, hq, h⟩ := ax_bd h
    refine ax_cV (rest := []) (st1 := [.int q24]) C hc hz hS hR (M_X7_isChild hL hq) yk_X7_isChild in_X7_isChild se_X7_isChild ml_X7_113 (lk_35 hL) rfl rfl (by decide) rfl hl.1 (Nat.le_of_ble_eq_true rfl) rfl rfl dX7_whyNot_24 (fun H locs hR hS => ?_)
    refine lv_if_ne (tgt := 32) hx hb dX7_whyNot_27 (by decide) (fun q => ?_) (fun q => ?_)
    · have h := ax_iN q h
      refine lv_aload_n hx hb dX7_whyNot_32 rfl (lv_at hl 0 rfl) ?_
      refine ax_getV hx hb hts hown hK hR fl_X7_19 (lk_35 hL) rfl dX7_whyNot_33 ?_
      refine lv_iload_n hx hb dX7_whyNot_36 rfl (lv_at hl 2 rfl) ?_
      obtain ⟨hq, h⟩ := ax_ck h
      refine ax_iald hx hb hK hR (lk_39 hL) hq dX7_whyNot_37 ?_
      refine lv_iconst (v := 1) hx hb dX7_whyNot_38 (by decide) ?_
      refine lv_icmp_ne (tgt := 44) hx hb dX7_whyNot_39 (by decide) (fun q => ?_) (fun q => ?_)
      · have h := ax_iN q h
        refine lv_iload_n hx hb dX7_whyNot_44 rfl (lv_at hl 1 rfl) ?_
        by_cases q0 : x1 = 0
        · have h := ax_ip q0 h
          refine lv_tableIn (off := 43) (tgt := 88) hx hb dX7_whyNot_45 (by rw [q0]; decide) (by rw [q0]; decide) (by rw [q0]; rfl) (by decide) ?_
          refine lv_aload_n hx hb dX7_whyNot_88 rfl (lv_at hl 0 rfl) ?_
          refine ax_getV hx hb hts hown hK hR fl_X7_7 (lk_35 hL) rfl dX7_whyNot_89 ?_
          refine lv_iload_n hx hb dX7_whyNot_92 rfl (lv_at hl 2 rfl) ?_
          obtain ⟨hq, h⟩ := ax_ck h
          refine ax_iald hx hb hK hR (lk_36 hL) hq dX7_whyNot_93 ?_
          refine lv_bipush (v := 99) hx hb dX7_whyNot_94 (by decide) ?_
          refine lv_icmp_ne (tgt := 103) hx hb dX7_whyNot_96 (by decide) (fun q => ?_) (fun q => ?_)
          · have h := ax_iN q h
            refine lv_iconst (v := 0) hx hb dX7_whyNot_103 (by decide) ?_
            cases h
            exact ax_iret C hc hz hR hS rfl rfl dX7_whyNot_104
          · have h := ax_ip q h
            refine lv_iconst (v := 3) hx hb dX7_whyNot_99 (by decide) ?_
            refine lv_goto (tgt := 104) hx hb dX7_whyNot_100 (by decide) ?_
            cases h
            exact ax_iret C hc hz hR hS rfl rfl dX7_whyNot_104
        · have h := ax_iN q0 h
          by_cases q1 : x1 = 1
          · have h := ax_ip q1 h
            refine lv_tableIn (off := 60) (tgt := 105) hx hb dX7_whyNot_45 (by rw [q1]; decide) (by rw [q1]; decide) (by rw [q1]; rfl) (by decide) ?_
            refine lv_aload_n hx hb dX7_whyNot_105 rfl (lv_at hl 0 rfl) ?_
            refine ax_getV hx hb hts hown hK hR fl_X7_13 (lk_35 hL) rfl dX7_whyNot_106 ?_
            refine lv_iload_n hx hb dX7_whyNot_109 rfl (lv_at hl 2 rfl) ?_
            obtain ⟨hq, h⟩ := ax_ck h
            refine ax_iald hx hb hK hR (lk_37 hL) hq dX7_whyNot_110 ?_
            refine lv_bipush (v := 99) hx hb dX7_whyNot_111 (by decide) ?_
            refine lv_icmp_ne (tgt := 120) hx hb dX7_whyNot_113 (by decide) (fun q => ?_) (fun q => ?_)
            · have h := ax_iN q h
              refine lv_iconst (v := 0) hx hb dX7_whyNot_120 (by decide) ?_
              cases h
              exact ax_iret C hc hz hR hS rfl rfl dX7_whyNot_121
            · have h := ax_ip q h
              refine lv_iconst (v := 3) hx hb dX7_whyNot_116 (by decide) ?_
              refine lv_goto (tgt := 121) hx hb dX7_whyNot_117 (by decide) ?_
              cases h
              exact ax_iret C hc hz hR hS rfl rfl dX7_whyNot_121
          · have h := ax_iN q1 h
            by_cases q2 : x1 = 2
            · have h := ax_ip q2 h
              refine lv_tableIn (off := 77) (tgt := 122) hx hb dX7_whyNot_45 (by rw [q2]; decide) (by rw [q2]; decide) (by rw [q2]; rfl) (by decide) ?_
              refine lv_aload_n hx hb dX7_whyNot_122 rfl (lv_at hl 0 rfl) ?_
              refine ax_getV hx hb hts hown hK hR fl_X7_13 (lk_35 hL) rfl dX7_whyNot_123 ?_
              refine lv_iload_n hx hb dX7_whyNot_126 rfl (lv_at hl 2 rfl) ?_
              obtain ⟨hq, h⟩ := ax_ck h
              refine ax_iald hx hb hK hR (lk_37 hL) hq dX7_whyNot_127 ?_
              refine lv_if_ne (tgt := 135) hx hb dX7_whyNot_128 (by decide) (fun q => ?_) (fun q => ?_)
              · have h := ax_iN q h
                refine lv_iconst (v := 0) hx hb dX7_whyNot_135 (by decide) ?_
                cases h
                exact ax_iret C hc hz hR hS rfl rfl dX7_whyNot_136
              · have h := ax_ip q h
                refine lv_iconst (v := 3) hx hb dX7_whyNot_131 (by decide) ?_
                refine lv_goto (tgt := 136) hx hb dX7_whyNot_132 (by decide) ?_
                cases h
                exact ax_iret C hc hz hR hS rfl rfl dX7_whyNot_136
            · have h := ax_iN q2 h
              by_cases q3 : x1 = 3
              · have h := ax_ip q3 h
                refine lv_tableIn (off := 92) (tgt := 137) hx hb dX7_whyNot_45 (by rw [q3]; decide) (by rw [q3]; decide) (by rw [q3]; rfl) (by decide) ?_
                refine lv_aload_n hx hb dX7_whyNot_137 rfl (lv_at hl 0 rfl) ?_
                refine ax_getV hx hb hts hown hK hR fl_X7_16 (lk_35 hL) rfl dX7_whyNot_138 ?_
                refine lv_iload_n hx hb dX7_whyNot_141 rfl (lv_at hl 2 rfl) ?_
                obtain ⟨hq, h⟩ := ax_ck h
                refine ax_iald hx hb hK hR (lk_38 hL) hq dX7_whyNot_142 ?_
                refine lv_bipush (v := 99) hx hb dX7_whyNot_143 (by decide) ?_
                refine lv_icmp_ne (tgt := 152) hx hb dX7_whyNot_145 (by decide) (fun q => ?_) (fun q => ?_)
                · have h := ax_iN q h
                  refine lv_iconst (v := 0) hx hb dX7_whyNot_152 (by decide) ?_
                  cases h
                  exact ax_iret C hc hz hR hS rfl rfl dX7_whyNot_153
                · have h := ax_ip q h
                  refine lv_iconst (v := 3) hx hb dX7_whyNot_148 (by decide) ?_
                  refine lv_goto (tgt := 153) hx hb dX7_whyNot_149 (by decide) ?_
                  cases h
                  exact ax_iret C hc hz hR hS rfl rfl dX7_whyNot_153
              · have h := ax_iN q3 h
                by_cases q4 : x1 = 4
                · have h := ax_ip q4 h
                  refine lv_tableIn (off := 161) (tgt := 206) hx hb dX7_whyNot_45 (by rw [q4]; decide) (by rw [q4]; decide) (by rw [q4]; rfl) (by decide) ?_
                  refine lv_iconst (v := 0) hx hb dX7_whyNot_206 (by decide) ?_
                  cases h
                  exact ax_iret C hc hz hR hS rfl rfl dX7_whyNot_207
                · have h := ax_iN q4 h
                  by_cases q5 : x1 = 5
                  · have h := ax_ip q5 h
                    refine lv_tableIn (off := 109) (tgt := 154) hx hb dX7_whyNot_45 (by rw [q5]; decide) (by rw [q5]; decide) (by rw [q5]; rfl) (by decide) ?_
                    refine lv_aload_n hx hb dX7_whyNot_154 rfl (lv_at hl 0 rfl) ?_
                    refine ax_getV hx hb hts hown hK hR fl_X7_22 (lk_35 hL) rfl dX7_whyNot_155 ?_
                    refine lv_bipush (v := 8) hx hb dX7_whyNot_158 (by decide) ?_
                    refine lv_iload_n hx hb dX7_whyNot_160 rfl (lv_at hl 2 rfl) ?_
                    refine lv_imul hx hb dX7_whyNot_161 ?_
                    refine lv_iload hx hb dX7_whyNot_162 (lv_at hl 4 rfl) ?_
                    refine lv_iadd hx hb dX7_whyNot_164 ?_
                    obtain ⟨hq, h⟩ := ax_ck h
                    refine ax_iald hx hb hK hR (lk_40 hL) hq dX7_whyNot_165 ?_
                    refine lv_if_lt (tgt := 173) hx hb dX7_whyNot_166 (by decide) (fun q => ?_) (fun q => ?_)
                    · have h := ax_ip q h
                      refine lv_aload_n hx hb dX7_whyNot_173 rfl (lv_at hl 0 rfl) ?_
                      refine ax_getV hx hb hts hown hK hR fl_X7_34 (lk_35 hL) rfl dX7_whyNot_174 ?_
                      refine lv_iload_n hx hb dX7_whyNot_177 rfl (lv_at hl 3 rfl) ?_
                      obtain ⟨hq, h⟩ := ax_ck h
                      refine ax_iald hx hb hK hR (lk_44 hL) hq dX7_whyNot_178 ?_
                      refine lv_bipush (v := 10) hx hb dX7_whyNot_179 (by decide) ?_
                      refine lv_icmp_ge (tgt := 188) hx hb dX7_whyNot_181 (by decide) (fun q => ?_) (fun q => ?_)
                      · have h := ax_ip q h
                        refine lv_iconst (v := 0) hx hb dX7_whyNot_188 (by decide) ?_
                        cases h
                        exact ax_iret C hc hz hR hS rfl rfl dX7_whyNot_189
                      · have h := ax_iN q h
                        refine lv_iconst (v := 5) hx hb dX7_whyNot_184 (by decide) ?_
                        refine lv_goto (tgt := 189) hx hb dX7_whyNot_185 (by decide) ?_
                        cases h
                        exact ax_iret C hc hz hR hS rfl rfl dX7_whyNot_189
                    · have h := ax_iN q h
                      refine lv_iconst (v := 4) hx hb dX7_whyNot_169 (by decide) ?_
                      refine lv_goto (tgt := 189) hx hb dX7_whyNot_170 (by decide) ?_
                      cases h
                      exact ax_iret C hc hz hR hS rfl rfl dX7_whyNot_189
                  · have h := ax_iN q5 h
                    by_cases q6 : x1 = 6
                    · have h := ax_ip q6 h
                      refine lv_tableIn (off := 145) (tgt := 190) hx hb dX7_whyNot_45 (by rw [q6]; decide) (by rw [q6]; decide) (by rw [q6]; rfl) (by decide) ?_
                      refine lv_aload_n hx hb dX7_whyNot_190 rfl (lv_at hl 0 rfl) ?_
                      refine lv_iload_n hx hb dX7_whyNot_191 rfl (lv_at hl 3 rfl) ?_
                      refine lv_iload_n hx hb dX7_whyNot_192 rfl (lv_at hl 2 rfl) ?_
                      obtain ⟨q193, hq, h⟩ := ax_bd h
                      refine ax_cV (rest := []) (st1 := [.int q193]) C hc hz hS hR (M_X7_heldBy hL hq) yk_X7_heldBy in_X7_heldBy se_X7_heldBy ml_X7_176 (lk_35 hL) rfl rfl (by decide) rfl hl.1 (Nat.le_of_ble_eq_true rfl) rfl rfl dX7_whyNot_193 (fun H locs hR hS => ?_)
                      refine lv_if_ne (tgt := 204) hx hb dX7_whyNot_196 (by decide) (fun q => ?_) (fun q => ?_)
                      · have h := ax_iN q h
                        refine lv_iconst (v := 0) hx hb dX7_whyNot_204 (by decide) ?_
                        cases h
                        exact ax_iret C hc hz hR hS rfl rfl dX7_whyNot_205
                      · have h := ax_ip q h
                        refine lv_bipush (v := 6) hx hb dX7_whyNot_199 (by decide) ?_
                        refine lv_goto (tgt := 205) hx hb dX7_whyNot_201 (by decide) ?_
                        cases h
                        exact ax_iret C hc hz hR hS rfl rfl dX7_whyNot_205
                    · have h := ax_iN q6 h
                      have e0 := ax_nt (z := 0) q0 (by decide)
                      have e1 := ax_nt (z := 1) q1 (by decide)
                      have e2 := ax_nt (z := 2) q2 (by decide)
                      have e3 := ax_nt (z := 3) q3 (by decide)
                      have e4 := ax_nt (z := 4) q4 (by decide)
                      have e5 := ax_nt (z := 5) q5 (by decide)
                      have e6 := ax_nt (z := 6) q6 (by decide)
                      refine lv_tableOut (tgt := 206) hx hb dX7_whyNot_45 (by omega) (by decide) ?_
                      refine lv_iconst (v := 0) hx hb dX7_whyNot_206 (by decide) ?_
                      cases h
                      exact ax_iret C hc hz hR hS rfl rfl dX7_whyNot_207
      · have h := ax_ip q h
        refine lv_iconst (v := 2) hx hb dX7_whyNot_42 (by decide) ?_
        cases h
        exact ax_iret C hc hz hR hS rfl rfl dX7_whyNot_43
    · have h := ax_ip q h
      refine lv_iconst (v := 1) hx hb dX7_whyNot_30 (by decide) ?_
      cases h
      exact ax_iret C hc hz hR hS rfl rfl dX7_whyNot_31
  · have h := ax_ip q h
    refine lv_aload_n hx hb dX7_whyNot_6 rfl (lv_at hl 0 rfl) ?_
    refine ax_getI hx hb hts hown hK hR fl_X7_173 (lk_35 hL) rfl dX7_whyNot_7 ?_
    refine lv_bipush (v := 99) hx hb dX7_whyNot_10 (by decide) ?_
    refine lv_icmp_ne (tgt := 20) hx hb dX7_whyNot_12 (by decide) (fun q => ?_) (fun q => ?_)
    · have h := ax_iN q h
      refine lv_iconst (v := 0) hx hb dX7_whyNot_20 (by decide) ?_
      cases h
      exact ax_iret C hc hz hR hS rfl rfl dX7_whyNot_21
    · have h := ax_ip q h
      refine lv_bipush (v := 7) hx hb dX7_whyNot_15 (by decide) ?_
      refine lv_goto (tgt := 21) hx hb dX7_whyNot_17 (by decide) ?_
      cases h
      exact ax_iret C hc hz hR hS rfl rfl dX7_whyNot_21
theorem M_X7_whyNot {l : Launch} {E : ax_E} {B : Nat} {lay : List ax_S} {I : ax_I} {J : ax_J} {x1 : Int32} {x2 : Int32} {x3 : Int32} {x4 : Int32} {rv : Int32} (hL : ax_LL B lay) (h : F_X7_whyNot I x1 x2 x3 x4 = some rv) : Cm l yX7_whyNot cX7_whyNot 5 (some .int) 8 E B [.ref (B + 35), .int x1, .int x2, .int x3, .int x4] lay I J (some (.int rv)) lay I J :=
  ax_met (by decide) (Nat.le_of_ble_eq_true rfl) (fun p e R s m args below meth c C => t_X7_whyNot_0 hL C _ _ _ _ _ h)
def f_X7_fall_53 (r9 : ax_I → Int32 → Int32 → Option (ax_I)) (I : ax_I) (x1 : Int32) (x2 : Int32) (s0 : Int32) (s1 : Int32) : Option ax_I :=
  if ax_in s1 4 = true then r9 (ax_u I 44 s1.toNatClampNeg s0) x1 (x2 + 1) else none
def f_X7_fall_9 : Nat → ax_I → Int32 → Int32 → Option ax_I
  | 0, _, _, _ => none
  | n + 1, I, x1, x2 => if 4 ≤ x2 then (F_X7_clearParts I x1).bind (fun q62 => some q62) else if ax_in x2 4 = true then (F_X7_heldBy I x2 x1).bind (fun q25 => (F_X7_ones I q25).bind (fun q28 => if ((I 44 x2.toNatClampNeg) + (10 * q28)) ≤ 999 then f_X7_fall_53 (f_X7_fall_9 n) I x1 x2 ((I 44 x2.toNatClampNeg) + (10 * q28)) x2 else f_X7_fall_53 (f_X7_fall_9 n) I x1 x2 999 x2)) else none
def F_X7_fall (I : ax_I) (x1 : Int32) : Option ax_I :=
  if ax_in x1 6 = true then f_X7_fall_9 ax_N (ax_u I 39 x1.toNatClampNeg 1) x1 0 else none
set_option maxRecDepth 100000 in
set_option maxHeartbeats 4000000 in
theorem t_X7_fall_53 {lay : List ax_S} {J : ax_J} {I9 : ax_I} (hL : ax_LL B lay) (C : ax_C p R s m args meth c yX7_fall cX7_fall 4 none 4 E mc ms) {r9 : ax_I → Int32 → Int32 → Option (ax_I)} (hr9 : ∀ (I : ax_I) (x1 : Int32) (x2 : Int32), r9 I x1 x2 = some I9 → AM p l e R s m args below meth c E B lay.length (ax_z lay) 4 none lay I9 J lay I J 9 [(0, .ref (B + 35)), (1, .int x1), (2, .int x2)] []) : ∀ (I : ax_I) (x1 : Int32) (x2 : Int32) (s0 : Int32) (s1 : Int32), f_X7_fall_53 r9 I x1 x2 s0 s1 = some I9 → AM p l e R s m args below meth c E B lay.length (ax_z lay) 4 none lay I9 J lay I J 53 [(0, .ref (B + 35)), (1, .int x1), (2, .int x2)] [.int s0, .int s1, .ref (B + 44)] := by
  obtain ⟨hx, hb, hr, hml, hown, hts, hlocks, hK, hfr, hlo, hmc, hms, hnm⟩ := id C
  have hown : s.vm.findClass RX7 = some m.cls := hown
  intro I x1 x2 s0 s1 h H locs cells slots ls hc hz hR hS hl
  unfold f_X7_fall_53 at h
  obtain ⟨hq, h⟩ := ax_ck h
  refine ax_iast hx hb hK hR hS (lk_44 hL) hq dX7_fall_53 (fun H locs hR hS => ?_)
  refine lv_iinc (v := (x2 + 1)) (lv' := [(2, .int (x2 + 1)), (0, .ref (B + 35)), (1, .int x1)]) hx hb dX7_fall_54 hl (k := 2) rfl rfl (by decide) rfl (fun ls hl => ?_)
  refine lv_goto (tgt := 9) hx hb dX7_fall_57 (by decide) ?_
  exact hr9 _ _ _ h H locs cells slots ls hc hz hR hS (lv_sub hl [1, 2, 0] rfl)
set_option maxRecDepth 100000 in
set_option maxHeartbeats 4000000 in
theorem t_X7_fall_9 {lay : List ax_S} {J : ax_J} {I9 : ax_I} (hL : ax_LL B lay) (C : ax_C p R s m args meth c yX7_fall cX7_fall 4 none 4 E mc ms) : ∀ (n : Nat) (I : ax_I) (x1 : Int32) (x2 : Int32), f_X7_fall_9 n I x1 x2 = some I9 → AM p l e R s m args below meth c E B lay.length (ax_z lay) 4 none lay I9 J lay I J 9 [(0, .ref (B + 35)), (1, .int x1), (2, .int x2)] [] := by
  obtain ⟨hx, hb, hr, hml, hown, hts, hlocks, hK, hfr, hlo, hmc, hms, hnm⟩ := id C
  have hown : s.vm.findClass RX7 = some m.cls := hown
  intro n
  induction n with
  | zero => intro I x1 x2 h; cases h
  | succ n ih =>
    intro I x1 x2 h H locs cells slots ls hc hz hR hS hl
    rw [f_X7_fall_9] at h
    refine lv_iload_n hx hb dX7_fall_9 rfl (lv_at hl 2 rfl) ?_
    refine lv_iconst (v := 4) hx hb dX7_fall_10 (by decide) ?_
    refine lv_icmp_ge (tgt := 60) hx hb dX7_fall_11 (by decide) (fun q => ?_) (fun q => ?_)
    · have h := ax_ip q h
      refine lv_aload_n hx hb dX7_fall_60 rfl (lv_at hl 0 rfl) ?_
      refine lv_iload_n hx hb dX7_fall_61 rfl (lv_at hl 1 rfl) ?_
      obtain ⟨q62, hq, h⟩ := ax_bd h
      refine ax_cV (rest := []) (st1 := []) C hc hz hS hR (M_X7_clearParts hL hq) yk_X7_clearParts in_X7_clearParts se_X7_clearParts ml_X7_105 (lk_35 hL) rfl rfl (by decide) rfl hl.1 (Nat.le_of_ble_eq_true rfl) rfl rfl dX7_fall_62 (fun H locs hR hS => ?_)
      cases h
      exact ax_vret C hc hz hR hS dX7_fall_65
    · have h := ax_iN q h
      refine lv_aload_n hx hb dX7_fall_14 rfl (lv_at hl 0 rfl) ?_
      refine ax_getV hx hb hts hown hK hR fl_X7_34 (lk_35 hL) rfl dX7_fall_15 ?_
      refine lv_iload_n hx hb dX7_fall_18 rfl (lv_at hl 2 rfl) ?_
      obtain ⟨hq, h⟩ := ax_ck h
      refine ax_iald hx hb hK hR (lk_44 hL) hq dX7_fall_19 ?_
      refine lv_bipush (v := 10) hx hb dX7_fall_20 (by decide) ?_
      refine lv_aload_n hx hb dX7_fall_22 rfl (lv_at hl 0 rfl) ?_
      refine lv_iload_n hx hb dX7_fall_23 rfl (lv_at hl 2 rfl) ?_
      refine lv_iload_n hx hb dX7_fall_24 rfl (lv_at hl 1 rfl) ?_
      obtain ⟨q25, hq, h⟩ := ax_bd h
      refine ax_cV (rest := [.int 10, .int (I 44 x2.toNatClampNeg)]) (st1 := [.int q25, .int 10, .int (I 44 x2.toNatClampNeg)]) C hc hz hS hR (M_X7_heldBy hL hq) yk_X7_heldBy in_X7_heldBy se_X7_heldBy ml_X7_176 (lk_35 hL) rfl rfl (by decide) rfl hl.1 (Nat.le_of_ble_eq_true rfl) rfl rfl dX7_fall_25 (fun H locs hR hS => ?_)
      obtain ⟨q28, hq, h⟩ := ax_bd h
      refine ax_cS (rest := [.int 10, .int (I 44 x2.toNatClampNeg)]) (st1 := [.int q28, .int 10, .int (I 44 x2.toNatClampNeg)]) C hc hz hS hR (M_X7_ones  hq) yk_X7_ones st_X7_ones ml_X7_109 (by decide) rfl hl.1 (Nat.le_of_ble_eq_true rfl) rfl rfl dX7_fall_28 (fun H locs hR hS => ?_)
      refine lv_imul hx hb dX7_fall_31 ?_
      refine lv_iadd hx hb dX7_fall_32 ?_
      refine lv_istore_n (lv' := [(3, .int ((I 44 x2.toNatClampNeg) + (10 * q28))), (0, .ref (B + 35)), (1, .int x1), (2, .int x2)]) hx hb dX7_fall_33 rfl hl (by decide) rfl (fun ls hl => ?_)
      refine lv_aload_n hx hb dX7_fall_34 rfl (lv_at hl 1 rfl) ?_
      refine ax_getV hx hb hts hown hK hR fl_X7_34 (lk_35 hL) rfl dX7_fall_35 ?_
      refine lv_iload_n hx hb dX7_fall_38 rfl (lv_at hl 3 rfl) ?_
      refine lv_iload_n hx hb dX7_fall_39 rfl (lv_at hl 0 rfl) ?_
      refine lv_sipush (v := 999) hx hb dX7_fall_40 (by decide) ?_
      refine lv_icmp_le (tgt := 52) hx hb dX7_fall_43 (by decide) (fun q => ?_) (fun q => ?_)
      · have h := ax_ip q h
        refine lv_iload_n hx hb dX7_fall_52 rfl (lv_at hl 0 rfl) ?_
        exact t_X7_fall_53 hL C ih _ _ _ _ _ h H locs cells slots ls hc hz hR hS (lv_sub hl [1, 2, 3] rfl)
      · have h := ax_iN q h
        refine lv_sipush (v := 999) hx hb dX7_fall_46 (by decide) ?_
        refine lv_goto (tgt := 53) hx hb dX7_fall_49 (by decide) ?_
        exact t_X7_fall_53 hL C ih _ _ _ _ _ h H locs cells slots ls hc hz hR hS (lv_sub hl [1, 2, 3] rfl)
set_option maxRecDepth 100000 in
set_option maxHeartbeats 4000000 in
theorem t_X7_fall_0 {lay : List ax_S} {J : ax_J} {I9 : ax_I} (hL : ax_LL B lay) (C : ax_C p R s m args meth c yX7_fall cX7_fall 4 none 4 E mc ms) : ∀ (I : ax_I) (x1 : Int32), F_X7_fall I x1 = some I9 → AM p l e R s m args below meth c E B lay.length (ax_z lay) 4 none lay I9 J lay I J 0 [(0, .ref (B + 35)), (1, .int x1)] [] := by
  obtain ⟨hx, hb, hr, hml, hown, hts, hlocks, hK, hfr, hlo, hmc, hms, hnm⟩ := id C
  have hown : s.vm.findClass RX7 = some m.cls := hown
  intro I x1 h H locs cells slots ls hc hz hR hS hl
  unfold F_X7_fall at h
  refine lv_aload_n hx hb dX7_fall_0 rfl (lv_at hl 0 rfl) ?_
  refine ax_getV hx hb hts hown hK hR fl_X7_19 (lk_35 hL) rfl dX7_fall_1 ?_
  refine lv_iload_n hx hb dX7_fall_4 rfl (lv_at hl 1 rfl) ?_
  refine lv_iconst (v := 1) hx hb dX7_fall_5 (by decide) ?_
  obtain ⟨hq, h⟩ := ax_ck h
  refine ax_iast hx hb hK hR hS (lk_39 hL) hq dX7_fall_6 (fun H locs hR hS => ?_)
  refine lv_iconst (v := 0) hx hb dX7_fall_7 (by decide) ?_
  refine lv_istore_n (lv' := [(2, .int 0), (0, .ref (B + 35)), (1, .int x1)]) hx hb dX7_fall_8 rfl hl (by decide) rfl (fun ls hl => ?_)
  exact t_X7_fall_9 hL C  ax_N _ _ _ h H locs cells slots ls hc hz hR hS (lv_sub hl [1, 2, 0] rfl)
theorem M_X7_fall {l : Launch} {E : ax_E} {B : Nat} {lay : List ax_S} {I : ax_I} {J : ax_J} {x1 : Int32} {I9 : ax_I} (hL : ax_LL B lay) (h : F_X7_fall I x1 = some I9) : Cm l yX7_fall cX7_fall 4 none 4 E B [.ref (B + 35), .int x1] lay I J none lay I9 J :=
  ax_met (by decide) (Nat.le_of_ble_eq_true rfl) (fun p e R s m args below meth c C => t_X7_fall_0 hL C _ _ h)
def f_X7_feast_37 (I : ax_I) (s0 : Int32) : Option ax_I :=
  some (ax_u (ax_u I 35 25 s0) 35 26 (((ax_u I 35 25 s0) 35 26) + 1))
def F_X7_feast (I : ax_I) (x1 : Int32) : Option ax_I :=
  (F_X7_isSaint (ax_u I 35 24 ((I 35 24) + 1)) x1).bind (fun q12 => if q12 = 0 then (if 0 ≤ ((ax_u I 35 24 ((I 35 24) + 1)) 35 25) then f_X7_feast_37 (ax_u I 35 24 ((I 35 24) + 1)) ((ax_u I 35 24 ((I 35 24) + 1)) 35 25) else f_X7_feast_37 (ax_u I 35 24 ((I 35 24) + 1)) ((ax_u I 35 24 ((I 35 24) + 1)) 35 27)) else some (ax_u I 35 24 ((I 35 24) + 1)))
set_option maxRecDepth 100000 in
set_option maxHeartbeats 4000000 in
theorem t_X7_feast_37 {lay : List ax_S} {J : ax_J} {I9 : ax_I} (hL : ax_LL B lay) (C : ax_C p R s m args meth c yX7_feast cX7_feast 2 none 10 E mc ms) : ∀ (I : ax_I) (s0 : Int32), f_X7_feast_37 I s0 = some I9 → AM p l e R s m args below meth c E B lay.length (ax_z lay) 2 none lay I9 J lay I J 37 [(0, .ref (B + 35))] [.int s0, .ref (B + 35)] := by
  obtain ⟨hx, hb, hr, hml, hown, hts, hlocks, hK, hfr, hlo, hmc, hms, hnm⟩ := id C
  have hown : s.vm.findClass RX7 = some m.cls := hown
  intro I s0 h H locs cells slots ls hc hz hR hS hl
  unfold f_X7_feast_37 at h
  refine ax_putI hx hb hts hown hK hR hS fp_X7_185 (lk_35 hL) rfl rfl rfl dX7_feast_37 (fun H locs hR hS => ?_)
  refine lv_aload_n hx hb dX7_feast_40 rfl (lv_at hl 0 rfl) ?_
  refine lv_dup hx hb dX7_feast_41 rfl ?_
  refine ax_getI hx hb hts hown hK hR fl_X7_191 (lk_35 hL) rfl dX7_feast_42 ?_
  refine lv_iconst (v := 1) hx hb dX7_feast_45 (by decide) ?_
  refine lv_iadd hx hb dX7_feast_46 ?_
  refine ax_putI hx hb hts hown hK hR hS fp_X7_191 (lk_35 hL) rfl rfl rfl dX7_feast_47 (fun H locs hR hS => ?_)
  cases h
  exact ax_vret C hc hz hR hS dX7_feast_50
set_option maxRecDepth 100000 in
set_option maxHeartbeats 4000000 in
theorem t_X7_feast_0 {lay : List ax_S} {J : ax_J} {I9 : ax_I} (hL : ax_LL B lay) (C : ax_C p R s m args meth c yX7_feast cX7_feast 2 none 10 E mc ms) : ∀ (I : ax_I) (x1 : Int32), F_X7_feast I x1 = some I9 → AM p l e R s m args below meth c E B lay.length (ax_z lay) 2 none lay I9 J lay I J 0 [(0, .ref (B + 35)), (1, .int x1)] [] := by
  obtain ⟨hx, hb, hr, hml, hown, hts, hlocks, hK, hfr, hlo, hmc, hms, hnm⟩ := id C
  have hown : s.vm.findClass RX7 = some m.cls := hown
  intro I x1 h H locs cells slots ls hc hz hR hS hl
  unfold F_X7_feast at h
  refine lv_aload_n hx hb dX7_feast_0 rfl (lv_at hl 0 rfl) ?_
  refine lv_dup hx hb dX7_feast_1 rfl ?_
  refine ax_getI hx hb hts hown hK hR fl_X7_179 (lk_35 hL) rfl dX7_feast_2 ?_
  refine lv_iconst (v := 1) hx hb dX7_feast_5 (by decide) ?_
  refine lv_iadd hx hb dX7_feast_6 ?_
  refine ax_putI hx hb hts hown hK hR hS fp_X7_179 (lk_35 hL) rfl rfl rfl dX7_feast_7 (fun H locs hR hS => ?_)
  refine lv_aload_n hx hb dX7_feast_10 rfl (lv_at hl 0 rfl) ?_
  refine lv_iload_n hx hb dX7_feast_11 rfl (lv_at hl 1 rfl) ?_
  obtain ⟨q12, hq, h⟩ := ax_bd h
  refine ax_cV (rest := []) (st1 := [.int q12]) C hc hz hS hR (M_X7_isSaint hL hq) yk_X7_isSaint in_X7_isSaint se_X7_isSaint ml_X7_182 (lk_35 hL) rfl rfl (by decide) rfl hl.1 (Nat.le_of_ble_eq_true rfl) rfl rfl dX7_feast_12 (fun H locs hR hS => ?_)
  refine lv_if_ne (tgt := 50) hx hb dX7_feast_15 (by decide) (fun q => ?_) (fun q => ?_)
  · have h := ax_iN q h
    cases h
    exact ax_vret C hc hz hR hS dX7_feast_50
  · have h := ax_ip q h
    refine lv_aload_n hx hb dX7_feast_18 rfl (lv_at hl 0 rfl) ?_
    refine lv_aload_n hx hb dX7_feast_19 rfl (lv_at hl 0 rfl) ?_
    refine ax_getI hx hb hts hown hK hR fl_X7_185 (lk_35 hL) rfl dX7_feast_20 ?_
    refine lv_if_ge (tgt := 33) hx hb dX7_feast_23 (by decide) (fun q => ?_) (fun q => ?_)
    · have h := ax_ip q h
      refine lv_aload_n hx hb dX7_feast_33 rfl (lv_at hl 0 rfl) ?_
      refine ax_getI hx hb hts hown hK hR fl_X7_185 (lk_35 hL) rfl dX7_feast_34 ?_
      exact t_X7_feast_37 hL C  _ _ h H locs cells slots ls hc hz hR hS (lv_sub hl [0] rfl)
    · have h := ax_iN q h
      refine lv_aload_n hx hb dX7_feast_26 rfl (lv_at hl 0 rfl) ?_
      refine ax_getI hx hb hts hown hK hR fl_X7_188 (lk_35 hL) rfl dX7_feast_27 ?_
      refine lv_goto (tgt := 37) hx hb dX7_feast_30 (by decide) ?_
      exact t_X7_feast_37 hL C  _ _ h H locs cells slots ls hc hz hR hS (lv_sub hl [0] rfl)
theorem M_X7_feast {l : Launch} {E : ax_E} {B : Nat} {lay : List ax_S} {I : ax_I} {J : ax_J} {x1 : Int32} {I9 : ax_I} (hL : ax_LL B lay) (h : F_X7_feast I x1 = some I9) : Cm l yX7_feast cX7_feast 2 none 10 E B [.ref (B + 35), .int x1] lay I J none lay I9 J :=
  ax_met (by decide) (Nat.le_of_ble_eq_true rfl) (fun p e R s m args below meth c C => t_X7_feast_0 hL C _ _ h)
def f_X7_happen_128 (I : ax_I) : Option ax_I :=
  some I
def F_X7_happen (I : ax_I) (x1 : Int32) (x2 : Int32) (x3 : Int32) (x4 : Int32) : Option ax_I :=
  if x1 = 0 then (if ax_in x2 6 = true then if ax_in x2 6 = true then some (ax_u I 36 x2.toNatClampNeg ((I 36 x2.toNatClampNeg) + 1)) else none else none) else if x1 = 1 then (if ax_in x2 6 = true then if ax_in x2 6 = true then some (ax_u I 37 x2.toNatClampNeg ((I 37 x2.toNatClampNeg) + 1)) else none else none) else if x1 = 2 then (if ax_in x2 6 = true then if ax_in x2 6 = true then some (ax_u I 37 x2.toNatClampNeg ((I 37 x2.toNatClampNeg) - 1)) else none else none) else if x1 = 3 then (if ax_in x2 6 = true then if ax_in x2 6 = true then some (ax_u I 38 x2.toNatClampNeg ((I 38 x2.toNatClampNeg) + 1)) else none else none) else if x1 = 4 then (F_X7_fall I x2).bind (fun q98 => some q98) else if x1 = 5 then (if ax_in ((8 * x2) + x4) 48 = true then if ax_in x3 4 = true then if ax_in x3 4 = true then f_X7_happen_128 (ax_u (ax_u I 40 ((8 * x2) + x4).toNatClampNeg x3) 44 x3.toNatClampNeg (((ax_u I 40 ((8 * x2) + x4).toNatClampNeg x3) 44 x3.toNatClampNeg) - 10)) else none else none else none) else if x1 = 6 then (F_X7_feast I x2).bind (fun q133 => some q133) else some (ax_u I 35 1 ((I 35 1) + 1))
set_option maxRecDepth 100000 in
set_option maxHeartbeats 4000000 in
theorem t_X7_happen_128 {lay : List ax_S} {J : ax_J} {I9 : ax_I} (hL : ax_LL B lay) (C : ax_C p R s m args meth c yX7_happen cX7_happen 5 none 12 E mc ms) : ∀ (I : ax_I), f_X7_happen_128 I = some I9 → AM p l e R s m args below meth c E B lay.length (ax_z lay) 5 none lay I9 J lay I J 128 [] [] := by
  obtain ⟨hx, hb, hr, hml, hown, hts, hlocks, hK, hfr, hlo, hmc, hms, hnm⟩ := id C
  have hown : s.vm.findClass RX7 = some m.cls := hown
  intro I h H locs cells slots ls hc hz hR hS hl
  unfold f_X7_happen_128 at h
  refine lv_goto (tgt := 149) hx hb dX7_happen_128 (by decide) ?_
  cases h
  exact ax_vret C hc hz hR hS dX7_happen_149
set_option maxRecDepth 100000 in
set_option maxHeartbeats 4000000 in
theorem t_X7_happen_0 {lay : List ax_S} {J : ax_J} {I9 : ax_I} (hL : ax_LL B lay) (C : ax_C p R s m args meth c yX7_happen cX7_happen 5 none 12 E mc ms) : ∀ (I : ax_I) (x1 : Int32) (x2 : Int32) (x3 : Int32) (x4 : Int32), F_X7_happen I x1 x2 x3 x4 = some I9 → AM p l e R s m args below meth c E B lay.length (ax_z lay) 5 none lay I9 J lay I J 0 [(0, .ref (B + 35)), (1, .int x1), (2, .int x2), (3, .int x3), (4, .int x4)] [] := by
  obtain ⟨hx, hb, hr, hml, hown, hts, hlocks, hK, hfr, hlo, hmc, hms, hnm⟩ := id C
  have hown : s.vm.findClass RX7 = some m.cls := hown
  intro I x1 x2 x3 x4 h H locs cells slots ls hc hz hR hS hl
  unfold F_X7_happen at h
  refine lv_iload_n hx hb dX7_happen_0 rfl (lv_at hl 1 rfl) ?_
  by_cases q0 : x1 = 0
  · have h := ax_ip q0 h
    refine lv_tableIn (off := 43) (tgt := 44) hx hb dX7_happen_1 (by rw [q0]; decide) (by rw [q0]; decide) (by rw [q0]; rfl) (by decide) ?_
    refine lv_aload_n hx hb dX7_happen_44 rfl (lv_at hl 0 rfl) ?_
    refine ax_getV hx hb hts hown hK hR fl_X7_7 (lk_35 hL) rfl dX7_happen_45 ?_
    refine lv_iload_n hx hb dX7_happen_48 rfl (lv_at hl 2 rfl) ?_
    refine lv_dup2_11 hx hb dX7_happen_49 rfl rfl ?_
    obtain ⟨hq, h⟩ := ax_ck h
    refine ax_iald hx hb hK hR (lk_36 hL) hq dX7_happen_50 ?_
    refine lv_iconst (v := 1) hx hb dX7_happen_51 (by decide) ?_
    refine lv_iadd hx hb dX7_happen_52 ?_
    obtain ⟨hq, h⟩ := ax_ck h
    refine ax_iast hx hb hK hR hS (lk_36 hL) hq dX7_happen_53 (fun H locs hR hS => ?_)
    refine lv_goto (tgt := 149) hx hb dX7_happen_54 (by decide) ?_
    cases h
    exact ax_vret C hc hz hR hS dX7_happen_149
  · have h := ax_iN q0 h
    by_cases q1 : x1 = 1
    · have h := ax_ip q1 h
      refine lv_tableIn (off := 56) (tgt := 57) hx hb dX7_happen_1 (by rw [q1]; decide) (by rw [q1]; decide) (by rw [q1]; rfl) (by decide) ?_
      refine lv_aload_n hx hb dX7_happen_57 rfl (lv_at hl 0 rfl) ?_
      refine ax_getV hx hb hts hown hK hR fl_X7_13 (lk_35 hL) rfl dX7_happen_58 ?_
      refine lv_iload_n hx hb dX7_happen_61 rfl (lv_at hl 2 rfl) ?_
      refine lv_dup2_11 hx hb dX7_happen_62 rfl rfl ?_
      obtain ⟨hq, h⟩ := ax_ck h
      refine ax_iald hx hb hK hR (lk_37 hL) hq dX7_happen_63 ?_
      refine lv_iconst (v := 1) hx hb dX7_happen_64 (by decide) ?_
      refine lv_iadd hx hb dX7_happen_65 ?_
      obtain ⟨hq, h⟩ := ax_ck h
      refine ax_iast hx hb hK hR hS (lk_37 hL) hq dX7_happen_66 (fun H locs hR hS => ?_)
      refine lv_goto (tgt := 149) hx hb dX7_happen_67 (by decide) ?_
      cases h
      exact ax_vret C hc hz hR hS dX7_happen_149
    · have h := ax_iN q1 h
      by_cases q2 : x1 = 2
      · have h := ax_ip q2 h
        refine lv_tableIn (off := 69) (tgt := 70) hx hb dX7_happen_1 (by rw [q2]; decide) (by rw [q2]; decide) (by rw [q2]; rfl) (by decide) ?_
        refine lv_aload_n hx hb dX7_happen_70 rfl (lv_at hl 0 rfl) ?_
        refine ax_getV hx hb hts hown hK hR fl_X7_13 (lk_35 hL) rfl dX7_happen_71 ?_
        refine lv_iload_n hx hb dX7_happen_74 rfl (lv_at hl 2 rfl) ?_
        refine lv_dup2_11 hx hb dX7_happen_75 rfl rfl ?_
        obtain ⟨hq, h⟩ := ax_ck h
        refine ax_iald hx hb hK hR (lk_37 hL) hq dX7_happen_76 ?_
        refine lv_iconst (v := 1) hx hb dX7_happen_77 (by decide) ?_
        refine lv_isub hx hb dX7_happen_78 ?_
        obtain ⟨hq, h⟩ := ax_ck h
        refine ax_iast hx hb hK hR hS (lk_37 hL) hq dX7_happen_79 (fun H locs hR hS => ?_)
        refine lv_goto (tgt := 149) hx hb dX7_happen_80 (by decide) ?_
        cases h
        exact ax_vret C hc hz hR hS dX7_happen_149
      · have h := ax_iN q2 h
        by_cases q3 : x1 = 3
        · have h := ax_ip q3 h
          refine lv_tableIn (off := 82) (tgt := 83) hx hb dX7_happen_1 (by rw [q3]; decide) (by rw [q3]; decide) (by rw [q3]; rfl) (by decide) ?_
          refine lv_aload_n hx hb dX7_happen_83 rfl (lv_at hl 0 rfl) ?_
          refine ax_getV hx hb hts hown hK hR fl_X7_16 (lk_35 hL) rfl dX7_happen_84 ?_
          refine lv_iload_n hx hb dX7_happen_87 rfl (lv_at hl 2 rfl) ?_
          refine lv_dup2_11 hx hb dX7_happen_88 rfl rfl ?_
          obtain ⟨hq, h⟩ := ax_ck h
          refine ax_iald hx hb hK hR (lk_38 hL) hq dX7_happen_89 ?_
          refine lv_iconst (v := 1) hx hb dX7_happen_90 (by decide) ?_
          refine lv_iadd hx hb dX7_happen_91 ?_
          obtain ⟨hq, h⟩ := ax_ck h
          refine ax_iast hx hb hK hR hS (lk_38 hL) hq dX7_happen_92 (fun H locs hR hS => ?_)
          refine lv_goto (tgt := 149) hx hb dX7_happen_93 (by decide) ?_
          cases h
          exact ax_vret C hc hz hR hS dX7_happen_149
        · have h := ax_iN q3 h
          by_cases q4 : x1 = 4
          · have h := ax_ip q4 h
            refine lv_tableIn (off := 95) (tgt := 96) hx hb dX7_happen_1 (by rw [q4]; decide) (by rw [q4]; decide) (by rw [q4]; rfl) (by decide) ?_
            refine lv_aload_n hx hb dX7_happen_96 rfl (lv_at hl 0 rfl) ?_
            refine lv_iload_n hx hb dX7_happen_97 rfl (lv_at hl 2 rfl) ?_
            obtain ⟨q98, hq, h⟩ := ax_bd h
            refine ax_cV (rest := []) (st1 := []) C hc hz hS hR (M_X7_fall hL hq) yk_X7_fall in_X7_fall se_X7_fall ml_X7_194 (lk_35 hL) rfl rfl (by decide) rfl hl.1 (Nat.le_of_ble_eq_true rfl) rfl rfl dX7_happen_98 (fun H locs hR hS => ?_)
            refine lv_goto (tgt := 149) hx hb dX7_happen_101 (by decide) ?_
            cases h
            exact ax_vret C hc hz hR hS dX7_happen_149
          · have h := ax_iN q4 h
            by_cases q5 : x1 = 5
            · have h := ax_ip q5 h
              refine lv_tableIn (off := 103) (tgt := 104) hx hb dX7_happen_1 (by rw [q5]; decide) (by rw [q5]; decide) (by rw [q5]; rfl) (by decide) ?_
              refine lv_aload_n hx hb dX7_happen_104 rfl (lv_at hl 0 rfl) ?_
              refine ax_getV hx hb hts hown hK hR fl_X7_22 (lk_35 hL) rfl dX7_happen_105 ?_
              refine lv_bipush (v := 8) hx hb dX7_happen_108 (by decide) ?_
              refine lv_iload_n hx hb dX7_happen_110 rfl (lv_at hl 2 rfl) ?_
              refine lv_imul hx hb dX7_happen_111 ?_
              refine lv_iload hx hb dX7_happen_112 (lv_at hl 4 rfl) ?_
              refine lv_iadd hx hb dX7_happen_114 ?_
              refine lv_iload_n hx hb dX7_happen_115 rfl (lv_at hl 3 rfl) ?_
              obtain ⟨hq, h⟩ := ax_ck h
              refine ax_iast hx hb hK hR hS (lk_40 hL) hq dX7_happen_116 (fun H locs hR hS => ?_)
              refine lv_aload_n hx hb dX7_happen_117 rfl (lv_at hl 0 rfl) ?_
              refine ax_getV hx hb hts hown hK hR fl_X7_34 (lk_35 hL) rfl dX7_happen_118 ?_
              refine lv_iload_n hx hb dX7_happen_121 rfl (lv_at hl 3 rfl) ?_
              refine lv_dup2_11 hx hb dX7_happen_122 rfl rfl ?_
              obtain ⟨hq, h⟩ := ax_ck h
              refine ax_iald hx hb hK hR (lk_44 hL) hq dX7_happen_123 ?_
              refine lv_bipush (v := 10) hx hb dX7_happen_124 (by decide) ?_
              refine lv_isub hx hb dX7_happen_126 ?_
              obtain ⟨hq, h⟩ := ax_ck h
              refine ax_iast hx hb hK hR hS (lk_44 hL) hq dX7_happen_127 (fun H locs hR hS => ?_)
              exact t_X7_happen_128 hL C  _ h H locs cells slots ls hc hz hR hS (lv_sub hl [] rfl)
            · have h := ax_iN q5 h
              by_cases q6 : x1 = 6
              · have h := ax_ip q6 h
                refine lv_tableIn (off := 130) (tgt := 131) hx hb dX7_happen_1 (by rw [q6]; decide) (by rw [q6]; decide) (by rw [q6]; rfl) (by decide) ?_
                refine lv_aload_n hx hb dX7_happen_131 rfl (lv_at hl 0 rfl) ?_
                refine lv_iload_n hx hb dX7_happen_132 rfl (lv_at hl 2 rfl) ?_
                obtain ⟨q133, hq, h⟩ := ax_bd h
                refine ax_cV (rest := []) (st1 := []) C hc hz hS hR (M_X7_feast hL hq) yk_X7_feast in_X7_feast se_X7_feast ml_X7_197 (lk_35 hL) rfl rfl (by decide) rfl hl.1 (Nat.le_of_ble_eq_true rfl) rfl rfl dX7_happen_133 (fun H locs hR hS => ?_)
                refine lv_goto (tgt := 149) hx hb dX7_happen_136 (by decide) ?_
                cases h
                exact ax_vret C hc hz hR hS dX7_happen_149
              · have h := ax_iN q6 h
                have e0 := ax_nt (z := 0) q0 (by decide)
                have e1 := ax_nt (z := 1) q1 (by decide)
                have e2 := ax_nt (z := 2) q2 (by decide)
                have e3 := ax_nt (z := 3) q3 (by decide)
                have e4 := ax_nt (z := 4) q4 (by decide)
                have e5 := ax_nt (z := 5) q5 (by decide)
                have e6 := ax_nt (z := 6) q6 (by decide)
                refine lv_tableOut (tgt := 139) hx hb dX7_happen_1 (by omega) (by decide) ?_
                refine lv_aload_n hx hb dX7_happen_139 rfl (lv_at hl 0 rfl) ?_
                refine lv_dup hx hb dX7_happen_140 rfl ?_
                refine ax_getI hx hb hts hown hK hR fl_X7_173 (lk_35 hL) rfl dX7_happen_141 ?_
                refine lv_iconst (v := 1) hx hb dX7_happen_144 (by decide) ?_
                refine lv_iadd hx hb dX7_happen_145 ?_
                refine ax_putI hx hb hts hown hK hR hS fp_X7_173 (lk_35 hL) rfl rfl rfl dX7_happen_146 (fun H locs hR hS => ?_)
                cases h
                exact ax_vret C hc hz hR hS dX7_happen_149
theorem M_X7_happen {l : Launch} {E : ax_E} {B : Nat} {lay : List ax_S} {I : ax_I} {J : ax_J} {x1 : Int32} {x2 : Int32} {x3 : Int32} {x4 : Int32} {I9 : ax_I} (hL : ax_LL B lay) (h : F_X7_happen I x1 x2 x3 x4 = some I9) : Cm l yX7_happen cX7_happen 5 none 12 E B [.ref (B + 35), .int x1, .int x2, .int x3, .int x4] lay I J none lay I9 J :=
  ax_met (by decide) (Nat.le_of_ble_eq_true rfl) (fun p e R s m args below meth c C => t_X7_happen_0 hL C _ _ _ _ _ h)
end GEN
