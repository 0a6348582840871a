section GEN
variable {p : Program} {l : Launch} {e : Env} {R : Room} {s : State} {m : MethodId} {args : Array Value} {below : List Frame} {meth : Method} {c : Code} {E : ax_E} {B mc ms : Nat}
def f_X6_firstDay_64 (r3 : ax_I → Int32 → Int32 → Int32 → Int32 → Int32 → Option (Int32)) (I : ax_I) (x1 : Int32) (x2 : Int32) (x3 : Int32) (x4 : Int32) (x5 : Int32) : Option Int32 :=
  r3 I x1 x2 x3 x4 (x5 + 1)
def f_X6_firstDay_36 (r3 : ax_I → Int32 → Int32 → Int32 → Int32 → Int32 → Option (Int32)) (I : ax_I) (x1 : Int32) (x2 : Int32) (x3 : Int32) (x4 : Int32) (x5 : Int32) (s0 : Int32) : Option Int32 :=
  if s0 = 0 then f_X6_firstDay_64 r3 I x1 x2 x3 x4 x5 else (F_X6_mostWithDays I x2 (x3 ||| ((1 : Int32) <<< (x5 &&& 31)))).bind (fun q51 => if q51 = (x4 - 1) then some x5 else f_X6_firstDay_64 r3 I x1 x2 x3 x4 x5)
def f_X6_firstDay_3 : Nat → ax_I → Int32 → Int32 → Int32 → Int32 → Int32 → Option Int32
  | 0, _, _, _, _, _, _ => none
  | n + 1, I, x1, x2, x3, x4, x5 => if 12 ≤ x5 then some (-6) else if ax_in x1 6 = true then if (((I 8 x1.toNatClampNeg) &&& (x3 ^^^ (-1))) &&& ((1 : Int32) <<< (x5 &&& 31))) = 0 then f_X6_firstDay_36 (f_X6_firstDay_3 n) I x1 x2 x3 x4 x5 0 else f_X6_firstDay_36 (f_X6_firstDay_3 n) I x1 x2 x3 x4 x5 1 else none
def F_X6_firstDay (I : ax_I) (x1 : Int32) (x2 : Int32) (x3 : Int32) (x4 : Int32) : Option Int32 :=
  f_X6_firstDay_3 ax_N I x1 x2 x3 x4 0
set_option maxRecDepth 100000 in
set_option maxHeartbeats 4000000 in
theorem t_X6_firstDay_64 {lay : List ax_S} {J : ax_J} {rv : Int32} (hL : ax_LL B lay) (C : ax_C p R s m args meth c yX6_firstDay cX6_firstDay 7 (some .int) 6 E mc ms) {r3 : ax_I → Int32 → Int32 → Int32 → Int32 → Int32 → Option (Int32)} (hr3 : ∀ (I : ax_I) (x1 : Int32) (x2 : Int32) (x3 : Int32) (x4 : Int32) (x5 : Int32), r3 I x1 x2 x3 x4 x5 = some rv → AM p l e R s m args below meth c E B lay.length (ax_z lay) 7 (some (.int rv)) lay I J lay I J 3 [(0, .ref (B + 0)), (1, .int x1), (2, .int x2), (3, .int x3), (4, .int x4), (5, .int x5)] []) : ∀ (I : ax_I) (x1 : Int32) (x2 : Int32) (x3 : Int32) (x4 : Int32) (x5 : Int32), f_X6_firstDay_64 r3 I x1 x2 x3 x4 x5 = some rv → AM p l e R s m args below meth c E B lay.length (ax_z lay) 7 (some (.int rv)) lay I J lay I J 64 [(0, .ref (B + 0)), (1, .int x1), (2, .int x2), (3, .int x3), (4, .int x4), (5, .int x5)] [] := by
  obtain ⟨hx, hb, hr, hml, hown, hts, hlocks, hK, hfr, hlo, hmc, hms, hnm⟩ := id C
  have hown : s.vm.findClass RX6 = some m.cls := hown
  intro I x1 x2 x3 x4 x5 h H locs cells slots ls hc hz hR hS hl
  unfold f_X6_firstDay_64 at h
  refine lv_iinc (v := (x5 + 1)) (lv' := [(5, .int (x5 + 1)), (0, .ref (B + 0)), (1, .int x1), (2, .int x2), (3, .int x3), (4, .int x4)]) hx hb dX6_firstDay_64 hl (k := 5) rfl rfl (by decide) rfl (fun ls hl => ?_)
  refine lv_goto (tgt := 3) hx hb dX6_firstDay_67 (by decide) ?_
  exact hr3 _ _ _ _ _ _ h H locs cells slots ls hc hz hR hS (lv_sub hl [1, 2, 3, 4, 5, 0] rfl)
set_option maxRecDepth 100000 in
set_option maxHeartbeats 4000000 in
theorem t_X6_firstDay_36 {lay : List ax_S} {J : ax_J} {rv : Int32} (hL : ax_LL B lay) (C : ax_C p R s m args meth c yX6_firstDay cX6_firstDay 7 (some .int) 6 E mc ms) {r3 : ax_I → Int32 → Int32 → Int32 → Int32 → Int32 → Option (Int32)} (hr3 : ∀ (I : ax_I) (x1 : Int32) (x2 : Int32) (x3 : Int32) (x4 : Int32) (x5 : Int32), r3 I x1 x2 x3 x4 x5 = some rv → AM p l e R s m args below meth c E B lay.length (ax_z lay) 7 (some (.int rv)) lay I J lay I J 3 [(0, .ref (B + 0)), (1, .int x1), (2, .int x2), (3, .int x3), (4, .int x4), (5, .int x5)] []) : ∀ (I : ax_I) (x1 : Int32) (x2 : Int32) (x3 : Int32) (x4 : Int32) (x5 : Int32) (s0 : Int32), f_X6_firstDay_36 r3 I x1 x2 x3 x4 x5 s0 = some rv → AM p l e R s m args below meth c E B lay.length (ax_z lay) 7 (some (.int rv)) lay I J lay I J 36 [(0, .ref (B + 0)), (1, .int x1), (2, .int x2), (3, .int x3), (4, .int x4), (5, .int x5)] [.int s0] := by
  obtain ⟨hx, hb, hr, hml, hown, hts, hlocks, hK, hfr, hlo, hmc, hms, hnm⟩ := id C
  have hown : s.vm.findClass RX6 = some m.cls := hown
  intro I x1 x2 x3 x4 x5 s0 h H locs cells slots ls hc hz hR hS hl
  unfold f_X6_firstDay_36 at h
  refine lv_istore (lv' := [(6, .int s0), (0, .ref (B + 0)), (1, .int x1), (2, .int x2), (3, .int x3), (4, .int x4), (5, .int x5)]) hx hb dX6_firstDay_36 hl (by decide) rfl (fun ls hl => ?_)
  refine lv_iload hx hb dX6_firstDay_38 (lv_at hl 0 rfl) ?_
  refine lv_if_eq (tgt := 64) hx hb dX6_firstDay_40 (by decide) (fun q => ?_) (fun q => ?_)
  · have h := ax_ip q h
    exact t_X6_firstDay_64 hL C hr3 _ _ _ _ _ _ h H locs cells slots ls hc hz hR hS (lv_sub hl [1, 2, 3, 4, 5, 6] rfl)
  · have h := ax_iN q h
    refine lv_aload_n hx hb dX6_firstDay_43 rfl (lv_at hl 1 rfl) ?_
    refine lv_iload_n hx hb dX6_firstDay_44 rfl (lv_at hl 3 rfl) ?_
    refine lv_iload_n hx hb dX6_firstDay_45 rfl (lv_at hl 4 rfl) ?_
    refine lv_iconst (v := 1) hx hb dX6_firstDay_46 (by decide) ?_
    refine lv_iload hx hb dX6_firstDay_47 (lv_at hl 6 rfl) ?_
    refine lv_ishl hx hb dX6_firstDay_49 ?_
    refine lv_ior hx hb dX6_firstDay_50 ?_
    obtain ⟨q51, hq, h⟩ := ax_bd h
    refine ax_cV (rest := []) (st1 := [.int q51]) C hc hz hS hR (M_X6_mostWithDays hL hq) yk_X6_mostWithDays in_X6_mostWithDays se_X6_mostWithDays ml_X6_192 (lk_0 hL) rfl rfl (by decide) rfl hl.1 (Nat.le_of_ble_eq_true rfl) rfl rfl dX6_firstDay_51 (fun H locs hR hS => ?_)
    refine lv_iload hx hb dX6_firstDay_54 (lv_at hl 5 rfl) ?_
    refine lv_iconst (v := 1) hx hb dX6_firstDay_56 (by decide) ?_
    refine lv_isub hx hb dX6_firstDay_57 ?_
    refine lv_icmp_ne (tgt := 64) hx hb dX6_firstDay_58 (by decide) (fun q => ?_) (fun q => ?_)
    · have h := ax_iN q h
      exact t_X6_firstDay_64 hL C hr3 _ _ _ _ _ _ h H locs cells slots ls hc hz hR hS (lv_sub hl [1, 2, 3, 4, 5, 6] rfl)
    · have h := ax_ip q h
      refine lv_iload hx hb dX6_firstDay_61 (lv_at hl 6 rfl) ?_
      cases h
      exact ax_iret C hc hz hR hS rfl rfl dX6_firstDay_63
set_option maxRecDepth 100000 in
set_option maxHeartbeats 4000000 in
theorem t_X6_firstDay_3 {lay : List ax_S} {J : ax_J} {rv : Int32} (hL : ax_LL B lay) (C : ax_C p R s m args meth c yX6_firstDay cX6_firstDay 7 (some .int) 6 E mc ms) : ∀ (n : Nat) (I : ax_I) (x1 : Int32) (x2 : Int32) (x3 : Int32) (x4 : Int32) (x5 : Int32), f_X6_firstDay_3 n I x1 x2 x3 x4 x5 = some rv → AM p l e R s m args below meth c E B lay.length (ax_z lay) 7 (some (.int rv)) lay I J lay I J 3 [(0, .ref (B + 0)), (1, .int x1), (2, .int x2), (3, .int x3), (4, .int x4), (5, .int x5)] [] := by
  obtain ⟨hx, hb, hr, hml, hown, hts, hlocks, hK, hfr, hlo, hmc, hms, hnm⟩ := id C
  have hown : s.vm.findClass RX6 = some m.cls := hown
  intro n
  induction n with
  | zero => intro I x1 x2 x3 x4 x5 h; cases h
  | succ n ih =>
    intro I x1 x2 x3 x4 x5 h H locs cells slots ls hc hz hR hS hl
    rw [f_X6_firstDay_3] at h
    refine lv_iload hx hb dX6_firstDay_3 (lv_at hl 5 rfl) ?_
    refine lv_bipush (v := 12) hx hb dX6_firstDay_5 (by decide) ?_
    refine lv_icmp_ge (tgt := 70) hx hb dX6_firstDay_7 (by decide) (fun q => ?_) (fun q => ?_)
    · have h := ax_ip q h
      refine lv_bipush (v := (-6)) hx hb dX6_firstDay_70 (by decide) ?_
      cases h
      exact ax_iret C hc hz hR hS rfl rfl dX6_firstDay_72
    · have h := ax_iN q h
      refine lv_aload_n hx hb dX6_firstDay_10 rfl (lv_at hl 0 rfl) ?_
      refine ax_getV hx hb hts hown hK hR fl_X6_10 (lk_0 hL) rfl dX6_firstDay_11 ?_
      refine ax_getV hx hb hts hown hK hR fl_X6_91 (lk_1 hL) rfl dX6_firstDay_14 ?_
      refine lv_iload_n hx hb dX6_firstDay_17 rfl (lv_at hl 1 rfl) ?_
      obtain ⟨hq, h⟩ := ax_ck h
      refine ax_iald hx hb hK hR (lk_8 hL) hq dX6_firstDay_18 ?_
      refine lv_iload_n hx hb dX6_firstDay_19 rfl (lv_at hl 3 rfl) ?_
      refine lv_iconst (v := (-1)) hx hb dX6_firstDay_20 (by decide) ?_
      refine lv_ixor hx hb dX6_firstDay_21 ?_
      refine lv_iand hx hb dX6_firstDay_22 ?_
      refine lv_iconst (v := 1) hx hb dX6_firstDay_23 (by decide) ?_
      refine lv_iload hx hb dX6_firstDay_24 (lv_at hl 5 rfl) ?_
      refine lv_ishl hx hb dX6_firstDay_26 ?_
      refine lv_iand hx hb dX6_firstDay_27 ?_
      refine lv_if_eq (tgt := 35) hx hb dX6_firstDay_28 (by decide) (fun q => ?_) (fun q => ?_)
      · have h := ax_ip q h
        refine lv_iconst (v := 0) hx hb dX6_firstDay_35 (by decide) ?_
        exact t_X6_firstDay_36 hL C ih _ _ _ _ _ _ _ h H locs cells slots ls hc hz hR hS (lv_sub hl [0, 1, 2, 3, 4, 5] rfl)
      · have h := ax_iN q h
        refine lv_iconst (v := 1) hx hb dX6_firstDay_31 (by decide) ?_
        refine lv_goto (tgt := 36) hx hb dX6_firstDay_32 (by decide) ?_
        exact t_X6_firstDay_36 hL C ih _ _ _ _ _ _ _ h H locs cells slots ls hc hz hR hS (lv_sub hl [0, 1, 2, 3, 4, 5] rfl)
set_option maxRecDepth 100000 in
set_option maxHeartbeats 4000000 in
theorem t_X6_firstDay_0 {lay : List ax_S} {J : ax_J} {rv : Int32} (hL : ax_LL B lay) (C : ax_C p R s m args meth c yX6_firstDay cX6_firstDay 7 (some .int) 6 E mc ms) : ∀ (I : ax_I) (x1 : Int32) (x2 : Int32) (x3 : Int32) (x4 : Int32), F_X6_firstDay I x1 x2 x3 x4 = some rv → AM p l e R s m args below meth c E B lay.length (ax_z lay) 7 (some (.int rv)) lay I J lay I J 0 [(0, .ref (B + 0)), (1, .int x1), (2, .int x2), (3, .int x3), (4, .int x4)] [] := by
  obtain ⟨hx, hb, hr, hml, hown, hts, hlocks, hK, hfr, hlo, hmc, hms, hnm⟩ := id C
  have hown : s.vm.findClass RX6 = some m.cls := hown
  intro I x1 x2 x3 x4 h H locs cells slots ls hc hz hR hS hl
  unfold F_X6_firstDay at h
  refine lv_iconst (v := 0) hx hb dX6_firstDay_0 (by decide) ?_
  refine lv_istore (lv' := [(5, .int 0), (0, .ref (B + 0)), (1, .int x1), (2, .int x2), (3, .int x3), (4, .int x4)]) hx hb dX6_firstDay_1 hl (by decide) rfl (fun ls hl => ?_)
  exact t_X6_firstDay_3 hL C  ax_N _ _ _ _ _ _ h H locs cells slots ls hc hz hR hS (lv_sub hl [1, 2, 3, 4, 5, 0] rfl)
theorem M_X6_firstDay {l : Launch} {E : ax_E} {B : Nat} {lay : List ax_S} {I : ax_I} {J : ax_J} {x1 : Int32} {x2 : Int32} {x3 : Int32} {x4 : Int32} {rv : Int32} (hL : ax_LL B lay) (h : F_X6_firstDay I x1 x2 x3 x4 = some rv) : Cm l yX6_firstDay cX6_firstDay 7 (some .int) 6 E B [.ref (B + 0), .int x1, .int x2, .int x3, .int x4] lay I J (some (.int rv)) lay I J :=
  ax_met (by decide) (Nat.le_of_ble_eq_true rfl) (fun p e R s m args below meth c C => t_X6_firstDay_0 hL C _ _ _ _ _ h)
def f_X6_day_99 (r41 : ax_I → Int32 → Int32 → Int32 → Int32 → Int32 → Option (Int32)) (I : ax_I) (x1 : Int32) (x2 : Int32) (x3 : Int32) (x4 : Int32) (x5 : Int32) : Option Int32 :=
  r41 I x1 x2 x3 x4 (x5 + 1)
def f_X6_day_68 (r41 : ax_I → Int32 → Int32 → Int32 → Int32 → Int32 → Option (Int32)) (I : ax_I) (x1 : Int32) (x2 : Int32) (x3 : Int32) (x4 : Int32) (x5 : Int32) : Option Int32 :=
  (F_X6_firstDay I x5 x2 x4 x3).bind (fun q75 => if q75 = (-6) then f_X6_day_99 r41 I x1 x2 x3 x4 x5 else f_X6_day_99 r41 I x1 x2 (x3 + (-1)) (x4 ||| ((1 : Int32) <<< (q75 &&& 31))) x5)
def f_X6_day_41 : Nat → ax_I → Int32 → Int32 → Int32 → Int32 → Int32 → Option Int32
  | 0, _, _, _, _, _, _ => none
  | n + 1, I, x1, x2, x3, x4, x5 => if x1 ≤ x5 then (F_X6_firstDay I x1 (x2 &&& (((1 : Int32) <<< (x1 &&& 31)) ^^^ (-1))) x4 x3).bind (fun q117 => some q117) else (F_X2_isSaint I 1 x5).bind (fun q53 => if q53 = 0 then f_X6_day_99 (f_X6_day_41 n) I x1 x2 x3 x4 x5 else f_X6_day_68 (f_X6_day_41 n) I x1 (x2 &&& (((1 : Int32) <<< (x5 &&& 31)) ^^^ (-1))) x3 x4 x5)
def F_X6_day (I : ax_I) (x1 : Int32) : Option Int32 :=
  (F_X2_saintBits I 1).bind (fun q4 => (F_X6_mostWithDays I q4 0).bind (fun q11 => if x1 = (-1) then some q11 else (F_X2_isSaint I 1 x1).bind (fun q27 => if q27 = 0 then some (-1) else f_X6_day_41 ax_N I x1 q4 q11 0 0)))
set_option maxRecDepth 100000 in
set_option maxHeartbeats 4000000 in
theorem t_X6_day_99 {lay : List ax_S} {J : ax_J} {rv : Int32} (hL : ax_LL B lay) (C : ax_C p R s m args meth c yX6_day cX6_day 7 (some .int) 14 E mc ms) {r41 : ax_I → Int32 → Int32 → Int32 → Int32 → Int32 → Option (Int32)} (hr41 : ∀ (I : ax_I) (x1 : Int32) (x2 : Int32) (x3 : Int32) (x4 : Int32) (x5 : Int32), r41 I x1 x2 x3 x4 x5 = some rv → AM p l e R s m args below meth c E B lay.length (ax_z lay) 7 (some (.int rv)) lay I J lay I J 41 [(0, .ref (B + 0)), (1, .int x1), (2, .int x2), (3, .int x3), (4, .int x4), (5, .int x5)] []) : ∀ (I : ax_I) (x1 : Int32) (x2 : Int32) (x3 : Int32) (x4 : Int32) (x5 : Int32), f_X6_day_99 r41 I x1 x2 x3 x4 x5 = some rv → AM p l e R s m args below meth c E B lay.length (ax_z lay) 7 (some (.int rv)) lay I J lay I J 99 [(0, .ref (B + 0)), (1, .int x1), (2, .int x2), (3, .int x3), (4, .int x4), (5, .int x5)] [] := by
  obtain ⟨hx, hb, hr, hml, hown, hts, hlocks, hK, hfr, hlo, hmc, hms, hnm⟩ := id C
  have hown : s.vm.findClass RX6 = some m.cls := hown
  intro I x1 x2 x3 x4 x5 h H locs cells slots ls hc hz hR hS hl
  unfold f_X6_day_99 at h
  refine lv_iinc (v := (x5 + 1)) (lv' := [(5, .int (x5 + 1)), (0, .ref (B + 0)), (1, .int x1), (2, .int x2), (3, .int x3), (4, .int x4)]) hx hb dX6_day_99 hl (k := 5) rfl rfl (by decide) rfl (fun ls hl => ?_)
  refine lv_goto (tgt := 41) hx hb dX6_day_102 (by decide) ?_
  exact hr41 _ _ _ _ _ _ h H locs cells slots ls hc hz hR hS (lv_sub hl [1, 2, 3, 4, 5, 0] rfl)
set_option maxRecDepth 100000 in
set_option maxHeartbeats 4000000 in
theorem t_X6_day_68 {lay : List ax_S} {J : ax_J} {rv : Int32} (hL : ax_LL B lay) (C : ax_C p R s m args meth c yX6_day cX6_day 7 (some .int) 14 E mc ms) {r41 : ax_I → Int32 → Int32 → Int32 → Int32 → Int32 → Option (Int32)} (hr41 : ∀ (I : ax_I) (x1 : Int32) (x2 : Int32) (x3 : Int32) (x4 : Int32) (x5 : Int32), r41 I x1 x2 x3 x4 x5 = some rv → AM p l e R s m args below meth c E B lay.length (ax_z lay) 7 (some (.int rv)) lay I J lay I J 41 [(0, .ref (B + 0)), (1, .int x1), (2, .int x2), (3, .int x3), (4, .int x4), (5, .int x5)] []) : ∀ (I : ax_I) (x1 : Int32) (x2 : Int32) (x3 : Int32) (x4 : Int32) (x5 : Int32), f_X6_day_68 r41 I x1 x2 x3 x4 x5 = some rv → AM p l e R s m args below meth c E B lay.length (ax_z lay) 7 (some (.int rv)) lay I J lay I J 68 [(0, .ref (B + 0)), (1, .int x1), (2, .int x2), (3, .int x3), (4, .int x4), (5, .int x5)] [] := by
  obtain ⟨hx, hb, hr, hml, hown, hts, hlocks, hK, hfr, hlo, hmc, hms, hnm⟩ := id C
  have hown : s.vm.findClass RX6 = some m.cls := hown
  intro I x1 x2 x3 x4 x5 h H locs cells slots ls hc hz hR hS hl
  unfold f_X6_day_68 at h
  refine lv_aload_n hx hb dX6_day_68 rfl (lv_at hl 0 rfl) ?_
  refine lv_iload hx hb dX6_day_69 (lv_at hl 5 rfl) ?_
  refine lv_iload_n hx hb dX6_day_71 rfl (lv_at hl 2 rfl) ?_
  refine lv_iload hx hb dX6_day_72 (lv_at hl 4 rfl) ?_
  refine lv_iload_n hx hb dX6_day_74 rfl (lv_at hl 3 rfl) ?_
  obtain ⟨q75, hq, h⟩ := ax_bd h
  refine ax_cV (rest := []) (st1 := [.int q75]) C hc hz hS hR (M_X6_firstDay hL hq) yk_X6_firstDay in_X6_firstDay se_X6_firstDay ml_X6_195 (lk_0 hL) rfl rfl (by decide) rfl hl.1 (Nat.le_of_ble_eq_true rfl) rfl rfl dX6_day_75 (fun H locs hR hS => ?_)
  refine lv_istore (lv' := [(6, .int q75), (0, .ref (B + 0)), (1, .int x1), (2, .int x2), (3, .int x3), (4, .int x4), (5, .int x5)]) hx hb dX6_day_78 hl (by decide) rfl (fun ls hl => ?_)
  refine lv_iload hx hb dX6_day_80 (lv_at hl 0 rfl) ?_
  refine lv_bipush (v := (-6)) hx hb dX6_day_82 (by decide) ?_
  refine lv_icmp_eq (tgt := 99) hx hb dX6_day_84 (by decide) (fun q => ?_) (fun q => ?_)
  · have h := ax_ip q h
    exact t_X6_day_99 hL C hr41 _ _ _ _ _ _ h H locs cells slots ls hc hz hR hS (lv_sub hl [1, 2, 3, 4, 5, 6] rfl)
  · have h := ax_iN q h
    refine lv_iload hx hb dX6_day_87 (lv_at hl 5 rfl) ?_
    refine lv_iconst (v := 1) hx hb dX6_day_89 (by decide) ?_
    refine lv_iload hx hb dX6_day_90 (lv_at hl 0 rfl) ?_
    refine lv_ishl hx hb dX6_day_92 ?_
    refine lv_ior hx hb dX6_day_93 ?_
    refine lv_istore (lv' := [(4, .int (x4 ||| ((1 : Int32) <<< (q75 &&& 31)))), (6, .int q75), (0, .ref (B + 0)), (1, .int x1), (2, .int x2), (3, .int x3), (5, .int x5)]) hx hb dX6_day_94 hl (by decide) rfl (fun ls hl => ?_)
    refine lv_iinc (v := (x3 + (-1))) (lv' := [(3, .int (x3 + (-1))), (4, .int (x4 ||| ((1 : Int32) <<< (q75 &&& 31)))), (6, .int q75), (0, .ref (B + 0)), (1, .int x1), (2, .int x2), (5, .int x5)]) hx hb dX6_day_96 hl (k := 5) rfl rfl (by decide) rfl (fun ls hl => ?_)
    exact t_X6_day_99 hL C hr41 _ _ _ _ _ _ h H locs cells slots ls hc hz hR hS (lv_sub hl [3, 4, 5, 0, 1, 6] rfl)
set_option maxRecDepth 100000 in
set_option maxHeartbeats 4000000 in
theorem t_X6_day_41 {lay : List ax_S} {J : ax_J} {rv : Int32} (hL : ax_LL B lay) (C : ax_C p R s m args meth c yX6_day cX6_day 7 (some .int) 14 E mc ms) : ∀ (n : Nat) (I : ax_I) (x1 : Int32) (x2 : Int32) (x3 : Int32) (x4 : Int32) (x5 : Int32), f_X6_day_41 n I x1 x2 x3 x4 x5 = some rv → AM p l e R s m args below meth c E B lay.length (ax_z lay) 7 (some (.int rv)) lay I J lay I J 41 [(0, .ref (B + 0)), (1, .int x1), (2, .int x2), (3, .int x3), (4, .int x4), (5, .int x5)] [] := by
  obtain ⟨hx, hb, hr, hml, hown, hts, hlocks, hK, hfr, hlo, hmc, hms, hnm⟩ := id C
  have hown : s.vm.findClass RX6 = some m.cls := hown
  intro n
  induction n with
  | zero => intro I x1 x2 x3 x4 x5 h; cases h
  | succ n ih =>
    intro I x1 x2 x3 x4 x5 h H locs cells slots ls hc hz hR hS hl
    rw [f_X6_day_41] at h
    refine lv_iload hx hb dX6_day_41 (lv_at hl 5 rfl) ?_
    refine lv_iload_n hx hb dX6_day_43 rfl (lv_at hl 1 rfl) ?_
    refine lv_icmp_ge (tgt := 105) hx hb dX6_day_44 (by decide) (fun q => ?_) (fun q => ?_)
    · have h := ax_ip q h
      refine lv_aload_n hx hb dX6_day_105 rfl (lv_at hl 0 rfl) ?_
      refine lv_iload_n hx hb dX6_day_106 rfl (lv_at hl 1 rfl) ?_
      refine lv_iload_n hx hb dX6_day_107 rfl (lv_at hl 2 rfl) ?_
      refine lv_iconst (v := 1) hx hb dX6_day_108 (by decide) ?_
      refine lv_iload_n hx hb dX6_day_109 rfl (lv_at hl 1 rfl) ?_
      refine lv_ishl hx hb dX6_day_110 ?_
      refine lv_iconst (v := (-1)) hx hb dX6_day_111 (by decide) ?_
      refine lv_ixor hx hb dX6_day_112 ?_
      refine lv_iand hx hb dX6_day_113 ?_
      refine lv_iload hx hb dX6_day_114 (lv_at hl 4 rfl) ?_
      refine lv_iload_n hx hb dX6_day_116 rfl (lv_at hl 3 rfl) ?_
      obtain ⟨q117, hq, h⟩ := ax_bd h
      refine ax_cV (rest := []) (st1 := [.int q117]) C hc hz hS hR (M_X6_firstDay hL hq) yk_X6_firstDay in_X6_firstDay se_X6_firstDay ml_X6_195 (lk_0 hL) rfl rfl (by decide) rfl hl.1 (Nat.le_of_ble_eq_true rfl) rfl rfl dX6_day_117 (fun H locs hR hS => ?_)
      cases h
      exact ax_iret C hc hz hR hS rfl rfl dX6_day_120
    · have h := ax_iN q h
      refine lv_aload_n hx hb dX6_day_47 rfl (lv_at hl 0 rfl) ?_
      refine ax_getV hx hb hts hown hK hR fl_X6_10 (lk_0 hL) rfl dX6_day_48 ?_
      refine lv_iload hx hb dX6_day_51 (lv_at hl 5 rfl) ?_
      obtain ⟨q53, hq, h⟩ := ax_bd h
      refine ax_cV (rest := []) (st1 := [.int q53]) C hc hz hS hR (M_X2_isSaint (dio_at1 hL) hq) yk_X2_isSaint in_X2_isSaint se_X2_isSaint ml_X6_135 (lk_1 hL) rfl rfl (by decide) rfl hl.1 (Nat.le_of_ble_eq_true rfl) rfl rfl dX6_day_53 (fun H locs hR hS => ?_)
      refine lv_if_eq (tgt := 99) hx hb dX6_day_56 (by decide) (fun q => ?_) (fun q => ?_)
      · have h := ax_ip q h
        exact t_X6_day_99 hL C ih _ _ _ _ _ _ h H locs cells slots ls hc hz hR hS (lv_sub hl [0, 1, 2, 3, 4, 5] rfl)
      · have h := ax_iN q h
        refine lv_iload_n hx hb dX6_day_59 rfl (lv_at hl 2 rfl) ?_
        refine lv_iconst (v := 1) hx hb dX6_day_60 (by decide) ?_
        refine lv_iload hx hb dX6_day_61 (lv_at hl 5 rfl) ?_
        refine lv_ishl hx hb dX6_day_63 ?_
        refine lv_iconst (v := (-1)) hx hb dX6_day_64 (by decide) ?_
        refine lv_ixor hx hb dX6_day_65 ?_
        refine lv_iand hx hb dX6_day_66 ?_
        refine lv_istore_n (lv' := [(2, .int (x2 &&& (((1 : Int32) <<< (x5 &&& 31)) ^^^ (-1)))), (0, .ref (B + 0)), (1, .int x1), (3, .int x3), (4, .int x4), (5, .int x5)]) hx hb dX6_day_67 rfl hl (by decide) rfl (fun ls hl => ?_)
        exact t_X6_day_68 hL C ih _ _ _ _ _ _ h H locs cells slots ls hc hz hR hS (lv_sub hl [1, 2, 0, 3, 4, 5] rfl)
set_option maxRecDepth 100000 in
set_option maxHeartbeats 4000000 in
theorem t_X6_day_0 {lay : List ax_S} {J : ax_J} {rv : Int32} (hL : ax_LL B lay) (C : ax_C p R s m args meth c yX6_day cX6_day 7 (some .int) 14 E mc ms) : ∀ (I : ax_I) (x1 : Int32), F_X6_day I x1 = some rv → AM p l e R s m args below meth c E B lay.length (ax_z lay) 7 (some (.int rv)) lay I J lay I J 0 [(0, .ref (B + 0)), (1, .int x1)] [] := by
  obtain ⟨hx, hb, hr, hml, hown, hts, hlocks, hK, hfr, hlo, hmc, hms, hnm⟩ := id C
  have hown : s.vm.findClass RX6 = some m.cls := hown
  intro I x1 h H locs cells slots ls hc hz hR hS hl
  unfold F_X6_day at h
  refine lv_aload_n hx hb dX6_day_0 rfl (lv_at hl 0 rfl) ?_
  refine ax_getV hx hb hts hown hK hR fl_X6_10 (lk_0 hL) rfl dX6_day_1 ?_
  obtain ⟨q4, hq, h⟩ := ax_bd h
  refine ax_cV (rest := []) (st1 := [.int q4]) C hc hz hS hR (M_X2_saintBits (dio_at1 hL) hq) yk_X2_saintBits in_X2_saintBits se_X2_saintBits ml_X6_158 (lk_1 hL) rfl rfl (by decide) rfl hl.1 (Nat.le_of_ble_eq_true rfl) rfl rfl dX6_day_4 (fun H locs hR hS => ?_)
  refine lv_istore_n (lv' := [(2, .int q4), (0, .ref (B + 0)), (1, .int x1)]) hx hb dX6_day_7 rfl hl (by decide) rfl (fun ls hl => ?_)
  refine lv_aload_n hx hb dX6_day_8 rfl (lv_at hl 1 rfl) ?_
  refine lv_iload_n hx hb dX6_day_9 rfl (lv_at hl 0 rfl) ?_
  refine lv_iconst (v := 0) hx hb dX6_day_10 (by decide) ?_
  obtain ⟨q11, hq, h⟩ := ax_bd h
  refine ax_cV (rest := []) (st1 := [.int q11]) C hc hz hS hR (M_X6_mostWithDays hL hq) yk_X6_mostWithDays in_X6_mostWithDays se_X6_mostWithDays ml_X6_192 (lk_0 hL) rfl rfl (by decide) rfl hl.1 (Nat.le_of_ble_eq_true rfl) rfl rfl dX6_day_11 (fun H locs hR hS => ?_)
  refine lv_istore_n (lv' := [(3, .int q11), (2, .int q4), (0, .ref (B + 0)), (1, .int x1)]) hx hb dX6_day_14 rfl hl (by decide) rfl (fun ls hl => ?_)
  refine lv_iload_n hx hb dX6_day_15 rfl (lv_at hl 3 rfl) ?_
  refine lv_iconst (v := (-1)) hx hb dX6_day_16 (by decide) ?_
  refine lv_icmp_ne (tgt := 22) hx hb dX6_day_17 (by decide) (fun q => ?_) (fun q => ?_)
  · have h := ax_iN q h
    refine lv_aload_n hx hb dX6_day_22 rfl (lv_at hl 2 rfl) ?_
    refine ax_getV hx hb hts hown hK hR fl_X6_10 (lk_0 hL) rfl dX6_day_23 ?_
    refine lv_iload_n hx hb dX6_day_26 rfl (lv_at hl 3 rfl) ?_
    obtain ⟨q27, hq, h⟩ := ax_bd h
    refine ax_cV (rest := []) (st1 := [.int q27]) C hc hz hS hR (M_X2_isSaint (dio_at1 hL) hq) yk_X2_isSaint in_X2_isSaint se_X2_isSaint ml_X6_135 (lk_1 hL) rfl rfl (by decide) rfl hl.1 (Nat.le_of_ble_eq_true rfl) rfl rfl dX6_day_27 (fun H locs hR hS => ?_)
    refine lv_if_ne (tgt := 35) hx hb dX6_day_30 (by decide) (fun q => ?_) (fun q => ?_)
    · have h := ax_iN q h
      refine lv_iconst (v := 0) hx hb dX6_day_35 (by decide) ?_
      refine lv_istore (lv' := [(4, .int 0), (3, .int q11), (2, .int q4), (0, .ref (B + 0)), (1, .int x1)]) hx hb dX6_day_36 hl (by decide) rfl (fun ls hl => ?_)
      refine lv_iconst (v := 0) hx hb dX6_day_38 (by decide) ?_
      refine lv_istore (lv' := [(5, .int 0), (4, .int 0), (3, .int q11), (2, .int q4), (0, .ref (B + 0)), (1, .int x1)]) hx hb dX6_day_39 hl (by decide) rfl (fun ls hl => ?_)
      exact t_X6_day_41 hL C  ax_N _ _ _ _ _ _ h H locs cells slots ls hc hz hR hS (lv_sub hl [4, 5, 3, 2, 1, 0] rfl)
    · have h := ax_ip q h
      refine lv_iconst (v := (-1)) hx hb dX6_day_33 (by decide) ?_
      cases h
      exact ax_iret C hc hz hR hS rfl rfl dX6_day_34
  · have h := ax_ip q h
    refine lv_iload_n hx hb dX6_day_20 rfl (lv_at hl 0 rfl) ?_
    cases h
    exact ax_iret C hc hz hR hS rfl rfl dX6_day_21
theorem M_X6_day {l : Launch} {E : ax_E} {B : Nat} {lay : List ax_S} {I : ax_I} {J : ax_J} {x1 : Int32} {rv : Int32} (hL : ax_LL B lay) (h : F_X6_day I x1 = some rv) : Cm l yX6_day cX6_day 7 (some .int) 14 E B [.ref (B + 0), .int x1] lay I J (some (.int rv)) lay I J :=
  ax_met (by decide) (Nat.le_of_ble_eq_true rfl) (fun p e R s m args below meth c C => t_X6_day_0 hL C _ _ h)
def f_X6_endsAsSaint_12 (rc : Nat → Int32 → Int32 → Int32 → Int32 → Int32 → Option Int32) (b : Nat) (I : ax_I) (x1 : Int32) (x2 : Int32) (x3 : Int32) : Option Int32 :=
  (F_X2_wouldBeSaint I b x1 x2 x3).bind (fun q16 => if ax_bool q16 = true then some q16 else none)
def f_X6_endsAsSaint_0 (rc : Nat → Int32 → Int32 → Int32 → Int32 → Int32 → Option Int32) (I : ax_I) (b : Nat) (x1 : Int32) (x2 : Int32) (x3 : Int32) (x4 : Int32) (x5 : Int32) : Option Int32 :=
  if x4 ≤ 0 then f_X6_endsAsSaint_12 rc b I x1 x2 x3 else if x4 ≤ 12 then (if x5 = 0 then (rc b x1 x2 (x3 + 1) (x4 - 1) 1).bind (fun q80 => if q80 = 0 then some 0 else if x2 ≤ 0 then some 1 else (rc b x1 (x2 - 1) x3 (x4 - 1) 1).bind (fun q101 => if q101 = 0 then some 0 else some 1)) else (rc b x1 (x2 + 1) x3 (x4 - 1) 0).bind (fun q36 => if q36 = 0 then (if x3 ≤ 0 then some 0 else (rc b x1 x2 (x3 - 1) (x4 - 1) 0).bind (fun q57 => if q57 = 0 then some 0 else some 1)) else some 1)) else f_X6_endsAsSaint_12 rc b I x1 x2 x3
def F_X6_endsAsSaint : Nat → ax_I → Nat → Int32 → Int32 → Int32 → Int32 → Int32 → Option Int32
  | 0, _, _, _, _, _, _, _ => none
  | n + 1, I, b, x1, x2, x3, x4, x5 => f_X6_endsAsSaint_0 (fun b' x1' x2' x3' x4' x5' => F_X6_endsAsSaint n I b' x1' x2' x3' x4' x5') I b x1 x2 x3 x4 x5
set_option maxRecDepth 100000 in
set_option maxHeartbeats 4000000 in
theorem t_X6_endsAsSaint_12 {lay : List ax_S} {b : Nat} {rc : Nat → Int32 → Int32 → Int32 → Int32 → Int32 → Option Int32} {I : ax_I} {J : ax_J} {rv : Int32} (hDb : ax_Dio B lay b) {dn : Nat} (hrc : ∀  (x1' : Int32) (x2' : Int32) (x3' : Int32) (x4' : Int32) (x5' : Int32) (rv : Int32), rc b x1' x2' x3' x4' x5' = some rv → Cm l yX6_endsAsSaint cX6_endsAsSaint 6 (some .boolean) dn E B [.ref (B + b), .int x1', .int x2', .int x3', .int x4', .int x5'] lay I J (some (.int rv)) lay I J) (hdn : 10 ≤ dn) (C : ax_C p R s m args meth c yX6_endsAsSaint cX6_endsAsSaint 6 (some .boolean) (dn + 1) E mc ms) : ∀ (x1 : Int32) (x2 : Int32) (x3 : Int32), f_X6_endsAsSaint_12 rc b I x1 x2 x3 = some rv → AM p l e R s m args below meth c E B lay.length (ax_z lay) 6 (some (.int rv)) lay I J lay I J 12 [(0, .ref (B + b)), (1, .int x1), (2, .int x2), (3, .int x3)] [] := by
  obtain ⟨hx, hb, hr, hml, hown, hts, hlocks, hK, hfr, hlo, hmc, hms, hnm⟩ := id C
  have hown : s.vm.findClass RX6 = some m.cls := hown
  intro x1 x2 x3 h H locs cells slots ls hc hz hR hS hl
  unfold f_X6_endsAsSaint_12 at h
  refine lv_aload_n hx hb dX6_endsAsSaint_12 rfl (lv_at hl 0 rfl) ?_
  refine lv_iload_n hx hb dX6_endsAsSaint_13 rfl (lv_at hl 1 rfl) ?_
  refine lv_iload_n hx hb dX6_endsAsSaint_14 rfl (lv_at hl 2 rfl) ?_
  refine lv_iload_n hx hb dX6_endsAsSaint_15 rfl (lv_at hl 3 rfl) ?_
  obtain ⟨q16, hq, h⟩ := ax_bd h
  refine ax_cV (rest := []) (st1 := [.int q16]) C hc hz hS hR (M_X2_wouldBeSaint hDb hq) yk_X2_wouldBeSaint in_X2_wouldBeSaint se_X2_wouldBeSaint ml_X6_253 (dio_0 hDb) rfl rfl (by omega) rfl hl.1 (Nat.le_of_ble_eq_true rfl) rfl rfl dX6_endsAsSaint_16 (fun H locs hR hS => ?_)
  obtain ⟨hq, h⟩ := ax_ck h
  cases h
  exact ax_iret C hc hz hR hS rfl (ax_bool_n hq) dX6_endsAsSaint_19
set_option maxRecDepth 100000 in
set_option maxHeartbeats 4000000 in
theorem t_X6_endsAsSaint_0 {lay : List ax_S} {b : Nat} {rc : Nat → Int32 → Int32 → Int32 → Int32 → Int32 → Option Int32} {I : ax_I} {J : ax_J} {rv : Int32} (hDb : ax_Dio B lay b) {dn : Nat} (hrc : ∀  (x1' : Int32) (x2' : Int32) (x3' : Int32) (x4' : Int32) (x5' : Int32) (rv : Int32), rc b x1' x2' x3' x4' x5' = some rv → Cm l yX6_endsAsSaint cX6_endsAsSaint 6 (some .boolean) dn E B [.ref (B + b), .int x1', .int x2', .int x3', .int x4', .int x5'] lay I J (some (.int rv)) lay I J) (hdn : 10 ≤ dn) (C : ax_C p R s m args meth c yX6_endsAsSaint cX6_endsAsSaint 6 (some .boolean) (dn + 1) E mc ms) : ∀ (x1 : Int32) (x2 : Int32) (x3 : Int32) (x4 : Int32) (x5 : Int32), f_X6_endsAsSaint_0 rc I b x1 x2 x3 x4 x5 = some rv → AM p l e R s m args below meth c E B lay.length (ax_z lay) 6 (some (.int rv)) lay I J lay I J 0 [(0, .ref (B + b)), (1, .int x1), (2, .int x2), (3, .int x3), (4, .int x4), (5, .int x5)] [] := by
  obtain ⟨hx, hb, hr, hml, hown, hts, hlocks, hK, hfr, hlo, hmc, hms, hnm⟩ := id C
  have hown : s.vm.findClass RX6 = some m.cls := hown
  intro x1 x2 x3 x4 x5 h H locs cells slots ls hc hz hR hS hl
  unfold f_X6_endsAsSaint_0 at h
  refine lv_iload hx hb dX6_endsAsSaint_0 (lv_at hl 4 rfl) ?_
  refine lv_if_le (tgt := 12) hx hb dX6_endsAsSaint_2 (by decide) (fun q => ?_) (fun q => ?_)
  · have h := ax_ip q h
    exact t_X6_endsAsSaint_12 hDb hrc hdn C  _ _ _ h H locs cells slots ls hc hz hR hS (lv_sub hl [0, 1, 2, 3] rfl)
  · have h := ax_iN q h
    refine lv_iload hx hb dX6_endsAsSaint_5 (lv_at hl 4 rfl) ?_
    refine lv_bipush (v := 12) hx hb dX6_endsAsSaint_7 (by decide) ?_
    refine lv_icmp_le (tgt := 20) hx hb dX6_endsAsSaint_9 (by decide) (fun q => ?_) (fun q => ?_)
    · have h := ax_ip q h
      refine lv_iload hx hb dX6_endsAsSaint_20 (lv_at hl 5 rfl) ?_
      refine lv_if_eq (tgt := 69) hx hb dX6_endsAsSaint_22 (by decide) (fun q => ?_) (fun q => ?_)
      · have h := ax_ip q h
        refine lv_aload_n hx hb dX6_endsAsSaint_69 rfl (lv_at hl 0 rfl) ?_
        refine lv_iload_n hx hb dX6_endsAsSaint_70 rfl (lv_at hl 1 rfl) ?_
        refine lv_iload_n hx hb dX6_endsAsSaint_71 rfl (lv_at hl 2 rfl) ?_
        refine lv_iload_n hx hb dX6_endsAsSaint_72 rfl (lv_at hl 3 rfl) ?_
        refine lv_iconst (v := 1) hx hb dX6_endsAsSaint_73 (by decide) ?_
        refine lv_iadd hx hb dX6_endsAsSaint_74 ?_
        refine lv_iload hx hb dX6_endsAsSaint_75 (lv_at hl 4 rfl) ?_
        refine lv_iconst (v := 1) hx hb dX6_endsAsSaint_77 (by decide) ?_
        refine lv_isub hx hb dX6_endsAsSaint_78 ?_
        refine lv_iconst (v := 1) hx hb dX6_endsAsSaint_79 (by decide) ?_
        obtain ⟨q80, hq, h⟩ := ax_bd h
        refine ax_cS (rest := []) (st1 := [.int q80]) C hc hz hS hR (hrc _ _ _ _ _ _ hq) yk_X6_endsAsSaint st_X6_endsAsSaint ml_X6_199 (by omega) rfl hl.1 (Nat.le_of_ble_eq_true rfl) rfl rfl dX6_endsAsSaint_80 (fun H locs hR hS => ?_)
        refine lv_if_eq (tgt := 111) hx hb dX6_endsAsSaint_83 (by decide) (fun q => ?_) (fun q => ?_)
        · have h := ax_ip q h
          refine lv_iconst (v := 0) hx hb dX6_endsAsSaint_111 (by decide) ?_
          cases h
          exact ax_iret C hc hz hR hS rfl ax_bool_n0 dX6_endsAsSaint_112
        · have h := ax_iN q h
          refine lv_iload_n hx hb dX6_endsAsSaint_86 rfl (lv_at hl 2 rfl) ?_
          refine lv_if_le (tgt := 107) hx hb dX6_endsAsSaint_87 (by decide) (fun q => ?_) (fun q => ?_)
          · have h := ax_ip q h
            refine lv_iconst (v := 1) hx hb dX6_endsAsSaint_107 (by decide) ?_
            refine lv_goto (tgt := 112) hx hb dX6_endsAsSaint_108 (by decide) ?_
            cases h
            exact ax_iret C hc hz hR hS rfl ax_bool_n1 dX6_endsAsSaint_112
          · have h := ax_iN q h
            refine lv_aload_n hx hb dX6_endsAsSaint_90 rfl (lv_at hl 0 rfl) ?_
            refine lv_iload_n hx hb dX6_endsAsSaint_91 rfl (lv_at hl 1 rfl) ?_
            refine lv_iload_n hx hb dX6_endsAsSaint_92 rfl (lv_at hl 2 rfl) ?_
            refine lv_iconst (v := 1) hx hb dX6_endsAsSaint_93 (by decide) ?_
            refine lv_isub hx hb dX6_endsAsSaint_94 ?_
            refine lv_iload_n hx hb dX6_endsAsSaint_95 rfl (lv_at hl 3 rfl) ?_
            refine lv_iload hx hb dX6_endsAsSaint_96 (lv_at hl 4 rfl) ?_
            refine lv_iconst (v := 1) hx hb dX6_endsAsSaint_98 (by decide) ?_
            refine lv_isub hx hb dX6_endsAsSaint_99 ?_
            refine lv_iconst (v := 1) hx hb dX6_endsAsSaint_100 (by decide) ?_
            obtain ⟨q101, hq, h⟩ := ax_bd h
            refine ax_cS (rest := []) (st1 := [.int q101]) C hc hz hS hR (hrc _ _ _ _ _ _ hq) yk_X6_endsAsSaint st_X6_endsAsSaint ml_X6_199 (by omega) rfl hl.1 (Nat.le_of_ble_eq_true rfl) rfl rfl dX6_endsAsSaint_101 (fun H locs hR hS => ?_)
            refine lv_if_eq (tgt := 111) hx hb dX6_endsAsSaint_104 (by decide) (fun q => ?_) (fun q => ?_)
            · have h := ax_ip q h
              refine lv_iconst (v := 0) hx hb dX6_endsAsSaint_111 (by decide) ?_
              cases h
              exact ax_iret C hc hz hR hS rfl ax_bool_n0 dX6_endsAsSaint_112
            · have h := ax_iN q h
              refine lv_iconst (v := 1) hx hb dX6_endsAsSaint_107 (by decide) ?_
              refine lv_goto (tgt := 112) hx hb dX6_endsAsSaint_108 (by decide) ?_
              cases h
              exact ax_iret C hc hz hR hS rfl ax_bool_n1 dX6_endsAsSaint_112
      · have h := ax_iN q h
        refine lv_aload_n hx hb dX6_endsAsSaint_25 rfl (lv_at hl 0 rfl) ?_
        refine lv_iload_n hx hb dX6_endsAsSaint_26 rfl (lv_at hl 1 rfl) ?_
        refine lv_iload_n hx hb dX6_endsAsSaint_27 rfl (lv_at hl 2 rfl) ?_
        refine lv_iconst (v := 1) hx hb dX6_endsAsSaint_28 (by decide) ?_
        refine lv_iadd hx hb dX6_endsAsSaint_29 ?_
        refine lv_iload_n hx hb dX6_endsAsSaint_30 rfl (lv_at hl 3 rfl) ?_
        refine lv_iload hx hb dX6_endsAsSaint_31 (lv_at hl 4 rfl) ?_
        refine lv_iconst (v := 1) hx hb dX6_endsAsSaint_33 (by decide) ?_
        refine lv_isub hx hb dX6_endsAsSaint_34 ?_
        refine lv_iconst (v := 0) hx hb dX6_endsAsSaint_35 (by decide) ?_
        obtain ⟨q36, hq, h⟩ := ax_bd h
        refine ax_cS (rest := []) (st1 := [.int q36]) C hc hz hS hR (hrc _ _ _ _ _ _ hq) yk_X6_endsAsSaint st_X6_endsAsSaint ml_X6_199 (by omega) rfl hl.1 (Nat.le_of_ble_eq_true rfl) rfl rfl dX6_endsAsSaint_36 (fun H locs hR hS => ?_)
        refine lv_if_ne (tgt := 63) hx hb dX6_endsAsSaint_39 (by decide) (fun q => ?_) (fun q => ?_)
        · have h := ax_iN q h
          refine lv_iconst (v := 1) hx hb dX6_endsAsSaint_63 (by decide) ?_
          refine lv_goto (tgt := 68) hx hb dX6_endsAsSaint_64 (by decide) ?_
          cases h
          exact ax_iret C hc hz hR hS rfl ax_bool_n1 dX6_endsAsSaint_68
        · have h := ax_ip q h
          refine lv_iload_n hx hb dX6_endsAsSaint_42 rfl (lv_at hl 3 rfl) ?_
          refine lv_if_le (tgt := 67) hx hb dX6_endsAsSaint_43 (by decide) (fun q => ?_) (fun q => ?_)
          · have h := ax_ip q h
            refine lv_iconst (v := 0) hx hb dX6_endsAsSaint_67 (by decide) ?_
            cases h
            exact ax_iret C hc hz hR hS rfl ax_bool_n0 dX6_endsAsSaint_68
          · have h := ax_iN q h
            refine lv_aload_n hx hb dX6_endsAsSaint_46 rfl (lv_at hl 0 rfl) ?_
            refine lv_iload_n hx hb dX6_endsAsSaint_47 rfl (lv_at hl 1 rfl) ?_
            refine lv_iload_n hx hb dX6_endsAsSaint_48 rfl (lv_at hl 2 rfl) ?_
            refine lv_iload_n hx hb dX6_endsAsSaint_49 rfl (lv_at hl 3 rfl) ?_
            refine lv_iconst (v := 1) hx hb dX6_endsAsSaint_50 (by decide) ?_
            refine lv_isub hx hb dX6_endsAsSaint_51 ?_
            refine lv_iload hx hb dX6_endsAsSaint_52 (lv_at hl 4 rfl) ?_
            refine lv_iconst (v := 1) hx hb dX6_endsAsSaint_54 (by decide) ?_
            refine lv_isub hx hb dX6_endsAsSaint_55 ?_
            refine lv_iconst (v := 0) hx hb dX6_endsAsSaint_56 (by decide) ?_
            obtain ⟨q57, hq, h⟩ := ax_bd h
            refine ax_cS (rest := []) (st1 := [.int q57]) C hc hz hS hR (hrc _ _ _ _ _ _ hq) yk_X6_endsAsSaint st_X6_endsAsSaint ml_X6_199 (by omega) rfl hl.1 (Nat.le_of_ble_eq_true rfl) rfl rfl dX6_endsAsSaint_57 (fun H locs hR hS => ?_)
            refine lv_if_eq (tgt := 67) hx hb dX6_endsAsSaint_60 (by decide) (fun q => ?_) (fun q => ?_)
            · have h := ax_ip q h
              refine lv_iconst (v := 0) hx hb dX6_endsAsSaint_67 (by decide) ?_
              cases h
              exact ax_iret C hc hz hR hS rfl ax_bool_n0 dX6_endsAsSaint_68
            · have h := ax_iN q h
              refine lv_iconst (v := 1) hx hb dX6_endsAsSaint_63 (by decide) ?_
              refine lv_goto (tgt := 68) hx hb dX6_endsAsSaint_64 (by decide) ?_
              cases h
              exact ax_iret C hc hz hR hS rfl ax_bool_n1 dX6_endsAsSaint_68
    · have h := ax_iN q h
      exact t_X6_endsAsSaint_12 hDb hrc hdn C  _ _ _ h H locs cells slots ls hc hz hR hS (lv_sub hl [0, 1, 2, 3] rfl)
theorem M_X6_endsAsSaint {l : Launch} {E : ax_E} {B : Nat} {lay : List ax_S} {I : ax_I} {J : ax_J} {b : Nat} (hDb : ax_Dio B lay b) : ∀ (n : Nat) (x1 : Int32) (x2 : Int32) (x3 : Int32) (x4 : Int32) (x5 : Int32) (rv : Int32), F_X6_endsAsSaint n I b x1 x2 x3 x4 x5 = some rv → Cm l yX6_endsAsSaint cX6_endsAsSaint 6 (some .boolean) (10 + n) E B [.ref (B + b), .int x1, .int x2, .int x3, .int x4, .int x5] lay I J (some (.int rv)) lay I J := by
  intro n
  induction n with
  | zero => intro x1 x2 x3 x4 x5 rv h; cases h
  | succ n ih =>
    intro x1 x2 x3 x4 x5 rv h
    exact ax_met (by decide) (Nat.le_of_ble_eq_true rfl) (fun p e R s m args below meth c C => t_X6_endsAsSaint_0 hDb (dn := 10 + n) ih (by omega) C _ _ _ _ _ h)
def f_X6_rivals_163 (I : ax_I) (x6 : Int32) (s0 : Int32) : Option Int32 :=
  some (x6 + s0)
def f_X6_rivals_162 (I : ax_I) (x6 : Int32) : Option Int32 :=
  f_X6_rivals_163 I x6 0
def f_X6_rivals_130 (I : ax_I) (x1 : Int32) (x2 : Int32) (x4 : Int32) (x5 : Int32) (s0 : Int32) : Option Int32 :=
  if x5 ≤ 0 then f_X6_rivals_162 I s0 else (F_X6_endsAsSaint ax_D I 1 x1 x4 (x5 - 1) (x2 - 1) 0).bind (fun q152 => if q152 = 0 then f_X6_rivals_162 I s0 else f_X6_rivals_163 I s0 1)
def F_X6_rivals (I : ax_I) (x1 : Int32) (x2 : Int32) (x3 : Int32) : Option Int32 :=
  (F_X2_isThere I 1 x1).bind (fun q5 => if q5 = 0 then some (-1) else (F_X6_within I x2 0 12).bind (fun q17 => if q17 = 0 then some (-2) else (F_X6_within I x3 0 1).bind (fun q26 => if q26 = 0 then some (-2) else (F_X2_isFallen I 1 x1).bind (fun q40 => if q40 = 0 then (if ax_in x1 6 = true then if ax_in x1 6 = true then if x3 = 0 then (F_X6_endsAsSaint ax_D I 1 x1 (I 2 x1.toNatClampNeg) (I 3 x1.toNatClampNeg) x2 1).bind (fun q86 => if q86 = 0 then some 0 else some 1) else if x2 = 0 then some 0 else (F_X6_endsAsSaint ax_D I 1 x1 ((I 2 x1.toNatClampNeg) + 1) (I 3 x1.toNatClampNeg) (x2 - 1) 0).bind (fun q119 => if q119 = 0 then f_X6_rivals_130 I x1 x2 (I 2 x1.toNatClampNeg) (I 3 x1.toNatClampNeg) 0 else f_X6_rivals_130 I x1 x2 (I 2 x1.toNatClampNeg) (I 3 x1.toNatClampNeg) 1) else none else none) else some (-3)))))
set_option maxRecDepth 100000 in
set_option maxHeartbeats 4000000 in
theorem t_X6_rivals_163 {lay : List ax_S} {J : ax_J} {rv : Int32} (hL : ax_LL B lay) (C : ax_C p R s m args meth c yX6_rivals cX6_rivals 8 (some .int) 32 E mc ms) : ∀ (I : ax_I) (x6 : Int32) (s0 : Int32), f_X6_rivals_163 I x6 s0 = some rv → AM p l e R s m args below meth c E B lay.length (ax_z lay) 8 (some (.int rv)) lay I J lay I J 163 [(6, .int x6)] [.int s0] := by
  obtain ⟨hx, hb, hr, hml, hown, hts, hlocks, hK, hfr, hlo, hmc, hms, hnm⟩ := id C
  have hown : s.vm.findClass RX6 = some m.cls := hown
  intro I x6 s0 h H locs cells slots ls hc hz hR hS hl
  unfold f_X6_rivals_163 at h
  refine lv_istore (lv' := [(7, .int s0), (6, .int x6)]) hx hb dX6_rivals_163 hl (by decide) rfl (fun ls hl => ?_)
  refine lv_iload hx hb dX6_rivals_165 (lv_at hl 1 rfl) ?_
  refine lv_iload hx hb dX6_rivals_167 (lv_at hl 0 rfl) ?_
  refine lv_iadd hx hb dX6_rivals_169 ?_
  cases h
  exact ax_iret C hc hz hR hS rfl rfl dX6_rivals_170
set_option maxRecDepth 100000 in
set_option maxHeartbeats 4000000 in
theorem t_X6_rivals_162 {lay : List ax_S} {J : ax_J} {rv : Int32} (hL : ax_LL B lay) (C : ax_C p R s m args meth c yX6_rivals cX6_rivals 8 (some .int) 32 E mc ms) : ∀ (I : ax_I) (x6 : Int32), f_X6_rivals_162 I x6 = some rv → AM p l e R s m args below meth c E B lay.length (ax_z lay) 8 (some (.int rv)) lay I J lay I J 162 [(6, .int x6)] [] := by
  obtain ⟨hx, hb, hr, hml, hown, hts, hlocks, hK, hfr, hlo, hmc, hms, hnm⟩ := id C
  have hown : s.vm.findClass RX6 = some m.cls := hown
  intro I x6 h H locs cells slots ls hc hz hR hS hl
  unfold f_X6_rivals_162 at h
  refine lv_iconst (v := 0) hx hb dX6_rivals_162 (by decide) ?_
  exact t_X6_rivals_163 hL C  _ _ _ h H locs cells slots ls hc hz hR hS (lv_sub hl [0] rfl)
set_option maxRecDepth 100000 in
set_option maxHeartbeats 4000000 in
theorem t_X6_rivals_130 {lay : List ax_S} {J : ax_J} {rv : Int32} (hL : ax_LL B lay) (C : ax_C p R s m args meth c yX6_rivals cX6_rivals 8 (some .int) 32 E mc ms) : ∀ (I : ax_I) (x1 : Int32) (x2 : Int32) (x4 : Int32) (x5 : Int32) (s0 : Int32), f_X6_rivals_130 I x1 x2 x4 x5 s0 = some rv → AM p l e R s m args below meth c E B lay.length (ax_z lay) 8 (some (.int rv)) lay I J lay I J 130 [(0, .ref (B + 0)), (1, .int x1), (2, .int x2), (4, .int x4), (5, .int x5)] [.int s0] := by
  obtain ⟨hx, hb, hr, hml, hown, hts, hlocks, hK, hfr, hlo, hmc, hms, hnm⟩ := id C
  have hown : s.vm.findClass RX6 = some m.cls := hown
  intro I x1 x2 x4 x5 s0 h H locs cells slots ls hc hz hR hS hl
  unfold f_X6_rivals_130 at h
  refine lv_istore (lv' := [(6, .int s0), (0, .ref (B + 0)), (1, .int x1), (2, .int x2), (4, .int x4), (5, .int x5)]) hx hb dX6_rivals_130 hl (by decide) rfl (fun ls hl => ?_)
  refine lv_iload hx hb dX6_rivals_132 (lv_at hl 5 rfl) ?_
  refine lv_if_le (tgt := 162) hx hb dX6_rivals_134 (by decide) (fun q => ?_) (fun q => ?_)
  · have h := ax_ip q h
    exact t_X6_rivals_162 hL C  _ _ h H locs cells slots ls hc hz hR hS (lv_sub hl [0] rfl)
  · have h := ax_iN q h
    refine lv_aload_n hx hb dX6_rivals_137 rfl (lv_at hl 1 rfl) ?_
    refine ax_getV hx hb hts hown hK hR fl_X6_10 (lk_0 hL) rfl dX6_rivals_138 ?_
    refine lv_iload_n hx hb dX6_rivals_141 rfl (lv_at hl 2 rfl) ?_
    refine lv_iload hx hb dX6_rivals_142 (lv_at hl 4 rfl) ?_
    refine lv_iload hx hb dX6_rivals_144 (lv_at hl 5 rfl) ?_
    refine lv_iconst (v := 1) hx hb dX6_rivals_146 (by decide) ?_
    refine lv_isub hx hb dX6_rivals_147 ?_
    refine lv_iload_n hx hb dX6_rivals_148 rfl (lv_at hl 3 rfl) ?_
    refine lv_iconst (v := 1) hx hb dX6_rivals_149 (by decide) ?_
    refine lv_isub hx hb dX6_rivals_150 ?_
    refine lv_iconst (v := 0) hx hb dX6_rivals_151 (by decide) ?_
    obtain ⟨q152, hq, h⟩ := ax_bd h
    refine ax_cS (rest := []) (st1 := [.int q152]) C hc hz hS hR (M_X6_endsAsSaint (dio_at1 hL) ax_D _ _ _ _ _ _ hq) yk_X6_endsAsSaint st_X6_endsAsSaint ml_X6_199 (by decide) rfl hl.1 (Nat.le_of_ble_eq_true rfl) rfl rfl dX6_rivals_152 (fun H locs hR hS => ?_)
    refine lv_if_eq (tgt := 162) hx hb dX6_rivals_155 (by decide) (fun q => ?_) (fun q => ?_)
    · have h := ax_ip q h
      exact t_X6_rivals_162 hL C  _ _ h H locs cells slots ls hc hz hR hS (lv_sub hl [0] rfl)
    · have h := ax_iN q h
      refine lv_iconst (v := 1) hx hb dX6_rivals_158 (by decide) ?_
      refine lv_goto (tgt := 163) hx hb dX6_rivals_159 (by decide) ?_
      exact t_X6_rivals_163 hL C  _ _ _ h H locs cells slots ls hc hz hR hS (lv_sub hl [0] rfl)
set_option maxRecDepth 100000 in
set_option maxHeartbeats 4000000 in
theorem t_X6_rivals_0 {lay : List ax_S} {J : ax_J} {rv : Int32} (hL : ax_LL B lay) (C : ax_C p R s m args meth c yX6_rivals cX6_rivals 8 (some .int) 32 E mc ms) : ∀ (I : ax_I) (x1 : Int32) (x2 : Int32) (x3 : Int32), F_X6_rivals I x1 x2 x3 = some rv → AM p l e R s m args below meth c E B lay.length (ax_z lay) 8 (some (.int rv)) lay I J lay I J 0 [(0, .ref (B + 0)), (1, .int x1), (2, .int x2), (3, .int x3)] [] := by
  obtain ⟨hx, hb, hr, hml, hown, hts, hlocks, hK, hfr, hlo, hmc, hms, hnm⟩ := id C
  have hown : s.vm.findClass RX6 = some m.cls := hown
  intro I x1 x2 x3 h H locs cells slots ls hc hz hR hS hl
  unfold F_X6_rivals at h
  refine lv_aload_n hx hb dX6_rivals_0 rfl (lv_at hl 0 rfl) ?_
  refine ax_getV hx hb hts hown hK hR fl_X6_10 (lk_0 hL) rfl dX6_rivals_1 ?_
  refine lv_iload_n hx hb dX6_rivals_4 rfl (lv_at hl 1 rfl) ?_
  obtain ⟨q5, hq, h⟩ := ax_bd h
  refine ax_cV (rest := []) (st1 := [.int q5]) C hc hz hS hR (M_X2_isThere (dio_at1 hL) hq) yk_X2_isThere in_X2_isThere se_X2_isThere ml_X6_76 (lk_1 hL) rfl rfl (by decide) rfl hl.1 (Nat.le_of_ble_eq_true rfl) rfl rfl dX6_rivals_5 (fun H locs hR hS => ?_)
  refine lv_if_ne (tgt := 13) hx hb dX6_rivals_8 (by decide) (fun q => ?_) (fun q => ?_)
  · have h := ax_iN q h
    refine lv_iload_n hx hb dX6_rivals_13 rfl (lv_at hl 2 rfl) ?_
    refine lv_iconst (v := 0) hx hb dX6_rivals_14 (by decide) ?_
    refine lv_bipush (v := 12) hx hb dX6_rivals_15 (by decide) ?_
    obtain ⟨q17, hq, h⟩ := ax_bd h
    refine ax_cS (rest := []) (st1 := [.int q17]) C hc hz hS hR (M_X6_within  hq) yk_X6_within st_X6_within ml_X6_58 (by decide) rfl hl.1 (Nat.le_of_ble_eq_true rfl) rfl rfl dX6_rivals_17 (fun H locs hR hS => ?_)
    refine lv_if_eq (tgt := 32) hx hb dX6_rivals_20 (by decide) (fun q => ?_) (fun q => ?_)
    · have h := ax_ip q h
      refine lv_bipush (v := (-2)) hx hb dX6_rivals_32 (by decide) ?_
      cases h
      exact ax_iret C hc hz hR hS rfl rfl dX6_rivals_34
    · have h := ax_iN q h
      refine lv_iload_n hx hb dX6_rivals_23 rfl (lv_at hl 3 rfl) ?_
      refine lv_iconst (v := 0) hx hb dX6_rivals_24 (by decide) ?_
      refine lv_iconst (v := 1) hx hb dX6_rivals_25 (by decide) ?_
      obtain ⟨q26, hq, h⟩ := ax_bd h
      refine ax_cS (rest := []) (st1 := [.int q26]) C hc hz hS hR (M_X6_within  hq) yk_X6_within st_X6_within ml_X6_58 (by decide) rfl hl.1 (Nat.le_of_ble_eq_true rfl) rfl rfl dX6_rivals_26 (fun H locs hR hS => ?_)
      refine lv_if_ne (tgt := 35) hx hb dX6_rivals_29 (by decide) (fun q => ?_) (fun q => ?_)
      · have h := ax_iN q h
        refine lv_aload_n hx hb dX6_rivals_35 rfl (lv_at hl 0 rfl) ?_
        refine ax_getV hx hb hts hown hK hR fl_X6_10 (lk_0 hL) rfl dX6_rivals_36 ?_
        refine lv_iload_n hx hb dX6_rivals_39 rfl (lv_at hl 1 rfl) ?_
        obtain ⟨q40, hq, h⟩ := ax_bd h
        refine ax_cV (rest := []) (st1 := [.int q40]) C hc hz hS hR (M_X2_isFallen (dio_at1 hL) hq) yk_X2_isFallen in_X2_isFallen se_X2_isFallen ml_X6_138 (lk_1 hL) rfl rfl (by decide) rfl hl.1 (Nat.le_of_ble_eq_true rfl) rfl rfl dX6_rivals_40 (fun H locs hR hS => ?_)
        refine lv_if_eq (tgt := 49) hx hb dX6_rivals_43 (by decide) (fun q => ?_) (fun q => ?_)
        · have h := ax_ip q h
          refine lv_aload_n hx hb dX6_rivals_49 rfl (lv_at hl 0 rfl) ?_
          refine ax_getV hx hb hts hown hK hR fl_X6_10 (lk_0 hL) rfl dX6_rivals_50 ?_
          refine ax_getV hx hb hts hown hK hR fl_X6_126 (lk_1 hL) rfl dX6_rivals_53 ?_
          refine lv_iload_n hx hb dX6_rivals_56 rfl (lv_at hl 1 rfl) ?_
          obtain ⟨hq, h⟩ := ax_ck h
          refine ax_iald hx hb hK hR (lk_2 hL) hq dX6_rivals_57 ?_
          refine lv_istore (lv' := [(4, .int (I 2 x1.toNatClampNeg)), (0, .ref (B + 0)), (1, .int x1), (2, .int x2), (3, .int x3)]) hx hb dX6_rivals_58 hl (by decide) rfl (fun ls hl => ?_)
          refine lv_aload_n hx hb dX6_rivals_60 rfl (lv_at hl 1 rfl) ?_
          refine ax_getV hx hb hts hown hK hR fl_X6_10 (lk_0 hL) rfl dX6_rivals_61 ?_
          refine ax_getV hx hb hts hown hK hR fl_X6_129 (lk_1 hL) rfl dX6_rivals_64 ?_
          refine lv_iload_n hx hb dX6_rivals_67 rfl (lv_at hl 2 rfl) ?_
          obtain ⟨hq, h⟩ := ax_ck h
          refine ax_iald hx hb hK hR (lk_3 hL) hq dX6_rivals_68 ?_
          refine lv_istore (lv' := [(5, .int (I 3 x1.toNatClampNeg)), (4, .int (I 2 x1.toNatClampNeg)), (0, .ref (B + 0)), (1, .int x1), (2, .int x2), (3, .int x3)]) hx hb dX6_rivals_69 hl (by decide) rfl (fun ls hl => ?_)
          refine lv_iload_n hx hb dX6_rivals_71 rfl (lv_at hl 5 rfl) ?_
          refine lv_if_ne (tgt := 98) hx hb dX6_rivals_72 (by decide) (fun q => ?_) (fun q => ?_)
          · have h := ax_iN q h
            refine lv_iload_n hx hb dX6_rivals_98 rfl (lv_at hl 4 rfl) ?_
            refine lv_if_ne (tgt := 104) hx hb dX6_rivals_99 (by decide) (fun q => ?_) (fun q => ?_)
            · have h := ax_iN q h
              refine lv_aload_n hx hb dX6_rivals_104 rfl (lv_at hl 2 rfl) ?_
              refine ax_getV hx hb hts hown hK hR fl_X6_10 (lk_0 hL) rfl dX6_rivals_105 ?_
              refine lv_iload_n hx hb dX6_rivals_108 rfl (lv_at hl 3 rfl) ?_
              refine lv_iload hx hb dX6_rivals_109 (lv_at hl 1 rfl) ?_
              refine lv_iconst (v := 1) hx hb dX6_rivals_111 (by decide) ?_
              refine lv_iadd hx hb dX6_rivals_112 ?_
              refine lv_iload hx hb dX6_rivals_113 (lv_at hl 0 rfl) ?_
              refine lv_iload_n hx hb dX6_rivals_115 rfl (lv_at hl 4 rfl) ?_
              refine lv_iconst (v := 1) hx hb dX6_rivals_116 (by decide) ?_
              refine lv_isub hx hb dX6_rivals_117 ?_
              refine lv_iconst (v := 0) hx hb dX6_rivals_118 (by decide) ?_
              obtain ⟨q119, hq, h⟩ := ax_bd h
              refine ax_cS (rest := []) (st1 := [.int q119]) C hc hz hS hR (M_X6_endsAsSaint (dio_at1 hL) ax_D _ _ _ _ _ _ hq) yk_X6_endsAsSaint st_X6_endsAsSaint ml_X6_199 (by decide) rfl hl.1 (Nat.le_of_ble_eq_true rfl) rfl rfl dX6_rivals_119 (fun H locs hR hS => ?_)
              refine lv_if_eq (tgt := 129) hx hb dX6_rivals_122 (by decide) (fun q => ?_) (fun q => ?_)
              · have h := ax_ip q h
                refine lv_iconst (v := 0) hx hb dX6_rivals_129 (by decide) ?_
                exact t_X6_rivals_130 hL C  _ _ _ _ _ _ h H locs cells slots ls hc hz hR hS (lv_sub hl [2, 3, 4, 1, 0] rfl)
              · have h := ax_iN q h
                refine lv_iconst (v := 1) hx hb dX6_rivals_125 (by decide) ?_
                refine lv_goto (tgt := 130) hx hb dX6_rivals_126 (by decide) ?_
                exact t_X6_rivals_130 hL C  _ _ _ _ _ _ h H locs cells slots ls hc hz hR hS (lv_sub hl [2, 3, 4, 1, 0] rfl)
            · have h := ax_ip q h
              refine lv_iconst (v := 0) hx hb dX6_rivals_102 (by decide) ?_
              cases h
              exact ax_iret C hc hz hR hS rfl rfl dX6_rivals_103
          · have h := ax_ip q h
            refine lv_aload_n hx hb dX6_rivals_75 rfl (lv_at hl 2 rfl) ?_
            refine ax_getV hx hb hts hown hK hR fl_X6_10 (lk_0 hL) rfl dX6_rivals_76 ?_
            refine lv_iload_n hx hb dX6_rivals_79 rfl (lv_at hl 3 rfl) ?_
            refine lv_iload hx hb dX6_rivals_80 (lv_at hl 1 rfl) ?_
            refine lv_iload hx hb dX6_rivals_82 (lv_at hl 0 rfl) ?_
            refine lv_iload_n hx hb dX6_rivals_84 rfl (lv_at hl 4 rfl) ?_
            refine lv_iconst (v := 1) hx hb dX6_rivals_85 (by decide) ?_
            obtain ⟨q86, hq, h⟩ := ax_bd h
            refine ax_cS (rest := []) (st1 := [.int q86]) C hc hz hS hR (M_X6_endsAsSaint (dio_at1 hL) ax_D _ _ _ _ _ _ hq) yk_X6_endsAsSaint st_X6_endsAsSaint ml_X6_199 (by decide) rfl hl.1 (Nat.le_of_ble_eq_true rfl) rfl rfl dX6_rivals_86 (fun H locs hR hS => ?_)
            refine lv_if_eq (tgt := 96) hx hb dX6_rivals_89 (by decide) (fun q => ?_) (fun q => ?_)
            · have h := ax_ip q h
              refine lv_iconst (v := 0) hx hb dX6_rivals_96 (by decide) ?_
              cases h
              exact ax_iret C hc hz hR hS rfl rfl dX6_rivals_97
            · have h := ax_iN q h
              refine lv_iconst (v := 1) hx hb dX6_rivals_92 (by decide) ?_
              refine lv_goto (tgt := 97) hx hb dX6_rivals_93 (by decide) ?_
              cases h
              exact ax_iret C hc hz hR hS rfl rfl dX6_rivals_97
        · have h := ax_iN q h
          refine lv_bipush (v := (-3)) hx hb dX6_rivals_46 (by decide) ?_
          cases h
          exact ax_iret C hc hz hR hS rfl rfl dX6_rivals_48
      · have h := ax_ip q h
        refine lv_bipush (v := (-2)) hx hb dX6_rivals_32 (by decide) ?_
        cases h
        exact ax_iret C hc hz hR hS rfl rfl dX6_rivals_34
  · have h := ax_ip q h
    refine lv_iconst (v := (-1)) hx hb dX6_rivals_11 (by decide) ?_
    cases h
    exact ax_iret C hc hz hR hS rfl rfl dX6_rivals_12
theorem M_X6_rivals {l : Launch} {E : ax_E} {B : Nat} {lay : List ax_S} {I : ax_I} {J : ax_J} {x1 : Int32} {x2 : Int32} {x3 : Int32} {rv : Int32} (hL : ax_LL B lay) (h : F_X6_rivals I x1 x2 x3 = some rv) : Cm l yX6_rivals cX6_rivals 8 (some .int) 32 E B [.ref (B + 0), .int x1, .int x2, .int x3] lay I J (some (.int rv)) lay I J :=
  ax_met (by decide) (Nat.le_of_ble_eq_true rfl) (fun p e R s m args below meth c C => t_X6_rivals_0 hL C _ _ _ _ h)
def f_X6_share_132 (r76 : ax_I → Int32 → Int32 → Int32 → Int32 → Int32 → Int32 → Int32 → Int32 → Option (Int32)) (I : ax_I) (x1 : Int32) (x2 : Int32) (x3 : Int32) (x4 : Int32) (x5 : Int32) (x6 : Int32) (x7 : Int32) (x8 : Int32) : Option Int32 :=
  r76 I x1 x2 x3 x4 x5 x6 x7 (x8 + 1)
def f_X6_share_129 (r76 : ax_I → Int32 → Int32 → Int32 → Int32 → Int32 → Int32 → Int32 → Int32 → Option (Int32)) (I : ax_I) (x1 : Int32) (x2 : Int32) (x3 : Int32) (x4 : Int32) (x5 : Int32) (x6 : Int32) (x7 : Int32) (x8 : Int32) : Option Int32 :=
  f_X6_share_132 r76 I x1 x2 x3 x4 x5 x6 (x7 + 1) x8
def f_X6_share_157 (I : ax_I) (s0 : Int32) (s1 : Int32) : Option Int32 :=
  some (s1 + s0)
def f_X6_share_76 : Nat → ax_I → Int32 → Int32 → Int32 → Int32 → Int32 → Int32 → Int32 → Int32 → Option Int32
  | 0, _, _, _, _, _, _, _, _, _ => none
  | n + 1, I, x1, x2, x3, x4, x5, x6, x7, x8 => if 4 ≤ x8 then (if ¬ (x4 = 0) then if x6 ≤ x7 then f_X6_share_157 I 0 ((x2 * x5) / x4) else f_X6_share_157 I 1 ((x2 * x5) / x4) else none) else (F_X2_partBits I 1 x1 x8).bind (fun q89 => (F_J6_bitCount_0f7a4 I q89).bind (fun q92 => if ¬ (x4 = 0) then if x5 < q92 then f_X6_share_129 (f_X6_share_76 n) I x1 x2 x3 x4 x5 (x6 - ((x2 * q92) / x4)) x7 x8 else if q92 = x5 then (if x3 ≤ x8 then f_X6_share_132 (f_X6_share_76 n) I x1 x2 x3 x4 x5 (x6 - ((x2 * q92) / x4)) x7 x8 else f_X6_share_129 (f_X6_share_76 n) I x1 x2 x3 x4 x5 (x6 - ((x2 * q92) / x4)) x7 x8) else f_X6_share_132 (f_X6_share_76 n) I x1 x2 x3 x4 x5 (x6 - ((x2 * q92) / x4)) x7 x8 else none))
def F_X6_share (I : ax_I) (x1 : Int32) (x2 : Int32) (x3 : Int32) : Option Int32 :=
  (F_X2_isThere I 1 x1).bind (fun q5 => if q5 = 0 then some (-1) else (F_X6_within I x3 0 3).bind (fun q14 => if q14 = 0 then some (-1) else (F_X6_within I x2 0 999).bind (fun q27 => if q27 = 0 then some (-2) else (F_X2_heldParts I 1 x1).bind (fun q41 => if q41 = 0 then some 0 else (F_X2_partBits I 1 x1 x3).bind (fun q59 => (F_J6_bitCount_0f7a4 I q59).bind (fun q62 => f_X6_share_76 ax_N I x1 x2 x3 q41 q62 x2 0 0))))))
set_option maxRecDepth 100000 in
set_option maxHeartbeats 4000000 in
theorem t_X6_share_132 {lay : List ax_S} {J : ax_J} {rv : Int32} (hL : ax_LL B lay) (C : ax_C p R s m args meth c yX6_share cX6_share 10 (some .int) 8 E mc ms) {r76 : ax_I → Int32 → Int32 → Int32 → Int32 → Int32 → Int32 → Int32 → Int32 → Option (Int32)} (hr76 : ∀ (I : ax_I) (x1 : Int32) (x2 : Int32) (x3 : Int32) (x4 : Int32) (x5 : Int32) (x6 : Int32) (x7 : Int32) (x8 : Int32), r76 I x1 x2 x3 x4 x5 x6 x7 x8 = some rv → AM p l e R s m args below meth c E B lay.length (ax_z lay) 10 (some (.int rv)) lay I J lay I J 76 [(0, .ref (B + 0)), (1, .int x1), (2, .int x2), (3, .int x3), (4, .int x4), (5, .int x5), (6, .int x6), (7, .int x7), (8, .int x8)] []) : ∀ (I : ax_I) (x1 : Int32) (x2 : Int32) (x3 : Int32) (x4 : Int32) (x5 : Int32) (x6 : Int32) (x7 : Int32) (x8 : Int32), f_X6_share_132 r76 I x1 x2 x3 x4 x5 x6 x7 x8 = some rv → AM p l e R s m args below meth c E B lay.length (ax_z lay) 10 (some (.int rv)) lay I J lay I J 132 [(0, .ref (B + 0)), (1, .int x1), (2, .int x2), (3, .int x3), (4, .int x4), (5, .int x5), (6, .int x6), (7, .int x7), (8, .int x8)] [] := by
  obtain ⟨hx, hb, hr, hml, hown, hts, hlocks, hK, hfr, hlo, hmc, hms, hnm⟩ := id C
  have hown : s.vm.findClass RX6 = some m.cls := hown
  intro I x1 x2 x3 x4 x5 x6 x7 x8 h H locs cells slots ls hc hz hR hS hl
  unfold f_X6_share_132 at h
  refine lv_iinc (v := (x8 + 1)) (lv' := [(8, .int (x8 + 1)), (0, .ref (B + 0)), (1, .int x1), (2, .int x2), (3, .int x3), (4, .int x4), (5, .int x5), (6, .int x6), (7, .int x7)]) hx hb dX6_share_132 hl (k := 8) rfl rfl (by decide) rfl (fun ls hl => ?_)
  refine lv_goto (tgt := 76) hx hb dX6_share_135 (by decide) ?_
  exact hr76 _ _ _ _ _ _ _ _ _ h H locs cells slots ls hc hz hR hS (lv_sub hl [1, 2, 3, 4, 5, 6, 7, 8, 0] rfl)
set_option maxRecDepth 100000 in
set_option maxHeartbeats 4000000 in
theorem t_X6_share_129 {lay : List ax_S} {J : ax_J} {rv : Int32} (hL : ax_LL B lay) (C : ax_C p R s m args meth c yX6_share cX6_share 10 (some .int) 8 E mc ms) {r76 : ax_I → Int32 → Int32 → Int32 → Int32 → Int32 → Int32 → Int32 → Int32 → Option (Int32)} (hr76 : ∀ (I : ax_I) (x1 : Int32) (x2 : Int32) (x3 : Int32) (x4 : Int32) (x5 : Int32) (x6 : Int32) (x7 : Int32) (x8 : Int32), r76 I x1 x2 x3 x4 x5 x6 x7 x8 = some rv → AM p l e R s m args below meth c E B lay.length (ax_z lay) 10 (some (.int rv)) lay I J lay I J 76 [(0, .ref (B + 0)), (1, .int x1), (2, .int x2), (3, .int x3), (4, .int x4), (5, .int x5), (6, .int x6), (7, .int x7), (8, .int x8)] []) : ∀ (I : ax_I) (x1 : Int32) (x2 : Int32) (x3 : Int32) (x4 : Int32) (x5 : Int32) (x6 : Int32) (x7 : Int32) (x8 : Int32), f_X6_share_129 r76 I x1 x2 x3 x4 x5 x6 x7 x8 = some rv → AM p l e R s m args below meth c E B lay.length (ax_z lay) 10 (some (.int rv)) lay I J lay I J 129 [(0, .ref (B + 0)), (1, .int x1), (2, .int x2), (3, .int x3), (4, .int x4), (5, .int x5), (6, .int x6), (7, .int x7), (8, .int x8)] [] := by
  obtain ⟨hx, hb, hr, hml, hown, hts, hlocks, hK, hfr, hlo, hmc, hms, hnm⟩ := id C
  have hown : s.vm.findClass RX6 = some m.cls := hown
  intro I x1 x2 x3 x4 x5 x6 x7 x8 h H locs cells slots ls hc hz hR hS hl
  unfold f_X6_share_129 at h
  refine lv_iinc (v := (x7 + 1)) (lv' := [(7, .int (x7 + 1)), (0, .ref (B + 0)), (1, .int x1), (2, .int x2), (3, .int x3), (4, .int x4), (5, .int x5), (6, .int x6), (8, .int x8)]) hx hb dX6_share_129 hl (k := 7) rfl rfl (by decide) rfl (fun ls hl => ?_)
  exact t_X6_share_132 hL C hr76 _ _ _ _ _ _ _ _ _ h H locs cells slots ls hc hz hR hS (lv_sub hl [1, 2, 3, 4, 5, 6, 7, 0, 8] rfl)
set_option maxRecDepth 100000 in
set_option maxHeartbeats 4000000 in
theorem t_X6_share_157 {lay : List ax_S} {J : ax_J} {rv : Int32} (hL : ax_LL B lay) (C : ax_C p R s m args meth c yX6_share cX6_share 10 (some .int) 8 E mc ms) : ∀ (I : ax_I) (s0 : Int32) (s1 : Int32), f_X6_share_157 I s0 s1 = some rv → AM p l e R s m args below meth c E B lay.length (ax_z lay) 10 (some (.int rv)) lay I J lay I J 157 [] [.int s0, .int s1] := by
  obtain ⟨hx, hb, hr, hml, hown, hts, hlocks, hK, hfr, hlo, hmc, hms, hnm⟩ := id C
  have hown : s.vm.findClass RX6 = some m.cls := hown
  intro I s0 s1 h H locs cells slots ls hc hz hR hS hl
  unfold f_X6_share_157 at h
  refine lv_iadd hx hb dX6_share_157 ?_
  cases h
  exact ax_iret C hc hz hR hS rfl rfl dX6_share_158
set_option maxRecDepth 100000 in
set_option maxHeartbeats 4000000 in
theorem t_X6_share_76 {lay : List ax_S} {J : ax_J} {rv : Int32} (hL : ax_LL B lay) (C : ax_C p R s m args meth c yX6_share cX6_share 10 (some .int) 8 E mc ms) : ∀ (n : Nat) (I : ax_I) (x1 : Int32) (x2 : Int32) (x3 : Int32) (x4 : Int32) (x5 : Int32) (x6 : Int32) (x7 : Int32) (x8 : Int32), f_X6_share_76 n I x1 x2 x3 x4 x5 x6 x7 x8 = some rv → AM p l e R s m args below meth c E B lay.length (ax_z lay) 10 (some (.int rv)) lay I J lay I J 76 [(0, .ref (B + 0)), (1, .int x1), (2, .int x2), (3, .int x3), (4, .int x4), (5, .int x5), (6, .int x6), (7, .int x7), (8, .int x8)] [] := by
  obtain ⟨hx, hb, hr, hml, hown, hts, hlocks, hK, hfr, hlo, hmc, hms, hnm⟩ := id C
  have hown : s.vm.findClass RX6 = some m.cls := hown
  intro n
  induction n with
  | zero => intro I x1 x2 x3 x4 x5 x6 x7 x8 h; cases h
  | succ n ih =>
    intro I x1 x2 x3 x4 x5 x6 x7 x8 h H locs cells slots ls hc hz hR hS hl
    rw [f_X6_share_76] at h
    refine lv_iload hx hb dX6_share_76 (lv_at hl 8 rfl) ?_
    refine lv_iconst (v := 4) hx hb dX6_share_78 (by decide) ?_
    refine lv_icmp_ge (tgt := 138) hx hb dX6_share_79 (by decide) (fun q => ?_) (fun q => ?_)
    · have h := ax_ip q h
      refine lv_iload_n hx hb dX6_share_138 rfl (lv_at hl 2 rfl) ?_
      refine lv_iload hx hb dX6_share_139 (lv_at hl 5 rfl) ?_
      refine lv_imul hx hb dX6_share_141 ?_
      refine lv_iload hx hb dX6_share_142 (lv_at hl 4 rfl) ?_
      obtain ⟨hq, h⟩ := ax_ck h
      refine lv_idiv hx hb dX6_share_144 hq ?_
      refine lv_iload hx hb dX6_share_145 (lv_at hl 7 rfl) ?_
      refine lv_iload hx hb dX6_share_147 (lv_at hl 6 rfl) ?_
      refine lv_icmp_ge (tgt := 156) hx hb dX6_share_149 (by decide) (fun q => ?_) (fun q => ?_)
      · have h := ax_ip q h
        refine lv_iconst (v := 0) hx hb dX6_share_156 (by decide) ?_
        exact t_X6_share_157 hL C  _ _ _ h H locs cells slots ls hc hz hR hS (lv_sub hl [] rfl)
      · have h := ax_iN q h
        refine lv_iconst (v := 1) hx hb dX6_share_152 (by decide) ?_
        refine lv_goto (tgt := 157) hx hb dX6_share_153 (by decide) ?_
        exact t_X6_share_157 hL C  _ _ _ h H locs cells slots ls hc hz hR hS (lv_sub hl [] rfl)
    · have h := ax_iN q h
      refine lv_aload_n hx hb dX6_share_82 rfl (lv_at hl 0 rfl) ?_
      refine ax_getV hx hb hts hown hK hR fl_X6_10 (lk_0 hL) rfl dX6_share_83 ?_
      refine lv_iload_n hx hb dX6_share_86 rfl (lv_at hl 1 rfl) ?_
      refine lv_iload hx hb dX6_share_87 (lv_at hl 8 rfl) ?_
      obtain ⟨q89, hq, h⟩ := ax_bd h
      refine ax_cV (rest := []) (st1 := [.int q89]) C hc hz hS hR (M_X2_partBits (dio_at1 hL) hq) yk_X2_partBits in_X2_partBits se_X2_partBits ml_X6_141 (lk_1 hL) rfl rfl (by decide) rfl hl.1 (Nat.le_of_ble_eq_true rfl) rfl rfl dX6_share_89 (fun H locs hR hS => ?_)
      obtain ⟨q92, hq, h⟩ := ax_bd h
      refine ax_cS (rest := []) (st1 := [.int q92]) C hc hz hS hR (M_J6_bitCount_0f7a4  hq) yk_J6_bitCount_0f7a4 st_J6_bitCount_0f7a4 ml_X6_70 (by decide) rfl hl.1 (Nat.le_of_ble_eq_true rfl) rfl rfl dX6_share_92 (fun H locs hR hS => ?_)
      refine lv_istore (lv' := [(9, .int q92), (0, .ref (B + 0)), (1, .int x1), (2, .int x2), (3, .int x3), (4, .int x4), (5, .int x5), (6, .int x6), (7, .int x7), (8, .int x8)]) hx hb dX6_share_95 hl (by decide) rfl (fun ls hl => ?_)
      refine lv_iload hx hb dX6_share_97 (lv_at hl 7 rfl) ?_
      refine lv_iload_n hx hb dX6_share_99 rfl (lv_at hl 3 rfl) ?_
      refine lv_iload hx hb dX6_share_100 (lv_at hl 0 rfl) ?_
      refine lv_imul hx hb dX6_share_102 ?_
      refine lv_iload hx hb dX6_share_103 (lv_at hl 5 rfl) ?_
      obtain ⟨hq, h⟩ := ax_ck h
      refine lv_idiv hx hb dX6_share_105 hq ?_
      refine lv_isub hx hb dX6_share_106 ?_
      refine lv_istore (lv' := [(6, .int (x6 - ((x2 * q92) / x4))), (9, .int q92), (0, .ref (B + 0)), (1, .int x1), (2, .int x2), (3, .int x3), (4, .int x4), (5, .int x5), (7, .int x7), (8, .int x8)]) hx hb dX6_share_107 hl (by decide) rfl (fun ls hl => ?_)
      refine lv_iload hx hb dX6_share_109 (lv_at hl 1 rfl) ?_
      refine lv_iload hx hb dX6_share_111 (lv_at hl 7 rfl) ?_
      refine lv_icmp_gt (tgt := 129) hx hb dX6_share_113 (by decide) (fun q => ?_) (fun q => ?_)
      · have h := ax_ip q h
        exact t_X6_share_129 hL C ih _ _ _ _ _ _ _ _ _ h H locs cells slots ls hc hz hR hS (lv_sub hl [2, 3, 4, 5, 6, 7, 0, 8, 9] rfl)
      · have h := ax_iN q h
        refine lv_iload hx hb dX6_share_116 (lv_at hl 1 rfl) ?_
        refine lv_iload hx hb dX6_share_118 (lv_at hl 7 rfl) ?_
        refine lv_icmp_ne (tgt := 132) hx hb dX6_share_120 (by decide) (fun q => ?_) (fun q => ?_)
        · have h := ax_iN q h
          exact t_X6_share_132 hL C ih _ _ _ _ _ _ _ _ _ h H locs cells slots ls hc hz hR hS (lv_sub hl [2, 3, 4, 5, 6, 7, 0, 8, 9] rfl)
        · have h := ax_ip q h
          refine lv_iload hx hb dX6_share_123 (lv_at hl 9 rfl) ?_
          refine lv_iload_n hx hb dX6_share_125 rfl (lv_at hl 5 rfl) ?_
          refine lv_icmp_ge (tgt := 132) hx hb dX6_share_126 (by decide) (fun q => ?_) (fun q => ?_)
          · have h := ax_ip q h
            exact t_X6_share_132 hL C ih _ _ _ _ _ _ _ _ _ h H locs cells slots ls hc hz hR hS (lv_sub hl [2, 3, 4, 5, 6, 7, 0, 8, 9] rfl)
          · have h := ax_iN q h
            exact t_X6_share_129 hL C ih _ _ _ _ _ _ _ _ _ h H locs cells slots ls hc hz hR hS (lv_sub hl [2, 3, 4, 5, 6, 7, 0, 8, 9] rfl)
set_option maxRecDepth 100000 in
set_option maxHeartbeats 4000000 in
theorem t_X6_share_0 {lay : List ax_S} {J : ax_J} {rv : Int32} (hL : ax_LL B lay) (C : ax_C p R s m args meth c yX6_share cX6_share 10 (some .int) 8 E mc ms) : ∀ (I : ax_I) (x1 : Int32) (x2 : Int32) (x3 : Int32), F_X6_share I x1 x2 x3 = some rv → AM p l e R s m args below meth c E B lay.length (ax_z lay) 10 (some (.int rv)) lay I J lay I J 0 [(0, .ref (B + 0)), (1, .int x1), (2, .int x2), (3, .int x3)] [] := by
  obtain ⟨hx, hb, hr, hml, hown, hts, hlocks, hK, hfr, hlo, hmc, hms, hnm⟩ := id C
  have hown : s.vm.findClass RX6 = some m.cls := hown
  intro I x1 x2 x3 h H locs cells slots ls hc hz hR hS hl
  unfold F_X6_share at h
  refine lv_aload_n hx hb dX6_share_0 rfl (lv_at hl 0 rfl) ?_
  refine ax_getV hx hb hts hown hK hR fl_X6_10 (lk_0 hL) rfl dX6_share_1 ?_
  refine lv_iload_n hx hb dX6_share_4 rfl (lv_at hl 1 rfl) ?_
  obtain ⟨q5, hq, h⟩ := ax_bd h
  refine ax_cV (rest := []) (st1 := [.int q5]) C hc hz hS hR (M_X2_isThere (dio_at1 hL) hq) yk_X2_isThere in_X2_isThere se_X2_isThere ml_X6_76 (lk_1 hL) rfl rfl (by decide) rfl hl.1 (Nat.le_of_ble_eq_true rfl) rfl rfl dX6_share_5 (fun H locs hR hS => ?_)
  refine lv_if_eq (tgt := 20) hx hb dX6_share_8 (by decide) (fun q => ?_) (fun q => ?_)
  · have h := ax_ip q h
    refine lv_iconst (v := (-1)) hx hb dX6_share_20 (by decide) ?_
    cases h
    exact ax_iret C hc hz hR hS rfl rfl dX6_share_21
  · have h := ax_iN q h
    refine lv_iload_n hx hb dX6_share_11 rfl (lv_at hl 3 rfl) ?_
    refine lv_iconst (v := 0) hx hb dX6_share_12 (by decide) ?_
    refine lv_iconst (v := 3) hx hb dX6_share_13 (by decide) ?_
    obtain ⟨q14, hq, h⟩ := ax_bd h
    refine ax_cS (rest := []) (st1 := [.int q14]) C hc hz hS hR (M_X6_within  hq) yk_X6_within st_X6_within ml_X6_58 (by decide) rfl hl.1 (Nat.le_of_ble_eq_true rfl) rfl rfl dX6_share_14 (fun H locs hR hS => ?_)
    refine lv_if_ne (tgt := 22) hx hb dX6_share_17 (by decide) (fun q => ?_) (fun q => ?_)
    · have h := ax_iN q h
      refine lv_iload_n hx hb dX6_share_22 rfl (lv_at hl 2 rfl) ?_
      refine lv_iconst (v := 0) hx hb dX6_share_23 (by decide) ?_
      refine lv_sipush (v := 999) hx hb dX6_share_24 (by decide) ?_
      obtain ⟨q27, hq, h⟩ := ax_bd h
      refine ax_cS (rest := []) (st1 := [.int q27]) C hc hz hS hR (M_X6_within  hq) yk_X6_within st_X6_within ml_X6_58 (by decide) rfl hl.1 (Nat.le_of_ble_eq_true rfl) rfl rfl dX6_share_27 (fun H locs hR hS => ?_)
      refine lv_if_ne (tgt := 36) hx hb dX6_share_30 (by decide) (fun q => ?_) (fun q => ?_)
      · have h := ax_iN q h
        refine lv_aload_n hx hb dX6_share_36 rfl (lv_at hl 0 rfl) ?_
        refine ax_getV hx hb hts hown hK hR fl_X6_10 (lk_0 hL) rfl dX6_share_37 ?_
        refine lv_iload_n hx hb dX6_share_40 rfl (lv_at hl 1 rfl) ?_
        obtain ⟨q41, hq, h⟩ := ax_bd h
        refine ax_cV (rest := []) (st1 := [.int q41]) C hc hz hS hR (M_X2_heldParts (dio_at1 hL) hq) yk_X2_heldParts in_X2_heldParts se_X2_heldParts ml_X6_203 (lk_1 hL) rfl rfl (by decide) rfl hl.1 (Nat.le_of_ble_eq_true rfl) rfl rfl dX6_share_41 (fun H locs hR hS => ?_)
        refine lv_istore (lv' := [(4, .int q41), (0, .ref (B + 0)), (1, .int x1), (2, .int x2), (3, .int x3)]) hx hb dX6_share_44 hl (by decide) rfl (fun ls hl => ?_)
        refine lv_iload hx hb dX6_share_46 (lv_at hl 0 rfl) ?_
        refine lv_if_ne (tgt := 53) hx hb dX6_share_48 (by decide) (fun q => ?_) (fun q => ?_)
        · have h := ax_iN q h
          refine lv_aload_n hx hb dX6_share_53 rfl (lv_at hl 1 rfl) ?_
          refine ax_getV hx hb hts hown hK hR fl_X6_10 (lk_0 hL) rfl dX6_share_54 ?_
          refine lv_iload_n hx hb dX6_share_57 rfl (lv_at hl 2 rfl) ?_
          refine lv_iload_n hx hb dX6_share_58 rfl (lv_at hl 4 rfl) ?_
          obtain ⟨q59, hq, h⟩ := ax_bd h
          refine ax_cV (rest := []) (st1 := [.int q59]) C hc hz hS hR (M_X2_partBits (dio_at1 hL) hq) yk_X2_partBits in_X2_partBits se_X2_partBits ml_X6_141 (lk_1 hL) rfl rfl (by decide) rfl hl.1 (Nat.le_of_ble_eq_true rfl) rfl rfl dX6_share_59 (fun H locs hR hS => ?_)
          obtain ⟨q62, hq, h⟩ := ax_bd h
          refine ax_cS (rest := []) (st1 := [.int q62]) C hc hz hS hR (M_J6_bitCount_0f7a4  hq) yk_J6_bitCount_0f7a4 st_J6_bitCount_0f7a4 ml_X6_70 (by decide) rfl hl.1 (Nat.le_of_ble_eq_true rfl) rfl rfl dX6_share_62 (fun H locs hR hS => ?_)
          refine lv_istore (lv' := [(5, .int q62), (4, .int q41), (0, .ref (B + 0)), (1, .int x1), (2, .int x2), (3, .int x3)]) hx hb dX6_share_65 hl (by decide) rfl (fun ls hl => ?_)
          refine lv_iload_n hx hb dX6_share_67 rfl (lv_at hl 4 rfl) ?_
          refine lv_istore (lv' := [(6, .int x2), (5, .int q62), (4, .int q41), (0, .ref (B + 0)), (1, .int x1), (2, .int x2), (3, .int x3)]) hx hb dX6_share_68 hl (by decide) rfl (fun ls hl => ?_)
          refine lv_iconst (v := 0) hx hb dX6_share_70 (by decide) ?_
          refine lv_istore (lv' := [(7, .int 0), (6, .int x2), (5, .int q62), (4, .int q41), (0, .ref (B + 0)), (1, .int x1), (2, .int x2), (3, .int x3)]) hx hb dX6_share_71 hl (by decide) rfl (fun ls hl => ?_)
          refine lv_iconst (v := 0) hx hb dX6_share_73 (by decide) ?_
          refine lv_istore (lv' := [(8, .int 0), (7, .int 0), (6, .int x2), (5, .int q62), (4, .int q41), (0, .ref (B + 0)), (1, .int x1), (2, .int x2), (3, .int x3)]) hx hb dX6_share_74 hl (by decide) rfl (fun ls hl => ?_)
          exact t_X6_share_76 hL C  ax_N _ _ _ _ _ _ _ _ _ h H locs cells slots ls hc hz hR hS (lv_sub hl [5, 6, 7, 8, 4, 3, 2, 1, 0] rfl)
        · have h := ax_ip q h
          refine lv_iconst (v := 0) hx hb dX6_share_51 (by decide) ?_
          cases h
          exact ax_iret C hc hz hR hS rfl rfl dX6_share_52
      · have h := ax_ip q h
        refine lv_bipush (v := (-2)) hx hb dX6_share_33 (by decide) ?_
        cases h
        exact ax_iret C hc hz hR hS rfl rfl dX6_share_35
    · have h := ax_ip q h
      refine lv_iconst (v := (-1)) hx hb dX6_share_20 (by decide) ?_
      cases h
      exact ax_iret C hc hz hR hS rfl rfl dX6_share_21
theorem M_X6_share {l : Launch} {E : ax_E} {B : Nat} {lay : List ax_S} {I : ax_I} {J : ax_J} {x1 : Int32} {x2 : Int32} {x3 : Int32} {rv : Int32} (hL : ax_LL B lay) (h : F_X6_share I x1 x2 x3 = some rv) : Cm l yX6_share cX6_share 10 (some .int) 8 E B [.ref (B + 0), .int x1, .int x2, .int x3] lay I J (some (.int rv)) lay I J :=
  ax_met (by decide) (Nat.le_of_ble_eq_true rfl) (fun p e R s m args below meth c C => t_X6_share_0 hL C _ _ _ _ h)
def F_X6_seen (I : ax_I) (x1 : Int32) (x2 : Int32) (x3 : Int32) : Option (Int32 × ax_I) :=
  (F_X6_within I x1 0 9).bind (fun q4 => if q4 = 0 then some ((-2), I) else (F_X6_within I x2 0 9).bind (fun q14 => if q14 = 0 then some ((-2), I) else if (I 1 3) < 8 then (F_X2_addSight I 1 x1 x2 x3).bind (fun q45 => some ((q45 1 3), q45)) else some ((-4), I)))
set_option maxRecDepth 100000 in
set_option maxHeartbeats 4000000 in
theorem t_X6_seen_0 {lay : List ax_S} {J : ax_J} {rv : Int32} {I9 : ax_I} (hL : ax_LL B lay) (C : ax_C p R s m args meth c yX6_seen cX6_seen 4 (some .int) 4 E mc ms) : ∀ (I : ax_I) (x1 : Int32) (x2 : Int32) (x3 : Int32), F_X6_seen I x1 x2 x3 = some (rv, I9) → AM p l e R s m args below meth c E B lay.length (ax_z lay) 4 (some (.int rv)) lay I9 J lay I J 0 [(0, .ref (B + 0)), (1, .int x1), (2, .int x2), (3, .int x3)] [] := by
  obtain ⟨hx, hb, hr, hml, hown, hts, hlocks, hK, hfr, hlo, hmc, hms, hnm⟩ := id C
  have hown : s.vm.findClass RX6 = some m.cls := hown
  intro I x1 x2 x3 h H locs cells slots ls hc hz hR hS hl
  unfold F_X6_seen at h
  refine lv_iload_n hx hb dX6_seen_0 rfl (lv_at hl 1 rfl) ?_
  refine lv_iconst (v := 0) hx hb dX6_seen_1 (by decide) ?_
  refine lv_bipush (v := 9) hx hb dX6_seen_2 (by decide) ?_
  obtain ⟨q4, hq, h⟩ := ax_bd h
  refine ax_cS (rest := []) (st1 := [.int q4]) C hc hz hS hR (M_X6_within  hq) yk_X6_within st_X6_within ml_X6_58 (by decide) rfl hl.1 (Nat.le_of_ble_eq_true rfl) rfl rfl dX6_seen_4 (fun H locs hR hS => ?_)
  refine lv_if_eq (tgt := 20) hx hb dX6_seen_7 (by decide) (fun q => ?_) (fun q => ?_)
  · have h := ax_ip q h
    refine lv_bipush (v := (-2)) hx hb dX6_seen_20 (by decide) ?_
    cases h
    exact ax_iret C hc hz hR hS rfl rfl dX6_seen_22
  · have h := ax_iN q h
    refine lv_iload_n hx hb dX6_seen_10 rfl (lv_at hl 2 rfl) ?_
    refine lv_iconst (v := 0) hx hb dX6_seen_11 (by decide) ?_
    refine lv_bipush (v := 9) hx hb dX6_seen_12 (by decide) ?_
    obtain ⟨q14, hq, h⟩ := ax_bd h
    refine ax_cS (rest := []) (st1 := [.int q14]) C hc hz hS hR (M_X6_within  hq) yk_X6_within st_X6_within ml_X6_58 (by decide) rfl hl.1 (Nat.le_of_ble_eq_true rfl) rfl rfl dX6_seen_14 (fun H locs hR hS => ?_)
    refine lv_if_ne (tgt := 23) hx hb dX6_seen_17 (by decide) (fun q => ?_) (fun q => ?_)
    · have h := ax_iN q h
      refine lv_aload_n hx hb dX6_seen_23 rfl (lv_at hl 0 rfl) ?_
      refine ax_getV hx hb hts hown hK hR fl_X6_10 (lk_0 hL) rfl dX6_seen_24 ?_
      refine ax_getI hx hb hts hown hK hR fl_X6_206 (lk_1 hL) rfl dX6_seen_27 ?_
      refine lv_bipush (v := 8) hx hb dX6_seen_30 (by decide) ?_
      refine lv_icmp_lt (tgt := 38) hx hb dX6_seen_32 (by decide) (fun q => ?_) (fun q => ?_)
      · have h := ax_ip q h
        refine lv_aload_n hx hb dX6_seen_38 rfl (lv_at hl 0 rfl) ?_
        refine ax_getV hx hb hts hown hK hR fl_X6_10 (lk_0 hL) rfl dX6_seen_39 ?_
        refine lv_iload_n hx hb dX6_seen_42 rfl (lv_at hl 1 rfl) ?_
        refine lv_iload_n hx hb dX6_seen_43 rfl (lv_at hl 2 rfl) ?_
        refine lv_iload_n hx hb dX6_seen_44 rfl (lv_at hl 3 rfl) ?_
        obtain ⟨q45, hq, h⟩ := ax_bd h
        refine ax_cV (rest := []) (st1 := []) C hc hz hS hR (M_X2_addSight (dio_at1 hL) hq) yk_X2_addSight in_X2_addSight se_X2_addSight ml_X6_209 (lk_1 hL) rfl rfl (by decide) rfl hl.1 (Nat.le_of_ble_eq_true rfl) rfl rfl dX6_seen_45 (fun H locs hR hS => ?_)
        refine lv_aload_n hx hb dX6_seen_48 rfl (lv_at hl 0 rfl) ?_
        refine ax_getV hx hb hts hown hK hR fl_X6_10 (lk_0 hL) rfl dX6_seen_49 ?_
        refine ax_getI hx hb hts hown hK hR fl_X6_206 (lk_1 hL) rfl dX6_seen_52 ?_
        cases h
        exact ax_iret C hc hz hR hS rfl rfl dX6_seen_55
      · have h := ax_iN q h
        refine lv_bipush (v := (-4)) hx hb dX6_seen_35 (by decide) ?_
        cases h
        exact ax_iret C hc hz hR hS rfl rfl dX6_seen_37
    · have h := ax_ip q h
      refine lv_bipush (v := (-2)) hx hb dX6_seen_20 (by decide) ?_
      cases h
      exact ax_iret C hc hz hR hS rfl rfl dX6_seen_22
theorem M_X6_seen {l : Launch} {E : ax_E} {B : Nat} {lay : List ax_S} {I : ax_I} {J : ax_J} {x1 : Int32} {x2 : Int32} {x3 : Int32} {rv : Int32} {I9 : ax_I} (hL : ax_LL B lay) (h : F_X6_seen I x1 x2 x3 = some (rv, I9)) : Cm l yX6_seen cX6_seen 4 (some .int) 4 E B [.ref (B + 0), .int x1, .int x2, .int x3] lay I J (some (.int rv)) lay I9 J :=
  ax_met (by decide) (Nat.le_of_ble_eq_true rfl) (fun p e R s m args below meth c C => t_X6_seen_0 hL C _ _ _ _ h)
def F_X6_forget (I : ax_I) : Option (Int32 × ax_I) :=
  some ((I 1 3), (ax_u I 1 3 0))
set_option maxRecDepth 100000 in
set_option maxHeartbeats 4000000 in
theorem t_X6_forget_0 {lay : List ax_S} {J : ax_J} {rv : Int32} {I9 : ax_I} (hL : ax_LL B lay) (C : ax_C p R s m args meth c yX6_forget cX6_forget 2 (some .int) 2 E mc ms) : ∀ (I : ax_I), F_X6_forget I = some (rv, I9) → AM p l e R s m args below meth c E B lay.length (ax_z lay) 2 (some (.int rv)) lay I9 J lay I J 0 [(0, .ref (B + 0))] [] := by
  obtain ⟨hx, hb, hr, hml, hown, hts, hlocks, hK, hfr, hlo, hmc, hms, hnm⟩ := id C
  have hown : s.vm.findClass RX6 = some m.cls := hown
  intro I h H locs cells slots ls hc hz hR hS hl
  unfold F_X6_forget at h
  refine lv_aload_n hx hb dX6_forget_0 rfl (lv_at hl 0 rfl) ?_
  refine ax_getV hx hb hts hown hK hR fl_X6_10 (lk_0 hL) rfl dX6_forget_1 ?_
  refine ax_getI hx hb hts hown hK hR fl_X6_206 (lk_1 hL) rfl dX6_forget_4 ?_
  refine lv_istore_n (lv' := [(1, .int (I 1 3)), (0, .ref (B + 0))]) hx hb dX6_forget_7 rfl hl (by decide) rfl (fun ls hl => ?_)
  refine lv_aload_n hx hb dX6_forget_8 rfl (lv_at hl 1 rfl) ?_
  refine ax_getV hx hb hts hown hK hR fl_X6_10 (lk_0 hL) rfl dX6_forget_9 ?_
  refine lv_iconst (v := 0) hx hb dX6_forget_12 (by decide) ?_
  refine ax_putI hx hb hts hown hK hR hS fp_X6_206 (lk_1 hL) rfl rfl rfl dX6_forget_13 (fun H locs hR hS => ?_)
  refine lv_iload_n hx hb dX6_forget_16 rfl (lv_at hl 0 rfl) ?_
  cases h
  exact ax_iret C hc hz hR hS rfl rfl dX6_forget_17
theorem M_X6_forget {l : Launch} {E : ax_E} {B : Nat} {lay : List ax_S} {I : ax_I} {J : ax_J} {rv : Int32} {I9 : ax_I} (hL : ax_LL B lay) (h : F_X6_forget I = some (rv, I9)) : Cm l yX6_forget cX6_forget 2 (some .int) 2 E B [.ref (B + 0)] lay I J (some (.int rv)) lay I9 J :=
  ax_met (by decide) (Nat.le_of_ble_eq_true rfl) (fun p e R s m args below meth c C => t_X6_forget_0 hL C _ h)
def F_X6_laws (I : ax_I) (x1 : Int32) : Option (Int32 × ax_I) :=
  (F_X3_find I 1).bind (fun q8 => if x1 = (-1) then some ((q8 33 1), q8) else (F_X6_within q8 x1 0 ((q8 33 1) - 1)).bind (fun q35 => if q35 = 0 then some ((-6), q8) else if ax_in x1 100 = true then some ((q8 34 x1.toNatClampNeg), q8) else none))
set_option maxRecDepth 100000 in
set_option maxHeartbeats 4000000 in
theorem t_X6_laws_0 {lay : List ax_S} {J : ax_J} {rv : Int32} {I9 : ax_I} (hL : ax_LL B lay) (C : ax_C p R s m args meth c yX6_laws cX6_laws 2 (some .int) 8 E mc ms) : ∀ (I : ax_I) (x1 : Int32), F_X6_laws I x1 = some (rv, I9) → AM p l e R s m args below meth c E B lay.length (ax_z lay) 2 (some (.int rv)) lay I9 J lay I J 0 [(0, .ref (B + 0)), (1, .int x1)] [] := by
  obtain ⟨hx, hb, hr, hml, hown, hts, hlocks, hK, hfr, hlo, hmc, hms, hnm⟩ := id C
  have hown : s.vm.findClass RX6 = some m.cls := hown
  intro I x1 h H locs cells slots ls hc hz hR hS hl
  unfold F_X6_laws at h
  refine lv_aload_n hx hb dX6_laws_0 rfl (lv_at hl 0 rfl) ?_
  refine ax_getV hx hb hts hown hK hR fl_X6_54 (lk_0 hL) rfl dX6_laws_1 ?_
  refine lv_aload_n hx hb dX6_laws_4 rfl (lv_at hl 0 rfl) ?_
  refine ax_getV hx hb hts hown hK hR fl_X6_10 (lk_0 hL) rfl dX6_laws_5 ?_
  obtain ⟨q8, hq, h⟩ := ax_bd h
  refine ax_cV (rest := []) (st1 := []) C hc hz hS hR (M_X3_find hL (dio_at1 hL) hq) yk_X3_find in_X3_find se_X3_find ml_X6_213 (lk_33 hL) rfl rfl (by decide) rfl hl.1 (Nat.le_of_ble_eq_true rfl) rfl rfl dX6_laws_8 (fun H locs hR hS => ?_)
  refine lv_iload_n hx hb dX6_laws_11 rfl (lv_at hl 1 rfl) ?_
  refine lv_iconst (v := (-1)) hx hb dX6_laws_12 (by decide) ?_
  refine lv_icmp_ne (tgt := 24) hx hb dX6_laws_13 (by decide) (fun q => ?_) (fun q => ?_)
  · have h := ax_iN q h
    refine lv_iload_n hx hb dX6_laws_24 rfl (lv_at hl 1 rfl) ?_
    refine lv_iconst (v := 0) hx hb dX6_laws_25 (by decide) ?_
    refine lv_aload_n hx hb dX6_laws_26 rfl (lv_at hl 0 rfl) ?_
    refine ax_getV hx hb hts hown hK hR fl_X6_54 (lk_0 hL) rfl dX6_laws_27 ?_
    refine ax_getI hx hb hts hown hK hR fl_X6_216 (lk_33 hL) rfl dX6_laws_30 ?_
    refine lv_iconst (v := 1) hx hb dX6_laws_33 (by decide) ?_
    refine lv_isub hx hb dX6_laws_34 ?_
    obtain ⟨q35, hq, h⟩ := ax_bd h
    refine ax_cS (rest := []) (st1 := [.int q35]) C hc hz hS hR (M_X6_within  hq) yk_X6_within st_X6_within ml_X6_58 (by decide) rfl hl.1 (Nat.le_of_ble_eq_true rfl) rfl rfl dX6_laws_35 (fun H locs hR hS => ?_)
    refine lv_if_eq (tgt := 53) hx hb dX6_laws_38 (by decide) (fun q => ?_) (fun q => ?_)
    · have h := ax_ip q h
      refine lv_bipush (v := (-6)) hx hb dX6_laws_53 (by decide) ?_
      cases h
      exact ax_iret C hc hz hR hS rfl rfl dX6_laws_55
    · have h := ax_iN q h
      refine lv_aload_n hx hb dX6_laws_41 rfl (lv_at hl 0 rfl) ?_
      refine ax_getV hx hb hts hown hK hR fl_X6_54 (lk_0 hL) rfl dX6_laws_42 ?_
      refine ax_getV hx hb hts hown hK hR fl_X6_217 (lk_33 hL) rfl dX6_laws_45 ?_
      refine lv_iload_n hx hb dX6_laws_48 rfl (lv_at hl 1 rfl) ?_
      obtain ⟨hq, h⟩ := ax_ck h
      refine ax_iald hx hb hK hR (lk_34 hL) hq dX6_laws_49 ?_
      refine lv_goto (tgt := 55) hx hb dX6_laws_50 (by decide) ?_
      cases h
      exact ax_iret C hc hz hR hS rfl rfl dX6_laws_55
  · have h := ax_ip q h
    refine lv_aload_n hx hb dX6_laws_16 rfl (lv_at hl 0 rfl) ?_
    refine ax_getV hx hb hts hown hK hR fl_X6_54 (lk_0 hL) rfl dX6_laws_17 ?_
    refine ax_getI hx hb hts hown hK hR fl_X6_216 (lk_33 hL) rfl dX6_laws_20 ?_
    cases h
    exact ax_iret C hc hz hR hS rfl rfl dX6_laws_23
theorem M_X6_laws {l : Launch} {E : ax_E} {B : Nat} {lay : List ax_S} {I : ax_I} {J : ax_J} {x1 : Int32} {rv : Int32} {I9 : ax_I} (hL : ax_LL B lay) (h : F_X6_laws I x1 = some (rv, I9)) : Cm l yX6_laws cX6_laws 2 (some .int) 8 E B [.ref (B + 0), .int x1] lay I J (some (.int rv)) lay I9 J :=
  ax_met (by decide) (Nat.le_of_ble_eq_true rfl) (fun p e R s m args below meth c C => t_X6_laws_0 hL C _ _ h)
def f_X6_ask_99 (r44 : ax_I → Int32 → Int32 → Int32 → Int32 → Option (Int32 × ax_I)) (I : ax_I) (x1 : Int32) (x2 : Int32) (x3 : Int32) (x4 : Int32) : Option (Int32 × ax_I) :=
  r44 I x1 x2 x3 (x4 + 1)
def f_X6_ask_87 (r44 : ax_I → Int32 → Int32 → Int32 → Int32 → Option (Int32 × ax_I)) (I : ax_I) (x1 : Int32) (x2 : Int32) (x3 : Int32) (x4 : Int32) (x6 : Int32) : Option (Int32 × ax_I) :=
  if x2 ≤ x6 then f_X6_ask_99 r44 I x1 x2 x3 x4 else f_X6_ask_99 r44 I x1 x6 x4 x4
def f_X6_ask_44 : Nat → ax_I → Int32 → Int32 → Int32 → Int32 → Option (Int32 × ax_I)
  | 0, _, _, _, _, _ => none
  | n + 1, I, x1, x2, x3, x4 => if 100 ≤ x4 then (if x1 = 0 then some (x3, I) else some (x2, I)) else (F_X3_countThatMake I (x4 / 10) (x4 - x4 / 10 * 10)).bind (fun q65 => f_X6_ask_87 (f_X6_ask_44 n) I x1 x2 x3 x4 (if q65 < ((I 33 1) - q65) then ((I 33 1) - q65) else q65))
def F_X6_ask (I : ax_I) (x1 : Int32) : Option (Int32 × ax_I) :=
  (F_X6_within I x1 0 1).bind (fun q3 => if q3 = 0 then some ((-2), I) else (F_X3_find I 1).bind (fun q20 => if (q20 33 1) = 0 then some ((-6), q20) else f_X6_ask_44 ax_N q20 x1 101 0 0))
set_option maxRecDepth 100000 in
set_option maxHeartbeats 4000000 in
theorem t_X6_ask_99 {lay : List ax_S} {J : ax_J} {rv : Int32} {I9 : ax_I} (hL : ax_LL B lay) (C : ax_C p R s m args meth c yX6_ask cX6_ask 7 (some .int) 8 E mc ms) {r44 : ax_I → Int32 → Int32 → Int32 → Int32 → Option (Int32 × ax_I)} (hr44 : ∀ (I : ax_I) (x1 : Int32) (x2 : Int32) (x3 : Int32) (x4 : Int32), r44 I x1 x2 x3 x4 = some (rv, I9) → AM p l e R s m args below meth c E B lay.length (ax_z lay) 7 (some (.int rv)) lay I9 J lay I J 44 [(0, .ref (B + 0)), (1, .int x1), (2, .int x2), (3, .int x3), (4, .int x4)] []) : ∀ (I : ax_I) (x1 : Int32) (x2 : Int32) (x3 : Int32) (x4 : Int32), f_X6_ask_99 r44 I x1 x2 x3 x4 = some (rv, I9) → AM p l e R s m args below meth c E B lay.length (ax_z lay) 7 (some (.int rv)) lay I9 J lay I J 99 [(0, .ref (B + 0)), (1, .int x1), (2, .int x2), (3, .int x3), (4, .int x4)] [] := by
  obtain ⟨hx, hb, hr, hml, hown, hts, hlocks, hK, hfr, hlo, hmc, hms, hnm⟩ := id C
  have hown : s.vm.findClass RX6 = some m.cls := hown
  intro I x1 x2 x3 x4 h H locs cells slots ls hc hz hR hS hl
  unfold f_X6_ask_99 at h
  refine lv_iinc (v := (x4 + 1)) (lv' := [(4, .int (x4 + 1)), (0, .ref (B + 0)), (1, .int x1), (2, .int x2), (3, .int x3)]) hx hb dX6_ask_99 hl (k := 4) rfl rfl (by decide) rfl (fun ls hl => ?_)
  refine lv_goto (tgt := 44) hx hb dX6_ask_102 (by decide) ?_
  exact hr44 _ _ _ _ _ h H locs cells slots ls hc hz hR hS (lv_sub hl [1, 2, 3, 4, 0] rfl)
set_option maxRecDepth 100000 in
set_option maxHeartbeats 4000000 in
theorem t_X6_ask_87 {lay : List ax_S} {J : ax_J} {rv : Int32} {I9 : ax_I} (hL : ax_LL B lay) (C : ax_C p R s m args meth c yX6_ask cX6_ask 7 (some .int) 8 E mc ms) {r44 : ax_I → Int32 → Int32 → Int32 → Int32 → Option (Int32 × ax_I)} (hr44 : ∀ (I : ax_I) (x1 : Int32) (x2 : Int32) (x3 : Int32) (x4 : Int32), r44 I x1 x2 x3 x4 = some (rv, I9) → AM p l e R s m args below meth c E B lay.length (ax_z lay) 7 (some (.int rv)) lay I9 J lay I J 44 [(0, .ref (B + 0)), (1, .int x1), (2, .int x2), (3, .int x3), (4, .int x4)] []) : ∀ (I : ax_I) (x1 : Int32) (x2 : Int32) (x3 : Int32) (x4 : Int32) (x6 : Int32), f_X6_ask_87 r44 I x1 x2 x3 x4 x6 = some (rv, I9) → AM p l e R s m args below meth c E B lay.length (ax_z lay) 7 (some (.int rv)) lay I9 J lay I J 87 [(0, .ref (B + 0)), (1, .int x1), (2, .int x2), (3, .int x3), (4, .int x4), (6, .int x6)] [] := by
  obtain ⟨hx, hb, hr, hml, hown, hts, hlocks, hK, hfr, hlo, hmc, hms, hnm⟩ := id C
  have hown : s.vm.findClass RX6 = some m.cls := hown
  intro I x1 x2 x3 x4 x6 h H locs cells slots ls hc hz hR hS hl
  unfold f_X6_ask_87 at h
  refine lv_iload hx hb dX6_ask_87 (lv_at hl 5 rfl) ?_
  refine lv_iload_n hx hb dX6_ask_89 rfl (lv_at hl 2 rfl) ?_
  refine lv_icmp_ge (tgt := 99) hx hb dX6_ask_90 (by decide) (fun q => ?_) (fun q => ?_)
  · have h := ax_ip q h
    exact t_X6_ask_99 hL C hr44 _ _ _ _ _ h H locs cells slots ls hc hz hR hS (lv_sub hl [0, 1, 2, 3, 4] rfl)
  · have h := ax_iN q h
    refine lv_iload hx hb dX6_ask_93 (lv_at hl 5 rfl) ?_
    refine lv_istore_n (lv' := [(2, .int x6), (0, .ref (B + 0)), (1, .int x1), (3, .int x3), (4, .int x4), (6, .int x6)]) hx hb dX6_ask_95 rfl hl (by decide) rfl (fun ls hl => ?_)
    refine lv_iload hx hb dX6_ask_96 (lv_at hl 4 rfl) ?_
    refine lv_istore_n (lv' := [(3, .int x4), (2, .int x6), (0, .ref (B + 0)), (1, .int x1), (4, .int x4), (6, .int x6)]) hx hb dX6_ask_98 rfl hl (by decide) rfl (fun ls hl => ?_)
    exact t_X6_ask_99 hL C hr44 _ _ _ _ _ h H locs cells slots ls hc hz hR hS (lv_sub hl [2, 3, 1, 0, 4] rfl)
set_option maxRecDepth 100000 in
set_option maxHeartbeats 4000000 in
theorem t_X6_ask_44 {lay : List ax_S} {J : ax_J} {rv : Int32} {I9 : ax_I} (hL : ax_LL B lay) (C : ax_C p R s m args meth c yX6_ask cX6_ask 7 (some .int) 8 E mc ms) : ∀ (n : Nat) (I : ax_I) (x1 : Int32) (x2 : Int32) (x3 : Int32) (x4 : Int32), f_X6_ask_44 n I x1 x2 x3 x4 = some (rv, I9) → AM p l e R s m args below meth c E B lay.length (ax_z lay) 7 (some (.int rv)) lay I9 J lay I J 44 [(0, .ref (B + 0)), (1, .int x1), (2, .int x2), (3, .int x3), (4, .int x4)] [] := by
  obtain ⟨hx, hb, hr, hml, hown, hts, hlocks, hK, hfr, hlo, hmc, hms, hnm⟩ := id C
  have hown : s.vm.findClass RX6 = some m.cls := hown
  intro n
  induction n with
  | zero => intro I x1 x2 x3 x4 h; cases h
  | succ n ih =>
    intro I x1 x2 x3 x4 h H locs cells slots ls hc hz hR hS hl
    rw [f_X6_ask_44] at h
    refine lv_iload hx hb dX6_ask_44 (lv_at hl 4 rfl) ?_
    refine lv_bipush (v := 100) hx hb dX6_ask_46 (by decide) ?_
    refine lv_icmp_ge (tgt := 105) hx hb dX6_ask_48 (by decide) (fun q => ?_) (fun q => ?_)
    · have h := ax_ip q h
      refine lv_iload_n hx hb dX6_ask_105 rfl (lv_at hl 1 rfl) ?_
      refine lv_if_ne (tgt := 113) hx hb dX6_ask_106 (by decide) (fun q => ?_) (fun q => ?_)
      · have h := ax_iN q h
        refine lv_iload_n hx hb dX6_ask_113 rfl (lv_at hl 2 rfl) ?_
        cases h
        exact ax_iret C hc hz hR hS rfl rfl dX6_ask_114
      · have h := ax_ip q h
        refine lv_iload_n hx hb dX6_ask_109 rfl (lv_at hl 3 rfl) ?_
        refine lv_goto (tgt := 114) hx hb dX6_ask_110 (by decide) ?_
        cases h
        exact ax_iret C hc hz hR hS rfl rfl dX6_ask_114
    · have h := ax_iN q h
      refine lv_aload_n hx hb dX6_ask_51 rfl (lv_at hl 0 rfl) ?_
      refine ax_getV hx hb hts hown hK hR fl_X6_54 (lk_0 hL) rfl dX6_ask_52 ?_
      refine lv_iload hx hb dX6_ask_55 (lv_at hl 4 rfl) ?_
      refine lv_bipush (v := 10) hx hb dX6_ask_57 (by decide) ?_
      refine lv_idiv hx hb dX6_ask_59 (by decide) ?_
      refine lv_iload hx hb dX6_ask_60 (lv_at hl 4 rfl) ?_
      refine lv_bipush (v := 10) hx hb dX6_ask_62 (by decide) ?_
      refine lv_irem hx hb dX6_ask_64 (by decide) ?_
      obtain ⟨q65, hq, h⟩ := ax_bd h
      refine ax_cV (rest := []) (st1 := [.int q65]) C hc hz hS hR (M_X3_countThatMake hL hq) yk_X3_countThatMake in_X3_countThatMake se_X3_countThatMake ml_X6_220 (lk_33 hL) rfl rfl (by decide) rfl hl.1 (Nat.le_of_ble_eq_true rfl) rfl rfl dX6_ask_65 (fun H locs hR hS => ?_)
      refine lv_istore (lv' := [(5, .int q65), (0, .ref (B + 0)), (1, .int x1), (2, .int x2), (3, .int x3), (4, .int x4)]) hx hb dX6_ask_68 hl (by decide) rfl (fun ls hl => ?_)
      refine lv_iload hx hb dX6_ask_70 (lv_at hl 0 rfl) ?_
      refine lv_aload_n hx hb dX6_ask_72 rfl (lv_at hl 1 rfl) ?_
      refine ax_getV hx hb hts hown hK hR fl_X6_54 (lk_0 hL) rfl dX6_ask_73 ?_
      refine ax_getI hx hb hts hown hK hR fl_X6_216 (lk_33 hL) rfl dX6_ask_76 ?_
      refine lv_iload hx hb dX6_ask_79 (lv_at hl 0 rfl) ?_
      refine lv_isub hx hb dX6_ask_81 ?_
      refine ax_max (rest := []) C hc hz ml_X6_161 (by decide) hl.1 (Nat.le_of_ble_eq_true rfl) dX6_ask_82 ?_
      refine lv_istore (lv' := [(6, .int (if q65 < ((I 33 1) - q65) then ((I 33 1) - q65) else q65)), (5, .int q65), (0, .ref (B + 0)), (1, .int x1), (2, .int x2), (3, .int x3), (4, .int x4)]) hx hb dX6_ask_85 hl (by decide) rfl (fun ls hl => ?_)
      exact t_X6_ask_87 hL C ih _ _ _ _ _ _ h H locs cells slots ls hc hz hR hS (lv_sub hl [2, 3, 4, 5, 6, 0] rfl)
set_option maxRecDepth 100000 in
set_option maxHeartbeats 4000000 in
theorem t_X6_ask_0 {lay : List ax_S} {J : ax_J} {rv : Int32} {I9 : ax_I} (hL : ax_LL B lay) (C : ax_C p R s m args meth c yX6_ask cX6_ask 7 (some .int) 8 E mc ms) : ∀ (I : ax_I) (x1 : Int32), F_X6_ask I x1 = some (rv, I9) → AM p l e R s m args below meth c E B lay.length (ax_z lay) 7 (some (.int rv)) lay I9 J lay I J 0 [(0, .ref (B + 0)), (1, .int x1)] [] := by
  obtain ⟨hx, hb, hr, hml, hown, hts, hlocks, hK, hfr, hlo, hmc, hms, hnm⟩ := id C
  have hown : s.vm.findClass RX6 = some m.cls := hown
  intro I x1 h H locs cells slots ls hc hz hR hS hl
  unfold F_X6_ask at h
  refine lv_iload_n hx hb dX6_ask_0 rfl (lv_at hl 1 rfl) ?_
  refine lv_iconst (v := 0) hx hb dX6_ask_1 (by decide) ?_
  refine lv_iconst (v := 1) hx hb dX6_ask_2 (by decide) ?_
  obtain ⟨q3, hq, h⟩ := ax_bd h
  refine ax_cS (rest := []) (st1 := [.int q3]) C hc hz hS hR (M_X6_within  hq) yk_X6_within st_X6_within ml_X6_58 (by decide) rfl hl.1 (Nat.le_of_ble_eq_true rfl) rfl rfl dX6_ask_3 (fun H locs hR hS => ?_)
  refine lv_if_ne (tgt := 12) hx hb dX6_ask_6 (by decide) (fun q => ?_) (fun q => ?_)
  · have h := ax_iN q h
    refine lv_aload_n hx hb dX6_ask_12 rfl (lv_at hl 0 rfl) ?_
    refine ax_getV hx hb hts hown hK hR fl_X6_54 (lk_0 hL) rfl dX6_ask_13 ?_
    refine lv_aload_n hx hb dX6_ask_16 rfl (lv_at hl 0 rfl) ?_
    refine ax_getV hx hb hts hown hK hR fl_X6_10 (lk_0 hL) rfl dX6_ask_17 ?_
    obtain ⟨q20, hq, h⟩ := ax_bd h
    refine ax_cV (rest := []) (st1 := []) C hc hz hS hR (M_X3_find hL (dio_at1 hL) hq) yk_X3_find in_X3_find se_X3_find ml_X6_213 (lk_33 hL) rfl rfl (by decide) rfl hl.1 (Nat.le_of_ble_eq_true rfl) rfl rfl dX6_ask_20 (fun H locs hR hS => ?_)
    refine lv_aload_n hx hb dX6_ask_23 rfl (lv_at hl 0 rfl) ?_
    refine ax_getV hx hb hts hown hK hR fl_X6_54 (lk_0 hL) rfl dX6_ask_24 ?_
    refine ax_getI hx hb hts hown hK hR fl_X6_216 (lk_33 hL) rfl dX6_ask_27 ?_
    refine lv_if_ne (tgt := 36) hx hb dX6_ask_30 (by decide) (fun q => ?_) (fun q => ?_)
    · have h := ax_iN q h
      refine lv_bipush (v := 101) hx hb dX6_ask_36 (by decide) ?_
      refine lv_istore_n (lv' := [(2, .int 101), (0, .ref (B + 0)), (1, .int x1)]) hx hb dX6_ask_38 rfl hl (by decide) rfl (fun ls hl => ?_)
      refine lv_iconst (v := 0) hx hb dX6_ask_39 (by decide) ?_
      refine lv_istore_n (lv' := [(3, .int 0), (2, .int 101), (0, .ref (B + 0)), (1, .int x1)]) hx hb dX6_ask_40 rfl hl (by decide) rfl (fun ls hl => ?_)
      refine lv_iconst (v := 0) hx hb dX6_ask_41 (by decide) ?_
      refine lv_istore (lv' := [(4, .int 0), (3, .int 0), (2, .int 101), (0, .ref (B + 0)), (1, .int x1)]) hx hb dX6_ask_42 hl (by decide) rfl (fun ls hl => ?_)
      exact t_X6_ask_44 hL C  ax_N _ _ _ _ _ h H locs cells slots ls hc hz hR hS (lv_sub hl [3, 4, 2, 1, 0] rfl)
    · have h := ax_ip q h
      refine lv_bipush (v := (-6)) hx hb dX6_ask_33 (by decide) ?_
      cases h
      exact ax_iret C hc hz hR hS rfl rfl dX6_ask_35
  · have h := ax_ip q h
    refine lv_bipush (v := (-2)) hx hb dX6_ask_9 (by decide) ?_
    cases h
    exact ax_iret C hc hz hR hS rfl rfl dX6_ask_11
theorem M_X6_ask {l : Launch} {E : ax_E} {B : Nat} {lay : List ax_S} {I : ax_I} {J : ax_J} {x1 : Int32} {rv : Int32} {I9 : ax_I} (hL : ax_LL B lay) (h : F_X6_ask I x1 = some (rv, I9)) : Cm l yX6_ask cX6_ask 7 (some .int) 8 E B [.ref (B + 0), .int x1] lay I J (some (.int rv)) lay I9 J :=
  ax_met (by decide) (Nat.le_of_ble_eq_true rfl) (fun p e R s m args below meth c C => t_X6_ask_0 hL C _ _ h)
def f_X6_book_103 (r50 : ax_I → Int32 → Int32 → Int32 → Int32 → Option (Int32 × ax_I)) (I : ax_I) (x2 : Int32) (x3 : Int32) (x4 : Int32) (x5 : Int32) : Option (Int32 × ax_I) :=
  r50 I x2 x3 x4 (x5 + 1)
def f_X6_book_69 (r50 : ax_I → Int32 → Int32 → Int32 → Int32 → Option (Int32 × ax_I)) (I : ax_I) (x2 : Int32) (x3 : Int32) (x4 : Int32) (x5 : Int32) : Option (Int32 × ax_I) :=
  (F_X0_draw I 30 x4).bind (fun q75 => (F_X2_reasonAgainst q75 13 30).bind (fun q86 => if q86 = 0 then (F_X2_live q75 13 30).bind (fun q100 => f_X6_book_103 r50 q100 x2 x3 x4 x5) else f_X6_book_103 r50 q75 x2 x3 x4 x5))
def f_X6_book_50 : Nat → ax_I → Int32 → Int32 → Int32 → Int32 → Option (Int32 × ax_I)
  | 0, _, _, _, _, _ => none
  | n + 1, I, x2, x3, x4, x5 => if x2 ≤ x5 then (if x3 = 0 then (F_X2_saintBits I 13).bind (fun q140 => (F_J6_bitCount_0f7a4 I q140).bind (fun q143 => some (q143, I))) else if x3 = 1 then (F_X2_pursesTogether I 13).bind (fun q151 => some (q151, I)) else (F_X2_allHeldParts I 13).bind (fun q159 => some (q159, I))) else f_X6_book_69 (f_X6_book_50 n) I x2 x3 (((75 * x4) + 74) - ((75 * x4) + 74) / 65537 * 65537) x5
def F_X6_book (I : ax_I) (x1 : Int32) (x2 : Int32) (x3 : Int32) : Option (Int32 × ax_I) :=
  (F_X6_within I x1 0 9999).bind (fun q5 => if q5 = 0 then some ((-2), I) else (F_X6_within I x2 1 99).bind (fun q15 => if q15 = 0 then some ((-2), I) else (F_X6_within I x3 0 2).bind (fun q24 => if q24 = 0 then some ((-2), I) else (F_X2_copyFrom I 13 1).bind (fun q41 => f_X6_book_50 ax_N q41 x2 x3 x1 0))))
set_option maxRecDepth 100000 in
set_option maxHeartbeats 4000000 in
theorem t_X6_book_103 {lay : List ax_S} {J : ax_J} {rv : Int32} {I9 : ax_I} (hL : ax_LL B lay) (C : ax_C p R s m args meth c yX6_book cX6_book 6 (some .int) 14 E mc ms) {r50 : ax_I → Int32 → Int32 → Int32 → Int32 → Option (Int32 × ax_I)} (hr50 : ∀ (I : ax_I) (x2 : Int32) (x3 : Int32) (x4 : Int32) (x5 : Int32), r50 I x2 x3 x4 x5 = some (rv, I9) → AM p l e R s m args below meth c E B lay.length (ax_z lay) 6 (some (.int rv)) lay I9 J lay I J 50 [(0, .ref (B + 0)), (2, .int x2), (3, .int x3), (4, .int x4), (5, .int x5)] []) : ∀ (I : ax_I) (x2 : Int32) (x3 : Int32) (x4 : Int32) (x5 : Int32), f_X6_book_103 r50 I x2 x3 x4 x5 = some (rv, I9) → AM p l e R s m args below meth c E B lay.length (ax_z lay) 6 (some (.int rv)) lay I9 J lay I J 103 [(0, .ref (B + 0)), (2, .int x2), (3, .int x3), (4, .int x4), (5, .int x5)] [] := by
  obtain ⟨hx, hb, hr, hml, hown, hts, hlocks, hK, hfr, hlo, hmc, hms, hnm⟩ := id C
  have hown : s.vm.findClass RX6 = some m.cls := hown
  intro I x2 x3 x4 x5 h H locs cells slots ls hc hz hR hS hl
  unfold f_X6_book_103 at h
  refine lv_iinc (v := (x5 + 1)) (lv' := [(5, .int (x5 + 1)), (0, .ref (B + 0)), (2, .int x2), (3, .int x3), (4, .int x4)]) hx hb dX6_book_103 hl (k := 4) rfl rfl (by decide) rfl (fun ls hl => ?_)
  refine lv_goto (tgt := 50) hx hb dX6_book_106 (by decide) ?_
  exact hr50 _ _ _ _ _ h H locs cells slots ls hc hz hR hS (lv_sub hl [1, 2, 3, 4, 0] rfl)
set_option maxRecDepth 100000 in
set_option maxHeartbeats 4000000 in
theorem t_X6_book_69 {lay : List ax_S} {J : ax_J} {rv : Int32} {I9 : ax_I} (hL : ax_LL B lay) (C : ax_C p R s m args meth c yX6_book cX6_book 6 (some .int) 14 E mc ms) {r50 : ax_I → Int32 → Int32 → Int32 → Int32 → Option (Int32 × ax_I)} (hr50 : ∀ (I : ax_I) (x2 : Int32) (x3 : Int32) (x4 : Int32) (x5 : Int32), r50 I x2 x3 x4 x5 = some (rv, I9) → AM p l e R s m args below meth c E B lay.length (ax_z lay) 6 (some (.int rv)) lay I9 J lay I J 50 [(0, .ref (B + 0)), (2, .int x2), (3, .int x3), (4, .int x4), (5, .int x5)] []) : ∀ (I : ax_I) (x2 : Int32) (x3 : Int32) (x4 : Int32) (x5 : Int32), f_X6_book_69 r50 I x2 x3 x4 x5 = some (rv, I9) → AM p l e R s m args below meth c E B lay.length (ax_z lay) 6 (some (.int rv)) lay I9 J lay I J 69 [(0, .ref (B + 0)), (2, .int x2), (3, .int x3), (4, .int x4), (5, .int x5)] [] := by
  obtain ⟨hx, hb, hr, hml, hown, hts, hlocks, hK, hfr, hlo, hmc, hms, hnm⟩ := id C
  have hown : s.vm.findClass RX6 = some m.cls := hown
  intro I x2 x3 x4 x5 h H locs cells slots ls hc hz hR hS hl
  unfold f_X6_book_69 at h
  refine lv_aload_n hx hb dX6_book_69 rfl (lv_at hl 0 rfl) ?_
  refine ax_getV hx hb hts hown hK hR fl_X6_40 (lk_0 hL) rfl dX6_book_70 ?_
  refine lv_iload hx hb dX6_book_73 (lv_at hl 3 rfl) ?_
  obtain ⟨q75, hq, h⟩ := ax_bd h
  refine ax_cV (rest := []) (st1 := []) C hc hz hS hR (M_X0_draw (lk_30 hL) hq) yk_X0_draw in_X0_draw se_X0_draw ml_X6_224 (lk_30 hL) rfl rfl (by decide) rfl hl.1 (Nat.le_of_ble_eq_true rfl) rfl rfl dX6_book_75 (fun H locs hR hS => ?_)
  refine lv_aload_n hx hb dX6_book_78 rfl (lv_at hl 0 rfl) ?_
  refine ax_getV hx hb hts hown hK hR fl_X6_16 (lk_0 hL) rfl dX6_book_79 ?_
  refine lv_aload_n hx hb dX6_book_82 rfl (lv_at hl 0 rfl) ?_
  refine ax_getV hx hb hts hown hK hR fl_X6_40 (lk_0 hL) rfl dX6_book_83 ?_
  obtain ⟨q86, hq, h⟩ := ax_bd h
  refine ax_cV (rest := []) (st1 := [.int q86]) C hc hz hS hR (M_X2_reasonAgainst (dio_at13 hL) (lk_30 hL) hq) yk_X2_reasonAgainst in_X2_reasonAgainst se_X2_reasonAgainst ml_X6_227 (lk_13 hL) rfl rfl (by decide) rfl hl.1 (Nat.le_of_ble_eq_true rfl) rfl rfl dX6_book_86 (fun H locs hR hS => ?_)
  refine lv_if_ne (tgt := 103) hx hb dX6_book_89 (by decide) (fun q => ?_) (fun q => ?_)
  · have h := ax_iN q h
    exact t_X6_book_103 hL C hr50 _ _ _ _ _ h H locs cells slots ls hc hz hR hS (lv_sub hl [0, 1, 2, 3, 4] rfl)
  · have h := ax_ip q h
    refine lv_aload_n hx hb dX6_book_92 rfl (lv_at hl 0 rfl) ?_
    refine ax_getV hx hb hts hown hK hR fl_X6_16 (lk_0 hL) rfl dX6_book_93 ?_
    refine lv_aload_n hx hb dX6_book_96 rfl (lv_at hl 0 rfl) ?_
    refine ax_getV hx hb hts hown hK hR fl_X6_40 (lk_0 hL) rfl dX6_book_97 ?_
    obtain ⟨q100, hq, h⟩ := ax_bd h
    refine ax_cV (rest := []) (st1 := []) C hc hz hS hR (M_X2_live (dio_at13 hL) (lk_30 hL) hq) yk_X2_live in_X2_live se_X2_live ml_X6_231 (lk_13 hL) rfl rfl (by decide) rfl hl.1 (Nat.le_of_ble_eq_true rfl) rfl rfl dX6_book_100 (fun H locs hR hS => ?_)
    exact t_X6_book_103 hL C hr50 _ _ _ _ _ h H locs cells slots ls hc hz hR hS (lv_sub hl [0, 1, 2, 3, 4] rfl)
set_option maxRecDepth 100000 in
set_option maxHeartbeats 4000000 in
theorem t_X6_book_50 {lay : List ax_S} {J : ax_J} {rv : Int32} {I9 : ax_I} (hL : ax_LL B lay) (C : ax_C p R s m args meth c yX6_book cX6_book 6 (some .int) 14 E mc ms) : ∀ (n : Nat) (I : ax_I) (x2 : Int32) (x3 : Int32) (x4 : Int32) (x5 : Int32), f_X6_book_50 n I x2 x3 x4 x5 = some (rv, I9) → AM p l e R s m args below meth c E B lay.length (ax_z lay) 6 (some (.int rv)) lay I9 J lay I J 50 [(0, .ref (B + 0)), (2, .int x2), (3, .int x3), (4, .int x4), (5, .int x5)] [] := by
  obtain ⟨hx, hb, hr, hml, hown, hts, hlocks, hK, hfr, hlo, hmc, hms, hnm⟩ := id C
  have hown : s.vm.findClass RX6 = some m.cls := hown
  intro n
  induction n with
  | zero => intro I x2 x3 x4 x5 h; cases h
  | succ n ih =>
    intro I x2 x3 x4 x5 h H locs cells slots ls hc hz hR hS hl
    rw [f_X6_book_50] at h
    refine lv_iload hx hb dX6_book_50 (lv_at hl 4 rfl) ?_
    refine lv_iload_n hx hb dX6_book_52 rfl (lv_at hl 1 rfl) ?_
    refine lv_icmp_ge (tgt := 109) hx hb dX6_book_53 (by decide) (fun q => ?_) (fun q => ?_)
    · have h := ax_ip q h
      refine lv_iload_n hx hb dX6_book_109 rfl (lv_at hl 2 rfl) ?_
      by_cases q0 : x3 = 0
      · have h := ax_ip q0 h
        refine lv_lookup (off := 26) (tgt := 136) hx hb dX6_book_110 (by decide) (by rw [q0]; rfl) (by decide) ?_
        refine lv_aload_n hx hb dX6_book_136 rfl (lv_at hl 0 rfl) ?_
        refine ax_getV hx hb hts hown hK hR fl_X6_16 (lk_0 hL) rfl dX6_book_137 ?_
        obtain ⟨q140, hq, h⟩ := ax_bd h
        refine ax_cV (rest := []) (st1 := [.int q140]) C hc hz hS hR (M_X2_saintBits (dio_at13 hL) hq) yk_X2_saintBits in_X2_saintBits se_X2_saintBits ml_X6_158 (lk_13 hL) rfl rfl (by decide) rfl hl.1 (Nat.le_of_ble_eq_true rfl) rfl rfl dX6_book_140 (fun H locs hR hS => ?_)
        obtain ⟨q143, hq, h⟩ := ax_bd h
        refine ax_cS (rest := []) (st1 := [.int q143]) C hc hz hS hR (M_J6_bitCount_0f7a4  hq) yk_J6_bitCount_0f7a4 st_J6_bitCount_0f7a4 ml_X6_70 (by decide) rfl hl.1 (Nat.le_of_ble_eq_true rfl) rfl rfl dX6_book_143 (fun H locs hR hS => ?_)
        cases h
        exact ax_iret C hc hz hR hS rfl rfl dX6_book_146
      · have h := ax_iN q0 h
        by_cases q1 : x3 = 1
        · have h := ax_ip q1 h
          refine lv_lookup (off := 37) (tgt := 147) hx hb dX6_book_110 (by decide) (by rw [q1]; rfl) (by decide) ?_
          refine lv_aload_n hx hb dX6_book_147 rfl (lv_at hl 0 rfl) ?_
          refine ax_getV hx hb hts hown hK hR fl_X6_16 (lk_0 hL) rfl dX6_book_148 ?_
          obtain ⟨q151, hq, h⟩ := ax_bd h
          refine ax_cV (rest := []) (st1 := [.int q151]) C hc hz hS hR (M_X2_pursesTogether (dio_at13 hL) hq) yk_X2_pursesTogether in_X2_pursesTogether se_X2_pursesTogether ml_X6_235 (lk_13 hL) rfl rfl (by decide) rfl hl.1 (Nat.le_of_ble_eq_true rfl) rfl rfl dX6_book_151 (fun H locs hR hS => ?_)
          cases h
          exact ax_iret C hc hz hR hS rfl rfl dX6_book_154
        · have h := ax_iN q1 h
          have e0 := ax_nt (z := 0) q0 (by decide)
          have e1 := ax_nt (z := 1) q1 (by decide)
          refine lv_lookup (off := 45) (tgt := 155) hx hb dX6_book_110 (by decide) (by simp [Op.lookupswitch.offset, Ne.symm e0, Ne.symm e1]) (by decide) ?_
          refine lv_aload_n hx hb dX6_book_155 rfl (lv_at hl 0 rfl) ?_
          refine ax_getV hx hb hts hown hK hR fl_X6_16 (lk_0 hL) rfl dX6_book_156 ?_
          obtain ⟨q159, hq, h⟩ := ax_bd h
          refine ax_cV (rest := []) (st1 := [.int q159]) C hc hz hS hR (M_X2_allHeldParts (dio_at13 hL) hq) yk_X2_allHeldParts in_X2_allHeldParts se_X2_allHeldParts ml_X6_238 (lk_13 hL) rfl rfl (by decide) rfl hl.1 (Nat.le_of_ble_eq_true rfl) rfl rfl dX6_book_159 (fun H locs hR hS => ?_)
          cases h
          exact ax_iret C hc hz hR hS rfl rfl dX6_book_162
    · have h := ax_iN q h
      refine lv_bipush (v := 75) hx hb dX6_book_56 (by decide) ?_
      refine lv_iload hx hb dX6_book_58 (lv_at hl 3 rfl) ?_
      refine lv_imul hx hb dX6_book_60 ?_
      refine lv_bipush (v := 74) hx hb dX6_book_61 (by decide) ?_
      refine lv_iadd hx hb dX6_book_63 ?_
      refine lv_ldc hx hb hown (hts _ ct_X6_223) dX6_book_64 ?_
      refine lv_irem hx hb dX6_book_66 (by decide) ?_
      refine lv_istore (lv' := [(4, .int (((75 * x4) + 74) - ((75 * x4) + 74) / 65537 * 65537)), (0, .ref (B + 0)), (2, .int x2), (3, .int x3), (5, .int x5)]) hx hb dX6_book_67 hl (by decide) rfl (fun ls hl => ?_)
      exact t_X6_book_69 hL C ih _ _ _ _ _ h H locs cells slots ls hc hz hR hS (lv_sub hl [1, 2, 3, 0, 4] rfl)
set_option maxRecDepth 100000 in
set_option maxHeartbeats 4000000 in
theorem t_X6_book_0 {lay : List ax_S} {J : ax_J} {rv : Int32} {I9 : ax_I} (hL : ax_LL B lay) (C : ax_C p R s m args meth c yX6_book cX6_book 6 (some .int) 14 E mc ms) : ∀ (I : ax_I) (x1 : Int32) (x2 : Int32) (x3 : Int32), F_X6_book I x1 x2 x3 = some (rv, I9) → AM p l e R s m args below meth c E B lay.length (ax_z lay) 6 (some (.int rv)) lay I9 J lay I J 0 [(0, .ref (B + 0)), (1, .int x1), (2, .int x2), (3, .int x3)] [] := by
  obtain ⟨hx, hb, hr, hml, hown, hts, hlocks, hK, hfr, hlo, hmc, hms, hnm⟩ := id C
  have hown : s.vm.findClass RX6 = some m.cls := hown
  intro I x1 x2 x3 h H locs cells slots ls hc hz hR hS hl
  unfold F_X6_book at h
  refine lv_iload_n hx hb dX6_book_0 rfl (lv_at hl 1 rfl) ?_
  refine lv_iconst (v := 0) hx hb dX6_book_1 (by decide) ?_
  refine lv_sipush (v := 9999) hx hb dX6_book_2 (by decide) ?_
  obtain ⟨q5, hq, h⟩ := ax_bd h
  refine ax_cS (rest := []) (st1 := [.int q5]) C hc hz hS hR (M_X6_within  hq) yk_X6_within st_X6_within ml_X6_58 (by decide) rfl hl.1 (Nat.le_of_ble_eq_true rfl) rfl rfl dX6_book_5 (fun H locs hR hS => ?_)
  refine lv_if_eq (tgt := 30) hx hb dX6_book_8 (by decide) (fun q => ?_) (fun q => ?_)
  · have h := ax_ip q h
    refine lv_bipush (v := (-2)) hx hb dX6_book_30 (by decide) ?_
    cases h
    exact ax_iret C hc hz hR hS rfl rfl dX6_book_32
  · have h := ax_iN q h
    refine lv_iload_n hx hb dX6_book_11 rfl (lv_at hl 2 rfl) ?_
    refine lv_iconst (v := 1) hx hb dX6_book_12 (by decide) ?_
    refine lv_bipush (v := 99) hx hb dX6_book_13 (by decide) ?_
    obtain ⟨q15, hq, h⟩ := ax_bd h
    refine ax_cS (rest := []) (st1 := [.int q15]) C hc hz hS hR (M_X6_within  hq) yk_X6_within st_X6_within ml_X6_58 (by decide) rfl hl.1 (Nat.le_of_ble_eq_true rfl) rfl rfl dX6_book_15 (fun H locs hR hS => ?_)
    refine lv_if_eq (tgt := 30) hx hb dX6_book_18 (by decide) (fun q => ?_) (fun q => ?_)
    · have h := ax_ip q h
      refine lv_bipush (v := (-2)) hx hb dX6_book_30 (by decide) ?_
      cases h
      exact ax_iret C hc hz hR hS rfl rfl dX6_book_32
    · have h := ax_iN q h
      refine lv_iload_n hx hb dX6_book_21 rfl (lv_at hl 3 rfl) ?_
      refine lv_iconst (v := 0) hx hb dX6_book_22 (by decide) ?_
      refine lv_iconst (v := 2) hx hb dX6_book_23 (by decide) ?_
      obtain ⟨q24, hq, h⟩ := ax_bd h
      refine ax_cS (rest := []) (st1 := [.int q24]) C hc hz hS hR (M_X6_within  hq) yk_X6_within st_X6_within ml_X6_58 (by decide) rfl hl.1 (Nat.le_of_ble_eq_true rfl) rfl rfl dX6_book_24 (fun H locs hR hS => ?_)
      refine lv_if_ne (tgt := 33) hx hb dX6_book_27 (by decide) (fun q => ?_) (fun q => ?_)
      · have h := ax_iN q h
        refine lv_aload_n hx hb dX6_book_33 rfl (lv_at hl 0 rfl) ?_
        refine ax_getV hx hb hts hown hK hR fl_X6_16 (lk_0 hL) rfl dX6_book_34 ?_
        refine lv_aload_n hx hb dX6_book_37 rfl (lv_at hl 0 rfl) ?_
        refine ax_getV hx hb hts hown hK hR fl_X6_10 (lk_0 hL) rfl dX6_book_38 ?_
        obtain ⟨q41, hq, h⟩ := ax_bd h
        refine ax_cV (rest := []) (st1 := []) C hc hz hS hR (M_X2_copyFrom (dio_at13 hL) (dio_at1 hL) hq) yk_X2_copyFrom in_X2_copyFrom se_X2_copyFrom ml_X6_151 (lk_13 hL) rfl rfl (by decide) rfl hl.1 (Nat.le_of_ble_eq_true rfl) rfl rfl dX6_book_41 (fun H locs hR hS => ?_)
        refine lv_iload_n hx hb dX6_book_44 rfl (lv_at hl 1 rfl) ?_
        refine lv_istore (lv' := [(4, .int x1), (0, .ref (B + 0)), (1, .int x1), (2, .int x2), (3, .int x3)]) hx hb dX6_book_45 hl (by decide) rfl (fun ls hl => ?_)
        refine lv_iconst (v := 0) hx hb dX6_book_47 (by decide) ?_
        refine lv_istore (lv' := [(5, .int 0), (4, .int x1), (0, .ref (B + 0)), (1, .int x1), (2, .int x2), (3, .int x3)]) hx hb dX6_book_48 hl (by decide) rfl (fun ls hl => ?_)
        exact t_X6_book_50 hL C  ax_N _ _ _ _ _ h H locs cells slots ls hc hz hR hS (lv_sub hl [2, 4, 5, 1, 0] rfl)
      · have h := ax_ip q h
        refine lv_bipush (v := (-2)) hx hb dX6_book_30 (by decide) ?_
        cases h
        exact ax_iret C hc hz hR hS rfl rfl dX6_book_32
theorem M_X6_book {l : Launch} {E : ax_E} {B : Nat} {lay : List ax_S} {I : ax_I} {J : ax_J} {x1 : Int32} {x2 : Int32} {x3 : Int32} {rv : Int32} {I9 : ax_I} (hL : ax_LL B lay) (h : F_X6_book I x1 x2 x3 = some (rv, I9)) : Cm l yX6_book cX6_book 6 (some .int) 14 E B [.ref (B + 0), .int x1, .int x2, .int x3] lay I J (some (.int rv)) lay I9 J :=
  ax_met (by decide) (Nat.le_of_ble_eq_true rfl) (fun p e R s m args below meth c C => t_X6_book_0 hL C _ _ _ _ h)
def F_X6_toldOfChild (I : ax_I) (x1 : Int32) (x2 : Int32) : Option Int32 :=
  (F_X2_isThere I 1 x1).bind (fun q5 => if q5 = 0 then some (-2) else (F_X6_within I x2 10 17).bind (fun q19 => if q19 = 0 then (if x2 = 0 then (if ax_in x1 6 = true then some (I 2 x1.toNatClampNeg) else none) else if x2 = 1 then (if ax_in x1 6 = true then some (I 3 x1.toNatClampNeg) else none) else if x2 = 2 then (if ax_in x1 6 = true then some (I 4 x1.toNatClampNeg) else none) else if x2 = 3 then (F_X2_isFallen I 1 x1).bind (fun q115 => if q115 = 0 then some 0 else some 1) else if x2 = 4 then (if ax_in x1 6 = true then some (I 6 x1.toNatClampNeg) else none) else if x2 = 5 then (if ax_in x1 6 = true then some (I 7 x1.toNatClampNeg) else none) else if x2 = 6 then (if ax_in x1 6 = true then some (I 8 x1.toNatClampNeg) else none) else some (-2)) else (F_X2_holderOf I 1 x1 (x2 - 10)).bind (fun q34 => some q34)))
set_option maxRecDepth 100000 in
set_option maxHeartbeats 4000000 in
theorem t_X6_toldOfChild_0 {lay : List ax_S} {J : ax_J} {rv : Int32} (hL : ax_LL B lay) (C : ax_C p R s m args meth c yX6_toldOfChild cX6_toldOfChild 3 (some .int) 8 E mc ms) : ∀ (I : ax_I) (x1 : Int32) (x2 : Int32), F_X6_toldOfChild I x1 x2 = some rv → AM p l e R s m args below meth c E B lay.length (ax_z lay) 3 (some (.int rv)) lay I J lay I J 0 [(0, .ref (B + 0)), (1, .int x1), (2, .int x2)] [] := by
  obtain ⟨hx, hb, hr, hml, hown, hts, hlocks, hK, hfr, hlo, hmc, hms, hnm⟩ := id C
  have hown : s.vm.findClass RX6 = some m.cls := hown
  intro I x1 x2 h H locs cells slots ls hc hz hR hS hl
  unfold F_X6_toldOfChild at h
  refine lv_aload_n hx hb dX6_toldOfChild_0 rfl (lv_at hl 0 rfl) ?_
  refine ax_getV hx hb hts hown hK hR fl_X6_10 (lk_0 hL) rfl dX6_toldOfChild_1 ?_
  refine lv_iload_n hx hb dX6_toldOfChild_4 rfl (lv_at hl 1 rfl) ?_
  obtain ⟨q5, hq, h⟩ := ax_bd h
  refine ax_cV (rest := []) (st1 := [.int q5]) C hc hz hS hR (M_X2_isThere (dio_at1 hL) hq) yk_X2_isThere in_X2_isThere se_X2_isThere ml_X6_76 (lk_1 hL) rfl rfl (by decide) rfl hl.1 (Nat.le_of_ble_eq_true rfl) rfl rfl dX6_toldOfChild_5 (fun H locs hR hS => ?_)
  refine lv_if_ne (tgt := 14) hx hb dX6_toldOfChild_8 (by decide) (fun q => ?_) (fun q => ?_)
  · have h := ax_iN q h
    refine lv_iload_n hx hb dX6_toldOfChild_14 rfl (lv_at hl 2 rfl) ?_
    refine lv_bipush (v := 10) hx hb dX6_toldOfChild_15 (by decide) ?_
    refine lv_bipush (v := 17) hx hb dX6_toldOfChild_17 (by decide) ?_
    obtain ⟨q19, hq, h⟩ := ax_bd h
    refine ax_cS (rest := []) (st1 := [.int q19]) C hc hz hS hR (M_X6_within  hq) yk_X6_within st_X6_within ml_X6_58 (by decide) rfl hl.1 (Nat.le_of_ble_eq_true rfl) rfl rfl dX6_toldOfChild_19 (fun H locs hR hS => ?_)
    refine lv_if_eq (tgt := 38) hx hb dX6_toldOfChild_22 (by decide) (fun q => ?_) (fun q => ?_)
    · have h := ax_ip q h
      refine lv_iload_n hx hb dX6_toldOfChild_38 rfl (lv_at hl 2 rfl) ?_
      by_cases q0 : x2 = 0
      · have h := ax_ip q0 h
        refine lv_tableIn (off := 41) (tgt := 80) hx hb dX6_toldOfChild_39 (by rw [q0]; decide) (by rw [q0]; decide) (by rw [q0]; rfl) (by decide) ?_
        refine lv_aload_n hx hb dX6_toldOfChild_80 rfl (lv_at hl 0 rfl) ?_
        refine ax_getV hx hb hts hown hK hR fl_X6_10 (lk_0 hL) rfl dX6_toldOfChild_81 ?_
        refine ax_getV hx hb hts hown hK hR fl_X6_126 (lk_1 hL) rfl dX6_toldOfChild_84 ?_
        refine lv_iload_n hx hb dX6_toldOfChild_87 rfl (lv_at hl 1 rfl) ?_
        obtain ⟨hq, h⟩ := ax_ck h
        refine ax_iald hx hb hK hR (lk_2 hL) hq dX6_toldOfChild_88 ?_
        cases h
        exact ax_iret C hc hz hR hS rfl rfl dX6_toldOfChild_89
      · have h := ax_iN q0 h
        by_cases q1 : x2 = 1
        · have h := ax_ip q1 h
          refine lv_tableIn (off := 51) (tgt := 90) hx hb dX6_toldOfChild_39 (by rw [q1]; decide) (by rw [q1]; decide) (by rw [q1]; rfl) (by decide) ?_
          refine lv_aload_n hx hb dX6_toldOfChild_90 rfl (lv_at hl 0 rfl) ?_
          refine ax_getV hx hb hts hown hK hR fl_X6_10 (lk_0 hL) rfl dX6_toldOfChild_91 ?_
          refine ax_getV hx hb hts hown hK hR fl_X6_129 (lk_1 hL) rfl dX6_toldOfChild_94 ?_
          refine lv_iload_n hx hb dX6_toldOfChild_97 rfl (lv_at hl 1 rfl) ?_
          obtain ⟨hq, h⟩ := ax_ck h
          refine ax_iald hx hb hK hR (lk_3 hL) hq dX6_toldOfChild_98 ?_
          cases h
          exact ax_iret C hc hz hR hS rfl rfl dX6_toldOfChild_99
        · have h := ax_iN q1 h
          by_cases q2 : x2 = 2
          · have h := ax_ip q2 h
            refine lv_tableIn (off := 61) (tgt := 100) hx hb dX6_toldOfChild_39 (by rw [q2]; decide) (by rw [q2]; decide) (by rw [q2]; rfl) (by decide) ?_
            refine lv_aload_n hx hb dX6_toldOfChild_100 rfl (lv_at hl 0 rfl) ?_
            refine ax_getV hx hb hts hown hK hR fl_X6_10 (lk_0 hL) rfl dX6_toldOfChild_101 ?_
            refine ax_getV hx hb hts hown hK hR fl_X6_132 (lk_1 hL) rfl dX6_toldOfChild_104 ?_
            refine lv_iload_n hx hb dX6_toldOfChild_107 rfl (lv_at hl 1 rfl) ?_
            obtain ⟨hq, h⟩ := ax_ck h
            refine ax_iald hx hb hK hR (lk_4 hL) hq dX6_toldOfChild_108 ?_
            cases h
            exact ax_iret C hc hz hR hS rfl rfl dX6_toldOfChild_109
          · have h := ax_iN q2 h
            by_cases q3 : x2 = 3
            · have h := ax_ip q3 h
              refine lv_tableIn (off := 71) (tgt := 110) hx hb dX6_toldOfChild_39 (by rw [q3]; decide) (by rw [q3]; decide) (by rw [q3]; rfl) (by decide) ?_
              refine lv_aload_n hx hb dX6_toldOfChild_110 rfl (lv_at hl 0 rfl) ?_
              refine ax_getV hx hb hts hown hK hR fl_X6_10 (lk_0 hL) rfl dX6_toldOfChild_111 ?_
              refine lv_iload_n hx hb dX6_toldOfChild_114 rfl (lv_at hl 1 rfl) ?_
              obtain ⟨q115, hq, h⟩ := ax_bd h
              refine ax_cV (rest := []) (st1 := [.int q115]) C hc hz hS hR (M_X2_isFallen (dio_at1 hL) hq) yk_X2_isFallen in_X2_isFallen se_X2_isFallen ml_X6_138 (lk_1 hL) rfl rfl (by decide) rfl hl.1 (Nat.le_of_ble_eq_true rfl) rfl rfl dX6_toldOfChild_115 (fun H locs hR hS => ?_)
              refine lv_if_eq (tgt := 125) hx hb dX6_toldOfChild_118 (by decide) (fun q => ?_) (fun q => ?_)
              · have h := ax_ip q h
                refine lv_iconst (v := 0) hx hb dX6_toldOfChild_125 (by decide) ?_
                cases h
                exact ax_iret C hc hz hR hS rfl rfl dX6_toldOfChild_126
              · have h := ax_iN q h
                refine lv_iconst (v := 1) hx hb dX6_toldOfChild_121 (by decide) ?_
                refine lv_goto (tgt := 126) hx hb dX6_toldOfChild_122 (by decide) ?_
                cases h
                exact ax_iret C hc hz hR hS rfl rfl dX6_toldOfChild_126
            · have h := ax_iN q3 h
              by_cases q4 : x2 = 4
              · have h := ax_ip q4 h
                refine lv_tableIn (off := 88) (tgt := 127) hx hb dX6_toldOfChild_39 (by rw [q4]; decide) (by rw [q4]; decide) (by rw [q4]; rfl) (by decide) ?_
                refine lv_aload_n hx hb dX6_toldOfChild_127 rfl (lv_at hl 0 rfl) ?_
                refine ax_getV hx hb hts hown hK hR fl_X6_10 (lk_0 hL) rfl dX6_toldOfChild_128 ?_
                refine ax_getV hx hb hts hown hK hR fl_X6_94 (lk_1 hL) rfl dX6_toldOfChild_131 ?_
                refine lv_iload_n hx hb dX6_toldOfChild_134 rfl (lv_at hl 1 rfl) ?_
                obtain ⟨hq, h⟩ := ax_ck h
                refine ax_iald hx hb hK hR (lk_6 hL) hq dX6_toldOfChild_135 ?_
                cases h
                exact ax_iret C hc hz hR hS rfl rfl dX6_toldOfChild_136
              · have h := ax_iN q4 h
                by_cases q5 : x2 = 5
                · have h := ax_ip q5 h
                  refine lv_tableIn (off := 98) (tgt := 137) hx hb dX6_toldOfChild_39 (by rw [q5]; decide) (by rw [q5]; decide) (by rw [q5]; rfl) (by decide) ?_
                  refine lv_aload_n hx hb dX6_toldOfChild_137 rfl (lv_at hl 0 rfl) ?_
                  refine ax_getV hx hb hts hown hK hR fl_X6_10 (lk_0 hL) rfl dX6_toldOfChild_138 ?_
                  refine ax_getV hx hb hts hown hK hR fl_X6_97 (lk_1 hL) rfl dX6_toldOfChild_141 ?_
                  refine lv_iload_n hx hb dX6_toldOfChild_144 rfl (lv_at hl 1 rfl) ?_
                  obtain ⟨hq, h⟩ := ax_ck h
                  refine ax_iald hx hb hK hR (lk_7 hL) hq dX6_toldOfChild_145 ?_
                  cases h
                  exact ax_iret C hc hz hR hS rfl rfl dX6_toldOfChild_146
                · have h := ax_iN q5 h
                  by_cases q6 : x2 = 6
                  · have h := ax_ip q6 h
                    refine lv_tableIn (off := 108) (tgt := 147) hx hb dX6_toldOfChild_39 (by rw [q6]; decide) (by rw [q6]; decide) (by rw [q6]; rfl) (by decide) ?_
                    refine lv_aload_n hx hb dX6_toldOfChild_147 rfl (lv_at hl 0 rfl) ?_
                    refine ax_getV hx hb hts hown hK hR fl_X6_10 (lk_0 hL) rfl dX6_toldOfChild_148 ?_
                    refine ax_getV hx hb hts hown hK hR fl_X6_91 (lk_1 hL) rfl dX6_toldOfChild_151 ?_
                    refine lv_iload_n hx hb dX6_toldOfChild_154 rfl (lv_at hl 1 rfl) ?_
                    obtain ⟨hq, h⟩ := ax_ck h
                    refine ax_iald hx hb hK hR (lk_8 hL) hq dX6_toldOfChild_155 ?_
                    cases h
                    exact ax_iret C hc hz hR hS rfl rfl dX6_toldOfChild_156
                  · have h := ax_iN q6 h
                    have e0 := ax_nt (z := 0) q0 (by decide)
                    have e1 := ax_nt (z := 1) q1 (by decide)
                    have e2 := ax_nt (z := 2) q2 (by decide)
                    have e3 := ax_nt (z := 3) q3 (by decide)
                    have e4 := ax_nt (z := 4) q4 (by decide)
                    have e5 := ax_nt (z := 5) q5 (by decide)
                    have e6 := ax_nt (z := 6) q6 (by decide)
                    refine lv_tableOut (tgt := 157) hx hb dX6_toldOfChild_39 (by omega) (by decide) ?_
                    refine lv_bipush (v := (-2)) hx hb dX6_toldOfChild_157 (by decide) ?_
                    cases h
                    exact ax_iret C hc hz hR hS rfl rfl dX6_toldOfChild_159
    · have h := ax_iN q h
      refine lv_aload_n hx hb dX6_toldOfChild_25 rfl (lv_at hl 0 rfl) ?_
      refine ax_getV hx hb hts hown hK hR fl_X6_10 (lk_0 hL) rfl dX6_toldOfChild_26 ?_
      refine lv_iload_n hx hb dX6_toldOfChild_29 rfl (lv_at hl 1 rfl) ?_
      refine lv_iload_n hx hb dX6_toldOfChild_30 rfl (lv_at hl 2 rfl) ?_
      refine lv_bipush (v := 10) hx hb dX6_toldOfChild_31 (by decide) ?_
      refine lv_isub hx hb dX6_toldOfChild_33 ?_
      obtain ⟨q34, hq, h⟩ := ax_bd h
      refine ax_cV (rest := []) (st1 := [.int q34]) C hc hz hS hR (M_X2_holderOf (dio_at1 hL) hq) yk_X2_holderOf in_X2_holderOf se_X2_holderOf ml_X6_247 (lk_1 hL) rfl rfl (by decide) rfl hl.1 (Nat.le_of_ble_eq_true rfl) rfl rfl dX6_toldOfChild_34 (fun H locs hR hS => ?_)
      cases h
      exact ax_iret C hc hz hR hS rfl rfl dX6_toldOfChild_37
  · have h := ax_ip q h
    refine lv_bipush (v := (-2)) hx hb dX6_toldOfChild_11 (by decide) ?_
    cases h
    exact ax_iret C hc hz hR hS rfl rfl dX6_toldOfChild_13
theorem M_X6_toldOfChild {l : Launch} {E : ax_E} {B : Nat} {lay : List ax_S} {I : ax_I} {J : ax_J} {x1 : Int32} {x2 : Int32} {rv : Int32} (hL : ax_LL B lay) (h : F_X6_toldOfChild I x1 x2 = some rv) : Cm l yX6_toldOfChild cX6_toldOfChild 3 (some .int) 8 E B [.ref (B + 0), .int x1, .int x2] lay I J (some (.int rv)) lay I J :=
  ax_met (by decide) (Nat.le_of_ble_eq_true rfl) (fun p e R s m args below meth c C => t_X6_toldOfChild_0 hL C _ _ _ h)
def F_X6_told (I : ax_I) (x1 : Int32) : Option Int32 :=
  (F_X6_within I x1 50 349).bind (fun q6 => if q6 = 0 then (F_X6_within I x1 10 13).bind (fun q32 => if q32 = 0 then (F_X6_within I x1 20 27).bind (fun q56 => if q56 = 0 then (if x1 = 0 then some (I 26 1) else if x1 = 1 then some (I 1 0) else if x1 = 2 then some (I 10 (0 : Int32).toNatClampNeg) else if x1 = 3 then some (I 10 (1 : Int32).toNatClampNeg) else if x1 = 4 then some (I 10 (2 : Int32).toNatClampNeg) else if x1 = 5 then some (I 1 2) else if x1 = 6 then some (I 1 3) else some (-2)) else if ax_in (x1 - 20) 8 = true then some (I 11 (x1 - 20).toNatClampNeg) else none) else if ax_in (x1 - 10) 4 = true then some (I 9 (x1 - 10).toNatClampNeg) else none) else (F_X6_toldOfChild I ((x1 / 50) - 1) (x1 - x1 / 50 * 50)).bind (fun q23 => some q23))
set_option maxRecDepth 100000 in
set_option maxHeartbeats 4000000 in
theorem t_X6_told_0 {lay : List ax_S} {J : ax_J} {rv : Int32} (hL : ax_LL B lay) (C : ax_C p R s m args meth c yX6_told cX6_told 2 (some .int) 10 E mc ms) : ∀ (I : ax_I) (x1 : Int32), F_X6_told I x1 = some rv → AM p l e R s m args below meth c E B lay.length (ax_z lay) 2 (some (.int rv)) lay I J lay I J 0 [(0, .ref (B + 0)), (1, .int x1)] [] := by
  obtain ⟨hx, hb, hr, hml, hown, hts, hlocks, hK, hfr, hlo, hmc, hms, hnm⟩ := id C
  have hown : s.vm.findClass RX6 = some m.cls := hown
  intro I x1 h H locs cells slots ls hc hz hR hS hl
  unfold F_X6_told at h
  refine lv_iload_n hx hb dX6_told_0 rfl (lv_at hl 1 rfl) ?_
  refine lv_bipush (v := 50) hx hb dX6_told_1 (by decide) ?_
  refine lv_sipush (v := 349) hx hb dX6_told_3 (by decide) ?_
  obtain ⟨q6, hq, h⟩ := ax_bd h
  refine ax_cS (rest := []) (st1 := [.int q6]) C hc hz hS hR (M_X6_within  hq) yk_X6_within st_X6_within ml_X6_58 (by decide) rfl hl.1 (Nat.le_of_ble_eq_true rfl) rfl rfl dX6_told_6 (fun H locs hR hS => ?_)
  refine lv_if_eq (tgt := 27) hx hb dX6_told_9 (by decide) (fun q => ?_) (fun q => ?_)
  · have h := ax_ip q h
    refine lv_iload_n hx hb dX6_told_27 rfl (lv_at hl 1 rfl) ?_
    refine lv_bipush (v := 10) hx hb dX6_told_28 (by decide) ?_
    refine lv_bipush (v := 13) hx hb dX6_told_30 (by decide) ?_
    obtain ⟨q32, hq, h⟩ := ax_bd h
    refine ax_cS (rest := []) (st1 := [.int q32]) C hc hz hS hR (M_X6_within  hq) yk_X6_within st_X6_within ml_X6_58 (by decide) rfl hl.1 (Nat.le_of_ble_eq_true rfl) rfl rfl dX6_told_32 (fun H locs hR hS => ?_)
    refine lv_if_eq (tgt := 51) hx hb dX6_told_35 (by decide) (fun q => ?_) (fun q => ?_)
    · have h := ax_ip q h
      refine lv_iload_n hx hb dX6_told_51 rfl (lv_at hl 1 rfl) ?_
      refine lv_bipush (v := 20) hx hb dX6_told_52 (by decide) ?_
      refine lv_bipush (v := 27) hx hb dX6_told_54 (by decide) ?_
      obtain ⟨q56, hq, h⟩ := ax_bd h
      refine ax_cS (rest := []) (st1 := [.int q56]) C hc hz hS hR (M_X6_within  hq) yk_X6_within st_X6_within ml_X6_58 (by decide) rfl hl.1 (Nat.le_of_ble_eq_true rfl) rfl rfl dX6_told_56 (fun H locs hR hS => ?_)
      refine lv_if_eq (tgt := 75) hx hb dX6_told_59 (by decide) (fun q => ?_) (fun q => ?_)
      · have h := ax_ip q h
        refine lv_iload_n hx hb dX6_told_75 rfl (lv_at hl 1 rfl) ?_
        by_cases q0 : x1 = 0
        · have h := ax_ip q0 h
          refine lv_tableIn (off := 44) (tgt := 120) hx hb dX6_told_76 (by rw [q0]; decide) (by rw [q0]; decide) (by rw [q0]; rfl) (by decide) ?_
          refine lv_aload_n hx hb dX6_told_120 rfl (lv_at hl 0 rfl) ?_
          refine ax_getV hx hb hts hown hK hR fl_X6_26 (lk_0 hL) rfl dX6_told_121 ?_
          refine ax_getI hx hb hts hown hK hR fl_X6_103 (lk_26 hL) rfl dX6_told_124 ?_
          cases h
          exact ax_iret C hc hz hR hS rfl rfl dX6_told_127
        · have h := ax_iN q0 h
          by_cases q1 : x1 = 1
          · have h := ax_ip q1 h
            refine lv_tableIn (off := 52) (tgt := 128) hx hb dX6_told_76 (by rw [q1]; decide) (by rw [q1]; decide) (by rw [q1]; rfl) (by decide) ?_
            refine lv_aload_n hx hb dX6_told_128 rfl (lv_at hl 0 rfl) ?_
            refine ax_getV hx hb hts hown hK hR fl_X6_10 (lk_0 hL) rfl dX6_told_129 ?_
            refine ax_getI hx hb hts hown hK hR fl_X6_66 (lk_1 hL) rfl dX6_told_132 ?_
            cases h
            exact ax_iret C hc hz hR hS rfl rfl dX6_told_135
          · have h := ax_iN q1 h
            by_cases q2 : x1 = 2
            · have h := ax_ip q2 h
              refine lv_tableIn (off := 60) (tgt := 136) hx hb dX6_told_76 (by rw [q2]; decide) (by rw [q2]; decide) (by rw [q2]; rfl) (by decide) ?_
              refine lv_aload_n hx hb dX6_told_136 rfl (lv_at hl 0 rfl) ?_
              refine ax_getV hx hb hts hown hK hR fl_X6_10 (lk_0 hL) rfl dX6_told_137 ?_
              refine ax_getV hx hb hts hown hK hR fl_X6_84 (lk_1 hL) rfl dX6_told_140 ?_
              refine lv_iconst (v := 0) hx hb dX6_told_143 (by decide) ?_
              refine ax_iald hx hb hK hR (lk_10 hL) (by decide) dX6_told_144 ?_
              cases h
              exact ax_iret C hc hz hR hS rfl rfl dX6_told_145
            · have h := ax_iN q2 h
              by_cases q3 : x1 = 3
              · have h := ax_ip q3 h
                refine lv_tableIn (off := 70) (tgt := 146) hx hb dX6_told_76 (by rw [q3]; decide) (by rw [q3]; decide) (by rw [q3]; rfl) (by decide) ?_
                refine lv_aload_n hx hb dX6_told_146 rfl (lv_at hl 0 rfl) ?_
                refine ax_getV hx hb hts hown hK hR fl_X6_10 (lk_0 hL) rfl dX6_told_147 ?_
                refine ax_getV hx hb hts hown hK hR fl_X6_84 (lk_1 hL) rfl dX6_told_150 ?_
                refine lv_iconst (v := 1) hx hb dX6_told_153 (by decide) ?_
                refine ax_iald hx hb hK hR (lk_10 hL) (by decide) dX6_told_154 ?_
                cases h
                exact ax_iret C hc hz hR hS rfl rfl dX6_told_155
              · have h := ax_iN q3 h
                by_cases q4 : x1 = 4
                · have h := ax_ip q4 h
                  refine lv_tableIn (off := 80) (tgt := 156) hx hb dX6_told_76 (by rw [q4]; decide) (by rw [q4]; decide) (by rw [q4]; rfl) (by decide) ?_
                  refine lv_aload_n hx hb dX6_told_156 rfl (lv_at hl 0 rfl) ?_
                  refine ax_getV hx hb hts hown hK hR fl_X6_10 (lk_0 hL) rfl dX6_told_157 ?_
                  refine ax_getV hx hb hts hown hK hR fl_X6_84 (lk_1 hL) rfl dX6_told_160 ?_
                  refine lv_iconst (v := 2) hx hb dX6_told_163 (by decide) ?_
                  refine ax_iald hx hb hK hR (lk_10 hL) (by decide) dX6_told_164 ?_
                  cases h
                  exact ax_iret C hc hz hR hS rfl rfl dX6_told_165
                · have h := ax_iN q4 h
                  by_cases q5 : x1 = 5
                  · have h := ax_ip q5 h
                    refine lv_tableIn (off := 90) (tgt := 166) hx hb dX6_told_76 (by rw [q5]; decide) (by rw [q5]; decide) (by rw [q5]; rfl) (by decide) ?_
                    refine lv_aload_n hx hb dX6_told_166 rfl (lv_at hl 0 rfl) ?_
                    refine ax_getV hx hb hts hown hK hR fl_X6_10 (lk_0 hL) rfl dX6_told_167 ?_
                    refine ax_getI hx hb hts hown hK hR fl_X6_244 (lk_1 hL) rfl dX6_told_170 ?_
                    cases h
                    exact ax_iret C hc hz hR hS rfl rfl dX6_told_173
                  · have h := ax_iN q5 h
                    by_cases q6 : x1 = 6
                    · have h := ax_ip q6 h
                      refine lv_tableIn (off := 98) (tgt := 174) hx hb dX6_told_76 (by rw [q6]; decide) (by rw [q6]; decide) (by rw [q6]; rfl) (by decide) ?_
                      refine lv_aload_n hx hb dX6_told_174 rfl (lv_at hl 0 rfl) ?_
                      refine ax_getV hx hb hts hown hK hR fl_X6_10 (lk_0 hL) rfl dX6_told_175 ?_
                      refine ax_getI hx hb hts hown hK hR fl_X6_206 (lk_1 hL) rfl dX6_told_178 ?_
                      cases h
                      exact ax_iret C hc hz hR hS rfl rfl dX6_told_181
                    · have h := ax_iN q6 h
                      have e0 := ax_nt (z := 0) q0 (by decide)
                      have e1 := ax_nt (z := 1) q1 (by decide)
                      have e2 := ax_nt (z := 2) q2 (by decide)
                      have e3 := ax_nt (z := 3) q3 (by decide)
                      have e4 := ax_nt (z := 4) q4 (by decide)
                      have e5 := ax_nt (z := 5) q5 (by decide)
                      have e6 := ax_nt (z := 6) q6 (by decide)
                      refine lv_tableOut (tgt := 182) hx hb dX6_told_76 (by omega) (by decide) ?_
                      refine lv_bipush (v := (-2)) hx hb dX6_told_182 (by decide) ?_
                      cases h
                      exact ax_iret C hc hz hR hS rfl rfl dX6_told_184
      · have h := ax_iN q h
        refine lv_aload_n hx hb dX6_told_62 rfl (lv_at hl 0 rfl) ?_
        refine ax_getV hx hb hts hown hK hR fl_X6_10 (lk_0 hL) rfl dX6_told_63 ?_
        refine ax_getV hx hb hts hown hK hR fl_X6_100 (lk_1 hL) rfl dX6_told_66 ?_
        refine lv_iload_n hx hb dX6_told_69 rfl (lv_at hl 1 rfl) ?_
        refine lv_bipush (v := 20) hx hb dX6_told_70 (by decide) ?_
        refine lv_isub hx hb dX6_told_72 ?_
        obtain ⟨hq, h⟩ := ax_ck h
        refine ax_iald hx hb hK hR (lk_11 hL) hq dX6_told_73 ?_
        cases h
        exact ax_iret C hc hz hR hS rfl rfl dX6_told_74
    · have h := ax_iN q h
      refine lv_aload_n hx hb dX6_told_38 rfl (lv_at hl 0 rfl) ?_
      refine ax_getV hx hb hts hown hK hR fl_X6_10 (lk_0 hL) rfl dX6_told_39 ?_
      refine ax_getV hx hb hts hown hK hR fl_X6_88 (lk_1 hL) rfl dX6_told_42 ?_
      refine lv_iload_n hx hb dX6_told_45 rfl (lv_at hl 1 rfl) ?_
      refine lv_bipush (v := 10) hx hb dX6_told_46 (by decide) ?_
      refine lv_isub hx hb dX6_told_48 ?_
      obtain ⟨hq, h⟩ := ax_ck h
      refine ax_iald hx hb hK hR (lk_9 hL) hq dX6_told_49 ?_
      cases h
      exact ax_iret C hc hz hR hS rfl rfl dX6_told_50
  · have h := ax_iN q h
    refine lv_aload_n hx hb dX6_told_12 rfl (lv_at hl 0 rfl) ?_
    refine lv_iload_n hx hb dX6_told_13 rfl (lv_at hl 1 rfl) ?_
    refine lv_bipush (v := 50) hx hb dX6_told_14 (by decide) ?_
    refine lv_idiv hx hb dX6_told_16 (by decide) ?_
    refine lv_iconst (v := 1) hx hb dX6_told_17 (by decide) ?_
    refine lv_isub hx hb dX6_told_18 ?_
    refine lv_iload_n hx hb dX6_told_19 rfl (lv_at hl 1 rfl) ?_
    refine lv_bipush (v := 50) hx hb dX6_told_20 (by decide) ?_
    refine lv_irem hx hb dX6_told_22 (by decide) ?_
    obtain ⟨q23, hq, h⟩ := ax_bd h
    refine ax_cV (rest := []) (st1 := [.int q23]) C hc hz hS hR (M_X6_toldOfChild hL hq) yk_X6_toldOfChild in_X6_toldOfChild se_X6_toldOfChild ml_X6_241 (lk_0 hL) rfl rfl (by decide) rfl hl.1 (Nat.le_of_ble_eq_true rfl) rfl rfl dX6_told_23 (fun H locs hR hS => ?_)
    cases h
    exact ax_iret C hc hz hR hS rfl rfl dX6_told_26
theorem M_X6_told {l : Launch} {E : ax_E} {B : Nat} {lay : List ax_S} {I : ax_I} {J : ax_J} {x1 : Int32} {rv : Int32} (hL : ax_LL B lay) (h : F_X6_told I x1 = some rv) : Cm l yX6_told cX6_told 2 (some .int) 10 E B [.ref (B + 0), .int x1] lay I J (some (.int rv)) lay I J :=
  ax_met (by decide) (Nat.le_of_ble_eq_true rfl) (fun p e R s m args below meth c C => t_X6_told_0 hL C _ _ h)
def F_X7_in (I : ax_I) (x0 : Int64) (x2 : Int64) (x4 : Int64) : Option Int32 :=
  if (lg_cmp x0 x2) < 0 then some 0 else if 0 < (lg_cmp x0 x4) then some 0 else some 1
set_option maxRecDepth 100000 in
set_option maxHeartbeats 4000000 in
theorem t_X7_in_0 {lay : List ax_S} {J : ax_J} {rv : Int32} (C : ax_C p R s m args meth c yX7_in cX7_in 6 (some .boolean) 2 E mc ms) : ∀ (I : ax_I) (x0 : Int64) (x2 : Int64) (x4 : Int64), F_X7_in I x0 x2 x4 = some rv → AM p l e R s m args below meth c E B lay.length (ax_z lay) 6 (some (.int rv)) lay I J lay I J 0 [(0, .long x0), (2, .long x2), (4, .long x4)] [] := by
  obtain ⟨hx, hb, hr, hml, hown, hts, hlocks, hK, hfr, hlo, hmc, hms, hnm⟩ := id C
  have hown : s.vm.findClass RX7 = some m.cls := hown
  intro I x0 x2 x4 h H locs cells slots ls hc hz hR hS hl
  unfold F_X7_in at h
  refine lv_lload_n hx hb dX7_in_0 rfl (lv_at hl 0 rfl) ?_
  refine lv_lload_n hx hb dX7_in_1 rfl (lv_at hl 1 rfl) ?_
  refine W.lcmp hx hb dX7_in_2 ?_
  refine lv_if_lt (tgt := 17) hx hb dX7_in_3 (by decide) (fun q => ?_) (fun q => ?_)
  · have h := ax_ip q h
    refine lv_iconst (v := 0) hx hb dX7_in_17 (by decide) ?_
    cases h
    exact ax_iret C hc hz hR hS rfl ax_bool_n0 dX7_in_18
  · have h := ax_iN q h
    refine lv_lload_n hx hb dX7_in_6 rfl (lv_at hl 0 rfl) ?_
    refine lv_lload hx hb dX7_in_7 (lv_at hl 2 rfl) ?_
    refine W.lcmp hx hb dX7_in_9 ?_
    refine lv_if_gt (tgt := 17) hx hb dX7_in_10 (by decide) (fun q => ?_) (fun q => ?_)
    · have h := ax_ip q h
      refine lv_iconst (v := 0) hx hb dX7_in_17 (by decide) ?_
      cases h
      exact ax_iret C hc hz hR hS rfl ax_bool_n0 dX7_in_18
    · have h := ax_iN q h
      refine lv_iconst (v := 1) hx hb dX7_in_13 (by decide) ?_
      refine lv_goto (tgt := 18) hx hb dX7_in_14 (by decide) ?_
      cases h
      exact ax_iret C hc hz hR hS rfl ax_bool_n1 dX7_in_18
theorem M_X7_in {l : Launch} {E : ax_E} {B : Nat} {lay : List ax_S} {I : ax_I} {J : ax_J} {x0 : Int64} {x2 : Int64} {x4 : Int64} {rv : Int32} (h : F_X7_in I x0 x2 x4 = some rv) : Cm l yX7_in cX7_in 6 (some .boolean) 2 E B [.long x0, .long x2, .long x4] lay I J (some (.int rv)) lay I J :=
  ax_met (by decide) (Nat.le_of_ble_eq_true rfl) (fun p e R s m args below meth c C => t_X7_in_0  C _ _ _ _ h)
def f_X7_ones_4 : Nat → ax_I → Int32 → Int32 → Option Int32
  | 0, _, _, _ => none
  | n + 1, I, x1, x2 => if x2 = 0 then some x1 else f_X7_ones_4 n I (x1 + 1) (x2 &&& (x2 - 1))
def F_X7_ones (I : ax_I) (x0 : Int32) : Option Int32 :=
  f_X7_ones_4 ax_N I 0 x0
set_option maxRecDepth 100000 in
set_option maxHeartbeats 4000000 in
theorem t_X7_ones_4 {lay : List ax_S} {J : ax_J} {rv : Int32} (C : ax_C p R s m args meth c yX7_ones cX7_ones 3 (some .int) 2 E mc ms) : ∀ (n : Nat) (I : ax_I) (x1 : Int32) (x2 : Int32), f_X7_ones_4 n I x1 x2 = some rv → AM p l e R s m args below meth c E B lay.length (ax_z lay) 3 (some (.int rv)) lay I J lay I J 4 [(1, .int x1), (2, .int x2)] [] := by
  obtain ⟨hx, hb, hr, hml, hown, hts, hlocks, hK, hfr, hlo, hmc, hms, hnm⟩ := id C
  have hown : s.vm.findClass RX7 = some m.cls := hown
  intro n
  induction n with
  | zero => intro I x1 x2 h; cases h
  | succ n ih =>
    intro I x1 x2 h H locs cells slots ls hc hz hR hS hl
    rw [f_X7_ones_4] at h
    refine lv_iload_n hx hb dX7_ones_4 rfl (lv_at hl 1 rfl) ?_
    refine lv_if_eq (tgt := 20) hx hb dX7_ones_5 (by decide) (fun q => ?_) (fun q => ?_)
    · have h := ax_ip q h
      refine lv_iload_n hx hb dX7_ones_20 rfl (lv_at hl 0 rfl) ?_
      cases h
      exact ax_iret C hc hz hR hS rfl rfl dX7_ones_21
    · have h := ax_iN q h
      refine lv_iinc (v := (x1 + 1)) (lv' := [(1, .int (x1 + 1)), (2, .int x2)]) hx hb dX7_ones_8 hl (k := 0) rfl rfl (by decide) rfl (fun ls hl => ?_)
      refine lv_iload_n hx hb dX7_ones_11 rfl (lv_at hl 1 rfl) ?_
      refine lv_iload_n hx hb dX7_ones_12 rfl (lv_at hl 1 rfl) ?_
      refine lv_iconst (v := 1) hx hb dX7_ones_13 (by decide) ?_
      refine lv_isub hx hb dX7_ones_14 ?_
      refine lv_iand hx hb dX7_ones_15 ?_
      refine lv_istore_n (lv' := [(2, .int (x2 &&& (x2 - 1))), (1, .int (x1 + 1))]) hx hb dX7_ones_16 rfl hl (by decide) rfl (fun ls hl => ?_)
      refine lv_goto (tgt := 4) hx hb dX7_ones_17 (by decide) ?_
      exact ih _ _ _ h H locs cells slots ls hc hz hR hS (lv_sub hl [1, 0] rfl)
set_option maxRecDepth 100000 in
set_option maxHeartbeats 4000000 in
theorem t_X7_ones_0 {lay : List ax_S} {J : ax_J} {rv : Int32} (C : ax_C p R s m args meth c yX7_ones cX7_ones 3 (some .int) 2 E mc ms) : ∀ (I : ax_I) (x0 : Int32), F_X7_ones I x0 = some rv → AM p l e R s m args below meth c E B lay.length (ax_z lay) 3 (some (.int rv)) lay I J lay I J 0 [(0, .int x0)] [] := by
  obtain ⟨hx, hb, hr, hml, hown, hts, hlocks, hK, hfr, hlo, hmc, hms, hnm⟩ := id C
  have hown : s.vm.findClass RX7 = some m.cls := hown
  intro I x0 h H locs cells slots ls hc hz hR hS hl
  unfold F_X7_ones at h
  refine lv_iconst (v := 0) hx hb dX7_ones_0 (by decide) ?_
  refine lv_istore_n (lv' := [(1, .int 0), (0, .int x0)]) hx hb dX7_ones_1 rfl hl (by decide) rfl (fun ls hl => ?_)
  refine lv_iload_n hx hb dX7_ones_2 rfl (lv_at hl 1 rfl) ?_
  refine lv_istore_n (lv' := [(2, .int x0), (1, .int 0), (0, .int x0)]) hx hb dX7_ones_3 rfl hl (by decide) rfl (fun ls hl => ?_)
  exact t_X7_ones_4  C  ax_N _ _ _ h H locs cells slots ls hc hz hR hS (lv_sub hl [1, 0] rfl)
theorem M_X7_ones {l : Launch} {E : ax_E} {B : Nat} {lay : List ax_S} {I : ax_I} {J : ax_J} {x0 : Int32} {rv : Int32} (h : F_X7_ones I x0 = some rv) : Cm l yX7_ones cX7_ones 3 (some .int) 2 E B [.int x0] lay I J (some (.int rv)) lay I J :=
  ax_met (by decide) (Nat.le_of_ble_eq_true rfl) (fun p e R s m args below meth c C => t_X7_ones_0  C _ _ h)
def F_X7_isNumber (I : ax_I) (x0 : Int32) : Option Int32 :=
  (F_X7_in I ((x0 : Int32).toInt64) 0 5).bind (fun q6 => if ax_bool q6 = true then some q6 else none)
set_option maxRecDepth 100000 in
set_option maxHeartbeats 4000000 in
theorem t_X7_isNumber_0 {lay : List ax_S} {J : ax_J} {rv : Int32} (C : ax_C p R s m args meth c yX7_isNumber cX7_isNumber 1 (some .boolean) 4 E mc ms) : ∀ (I : ax_I) (x0 : Int32), F_X7_isNumber I x0 = some rv → AM p l e R s m args below meth c E B lay.length (ax_z lay) 1 (some (.int rv)) lay I J lay I J 0 [(0, .int x0)] [] := by
  obtain ⟨hx, hb, hr, hml, hown, hts, hlocks, hK, hfr, hlo, hmc, hms, hnm⟩ := id C
  have hown : s.vm.findClass RX7 = some m.cls := hown
  intro I x0 h H locs cells slots ls hc hz hR hS hl
  unfold F_X7_isNumber at h
  refine lv_iload_n hx hb dX7_isNumber_0 rfl (lv_at hl 0 rfl) ?_
  refine lv_i2l hx hb dX7_isNumber_1 rfl ?_
  refine lv_lconst (v := 0) hx hb dX7_isNumber_2 (by decide) ?_
  refine lv_ldc2 hx hb hown (hts _ ct_X7_87) dX7_isNumber_3 ?_
  obtain ⟨q6, hq, h⟩ := ax_bd h
  refine ax_cS (rest := []) (st1 := [.int q6]) C hc hz hS hR (M_X7_in  hq) yk_X7_in st_X7_in ml_X7_89 (by decide) rfl hl.1 (Nat.le_of_ble_eq_true rfl) rfl rfl dX7_isNumber_6 (fun H locs hR hS => ?_)
  obtain ⟨hq, h⟩ := ax_ck h
  cases h
  exact ax_iret C hc hz hR hS rfl (ax_bool_n hq) dX7_isNumber_9
theorem M_X7_isNumber {l : Launch} {E : ax_E} {B : Nat} {lay : List ax_S} {I : ax_I} {J : ax_J} {x0 : Int32} {rv : Int32} (h : F_X7_isNumber I x0 = some rv) : Cm l yX7_isNumber cX7_isNumber 1 (some .boolean) 4 E B [.int x0] lay I J (some (.int rv)) lay I J :=
  ax_met (by decide) (Nat.le_of_ble_eq_true rfl) (fun p e R s m args below meth c C => t_X7_isNumber_0  C _ _ h)
end GEN
