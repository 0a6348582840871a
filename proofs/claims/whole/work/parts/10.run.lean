section GEN
variable {p : Program} {l : Launch} {e : Env} {R : Room} {s : State} {m : MethodId} {args : Array Value} {below : List Frame} {meth : Method} {c : Code} {E : ax_E} {B mc ms : Nat}
def F_X0_put (I : ax_I) (a : Nat) (x1 : Int32) (x2 : Int32) (x3 : Int32) (x4 : Int32) : Option ax_I :=
  some (ax_u (ax_u (ax_u (ax_u I a 0 x1) a 1 x2) a 2 x3) a 3 x4)
set_option maxRecDepth 100000 in
set_option maxHeartbeats 4000000 in
theorem t_X0_put_0 {lay : List ax_S} {a : Nat} {J : ax_J} {I9 : ax_I} (hAa : lay[a]? = some ax_Ac) (C : ax_C p R s m args meth c yX0_put cX0_put 5 none 2 E mc ms) : ∀ (I : ax_I) (x1 : Int32) (x2 : Int32) (x3 : Int32) (x4 : Int32), F_X0_put I a x1 x2 x3 x4 = some I9 → AM p l e R s m args below meth c E B lay.length (ax_z lay) 5 none lay I9 J lay I J 0 [(0, .ref (B + a)), (1, .int x1), (2, .int x2), (3, .int x3), (4, .int x4)] [] := by
  obtain ⟨hx, hb, hr, hml, hown, hts, hlocks, hK, hfr, hlo, hmc, hms, hnm⟩ := id C
  have hown : s.vm.findClass RX0 = some m.cls := hown
  intro I x1 x2 x3 x4 h H locs cells slots ls hc hz hR hS hl
  unfold F_X0_put at h
  refine lv_aload_n hx hb dX0_put_0 rfl (lv_at hl 0 rfl) ?_
  refine lv_iload_n hx hb dX0_put_1 rfl (lv_at hl 1 rfl) ?_
  refine ax_putI hx hb hts hown hK hR hS fp_X0_7 hAa rfl rfl rfl dX0_put_2 (fun H locs hR hS => ?_)
  refine lv_aload_n hx hb dX0_put_5 rfl (lv_at hl 0 rfl) ?_
  refine lv_iload_n hx hb dX0_put_6 rfl (lv_at hl 2 rfl) ?_
  refine ax_putI hx hb hts hown hK hR hS fp_X0_13 hAa rfl rfl rfl dX0_put_7 (fun H locs hR hS => ?_)
  refine lv_aload_n hx hb dX0_put_10 rfl (lv_at hl 0 rfl) ?_
  refine lv_iload_n hx hb dX0_put_11 rfl (lv_at hl 3 rfl) ?_
  refine ax_putI hx hb hts hown hK hR hS fp_X0_16 hAa rfl rfl rfl dX0_put_12 (fun H locs hR hS => ?_)
  refine lv_aload_n hx hb dX0_put_15 rfl (lv_at hl 0 rfl) ?_
  refine lv_iload hx hb dX0_put_16 (lv_at hl 4 rfl) ?_
  refine ax_putI hx hb hts hown hK hR hS fp_X0_19 hAa rfl rfl rfl dX0_put_18 (fun H locs hR hS => ?_)
  cases h
  exact ax_vret C hc hz hR hS dX0_put_21
theorem M_X0_put {l : Launch} {E : ax_E} {B : Nat} {lay : List ax_S} {I : ax_I} {J : ax_J} {a : Nat} {x1 : Int32} {x2 : Int32} {x3 : Int32} {x4 : Int32} {I9 : ax_I} (hAa : lay[a]? = some ax_Ac) (h : F_X0_put I a x1 x2 x3 x4 = some I9) : Cm l yX0_put cX0_put 5 none 2 E B [.ref (B + a), .int x1, .int x2, .int x3, .int x4] lay I J none lay I9 J :=
  ax_met (by decide) (Nat.le_of_ble_eq_true rfl) (fun p e R s m args below meth c C => t_X0_put_0 hAa C _ _ _ _ _ h)
def F_X0_drawnKind (I : ax_I) (x0 : Int32) : Option Int32 :=
  if x0 = 0 then some 0 else if x0 = 1 then some 0 else if x0 = 2 then some 0 else if x0 = 3 then some 1 else if x0 = 4 then some 1 else if x0 = 5 then some 2 else if x0 = 6 then some 3 else some 5
set_option maxRecDepth 100000 in
set_option maxHeartbeats 4000000 in
theorem t_X0_drawnKind_0 {lay : List ax_S} {J : ax_J} {rv : Int32} (C : ax_C p R s m args meth c yX0_drawnKind cX0_drawnKind 1 (some .int) 2 E mc ms) : ∀ (I : ax_I) (x0 : Int32), F_X0_drawnKind I x0 = some rv → AM p l e R s m args below meth c E B lay.length (ax_z lay) 1 (some (.int rv)) lay I J lay I J 0 [(0, .int x0)] [] := by
  obtain ⟨hx, hb, hr, hml, hown, hts, hlocks, hK, hfr, hlo, hmc, hms, hnm⟩ := id C
  have hown : s.vm.findClass RX0 = some m.cls := hown
  intro I x0 h H locs cells slots ls hc hz hR hS hl
  unfold F_X0_drawnKind at h
  refine lv_iload_n hx hb dX0_drawnKind_0 rfl (lv_at hl 0 rfl) ?_
  by_cases q0 : x0 = 0
  · have h := ax_ip q0 h
    refine lv_tableIn (off := 43) (tgt := 44) hx hb dX0_drawnKind_1 (by rw [q0]; decide) (by rw [q0]; decide) (by rw [q0]; rfl) (by decide) ?_
    refine lv_iconst (v := 0) hx hb dX0_drawnKind_44 (by decide) ?_
    cases h
    exact ax_iret C hc hz hR hS rfl rfl dX0_drawnKind_45
  · have h := ax_iN q0 h
    by_cases q1 : x0 = 1
    · have h := ax_ip q1 h
      refine lv_tableIn (off := 43) (tgt := 44) hx hb dX0_drawnKind_1 (by rw [q1]; decide) (by rw [q1]; decide) (by rw [q1]; rfl) (by decide) ?_
      refine lv_iconst (v := 0) hx hb dX0_drawnKind_44 (by decide) ?_
      cases h
      exact ax_iret C hc hz hR hS rfl rfl dX0_drawnKind_45
    · have h := ax_iN q1 h
      by_cases q2 : x0 = 2
      · have h := ax_ip q2 h
        refine lv_tableIn (off := 43) (tgt := 44) hx hb dX0_drawnKind_1 (by rw [q2]; decide) (by rw [q2]; decide) (by rw [q2]; rfl) (by decide) ?_
        refine lv_iconst (v := 0) hx hb dX0_drawnKind_44 (by decide) ?_
        cases h
        exact ax_iret C hc hz hR hS rfl rfl dX0_drawnKind_45
      · have h := ax_iN q2 h
        by_cases q3 : x0 = 3
        · have h := ax_ip q3 h
          refine lv_tableIn (off := 45) (tgt := 46) hx hb dX0_drawnKind_1 (by rw [q3]; decide) (by rw [q3]; decide) (by rw [q3]; rfl) (by decide) ?_
          refine lv_iconst (v := 1) hx hb dX0_drawnKind_46 (by decide) ?_
          cases h
          exact ax_iret C hc hz hR hS rfl rfl dX0_drawnKind_47
        · have h := ax_iN q3 h
          by_cases q4 : x0 = 4
          · have h := ax_ip q4 h
            refine lv_tableIn (off := 45) (tgt := 46) hx hb dX0_drawnKind_1 (by rw [q4]; decide) (by rw [q4]; decide) (by rw [q4]; rfl) (by decide) ?_
            refine lv_iconst (v := 1) hx hb dX0_drawnKind_46 (by decide) ?_
            cases h
            exact ax_iret C hc hz hR hS rfl rfl dX0_drawnKind_47
          · have h := ax_iN q4 h
            by_cases q5 : x0 = 5
            · have h := ax_ip q5 h
              refine lv_tableIn (off := 47) (tgt := 48) hx hb dX0_drawnKind_1 (by rw [q5]; decide) (by rw [q5]; decide) (by rw [q5]; rfl) (by decide) ?_
              refine lv_iconst (v := 2) hx hb dX0_drawnKind_48 (by decide) ?_
              cases h
              exact ax_iret C hc hz hR hS rfl rfl dX0_drawnKind_49
            · have h := ax_iN q5 h
              by_cases q6 : x0 = 6
              · have h := ax_ip q6 h
                refine lv_tableIn (off := 49) (tgt := 50) hx hb dX0_drawnKind_1 (by rw [q6]; decide) (by rw [q6]; decide) (by rw [q6]; rfl) (by decide) ?_
                refine lv_iconst (v := 3) hx hb dX0_drawnKind_50 (by decide) ?_
                cases h
                exact ax_iret C hc hz hR hS rfl rfl dX0_drawnKind_51
              · have h := ax_iN q6 h
                have e0 := ax_nt (z := 0) q0 (by decide)
                have e1 := ax_nt (z := 1) q1 (by decide)
                have e2 := ax_nt (z := 2) q2 (by decide)
                have e3 := ax_nt (z := 3) q3 (by decide)
                have e4 := ax_nt (z := 4) q4 (by decide)
                have e5 := ax_nt (z := 5) q5 (by decide)
                have e6 := ax_nt (z := 6) q6 (by decide)
                refine lv_tableOut (tgt := 52) hx hb dX0_drawnKind_1 (by omega) (by decide) ?_
                refine lv_iconst (v := 5) hx hb dX0_drawnKind_52 (by decide) ?_
                cases h
                exact ax_iret C hc hz hR hS rfl rfl dX0_drawnKind_53
theorem M_X0_drawnKind {l : Launch} {E : ax_E} {B : Nat} {lay : List ax_S} {I : ax_I} {J : ax_J} {x0 : Int32} {rv : Int32} (h : F_X0_drawnKind I x0 = some rv) : Cm l yX0_drawnKind cX0_drawnKind 1 (some .int) 2 E B [.int x0] lay I J (some (.int rv)) lay I J :=
  ax_met (by decide) (Nat.le_of_ble_eq_true rfl) (fun p e R s m args below meth c C => t_X0_drawnKind_0  C _ _ h)
def F_X0_draw (I : ax_I) (a : Nat) (x1 : Int32) : Option ax_I :=
  (F_X0_drawnKind I ((x1 / 6) - (x1 / 6) / 8 * 8)).bind (fun q8 => (F_X0_put I a q8 (x1 - x1 / 6 * 6) ((x1 / 48) - (x1 / 48) / 8 * 8) ((x1 / 384) - (x1 / 384) / 4 * 4)).bind (fun q29 => some q29))
set_option maxRecDepth 100000 in
set_option maxHeartbeats 4000000 in
theorem t_X0_draw_0 {lay : List ax_S} {a : Nat} {J : ax_J} {I9 : ax_I} (hAa : lay[a]? = some ax_Ac) (C : ax_C p R s m args meth c yX0_draw cX0_draw 2 none 4 E mc ms) : ∀ (I : ax_I) (x1 : Int32), F_X0_draw I a x1 = some I9 → AM p l e R s m args below meth c E B lay.length (ax_z lay) 2 none lay I9 J lay I J 0 [(0, .ref (B + a)), (1, .int x1)] [] := by
  obtain ⟨hx, hb, hr, hml, hown, hts, hlocks, hK, hfr, hlo, hmc, hms, hnm⟩ := id C
  have hown : s.vm.findClass RX0 = some m.cls := hown
  intro I x1 h H locs cells slots ls hc hz hR hS hl
  unfold F_X0_draw at h
  refine lv_aload_n hx hb dX0_draw_0 rfl (lv_at hl 0 rfl) ?_
  refine lv_iload_n hx hb dX0_draw_1 rfl (lv_at hl 1 rfl) ?_
  refine lv_bipush (v := 6) hx hb dX0_draw_2 (by decide) ?_
  refine lv_idiv hx hb dX0_draw_4 (by decide) ?_
  refine lv_bipush (v := 8) hx hb dX0_draw_5 (by decide) ?_
  refine lv_irem hx hb dX0_draw_7 (by decide) ?_
  obtain ⟨q8, hq, h⟩ := ax_bd h
  refine ax_cS (rest := [.ref (B + a)]) (st1 := [.int q8, .ref (B + a)]) C hc hz hS hR (M_X0_drawnKind  hq) yk_X0_drawnKind st_X0_drawnKind ml_X0_22 (by decide) rfl hl.1 (Nat.le_of_ble_eq_true rfl) rfl rfl dX0_draw_8 (fun H locs hR hS => ?_)
  refine lv_iload_n hx hb dX0_draw_11 rfl (lv_at hl 1 rfl) ?_
  refine lv_bipush (v := 6) hx hb dX0_draw_12 (by decide) ?_
  refine lv_irem hx hb dX0_draw_14 (by decide) ?_
  refine lv_iload_n hx hb dX0_draw_15 rfl (lv_at hl 1 rfl) ?_
  refine lv_bipush (v := 48) hx hb dX0_draw_16 (by decide) ?_
  refine lv_idiv hx hb dX0_draw_18 (by decide) ?_
  refine lv_bipush (v := 8) hx hb dX0_draw_19 (by decide) ?_
  refine lv_irem hx hb dX0_draw_21 (by decide) ?_
  refine lv_iload_n hx hb dX0_draw_22 rfl (lv_at hl 1 rfl) ?_
  refine lv_sipush (v := 384) hx hb dX0_draw_23 (by decide) ?_
  refine lv_idiv hx hb dX0_draw_26 (by decide) ?_
  refine lv_iconst (v := 4) hx hb dX0_draw_27 (by decide) ?_
  refine lv_irem hx hb dX0_draw_28 (by decide) ?_
  obtain ⟨q29, hq, h⟩ := ax_bd h
  refine ax_cV (rest := []) (st1 := []) C hc hz hS hR (M_X0_put hAa hq) yk_X0_put in_X0_put se_X0_put ml_X0_26 hAa rfl rfl (by decide) rfl hl.1 (Nat.le_of_ble_eq_true rfl) rfl rfl dX0_draw_29 (fun H locs hR hS => ?_)
  cases h
  exact ax_vret C hc hz hR hS dX0_draw_32
theorem M_X0_draw {l : Launch} {E : ax_E} {B : Nat} {lay : List ax_S} {I : ax_I} {J : ax_J} {a : Nat} {x1 : Int32} {I9 : ax_I} (hAa : lay[a]? = some ax_Ac) (h : F_X0_draw I a x1 = some I9) : Cm l yX0_draw cX0_draw 2 none 4 E B [.ref (B + a), .int x1] lay I J none lay I9 J :=
  ax_met (by decide) (Nat.le_of_ble_eq_true rfl) (fun p e R s m args below meth c C => t_X0_draw_0 hAa C _ _ h)
def f_X1_addYear_99 (r11 : ax_I → ax_J → Int32 → Int32 → Int32 → Int32 → Option (ax_J)) (r20 : ax_I → ax_J → Int32 → Int32 → Int32 → Int32 → Int32 → Option (ax_J)) (I : ax_I) (J : ax_J) (x1 : Int32) (x2 : Int32) (x3 : Int32) (x4 : Int32) (x5 : Int32) (x6 : Int64) : Option ax_J :=
  if ax_in ((x4 * 9) + x5) 81 = true then r20 I (ax_v J 32 ((x4 * 9) + x5).toNatClampNeg x6) x1 x2 x3 x4 (x5 + (-1)) else none
def f_X1_addYear_71 (r11 : ax_I → ax_J → Int32 → Int32 → Int32 → Int32 → Option (ax_J)) (r20 : ax_I → ax_J → Int32 → Int32 → Int32 → Int32 → Int32 → Option (ax_J)) (I : ax_I) (J : ax_J) (x1 : Int32) (x2 : Int32) (x3 : Int32) (x4 : Int32) (x5 : Int32) (x6 : Int64) : Option ax_J :=
  if x5 ≤ 0 then f_X1_addYear_99 r11 r20 I J x1 x2 x3 x4 x5 x6 else if ax_in (((x4 * 9) + x5) - 1) 81 = true then f_X1_addYear_99 r11 r20 I J x1 x2 x3 x4 x5 (x6 + ((J 32 (((x4 * 9) + x5) - 1).toNatClampNeg) * ((x2 : Int32).toInt64))) else none
def f_X1_addYear_43 (r11 : ax_I → ax_J → Int32 → Int32 → Int32 → Int32 → Option (ax_J)) (r20 : ax_I → ax_J → Int32 → Int32 → Int32 → Int32 → Int32 → Option (ax_J)) (I : ax_I) (J : ax_J) (x1 : Int32) (x2 : Int32) (x3 : Int32) (x4 : Int32) (x5 : Int32) (x6 : Int64) : Option ax_J :=
  if x4 ≤ 0 then f_X1_addYear_71 r11 r20 I J x1 x2 x3 x4 x5 x6 else if ax_in (((x4 - 1) * 9) + x5) 81 = true then f_X1_addYear_71 r11 r20 I J x1 x2 x3 x4 x5 (x6 + ((J 32 (((x4 - 1) * 9) + x5).toNatClampNeg) * ((x1 : Int32).toInt64))) else none
def f_X1_addYear_20 (r11 : ax_I → ax_J → Int32 → Int32 → Int32 → Int32 → Option (ax_J)) : Nat → ax_I → ax_J → Int32 → Int32 → Int32 → Int32 → Int32 → Option ax_J
  | 0, _, _, _, _, _, _, _ => none
  | n + 1, I, J, x1, x2, x3, x4, x5 => if x5 < 0 then r11 I J x1 x2 x3 (x4 + (-1)) else if ax_in ((x4 * 9) + x5) 81 = true then f_X1_addYear_43 r11 (f_X1_addYear_20 r11 n) I J x1 x2 x3 x4 x5 ((J 32 ((x4 * 9) + x5).toNatClampNeg) * ((x3 : Int32).toInt64)) else none
def f_X1_addYear_11 : Nat → ax_I → ax_J → Int32 → Int32 → Int32 → Int32 → Option ax_J
  | 0, _, _, _, _, _, _ => none
  | n + 1, I, J, x1, x2, x3, x4 => if x4 < 0 then some J else f_X1_addYear_20 (f_X1_addYear_11 n) ax_N I J x1 x2 x3 x4 8
def F_X1_addYear (I : ax_I) (J : ax_J) (x1 : Int32) (x2 : Int32) : Option ax_J :=
  f_X1_addYear_11 ax_N I J x1 x2 ((10 - x1) - x2) 8
set_option maxRecDepth 100000 in
set_option maxHeartbeats 4000000 in
theorem t_X1_addYear_99 {lay : List ax_S} {J9 : ax_J} (hL : ax_LL B lay) (C : ax_C p R s m args meth c yX1_addYear cX1_addYear 8 none 2 E mc ms) {r11 : ax_I → ax_J → Int32 → Int32 → Int32 → Int32 → Option (ax_J)} (hr11 : ∀ (I : ax_I) (J : ax_J) (x1 : Int32) (x2 : Int32) (x3 : Int32) (x4 : Int32), r11 I J x1 x2 x3 x4 = some J9 → AM p l e R s m args below meth c E B lay.length (ax_z lay) 8 none lay I J9 lay I J 11 [(0, .ref (B + 31)), (1, .int x1), (2, .int x2), (3, .int x3), (4, .int x4)] []) {r20 : ax_I → ax_J → Int32 → Int32 → Int32 → Int32 → Int32 → Option (ax_J)} (hr20 : ∀ (I : ax_I) (J : ax_J) (x1 : Int32) (x2 : Int32) (x3 : Int32) (x4 : Int32) (x5 : Int32), r20 I J x1 x2 x3 x4 x5 = some J9 → AM p l e R s m args below meth c E B lay.length (ax_z lay) 8 none lay I J9 lay I J 20 [(0, .ref (B + 31)), (1, .int x1), (2, .int x2), (3, .int x3), (4, .int x4), (5, .int x5)] []) : ∀ (I : ax_I) (J : ax_J) (x1 : Int32) (x2 : Int32) (x3 : Int32) (x4 : Int32) (x5 : Int32) (x6 : Int64), f_X1_addYear_99 r11 r20 I J x1 x2 x3 x4 x5 x6 = some J9 → AM p l e R s m args below meth c E B lay.length (ax_z lay) 8 none lay I J9 lay I J 99 [(0, .ref (B + 31)), (1, .int x1), (2, .int x2), (3, .int x3), (4, .int x4), (5, .int x5), (6, .long x6)] [] := by
  obtain ⟨hx, hb, hr, hml, hown, hts, hlocks, hK, hfr, hlo, hmc, hms, hnm⟩ := id C
  have hown : s.vm.findClass RX1 = some m.cls := hown
  intro I J x1 x2 x3 x4 x5 x6 h H locs cells slots ls hc hz hR hS hl
  unfold f_X1_addYear_99 at h
  refine lv_aload_n hx hb dX1_addYear_99 rfl (lv_at hl 0 rfl) ?_
  refine ax_getV hx hb hts hown hK hR fl_X1_11 (lk_31 hL) rfl dX1_addYear_100 ?_
  refine lv_iload hx hb dX1_addYear_103 (lv_at hl 4 rfl) ?_
  refine lv_bipush (v := 9) hx hb dX1_addYear_105 (by decide) ?_
  refine lv_imul hx hb dX1_addYear_107 ?_
  refine lv_iload hx hb dX1_addYear_108 (lv_at hl 5 rfl) ?_
  refine lv_iadd hx hb dX1_addYear_110 ?_
  refine lv_lload hx hb dX1_addYear_111 (lv_at hl 6 rfl) ?_
  obtain ⟨hq, h⟩ := ax_ck h
  refine ax_last hx hb hK hR hS (lk_32 hL) hq dX1_addYear_113 (fun H locs hR hS => ?_)
  refine lv_iinc (v := (x5 + (-1))) (lv' := [(5, .int (x5 + (-1))), (0, .ref (B + 31)), (1, .int x1), (2, .int x2), (3, .int x3), (4, .int x4), (6, .long x6)]) hx hb dX1_addYear_114 hl (k := 5) rfl rfl (by decide) rfl (fun ls hl => ?_)
  refine lv_goto (tgt := 20) hx hb dX1_addYear_117 (by decide) ?_
  exact hr20 _ _ _ _ _ _ _ h H locs cells slots ls hc hz hR hS (lv_sub hl [1, 2, 3, 4, 5, 0] rfl)
set_option maxRecDepth 100000 in
set_option maxHeartbeats 4000000 in
theorem t_X1_addYear_71 {lay : List ax_S} {J9 : ax_J} (hL : ax_LL B lay) (C : ax_C p R s m args meth c yX1_addYear cX1_addYear 8 none 2 E mc ms) {r11 : ax_I → ax_J → Int32 → Int32 → Int32 → Int32 → Option (ax_J)} (hr11 : ∀ (I : ax_I) (J : ax_J) (x1 : Int32) (x2 : Int32) (x3 : Int32) (x4 : Int32), r11 I J x1 x2 x3 x4 = some J9 → AM p l e R s m args below meth c E B lay.length (ax_z lay) 8 none lay I J9 lay I J 11 [(0, .ref (B + 31)), (1, .int x1), (2, .int x2), (3, .int x3), (4, .int x4)] []) {r20 : ax_I → ax_J → Int32 → Int32 → Int32 → Int32 → Int32 → Option (ax_J)} (hr20 : ∀ (I : ax_I) (J : ax_J) (x1 : Int32) (x2 : Int32) (x3 : Int32) (x4 : Int32) (x5 : Int32), r20 I J x1 x2 x3 x4 x5 = some J9 → AM p l e R s m args below meth c E B lay.length (ax_z lay) 8 none lay I J9 lay I J 20 [(0, .ref (B + 31)), (1, .int x1), (2, .int x2), (3, .int x3), (4, .int x4), (5, .int x5)] []) : ∀ (I : ax_I) (J : ax_J) (x1 : Int32) (x2 : Int32) (x3 : Int32) (x4 : Int32) (x5 : Int32) (x6 : Int64), f_X1_addYear_71 r11 r20 I J x1 x2 x3 x4 x5 x6 = some J9 → AM p l e R s m args below meth c E B lay.length (ax_z lay) 8 none lay I J9 lay I J 71 [(0, .ref (B + 31)), (1, .int x1), (2, .int x2), (3, .int x3), (4, .int x4), (5, .int x5), (6, .long x6)] [] := by
  obtain ⟨hx, hb, hr, hml, hown, hts, hlocks, hK, hfr, hlo, hmc, hms, hnm⟩ := id C
  have hown : s.vm.findClass RX1 = some m.cls := hown
  intro I J x1 x2 x3 x4 x5 x6 h H locs cells slots ls hc hz hR hS hl
  unfold f_X1_addYear_71 at h
  refine lv_iload hx hb dX1_addYear_71 (lv_at hl 5 rfl) ?_
  refine lv_if_le (tgt := 99) hx hb dX1_addYear_73 (by decide) (fun q => ?_) (fun q => ?_)
  · have h := ax_ip q h
    exact t_X1_addYear_99 hL C hr11 hr20 _ _ _ _ _ _ _ _ h H locs cells slots ls hc hz hR hS (lv_sub hl [0, 1, 2, 3, 4, 5, 6] rfl)
  · have h := ax_iN q h
    refine lv_lload hx hb dX1_addYear_76 (lv_at hl 6 rfl) ?_
    refine lv_aload_n hx hb dX1_addYear_78 rfl (lv_at hl 0 rfl) ?_
    refine ax_getV hx hb hts hown hK hR fl_X1_11 (lk_31 hL) rfl dX1_addYear_79 ?_
    refine lv_iload hx hb dX1_addYear_82 (lv_at hl 4 rfl) ?_
    refine lv_bipush (v := 9) hx hb dX1_addYear_84 (by decide) ?_
    refine lv_imul hx hb dX1_addYear_86 ?_
    refine lv_iload hx hb dX1_addYear_87 (lv_at hl 5 rfl) ?_
    refine lv_iadd hx hb dX1_addYear_89 ?_
    refine lv_iconst (v := 1) hx hb dX1_addYear_90 (by decide) ?_
    refine lv_isub hx hb dX1_addYear_91 ?_
    obtain ⟨hq, h⟩ := ax_ck h
    refine ax_lald hx hb hK hR (lk_32 hL) hq dX1_addYear_92 ?_
    refine lv_iload_n hx hb dX1_addYear_93 rfl (lv_at hl 2 rfl) ?_
    refine lv_i2l hx hb dX1_addYear_94 rfl ?_
    refine lv_lmul hx hb dX1_addYear_95 ?_
    refine lv_ladd hx hb dX1_addYear_96 ?_
    refine lv_lstore (lv' := [(6, .long (x6 + ((J 32 (((x4 * 9) + x5) - 1).toNatClampNeg) * ((x2 : Int32).toInt64)))), (0, .ref (B + 31)), (1, .int x1), (2, .int x2), (3, .int x3), (4, .int x4), (5, .int x5)]) hx hb dX1_addYear_97 hl (by decide) rfl (fun ls hl => ?_)
    exact t_X1_addYear_99 hL C hr11 hr20 _ _ _ _ _ _ _ _ h H locs cells slots ls hc hz hR hS (lv_sub hl [1, 2, 3, 4, 5, 6, 0] rfl)
set_option maxRecDepth 100000 in
set_option maxHeartbeats 4000000 in
theorem t_X1_addYear_43 {lay : List ax_S} {J9 : ax_J} (hL : ax_LL B lay) (C : ax_C p R s m args meth c yX1_addYear cX1_addYear 8 none 2 E mc ms) {r11 : ax_I → ax_J → Int32 → Int32 → Int32 → Int32 → Option (ax_J)} (hr11 : ∀ (I : ax_I) (J : ax_J) (x1 : Int32) (x2 : Int32) (x3 : Int32) (x4 : Int32), r11 I J x1 x2 x3 x4 = some J9 → AM p l e R s m args below meth c E B lay.length (ax_z lay) 8 none lay I J9 lay I J 11 [(0, .ref (B + 31)), (1, .int x1), (2, .int x2), (3, .int x3), (4, .int x4)] []) {r20 : ax_I → ax_J → Int32 → Int32 → Int32 → Int32 → Int32 → Option (ax_J)} (hr20 : ∀ (I : ax_I) (J : ax_J) (x1 : Int32) (x2 : Int32) (x3 : Int32) (x4 : Int32) (x5 : Int32), r20 I J x1 x2 x3 x4 x5 = some J9 → AM p l e R s m args below meth c E B lay.length (ax_z lay) 8 none lay I J9 lay I J 20 [(0, .ref (B + 31)), (1, .int x1), (2, .int x2), (3, .int x3), (4, .int x4), (5, .int x5)] []) : ∀ (I : ax_I) (J : ax_J) (x1 : Int32) (x2 : Int32) (x3 : Int32) (x4 : Int32) (x5 : Int32) (x6 : Int64), f_X1_addYear_43 r11 r20 I J x1 x2 x3 x4 x5 x6 = some J9 → AM p l e R s m args below meth c E B lay.length (ax_z lay) 8 none lay I J9 lay I J 43 [(0, .ref (B + 31)), (1, .int x1), (2, .int x2), (3, .int x3), (4, .int x4), (5, .int x5), (6, .long x6)] [] := by
  obtain ⟨hx, hb, hr, hml, hown, hts, hlocks, hK, hfr, hlo, hmc, hms, hnm⟩ := id C
  have hown : s.vm.findClass RX1 = some m.cls := hown
  intro I J x1 x2 x3 x4 x5 x6 h H locs cells slots ls hc hz hR hS hl
  unfold f_X1_addYear_43 at h
  refine lv_iload hx hb dX1_addYear_43 (lv_at hl 4 rfl) ?_
  refine lv_if_le (tgt := 71) hx hb dX1_addYear_45 (by decide) (fun q => ?_) (fun q => ?_)
  · have h := ax_ip q h
    exact t_X1_addYear_71 hL C hr11 hr20 _ _ _ _ _ _ _ _ h H locs cells slots ls hc hz hR hS (lv_sub hl [0, 1, 2, 3, 4, 5, 6] rfl)
  · have h := ax_iN q h
    refine lv_lload hx hb dX1_addYear_48 (lv_at hl 6 rfl) ?_
    refine lv_aload_n hx hb dX1_addYear_50 rfl (lv_at hl 0 rfl) ?_
    refine ax_getV hx hb hts hown hK hR fl_X1_11 (lk_31 hL) rfl dX1_addYear_51 ?_
    refine lv_iload hx hb dX1_addYear_54 (lv_at hl 4 rfl) ?_
    refine lv_iconst (v := 1) hx hb dX1_addYear_56 (by decide) ?_
    refine lv_isub hx hb dX1_addYear_57 ?_
    refine lv_bipush (v := 9) hx hb dX1_addYear_58 (by decide) ?_
    refine lv_imul hx hb dX1_addYear_60 ?_
    refine lv_iload hx hb dX1_addYear_61 (lv_at hl 5 rfl) ?_
    refine lv_iadd hx hb dX1_addYear_63 ?_
    obtain ⟨hq, h⟩ := ax_ck h
    refine ax_lald hx hb hK hR (lk_32 hL) hq dX1_addYear_64 ?_
    refine lv_iload_n hx hb dX1_addYear_65 rfl (lv_at hl 1 rfl) ?_
    refine lv_i2l hx hb dX1_addYear_66 rfl ?_
    refine lv_lmul hx hb dX1_addYear_67 ?_
    refine lv_ladd hx hb dX1_addYear_68 ?_
    refine lv_lstore (lv' := [(6, .long (x6 + ((J 32 (((x4 - 1) * 9) + x5).toNatClampNeg) * ((x1 : Int32).toInt64)))), (0, .ref (B + 31)), (1, .int x1), (2, .int x2), (3, .int x3), (4, .int x4), (5, .int x5)]) hx hb dX1_addYear_69 hl (by decide) rfl (fun ls hl => ?_)
    exact t_X1_addYear_71 hL C hr11 hr20 _ _ _ _ _ _ _ _ h H locs cells slots ls hc hz hR hS (lv_sub hl [1, 2, 3, 4, 5, 6, 0] rfl)
set_option maxRecDepth 100000 in
set_option maxHeartbeats 4000000 in
theorem t_X1_addYear_20 {lay : List ax_S} {J9 : ax_J} (hL : ax_LL B lay) (C : ax_C p R s m args meth c yX1_addYear cX1_addYear 8 none 2 E mc ms) {r11 : ax_I → ax_J → Int32 → Int32 → Int32 → Int32 → Option (ax_J)} (hr11 : ∀ (I : ax_I) (J : ax_J) (x1 : Int32) (x2 : Int32) (x3 : Int32) (x4 : Int32), r11 I J x1 x2 x3 x4 = some J9 → AM p l e R s m args below meth c E B lay.length (ax_z lay) 8 none lay I J9 lay I J 11 [(0, .ref (B + 31)), (1, .int x1), (2, .int x2), (3, .int x3), (4, .int x4)] []) : ∀ (n : Nat) (I : ax_I) (J : ax_J) (x1 : Int32) (x2 : Int32) (x3 : Int32) (x4 : Int32) (x5 : Int32), f_X1_addYear_20 r11 n I J x1 x2 x3 x4 x5 = some J9 → AM p l e R s m args below meth c E B lay.length (ax_z lay) 8 none lay I J9 lay I J 20 [(0, .ref (B + 31)), (1, .int x1), (2, .int x2), (3, .int x3), (4, .int x4), (5, .int x5)] [] := by
  obtain ⟨hx, hb, hr, hml, hown, hts, hlocks, hK, hfr, hlo, hmc, hms, hnm⟩ := id C
  have hown : s.vm.findClass RX1 = some m.cls := hown
  intro n
  induction n with
  | zero => intro I J x1 x2 x3 x4 x5 h; cases h
  | succ n ih =>
    intro I J x1 x2 x3 x4 x5 h H locs cells slots ls hc hz hR hS hl
    rw [f_X1_addYear_20] at h
    refine lv_iload hx hb dX1_addYear_20 (lv_at hl 5 rfl) ?_
    refine lv_if_lt (tgt := 120) hx hb dX1_addYear_22 (by decide) (fun q => ?_) (fun q => ?_)
    · have h := ax_ip q h
      refine lv_iinc (v := (x4 + (-1))) (lv' := [(4, .int (x4 + (-1))), (0, .ref (B + 31)), (1, .int x1), (2, .int x2), (3, .int x3), (5, .int x5)]) hx hb dX1_addYear_120 hl (k := 4) rfl rfl (by decide) rfl (fun ls hl => ?_)
      refine lv_goto (tgt := 11) hx hb dX1_addYear_123 (by decide) ?_
      exact hr11 _ _ _ _ _ _ h H locs cells slots ls hc hz hR hS (lv_sub hl [1, 2, 3, 4, 0] rfl)
    · have h := ax_iN q h
      refine lv_aload_n hx hb dX1_addYear_25 rfl (lv_at hl 0 rfl) ?_
      refine ax_getV hx hb hts hown hK hR fl_X1_11 (lk_31 hL) rfl dX1_addYear_26 ?_
      refine lv_iload hx hb dX1_addYear_29 (lv_at hl 4 rfl) ?_
      refine lv_bipush (v := 9) hx hb dX1_addYear_31 (by decide) ?_
      refine lv_imul hx hb dX1_addYear_33 ?_
      refine lv_iload hx hb dX1_addYear_34 (lv_at hl 5 rfl) ?_
      refine lv_iadd hx hb dX1_addYear_36 ?_
      obtain ⟨hq, h⟩ := ax_ck h
      refine ax_lald hx hb hK hR (lk_32 hL) hq dX1_addYear_37 ?_
      refine lv_iload_n hx hb dX1_addYear_38 rfl (lv_at hl 3 rfl) ?_
      refine lv_i2l hx hb dX1_addYear_39 rfl ?_
      refine lv_lmul hx hb dX1_addYear_40 ?_
      refine lv_lstore (lv' := [(6, .long ((J 32 ((x4 * 9) + x5).toNatClampNeg) * ((x3 : Int32).toInt64))), (0, .ref (B + 31)), (1, .int x1), (2, .int x2), (3, .int x3), (4, .int x4), (5, .int x5)]) hx hb dX1_addYear_41 hl (by decide) rfl (fun ls hl => ?_)
      exact t_X1_addYear_43 hL C hr11 ih _ _ _ _ _ _ _ _ h H locs cells slots ls hc hz hR hS (lv_sub hl [1, 2, 3, 4, 5, 6, 0] rfl)
set_option maxRecDepth 100000 in
set_option maxHeartbeats 4000000 in
theorem t_X1_addYear_11 {lay : List ax_S} {J9 : ax_J} (hL : ax_LL B lay) (C : ax_C p R s m args meth c yX1_addYear cX1_addYear 8 none 2 E mc ms) : ∀ (n : Nat) (I : ax_I) (J : ax_J) (x1 : Int32) (x2 : Int32) (x3 : Int32) (x4 : Int32), f_X1_addYear_11 n I J x1 x2 x3 x4 = some J9 → AM p l e R s m args below meth c E B lay.length (ax_z lay) 8 none lay I J9 lay I J 11 [(0, .ref (B + 31)), (1, .int x1), (2, .int x2), (3, .int x3), (4, .int x4)] [] := by
  obtain ⟨hx, hb, hr, hml, hown, hts, hlocks, hK, hfr, hlo, hmc, hms, hnm⟩ := id C
  have hown : s.vm.findClass RX1 = some m.cls := hown
  intro n
  induction n with
  | zero => intro I J x1 x2 x3 x4 h; cases h
  | succ n ih =>
    intro I J x1 x2 x3 x4 h H locs cells slots ls hc hz hR hS hl
    rw [f_X1_addYear_11] at h
    refine lv_iload hx hb dX1_addYear_11 (lv_at hl 4 rfl) ?_
    refine lv_if_lt (tgt := 126) hx hb dX1_addYear_13 (by decide) (fun q => ?_) (fun q => ?_)
    · have h := ax_ip q h
      cases h
      exact ax_vret C hc hz hR hS dX1_addYear_126
    · have h := ax_iN q h
      refine lv_bipush (v := 8) hx hb dX1_addYear_16 (by decide) ?_
      refine lv_istore (lv' := [(5, .int 8), (0, .ref (B + 31)), (1, .int x1), (2, .int x2), (3, .int x3), (4, .int x4)]) hx hb dX1_addYear_18 hl (by decide) rfl (fun ls hl => ?_)
      exact t_X1_addYear_20 hL C ih ax_N _ _ _ _ _ _ _ h H locs cells slots ls hc hz hR hS (lv_sub hl [1, 2, 3, 4, 5, 0] rfl)
set_option maxRecDepth 100000 in
set_option maxHeartbeats 4000000 in
theorem t_X1_addYear_0 {lay : List ax_S} {J9 : ax_J} (hL : ax_LL B lay) (C : ax_C p R s m args meth c yX1_addYear cX1_addYear 8 none 2 E mc ms) : ∀ (I : ax_I) (J : ax_J) (x1 : Int32) (x2 : Int32), F_X1_addYear I J x1 x2 = some J9 → AM p l e R s m args below meth c E B lay.length (ax_z lay) 8 none lay I J9 lay I J 0 [(0, .ref (B + 31)), (1, .int x1), (2, .int x2)] [] := by
  obtain ⟨hx, hb, hr, hml, hown, hts, hlocks, hK, hfr, hlo, hmc, hms, hnm⟩ := id C
  have hown : s.vm.findClass RX1 = some m.cls := hown
  intro I J x1 x2 h H locs cells slots ls hc hz hR hS hl
  unfold F_X1_addYear at h
  refine lv_bipush (v := 10) hx hb dX1_addYear_0 (by decide) ?_
  refine lv_iload_n hx hb dX1_addYear_2 rfl (lv_at hl 1 rfl) ?_
  refine lv_isub hx hb dX1_addYear_3 ?_
  refine lv_iload_n hx hb dX1_addYear_4 rfl (lv_at hl 2 rfl) ?_
  refine lv_isub hx hb dX1_addYear_5 ?_
  refine lv_istore_n (lv' := [(3, .int ((10 - x1) - x2)), (0, .ref (B + 31)), (1, .int x1), (2, .int x2)]) hx hb dX1_addYear_6 rfl hl (by decide) rfl (fun ls hl => ?_)
  refine lv_bipush (v := 8) hx hb dX1_addYear_7 (by decide) ?_
  refine lv_istore (lv' := [(4, .int 8), (3, .int ((10 - x1) - x2)), (0, .ref (B + 31)), (1, .int x1), (2, .int x2)]) hx hb dX1_addYear_9 hl (by decide) rfl (fun ls hl => ?_)
  exact t_X1_addYear_11 hL C  ax_N _ _ _ _ _ _ h H locs cells slots ls hc hz hR hS (lv_sub hl [2, 3, 4, 1, 0] rfl)
theorem M_X1_addYear {l : Launch} {E : ax_E} {B : Nat} {lay : List ax_S} {I : ax_I} {J : ax_J} {x1 : Int32} {x2 : Int32} {J9 : ax_J} (hL : ax_LL B lay) (h : F_X1_addYear I J x1 x2 = some J9) : Cm l yX1_addYear cX1_addYear 8 none 2 E B [.ref (B + 31), .int x1, .int x2] lay I J none lay I J9 :=
  ax_met (by decide) (Nat.le_of_ble_eq_true rfl) (fun p e R s m args below meth c C => t_X1_addYear_0 hL C _ _ _ _ h)
def f_X1_spread_54 (r34 : ax_I → ax_J → Int32 → Int32 → Int32 → Int32 → Int32 → Option (ax_J)) (I : ax_I) (J : ax_J) (x1 : Int32) (x2 : Int32) (x3 : Int32) (x4 : Int32) (x5 : Int32) (s0 : Int32) (s1 : Int32) : Option ax_J :=
  (F_X1_addYear I J s1 s0).bind (fun q54 => r34 I q54 x1 x2 x3 x4 (x5 + 1))
def f_X1_spread_34 : Nat → ax_I → ax_J → Int32 → Int32 → Int32 → Int32 → Int32 → Option ax_J
  | 0, _, _, _, _, _, _, _ => none
  | n + 1, I, J, x1, x2, x3, x4, x5 => if x1 ≤ x5 then some J else if x4 ≤ x5 then f_X1_spread_54 (f_X1_spread_34 n) I J x1 x2 x3 x4 x5 x3 x2 else f_X1_spread_54 (f_X1_spread_34 n) I J x1 x2 x3 x4 x5 0 x2
def f_X1_spread_3 : Nat → ax_I → ax_J → Int32 → Int32 → Int32 → Int32 → Int32 → Option ax_J
  | 0, _, _, _, _, _, _, _ => none
  | n + 1, I, J, x1, x2, x3, x4, x5 => if 81 ≤ x5 then f_X1_spread_34 ax_N I (ax_v J 32 (0 : Int32).toNatClampNeg 1) x1 x2 x3 x4 0 else if ax_in x5 81 = true then f_X1_spread_3 n I (ax_v J 32 x5.toNatClampNeg 0) x1 x2 x3 x4 (x5 + 1) else none
def F_X1_spread (I : ax_I) (J : ax_J) (x1 : Int32) (x2 : Int32) (x3 : Int32) (x4 : Int32) : Option ax_J :=
  f_X1_spread_3 ax_N I J x1 x2 x3 x4 0
set_option maxRecDepth 100000 in
set_option maxHeartbeats 4000000 in
theorem t_X1_spread_54 {lay : List ax_S} {J9 : ax_J} (hL : ax_LL B lay) (C : ax_C p R s m args meth c yX1_spread cX1_spread 6 none 4 E mc ms) {r34 : ax_I → ax_J → Int32 → Int32 → Int32 → Int32 → Int32 → Option (ax_J)} (hr34 : ∀ (I : ax_I) (J : ax_J) (x1 : Int32) (x2 : Int32) (x3 : Int32) (x4 : Int32) (x5 : Int32), r34 I J x1 x2 x3 x4 x5 = some J9 → AM p l e R s m args below meth c E B lay.length (ax_z lay) 6 none lay I J9 lay I J 34 [(0, .ref (B + 31)), (1, .int x1), (2, .int x2), (3, .int x3), (4, .int x4), (5, .int x5)] []) : ∀ (I : ax_I) (J : ax_J) (x1 : Int32) (x2 : Int32) (x3 : Int32) (x4 : Int32) (x5 : Int32) (s0 : Int32) (s1 : Int32), f_X1_spread_54 r34 I J x1 x2 x3 x4 x5 s0 s1 = some J9 → AM p l e R s m args below meth c E B lay.length (ax_z lay) 6 none lay I J9 lay I J 54 [(0, .ref (B + 31)), (1, .int x1), (2, .int x2), (3, .int x3), (4, .int x4), (5, .int x5)] [.int s0, .int s1, .ref (B + 31)] := by
  obtain ⟨hx, hb, hr, hml, hown, hts, hlocks, hK, hfr, hlo, hmc, hms, hnm⟩ := id C
  have hown : s.vm.findClass RX1 = some m.cls := hown
  intro I J x1 x2 x3 x4 x5 s0 s1 h H locs cells slots ls hc hz hR hS hl
  unfold f_X1_spread_54 at h
  obtain ⟨q54, hq, h⟩ := ax_bd h
  refine ax_cV (rest := []) (st1 := []) C hc hz hS hR (M_X1_addYear hL hq) yk_X1_addYear in_X1_addYear se_X1_addYear ml_X1_15 (lk_31 hL) rfl rfl (by decide) rfl hl.1 (Nat.le_of_ble_eq_true rfl) rfl rfl dX1_spread_54 (fun H locs hR hS => ?_)
  refine lv_iinc (v := (x5 + 1)) (lv' := [(5, .int (x5 + 1)), (0, .ref (B + 31)), (1, .int x1), (2, .int x2), (3, .int x3), (4, .int x4)]) hx hb dX1_spread_57 hl (k := 5) rfl rfl (by decide) rfl (fun ls hl => ?_)
  refine lv_goto (tgt := 34) hx hb dX1_spread_60 (by decide) ?_
  exact hr34 _ _ _ _ _ _ _ h H locs cells slots ls hc hz hR hS (lv_sub hl [1, 2, 3, 4, 5, 0] rfl)
set_option maxRecDepth 100000 in
set_option maxHeartbeats 4000000 in
theorem t_X1_spread_34 {lay : List ax_S} {J9 : ax_J} (hL : ax_LL B lay) (C : ax_C p R s m args meth c yX1_spread cX1_spread 6 none 4 E mc ms) : ∀ (n : Nat) (I : ax_I) (J : ax_J) (x1 : Int32) (x2 : Int32) (x3 : Int32) (x4 : Int32) (x5 : Int32), f_X1_spread_34 n I J x1 x2 x3 x4 x5 = some J9 → AM p l e R s m args below meth c E B lay.length (ax_z lay) 6 none lay I J9 lay I J 34 [(0, .ref (B + 31)), (1, .int x1), (2, .int x2), (3, .int x3), (4, .int x4), (5, .int x5)] [] := by
  obtain ⟨hx, hb, hr, hml, hown, hts, hlocks, hK, hfr, hlo, hmc, hms, hnm⟩ := id C
  have hown : s.vm.findClass RX1 = some m.cls := hown
  intro n
  induction n with
  | zero => intro I J x1 x2 x3 x4 x5 h; cases h
  | succ n ih =>
    intro I J x1 x2 x3 x4 x5 h H locs cells slots ls hc hz hR hS hl
    rw [f_X1_spread_34] at h
    refine lv_iload hx hb dX1_spread_34 (lv_at hl 5 rfl) ?_
    refine lv_iload_n hx hb dX1_spread_36 rfl (lv_at hl 1 rfl) ?_
    refine lv_icmp_ge (tgt := 63) hx hb dX1_spread_37 (by decide) (fun q => ?_) (fun q => ?_)
    · have h := ax_ip q h
      cases h
      exact ax_vret C hc hz hR hS dX1_spread_63
    · have h := ax_iN q h
      refine lv_aload_n hx hb dX1_spread_40 rfl (lv_at hl 0 rfl) ?_
      refine lv_iload_n hx hb dX1_spread_41 rfl (lv_at hl 2 rfl) ?_
      refine lv_iload hx hb dX1_spread_42 (lv_at hl 5 rfl) ?_
      refine lv_iload hx hb dX1_spread_44 (lv_at hl 4 rfl) ?_
      refine lv_icmp_ge (tgt := 53) hx hb dX1_spread_46 (by decide) (fun q => ?_) (fun q => ?_)
      · have h := ax_ip q h
        refine lv_iload_n hx hb dX1_spread_53 rfl (lv_at hl 3 rfl) ?_
        exact t_X1_spread_54 hL C ih _ _ _ _ _ _ _ _ _ h H locs cells slots ls hc hz hR hS (lv_sub hl [0, 1, 2, 3, 4, 5] rfl)
      · have h := ax_iN q h
        refine lv_iconst (v := 0) hx hb dX1_spread_49 (by decide) ?_
        refine lv_goto (tgt := 54) hx hb dX1_spread_50 (by decide) ?_
        exact t_X1_spread_54 hL C ih _ _ _ _ _ _ _ _ _ h H locs cells slots ls hc hz hR hS (lv_sub hl [0, 1, 2, 3, 4, 5] rfl)
set_option maxRecDepth 100000 in
set_option maxHeartbeats 4000000 in
theorem t_X1_spread_3 {lay : List ax_S} {J9 : ax_J} (hL : ax_LL B lay) (C : ax_C p R s m args meth c yX1_spread cX1_spread 6 none 4 E mc ms) : ∀ (n : Nat) (I : ax_I) (J : ax_J) (x1 : Int32) (x2 : Int32) (x3 : Int32) (x4 : Int32) (x5 : Int32), f_X1_spread_3 n I J x1 x2 x3 x4 x5 = some J9 → AM p l e R s m args below meth c E B lay.length (ax_z lay) 6 none lay I J9 lay I J 3 [(0, .ref (B + 31)), (1, .int x1), (2, .int x2), (3, .int x3), (4, .int x4), (5, .int x5)] [] := by
  obtain ⟨hx, hb, hr, hml, hown, hts, hlocks, hK, hfr, hlo, hmc, hms, hnm⟩ := id C
  have hown : s.vm.findClass RX1 = some m.cls := hown
  intro n
  induction n with
  | zero => intro I J x1 x2 x3 x4 x5 h; cases h
  | succ n ih =>
    intro I J x1 x2 x3 x4 x5 h H locs cells slots ls hc hz hR hS hl
    rw [f_X1_spread_3] at h
    refine lv_iload hx hb dX1_spread_3 (lv_at hl 5 rfl) ?_
    refine lv_bipush (v := 81) hx hb dX1_spread_5 (by decide) ?_
    refine lv_icmp_ge (tgt := 24) hx hb dX1_spread_7 (by decide) (fun q => ?_) (fun q => ?_)
    · have h := ax_ip q h
      refine lv_aload_n hx hb dX1_spread_24 rfl (lv_at hl 0 rfl) ?_
      refine ax_getV hx hb hts hown hK hR fl_X1_11 (lk_31 hL) rfl dX1_spread_25 ?_
      refine lv_iconst (v := 0) hx hb dX1_spread_28 (by decide) ?_
      refine lv_lconst (v := 1) hx hb dX1_spread_29 (by decide) ?_
      refine ax_last hx hb hK hR hS (lk_32 hL) (by decide) dX1_spread_30 (fun H locs hR hS => ?_)
      refine lv_iconst (v := 0) hx hb dX1_spread_31 (by decide) ?_
      refine lv_istore (lv' := [(5, .int 0), (0, .ref (B + 31)), (1, .int x1), (2, .int x2), (3, .int x3), (4, .int x4)]) hx hb dX1_spread_32 hl (by decide) rfl (fun ls hl => ?_)
      exact t_X1_spread_34 hL C  ax_N _ _ _ _ _ _ _ h H locs cells slots ls hc hz hR hS (lv_sub hl [1, 2, 3, 4, 5, 0] rfl)
    · have h := ax_iN q h
      refine lv_aload_n hx hb dX1_spread_10 rfl (lv_at hl 0 rfl) ?_
      refine ax_getV hx hb hts hown hK hR fl_X1_11 (lk_31 hL) rfl dX1_spread_11 ?_
      refine lv_iload hx hb dX1_spread_14 (lv_at hl 5 rfl) ?_
      refine lv_lconst (v := 0) hx hb dX1_spread_16 (by decide) ?_
      obtain ⟨hq, h⟩ := ax_ck h
      refine ax_last hx hb hK hR hS (lk_32 hL) hq dX1_spread_17 (fun H locs hR hS => ?_)
      refine lv_iinc (v := (x5 + 1)) (lv' := [(5, .int (x5 + 1)), (0, .ref (B + 31)), (1, .int x1), (2, .int x2), (3, .int x3), (4, .int x4)]) hx hb dX1_spread_18 hl (k := 5) rfl rfl (by decide) rfl (fun ls hl => ?_)
      refine lv_goto (tgt := 3) hx hb dX1_spread_21 (by decide) ?_
      exact ih _ _ _ _ _ _ _ h H locs cells slots ls hc hz hR hS (lv_sub hl [1, 2, 3, 4, 5, 0] rfl)
set_option maxRecDepth 100000 in
set_option maxHeartbeats 4000000 in
theorem t_X1_spread_0 {lay : List ax_S} {J9 : ax_J} (hL : ax_LL B lay) (C : ax_C p R s m args meth c yX1_spread cX1_spread 6 none 4 E mc ms) : ∀ (I : ax_I) (J : ax_J) (x1 : Int32) (x2 : Int32) (x3 : Int32) (x4 : Int32), F_X1_spread I J x1 x2 x3 x4 = some J9 → AM p l e R s m args below meth c E B lay.length (ax_z lay) 6 none lay I J9 lay I J 0 [(0, .ref (B + 31)), (1, .int x1), (2, .int x2), (3, .int x3), (4, .int x4)] [] := by
  obtain ⟨hx, hb, hr, hml, hown, hts, hlocks, hK, hfr, hlo, hmc, hms, hnm⟩ := id C
  have hown : s.vm.findClass RX1 = some m.cls := hown
  intro I J x1 x2 x3 x4 h H locs cells slots ls hc hz hR hS hl
  unfold F_X1_spread at h
  refine lv_iconst (v := 0) hx hb dX1_spread_0 (by decide) ?_
  refine lv_istore (lv' := [(5, .int 0), (0, .ref (B + 31)), (1, .int x1), (2, .int x2), (3, .int x3), (4, .int x4)]) hx hb dX1_spread_1 hl (by decide) rfl (fun ls hl => ?_)
  exact t_X1_spread_3 hL C  ax_N _ _ _ _ _ _ _ h H locs cells slots ls hc hz hR hS (lv_sub hl [1, 2, 3, 4, 5, 0] rfl)
theorem M_X1_spread {l : Launch} {E : ax_E} {B : Nat} {lay : List ax_S} {I : ax_I} {J : ax_J} {x1 : Int32} {x2 : Int32} {x3 : Int32} {x4 : Int32} {J9 : ax_J} (hL : ax_LL B lay) (h : F_X1_spread I J x1 x2 x3 x4 = some J9) : Cm l yX1_spread cX1_spread 6 none 4 E B [.ref (B + 31), .int x1, .int x2, .int x3, .int x4] lay I J none lay I J9 :=
  ax_met (by decide) (Nat.le_of_ble_eq_true rfl) (fun p e R s m args below meth c C => t_X1_spread_0 hL C _ _ _ _ _ _ h)
def F_X6_within (I : ax_I) (x0 : Int32) (x1 : Int32) (x2 : Int32) : Option Int32 :=
  if x0 < x1 then some 0 else if x2 < x0 then some 0 else some 1
set_option maxRecDepth 100000 in
set_option maxHeartbeats 4000000 in
theorem t_X6_within_0 {lay : List ax_S} {J : ax_J} {rv : Int32} (C : ax_C p R s m args meth c yX6_within cX6_within 3 (some .boolean) 2 E mc ms) : ∀ (I : ax_I) (x0 : Int32) (x1 : Int32) (x2 : Int32), F_X6_within I x0 x1 x2 = some rv → AM p l e R s m args below meth c E B lay.length (ax_z lay) 3 (some (.int rv)) lay I J lay I J 0 [(0, .int x0), (1, .int x1), (2, .int x2)] [] := by
  obtain ⟨hx, hb, hr, hml, hown, hts, hlocks, hK, hfr, hlo, hmc, hms, hnm⟩ := id C
  have hown : s.vm.findClass RX6 = some m.cls := hown
  intro I x0 x1 x2 h H locs cells slots ls hc hz hR hS hl
  unfold F_X6_within at h
  refine lv_iload_n hx hb dX6_within_0 rfl (lv_at hl 0 rfl) ?_
  refine lv_iload_n hx hb dX6_within_1 rfl (lv_at hl 1 rfl) ?_
  refine lv_icmp_lt (tgt := 14) hx hb dX6_within_2 (by decide) (fun q => ?_) (fun q => ?_)
  · have h := ax_ip q h
    refine lv_iconst (v := 0) hx hb dX6_within_14 (by decide) ?_
    cases h
    exact ax_iret C hc hz hR hS rfl ax_bool_n0 dX6_within_15
  · have h := ax_iN q h
    refine lv_iload_n hx hb dX6_within_5 rfl (lv_at hl 0 rfl) ?_
    refine lv_iload_n hx hb dX6_within_6 rfl (lv_at hl 2 rfl) ?_
    refine lv_icmp_gt (tgt := 14) hx hb dX6_within_7 (by decide) (fun q => ?_) (fun q => ?_)
    · have h := ax_ip q h
      refine lv_iconst (v := 0) hx hb dX6_within_14 (by decide) ?_
      cases h
      exact ax_iret C hc hz hR hS rfl ax_bool_n0 dX6_within_15
    · have h := ax_iN q h
      refine lv_iconst (v := 1) hx hb dX6_within_10 (by decide) ?_
      refine lv_goto (tgt := 15) hx hb dX6_within_11 (by decide) ?_
      cases h
      exact ax_iret C hc hz hR hS rfl ax_bool_n1 dX6_within_15
theorem M_X6_within {l : Launch} {E : ax_E} {B : Nat} {lay : List ax_S} {I : ax_I} {J : ax_J} {x0 : Int32} {x1 : Int32} {x2 : Int32} {rv : Int32} (h : F_X6_within I x0 x1 x2 = some rv) : Cm l yX6_within cX6_within 3 (some .boolean) 2 E B [.int x0, .int x1, .int x2] lay I J (some (.int rv)) lay I J :=
  ax_met (by decide) (Nat.le_of_ble_eq_true rfl) (fun p e R s m args below meth c C => t_X6_within_0  C _ _ _ _ h)
def F_X2_isThere (I : ax_I) (b : Nat) (x1 : Int32) : Option Int32 :=
  (F_X6_within I x1 0 5).bind (fun q3 => if q3 = 0 then some 0 else if (((I b 0) >>> (x1 &&& 31)) &&& 1) = 0 then some 0 else some 1)
set_option maxRecDepth 100000 in
set_option maxHeartbeats 4000000 in
theorem t_X2_isThere_0 {lay : List ax_S} {b : Nat} {J : ax_J} {rv : Int32} (hDb : ax_Dio B lay b) (C : ax_C p R s m args meth c yX2_isThere cX2_isThere 2 (some .boolean) 4 E mc ms) : ∀ (I : ax_I) (x1 : Int32), F_X2_isThere I b x1 = some rv → AM p l e R s m args below meth c E B lay.length (ax_z lay) 2 (some (.int rv)) lay I J lay I J 0 [(0, .ref (B + b)), (1, .int x1)] [] := by
  obtain ⟨hx, hb, hr, hml, hown, hts, hlocks, hK, hfr, hlo, hmc, hms, hnm⟩ := id C
  have hown : s.vm.findClass RX2 = some m.cls := hown
  intro I x1 h H locs cells slots ls hc hz hR hS hl
  unfold F_X2_isThere at h
  refine lv_iload_n hx hb dX2_isThere_0 rfl (lv_at hl 1 rfl) ?_
  refine lv_iconst (v := 0) hx hb dX2_isThere_1 (by decide) ?_
  refine lv_iconst (v := 5) hx hb dX2_isThere_2 (by decide) ?_
  obtain ⟨q3, hq, h⟩ := ax_bd h
  refine ax_cN (rest := []) (st1 := [.int q3]) C hc hz hS hR (M_X6_within  hq) yk_X6_within st_X6_within nl_X2_67 (by decide) rfl hl.1 (Nat.le_of_ble_eq_true rfl) rfl rfl dX2_isThere_3 (fun H locs hR hS => ?_)
  refine lv_if_eq (tgt := 24) hx hb dX2_isThere_6 (by decide) (fun q => ?_) (fun q => ?_)
  · have h := ax_ip q h
    refine lv_iconst (v := 0) hx hb dX2_isThere_24 (by decide) ?_
    cases h
    exact ax_iret C hc hz hR hS rfl ax_bool_n0 dX2_isThere_25
  · have h := ax_iN q h
    refine lv_aload_n hx hb dX2_isThere_9 rfl (lv_at hl 0 rfl) ?_
    refine ax_getI hx hb hts hown hK hR fl_X2_45 (dio_0 hDb) rfl dX2_isThere_10 ?_
    refine lv_iload_n hx hb dX2_isThere_13 rfl (lv_at hl 1 rfl) ?_
    refine lv_ishr hx hb dX2_isThere_14 ?_
    refine lv_iconst (v := 1) hx hb dX2_isThere_15 (by decide) ?_
    refine lv_iand hx hb dX2_isThere_16 ?_
    refine lv_if_eq (tgt := 24) hx hb dX2_isThere_17 (by decide) (fun q => ?_) (fun q => ?_)
    · have h := ax_ip q h
      refine lv_iconst (v := 0) hx hb dX2_isThere_24 (by decide) ?_
      cases h
      exact ax_iret C hc hz hR hS rfl ax_bool_n0 dX2_isThere_25
    · have h := ax_iN q h
      refine lv_iconst (v := 1) hx hb dX2_isThere_20 (by decide) ?_
      refine lv_goto (tgt := 25) hx hb dX2_isThere_21 (by decide) ?_
      cases h
      exact ax_iret C hc hz hR hS rfl ax_bool_n1 dX2_isThere_25
theorem M_X2_isThere {l : Launch} {E : ax_E} {B : Nat} {lay : List ax_S} {I : ax_I} {J : ax_J} {b : Nat} {x1 : Int32} {rv : Int32} (hDb : ax_Dio B lay b) (h : F_X2_isThere I b x1 = some rv) : Cm l yX2_isThere cX2_isThere 2 (some .boolean) 4 E B [.ref (B + b), .int x1] lay I J (some (.int rv)) lay I J :=
  ax_met (by decide) (Nat.le_of_ble_eq_true rfl) (fun p e R s m args below meth c C => t_X2_isThere_0 hDb C _ _ h)
def F_X2_isFallen (I : ax_I) (b : Nat) (x1 : Int32) : Option Int32 :=
  (F_X2_isThere I b x1).bind (fun q2 => if q2 = 0 then some 0 else if (((I b 1) >>> (x1 &&& 31)) &&& 1) = 0 then some 0 else some 1)
set_option maxRecDepth 100000 in
set_option maxHeartbeats 4000000 in
theorem t_X2_isFallen_0 {lay : List ax_S} {b : Nat} {J : ax_J} {rv : Int32} (hDb : ax_Dio B lay b) (C : ax_C p R s m args meth c yX2_isFallen cX2_isFallen 2 (some .boolean) 6 E mc ms) : ∀ (I : ax_I) (x1 : Int32), F_X2_isFallen I b x1 = some rv → AM p l e R s m args below meth c E B lay.length (ax_z lay) 2 (some (.int rv)) lay I J lay I J 0 [(0, .ref (B + b)), (1, .int x1)] [] := by
  obtain ⟨hx, hb, hr, hml, hown, hts, hlocks, hK, hfr, hlo, hmc, hms, hnm⟩ := id C
  have hown : s.vm.findClass RX2 = some m.cls := hown
  intro I x1 h H locs cells slots ls hc hz hR hS hl
  unfold F_X2_isFallen at h
  refine lv_aload_n hx hb dX2_isFallen_0 rfl (lv_at hl 0 rfl) ?_
  refine lv_iload_n hx hb dX2_isFallen_1 rfl (lv_at hl 1 rfl) ?_
  obtain ⟨q2, hq, h⟩ := ax_bd h
  refine ax_cV (rest := []) (st1 := [.int q2]) C hc hz hS hR (M_X2_isThere hDb hq) yk_X2_isThere in_X2_isThere se_X2_isThere ml_X2_71 (dio_0 hDb) rfl rfl (by decide) rfl hl.1 (Nat.le_of_ble_eq_true rfl) rfl rfl dX2_isFallen_2 (fun H locs hR hS => ?_)
  refine lv_if_eq (tgt := 23) hx hb dX2_isFallen_5 (by decide) (fun q => ?_) (fun q => ?_)
  · have h := ax_ip q h
    refine lv_iconst (v := 0) hx hb dX2_isFallen_23 (by decide) ?_
    cases h
    exact ax_iret C hc hz hR hS rfl ax_bool_n0 dX2_isFallen_24
  · have h := ax_iN q h
    refine lv_aload_n hx hb dX2_isFallen_8 rfl (lv_at hl 0 rfl) ?_
    refine ax_getI hx hb hts hown hK hR fl_X2_49 (dio_0 hDb) rfl dX2_isFallen_9 ?_
    refine lv_iload_n hx hb dX2_isFallen_12 rfl (lv_at hl 1 rfl) ?_
    refine lv_ishr hx hb dX2_isFallen_13 ?_
    refine lv_iconst (v := 1) hx hb dX2_isFallen_14 (by decide) ?_
    refine lv_iand hx hb dX2_isFallen_15 ?_
    refine lv_if_eq (tgt := 23) hx hb dX2_isFallen_16 (by decide) (fun q => ?_) (fun q => ?_)
    · have h := ax_ip q h
      refine lv_iconst (v := 0) hx hb dX2_isFallen_23 (by decide) ?_
      cases h
      exact ax_iret C hc hz hR hS rfl ax_bool_n0 dX2_isFallen_24
    · have h := ax_iN q h
      refine lv_iconst (v := 1) hx hb dX2_isFallen_19 (by decide) ?_
      refine lv_goto (tgt := 24) hx hb dX2_isFallen_20 (by decide) ?_
      cases h
      exact ax_iret C hc hz hR hS rfl ax_bool_n1 dX2_isFallen_24
theorem M_X2_isFallen {l : Launch} {E : ax_E} {B : Nat} {lay : List ax_S} {I : ax_I} {J : ax_J} {b : Nat} {x1 : Int32} {rv : Int32} (hDb : ax_Dio B lay b) (h : F_X2_isFallen I b x1 = some rv) : Cm l yX2_isFallen cX2_isFallen 2 (some .boolean) 6 E B [.ref (B + b), .int x1] lay I J (some (.int rv)) lay I J :=
  ax_met (by decide) (Nat.le_of_ble_eq_true rfl) (fun p e R s m args below meth c C => t_X2_isFallen_0 hDb C _ _ h)
def F_X2_wouldBeSaint (I : ax_I) (b : Nat) (x1 : Int32) (x2 : Int32) (x3 : Int32) : Option Int32 :=
  (F_X2_isThere I b x1).bind (fun q2 => if q2 = 0 then some 0 else (F_X2_isFallen I b x1).bind (fun q10 => if q10 = 0 then (if ax_in x1 6 = true then if (I (b + 3) x1.toNatClampNeg) < (I (b + 9) (2 : Int32).toNatClampNeg) then some 0 else if x2 < (I (b + 9) (0 : Int32).toNatClampNeg) then some 0 else if (I (b + 9) (1 : Int32).toNatClampNeg) < x3 then some 0 else some 1 else none) else some 0))
set_option maxRecDepth 100000 in
set_option maxHeartbeats 4000000 in
theorem t_X2_wouldBeSaint_0 {lay : List ax_S} {b : Nat} {J : ax_J} {rv : Int32} (hDb : ax_Dio B lay b) (C : ax_C p R s m args meth c yX2_wouldBeSaint cX2_wouldBeSaint 4 (some .boolean) 8 E mc ms) : ∀ (I : ax_I) (x1 : Int32) (x2 : Int32) (x3 : Int32), F_X2_wouldBeSaint I b x1 x2 x3 = some rv → AM p l e R s m args below meth c E B lay.length (ax_z lay) 4 (some (.int rv)) lay I J lay I J 0 [(0, .ref (B + b)), (1, .int x1), (2, .int x2), (3, .int x3)] [] := by
  obtain ⟨hx, hb, hr, hml, hown, hts, hlocks, hK, hfr, hlo, hmc, hms, hnm⟩ := id C
  have hown : s.vm.findClass RX2 = some m.cls := hown
  intro I x1 x2 x3 h H locs cells slots ls hc hz hR hS hl
  unfold F_X2_wouldBeSaint at h
  refine lv_aload_n hx hb dX2_wouldBeSaint_0 rfl (lv_at hl 0 rfl) ?_
  refine lv_iload_n hx hb dX2_wouldBeSaint_1 rfl (lv_at hl 1 rfl) ?_
  obtain ⟨q2, hq, h⟩ := ax_bd h
  refine ax_cV (rest := []) (st1 := [.int q2]) C hc hz hS hR (M_X2_isThere hDb hq) yk_X2_isThere in_X2_isThere se_X2_isThere ml_X2_71 (dio_0 hDb) rfl rfl (by decide) rfl hl.1 (Nat.le_of_ble_eq_true rfl) rfl rfl dX2_wouldBeSaint_2 (fun H locs hR hS => ?_)
  refine lv_if_eq (tgt := 55) hx hb dX2_wouldBeSaint_5 (by decide) (fun q => ?_) (fun q => ?_)
  · have h := ax_ip q h
    refine lv_iconst (v := 0) hx hb dX2_wouldBeSaint_55 (by decide) ?_
    cases h
    exact ax_iret C hc hz hR hS rfl ax_bool_n0 dX2_wouldBeSaint_56
  · have h := ax_iN q h
    refine lv_aload_n hx hb dX2_wouldBeSaint_8 rfl (lv_at hl 0 rfl) ?_
    refine lv_iload_n hx hb dX2_wouldBeSaint_9 rfl (lv_at hl 1 rfl) ?_
    obtain ⟨q10, hq, h⟩ := ax_bd h
    refine ax_cV (rest := []) (st1 := [.int q10]) C hc hz hS hR (M_X2_isFallen hDb hq) yk_X2_isFallen in_X2_isFallen se_X2_isFallen ml_X2_78 (dio_0 hDb) rfl rfl (by decide) rfl hl.1 (Nat.le_of_ble_eq_true rfl) rfl rfl dX2_wouldBeSaint_10 (fun H locs hR hS => ?_)
    refine lv_if_ne (tgt := 55) hx hb dX2_wouldBeSaint_13 (by decide) (fun q => ?_) (fun q => ?_)
    · have h := ax_iN q h
      refine lv_iconst (v := 0) hx hb dX2_wouldBeSaint_55 (by decide) ?_
      cases h
      exact ax_iret C hc hz hR hS rfl ax_bool_n0 dX2_wouldBeSaint_56
    · have h := ax_ip q h
      refine lv_aload_n hx hb dX2_wouldBeSaint_16 rfl (lv_at hl 0 rfl) ?_
      refine ax_getV hx hb hts hown hK hR fl_X2_18 (dio_0 hDb) rfl dX2_wouldBeSaint_17 ?_
      refine lv_iload_n hx hb dX2_wouldBeSaint_20 rfl (lv_at hl 1 rfl) ?_
      obtain ⟨hq, h⟩ := ax_ck h
      refine ax_iald hx hb hK hR (dio_3 hDb) hq dX2_wouldBeSaint_21 ?_
      refine lv_aload_n hx hb dX2_wouldBeSaint_22 rfl (lv_at hl 0 rfl) ?_
      refine ax_getV hx hb hts hown hK hR fl_X2_36 (dio_0 hDb) rfl dX2_wouldBeSaint_23 ?_
      refine lv_iconst (v := 2) hx hb dX2_wouldBeSaint_26 (by decide) ?_
      refine ax_iald hx hb hK hR (dio_9 hDb) (by decide) dX2_wouldBeSaint_27 ?_
      refine lv_icmp_lt (tgt := 55) hx hb dX2_wouldBeSaint_28 (by decide) (fun q => ?_) (fun q => ?_)
      · have h := ax_ip q h
        refine lv_iconst (v := 0) hx hb dX2_wouldBeSaint_55 (by decide) ?_
        cases h
        exact ax_iret C hc hz hR hS rfl ax_bool_n0 dX2_wouldBeSaint_56
      · have h := ax_iN q h
        refine lv_iload_n hx hb dX2_wouldBeSaint_31 rfl (lv_at hl 2 rfl) ?_
        refine lv_aload_n hx hb dX2_wouldBeSaint_32 rfl (lv_at hl 0 rfl) ?_
        refine ax_getV hx hb hts hown hK hR fl_X2_36 (dio_0 hDb) rfl dX2_wouldBeSaint_33 ?_
        refine lv_iconst (v := 0) hx hb dX2_wouldBeSaint_36 (by decide) ?_
        refine ax_iald hx hb hK hR (dio_9 hDb) (by decide) dX2_wouldBeSaint_37 ?_
        refine lv_icmp_lt (tgt := 55) hx hb dX2_wouldBeSaint_38 (by decide) (fun q => ?_) (fun q => ?_)
        · have h := ax_ip q h
          refine lv_iconst (v := 0) hx hb dX2_wouldBeSaint_55 (by decide) ?_
          cases h
          exact ax_iret C hc hz hR hS rfl ax_bool_n0 dX2_wouldBeSaint_56
        · have h := ax_iN q h
          refine lv_iload_n hx hb dX2_wouldBeSaint_41 rfl (lv_at hl 3 rfl) ?_
          refine lv_aload_n hx hb dX2_wouldBeSaint_42 rfl (lv_at hl 0 rfl) ?_
          refine ax_getV hx hb hts hown hK hR fl_X2_36 (dio_0 hDb) rfl dX2_wouldBeSaint_43 ?_
          refine lv_iconst (v := 1) hx hb dX2_wouldBeSaint_46 (by decide) ?_
          refine ax_iald hx hb hK hR (dio_9 hDb) (by decide) dX2_wouldBeSaint_47 ?_
          refine lv_icmp_gt (tgt := 55) hx hb dX2_wouldBeSaint_48 (by decide) (fun q => ?_) (fun q => ?_)
          · have h := ax_ip q h
            refine lv_iconst (v := 0) hx hb dX2_wouldBeSaint_55 (by decide) ?_
            cases h
            exact ax_iret C hc hz hR hS rfl ax_bool_n0 dX2_wouldBeSaint_56
          · have h := ax_iN q h
            refine lv_iconst (v := 1) hx hb dX2_wouldBeSaint_51 (by decide) ?_
            refine lv_goto (tgt := 56) hx hb dX2_wouldBeSaint_52 (by decide) ?_
            cases h
            exact ax_iret C hc hz hR hS rfl ax_bool_n1 dX2_wouldBeSaint_56
theorem M_X2_wouldBeSaint {l : Launch} {E : ax_E} {B : Nat} {lay : List ax_S} {I : ax_I} {J : ax_J} {b : Nat} {x1 : Int32} {x2 : Int32} {x3 : Int32} {rv : Int32} (hDb : ax_Dio B lay b) (h : F_X2_wouldBeSaint I b x1 x2 x3 = some rv) : Cm l yX2_wouldBeSaint cX2_wouldBeSaint 4 (some .boolean) 8 E B [.ref (B + b), .int x1, .int x2, .int x3] lay I J (some (.int rv)) lay I J :=
  ax_met (by decide) (Nat.le_of_ble_eq_true rfl) (fun p e R s m args below meth c C => t_X2_wouldBeSaint_0 hDb C _ _ _ _ h)
def f_X1_waysToSaint_64 (b : Nat) (r5 : ax_I → ax_J → Int32 → Int64 → Int32 → Option (Int64)) (r15 : ax_I → ax_J → Int32 → Int64 → Int32 → Int32 → Option (Int64)) (I : ax_I) (J : ax_J) (x2 : Int32) (x3 : Int64) (x5 : Int32) (x6 : Int32) : Option Int64 :=
  r15 I J x2 x3 x5 (x6 + 1)
def f_X1_waysToSaint_15 (b : Nat) (r5 : ax_I → ax_J → Int32 → Int64 → Int32 → Option (Int64)) : Nat → ax_I → ax_J → Int32 → Int64 → Int32 → Int32 → Option Int64
  | 0, _, _, _, _, _, _ => none
  | n + 1, I, J, x2, x3, x5, x6 => if 9 ≤ x6 then r5 I J x2 x3 (x5 + 1) else if ax_in x2 6 = true then if ax_in x2 6 = true then (F_X2_wouldBeSaint I b x2 ((I (b + 1) x2.toNatClampNeg) + x5) ((I (b + 2) x2.toNatClampNeg) + x6)).bind (fun q42 => if q42 = 0 then f_X1_waysToSaint_64 b r5 (f_X1_waysToSaint_15 b r5 n) I J x2 x3 x5 x6 else if ax_in ((x5 * 9) + x6) 81 = true then f_X1_waysToSaint_64 b r5 (f_X1_waysToSaint_15 b r5 n) I J x2 (x3 + (J 32 ((x5 * 9) + x6).toNatClampNeg)) x5 x6 else none) else none else none
def f_X1_waysToSaint_5 (b : Nat) : Nat → ax_I → ax_J → Int32 → Int64 → Int32 → Option Int64
  | 0, _, _, _, _, _ => none
  | n + 1, I, J, x2, x3, x5 => if 9 ≤ x5 then some x3 else f_X1_waysToSaint_15 b (f_X1_waysToSaint_5 b n) ax_N I J x2 x3 x5 0
def F_X1_waysToSaint (I : ax_I) (J : ax_J) (b : Nat) (x2 : Int32) : Option Int64 :=
  f_X1_waysToSaint_5 b ax_N I J x2 0 0
set_option maxRecDepth 100000 in
set_option maxHeartbeats 4000000 in
theorem t_X1_waysToSaint_64 {lay : List ax_S} {b : Nat} {rv : Int64} (hL : ax_LL B lay) (hDb : ax_Dio B lay b) (C : ax_C p R s m args meth c yX1_waysToSaint cX1_waysToSaint 7 (some .long) 10 E mc ms) {r5 : ax_I → ax_J → Int32 → Int64 → Int32 → Option (Int64)} (hr5 : ∀ (I : ax_I) (J : ax_J) (x2 : Int32) (x3 : Int64) (x5 : Int32), r5 I J x2 x3 x5 = some rv → AM p l e R s m args below meth c E B lay.length (ax_z lay) 7 (some (.long rv)) lay I J lay I J 5 [(0, .ref (B + 31)), (1, .ref (B + b)), (2, .int x2), (3, .long x3), (5, .int x5)] []) {r15 : ax_I → ax_J → Int32 → Int64 → Int32 → Int32 → Option (Int64)} (hr15 : ∀ (I : ax_I) (J : ax_J) (x2 : Int32) (x3 : Int64) (x5 : Int32) (x6 : Int32), r15 I J x2 x3 x5 x6 = some rv → AM p l e R s m args below meth c E B lay.length (ax_z lay) 7 (some (.long rv)) lay I J lay I J 15 [(0, .ref (B + 31)), (1, .ref (B + b)), (2, .int x2), (3, .long x3), (5, .int x5), (6, .int x6)] []) : ∀ (I : ax_I) (J : ax_J) (x2 : Int32) (x3 : Int64) (x5 : Int32) (x6 : Int32), f_X1_waysToSaint_64 b r5 r15 I J x2 x3 x5 x6 = some rv → AM p l e R s m args below meth c E B lay.length (ax_z lay) 7 (some (.long rv)) lay I J lay I J 64 [(0, .ref (B + 31)), (1, .ref (B + b)), (2, .int x2), (3, .long x3), (5, .int x5), (6, .int x6)] [] := by
  obtain ⟨hx, hb, hr, hml, hown, hts, hlocks, hK, hfr, hlo, hmc, hms, hnm⟩ := id C
  have hown : s.vm.findClass RX1 = some m.cls := hown
  intro I J x2 x3 x5 x6 h H locs cells slots ls hc hz hR hS hl
  unfold f_X1_waysToSaint_64 at h
  refine lv_iinc (v := (x6 + 1)) (lv' := [(6, .int (x6 + 1)), (0, .ref (B + 31)), (1, .ref (B + b)), (2, .int x2), (3, .long x3), (5, .int x5)]) hx hb dX1_waysToSaint_64 hl (k := 5) rfl rfl (by decide) rfl (fun ls hl => ?_)
  refine lv_goto (tgt := 15) hx hb dX1_waysToSaint_67 (by decide) ?_
  exact hr15 _ _ _ _ _ _ h H locs cells slots ls hc hz hR hS (lv_sub hl [1, 2, 3, 4, 5, 0] rfl)
set_option maxRecDepth 100000 in
set_option maxHeartbeats 4000000 in
theorem t_X1_waysToSaint_15 {lay : List ax_S} {b : Nat} {rv : Int64} (hL : ax_LL B lay) (hDb : ax_Dio B lay b) (C : ax_C p R s m args meth c yX1_waysToSaint cX1_waysToSaint 7 (some .long) 10 E mc ms) {r5 : ax_I → ax_J → Int32 → Int64 → Int32 → Option (Int64)} (hr5 : ∀ (I : ax_I) (J : ax_J) (x2 : Int32) (x3 : Int64) (x5 : Int32), r5 I J x2 x3 x5 = some rv → AM p l e R s m args below meth c E B lay.length (ax_z lay) 7 (some (.long rv)) lay I J lay I J 5 [(0, .ref (B + 31)), (1, .ref (B + b)), (2, .int x2), (3, .long x3), (5, .int x5)] []) : ∀ (n : Nat) (I : ax_I) (J : ax_J) (x2 : Int32) (x3 : Int64) (x5 : Int32) (x6 : Int32), f_X1_waysToSaint_15 b r5 n I J x2 x3 x5 x6 = some rv → AM p l e R s m args below meth c E B lay.length (ax_z lay) 7 (some (.long rv)) lay I J lay I J 15 [(0, .ref (B + 31)), (1, .ref (B + b)), (2, .int x2), (3, .long x3), (5, .int x5), (6, .int x6)] [] := by
  obtain ⟨hx, hb, hr, hml, hown, hts, hlocks, hK, hfr, hlo, hmc, hms, hnm⟩ := id C
  have hown : s.vm.findClass RX1 = some m.cls := hown
  intro n
  induction n with
  | zero => intro I J x2 x3 x5 x6 h; cases h
  | succ n ih =>
    intro I J x2 x3 x5 x6 h H locs cells slots ls hc hz hR hS hl
    rw [f_X1_waysToSaint_15] at h
    refine lv_iload hx hb dX1_waysToSaint_15 (lv_at hl 5 rfl) ?_
    refine lv_bipush (v := 9) hx hb dX1_waysToSaint_17 (by decide) ?_
    refine lv_icmp_ge (tgt := 70) hx hb dX1_waysToSaint_19 (by decide) (fun q => ?_) (fun q => ?_)
    · have h := ax_ip q h
      refine lv_iinc (v := (x5 + 1)) (lv' := [(5, .int (x5 + 1)), (0, .ref (B + 31)), (1, .ref (B + b)), (2, .int x2), (3, .long x3), (6, .int x6)]) hx hb dX1_waysToSaint_70 hl (k := 4) rfl rfl (by decide) rfl (fun ls hl => ?_)
      refine lv_goto (tgt := 5) hx hb dX1_waysToSaint_73 (by decide) ?_
      exact hr5 _ _ _ _ _ h H locs cells slots ls hc hz hR hS (lv_sub hl [1, 2, 3, 4, 0] rfl)
    · have h := ax_iN q h
      refine lv_aload_n hx hb dX1_waysToSaint_22 rfl (lv_at hl 1 rfl) ?_
      refine lv_iload_n hx hb dX1_waysToSaint_23 rfl (lv_at hl 2 rfl) ?_
      refine lv_aload_n hx hb dX1_waysToSaint_24 rfl (lv_at hl 1 rfl) ?_
      refine ax_getV hx hb hts hown hK hR fl_X1_19 (dio_0 hDb) rfl dX1_waysToSaint_25 ?_
      refine lv_iload_n hx hb dX1_waysToSaint_28 rfl (lv_at hl 2 rfl) ?_
      obtain ⟨hq, h⟩ := ax_ck h
      refine ax_iald hx hb hK hR (dio_1 hDb) hq dX1_waysToSaint_29 ?_
      refine lv_iload hx hb dX1_waysToSaint_30 (lv_at hl 4 rfl) ?_
      refine lv_iadd hx hb dX1_waysToSaint_32 ?_
      refine lv_aload_n hx hb dX1_waysToSaint_33 rfl (lv_at hl 1 rfl) ?_
      refine ax_getV hx hb hts hown hK hR fl_X1_25 (dio_0 hDb) rfl dX1_waysToSaint_34 ?_
      refine lv_iload_n hx hb dX1_waysToSaint_37 rfl (lv_at hl 2 rfl) ?_
      obtain ⟨hq, h⟩ := ax_ck h
      refine ax_iald hx hb hK hR (dio_2 hDb) hq dX1_waysToSaint_38 ?_
      refine lv_iload hx hb dX1_waysToSaint_39 (lv_at hl 5 rfl) ?_
      refine lv_iadd hx hb dX1_waysToSaint_41 ?_
      obtain ⟨q42, hq, h⟩ := ax_bd h
      refine ax_cV (rest := []) (st1 := [.int q42]) C hc hz hS hR (M_X2_wouldBeSaint hDb hq) yk_X2_wouldBeSaint in_X2_wouldBeSaint se_X2_wouldBeSaint ml_X1_28 (dio_0 hDb) rfl rfl (by decide) rfl hl.1 (Nat.le_of_ble_eq_true rfl) rfl rfl dX1_waysToSaint_42 (fun H locs hR hS => ?_)
      refine lv_if_eq (tgt := 64) hx hb dX1_waysToSaint_45 (by decide) (fun q => ?_) (fun q => ?_)
      · have h := ax_ip q h
        exact t_X1_waysToSaint_64 hL hDb C hr5 ih _ _ _ _ _ _ h H locs cells slots ls hc hz hR hS (lv_sub hl [0, 1, 2, 3, 4, 5] rfl)
      · have h := ax_iN q h
        refine lv_lload_n hx hb dX1_waysToSaint_48 rfl (lv_at hl 3 rfl) ?_
        refine lv_aload_n hx hb dX1_waysToSaint_49 rfl (lv_at hl 0 rfl) ?_
        refine ax_getV hx hb hts hown hK hR fl_X1_11 (lk_31 hL) rfl dX1_waysToSaint_50 ?_
        refine lv_iload hx hb dX1_waysToSaint_53 (lv_at hl 4 rfl) ?_
        refine lv_bipush (v := 9) hx hb dX1_waysToSaint_55 (by decide) ?_
        refine lv_imul hx hb dX1_waysToSaint_57 ?_
        refine lv_iload hx hb dX1_waysToSaint_58 (lv_at hl 5 rfl) ?_
        refine lv_iadd hx hb dX1_waysToSaint_60 ?_
        obtain ⟨hq, h⟩ := ax_ck h
        refine ax_lald hx hb hK hR (lk_32 hL) hq dX1_waysToSaint_61 ?_
        refine lv_ladd hx hb dX1_waysToSaint_62 ?_
        refine lv_lstore_n (lv' := [(3, .long (x3 + (J 32 ((x5 * 9) + x6).toNatClampNeg))), (0, .ref (B + 31)), (1, .ref (B + b)), (2, .int x2), (5, .int x5), (6, .int x6)]) hx hb dX1_waysToSaint_63 rfl hl (by decide) rfl (fun ls hl => ?_)
        exact t_X1_waysToSaint_64 hL hDb C hr5 ih _ _ _ _ _ _ h H locs cells slots ls hc hz hR hS (lv_sub hl [1, 2, 3, 0, 4, 5] rfl)
set_option maxRecDepth 100000 in
set_option maxHeartbeats 4000000 in
theorem t_X1_waysToSaint_5 {lay : List ax_S} {b : Nat} {rv : Int64} (hL : ax_LL B lay) (hDb : ax_Dio B lay b) (C : ax_C p R s m args meth c yX1_waysToSaint cX1_waysToSaint 7 (some .long) 10 E mc ms) : ∀ (n : Nat) (I : ax_I) (J : ax_J) (x2 : Int32) (x3 : Int64) (x5 : Int32), f_X1_waysToSaint_5 b n I J x2 x3 x5 = some rv → AM p l e R s m args below meth c E B lay.length (ax_z lay) 7 (some (.long rv)) lay I J lay I J 5 [(0, .ref (B + 31)), (1, .ref (B + b)), (2, .int x2), (3, .long x3), (5, .int x5)] [] := by
  obtain ⟨hx, hb, hr, hml, hown, hts, hlocks, hK, hfr, hlo, hmc, hms, hnm⟩ := id C
  have hown : s.vm.findClass RX1 = some m.cls := hown
  intro n
  induction n with
  | zero => intro I J x2 x3 x5 h; cases h
  | succ n ih =>
    intro I J x2 x3 x5 h H locs cells slots ls hc hz hR hS hl
    rw [f_X1_waysToSaint_5] at h
    refine lv_iload hx hb dX1_waysToSaint_5 (lv_at hl 4 rfl) ?_
    refine lv_bipush (v := 9) hx hb dX1_waysToSaint_7 (by decide) ?_
    refine lv_icmp_ge (tgt := 76) hx hb dX1_waysToSaint_9 (by decide) (fun q => ?_) (fun q => ?_)
    · have h := ax_ip q h
      refine lv_lload_n hx hb dX1_waysToSaint_76 rfl (lv_at hl 3 rfl) ?_
      cases h
      exact ax_lret C hc hz hR hS dX1_waysToSaint_77
    · have h := ax_iN q h
      refine lv_iconst (v := 0) hx hb dX1_waysToSaint_12 (by decide) ?_
      refine lv_istore (lv' := [(6, .int 0), (0, .ref (B + 31)), (1, .ref (B + b)), (2, .int x2), (3, .long x3), (5, .int x5)]) hx hb dX1_waysToSaint_13 hl (by decide) rfl (fun ls hl => ?_)
      exact t_X1_waysToSaint_15 hL hDb C ih ax_N _ _ _ _ _ _ h H locs cells slots ls hc hz hR hS (lv_sub hl [1, 2, 3, 4, 5, 0] rfl)
set_option maxRecDepth 100000 in
set_option maxHeartbeats 4000000 in
theorem t_X1_waysToSaint_0 {lay : List ax_S} {b : Nat} {rv : Int64} (hL : ax_LL B lay) (hDb : ax_Dio B lay b) (C : ax_C p R s m args meth c yX1_waysToSaint cX1_waysToSaint 7 (some .long) 10 E mc ms) : ∀ (I : ax_I) (J : ax_J) (x2 : Int32), F_X1_waysToSaint I J b x2 = some rv → AM p l e R s m args below meth c E B lay.length (ax_z lay) 7 (some (.long rv)) lay I J lay I J 0 [(0, .ref (B + 31)), (1, .ref (B + b)), (2, .int x2)] [] := by
  obtain ⟨hx, hb, hr, hml, hown, hts, hlocks, hK, hfr, hlo, hmc, hms, hnm⟩ := id C
  have hown : s.vm.findClass RX1 = some m.cls := hown
  intro I J x2 h H locs cells slots ls hc hz hR hS hl
  unfold F_X1_waysToSaint at h
  refine lv_lconst (v := 0) hx hb dX1_waysToSaint_0 (by decide) ?_
  refine lv_lstore_n (lv' := [(3, .long 0), (0, .ref (B + 31)), (1, .ref (B + b)), (2, .int x2)]) hx hb dX1_waysToSaint_1 rfl hl (by decide) rfl (fun ls hl => ?_)
  refine lv_iconst (v := 0) hx hb dX1_waysToSaint_2 (by decide) ?_
  refine lv_istore (lv' := [(5, .int 0), (3, .long 0), (0, .ref (B + 31)), (1, .ref (B + b)), (2, .int x2)]) hx hb dX1_waysToSaint_3 hl (by decide) rfl (fun ls hl => ?_)
  exact t_X1_waysToSaint_5 hL hDb C  ax_N _ _ _ _ _ h H locs cells slots ls hc hz hR hS (lv_sub hl [2, 3, 4, 1, 0] rfl)
theorem M_X1_waysToSaint {l : Launch} {E : ax_E} {B : Nat} {lay : List ax_S} {I : ax_I} {J : ax_J} {b : Nat} {x2 : Int32} {rv : Int64} (hL : ax_LL B lay) (hDb : ax_Dio B lay b) (h : F_X1_waysToSaint I J b x2 = some rv) : Cm l yX1_waysToSaint cX1_waysToSaint 7 (some .long) 10 E B [.ref (B + 31), .ref (B + b), .int x2] lay I J (some (.long rv)) lay I J :=
  ax_met (by decide) (Nat.le_of_ble_eq_true rfl) (fun p e R s m args below meth c C => t_X1_waysToSaint_0 hL hDb C _ _ _ h)
def f_X1_allWays_5 : Nat → ax_I → Int32 → Int64 → Int32 → Option Int64
  | 0, _, _, _, _ => none
  | n + 1, I, x1, x2, x4 => if x1 ≤ x4 then some x2 else f_X1_allWays_5 n I x1 (x2 * 10) (x4 + 1)
def F_X1_allWays (I : ax_I) (x1 : Int32) : Option Int64 :=
  f_X1_allWays_5 ax_N I x1 1 0
set_option maxRecDepth 100000 in
set_option maxHeartbeats 4000000 in
theorem t_X1_allWays_5 {lay : List ax_S} {J : ax_J} {rv : Int64} (hL : ax_LL B lay) (C : ax_C p R s m args meth c yX1_allWays cX1_allWays 5 (some .long) 2 E mc ms) : ∀ (n : Nat) (I : ax_I) (x1 : Int32) (x2 : Int64) (x4 : Int32), f_X1_allWays_5 n I x1 x2 x4 = some rv → AM p l e R s m args below meth c E B lay.length (ax_z lay) 5 (some (.long rv)) lay I J lay I J 5 [(1, .int x1), (2, .long x2), (4, .int x4)] [] := by
  obtain ⟨hx, hb, hr, hml, hown, hts, hlocks, hK, hfr, hlo, hmc, hms, hnm⟩ := id C
  have hown : s.vm.findClass RX1 = some m.cls := hown
  intro n
  induction n with
  | zero => intro I x1 x2 x4 h; cases h
  | succ n ih =>
    intro I x1 x2 x4 h H locs cells slots ls hc hz hR hS hl
    rw [f_X1_allWays_5] at h
    refine lv_iload hx hb dX1_allWays_5 (lv_at hl 2 rfl) ?_
    refine lv_iload_n hx hb dX1_allWays_7 rfl (lv_at hl 0 rfl) ?_
    refine lv_icmp_ge (tgt := 23) hx hb dX1_allWays_8 (by decide) (fun q => ?_) (fun q => ?_)
    · have h := ax_ip q h
      refine lv_lload_n hx hb dX1_allWays_23 rfl (lv_at hl 1 rfl) ?_
      cases h
      exact ax_lret C hc hz hR hS dX1_allWays_24
    · have h := ax_iN q h
      refine lv_lload_n hx hb dX1_allWays_11 rfl (lv_at hl 1 rfl) ?_
      refine lv_ldc2 hx hb hown (hts _ ct_X1_32) dX1_allWays_12 ?_
      refine lv_lmul hx hb dX1_allWays_15 ?_
      refine lv_lstore_n (lv' := [(2, .long (x2 * 10)), (1, .int x1), (4, .int x4)]) hx hb dX1_allWays_16 rfl hl (by decide) rfl (fun ls hl => ?_)
      refine lv_iinc (v := (x4 + 1)) (lv' := [(4, .int (x4 + 1)), (2, .long (x2 * 10)), (1, .int x1)]) hx hb dX1_allWays_17 hl (k := 2) rfl rfl (by decide) rfl (fun ls hl => ?_)
      refine lv_goto (tgt := 5) hx hb dX1_allWays_20 (by decide) ?_
      exact ih _ _ _ _ h H locs cells slots ls hc hz hR hS (lv_sub hl [2, 1, 0] rfl)
set_option maxRecDepth 100000 in
set_option maxHeartbeats 4000000 in
theorem t_X1_allWays_0 {lay : List ax_S} {J : ax_J} {rv : Int64} (hL : ax_LL B lay) (C : ax_C p R s m args meth c yX1_allWays cX1_allWays 5 (some .long) 2 E mc ms) : ∀ (I : ax_I) (x1 : Int32), F_X1_allWays I x1 = some rv → AM p l e R s m args below meth c E B lay.length (ax_z lay) 5 (some (.long rv)) lay I J lay I J 0 [(0, .ref (B + 31)), (1, .int x1)] [] := by
  obtain ⟨hx, hb, hr, hml, hown, hts, hlocks, hK, hfr, hlo, hmc, hms, hnm⟩ := id C
  have hown : s.vm.findClass RX1 = some m.cls := hown
  intro I x1 h H locs cells slots ls hc hz hR hS hl
  unfold F_X1_allWays at h
  refine lv_lconst (v := 1) hx hb dX1_allWays_0 (by decide) ?_
  refine lv_lstore_n (lv' := [(2, .long 1), (0, .ref (B + 31)), (1, .int x1)]) hx hb dX1_allWays_1 rfl hl (by decide) rfl (fun ls hl => ?_)
  refine lv_iconst (v := 0) hx hb dX1_allWays_2 (by decide) ?_
  refine lv_istore (lv' := [(4, .int 0), (2, .long 1), (0, .ref (B + 31)), (1, .int x1)]) hx hb dX1_allWays_3 hl (by decide) rfl (fun ls hl => ?_)
  exact t_X1_allWays_5 hL C  ax_N _ _ _ _ h H locs cells slots ls hc hz hR hS (lv_sub hl [3, 1, 0] rfl)
theorem M_X1_allWays {l : Launch} {E : ax_E} {B : Nat} {lay : List ax_S} {I : ax_I} {J : ax_J} {x1 : Int32} {rv : Int64} (hL : ax_LL B lay) (h : F_X1_allWays I x1 = some rv) : Cm l yX1_allWays cX1_allWays 5 (some .long) 2 E B [.ref (B + 31), .int x1] lay I J (some (.long rv)) lay I J :=
  ax_met (by decide) (Nat.le_of_ble_eq_true rfl) (fun p e R s m args below meth c C => t_X1_allWays_0 hL C _ _ h)
def f_X2_copyFrom_203 (b : Nat) (b2 : Nat) (I : ax_I) : Option ax_I :=
  some I
def f_X2_copyFrom_173 (b : Nat) (b2 : Nat) (I : ax_I) : Option ax_I :=
  f_X2_copyFrom_203 b b2 (ax_r (ax_r I (b + 10) (va_cpy (I (b2 + 10)) (I (b + 10)) 0 0 8)) (b + 11) (va_cpy ((ax_r I (b + 10) (va_cpy (I (b2 + 10)) (I (b + 10)) 0 0 8)) (b2 + 11)) ((ax_r I (b + 10) (va_cpy (I (b2 + 10)) (I (b + 10)) 0 0 8)) (b + 11)) 0 0 8))
def f_X2_copyFrom_145 (b : Nat) (b2 : Nat) (I : ax_I) : Option ax_I :=
  f_X2_copyFrom_173 b b2 (ax_r (ax_r I (b + 8) (va_cpy (I (b2 + 8)) (I (b + 8)) 0 0 4)) (b + 9) (va_cpy ((ax_r I (b + 8) (va_cpy (I (b2 + 8)) (I (b + 8)) 0 0 4)) (b2 + 9)) ((ax_r I (b + 8) (va_cpy (I (b2 + 8)) (I (b + 8)) 0 0 4)) (b + 9)) 0 0 3))
def f_X2_copyFrom_115 (b : Nat) (b2 : Nat) (I : ax_I) : Option ax_I :=
  f_X2_copyFrom_145 b b2 (ax_r (ax_r I (b + 6) (va_cpy (I (b2 + 6)) (I (b + 6)) 0 0 6)) (b + 7) (va_cpy ((ax_r I (b + 6) (va_cpy (I (b2 + 6)) (I (b + 6)) 0 0 6)) (b2 + 7)) ((ax_r I (b + 6) (va_cpy (I (b2 + 6)) (I (b + 6)) 0 0 6)) (b + 7)) 0 0 6))
def f_X2_copyFrom_85 (b : Nat) (b2 : Nat) (I : ax_I) : Option ax_I :=
  f_X2_copyFrom_115 b b2 (ax_r (ax_r I (b + 4) (va_cpy (I (b2 + 4)) (I (b + 4)) 0 0 48)) (b + 5) (va_cpy ((ax_r I (b + 4) (va_cpy (I (b2 + 4)) (I (b + 4)) 0 0 48)) (b2 + 5)) ((ax_r I (b + 4) (va_cpy (I (b2 + 4)) (I (b + 4)) 0 0 48)) (b + 5)) 0 0 6))
def f_X2_copyFrom_55 (b : Nat) (b2 : Nat) (I : ax_I) : Option ax_I :=
  f_X2_copyFrom_85 b b2 (ax_r (ax_r I (b + 2) (va_cpy (I (b2 + 2)) (I (b + 2)) 0 0 6)) (b + 3) (va_cpy ((ax_r I (b + 2) (va_cpy (I (b2 + 2)) (I (b + 2)) 0 0 6)) (b2 + 3)) ((ax_r I (b + 2) (va_cpy (I (b2 + 2)) (I (b + 2)) 0 0 6)) (b + 3)) 0 0 6))
def f_X2_copyFrom_24 (b : Nat) (b2 : Nat) (I : ax_I) : Option ax_I :=
  f_X2_copyFrom_55 b b2 (ax_r (ax_u (ax_u I b 3 (I b2 3)) b 4 ((ax_u I b 3 (I b2 3)) b2 4)) (b + 1) (va_cpy ((ax_u (ax_u I b 3 (I b2 3)) b 4 ((ax_u I b 3 (I b2 3)) b2 4)) (b2 + 1)) ((ax_u (ax_u I b 3 (I b2 3)) b 4 ((ax_u I b 3 (I b2 3)) b2 4)) (b + 1)) 0 0 6))
def F_X2_copyFrom (I : ax_I) (b : Nat) (b2 : Nat) : Option ax_I :=
  f_X2_copyFrom_24 b b2 (ax_u (ax_u (ax_u I b 0 (I b2 0)) b 1 ((ax_u I b 0 (I b2 0)) b2 1)) b 2 ((ax_u (ax_u I b 0 (I b2 0)) b 1 ((ax_u I b 0 (I b2 0)) b2 1)) b2 2))
set_option maxRecDepth 100000 in
set_option maxHeartbeats 4000000 in
theorem t_X2_copyFrom_203 {lay : List ax_S} {b : Nat} {b2 : Nat} {J : ax_J} {I9 : ax_I} (hDb : ax_Dio B lay b) (hDb2 : ax_Dio B lay b2) (C : ax_C p R s m args meth c yX2_copyFrom cX2_copyFrom 2 none 3 E mc ms) : ∀ (I : ax_I), f_X2_copyFrom_203 b b2 I = some I9 → AM p l e R s m args below meth c E B lay.length (ax_z lay) 2 none lay I9 J lay I J 203 [] [] := by
  obtain ⟨hx, hb, hr, hml, hown, hts, hlocks, hK, hfr, hlo, hmc, hms, hnm⟩ := id C
  have hown : s.vm.findClass RX2 = some m.cls := hown
  intro I h H locs cells slots ls hc hz hR hS hl
  unfold f_X2_copyFrom_203 at h
  cases h
  exact ax_vret C hc hz hR hS dX2_copyFrom_203
set_option maxRecDepth 100000 in
set_option maxHeartbeats 4000000 in
theorem t_X2_copyFrom_173 {lay : List ax_S} {b : Nat} {b2 : Nat} {J : ax_J} {I9 : ax_I} (hDb : ax_Dio B lay b) (hDb2 : ax_Dio B lay b2) (C : ax_C p R s m args meth c yX2_copyFrom cX2_copyFrom 2 none 3 E mc ms) : ∀ (I : ax_I), f_X2_copyFrom_173 b b2 I = some I9 → AM p l e R s m args below meth c E B lay.length (ax_z lay) 2 none lay I9 J lay I J 173 [(0, .ref (B + b)), (1, .ref (B + b2))] [] := by
  obtain ⟨hx, hb, hr, hml, hown, hts, hlocks, hK, hfr, hlo, hmc, hms, hnm⟩ := id C
  have hown : s.vm.findClass RX2 = some m.cls := hown
  intro I h H locs cells slots ls hc hz hR hS hl
  unfold f_X2_copyFrom_173 at h
  refine lv_aload_n hx hb dX2_copyFrom_173 rfl (lv_at hl 1 rfl) ?_
  refine ax_getV hx hb hts hown hK hR fl_X2_39 (dio_0 hDb2) rfl dX2_copyFrom_174 ?_
  refine lv_iconst (v := 0) hx hb dX2_copyFrom_177 (by decide) ?_
  refine lv_aload_n hx hb dX2_copyFrom_178 rfl (lv_at hl 0 rfl) ?_
  refine ax_getV hx hb hts hown hK hR fl_X2_39 (dio_0 hDb) rfl dX2_copyFrom_179 ?_
  refine lv_iconst (v := 0) hx hb dX2_copyFrom_182 (by decide) ?_
  refine lv_bipush (v := 8) hx hb dX2_copyFrom_183 (by decide) ?_
  refine ax_copy hx hb hts (hml.trans hl.1.symm) hown hK hR hS ml_X2_61 nat_ac st_ac ini_sys (dio_10 hDb2) (dio_10 hDb) rfl (by decide) (by omega) (by omega) rfl dX2_copyFrom_185 (fun H locs hR hS => ?_)
  refine lv_aload_n hx hb dX2_copyFrom_188 rfl (lv_at hl 1 rfl) ?_
  refine ax_getV hx hb hts hown hK hR fl_X2_42 (dio_0 hDb2) rfl dX2_copyFrom_189 ?_
  refine lv_iconst (v := 0) hx hb dX2_copyFrom_192 (by decide) ?_
  refine lv_aload_n hx hb dX2_copyFrom_193 rfl (lv_at hl 0 rfl) ?_
  refine ax_getV hx hb hts hown hK hR fl_X2_42 (dio_0 hDb) rfl dX2_copyFrom_194 ?_
  refine lv_iconst (v := 0) hx hb dX2_copyFrom_197 (by decide) ?_
  refine lv_bipush (v := 8) hx hb dX2_copyFrom_198 (by decide) ?_
  refine ax_copy hx hb hts (hml.trans hl.1.symm) hown hK hR hS ml_X2_61 nat_ac st_ac ini_sys (dio_11 hDb2) (dio_11 hDb) rfl (by decide) (by omega) (by omega) rfl dX2_copyFrom_200 (fun H locs hR hS => ?_)
  exact t_X2_copyFrom_203 hDb hDb2 C  _ h H locs cells slots ls hc hz hR hS (lv_sub hl [] rfl)
set_option maxRecDepth 100000 in
set_option maxHeartbeats 4000000 in
theorem t_X2_copyFrom_145 {lay : List ax_S} {b : Nat} {b2 : Nat} {J : ax_J} {I9 : ax_I} (hDb : ax_Dio B lay b) (hDb2 : ax_Dio B lay b2) (C : ax_C p R s m args meth c yX2_copyFrom cX2_copyFrom 2 none 3 E mc ms) : ∀ (I : ax_I), f_X2_copyFrom_145 b b2 I = some I9 → AM p l e R s m args below meth c E B lay.length (ax_z lay) 2 none lay I9 J lay I J 145 [(0, .ref (B + b)), (1, .ref (B + b2))] [] := by
  obtain ⟨hx, hb, hr, hml, hown, hts, hlocks, hK, hfr, hlo, hmc, hms, hnm⟩ := id C
  have hown : s.vm.findClass RX2 = some m.cls := hown
  intro I h H locs cells slots ls hc hz hR hS hl
  unfold f_X2_copyFrom_145 at h
  refine lv_aload_n hx hb dX2_copyFrom_145 rfl (lv_at hl 1 rfl) ?_
  refine ax_getV hx hb hts hown hK hR fl_X2_33 (dio_0 hDb2) rfl dX2_copyFrom_146 ?_
  refine lv_iconst (v := 0) hx hb dX2_copyFrom_149 (by decide) ?_
  refine lv_aload_n hx hb dX2_copyFrom_150 rfl (lv_at hl 0 rfl) ?_
  refine ax_getV hx hb hts hown hK hR fl_X2_33 (dio_0 hDb) rfl dX2_copyFrom_151 ?_
  refine lv_iconst (v := 0) hx hb dX2_copyFrom_154 (by decide) ?_
  refine lv_iconst (v := 4) hx hb dX2_copyFrom_155 (by decide) ?_
  refine ax_copy hx hb hts (hml.trans hl.1.symm) hown hK hR hS ml_X2_61 nat_ac st_ac ini_sys (dio_8 hDb2) (dio_8 hDb) rfl (by decide) (by omega) (by omega) rfl dX2_copyFrom_156 (fun H locs hR hS => ?_)
  refine lv_aload_n hx hb dX2_copyFrom_159 rfl (lv_at hl 1 rfl) ?_
  refine ax_getV hx hb hts hown hK hR fl_X2_36 (dio_0 hDb2) rfl dX2_copyFrom_160 ?_
  refine lv_iconst (v := 0) hx hb dX2_copyFrom_163 (by decide) ?_
  refine lv_aload_n hx hb dX2_copyFrom_164 rfl (lv_at hl 0 rfl) ?_
  refine ax_getV hx hb hts hown hK hR fl_X2_36 (dio_0 hDb) rfl dX2_copyFrom_165 ?_
  refine lv_iconst (v := 0) hx hb dX2_copyFrom_168 (by decide) ?_
  refine lv_iconst (v := 3) hx hb dX2_copyFrom_169 (by decide) ?_
  refine ax_copy hx hb hts (hml.trans hl.1.symm) hown hK hR hS ml_X2_61 nat_ac st_ac ini_sys (dio_9 hDb2) (dio_9 hDb) rfl (by decide) (by omega) (by omega) rfl dX2_copyFrom_170 (fun H locs hR hS => ?_)
  exact t_X2_copyFrom_173 hDb hDb2 C  _ h H locs cells slots ls hc hz hR hS (lv_sub hl [0, 1] rfl)
set_option maxRecDepth 100000 in
set_option maxHeartbeats 4000000 in
theorem t_X2_copyFrom_115 {lay : List ax_S} {b : Nat} {b2 : Nat} {J : ax_J} {I9 : ax_I} (hDb : ax_Dio B lay b) (hDb2 : ax_Dio B lay b2) (C : ax_C p R s m args meth c yX2_copyFrom cX2_copyFrom 2 none 3 E mc ms) : ∀ (I : ax_I), f_X2_copyFrom_115 b b2 I = some I9 → AM p l e R s m args below meth c E B lay.length (ax_z lay) 2 none lay I9 J lay I J 115 [(0, .ref (B + b)), (1, .ref (B + b2))] [] := by
  obtain ⟨hx, hb, hr, hml, hown, hts, hlocks, hK, hfr, hlo, hmc, hms, hnm⟩ := id C
  have hown : s.vm.findClass RX2 = some m.cls := hown
  intro I h H locs cells slots ls hc hz hR hS hl
  unfold f_X2_copyFrom_115 at h
  refine lv_aload_n hx hb dX2_copyFrom_115 rfl (lv_at hl 1 rfl) ?_
  refine ax_getV hx hb hts hown hK hR fl_X2_27 (dio_0 hDb2) rfl dX2_copyFrom_116 ?_
  refine lv_iconst (v := 0) hx hb dX2_copyFrom_119 (by decide) ?_
  refine lv_aload_n hx hb dX2_copyFrom_120 rfl (lv_at hl 0 rfl) ?_
  refine ax_getV hx hb hts hown hK hR fl_X2_27 (dio_0 hDb) rfl dX2_copyFrom_121 ?_
  refine lv_iconst (v := 0) hx hb dX2_copyFrom_124 (by decide) ?_
  refine lv_bipush (v := 6) hx hb dX2_copyFrom_125 (by decide) ?_
  refine ax_copy hx hb hts (hml.trans hl.1.symm) hown hK hR hS ml_X2_61 nat_ac st_ac ini_sys (dio_6 hDb2) (dio_6 hDb) rfl (by decide) (by omega) (by omega) rfl dX2_copyFrom_127 (fun H locs hR hS => ?_)
  refine lv_aload_n hx hb dX2_copyFrom_130 rfl (lv_at hl 1 rfl) ?_
  refine ax_getV hx hb hts hown hK hR fl_X2_30 (dio_0 hDb2) rfl dX2_copyFrom_131 ?_
  refine lv_iconst (v := 0) hx hb dX2_copyFrom_134 (by decide) ?_
  refine lv_aload_n hx hb dX2_copyFrom_135 rfl (lv_at hl 0 rfl) ?_
  refine ax_getV hx hb hts hown hK hR fl_X2_30 (dio_0 hDb) rfl dX2_copyFrom_136 ?_
  refine lv_iconst (v := 0) hx hb dX2_copyFrom_139 (by decide) ?_
  refine lv_bipush (v := 6) hx hb dX2_copyFrom_140 (by decide) ?_
  refine ax_copy hx hb hts (hml.trans hl.1.symm) hown hK hR hS ml_X2_61 nat_ac st_ac ini_sys (dio_7 hDb2) (dio_7 hDb) rfl (by decide) (by omega) (by omega) rfl dX2_copyFrom_142 (fun H locs hR hS => ?_)
  exact t_X2_copyFrom_145 hDb hDb2 C  _ h H locs cells slots ls hc hz hR hS (lv_sub hl [0, 1] rfl)
set_option maxRecDepth 100000 in
set_option maxHeartbeats 4000000 in
theorem t_X2_copyFrom_85 {lay : List ax_S} {b : Nat} {b2 : Nat} {J : ax_J} {I9 : ax_I} (hDb : ax_Dio B lay b) (hDb2 : ax_Dio B lay b2) (C : ax_C p R s m args meth c yX2_copyFrom cX2_copyFrom 2 none 3 E mc ms) : ∀ (I : ax_I), f_X2_copyFrom_85 b b2 I = some I9 → AM p l e R s m args below meth c E B lay.length (ax_z lay) 2 none lay I9 J lay I J 85 [(0, .ref (B + b)), (1, .ref (B + b2))] [] := by
  obtain ⟨hx, hb, hr, hml, hown, hts, hlocks, hK, hfr, hlo, hmc, hms, hnm⟩ := id C
  have hown : s.vm.findClass RX2 = some m.cls := hown
  intro I h H locs cells slots ls hc hz hR hS hl
  unfold f_X2_copyFrom_85 at h
  refine lv_aload_n hx hb dX2_copyFrom_85 rfl (lv_at hl 1 rfl) ?_
  refine ax_getV hx hb hts hown hK hR fl_X2_21 (dio_0 hDb2) rfl dX2_copyFrom_86 ?_
  refine lv_iconst (v := 0) hx hb dX2_copyFrom_89 (by decide) ?_
  refine lv_aload_n hx hb dX2_copyFrom_90 rfl (lv_at hl 0 rfl) ?_
  refine ax_getV hx hb hts hown hK hR fl_X2_21 (dio_0 hDb) rfl dX2_copyFrom_91 ?_
  refine lv_iconst (v := 0) hx hb dX2_copyFrom_94 (by decide) ?_
  refine lv_bipush (v := 48) hx hb dX2_copyFrom_95 (by decide) ?_
  refine ax_copy hx hb hts (hml.trans hl.1.symm) hown hK hR hS ml_X2_61 nat_ac st_ac ini_sys (dio_4 hDb2) (dio_4 hDb) rfl (by decide) (by omega) (by omega) rfl dX2_copyFrom_97 (fun H locs hR hS => ?_)
  refine lv_aload_n hx hb dX2_copyFrom_100 rfl (lv_at hl 1 rfl) ?_
  refine ax_getV hx hb hts hown hK hR fl_X2_24 (dio_0 hDb2) rfl dX2_copyFrom_101 ?_
  refine lv_iconst (v := 0) hx hb dX2_copyFrom_104 (by decide) ?_
  refine lv_aload_n hx hb dX2_copyFrom_105 rfl (lv_at hl 0 rfl) ?_
  refine ax_getV hx hb hts hown hK hR fl_X2_24 (dio_0 hDb) rfl dX2_copyFrom_106 ?_
  refine lv_iconst (v := 0) hx hb dX2_copyFrom_109 (by decide) ?_
  refine lv_bipush (v := 6) hx hb dX2_copyFrom_110 (by decide) ?_
  refine ax_copy hx hb hts (hml.trans hl.1.symm) hown hK hR hS ml_X2_61 nat_ac st_ac ini_sys (dio_5 hDb2) (dio_5 hDb) rfl (by decide) (by omega) (by omega) rfl dX2_copyFrom_112 (fun H locs hR hS => ?_)
  exact t_X2_copyFrom_115 hDb hDb2 C  _ h H locs cells slots ls hc hz hR hS (lv_sub hl [0, 1] rfl)
set_option maxRecDepth 100000 in
set_option maxHeartbeats 4000000 in
theorem t_X2_copyFrom_55 {lay : List ax_S} {b : Nat} {b2 : Nat} {J : ax_J} {I9 : ax_I} (hDb : ax_Dio B lay b) (hDb2 : ax_Dio B lay b2) (C : ax_C p R s m args meth c yX2_copyFrom cX2_copyFrom 2 none 3 E mc ms) : ∀ (I : ax_I), f_X2_copyFrom_55 b b2 I = some I9 → AM p l e R s m args below meth c E B lay.length (ax_z lay) 2 none lay I9 J lay I J 55 [(0, .ref (B + b)), (1, .ref (B + b2))] [] := by
  obtain ⟨hx, hb, hr, hml, hown, hts, hlocks, hK, hfr, hlo, hmc, hms, hnm⟩ := id C
  have hown : s.vm.findClass RX2 = some m.cls := hown
  intro I h H locs cells slots ls hc hz hR hS hl
  unfold f_X2_copyFrom_55 at h
  refine lv_aload_n hx hb dX2_copyFrom_55 rfl (lv_at hl 1 rfl) ?_
  refine ax_getV hx hb hts hown hK hR fl_X2_15 (dio_0 hDb2) rfl dX2_copyFrom_56 ?_
  refine lv_iconst (v := 0) hx hb dX2_copyFrom_59 (by decide) ?_
  refine lv_aload_n hx hb dX2_copyFrom_60 rfl (lv_at hl 0 rfl) ?_
  refine ax_getV hx hb hts hown hK hR fl_X2_15 (dio_0 hDb) rfl dX2_copyFrom_61 ?_
  refine lv_iconst (v := 0) hx hb dX2_copyFrom_64 (by decide) ?_
  refine lv_bipush (v := 6) hx hb dX2_copyFrom_65 (by decide) ?_
  refine ax_copy hx hb hts (hml.trans hl.1.symm) hown hK hR hS ml_X2_61 nat_ac st_ac ini_sys (dio_2 hDb2) (dio_2 hDb) rfl (by decide) (by omega) (by omega) rfl dX2_copyFrom_67 (fun H locs hR hS => ?_)
  refine lv_aload_n hx hb dX2_copyFrom_70 rfl (lv_at hl 1 rfl) ?_
  refine ax_getV hx hb hts hown hK hR fl_X2_18 (dio_0 hDb2) rfl dX2_copyFrom_71 ?_
  refine lv_iconst (v := 0) hx hb dX2_copyFrom_74 (by decide) ?_
  refine lv_aload_n hx hb dX2_copyFrom_75 rfl (lv_at hl 0 rfl) ?_
  refine ax_getV hx hb hts hown hK hR fl_X2_18 (dio_0 hDb) rfl dX2_copyFrom_76 ?_
  refine lv_iconst (v := 0) hx hb dX2_copyFrom_79 (by decide) ?_
  refine lv_bipush (v := 6) hx hb dX2_copyFrom_80 (by decide) ?_
  refine ax_copy hx hb hts (hml.trans hl.1.symm) hown hK hR hS ml_X2_61 nat_ac st_ac ini_sys (dio_3 hDb2) (dio_3 hDb) rfl (by decide) (by omega) (by omega) rfl dX2_copyFrom_82 (fun H locs hR hS => ?_)
  exact t_X2_copyFrom_85 hDb hDb2 C  _ h H locs cells slots ls hc hz hR hS (lv_sub hl [0, 1] rfl)
set_option maxRecDepth 100000 in
set_option maxHeartbeats 4000000 in
theorem t_X2_copyFrom_24 {lay : List ax_S} {b : Nat} {b2 : Nat} {J : ax_J} {I9 : ax_I} (hDb : ax_Dio B lay b) (hDb2 : ax_Dio B lay b2) (C : ax_C p R s m args meth c yX2_copyFrom cX2_copyFrom 2 none 3 E mc ms) : ∀ (I : ax_I), f_X2_copyFrom_24 b b2 I = some I9 → AM p l e R s m args below meth c E B lay.length (ax_z lay) 2 none lay I9 J lay I J 24 [(0, .ref (B + b)), (1, .ref (B + b2))] [] := by
  obtain ⟨hx, hb, hr, hml, hown, hts, hlocks, hK, hfr, hlo, hmc, hms, hnm⟩ := id C
  have hown : s.vm.findClass RX2 = some m.cls := hown
  intro I h H locs cells slots ls hc hz hR hS hl
  unfold f_X2_copyFrom_24 at h
  refine lv_aload_n hx hb dX2_copyFrom_24 rfl (lv_at hl 0 rfl) ?_
  refine lv_aload_n hx hb dX2_copyFrom_25 rfl (lv_at hl 1 rfl) ?_
  refine ax_getI hx hb hts hown hK hR fl_X2_55 (dio_0 hDb2) rfl dX2_copyFrom_26 ?_
  refine ax_putI hx hb hts hown hK hR hS fp_X2_55 (dio_0 hDb) rfl rfl rfl dX2_copyFrom_29 (fun H locs hR hS => ?_)
  refine lv_aload_n hx hb dX2_copyFrom_32 rfl (lv_at hl 0 rfl) ?_
  refine lv_aload_n hx hb dX2_copyFrom_33 rfl (lv_at hl 1 rfl) ?_
  refine ax_getI hx hb hts hown hK hR fl_X2_58 (dio_0 hDb2) rfl dX2_copyFrom_34 ?_
  refine ax_putI hx hb hts hown hK hR hS fp_X2_58 (dio_0 hDb) rfl rfl rfl dX2_copyFrom_37 (fun H locs hR hS => ?_)
  refine lv_aload_n hx hb dX2_copyFrom_40 rfl (lv_at hl 1 rfl) ?_
  refine ax_getV hx hb hts hown hK hR fl_X2_9 (dio_0 hDb2) rfl dX2_copyFrom_41 ?_
  refine lv_iconst (v := 0) hx hb dX2_copyFrom_44 (by decide) ?_
  refine lv_aload_n hx hb dX2_copyFrom_45 rfl (lv_at hl 0 rfl) ?_
  refine ax_getV hx hb hts hown hK hR fl_X2_9 (dio_0 hDb) rfl dX2_copyFrom_46 ?_
  refine lv_iconst (v := 0) hx hb dX2_copyFrom_49 (by decide) ?_
  refine lv_bipush (v := 6) hx hb dX2_copyFrom_50 (by decide) ?_
  refine ax_copy hx hb hts (hml.trans hl.1.symm) hown hK hR hS ml_X2_61 nat_ac st_ac ini_sys (dio_1 hDb2) (dio_1 hDb) rfl (by decide) (by omega) (by omega) rfl dX2_copyFrom_52 (fun H locs hR hS => ?_)
  exact t_X2_copyFrom_55 hDb hDb2 C  _ h H locs cells slots ls hc hz hR hS (lv_sub hl [0, 1] rfl)
set_option maxRecDepth 100000 in
set_option maxHeartbeats 4000000 in
theorem t_X2_copyFrom_0 {lay : List ax_S} {b : Nat} {b2 : Nat} {J : ax_J} {I9 : ax_I} (hDb : ax_Dio B lay b) (hDb2 : ax_Dio B lay b2) (C : ax_C p R s m args meth c yX2_copyFrom cX2_copyFrom 2 none 3 E mc ms) : ∀ (I : ax_I), F_X2_copyFrom I b b2 = some I9 → AM p l e R s m args below meth c E B lay.length (ax_z lay) 2 none lay I9 J lay I J 0 [(0, .ref (B + b)), (1, .ref (B + b2))] [] := by
  obtain ⟨hx, hb, hr, hml, hown, hts, hlocks, hK, hfr, hlo, hmc, hms, hnm⟩ := id C
  have hown : s.vm.findClass RX2 = some m.cls := hown
  intro I h H locs cells slots ls hc hz hR hS hl
  unfold F_X2_copyFrom at h
  refine lv_aload_n hx hb dX2_copyFrom_0 rfl (lv_at hl 0 rfl) ?_
  refine lv_aload_n hx hb dX2_copyFrom_1 rfl (lv_at hl 1 rfl) ?_
  refine ax_getI hx hb hts hown hK hR fl_X2_45 (dio_0 hDb2) rfl dX2_copyFrom_2 ?_
  refine ax_putI hx hb hts hown hK hR hS fp_X2_45 (dio_0 hDb) rfl rfl rfl dX2_copyFrom_5 (fun H locs hR hS => ?_)
  refine lv_aload_n hx hb dX2_copyFrom_8 rfl (lv_at hl 0 rfl) ?_
  refine lv_aload_n hx hb dX2_copyFrom_9 rfl (lv_at hl 1 rfl) ?_
  refine ax_getI hx hb hts hown hK hR fl_X2_49 (dio_0 hDb2) rfl dX2_copyFrom_10 ?_
  refine ax_putI hx hb hts hown hK hR hS fp_X2_49 (dio_0 hDb) rfl rfl rfl dX2_copyFrom_13 (fun H locs hR hS => ?_)
  refine lv_aload_n hx hb dX2_copyFrom_16 rfl (lv_at hl 0 rfl) ?_
  refine lv_aload_n hx hb dX2_copyFrom_17 rfl (lv_at hl 1 rfl) ?_
  refine ax_getI hx hb hts hown hK hR fl_X2_52 (dio_0 hDb2) rfl dX2_copyFrom_18 ?_
  refine ax_putI hx hb hts hown hK hR hS fp_X2_52 (dio_0 hDb) rfl rfl rfl dX2_copyFrom_21 (fun H locs hR hS => ?_)
  exact t_X2_copyFrom_24 hDb hDb2 C  _ h H locs cells slots ls hc hz hR hS (lv_sub hl [0, 1] rfl)
theorem M_X2_copyFrom {l : Launch} {E : ax_E} {B : Nat} {lay : List ax_S} {I : ax_I} {J : ax_J} {b : Nat} {b2 : Nat} {I9 : ax_I} (hDb : ax_Dio B lay b) (hDb2 : ax_Dio B lay b2) (h : F_X2_copyFrom I b b2 = some I9) : Cm l yX2_copyFrom cX2_copyFrom 2 none 3 E B [.ref (B + b), .ref (B + b2)] lay I J none lay I9 J :=
  ax_met (by decide) (Nat.le_of_ble_eq_true rfl) (fun p e R s m args below meth c C => t_X2_copyFrom_0 hDb hDb2 C _ h)
def F_X2_isSaint (I : ax_I) (b : Nat) (x1 : Int32) : Option Int32 :=
  (F_X2_isThere I b x1).bind (fun q2 => if q2 = 0 then some 0 else if ax_in x1 6 = true then if ax_in x1 6 = true then (F_X2_wouldBeSaint I b x1 (I (b + 1) x1.toNatClampNeg) (I (b + 2) x1.toNatClampNeg)).bind (fun q22 => if q22 = 0 then some 0 else some 1) else none else none)
set_option maxRecDepth 100000 in
set_option maxHeartbeats 4000000 in
theorem t_X2_isSaint_0 {lay : List ax_S} {b : Nat} {J : ax_J} {rv : Int32} (hDb : ax_Dio B lay b) (C : ax_C p R s m args meth c yX2_isSaint cX2_isSaint 2 (some .boolean) 10 E mc ms) : ∀ (I : ax_I) (x1 : Int32), F_X2_isSaint I b x1 = some rv → AM p l e R s m args below meth c E B lay.length (ax_z lay) 2 (some (.int rv)) lay I J lay I J 0 [(0, .ref (B + b)), (1, .int x1)] [] := by
  obtain ⟨hx, hb, hr, hml, hown, hts, hlocks, hK, hfr, hlo, hmc, hms, hnm⟩ := id C
  have hown : s.vm.findClass RX2 = some m.cls := hown
  intro I x1 h H locs cells slots ls hc hz hR hS hl
  unfold F_X2_isSaint at h
  refine lv_aload_n hx hb dX2_isSaint_0 rfl (lv_at hl 0 rfl) ?_
  refine lv_iload_n hx hb dX2_isSaint_1 rfl (lv_at hl 1 rfl) ?_
  obtain ⟨q2, hq, h⟩ := ax_bd h
  refine ax_cV (rest := []) (st1 := [.int q2]) C hc hz hS hR (M_X2_isThere hDb hq) yk_X2_isThere in_X2_isThere se_X2_isThere ml_X2_71 (dio_0 hDb) rfl rfl (by decide) rfl hl.1 (Nat.le_of_ble_eq_true rfl) rfl rfl dX2_isSaint_2 (fun H locs hR hS => ?_)
  refine lv_if_eq (tgt := 32) hx hb dX2_isSaint_5 (by decide) (fun q => ?_) (fun q => ?_)
  · have h := ax_ip q h
    refine lv_iconst (v := 0) hx hb dX2_isSaint_32 (by decide) ?_
    cases h
    exact ax_iret C hc hz hR hS rfl ax_bool_n0 dX2_isSaint_33
  · have h := ax_iN q h
    refine lv_aload_n hx hb dX2_isSaint_8 rfl (lv_at hl 0 rfl) ?_
    refine lv_iload_n hx hb dX2_isSaint_9 rfl (lv_at hl 1 rfl) ?_
    refine lv_aload_n hx hb dX2_isSaint_10 rfl (lv_at hl 0 rfl) ?_
    refine ax_getV hx hb hts hown hK hR fl_X2_9 (dio_0 hDb) rfl dX2_isSaint_11 ?_
    refine lv_iload_n hx hb dX2_isSaint_14 rfl (lv_at hl 1 rfl) ?_
    obtain ⟨hq, h⟩ := ax_ck h
    refine ax_iald hx hb hK hR (dio_1 hDb) hq dX2_isSaint_15 ?_
    refine lv_aload_n hx hb dX2_isSaint_16 rfl (lv_at hl 0 rfl) ?_
    refine ax_getV hx hb hts hown hK hR fl_X2_15 (dio_0 hDb) rfl dX2_isSaint_17 ?_
    refine lv_iload_n hx hb dX2_isSaint_20 rfl (lv_at hl 1 rfl) ?_
    obtain ⟨hq, h⟩ := ax_ck h
    refine ax_iald hx hb hK hR (dio_2 hDb) hq dX2_isSaint_21 ?_
    obtain ⟨q22, hq, h⟩ := ax_bd h
    refine ax_cV (rest := []) (st1 := [.int q22]) C hc hz hS hR (M_X2_wouldBeSaint hDb hq) yk_X2_wouldBeSaint in_X2_wouldBeSaint se_X2_wouldBeSaint ml_X2_75 (dio_0 hDb) rfl rfl (by decide) rfl hl.1 (Nat.le_of_ble_eq_true rfl) rfl rfl dX2_isSaint_22 (fun H locs hR hS => ?_)
    refine lv_if_eq (tgt := 32) hx hb dX2_isSaint_25 (by decide) (fun q => ?_) (fun q => ?_)
    · have h := ax_ip q h
      refine lv_iconst (v := 0) hx hb dX2_isSaint_32 (by decide) ?_
      cases h
      exact ax_iret C hc hz hR hS rfl ax_bool_n0 dX2_isSaint_33
    · have h := ax_iN q h
      refine lv_iconst (v := 1) hx hb dX2_isSaint_28 (by decide) ?_
      refine lv_goto (tgt := 33) hx hb dX2_isSaint_29 (by decide) ?_
      cases h
      exact ax_iret C hc hz hR hS rfl ax_bool_n1 dX2_isSaint_33
theorem M_X2_isSaint {l : Launch} {E : ax_E} {B : Nat} {lay : List ax_S} {I : ax_I} {J : ax_J} {b : Nat} {x1 : Int32} {rv : Int32} (hDb : ax_Dio B lay b) (h : F_X2_isSaint I b x1 = some rv) : Cm l yX2_isSaint cX2_isSaint 2 (some .boolean) 10 E B [.ref (B + b), .int x1] lay I J (some (.int rv)) lay I J :=
  ax_met (by decide) (Nat.le_of_ble_eq_true rfl) (fun p e R s m args below meth c C => t_X2_isSaint_0 hDb C _ _ h)
def f_X2_saintBits_24 (b : Nat) (r4 : ax_I → Int32 → Int32 → Option (Int32)) (I : ax_I) (x1 : Int32) (x2 : Int32) : Option Int32 :=
  r4 I x1 (x2 + 1)
def f_X2_saintBits_4 (b : Nat) : Nat → ax_I → Int32 → Int32 → Option Int32
  | 0, _, _, _ => none
  | n + 1, I, x1, x2 => if 6 ≤ x2 then some x1 else (F_X2_isSaint I b x2).bind (fun q12 => if q12 = 0 then f_X2_saintBits_24 b (f_X2_saintBits_4 b n) I x1 x2 else f_X2_saintBits_24 b (f_X2_saintBits_4 b n) I (x1 ||| ((1 : Int32) <<< (x2 &&& 31))) x2)
def F_X2_saintBits (I : ax_I) (b : Nat) : Option Int32 :=
  f_X2_saintBits_4 b ax_N I 0 0
set_option maxRecDepth 100000 in
set_option maxHeartbeats 4000000 in
theorem t_X2_saintBits_24 {lay : List ax_S} {b : Nat} {J : ax_J} {rv : Int32} (hDb : ax_Dio B lay b) (C : ax_C p R s m args meth c yX2_saintBits cX2_saintBits 3 (some .int) 12 E mc ms) {r4 : ax_I → Int32 → Int32 → Option (Int32)} (hr4 : ∀ (I : ax_I) (x1 : Int32) (x2 : Int32), r4 I x1 x2 = some rv → AM p l e R s m args below meth c E B lay.length (ax_z lay) 3 (some (.int rv)) lay I J lay I J 4 [(0, .ref (B + b)), (1, .int x1), (2, .int x2)] []) : ∀ (I : ax_I) (x1 : Int32) (x2 : Int32), f_X2_saintBits_24 b r4 I x1 x2 = some rv → AM p l e R s m args below meth c E B lay.length (ax_z lay) 3 (some (.int rv)) lay I J lay I J 24 [(0, .ref (B + b)), (1, .int x1), (2, .int x2)] [] := by
  obtain ⟨hx, hb, hr, hml, hown, hts, hlocks, hK, hfr, hlo, hmc, hms, hnm⟩ := id C
  have hown : s.vm.findClass RX2 = some m.cls := hown
  intro I x1 x2 h H locs cells slots ls hc hz hR hS hl
  unfold f_X2_saintBits_24 at h
  refine lv_iinc (v := (x2 + 1)) (lv' := [(2, .int (x2 + 1)), (0, .ref (B + b)), (1, .int x1)]) hx hb dX2_saintBits_24 hl (k := 2) rfl rfl (by decide) rfl (fun ls hl => ?_)
  refine lv_goto (tgt := 4) hx hb dX2_saintBits_27 (by decide) ?_
  exact hr4 _ _ _ h H locs cells slots ls hc hz hR hS (lv_sub hl [1, 2, 0] rfl)
set_option maxRecDepth 100000 in
set_option maxHeartbeats 4000000 in
theorem t_X2_saintBits_4 {lay : List ax_S} {b : Nat} {J : ax_J} {rv : Int32} (hDb : ax_Dio B lay b) (C : ax_C p R s m args meth c yX2_saintBits cX2_saintBits 3 (some .int) 12 E mc ms) : ∀ (n : Nat) (I : ax_I) (x1 : Int32) (x2 : Int32), f_X2_saintBits_4 b n I x1 x2 = some rv → AM p l e R s m args below meth c E B lay.length (ax_z lay) 3 (some (.int rv)) lay I J lay I J 4 [(0, .ref (B + b)), (1, .int x1), (2, .int x2)] [] := by
  obtain ⟨hx, hb, hr, hml, hown, hts, hlocks, hK, hfr, hlo, hmc, hms, hnm⟩ := id C
  have hown : s.vm.findClass RX2 = some m.cls := hown
  intro n
  induction n with
  | zero => intro I x1 x2 h; cases h
  | succ n ih =>
    intro I x1 x2 h H locs cells slots ls hc hz hR hS hl
    rw [f_X2_saintBits_4] at h
    refine lv_iload_n hx hb dX2_saintBits_4 rfl (lv_at hl 2 rfl) ?_
    refine lv_bipush (v := 6) hx hb dX2_saintBits_5 (by decide) ?_
    refine lv_icmp_ge (tgt := 30) hx hb dX2_saintBits_7 (by decide) (fun q => ?_) (fun q => ?_)
    · have h := ax_ip q h
      refine lv_iload_n hx hb dX2_saintBits_30 rfl (lv_at hl 1 rfl) ?_
      cases h
      exact ax_iret C hc hz hR hS rfl rfl dX2_saintBits_31
    · have h := ax_iN q h
      refine lv_aload_n hx hb dX2_saintBits_10 rfl (lv_at hl 0 rfl) ?_
      refine lv_iload_n hx hb dX2_saintBits_11 rfl (lv_at hl 2 rfl) ?_
      obtain ⟨q12, hq, h⟩ := ax_bd h
      refine ax_cV (rest := []) (st1 := [.int q12]) C hc hz hS hR (M_X2_isSaint hDb hq) yk_X2_isSaint in_X2_isSaint se_X2_isSaint ml_X2_81 (dio_0 hDb) rfl rfl (by decide) rfl hl.1 (Nat.le_of_ble_eq_true rfl) rfl rfl dX2_saintBits_12 (fun H locs hR hS => ?_)
      refine lv_if_eq (tgt := 24) hx hb dX2_saintBits_15 (by decide) (fun q => ?_) (fun q => ?_)
      · have h := ax_ip q h
        exact t_X2_saintBits_24 hDb C ih _ _ _ h H locs cells slots ls hc hz hR hS (lv_sub hl [0, 1, 2] rfl)
      · have h := ax_iN q h
        refine lv_iload_n hx hb dX2_saintBits_18 rfl (lv_at hl 1 rfl) ?_
        refine lv_iconst (v := 1) hx hb dX2_saintBits_19 (by decide) ?_
        refine lv_iload_n hx hb dX2_saintBits_20 rfl (lv_at hl 2 rfl) ?_
        refine lv_ishl hx hb dX2_saintBits_21 ?_
        refine lv_ior hx hb dX2_saintBits_22 ?_
        refine lv_istore_n (lv' := [(1, .int (x1 ||| ((1 : Int32) <<< (x2 &&& 31)))), (0, .ref (B + b)), (2, .int x2)]) hx hb dX2_saintBits_23 rfl hl (by decide) rfl (fun ls hl => ?_)
        exact t_X2_saintBits_24 hDb C ih _ _ _ h H locs cells slots ls hc hz hR hS (lv_sub hl [1, 0, 2] rfl)
set_option maxRecDepth 100000 in
set_option maxHeartbeats 4000000 in
theorem t_X2_saintBits_0 {lay : List ax_S} {b : Nat} {J : ax_J} {rv : Int32} (hDb : ax_Dio B lay b) (C : ax_C p R s m args meth c yX2_saintBits cX2_saintBits 3 (some .int) 12 E mc ms) : ∀ (I : ax_I), F_X2_saintBits I b = some rv → AM p l e R s m args below meth c E B lay.length (ax_z lay) 3 (some (.int rv)) lay I J lay I J 0 [(0, .ref (B + b))] [] := by
  obtain ⟨hx, hb, hr, hml, hown, hts, hlocks, hK, hfr, hlo, hmc, hms, hnm⟩ := id C
  have hown : s.vm.findClass RX2 = some m.cls := hown
  intro I h H locs cells slots ls hc hz hR hS hl
  unfold F_X2_saintBits at h
  refine lv_iconst (v := 0) hx hb dX2_saintBits_0 (by decide) ?_
  refine lv_istore_n (lv' := [(1, .int 0), (0, .ref (B + b))]) hx hb dX2_saintBits_1 rfl hl (by decide) rfl (fun ls hl => ?_)
  refine lv_iconst (v := 0) hx hb dX2_saintBits_2 (by decide) ?_
  refine lv_istore_n (lv' := [(2, .int 0), (1, .int 0), (0, .ref (B + b))]) hx hb dX2_saintBits_3 rfl hl (by decide) rfl (fun ls hl => ?_)
  exact t_X2_saintBits_4 hDb C  ax_N _ _ _ h H locs cells slots ls hc hz hR hS (lv_sub hl [2, 1, 0] rfl)
theorem M_X2_saintBits {l : Launch} {E : ax_E} {B : Nat} {lay : List ax_S} {I : ax_I} {J : ax_J} {b : Nat} {rv : Int32} (hDb : ax_Dio B lay b) (h : F_X2_saintBits I b = some rv) : Cm l yX2_saintBits cX2_saintBits 3 (some .int) 12 E B [.ref (B + b)] lay I J (some (.int rv)) lay I J :=
  ax_met (by decide) (Nat.le_of_ble_eq_true rfl) (fun p e R s m args below meth c C => t_X2_saintBits_0 hDb C _ h)
def f_X2_freeParts_2 (b : Nat) : Nat → ax_I → Int32 → Int32 → Option ax_I
  | 0, _, _, _ => none
  | n + 1, I, x1, x2 => if 8 ≤ x2 then some I else if ax_in ((x1 * 8) + x2) 48 = true then f_X2_freeParts_2 b n (ax_u I (b + 4) ((x1 * 8) + x2).toNatClampNeg (-6)) x1 (x2 + 1) else none
def F_X2_freeParts (I : ax_I) (b : Nat) (x1 : Int32) : Option ax_I :=
  f_X2_freeParts_2 b ax_N I x1 0
set_option maxRecDepth 100000 in
set_option maxHeartbeats 4000000 in
theorem t_X2_freeParts_2 {lay : List ax_S} {b : Nat} {J : ax_J} {I9 : ax_I} (hDb : ax_Dio B lay b) (C : ax_C p R s m args meth c yX2_freeParts cX2_freeParts 3 none 2 E mc ms) : ∀ (n : Nat) (I : ax_I) (x1 : Int32) (x2 : Int32), f_X2_freeParts_2 b n I x1 x2 = some I9 → AM p l e R s m args below meth c E B lay.length (ax_z lay) 3 none lay I9 J lay I J 2 [(0, .ref (B + b)), (1, .int x1), (2, .int x2)] [] := by
  obtain ⟨hx, hb, hr, hml, hown, hts, hlocks, hK, hfr, hlo, hmc, hms, hnm⟩ := id C
  have hown : s.vm.findClass RX2 = some m.cls := hown
  intro n
  induction n with
  | zero => intro I x1 x2 h; cases h
  | succ n ih =>
    intro I x1 x2 h H locs cells slots ls hc hz hR hS hl
    rw [f_X2_freeParts_2] at h
    refine lv_iload_n hx hb dX2_freeParts_2 rfl (lv_at hl 2 rfl) ?_
    refine lv_bipush (v := 8) hx hb dX2_freeParts_3 (by decide) ?_
    refine lv_icmp_ge (tgt := 27) hx hb dX2_freeParts_5 (by decide) (fun q => ?_) (fun q => ?_)
    · have h := ax_ip q h
      cases h
      exact ax_vret C hc hz hR hS dX2_freeParts_27
    · have h := ax_iN q h
      refine lv_aload_n hx hb dX2_freeParts_8 rfl (lv_at hl 0 rfl) ?_
      refine ax_getV hx hb hts hown hK hR fl_X2_21 (dio_0 hDb) rfl dX2_freeParts_9 ?_
      refine lv_iload_n hx hb dX2_freeParts_12 rfl (lv_at hl 1 rfl) ?_
      refine lv_bipush (v := 8) hx hb dX2_freeParts_13 (by decide) ?_
      refine lv_imul hx hb dX2_freeParts_15 ?_
      refine lv_iload_n hx hb dX2_freeParts_16 rfl (lv_at hl 2 rfl) ?_
      refine lv_iadd hx hb dX2_freeParts_17 ?_
      refine lv_bipush (v := (-6)) hx hb dX2_freeParts_18 (by decide) ?_
      obtain ⟨hq, h⟩ := ax_ck h
      refine ax_iast hx hb hK hR hS (dio_4 hDb) hq dX2_freeParts_20 (fun H locs hR hS => ?_)
      refine lv_iinc (v := (x2 + 1)) (lv' := [(2, .int (x2 + 1)), (0, .ref (B + b)), (1, .int x1)]) hx hb dX2_freeParts_21 hl (k := 2) rfl rfl (by decide) rfl (fun ls hl => ?_)
      refine lv_goto (tgt := 2) hx hb dX2_freeParts_24 (by decide) ?_
      exact ih _ _ _ h H locs cells slots ls hc hz hR hS (lv_sub hl [1, 2, 0] rfl)
set_option maxRecDepth 100000 in
set_option maxHeartbeats 4000000 in
theorem t_X2_freeParts_0 {lay : List ax_S} {b : Nat} {J : ax_J} {I9 : ax_I} (hDb : ax_Dio B lay b) (C : ax_C p R s m args meth c yX2_freeParts cX2_freeParts 3 none 2 E mc ms) : ∀ (I : ax_I) (x1 : Int32), F_X2_freeParts I b x1 = some I9 → AM p l e R s m args below meth c E B lay.length (ax_z lay) 3 none lay I9 J lay I J 0 [(0, .ref (B + b)), (1, .int x1)] [] := by
  obtain ⟨hx, hb, hr, hml, hown, hts, hlocks, hK, hfr, hlo, hmc, hms, hnm⟩ := id C
  have hown : s.vm.findClass RX2 = some m.cls := hown
  intro I x1 h H locs cells slots ls hc hz hR hS hl
  unfold F_X2_freeParts at h
  refine lv_iconst (v := 0) hx hb dX2_freeParts_0 (by decide) ?_
  refine lv_istore_n (lv' := [(2, .int 0), (0, .ref (B + b)), (1, .int x1)]) hx hb dX2_freeParts_1 rfl hl (by decide) rfl (fun ls hl => ?_)
  exact t_X2_freeParts_2 hDb C  ax_N _ _ _ h H locs cells slots ls hc hz hR hS (lv_sub hl [1, 2, 0] rfl)
theorem M_X2_freeParts {l : Launch} {E : ax_E} {B : Nat} {lay : List ax_S} {I : ax_I} {J : ax_J} {b : Nat} {x1 : Int32} {I9 : ax_I} (hDb : ax_Dio B lay b) (h : F_X2_freeParts I b x1 = some I9) : Cm l yX2_freeParts cX2_freeParts 3 none 2 E B [.ref (B + b), .int x1] lay I J none lay I9 J :=
  ax_met (by decide) (Nat.le_of_ble_eq_true rfl) (fun p e R s m args below meth c C => t_X2_freeParts_0 hDb C _ _ h)
def f_X2_enter_26 (b : Nat) (I : ax_I) (x1 : Int32) (x2 : Int32) (x3 : Int32) (x4 : Int32) : Option ax_I :=
  if ax_in x1 6 = true then if ax_in x1 6 = true then if ax_in x1 6 = true then (F_X2_freeParts (ax_u (ax_u (ax_u I (b + 1) x1.toNatClampNeg x2) (b + 2) x1.toNatClampNeg x3) (b + 3) x1.toNatClampNeg x4) b x1).bind (fun q50 => some q50) else none else none else none
def F_X2_enter (I : ax_I) (b : Nat) (x1 : Int32) (x2 : Int32) (x3 : Int32) (x4 : Int32) : Option ax_I :=
  f_X2_enter_26 b (ax_u (ax_u I b 0 ((I b 0) ||| ((1 : Int32) <<< (x1 &&& 31)))) b 1 (((ax_u I b 0 ((I b 0) ||| ((1 : Int32) <<< (x1 &&& 31)))) b 1) &&& (((1 : Int32) <<< (x1 &&& 31)) ^^^ (-1)))) x1 x2 x3 x4
set_option maxRecDepth 100000 in
set_option maxHeartbeats 4000000 in
theorem t_X2_enter_26 {lay : List ax_S} {b : Nat} {J : ax_J} {I9 : ax_I} (hDb : ax_Dio B lay b) (C : ax_C p R s m args meth c yX2_enter cX2_enter 5 none 4 E mc ms) : ∀ (I : ax_I) (x1 : Int32) (x2 : Int32) (x3 : Int32) (x4 : Int32), f_X2_enter_26 b I x1 x2 x3 x4 = some I9 → AM p l e R s m args below meth c E B lay.length (ax_z lay) 5 none lay I9 J lay I J 26 [(0, .ref (B + b)), (1, .int x1), (2, .int x2), (3, .int x3), (4, .int x4)] [] := by
  obtain ⟨hx, hb, hr, hml, hown, hts, hlocks, hK, hfr, hlo, hmc, hms, hnm⟩ := id C
  have hown : s.vm.findClass RX2 = some m.cls := hown
  intro I x1 x2 x3 x4 h H locs cells slots ls hc hz hR hS hl
  unfold f_X2_enter_26 at h
  refine lv_aload_n hx hb dX2_enter_26 rfl (lv_at hl 0 rfl) ?_
  refine ax_getV hx hb hts hown hK hR fl_X2_9 (dio_0 hDb) rfl dX2_enter_27 ?_
  refine lv_iload_n hx hb dX2_enter_30 rfl (lv_at hl 1 rfl) ?_
  refine lv_iload_n hx hb dX2_enter_31 rfl (lv_at hl 2 rfl) ?_
  obtain ⟨hq, h⟩ := ax_ck h
  refine ax_iast hx hb hK hR hS (dio_1 hDb) hq dX2_enter_32 (fun H locs hR hS => ?_)
  refine lv_aload_n hx hb dX2_enter_33 rfl (lv_at hl 0 rfl) ?_
  refine ax_getV hx hb hts hown hK hR fl_X2_15 (dio_0 hDb) rfl dX2_enter_34 ?_
  refine lv_iload_n hx hb dX2_enter_37 rfl (lv_at hl 1 rfl) ?_
  refine lv_iload_n hx hb dX2_enter_38 rfl (lv_at hl 3 rfl) ?_
  obtain ⟨hq, h⟩ := ax_ck h
  refine ax_iast hx hb hK hR hS (dio_2 hDb) hq dX2_enter_39 (fun H locs hR hS => ?_)
  refine lv_aload_n hx hb dX2_enter_40 rfl (lv_at hl 0 rfl) ?_
  refine ax_getV hx hb hts hown hK hR fl_X2_18 (dio_0 hDb) rfl dX2_enter_41 ?_
  refine lv_iload_n hx hb dX2_enter_44 rfl (lv_at hl 1 rfl) ?_
  refine lv_iload hx hb dX2_enter_45 (lv_at hl 4 rfl) ?_
  obtain ⟨hq, h⟩ := ax_ck h
  refine ax_iast hx hb hK hR hS (dio_3 hDb) hq dX2_enter_47 (fun H locs hR hS => ?_)
  refine lv_aload_n hx hb dX2_enter_48 rfl (lv_at hl 0 rfl) ?_
  refine lv_iload_n hx hb dX2_enter_49 rfl (lv_at hl 1 rfl) ?_
  obtain ⟨q50, hq, h⟩ := ax_bd h
  refine ax_cV (rest := []) (st1 := []) C hc hz hS hR (M_X2_freeParts hDb hq) yk_X2_freeParts in_X2_freeParts se_X2_freeParts ml_X2_84 (dio_0 hDb) rfl rfl (by decide) rfl hl.1 (Nat.le_of_ble_eq_true rfl) rfl rfl dX2_enter_50 (fun H locs hR hS => ?_)
  cases h
  exact ax_vret C hc hz hR hS dX2_enter_53
set_option maxRecDepth 100000 in
set_option maxHeartbeats 4000000 in
theorem t_X2_enter_0 {lay : List ax_S} {b : Nat} {J : ax_J} {I9 : ax_I} (hDb : ax_Dio B lay b) (C : ax_C p R s m args meth c yX2_enter cX2_enter 5 none 4 E mc ms) : ∀ (I : ax_I) (x1 : Int32) (x2 : Int32) (x3 : Int32) (x4 : Int32), F_X2_enter I b x1 x2 x3 x4 = some I9 → AM p l e R s m args below meth c E B lay.length (ax_z lay) 5 none lay I9 J lay I J 0 [(0, .ref (B + b)), (1, .int x1), (2, .int x2), (3, .int x3), (4, .int x4)] [] := by
  obtain ⟨hx, hb, hr, hml, hown, hts, hlocks, hK, hfr, hlo, hmc, hms, hnm⟩ := id C
  have hown : s.vm.findClass RX2 = some m.cls := hown
  intro I x1 x2 x3 x4 h H locs cells slots ls hc hz hR hS hl
  unfold F_X2_enter at h
  refine lv_aload_n hx hb dX2_enter_0 rfl (lv_at hl 0 rfl) ?_
  refine lv_dup hx hb dX2_enter_1 rfl ?_
  refine ax_getI hx hb hts hown hK hR fl_X2_45 (dio_0 hDb) rfl dX2_enter_2 ?_
  refine lv_iconst (v := 1) hx hb dX2_enter_5 (by decide) ?_
  refine lv_iload_n hx hb dX2_enter_6 rfl (lv_at hl 1 rfl) ?_
  refine lv_ishl hx hb dX2_enter_7 ?_
  refine lv_ior hx hb dX2_enter_8 ?_
  refine ax_putI hx hb hts hown hK hR hS fp_X2_45 (dio_0 hDb) rfl rfl rfl dX2_enter_9 (fun H locs hR hS => ?_)
  refine lv_aload_n hx hb dX2_enter_12 rfl (lv_at hl 0 rfl) ?_
  refine lv_dup hx hb dX2_enter_13 rfl ?_
  refine ax_getI hx hb hts hown hK hR fl_X2_49 (dio_0 hDb) rfl dX2_enter_14 ?_
  refine lv_iconst (v := 1) hx hb dX2_enter_17 (by decide) ?_
  refine lv_iload_n hx hb dX2_enter_18 rfl (lv_at hl 1 rfl) ?_
  refine lv_ishl hx hb dX2_enter_19 ?_
  refine lv_iconst (v := (-1)) hx hb dX2_enter_20 (by decide) ?_
  refine lv_ixor hx hb dX2_enter_21 ?_
  refine lv_iand hx hb dX2_enter_22 ?_
  refine ax_putI hx hb hts hown hK hR hS fp_X2_49 (dio_0 hDb) rfl rfl rfl dX2_enter_23 (fun H locs hR hS => ?_)
  exact t_X2_enter_26 hDb C  _ _ _ _ _ h H locs cells slots ls hc hz hR hS (lv_sub hl [0, 1, 2, 3, 4] rfl)
theorem M_X2_enter {l : Launch} {E : ax_E} {B : Nat} {lay : List ax_S} {I : ax_I} {J : ax_J} {b : Nat} {x1 : Int32} {x2 : Int32} {x3 : Int32} {x4 : Int32} {I9 : ax_I} (hDb : ax_Dio B lay b) (h : F_X2_enter I b x1 x2 x3 x4 = some I9) : Cm l yX2_enter cX2_enter 5 none 4 E B [.ref (B + b), .int x1, .int x2, .int x3, .int x4] lay I J none lay I9 J :=
  ax_met (by decide) (Nat.le_of_ble_eq_true rfl) (fun p e R s m args below meth c C => t_X2_enter_0 hDb C _ _ _ _ _ h)
def F_X2_remove (I : ax_I) (b : Nat) (x1 : Int32) : Option ax_I :=
  (F_X2_freeParts (ax_u I b 0 ((I b 0) &&& (((1 : Int32) <<< (x1 &&& 31)) ^^^ (-1)))) b x1).bind (fun q16 => some q16)
set_option maxRecDepth 100000 in
set_option maxHeartbeats 4000000 in
theorem t_X2_remove_0 {lay : List ax_S} {b : Nat} {J : ax_J} {I9 : ax_I} (hDb : ax_Dio B lay b) (C : ax_C p R s m args meth c yX2_remove cX2_remove 2 none 4 E mc ms) : ∀ (I : ax_I) (x1 : Int32), F_X2_remove I b x1 = some I9 → AM p l e R s m args below meth c E B lay.length (ax_z lay) 2 none lay I9 J lay I J 0 [(0, .ref (B + b)), (1, .int x1)] [] := by
  obtain ⟨hx, hb, hr, hml, hown, hts, hlocks, hK, hfr, hlo, hmc, hms, hnm⟩ := id C
  have hown : s.vm.findClass RX2 = some m.cls := hown
  intro I x1 h H locs cells slots ls hc hz hR hS hl
  unfold F_X2_remove at h
  refine lv_aload_n hx hb dX2_remove_0 rfl (lv_at hl 0 rfl) ?_
  refine lv_dup hx hb dX2_remove_1 rfl ?_
  refine ax_getI hx hb hts hown hK hR fl_X2_45 (dio_0 hDb) rfl dX2_remove_2 ?_
  refine lv_iconst (v := 1) hx hb dX2_remove_5 (by decide) ?_
  refine lv_iload_n hx hb dX2_remove_6 rfl (lv_at hl 1 rfl) ?_
  refine lv_ishl hx hb dX2_remove_7 ?_
  refine lv_iconst (v := (-1)) hx hb dX2_remove_8 (by decide) ?_
  refine lv_ixor hx hb dX2_remove_9 ?_
  refine lv_iand hx hb dX2_remove_10 ?_
  refine ax_putI hx hb hts hown hK hR hS fp_X2_45 (dio_0 hDb) rfl rfl rfl dX2_remove_11 (fun H locs hR hS => ?_)
  refine lv_aload_n hx hb dX2_remove_14 rfl (lv_at hl 0 rfl) ?_
  refine lv_iload_n hx hb dX2_remove_15 rfl (lv_at hl 1 rfl) ?_
  obtain ⟨q16, hq, h⟩ := ax_bd h
  refine ax_cV (rest := []) (st1 := []) C hc hz hS hR (M_X2_freeParts hDb hq) yk_X2_freeParts in_X2_freeParts se_X2_freeParts ml_X2_84 (dio_0 hDb) rfl rfl (by decide) rfl hl.1 (Nat.le_of_ble_eq_true rfl) rfl rfl dX2_remove_16 (fun H locs hR hS => ?_)
  cases h
  exact ax_vret C hc hz hR hS dX2_remove_19
theorem M_X2_remove {l : Launch} {E : ax_E} {B : Nat} {lay : List ax_S} {I : ax_I} {J : ax_J} {b : Nat} {x1 : Int32} {I9 : ax_I} (hDb : ax_Dio B lay b) (h : F_X2_remove I b x1 = some I9) : Cm l yX2_remove cX2_remove 2 none 4 E B [.ref (B + b), .int x1] lay I J none lay I9 J :=
  ax_met (by decide) (Nat.le_of_ble_eq_true rfl) (fun p e R s m args below meth c C => t_X2_remove_0 hDb C _ _ h)
def F_X2_holderOf (I : ax_I) (b : Nat) (x1 : Int32) (x2 : Int32) : Option Int32 :=
  if ax_in ((x1 * 8) + x2) 48 = true then some (I (b + 4) ((x1 * 8) + x2).toNatClampNeg) else none
set_option maxRecDepth 100000 in
set_option maxHeartbeats 4000000 in
theorem t_X2_holderOf_0 {lay : List ax_S} {b : Nat} {J : ax_J} {rv : Int32} (hDb : ax_Dio B lay b) (C : ax_C p R s m args meth c yX2_holderOf cX2_holderOf 3 (some .int) 2 E mc ms) : ∀ (I : ax_I) (x1 : Int32) (x2 : Int32), F_X2_holderOf I b x1 x2 = some rv → AM p l e R s m args below meth c E B lay.length (ax_z lay) 3 (some (.int rv)) lay I J lay I J 0 [(0, .ref (B + b)), (1, .int x1), (2, .int x2)] [] := by
  obtain ⟨hx, hb, hr, hml, hown, hts, hlocks, hK, hfr, hlo, hmc, hms, hnm⟩ := id C
  have hown : s.vm.findClass RX2 = some m.cls := hown
  intro I x1 x2 h H locs cells slots ls hc hz hR hS hl
  unfold F_X2_holderOf at h
  refine lv_aload_n hx hb dX2_holderOf_0 rfl (lv_at hl 0 rfl) ?_
  refine ax_getV hx hb hts hown hK hR fl_X2_21 (dio_0 hDb) rfl dX2_holderOf_1 ?_
  refine lv_iload_n hx hb dX2_holderOf_4 rfl (lv_at hl 1 rfl) ?_
  refine lv_bipush (v := 8) hx hb dX2_holderOf_5 (by decide) ?_
  refine lv_imul hx hb dX2_holderOf_7 ?_
  refine lv_iload_n hx hb dX2_holderOf_8 rfl (lv_at hl 2 rfl) ?_
  refine lv_iadd hx hb dX2_holderOf_9 ?_
  obtain ⟨hq, h⟩ := ax_ck h
  refine ax_iald hx hb hK hR (dio_4 hDb) hq dX2_holderOf_10 ?_
  cases h
  exact ax_iret C hc hz hR hS rfl rfl dX2_holderOf_11
theorem M_X2_holderOf {l : Launch} {E : ax_E} {B : Nat} {lay : List ax_S} {I : ax_I} {J : ax_J} {b : Nat} {x1 : Int32} {x2 : Int32} {rv : Int32} (hDb : ax_Dio B lay b) (h : F_X2_holderOf I b x1 x2 = some rv) : Cm l yX2_holderOf cX2_holderOf 3 (some .int) 2 E B [.ref (B + b), .int x1, .int x2] lay I J (some (.int rv)) lay I J :=
  ax_met (by decide) (Nat.le_of_ble_eq_true rfl) (fun p e R s m args below meth c C => t_X2_holderOf_0 hDb C _ _ _ h)
def f_X2_partBits_30 (b : Nat) (r5 : ax_I → Int32 → Int32 → Int32 → Int32 → Option (Int32)) (I : ax_I) (x1 : Int32) (x2 : Int32) (x3 : Int32) (x4 : Int32) : Option Int32 :=
  r5 I x1 x2 x3 (x4 + 1)
def f_X2_partBits_5 (b : Nat) : Nat → ax_I → Int32 → Int32 → Int32 → Int32 → Option Int32
  | 0, _, _, _, _, _ => none
  | n + 1, I, x1, x2, x3, x4 => if 8 ≤ x4 then some x3 else (F_X2_holderOf I b x1 x4).bind (fun q16 => if q16 = x2 then f_X2_partBits_30 b (f_X2_partBits_5 b n) I x1 x2 (x3 ||| ((1 : Int32) <<< (x4 &&& 31))) x4 else f_X2_partBits_30 b (f_X2_partBits_5 b n) I x1 x2 x3 x4)
def F_X2_partBits (I : ax_I) (b : Nat) (x1 : Int32) (x2 : Int32) : Option Int32 :=
  f_X2_partBits_5 b ax_N I x1 x2 0 0
set_option maxRecDepth 100000 in
set_option maxHeartbeats 4000000 in
theorem t_X2_partBits_30 {lay : List ax_S} {b : Nat} {J : ax_J} {rv : Int32} (hDb : ax_Dio B lay b) (C : ax_C p R s m args meth c yX2_partBits cX2_partBits 5 (some .int) 4 E mc ms) {r5 : ax_I → Int32 → Int32 → Int32 → Int32 → Option (Int32)} (hr5 : ∀ (I : ax_I) (x1 : Int32) (x2 : Int32) (x3 : Int32) (x4 : Int32), r5 I x1 x2 x3 x4 = some rv → AM p l e R s m args below meth c E B lay.length (ax_z lay) 5 (some (.int rv)) lay I J lay I J 5 [(0, .ref (B + b)), (1, .int x1), (2, .int x2), (3, .int x3), (4, .int x4)] []) : ∀ (I : ax_I) (x1 : Int32) (x2 : Int32) (x3 : Int32) (x4 : Int32), f_X2_partBits_30 b r5 I x1 x2 x3 x4 = some rv → AM p l e R s m args below meth c E B lay.length (ax_z lay) 5 (some (.int rv)) lay I J lay I J 30 [(0, .ref (B + b)), (1, .int x1), (2, .int x2), (3, .int x3), (4, .int x4)] [] := by
  obtain ⟨hx, hb, hr, hml, hown, hts, hlocks, hK, hfr, hlo, hmc, hms, hnm⟩ := id C
  have hown : s.vm.findClass RX2 = some m.cls := hown
  intro I x1 x2 x3 x4 h H locs cells slots ls hc hz hR hS hl
  unfold f_X2_partBits_30 at h
  refine lv_iinc (v := (x4 + 1)) (lv' := [(4, .int (x4 + 1)), (0, .ref (B + b)), (1, .int x1), (2, .int x2), (3, .int x3)]) hx hb dX2_partBits_30 hl (k := 4) rfl rfl (by decide) rfl (fun ls hl => ?_)
  refine lv_goto (tgt := 5) hx hb dX2_partBits_33 (by decide) ?_
  exact hr5 _ _ _ _ _ h H locs cells slots ls hc hz hR hS (lv_sub hl [1, 2, 3, 4, 0] rfl)
set_option maxRecDepth 100000 in
set_option maxHeartbeats 4000000 in
theorem t_X2_partBits_5 {lay : List ax_S} {b : Nat} {J : ax_J} {rv : Int32} (hDb : ax_Dio B lay b) (C : ax_C p R s m args meth c yX2_partBits cX2_partBits 5 (some .int) 4 E mc ms) : ∀ (n : Nat) (I : ax_I) (x1 : Int32) (x2 : Int32) (x3 : Int32) (x4 : Int32), f_X2_partBits_5 b n I x1 x2 x3 x4 = some rv → AM p l e R s m args below meth c E B lay.length (ax_z lay) 5 (some (.int rv)) lay I J lay I J 5 [(0, .ref (B + b)), (1, .int x1), (2, .int x2), (3, .int x3), (4, .int x4)] [] := by
  obtain ⟨hx, hb, hr, hml, hown, hts, hlocks, hK, hfr, hlo, hmc, hms, hnm⟩ := id C
  have hown : s.vm.findClass RX2 = some m.cls := hown
  intro n
  induction n with
  | zero => intro I x1 x2 x3 x4 h; cases h
  | succ n ih =>
    intro I x1 x2 x3 x4 h H locs cells slots ls hc hz hR hS hl
    rw [f_X2_partBits_5] at h
    refine lv_iload hx hb dX2_partBits_5 (lv_at hl 4 rfl) ?_
    refine lv_bipush (v := 8) hx hb dX2_partBits_7 (by decide) ?_
    refine lv_icmp_ge (tgt := 36) hx hb dX2_partBits_9 (by decide) (fun q => ?_) (fun q => ?_)
    · have h := ax_ip q h
      refine lv_iload_n hx hb dX2_partBits_36 rfl (lv_at hl 3 rfl) ?_
      cases h
      exact ax_iret C hc hz hR hS rfl rfl dX2_partBits_37
    · have h := ax_iN q h
      refine lv_aload_n hx hb dX2_partBits_12 rfl (lv_at hl 0 rfl) ?_
      refine lv_iload_n hx hb dX2_partBits_13 rfl (lv_at hl 1 rfl) ?_
      refine lv_iload hx hb dX2_partBits_14 (lv_at hl 4 rfl) ?_
      obtain ⟨q16, hq, h⟩ := ax_bd h
      refine ax_cV (rest := []) (st1 := [.int q16]) C hc hz hS hR (M_X2_holderOf hDb hq) yk_X2_holderOf in_X2_holderOf se_X2_holderOf ml_X2_88 (dio_0 hDb) rfl rfl (by decide) rfl hl.1 (Nat.le_of_ble_eq_true rfl) rfl rfl dX2_partBits_16 (fun H locs hR hS => ?_)
      refine lv_iload_n hx hb dX2_partBits_19 rfl (lv_at hl 2 rfl) ?_
      refine lv_icmp_ne (tgt := 30) hx hb dX2_partBits_20 (by decide) (fun q => ?_) (fun q => ?_)
      · have h := ax_iN q h
        exact t_X2_partBits_30 hDb C ih _ _ _ _ _ h H locs cells slots ls hc hz hR hS (lv_sub hl [0, 1, 2, 3, 4] rfl)
      · have h := ax_ip q h
        refine lv_iload_n hx hb dX2_partBits_23 rfl (lv_at hl 3 rfl) ?_
        refine lv_iconst (v := 1) hx hb dX2_partBits_24 (by decide) ?_
        refine lv_iload hx hb dX2_partBits_25 (lv_at hl 4 rfl) ?_
        refine lv_ishl hx hb dX2_partBits_27 ?_
        refine lv_ior hx hb dX2_partBits_28 ?_
        refine lv_istore_n (lv' := [(3, .int (x3 ||| ((1 : Int32) <<< (x4 &&& 31)))), (0, .ref (B + b)), (1, .int x1), (2, .int x2), (4, .int x4)]) hx hb dX2_partBits_29 rfl hl (by decide) rfl (fun ls hl => ?_)
        exact t_X2_partBits_30 hDb C ih _ _ _ _ _ h H locs cells slots ls hc hz hR hS (lv_sub hl [1, 2, 3, 0, 4] rfl)
set_option maxRecDepth 100000 in
set_option maxHeartbeats 4000000 in
theorem t_X2_partBits_0 {lay : List ax_S} {b : Nat} {J : ax_J} {rv : Int32} (hDb : ax_Dio B lay b) (C : ax_C p R s m args meth c yX2_partBits cX2_partBits 5 (some .int) 4 E mc ms) : ∀ (I : ax_I) (x1 : Int32) (x2 : Int32), F_X2_partBits I b x1 x2 = some rv → AM p l e R s m args below meth c E B lay.length (ax_z lay) 5 (some (.int rv)) lay I J lay I J 0 [(0, .ref (B + b)), (1, .int x1), (2, .int x2)] [] := by
  obtain ⟨hx, hb, hr, hml, hown, hts, hlocks, hK, hfr, hlo, hmc, hms, hnm⟩ := id C
  have hown : s.vm.findClass RX2 = some m.cls := hown
  intro I x1 x2 h H locs cells slots ls hc hz hR hS hl
  unfold F_X2_partBits at h
  refine lv_iconst (v := 0) hx hb dX2_partBits_0 (by decide) ?_
  refine lv_istore_n (lv' := [(3, .int 0), (0, .ref (B + b)), (1, .int x1), (2, .int x2)]) hx hb dX2_partBits_1 rfl hl (by decide) rfl (fun ls hl => ?_)
  refine lv_iconst (v := 0) hx hb dX2_partBits_2 (by decide) ?_
  refine lv_istore (lv' := [(4, .int 0), (3, .int 0), (0, .ref (B + b)), (1, .int x1), (2, .int x2)]) hx hb dX2_partBits_3 hl (by decide) rfl (fun ls hl => ?_)
  exact t_X2_partBits_5 hDb C  ax_N _ _ _ _ _ h H locs cells slots ls hc hz hR hS (lv_sub hl [2, 3, 4, 1, 0] rfl)
theorem M_X2_partBits {l : Launch} {E : ax_E} {B : Nat} {lay : List ax_S} {I : ax_I} {J : ax_J} {b : Nat} {x1 : Int32} {x2 : Int32} {rv : Int32} (hDb : ax_Dio B lay b) (h : F_X2_partBits I b x1 x2 = some rv) : Cm l yX2_partBits cX2_partBits 5 (some .int) 4 E B [.ref (B + b), .int x1, .int x2] lay I J (some (.int rv)) lay I J :=
  ax_met (by decide) (Nat.le_of_ble_eq_true rfl) (fun p e R s m args below meth c C => t_X2_partBits_0 hDb C _ _ _ h)
def f_J6_bitCount_0f7a4_48 (I : ax_I) (x0 : Int32) : Option Int32 :=
  some (x0 &&& 63)
def f_J6_bitCount_0f7a4_41 (I : ax_I) (x0 : Int32) : Option Int32 :=
  f_J6_bitCount_0f7a4_48 I (x0 + (((x0).toUInt32 >>> ((16 : Int32).toUInt32 &&& Int32.toUInt32 31)).toInt32))
def f_J6_bitCount_0f7a4_34 (I : ax_I) (x0 : Int32) : Option Int32 :=
  f_J6_bitCount_0f7a4_41 I (x0 + (((x0).toUInt32 >>> ((8 : Int32).toUInt32 &&& Int32.toUInt32 31)).toInt32))
def f_J6_bitCount_0f7a4_24 (I : ax_I) (x0 : Int32) : Option Int32 :=
  f_J6_bitCount_0f7a4_34 I ((x0 + (((x0).toUInt32 >>> ((4 : Int32).toUInt32 &&& Int32.toUInt32 31)).toInt32)) &&& 252645135)
def f_J6_bitCount_0f7a4_10 (I : ax_I) (x0 : Int32) : Option Int32 :=
  f_J6_bitCount_0f7a4_24 I ((x0 &&& 858993459) + ((((x0).toUInt32 >>> ((2 : Int32).toUInt32 &&& Int32.toUInt32 31)).toInt32) &&& 858993459))
def F_J6_bitCount_0f7a4 (I : ax_I) (x0 : Int32) : Option Int32 :=
  f_J6_bitCount_0f7a4_10 I (x0 - ((((x0).toUInt32 >>> ((1 : Int32).toUInt32 &&& Int32.toUInt32 31)).toInt32) &&& 1431655765))
set_option maxRecDepth 100000 in
set_option maxHeartbeats 4000000 in
theorem t_J6_bitCount_0f7a4_48 {lay : List ax_S} {J : ax_J} {rv : Int32} (C : ax_C p R s m args meth c yJ6_bitCount_0f7a4 cJ6_bitCount_0f7a4 1 (some .int) 2 E mc ms) : ∀ (I : ax_I) (x0 : Int32), f_J6_bitCount_0f7a4_48 I x0 = some rv → AM p l e R s m args below meth c E B lay.length (ax_z lay) 1 (some (.int rv)) lay I J lay I J 48 [(0, .int x0)] [] := by
  obtain ⟨hx, hb, hr, hml, hown, hts, hlocks, hK, hfr, hlo, hmc, hms, hnm⟩ := id C
  have hown : s.vm.findClass RJ6 = some m.cls := hown
  intro I x0 h H locs cells slots ls hc hz hR hS hl
  unfold f_J6_bitCount_0f7a4_48 at h
  refine lv_iload_n hx hb dJ6_bitCount_0f7a4_48 rfl (lv_at hl 0 rfl) ?_
  refine lv_bipush (v := 63) hx hb dJ6_bitCount_0f7a4_49 (by decide) ?_
  refine lv_iand hx hb dJ6_bitCount_0f7a4_51 ?_
  cases h
  exact ax_iret C hc hz hR hS rfl rfl dJ6_bitCount_0f7a4_52
set_option maxRecDepth 100000 in
set_option maxHeartbeats 4000000 in
theorem t_J6_bitCount_0f7a4_41 {lay : List ax_S} {J : ax_J} {rv : Int32} (C : ax_C p R s m args meth c yJ6_bitCount_0f7a4 cJ6_bitCount_0f7a4 1 (some .int) 2 E mc ms) : ∀ (I : ax_I) (x0 : Int32), f_J6_bitCount_0f7a4_41 I x0 = some rv → AM p l e R s m args below meth c E B lay.length (ax_z lay) 1 (some (.int rv)) lay I J lay I J 41 [(0, .int x0)] [] := by
  obtain ⟨hx, hb, hr, hml, hown, hts, hlocks, hK, hfr, hlo, hmc, hms, hnm⟩ := id C
  have hown : s.vm.findClass RJ6 = some m.cls := hown
  intro I x0 h H locs cells slots ls hc hz hR hS hl
  unfold f_J6_bitCount_0f7a4_41 at h
  refine lv_iload_n hx hb dJ6_bitCount_0f7a4_41 rfl (lv_at hl 0 rfl) ?_
  refine lv_iload_n hx hb dJ6_bitCount_0f7a4_42 rfl (lv_at hl 0 rfl) ?_
  refine lv_bipush (v := 16) hx hb dJ6_bitCount_0f7a4_43 (by decide) ?_
  refine lv_iushr hx hb dJ6_bitCount_0f7a4_45 rfl ?_
  refine lv_iadd hx hb dJ6_bitCount_0f7a4_46 ?_
  refine lv_istore_n (lv' := [(0, .int (x0 + (((x0).toUInt32 >>> ((16 : Int32).toUInt32 &&& Int32.toUInt32 31)).toInt32)))]) hx hb dJ6_bitCount_0f7a4_47 rfl hl (by decide) rfl (fun ls hl => ?_)
  exact t_J6_bitCount_0f7a4_48  C  _ _ h H locs cells slots ls hc hz hR hS (lv_sub hl [0] rfl)
set_option maxRecDepth 100000 in
set_option maxHeartbeats 4000000 in
theorem t_J6_bitCount_0f7a4_34 {lay : List ax_S} {J : ax_J} {rv : Int32} (C : ax_C p R s m args meth c yJ6_bitCount_0f7a4 cJ6_bitCount_0f7a4 1 (some .int) 2 E mc ms) : ∀ (I : ax_I) (x0 : Int32), f_J6_bitCount_0f7a4_34 I x0 = some rv → AM p l e R s m args below meth c E B lay.length (ax_z lay) 1 (some (.int rv)) lay I J lay I J 34 [(0, .int x0)] [] := by
  obtain ⟨hx, hb, hr, hml, hown, hts, hlocks, hK, hfr, hlo, hmc, hms, hnm⟩ := id C
  have hown : s.vm.findClass RJ6 = some m.cls := hown
  intro I x0 h H locs cells slots ls hc hz hR hS hl
  unfold f_J6_bitCount_0f7a4_34 at h
  refine lv_iload_n hx hb dJ6_bitCount_0f7a4_34 rfl (lv_at hl 0 rfl) ?_
  refine lv_iload_n hx hb dJ6_bitCount_0f7a4_35 rfl (lv_at hl 0 rfl) ?_
  refine lv_bipush (v := 8) hx hb dJ6_bitCount_0f7a4_36 (by decide) ?_
  refine lv_iushr hx hb dJ6_bitCount_0f7a4_38 rfl ?_
  refine lv_iadd hx hb dJ6_bitCount_0f7a4_39 ?_
  refine lv_istore_n (lv' := [(0, .int (x0 + (((x0).toUInt32 >>> ((8 : Int32).toUInt32 &&& Int32.toUInt32 31)).toInt32)))]) hx hb dJ6_bitCount_0f7a4_40 rfl hl (by decide) rfl (fun ls hl => ?_)
  exact t_J6_bitCount_0f7a4_41  C  _ _ h H locs cells slots ls hc hz hR hS (lv_sub hl [0] rfl)
set_option maxRecDepth 100000 in
set_option maxHeartbeats 4000000 in
theorem t_J6_bitCount_0f7a4_24 {lay : List ax_S} {J : ax_J} {rv : Int32} (C : ax_C p R s m args meth c yJ6_bitCount_0f7a4 cJ6_bitCount_0f7a4 1 (some .int) 2 E mc ms) : ∀ (I : ax_I) (x0 : Int32), f_J6_bitCount_0f7a4_24 I x0 = some rv → AM p l e R s m args below meth c E B lay.length (ax_z lay) 1 (some (.int rv)) lay I J lay I J 24 [(0, .int x0)] [] := by
  obtain ⟨hx, hb, hr, hml, hown, hts, hlocks, hK, hfr, hlo, hmc, hms, hnm⟩ := id C
  have hown : s.vm.findClass RJ6 = some m.cls := hown
  intro I x0 h H locs cells slots ls hc hz hR hS hl
  unfold f_J6_bitCount_0f7a4_24 at h
  refine lv_iload_n hx hb dJ6_bitCount_0f7a4_24 rfl (lv_at hl 0 rfl) ?_
  refine lv_iload_n hx hb dJ6_bitCount_0f7a4_25 rfl (lv_at hl 0 rfl) ?_
  refine lv_iconst (v := 4) hx hb dJ6_bitCount_0f7a4_26 (by decide) ?_
  refine lv_iushr hx hb dJ6_bitCount_0f7a4_27 rfl ?_
  refine lv_iadd hx hb dJ6_bitCount_0f7a4_28 ?_
  refine lv_ldcw hx hb hown (hts _ ct_J6_267) dJ6_bitCount_0f7a4_29 ?_
  refine lv_iand hx hb dJ6_bitCount_0f7a4_32 ?_
  refine lv_istore_n (lv' := [(0, .int ((x0 + (((x0).toUInt32 >>> ((4 : Int32).toUInt32 &&& Int32.toUInt32 31)).toInt32)) &&& 252645135))]) hx hb dJ6_bitCount_0f7a4_33 rfl hl (by decide) rfl (fun ls hl => ?_)
  exact t_J6_bitCount_0f7a4_34  C  _ _ h H locs cells slots ls hc hz hR hS (lv_sub hl [0] rfl)
set_option maxRecDepth 100000 in
set_option maxHeartbeats 4000000 in
theorem t_J6_bitCount_0f7a4_10 {lay : List ax_S} {J : ax_J} {rv : Int32} (C : ax_C p R s m args meth c yJ6_bitCount_0f7a4 cJ6_bitCount_0f7a4 1 (some .int) 2 E mc ms) : ∀ (I : ax_I) (x0 : Int32), f_J6_bitCount_0f7a4_10 I x0 = some rv → AM p l e R s m args below meth c E B lay.length (ax_z lay) 1 (some (.int rv)) lay I J lay I J 10 [(0, .int x0)] [] := by
  obtain ⟨hx, hb, hr, hml, hown, hts, hlocks, hK, hfr, hlo, hmc, hms, hnm⟩ := id C
  have hown : s.vm.findClass RJ6 = some m.cls := hown
  intro I x0 h H locs cells slots ls hc hz hR hS hl
  unfold f_J6_bitCount_0f7a4_10 at h
  refine lv_iload_n hx hb dJ6_bitCount_0f7a4_10 rfl (lv_at hl 0 rfl) ?_
  refine lv_ldcw hx hb hown (hts _ ct_J6_266) dJ6_bitCount_0f7a4_11 ?_
  refine lv_iand hx hb dJ6_bitCount_0f7a4_14 ?_
  refine lv_iload_n hx hb dJ6_bitCount_0f7a4_15 rfl (lv_at hl 0 rfl) ?_
  refine lv_iconst (v := 2) hx hb dJ6_bitCount_0f7a4_16 (by decide) ?_
  refine lv_iushr hx hb dJ6_bitCount_0f7a4_17 rfl ?_
  refine lv_ldcw hx hb hown (hts _ ct_J6_266) dJ6_bitCount_0f7a4_18 ?_
  refine lv_iand hx hb dJ6_bitCount_0f7a4_21 ?_
  refine lv_iadd hx hb dJ6_bitCount_0f7a4_22 ?_
  refine lv_istore_n (lv' := [(0, .int ((x0 &&& 858993459) + ((((x0).toUInt32 >>> ((2 : Int32).toUInt32 &&& Int32.toUInt32 31)).toInt32) &&& 858993459)))]) hx hb dJ6_bitCount_0f7a4_23 rfl hl (by decide) rfl (fun ls hl => ?_)
  exact t_J6_bitCount_0f7a4_24  C  _ _ h H locs cells slots ls hc hz hR hS (lv_sub hl [0] rfl)
set_option maxRecDepth 100000 in
set_option maxHeartbeats 4000000 in
theorem t_J6_bitCount_0f7a4_0 {lay : List ax_S} {J : ax_J} {rv : Int32} (C : ax_C p R s m args meth c yJ6_bitCount_0f7a4 cJ6_bitCount_0f7a4 1 (some .int) 2 E mc ms) : ∀ (I : ax_I) (x0 : Int32), F_J6_bitCount_0f7a4 I x0 = some rv → AM p l e R s m args below meth c E B lay.length (ax_z lay) 1 (some (.int rv)) lay I J lay I J 0 [(0, .int x0)] [] := by
  obtain ⟨hx, hb, hr, hml, hown, hts, hlocks, hK, hfr, hlo, hmc, hms, hnm⟩ := id C
  have hown : s.vm.findClass RJ6 = some m.cls := hown
  intro I x0 h H locs cells slots ls hc hz hR hS hl
  unfold F_J6_bitCount_0f7a4 at h
  refine lv_iload_n hx hb dJ6_bitCount_0f7a4_0 rfl (lv_at hl 0 rfl) ?_
  refine lv_iload_n hx hb dJ6_bitCount_0f7a4_1 rfl (lv_at hl 0 rfl) ?_
  refine lv_iconst (v := 1) hx hb dJ6_bitCount_0f7a4_2 (by decide) ?_
  refine lv_iushr hx hb dJ6_bitCount_0f7a4_3 rfl ?_
  refine lv_ldcw hx hb hown (hts _ ct_J6_265) dJ6_bitCount_0f7a4_4 ?_
  refine lv_iand hx hb dJ6_bitCount_0f7a4_7 ?_
  refine lv_isub hx hb dJ6_bitCount_0f7a4_8 ?_
  refine lv_istore_n (lv' := [(0, .int (x0 - ((((x0).toUInt32 >>> ((1 : Int32).toUInt32 &&& Int32.toUInt32 31)).toInt32) &&& 1431655765)))]) hx hb dJ6_bitCount_0f7a4_9 rfl hl (by decide) rfl (fun ls hl => ?_)
  exact t_J6_bitCount_0f7a4_10  C  _ _ h H locs cells slots ls hc hz hR hS (lv_sub hl [0] rfl)
theorem M_J6_bitCount_0f7a4 {l : Launch} {E : ax_E} {B : Nat} {lay : List ax_S} {I : ax_I} {J : ax_J} {x0 : Int32} {rv : Int32} (h : F_J6_bitCount_0f7a4 I x0 = some rv) : Cm l yJ6_bitCount_0f7a4 cJ6_bitCount_0f7a4 1 (some .int) 2 E B [.int x0] lay I J (some (.int rv)) lay I J :=
  ax_met (by decide) (Nat.le_of_ble_eq_true rfl) (fun p e R s m args below meth c C => t_J6_bitCount_0f7a4_0  C _ _ h)
def F_X2_heldParts (I : ax_I) (b : Nat) (x1 : Int32) : Option Int32 :=
  (F_X2_partBits I b x1 (-6)).bind (fun q6 => (F_J6_bitCount_0f7a4 I q6).bind (fun q9 => some (8 - q9)))
set_option maxRecDepth 100000 in
set_option maxHeartbeats 4000000 in
theorem t_X2_heldParts_0 {lay : List ax_S} {b : Nat} {J : ax_J} {rv : Int32} (hDb : ax_Dio B lay b) (C : ax_C p R s m args meth c yX2_heldParts cX2_heldParts 2 (some .int) 6 E mc ms) : ∀ (I : ax_I) (x1 : Int32), F_X2_heldParts I b x1 = some rv → AM p l e R s m args below meth c E B lay.length (ax_z lay) 2 (some (.int rv)) lay I J lay I J 0 [(0, .ref (B + b)), (1, .int x1)] [] := by
  obtain ⟨hx, hb, hr, hml, hown, hts, hlocks, hK, hfr, hlo, hmc, hms, hnm⟩ := id C
  have hown : s.vm.findClass RX2 = some m.cls := hown
  intro I x1 h H locs cells slots ls hc hz hR hS hl
  unfold F_X2_heldParts at h
  refine lv_bipush (v := 8) hx hb dX2_heldParts_0 (by decide) ?_
  refine lv_aload_n hx hb dX2_heldParts_2 rfl (lv_at hl 0 rfl) ?_
  refine lv_iload_n hx hb dX2_heldParts_3 rfl (lv_at hl 1 rfl) ?_
  refine lv_bipush (v := (-6)) hx hb dX2_heldParts_4 (by decide) ?_
  obtain ⟨q6, hq, h⟩ := ax_bd h
  refine ax_cV (rest := [.int 8]) (st1 := [.int q6, .int 8]) C hc hz hS hR (M_X2_partBits hDb hq) yk_X2_partBits in_X2_partBits se_X2_partBits ml_X2_92 (dio_0 hDb) rfl rfl (by decide) rfl hl.1 (Nat.le_of_ble_eq_true rfl) rfl rfl dX2_heldParts_6 (fun H locs hR hS => ?_)
  obtain ⟨q9, hq, h⟩ := ax_bd h
  refine ax_cS (rest := [.int 8]) (st1 := [.int q9, .int 8]) C hc hz hS hR (M_J6_bitCount_0f7a4  hq) yk_J6_bitCount_0f7a4 st_J6_bitCount_0f7a4 ml_X2_95 (by decide) rfl hl.1 (Nat.le_of_ble_eq_true rfl) rfl rfl dX2_heldParts_9 (fun H locs hR hS => ?_)
  refine lv_isub hx hb dX2_heldParts_12 ?_
  cases h
  exact ax_iret C hc hz hR hS rfl rfl dX2_heldParts_13
theorem M_X2_heldParts {l : Launch} {E : ax_E} {B : Nat} {lay : List ax_S} {I : ax_I} {J : ax_J} {b : Nat} {x1 : Int32} {rv : Int32} (hDb : ax_Dio B lay b) (h : F_X2_heldParts I b x1 = some rv) : Cm l yX2_heldParts cX2_heldParts 2 (some .int) 6 E B [.ref (B + b), .int x1] lay I J (some (.int rv)) lay I J :=
  ax_met (by decide) (Nat.le_of_ble_eq_true rfl) (fun p e R s m args below meth c C => t_X2_heldParts_0 hDb C _ _ h)
def f_X2_allHeldParts_4 (b : Nat) : Nat → ax_I → Int32 → Int32 → Option Int32
  | 0, _, _, _ => none
  | n + 1, I, x1, x2 => if 6 ≤ x2 then some x1 else (F_X2_heldParts I b x2).bind (fun q13 => f_X2_allHeldParts_4 b n I (x1 + q13) (x2 + 1))
def F_X2_allHeldParts (I : ax_I) (b : Nat) : Option Int32 :=
  f_X2_allHeldParts_4 b ax_N I 0 0
set_option maxRecDepth 100000 in
set_option maxHeartbeats 4000000 in
theorem t_X2_allHeldParts_4 {lay : List ax_S} {b : Nat} {J : ax_J} {rv : Int32} (hDb : ax_Dio B lay b) (C : ax_C p R s m args meth c yX2_allHeldParts cX2_allHeldParts 3 (some .int) 8 E mc ms) : ∀ (n : Nat) (I : ax_I) (x1 : Int32) (x2 : Int32), f_X2_allHeldParts_4 b n I x1 x2 = some rv → AM p l e R s m args below meth c E B lay.length (ax_z lay) 3 (some (.int rv)) lay I J lay I J 4 [(0, .ref (B + b)), (1, .int x1), (2, .int x2)] [] := by
  obtain ⟨hx, hb, hr, hml, hown, hts, hlocks, hK, hfr, hlo, hmc, hms, hnm⟩ := id C
  have hown : s.vm.findClass RX2 = some m.cls := hown
  intro n
  induction n with
  | zero => intro I x1 x2 h; cases h
  | succ n ih =>
    intro I x1 x2 h H locs cells slots ls hc hz hR hS hl
    rw [f_X2_allHeldParts_4] at h
    refine lv_iload_n hx hb dX2_allHeldParts_4 rfl (lv_at hl 2 rfl) ?_
    refine lv_bipush (v := 6) hx hb dX2_allHeldParts_5 (by decide) ?_
    refine lv_icmp_ge (tgt := 24) hx hb dX2_allHeldParts_7 (by decide) (fun q => ?_) (fun q => ?_)
    · have h := ax_ip q h
      refine lv_iload_n hx hb dX2_allHeldParts_24 rfl (lv_at hl 1 rfl) ?_
      cases h
      exact ax_iret C hc hz hR hS rfl rfl dX2_allHeldParts_25
    · have h := ax_iN q h
      refine lv_iload_n hx hb dX2_allHeldParts_10 rfl (lv_at hl 1 rfl) ?_
      refine lv_aload_n hx hb dX2_allHeldParts_11 rfl (lv_at hl 0 rfl) ?_
      refine lv_iload_n hx hb dX2_allHeldParts_12 rfl (lv_at hl 2 rfl) ?_
      obtain ⟨q13, hq, h⟩ := ax_bd h
      refine ax_cV (rest := [.int x1]) (st1 := [.int q13, .int x1]) C hc hz hS hR (M_X2_heldParts hDb hq) yk_X2_heldParts in_X2_heldParts se_X2_heldParts ml_X2_101 (dio_0 hDb) rfl rfl (by decide) rfl hl.1 (Nat.le_of_ble_eq_true rfl) rfl rfl dX2_allHeldParts_13 (fun H locs hR hS => ?_)
      refine lv_iadd hx hb dX2_allHeldParts_16 ?_
      refine lv_istore_n (lv' := [(1, .int (x1 + q13)), (0, .ref (B + b)), (2, .int x2)]) hx hb dX2_allHeldParts_17 rfl hl (by decide) rfl (fun ls hl => ?_)
      refine lv_iinc (v := (x2 + 1)) (lv' := [(2, .int (x2 + 1)), (1, .int (x1 + q13)), (0, .ref (B + b))]) hx hb dX2_allHeldParts_18 hl (k := 2) rfl rfl (by decide) rfl (fun ls hl => ?_)
      refine lv_goto (tgt := 4) hx hb dX2_allHeldParts_21 (by decide) ?_
      exact ih _ _ _ h H locs cells slots ls hc hz hR hS (lv_sub hl [2, 1, 0] rfl)
set_option maxRecDepth 100000 in
set_option maxHeartbeats 4000000 in
theorem t_X2_allHeldParts_0 {lay : List ax_S} {b : Nat} {J : ax_J} {rv : Int32} (hDb : ax_Dio B lay b) (C : ax_C p R s m args meth c yX2_allHeldParts cX2_allHeldParts 3 (some .int) 8 E mc ms) : ∀ (I : ax_I), F_X2_allHeldParts I b = some rv → AM p l e R s m args below meth c E B lay.length (ax_z lay) 3 (some (.int rv)) lay I J lay I J 0 [(0, .ref (B + b))] [] := by
  obtain ⟨hx, hb, hr, hml, hown, hts, hlocks, hK, hfr, hlo, hmc, hms, hnm⟩ := id C
  have hown : s.vm.findClass RX2 = some m.cls := hown
  intro I h H locs cells slots ls hc hz hR hS hl
  unfold F_X2_allHeldParts at h
  refine lv_iconst (v := 0) hx hb dX2_allHeldParts_0 (by decide) ?_
  refine lv_istore_n (lv' := [(1, .int 0), (0, .ref (B + b))]) hx hb dX2_allHeldParts_1 rfl hl (by decide) rfl (fun ls hl => ?_)
  refine lv_iconst (v := 0) hx hb dX2_allHeldParts_2 (by decide) ?_
  refine lv_istore_n (lv' := [(2, .int 0), (1, .int 0), (0, .ref (B + b))]) hx hb dX2_allHeldParts_3 rfl hl (by decide) rfl (fun ls hl => ?_)
  exact t_X2_allHeldParts_4 hDb C  ax_N _ _ _ h H locs cells slots ls hc hz hR hS (lv_sub hl [2, 1, 0] rfl)
theorem M_X2_allHeldParts {l : Launch} {E : ax_E} {B : Nat} {lay : List ax_S} {I : ax_I} {J : ax_J} {b : Nat} {rv : Int32} (hDb : ax_Dio B lay b) (h : F_X2_allHeldParts I b = some rv) : Cm l yX2_allHeldParts cX2_allHeldParts 3 (some .int) 8 E B [.ref (B + b)] lay I J (some (.int rv)) lay I J :=
  ax_met (by decide) (Nat.le_of_ble_eq_true rfl) (fun p e R s m args below meth c C => t_X2_allHeldParts_0 hDb C _ h)
def f_X2_pursesTogether_4 (b : Nat) : Nat → ax_I → Int32 → Int32 → Option Int32
  | 0, _, _, _ => none
  | n + 1, I, x1, x2 => if 4 ≤ x2 then some x1 else if ax_in x2 4 = true then f_X2_pursesTogether_4 b n I (x1 + (I (b + 8) x2.toNatClampNeg)) (x2 + 1) else none
def F_X2_pursesTogether (I : ax_I) (b : Nat) : Option Int32 :=
  f_X2_pursesTogether_4 b ax_N I 0 0
set_option maxRecDepth 100000 in
set_option maxHeartbeats 4000000 in
theorem t_X2_pursesTogether_4 {lay : List ax_S} {b : Nat} {J : ax_J} {rv : Int32} (hDb : ax_Dio B lay b) (C : ax_C p R s m args meth c yX2_pursesTogether cX2_pursesTogether 3 (some .int) 2 E mc ms) : ∀ (n : Nat) (I : ax_I) (x1 : Int32) (x2 : Int32), f_X2_pursesTogether_4 b n I x1 x2 = some rv → AM p l e R s m args below meth c E B lay.length (ax_z lay) 3 (some (.int rv)) lay I J lay I J 4 [(0, .ref (B + b)), (1, .int x1), (2, .int x2)] [] := by
  obtain ⟨hx, hb, hr, hml, hown, hts, hlocks, hK, hfr, hlo, hmc, hms, hnm⟩ := id C
  have hown : s.vm.findClass RX2 = some m.cls := hown
  intro n
  induction n with
  | zero => intro I x1 x2 h; cases h
  | succ n ih =>
    intro I x1 x2 h H locs cells slots ls hc hz hR hS hl
    rw [f_X2_pursesTogether_4] at h
    refine lv_iload_n hx hb dX2_pursesTogether_4 rfl (lv_at hl 2 rfl) ?_
    refine lv_iconst (v := 4) hx hb dX2_pursesTogether_5 (by decide) ?_
    refine lv_icmp_ge (tgt := 24) hx hb dX2_pursesTogether_6 (by decide) (fun q => ?_) (fun q => ?_)
    · have h := ax_ip q h
      refine lv_iload_n hx hb dX2_pursesTogether_24 rfl (lv_at hl 1 rfl) ?_
      cases h
      exact ax_iret C hc hz hR hS rfl rfl dX2_pursesTogether_25
    · have h := ax_iN q h
      refine lv_iload_n hx hb dX2_pursesTogether_9 rfl (lv_at hl 1 rfl) ?_
      refine lv_aload_n hx hb dX2_pursesTogether_10 rfl (lv_at hl 0 rfl) ?_
      refine ax_getV hx hb hts hown hK hR fl_X2_33 (dio_0 hDb) rfl dX2_pursesTogether_11 ?_
      refine lv_iload_n hx hb dX2_pursesTogether_14 rfl (lv_at hl 2 rfl) ?_
      obtain ⟨hq, h⟩ := ax_ck h
      refine ax_iald hx hb hK hR (dio_8 hDb) hq dX2_pursesTogether_15 ?_
      refine lv_iadd hx hb dX2_pursesTogether_16 ?_
      refine lv_istore_n (lv' := [(1, .int (x1 + (I (b + 8) x2.toNatClampNeg))), (0, .ref (B + b)), (2, .int x2)]) hx hb dX2_pursesTogether_17 rfl hl (by decide) rfl (fun ls hl => ?_)
      refine lv_iinc (v := (x2 + 1)) (lv' := [(2, .int (x2 + 1)), (1, .int (x1 + (I (b + 8) x2.toNatClampNeg))), (0, .ref (B + b))]) hx hb dX2_pursesTogether_18 hl (k := 2) rfl rfl (by decide) rfl (fun ls hl => ?_)
      refine lv_goto (tgt := 4) hx hb dX2_pursesTogether_21 (by decide) ?_
      exact ih _ _ _ h H locs cells slots ls hc hz hR hS (lv_sub hl [2, 1, 0] rfl)
set_option maxRecDepth 100000 in
set_option maxHeartbeats 4000000 in
theorem t_X2_pursesTogether_0 {lay : List ax_S} {b : Nat} {J : ax_J} {rv : Int32} (hDb : ax_Dio B lay b) (C : ax_C p R s m args meth c yX2_pursesTogether cX2_pursesTogether 3 (some .int) 2 E mc ms) : ∀ (I : ax_I), F_X2_pursesTogether I b = some rv → AM p l e R s m args below meth c E B lay.length (ax_z lay) 3 (some (.int rv)) lay I J lay I J 0 [(0, .ref (B + b))] [] := by
  obtain ⟨hx, hb, hr, hml, hown, hts, hlocks, hK, hfr, hlo, hmc, hms, hnm⟩ := id C
  have hown : s.vm.findClass RX2 = some m.cls := hown
  intro I h H locs cells slots ls hc hz hR hS hl
  unfold F_X2_pursesTogether at h
  refine lv_iconst (v := 0) hx hb dX2_pursesTogether_0 (by decide) ?_
  refine lv_istore_n (lv' := [(1, .int 0), (0, .ref (B + b))]) hx hb dX2_pursesTogether_1 rfl hl (by decide) rfl (fun ls hl => ?_)
  refine lv_iconst (v := 0) hx hb dX2_pursesTogether_2 (by decide) ?_
  refine lv_istore_n (lv' := [(2, .int 0), (1, .int 0), (0, .ref (B + b))]) hx hb dX2_pursesTogether_3 rfl hl (by decide) rfl (fun ls hl => ?_)
  exact t_X2_pursesTogether_4 hDb C  ax_N _ _ _ h H locs cells slots ls hc hz hR hS (lv_sub hl [2, 1, 0] rfl)
theorem M_X2_pursesTogether {l : Launch} {E : ax_E} {B : Nat} {lay : List ax_S} {I : ax_I} {J : ax_J} {b : Nat} {rv : Int32} (hDb : ax_Dio B lay b) (h : F_X2_pursesTogether I b = some rv) : Cm l yX2_pursesTogether cX2_pursesTogether 3 (some .int) 2 E B [.ref (B + b)] lay I J (some (.int rv)) lay I J :=
  ax_met (by decide) (Nat.le_of_ble_eq_true rfl) (fun p e R s m args below meth c C => t_X2_pursesTogether_0 hDb C _ h)
def f_X2_addSight_56 (b : Nat) (I : ax_I) (s0 : Int32) : Option ax_I :=
  some (ax_u (ax_u I b 4 s0) b 3 (((ax_u I b 4 s0) b 3) + 1))
def F_X2_addSight (I : ax_I) (b : Nat) (x1 : Int32) (x2 : Int32) (x3 : Int32) : Option ax_I :=
  if 8 ≤ (I b 3) then some I else if ax_in (I b 3) 8 = true then if x3 = 0 then f_X2_addSight_56 b (ax_u I (b + 11) (I b 3).toNatClampNeg ((10 * x1) + x2)) (((ax_u I (b + 11) (I b 3).toNatClampNeg ((10 * x1) + x2)) b 4) &&& (((1 : Int32) <<< ((I b 3) &&& 31)) ^^^ (-1))) else f_X2_addSight_56 b (ax_u I (b + 11) (I b 3).toNatClampNeg ((10 * x1) + x2)) (((ax_u I (b + 11) (I b 3).toNatClampNeg ((10 * x1) + x2)) b 4) ||| ((1 : Int32) <<< ((I b 3) &&& 31))) else none
set_option maxRecDepth 100000 in
set_option maxHeartbeats 4000000 in
theorem t_X2_addSight_56 {lay : List ax_S} {b : Nat} {J : ax_J} {I9 : ax_I} (hDb : ax_Dio B lay b) (C : ax_C p R s m args meth c yX2_addSight cX2_addSight 5 none 2 E mc ms) : ∀ (I : ax_I) (s0 : Int32), f_X2_addSight_56 b I s0 = some I9 → AM p l e R s m args below meth c E B lay.length (ax_z lay) 5 none lay I9 J lay I J 56 [(0, .ref (B + b))] [.int s0, .ref (B + b)] := by
  obtain ⟨hx, hb, hr, hml, hown, hts, hlocks, hK, hfr, hlo, hmc, hms, hnm⟩ := id C
  have hown : s.vm.findClass RX2 = some m.cls := hown
  intro I s0 h H locs cells slots ls hc hz hR hS hl
  unfold f_X2_addSight_56 at h
  refine ax_putI hx hb hts hown hK hR hS fp_X2_58 (dio_0 hDb) rfl rfl rfl dX2_addSight_56 (fun H locs hR hS => ?_)
  refine lv_aload_n hx hb dX2_addSight_59 rfl (lv_at hl 0 rfl) ?_
  refine lv_dup hx hb dX2_addSight_60 rfl ?_
  refine ax_getI hx hb hts hown hK hR fl_X2_55 (dio_0 hDb) rfl dX2_addSight_61 ?_
  refine lv_iconst (v := 1) hx hb dX2_addSight_64 (by decide) ?_
  refine lv_iadd hx hb dX2_addSight_65 ?_
  refine ax_putI hx hb hts hown hK hR hS fp_X2_55 (dio_0 hDb) rfl rfl rfl dX2_addSight_66 (fun H locs hR hS => ?_)
  cases h
  exact ax_vret C hc hz hR hS dX2_addSight_69
set_option maxRecDepth 100000 in
set_option maxHeartbeats 4000000 in
theorem t_X2_addSight_0 {lay : List ax_S} {b : Nat} {J : ax_J} {I9 : ax_I} (hDb : ax_Dio B lay b) (C : ax_C p R s m args meth c yX2_addSight cX2_addSight 5 none 2 E mc ms) : ∀ (I : ax_I) (x1 : Int32) (x2 : Int32) (x3 : Int32), F_X2_addSight I b x1 x2 x3 = some I9 → AM p l e R s m args below meth c E B lay.length (ax_z lay) 5 none lay I9 J lay I J 0 [(0, .ref (B + b)), (1, .int x1), (2, .int x2), (3, .int x3)] [] := by
  obtain ⟨hx, hb, hr, hml, hown, hts, hlocks, hK, hfr, hlo, hmc, hms, hnm⟩ := id C
  have hown : s.vm.findClass RX2 = some m.cls := hown
  intro I x1 x2 x3 h H locs cells slots ls hc hz hR hS hl
  unfold F_X2_addSight at h
  refine lv_aload_n hx hb dX2_addSight_0 rfl (lv_at hl 0 rfl) ?_
  refine ax_getI hx hb hts hown hK hR fl_X2_55 (dio_0 hDb) rfl dX2_addSight_1 ?_
  refine lv_bipush (v := 8) hx hb dX2_addSight_4 (by decide) ?_
  refine lv_icmp_ge (tgt := 69) hx hb dX2_addSight_6 (by decide) (fun q => ?_) (fun q => ?_)
  · have h := ax_ip q h
    cases h
    exact ax_vret C hc hz hR hS dX2_addSight_69
  · have h := ax_iN q h
    refine lv_iconst (v := 1) hx hb dX2_addSight_9 (by decide) ?_
    refine lv_aload_n hx hb dX2_addSight_10 rfl (lv_at hl 0 rfl) ?_
    refine ax_getI hx hb hts hown hK hR fl_X2_55 (dio_0 hDb) rfl dX2_addSight_11 ?_
    refine lv_ishl hx hb dX2_addSight_14 ?_
    refine lv_istore (lv' := [(4, .int ((1 : Int32) <<< ((I b 3) &&& 31))), (0, .ref (B + b)), (1, .int x1), (2, .int x2), (3, .int x3)]) hx hb dX2_addSight_15 hl (by decide) rfl (fun ls hl => ?_)
    refine lv_aload_n hx hb dX2_addSight_17 rfl (lv_at hl 1 rfl) ?_
    refine ax_getV hx hb hts hown hK hR fl_X2_42 (dio_0 hDb) rfl dX2_addSight_18 ?_
    refine lv_aload_n hx hb dX2_addSight_21 rfl (lv_at hl 1 rfl) ?_
    refine ax_getI hx hb hts hown hK hR fl_X2_55 (dio_0 hDb) rfl dX2_addSight_22 ?_
    refine lv_bipush (v := 10) hx hb dX2_addSight_25 (by decide) ?_
    refine lv_iload_n hx hb dX2_addSight_27 rfl (lv_at hl 2 rfl) ?_
    refine lv_imul hx hb dX2_addSight_28 ?_
    refine lv_iload_n hx hb dX2_addSight_29 rfl (lv_at hl 3 rfl) ?_
    refine lv_iadd hx hb dX2_addSight_30 ?_
    obtain ⟨hq, h⟩ := ax_ck h
    refine ax_iast hx hb hK hR hS (dio_11 hDb) hq dX2_addSight_31 (fun H locs hR hS => ?_)
    refine lv_aload_n hx hb dX2_addSight_32 rfl (lv_at hl 1 rfl) ?_
    refine lv_iload_n hx hb dX2_addSight_33 rfl (lv_at hl 4 rfl) ?_
    refine lv_if_eq (tgt := 47) hx hb dX2_addSight_34 (by decide) (fun q => ?_) (fun q => ?_)
    · have h := ax_ip q h
      refine lv_aload_n hx hb dX2_addSight_47 rfl (lv_at hl 1 rfl) ?_
      refine ax_getI hx hb hts hown hK hR fl_X2_58 (dio_0 hDb) rfl dX2_addSight_48 ?_
      refine lv_iload hx hb dX2_addSight_51 (lv_at hl 0 rfl) ?_
      refine lv_iconst (v := (-1)) hx hb dX2_addSight_53 (by decide) ?_
      refine lv_ixor hx hb dX2_addSight_54 ?_
      refine lv_iand hx hb dX2_addSight_55 ?_
      exact t_X2_addSight_56 hDb C  _ _ h H locs cells slots ls hc hz hR hS (lv_sub hl [1] rfl)
    · have h := ax_iN q h
      refine lv_aload_n hx hb dX2_addSight_37 rfl (lv_at hl 1 rfl) ?_
      refine ax_getI hx hb hts hown hK hR fl_X2_58 (dio_0 hDb) rfl dX2_addSight_38 ?_
      refine lv_iload hx hb dX2_addSight_41 (lv_at hl 0 rfl) ?_
      refine lv_ior hx hb dX2_addSight_43 ?_
      refine lv_goto (tgt := 56) hx hb dX2_addSight_44 (by decide) ?_
      exact t_X2_addSight_56 hDb C  _ _ h H locs cells slots ls hc hz hR hS (lv_sub hl [1] rfl)
theorem M_X2_addSight {l : Launch} {E : ax_E} {B : Nat} {lay : List ax_S} {I : ax_I} {J : ax_J} {b : Nat} {x1 : Int32} {x2 : Int32} {x3 : Int32} {I9 : ax_I} (hDb : ax_Dio B lay b) (h : F_X2_addSight I b x1 x2 x3 = some I9) : Cm l yX2_addSight cX2_addSight 5 none 2 E B [.ref (B + b), .int x1, .int x2, .int x3] lay I J none lay I9 J :=
  ax_met (by decide) (Nat.le_of_ble_eq_true rfl) (fun p e R s m args below meth c C => t_X2_addSight_0 hDb C _ _ _ _ h)
end GEN
