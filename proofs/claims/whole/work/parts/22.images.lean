/-! ===== image and restore ===== -/
def ax_dS (B b : Nat) : List ax_S := [.inl (2, [none, none, none, none, none, some (.ref (B + (b + 1))), some (.ref (B + (b + 2))), some (.ref (B + (b + 3))), some (.ref (B + (b + 4))), some (.ref (B + (b + 5))), some (.ref (B + (b + 6))), some (.ref (B + (b + 7))), some (.ref (B + (b + 8))), some (.ref (B + (b + 9))), some (.ref (B + (b + 10))), some (.ref (B + (b + 11)))]), .inr (.inl (0, 6)), .inr (.inl (0, 6)), .inr (.inl (0, 6)), .inr (.inl (0, 48)), .inr (.inl (0, 6)), .inr (.inl (0, 6)), .inr (.inl (0, 6)), .inr (.inl (0, 4)), .inr (.inl (0, 3)), .inr (.inl (0, 8)), .inr (.inl (0, 8))]
theorem lk_25 {B : Nat} {g : Nat → Option Nat} {ext : List ax_S} : (ax_L B g ++ ext)[25]? = some (.inr (.inr (2, g))) := rfl
theorem ax_dio_new {B b : Nat} {pre post : List ax_S} (hpre : pre.length = b) : ax_Dio B (pre ++ (ax_dS B b ++ post)) b := by
  have h : ∀ (k : Nat) (s : ax_S), (ax_dS B b ++ post)[k]? = some s → (pre ++ (ax_dS B b ++ post))[b + k]? = some s := fun k s hk => ax_pg hpre k hk
  exact ⟨h 0 _ rfl, h 1 _ rfl, h 2 _ rfl, h 3 _ rfl, h 4 _ rfl, h 5 _ rfl, h 6 _ rfl, h 7 _ rfl, h 8 _ rfl, h 9 _ rfl, h 10 _ rfl, h 11 _ rfl⟩
theorem ax_set25 {B a k : Nat} {g : Nat → Option Nat} {ext D : List ax_S} : ((ax_L B g ++ ext) ++ D).set 25 (.inr (.inr (2, va_up g k (some a)))) = ax_L B (va_up g k (some a)) ++ (ext ++ D) := by
  rw [List.append_assoc]
  rfl
section GEN
variable {p : Program} {l : Launch} {e : Env} {R : Room} {s : State} {m : MethodId} {args : Array Value} {below : List Frame} {meth : Method} {c : Code} {E : ax_E} {B mc ms : Nat}
set_option maxRecDepth 100000 in
set_option maxHeartbeats 4000000 in
theorem M_X6_restore_out {lay : List ax_S} {I : ax_I} {J : ax_J} {x1 : Int32} (hw : F_X6_within I x1 0 1 = some 0) : Cm l yX6_restore cX6_restore 3 (some .int) 4 E B [.ref (B + 0), .int x1] lay I J (some (.int (-2))) lay I J := by
  refine ax_met (by decide) (Nat.le_of_ble_eq_true rfl) (fun p e R s m args below meth c C => ?_)
  obtain ⟨hx, hb, hr, hml, hown, hts, hlocks, hK, hfr, hlo, hmc, hms, hnm⟩ := id C
  intro H locs cells slots ls hc hz hR hS hl
  have hl : lv_has ls 3 [(0, .ref (B + 0)), (1, .int x1)] := hl
  refine lv_iload_n hx hb dX6_restore_0 rfl (lv_at hl 1 rfl) ?_
  refine lv_iconst (v := 0) hx hb dX6_restore_1 (by decide) ?_
  refine lv_iconst (v := 1) hx hb dX6_restore_2 (by decide) ?_
  refine ax_cS (rest := []) (st1 := [.int 0]) C hc hz hS hR (M_X6_within hw) yk_X6_within st_X6_within ml_X6_58 (by decide) rfl hl.1 (Nat.le_of_ble_eq_true rfl) rfl rfl dX6_restore_3 (fun H locs hR hS => ?_)
  refine lv_if_ne (tgt := 12) hx hb dX6_restore_6 (by decide) (fun q => absurd rfl q) (fun q => ?_)
  refine lv_bipush (v := (-2)) hx hb dX6_restore_9 (by decide) ?_
  exact ax_iret C hc hz hR hS rfl rfl dX6_restore_11
set_option maxRecDepth 100000 in
set_option maxHeartbeats 4000000 in
theorem M_X6_restore_no {g : Nat → Option Nat} {ext : List ax_S} {I : ax_I} {J : ax_J} {x1 : Int32} (hw : F_X6_within I x1 0 1 = some 1) (hin : ax_in x1 2 = true) (hg : g x1.toNatClampNeg = none) : Cm l yX6_restore cX6_restore 3 (some .int) 4 E B [.ref (B + 0), .int x1] (ax_L B g ++ ext) I J (some (.int (-3))) (ax_L B g ++ ext) I J := by
  refine ax_met (by decide) (Nat.le_of_ble_eq_true rfl) (fun p e R s m args below meth c C => ?_)
  obtain ⟨hx, hb, hr, hml, hown, hts, hlocks, hK, hfr, hlo, hmc, hms, hnm⟩ := id C
  have hown : s.vm.findClass RX6 = some m.cls := hown
  have hL : ax_LL B (ax_L B g ++ ext) := ⟨g, ext, rfl⟩
  generalize hlay : ax_L B g ++ ext = lay at hL ⊢
  intro H locs cells slots ls hc hz hR hS hl
  have hl : lv_has ls 3 [(0, .ref (B + 0)), (1, .int x1)] := hl
  refine lv_iload_n hx hb dX6_restore_0 rfl (lv_at hl 1 rfl) ?_
  refine lv_iconst (v := 0) hx hb dX6_restore_1 (by decide) ?_
  refine lv_iconst (v := 1) hx hb dX6_restore_2 (by decide) ?_
  refine ax_cS (rest := []) (st1 := [.int 1]) C hc hz hS hR (M_X6_within hw) yk_X6_within st_X6_within ml_X6_58 (by decide) rfl hl.1 (Nat.le_of_ble_eq_true rfl) rfl rfl dX6_restore_3 (fun H locs hR hS => ?_)
  refine lv_if_ne (tgt := 12) hx hb dX6_restore_6 (by decide) (fun q => ?_) (fun q => absurd q (by decide))
  refine lv_aload_n hx hb dX6_restore_12 rfl (lv_at hl 0 rfl) ?_
  refine ax_getV hx hb hts hown hK hR fl_X6_19 (lk_0 hL) rfl dX6_restore_13 ?_
  refine lv_iload_n hx hb dX6_restore_16 rfl (lv_at hl 1 rfl) ?_
  refine ax_qald (n := 2) (g := g) hx hb hK hR (by rw [← hlay]; exact lk_25) hin dX6_restore_17 ?_
  rw [hg]
  show W p l e R s m args below meth c H locs cells slots _ (F0 m _ ls [Value.null])
  refine lv_astore_nN (lv' := [(2, .null), (0, .ref (B + 0)), (1, .int x1)]) hx hb dX6_restore_18 rfl hl (by decide) rfl (fun ls hl => ?_)
  refine lv_aload_nN hx hb dX6_restore_19 rfl (lv_at hl 0 rfl) ?_
  refine lv_ifnonnullN hx hb dX6_restore_20 ?_
  refine lv_bipush (v := (-3)) hx hb dX6_restore_23 (by decide) ?_
  exact ax_iret C hc hz hR hS rfl rfl dX6_restore_25
set_option maxRecDepth 100000 in
set_option maxHeartbeats 4000000 in
theorem M_X6_restore_yes {g : Nat → Option Nat} {ext : List ax_S} {I I9 : ax_I} {J : ax_J} {x1 : Int32} {b : Nat} (hw : F_X6_within I x1 0 1 = some 1) (hin : ax_in x1 2 = true) (hg : g x1.toNatClampNeg = some (B + b)) (hD : ax_Dio B (ax_L B g ++ ext) b) (hcp : F_X2_copyFrom I 1 b = some I9) : Cm l yX6_restore cX6_restore 3 (some .int) 5 E B [.ref (B + 0), .int x1] (ax_L B g ++ ext) I J (some (.int 1)) (ax_L B g ++ ext) I9 J := by
  refine ax_met (by decide) (Nat.le_of_ble_eq_true rfl) (fun p e R s m args below meth c C => ?_)
  obtain ⟨hx, hb, hr, hml, hown, hts, hlocks, hK, hfr, hlo, hmc, hms, hnm⟩ := id C
  have hown : s.vm.findClass RX6 = some m.cls := hown
  have hL : ax_LL B (ax_L B g ++ ext) := ⟨g, ext, rfl⟩
  generalize hlay : ax_L B g ++ ext = lay at hL hD ⊢
  intro H locs cells slots ls hc hz hR hS hl
  have hl : lv_has ls 3 [(0, .ref (B + 0)), (1, .int x1)] := hl
  refine lv_iload_n hx hb dX6_restore_0 rfl (lv_at hl 1 rfl) ?_
  refine lv_iconst (v := 0) hx hb dX6_restore_1 (by decide) ?_
  refine lv_iconst (v := 1) hx hb dX6_restore_2 (by decide) ?_
  refine ax_cS (rest := []) (st1 := [.int 1]) C hc hz hS hR (M_X6_within hw) yk_X6_within st_X6_within ml_X6_58 (by decide) rfl hl.1 (Nat.le_of_ble_eq_true rfl) rfl rfl dX6_restore_3 (fun H locs hR hS => ?_)
  refine lv_if_ne (tgt := 12) hx hb dX6_restore_6 (by decide) (fun q => ?_) (fun q => absurd q (by decide))
  refine lv_aload_n hx hb dX6_restore_12 rfl (lv_at hl 0 rfl) ?_
  refine ax_getV hx hb hts hown hK hR fl_X6_19 (lk_0 hL) rfl dX6_restore_13 ?_
  refine lv_iload_n hx hb dX6_restore_16 rfl (lv_at hl 1 rfl) ?_
  refine ax_qald (n := 2) (g := g) hx hb hK hR (by rw [← hlay]; exact lk_25) hin dX6_restore_17 ?_
  rw [hg]
  show W p l e R s m args below meth c H locs cells slots _ (F0 m _ ls [Value.ref (B + b)])
  refine lv_astore_n (lv' := [(2, .ref (B + b)), (0, .ref (B + 0)), (1, .int x1)]) hx hb dX6_restore_18 rfl hl (by decide) rfl (fun ls hl => ?_)
  refine lv_aload_n hx hb dX6_restore_19 rfl (lv_at hl 0 rfl) ?_
  refine lv_ifnonnull (tgt := 26) hx hb dX6_restore_20 (by decide) ?_
  refine lv_aload_n hx hb dX6_restore_26 rfl (lv_at hl 1 rfl) ?_
  refine ax_getV hx hb hts hown hK hR fl_X6_10 (lk_0 hL) rfl dX6_restore_27 ?_
  refine lv_aload_n hx hb dX6_restore_30 rfl (lv_at hl 0 rfl) ?_
  refine ax_cV (rest := []) (st1 := []) C hc hz hS hR (M_X2_copyFrom (dio_at1 hL) hD hcp) yk_X2_copyFrom in_X2_copyFrom se_X2_copyFrom ml_X6_151 (lk_1 hL) rfl rfl (by decide) rfl hl.1 (Nat.le_of_ble_eq_true rfl) rfl rfl dX6_restore_31 (fun H locs hR hS => ?_)
  refine lv_iconst (v := 1) hx hb dX6_restore_34 (by decide) ?_
  exact ax_iret C hc hz hR hS rfl rfl dX6_restore_35
set_option maxRecDepth 100000 in
set_option maxHeartbeats 4000000 in
theorem M_X6_image_out {lay : List ax_S} {I : ax_I} {J : ax_J} {x1 : Int32} (hw : F_X6_within I x1 0 1 = some 0) : Cm l yX6_image cX6_image 3 (some .int) 4 E B [.ref (B + 0), .int x1] lay I J (some (.int (-2))) lay I J := by
  refine ax_met (by decide) (Nat.le_of_ble_eq_true rfl) (fun p e R s m args below meth c C => ?_)
  obtain ⟨hx, hb, hr, hml, hown, hts, hlocks, hK, hfr, hlo, hmc, hms, hnm⟩ := id C
  intro H locs cells slots ls hc hz hR hS hl
  have hl : lv_has ls 3 [(0, .ref (B + 0)), (1, .int x1)] := hl
  refine lv_iload_n hx hb dX6_image_0 rfl (lv_at hl 1 rfl) ?_
  refine lv_iconst (v := 0) hx hb dX6_image_1 (by decide) ?_
  refine lv_iconst (v := 1) hx hb dX6_image_2 (by decide) ?_
  refine ax_cS (rest := []) (st1 := [.int 0]) C hc hz hS hR (M_X6_within hw) yk_X6_within st_X6_within ml_X6_58 (by decide) rfl hl.1 (Nat.le_of_ble_eq_true rfl) rfl rfl dX6_image_3 (fun H locs hR hS => ?_)
  refine lv_if_ne (tgt := 12) hx hb dX6_image_6 (by decide) (fun q => absurd rfl q) (fun q => ?_)
  refine lv_bipush (v := (-2)) hx hb dX6_image_9 (by decide) ?_
  exact ax_iret C hc hz hR hS rfl rfl dX6_image_11
set_option maxRecDepth 100000 in
set_option maxHeartbeats 4000000 in
theorem M_X6_image_old {g : Nat → Option Nat} {ext : List ax_S} {I I9 : ax_I} {J : ax_J} {x1 : Int32} {b : Nat} (hw : F_X6_within I x1 0 1 = some 1) (hin : ax_in x1 2 = true) (hg : g x1.toNatClampNeg = some (B + b)) (hD : ax_Dio B (ax_L B g ++ ext) b) (hcp : F_X2_copyFrom I b 1 = some I9) : Cm l yX6_image cX6_image 3 (some .int) 5 E B [.ref (B + 0), .int x1] (ax_L B g ++ ext) I J (some (.int 1)) (ax_L B g ++ ext) I9 J := by
  refine ax_met (by decide) (Nat.le_of_ble_eq_true rfl) (fun p e R s m args below meth c C => ?_)
  obtain ⟨hx, hb, hr, hml, hown, hts, hlocks, hK, hfr, hlo, hmc, hms, hnm⟩ := id C
  have hown : s.vm.findClass RX6 = some m.cls := hown
  have hL : ax_LL B (ax_L B g ++ ext) := ⟨g, ext, rfl⟩
  generalize hlay : ax_L B g ++ ext = lay at hL hD ⊢
  intro H locs cells slots ls hc hz hR hS hl
  have hl : lv_has ls 3 [(0, .ref (B + 0)), (1, .int x1)] := hl
  refine lv_iload_n hx hb dX6_image_0 rfl (lv_at hl 1 rfl) ?_
  refine lv_iconst (v := 0) hx hb dX6_image_1 (by decide) ?_
  refine lv_iconst (v := 1) hx hb dX6_image_2 (by decide) ?_
  refine ax_cS (rest := []) (st1 := [.int 1]) C hc hz hS hR (M_X6_within hw) yk_X6_within st_X6_within ml_X6_58 (by decide) rfl hl.1 (Nat.le_of_ble_eq_true rfl) rfl rfl dX6_image_3 (fun H locs hR hS => ?_)
  refine lv_if_ne (tgt := 12) hx hb dX6_image_6 (by decide) (fun q => ?_) (fun q => absurd q (by decide))
  refine lv_aload_n hx hb dX6_image_12 rfl (lv_at hl 0 rfl) ?_
  refine ax_getV hx hb hts hown hK hR fl_X6_19 (lk_0 hL) rfl dX6_image_13 ?_
  refine lv_iload_n hx hb dX6_image_16 rfl (lv_at hl 1 rfl) ?_
  refine ax_qald (n := 2) (g := g) hx hb hK hR (by rw [← hlay]; exact lk_25) hin dX6_image_17 ?_
  rw [hg]
  show W p l e R s m args below meth c H locs cells slots _ (F0 m _ ls [Value.ref (B + b)])
  refine lv_astore_n (lv' := [(2, .ref (B + b)), (0, .ref (B + 0)), (1, .int x1)]) hx hb dX6_image_18 rfl hl (by decide) rfl (fun ls hl => ?_)
  refine lv_aload_n hx hb dX6_image_19 rfl (lv_at hl 0 rfl) ?_
  refine lv_ifnonnull (tgt := 38) hx hb dX6_image_20 (by decide) ?_
  refine lv_aload_n hx hb dX6_image_38 rfl (lv_at hl 0 rfl) ?_
  refine lv_aload_n hx hb dX6_image_39 rfl (lv_at hl 1 rfl) ?_
  refine ax_getV hx hb hts hown hK hR fl_X6_10 (lk_0 hL) rfl dX6_image_40 ?_
  refine ax_cV (rest := []) (st1 := []) C hc hz hS hR (M_X2_copyFrom hD (dio_at1 hL) hcp) yk_X2_copyFrom in_X2_copyFrom se_X2_copyFrom ml_X6_151 (dio_0 hD) rfl rfl (by decide) rfl hl.1 (Nat.le_of_ble_eq_true rfl) rfl rfl dX6_image_43 (fun H locs hR hS => ?_)
  refine lv_iconst (v := 1) hx hb dX6_image_46 (by decide) ?_
  exact ax_iret C hc hz hR hS rfl rfl dX6_image_47
set_option maxRecDepth 100000 in
set_option maxHeartbeats 4000000 in
theorem M_X6_image_new {g : Nat → Option Nat} {ext : List ax_S} {I I1 I9 : ax_I} {J J1 : ax_J} {x1 : Int32} {b : Nat} (hw : F_X6_within I x1 0 1 = some 1) (hin : ax_in x1 2 = true) (hg : g x1.toNatClampNeg = none) (hb0 : (ax_L B g ++ ext).length = b) (hini : F_X2_init (ax_r I (b + 0) (fun _ => 0)) J (b + 0) = some (I1, J1)) (hcp : F_X2_copyFrom I1 b 1 = some I9) : Cn l yX6_image cX6_image 3 (some .int) 6 E B [.ref (B + 0), .int x1] (ax_L B g ++ ext) I J (some (.int 1)) (ax_L B (va_up g x1.toNatClampNeg (some (B + b))) ++ (ext ++ ax_dS B b)) I9 J1 12 123 := by
  refine ax_metN (by decide) (Nat.le_of_ble_eq_true rfl) (fun p e R s m args below meth c C => ?_)
  obtain ⟨hx, hb, hr, hml, hown, hts, hlocks, hK, hfr, hlo, hmc, hms, hnm⟩ := id C
  have hown : s.vm.findClass RX6 = some m.cls := hown
  have hL : ax_LL B (ax_L B g ++ ext) := ⟨g, ext, rfl⟩
  intro H locs ls hR hS hl
  have hl : lv_has ls 3 [(0, .ref (B + 0)), (1, .int x1)] := hl
  refine lv_iload_n hx hb dX6_image_0 rfl (lv_at hl 1 rfl) ?_
  refine lv_iconst (v := 0) hx hb dX6_image_1 (by decide) ?_
  refine lv_iconst (v := 1) hx hb dX6_image_2 (by decide) ?_
  refine ax_cS (rest := []) (st1 := [.int 1]) C (Nat.zero_add _) (Nat.zero_add _) hS hR (M_X6_within hw) yk_X6_within st_X6_within ml_X6_58 (by decide) rfl hl.1 (Nat.le_of_ble_eq_true rfl) rfl rfl dX6_image_3 (fun H locs hR hS => ?_)
  refine lv_if_ne (tgt := 12) hx hb dX6_image_6 (by decide) (fun q => ?_) (fun q => absurd q (by decide))
  refine lv_aload_n hx hb dX6_image_12 rfl (lv_at hl 0 rfl) ?_
  refine ax_getV hx hb hts hown hK hR fl_X6_19 (lk_0 hL) rfl dX6_image_13 ?_
  refine lv_iload_n hx hb dX6_image_16 rfl (lv_at hl 1 rfl) ?_
  refine ax_qald (n := 2) (g := g) hx hb hK hR lk_25 hin dX6_image_17 ?_
  rw [hg]
  show W p l e R s m args below meth c H locs 0 0 _ (F0 m _ ls [Value.null])
  refine lv_astore_nN (lv' := [(2, .null), (0, .ref (B + 0)), (1, .int x1)]) hx hb dX6_image_18 rfl hl (by decide) rfl (fun ls hl => ?_)
  refine lv_aload_nN hx hb dX6_image_19 rfl (lv_at hl 0 rfl) ?_
  refine lv_ifnonnullN hx hb dX6_image_20 ?_
  have hR : ax_R E B ((ax_L B g ++ ext) ++ []) I J H := by rw [List.append_nil]; exact hR
  refine ax_newP (ci := 2) (q := (RX2, TX2, 16)) (fs := [none, none, none, none, none, some .null, some .null, some .null, some .null, some .null, some .null, some .null, some .null, some .null, some .null, some .null]) (L' := [.inl (2, [none, none, none, none, none, some .null, some .null, some .null, some .null, some .null, some .null, some .null, some .null, some .null, some .null, some .null])]) (kc := 1) (ks := 16) (nn := 0) hx hb hts hown hK hb0 hR hS tyX2 rfl cf_X2.1 tyX2_ok rfl cl_X6_7 inst_X2 ini_X2 hf_X2 rfl rfl (by omega) (by omega) rfl rfl dX6_image_23 (fun H hR hS => ?_)
  refine lv_dup hx hb dX6_image_26 rfl ?_
  refine ax_cIP (k := 0) (pre := ax_L B g ++ ext) (b := b) (Lk := []) (L' := ax_dS B b) (kc := 12) (ks := 123) (rest := [.ref (B + (b + 0))]) C hS hR (M_X2_init (by rw [List.append_nil]; exact hb0) hini) rfl rfl yk_X2_init in_X2_init rfl (.inl ml_X6_9) (by decide) hl.1 (Nat.le_of_ble_eq_true rfl) rfl rfl (by omega) (by omega) dX6_image_27 (fun H locs hR hS => ?_)
  refine lv_astore_n (lv' := [(2, .ref (B + b)), (0, .ref (B + 0)), (1, .int x1)]) hx hb dX6_image_30 rfl hl (by decide) rfl (fun ls hl => ?_)
  have hL : ax_LL B ((ax_L B g ++ ext) ++ ax_dS B b) := ⟨g, ext ++ ax_dS B b, by rw [List.append_assoc]⟩
  refine lv_aload_n hx hb dX6_image_31 rfl (lv_at hl 1 rfl) ?_
  refine ax_getV hx hb hts hown hK hR fl_X6_19 (lk_0 hL) rfl dX6_image_32 ?_
  refine lv_iload_n hx hb dX6_image_35 rfl (lv_at hl 2 rfl) ?_
  refine lv_aload_n hx hb dX6_image_36 rfl (lv_at hl 0 rfl) ?_
  have hD0 : ax_Dio B ((ax_L B g ++ ext) ++ ax_dS B b) b := by
    have h9 := ax_dio_new (B := B) (pre := ax_L B g ++ ext) (post := []) hb0
    rwa [List.append_nil] at h9
  refine ax_qast (n := 2) (g := g) hx hb hK hR hS (by rw [List.append_assoc]; exact lk_25) (dio_0 hD0) hin dX6_image_37 (fun H locs hR hS => ?_)
  rw [ax_set25] at hR
  have hL : ax_LL B (ax_L B (va_up g x1.toNatClampNeg (some (B + b))) ++ (ext ++ ax_dS B b)) := ⟨_, _, rfl⟩
  have hD : ax_Dio B (ax_L B (va_up g x1.toNatClampNeg (some (B + b))) ++ (ext ++ ax_dS B b)) b := by
    have h9 := ax_dio_new (B := B) (pre := ax_L B (va_up g x1.toNatClampNeg (some (B + b))) ++ ext) (post := []) (b := b) (by rw [← hb0, List.length_append, List.length_append]; rfl)
    rw [List.append_nil, List.append_assoc] at h9
    exact h9
  refine lv_aload_n hx hb dX6_image_38 rfl (lv_at hl 0 rfl) ?_
  refine lv_aload_n hx hb dX6_image_39 rfl (lv_at hl 1 rfl) ?_
  refine ax_getV hx hb hts hown hK hR fl_X6_10 (lk_0 hL) rfl dX6_image_40 ?_
  refine ax_callV (rest := []) C hS hR (M_X2_copyFrom hD (dio_at1 hL) hcp) yk_X2_copyFrom in_X2_copyFrom se_X2_copyFrom ml_X6_151 (dio_0 hD) rfl rfl (by decide) rfl hl.1 (Nat.le_of_ble_eq_true rfl) rfl ⟨by omega, by omega⟩ dX6_image_43 (fun H locs hR hS => ?_)
  rw [Nat.sub_self, Nat.sub_self]
  show W p l e R s m args below meth c H locs 12 123 _ (F0 m _ ls [])
  refine lv_iconst (v := 1) hx hb dX6_image_46 (by decide) ?_
  exact W.zret hx hb hr rfl (fun t ht hW => ⟨rfl, by rw [ht]; exact hR, hS.F ht⟩) hS.2.2 dX6_image_47
end GEN
