section GEN
variable {p : Program} {l : Launch} {e : Env} {R : Room} {s : State} {m : MethodId} {args : Array Value} {below : List Frame} {meth : Method} {c : Code} {E : ax_E} {B mc ms : Nat}
def f_X7_store_53 (k1 : Nat) (n1 : Nat) (r2 : ax_I → Int32 → Option (ax_I)) (I : ax_I) (x2 : Int32) : Option ax_I :=
  r2 I (x2 + 1)
def f_X7_store_29 (k1 : Nat) (n1 : Nat) (r2 : ax_I → Int32 → Option (ax_I)) (I : ax_I) (x2 : Int32) : Option ax_I :=
  if ax_in x2 6 = true then if ax_in (12 + x2) n1 = true then if ax_in x2 6 = true then if ax_in (18 + x2) n1 = true then f_X7_store_53 k1 n1 r2 (ax_u (ax_u I k1 (12 + x2).toNatClampNeg (I 38 x2.toNatClampNeg)) k1 (18 + x2).toNatClampNeg ((ax_u I k1 (12 + x2).toNatClampNeg (I 38 x2.toNatClampNeg)) 39 x2.toNatClampNeg)) x2 else none else none else none else none
def f_X7_store_87 (k1 : Nat) (n1 : Nat) : Nat → ax_I → Int32 → Option ax_I
  | 0, _, _ => none
  | n + 1, I, x2 => if 4 ≤ x2 then (if ax_in 76 n1 = true then some (ax_u I k1 (76 : Int32).toNatClampNeg (I 35 1)) else none) else if ax_in x2 4 = true then if ax_in (72 + x2) n1 = true then f_X7_store_87 k1 n1 n (ax_u I k1 (72 + x2).toNatClampNeg (I 44 x2.toNatClampNeg)) (x2 + 1) else none else none
def f_X7_store_61 (k1 : Nat) (n1 : Nat) : Nat → ax_I → Int32 → Option ax_I
  | 0, _, _ => none
  | n + 1, I, x2 => if 48 ≤ x2 then f_X7_store_87 k1 n1 ax_N I 0 else if ax_in x2 48 = true then if ax_in (24 + x2) n1 = true then f_X7_store_61 k1 n1 n (ax_u I k1 (24 + x2).toNatClampNeg (I 40 x2.toNatClampNeg)) (x2 + 1) else none else none
def f_X7_store_2 (k1 : Nat) (n1 : Nat) : Nat → ax_I → Int32 → Option ax_I
  | 0, _, _ => none
  | n + 1, I, x2 => if 6 ≤ x2 then f_X7_store_61 k1 n1 ax_N I 0 else if ax_in x2 6 = true then if ax_in x2 n1 = true then if ax_in x2 6 = true then if ax_in (6 + x2) n1 = true then f_X7_store_29 k1 n1 (f_X7_store_2 k1 n1 n) (ax_u (ax_u I k1 x2.toNatClampNeg (I 36 x2.toNatClampNeg)) k1 (6 + x2).toNatClampNeg ((ax_u I k1 x2.toNatClampNeg (I 36 x2.toNatClampNeg)) 37 x2.toNatClampNeg)) x2 else none else none else none else none
def F_X7_store (I : ax_I) (k1 : Nat) (n1 : Nat) : Option ax_I :=
  f_X7_store_2 k1 n1 ax_N I 0
set_option maxRecDepth 100000 in
set_option maxHeartbeats 4000000 in
theorem t_X7_store_53 {lay : List ax_S} {k1 : Nat} {n1 : Nat} {J : ax_J} {I9 : ax_I} (hL : ax_LL B lay) (hPk1 : lay[k1]? = some (.inr (.inl (0, n1)))) (C : ax_C p R s m args meth c yX7_store cX7_store 3 none 2 E mc ms) {r2 : ax_I → Int32 → Option (ax_I)} (hr2 : ∀ (I : ax_I) (x2 : Int32), r2 I x2 = some I9 → AM p l e R s m args below meth c E B lay.length (ax_z lay) 3 none lay I9 J lay I J 2 [(0, .ref (B + 35)), (1, .ref (B + k1)), (2, .int x2)] []) : ∀ (I : ax_I) (x2 : Int32), f_X7_store_53 k1 n1 r2 I x2 = some I9 → AM p l e R s m args below meth c E B lay.length (ax_z lay) 3 none lay I9 J lay I J 53 [(0, .ref (B + 35)), (1, .ref (B + k1)), (2, .int x2)] [] := by
  obtain ⟨hx, hb, hr, hml, hown, hts, hlocks, hK, hfr, hlo, hmc, hms, hnm⟩ := id C
  have hown : s.vm.findClass RX7 = some m.cls := hown
  intro I x2 h H locs cells slots ls hc hz hR hS hl
  unfold f_X7_store_53 at h
  refine lv_iinc (v := (x2 + 1)) (lv' := [(2, .int (x2 + 1)), (0, .ref (B + 35)), (1, .ref (B + k1))]) hx hb dX7_store_53 hl (k := 2) rfl rfl (by decide) rfl (fun ls hl => ?_)
  refine lv_goto (tgt := 2) hx hb dX7_store_56 (by decide) ?_
  exact hr2 _ _ h H locs cells slots ls hc hz hR hS (lv_sub hl [1, 2, 0] rfl)
set_option maxRecDepth 100000 in
set_option maxHeartbeats 4000000 in
theorem t_X7_store_29 {lay : List ax_S} {k1 : Nat} {n1 : Nat} {J : ax_J} {I9 : ax_I} (hL : ax_LL B lay) (hPk1 : lay[k1]? = some (.inr (.inl (0, n1)))) (C : ax_C p R s m args meth c yX7_store cX7_store 3 none 2 E mc ms) {r2 : ax_I → Int32 → Option (ax_I)} (hr2 : ∀ (I : ax_I) (x2 : Int32), r2 I x2 = some I9 → AM p l e R s m args below meth c E B lay.length (ax_z lay) 3 none lay I9 J lay I J 2 [(0, .ref (B + 35)), (1, .ref (B + k1)), (2, .int x2)] []) : ∀ (I : ax_I) (x2 : Int32), f_X7_store_29 k1 n1 r2 I x2 = some I9 → AM p l e R s m args below meth c E B lay.length (ax_z lay) 3 none lay I9 J lay I J 29 [(0, .ref (B + 35)), (1, .ref (B + k1)), (2, .int x2)] [] := by
  obtain ⟨hx, hb, hr, hml, hown, hts, hlocks, hK, hfr, hlo, hmc, hms, hnm⟩ := id C
  have hown : s.vm.findClass RX7 = some m.cls := hown
  intro I x2 h H locs cells slots ls hc hz hR hS hl
  unfold f_X7_store_29 at h
  refine lv_aload_n hx hb dX7_store_29 rfl (lv_at hl 1 rfl) ?_
  refine lv_bipush (v := 12) hx hb dX7_store_30 (by decide) ?_
  refine lv_iload_n hx hb dX7_store_32 rfl (lv_at hl 2 rfl) ?_
  refine lv_iadd hx hb dX7_store_33 ?_
  refine lv_aload_n hx hb dX7_store_34 rfl (lv_at hl 0 rfl) ?_
  refine ax_getV hx hb hts hown hK hR fl_X7_16 (lk_35 hL) rfl dX7_store_35 ?_
  refine lv_iload_n hx hb dX7_store_38 rfl (lv_at hl 2 rfl) ?_
  obtain ⟨hq, h⟩ := ax_ck h
  refine ax_iald hx hb hK hR (lk_38 hL) hq dX7_store_39 ?_
  obtain ⟨hq, h⟩ := ax_ck h
  refine ax_iast hx hb hK hR hS hPk1 hq dX7_store_40 (fun H locs hR hS => ?_)
  refine lv_aload_n hx hb dX7_store_41 rfl (lv_at hl 1 rfl) ?_
  refine lv_bipush (v := 18) hx hb dX7_store_42 (by decide) ?_
  refine lv_iload_n hx hb dX7_store_44 rfl (lv_at hl 2 rfl) ?_
  refine lv_iadd hx hb dX7_store_45 ?_
  refine lv_aload_n hx hb dX7_store_46 rfl (lv_at hl 0 rfl) ?_
  refine ax_getV hx hb hts hown hK hR fl_X7_19 (lk_35 hL) rfl dX7_store_47 ?_
  refine lv_iload_n hx hb dX7_store_50 rfl (lv_at hl 2 rfl) ?_
  obtain ⟨hq, h⟩ := ax_ck h
  refine ax_iald hx hb hK hR (lk_39 hL) hq dX7_store_51 ?_
  obtain ⟨hq, h⟩ := ax_ck h
  refine ax_iast hx hb hK hR hS hPk1 hq dX7_store_52 (fun H locs hR hS => ?_)
  exact t_X7_store_53 hL hPk1 C hr2 _ _ h H locs cells slots ls hc hz hR hS (lv_sub hl [0, 1, 2] rfl)
set_option maxRecDepth 100000 in
set_option maxHeartbeats 4000000 in
theorem t_X7_store_87 {lay : List ax_S} {k1 : Nat} {n1 : Nat} {J : ax_J} {I9 : ax_I} (hL : ax_LL B lay) (hPk1 : lay[k1]? = some (.inr (.inl (0, n1)))) (C : ax_C p R s m args meth c yX7_store cX7_store 3 none 2 E mc ms) : ∀ (n : Nat) (I : ax_I) (x2 : Int32), f_X7_store_87 k1 n1 n I x2 = some I9 → AM p l e R s m args below meth c E B lay.length (ax_z lay) 3 none lay I9 J lay I J 87 [(0, .ref (B + 35)), (1, .ref (B + k1)), (2, .int x2)] [] := by
  obtain ⟨hx, hb, hr, hml, hown, hts, hlocks, hK, hfr, hlo, hmc, hms, hnm⟩ := id C
  have hown : s.vm.findClass RX7 = some m.cls := hown
  intro n
  induction n with
  | zero => intro I x2 h; cases h
  | succ n ih =>
    intro I x2 h H locs cells slots ls hc hz hR hS hl
    rw [f_X7_store_87] at h
    refine lv_iload_n hx hb dX7_store_87 rfl (lv_at hl 2 rfl) ?_
    refine lv_iconst (v := 4) hx hb dX7_store_88 (by decide) ?_
    refine lv_icmp_ge (tgt := 110) hx hb dX7_store_89 (by decide) (fun q => ?_) (fun q => ?_)
    · have h := ax_ip q h
      refine lv_aload_n hx hb dX7_store_110 rfl (lv_at hl 1 rfl) ?_
      refine lv_bipush (v := 76) hx hb dX7_store_111 (by decide) ?_
      refine lv_aload_n hx hb dX7_store_113 rfl (lv_at hl 0 rfl) ?_
      refine ax_getI hx hb hts hown hK hR fl_X7_173 (lk_35 hL) rfl dX7_store_114 ?_
      obtain ⟨hq, h⟩ := ax_ck h
      refine ax_iast hx hb hK hR hS hPk1 hq dX7_store_117 (fun H locs hR hS => ?_)
      cases h
      exact ax_vret C hc hz hR hS dX7_store_118
    · have h := ax_iN q h
      refine lv_aload_n hx hb dX7_store_92 rfl (lv_at hl 1 rfl) ?_
      refine lv_bipush (v := 72) hx hb dX7_store_93 (by decide) ?_
      refine lv_iload_n hx hb dX7_store_95 rfl (lv_at hl 2 rfl) ?_
      refine lv_iadd hx hb dX7_store_96 ?_
      refine lv_aload_n hx hb dX7_store_97 rfl (lv_at hl 0 rfl) ?_
      refine ax_getV hx hb hts hown hK hR fl_X7_34 (lk_35 hL) rfl dX7_store_98 ?_
      refine lv_iload_n hx hb dX7_store_101 rfl (lv_at hl 2 rfl) ?_
      obtain ⟨hq, h⟩ := ax_ck h
      refine ax_iald hx hb hK hR (lk_44 hL) hq dX7_store_102 ?_
      obtain ⟨hq, h⟩ := ax_ck h
      refine ax_iast hx hb hK hR hS hPk1 hq dX7_store_103 (fun H locs hR hS => ?_)
      refine lv_iinc (v := (x2 + 1)) (lv' := [(2, .int (x2 + 1)), (0, .ref (B + 35)), (1, .ref (B + k1))]) hx hb dX7_store_104 hl (k := 2) rfl rfl (by decide) rfl (fun ls hl => ?_)
      refine lv_goto (tgt := 87) hx hb dX7_store_107 (by decide) ?_
      exact ih _ _ h H locs cells slots ls hc hz hR hS (lv_sub hl [1, 2, 0] rfl)
set_option maxRecDepth 100000 in
set_option maxHeartbeats 4000000 in
theorem t_X7_store_61 {lay : List ax_S} {k1 : Nat} {n1 : Nat} {J : ax_J} {I9 : ax_I} (hL : ax_LL B lay) (hPk1 : lay[k1]? = some (.inr (.inl (0, n1)))) (C : ax_C p R s m args meth c yX7_store cX7_store 3 none 2 E mc ms) : ∀ (n : Nat) (I : ax_I) (x2 : Int32), f_X7_store_61 k1 n1 n I x2 = some I9 → AM p l e R s m args below meth c E B lay.length (ax_z lay) 3 none lay I9 J lay I J 61 [(0, .ref (B + 35)), (1, .ref (B + k1)), (2, .int x2)] [] := by
  obtain ⟨hx, hb, hr, hml, hown, hts, hlocks, hK, hfr, hlo, hmc, hms, hnm⟩ := id C
  have hown : s.vm.findClass RX7 = some m.cls := hown
  intro n
  induction n with
  | zero => intro I x2 h; cases h
  | succ n ih =>
    intro I x2 h H locs cells slots ls hc hz hR hS hl
    rw [f_X7_store_61] at h
    refine lv_iload_n hx hb dX7_store_61 rfl (lv_at hl 2 rfl) ?_
    refine lv_bipush (v := 48) hx hb dX7_store_62 (by decide) ?_
    refine lv_icmp_ge (tgt := 85) hx hb dX7_store_64 (by decide) (fun q => ?_) (fun q => ?_)
    · have h := ax_ip q h
      refine lv_iconst (v := 0) hx hb dX7_store_85 (by decide) ?_
      refine lv_istore_n (lv' := [(2, .int 0), (0, .ref (B + 35)), (1, .ref (B + k1))]) hx hb dX7_store_86 rfl hl (by decide) rfl (fun ls hl => ?_)
      exact t_X7_store_87 hL hPk1 C  ax_N _ _ h H locs cells slots ls hc hz hR hS (lv_sub hl [1, 2, 0] rfl)
    · have h := ax_iN q h
      refine lv_aload_n hx hb dX7_store_67 rfl (lv_at hl 1 rfl) ?_
      refine lv_bipush (v := 24) hx hb dX7_store_68 (by decide) ?_
      refine lv_iload_n hx hb dX7_store_70 rfl (lv_at hl 2 rfl) ?_
      refine lv_iadd hx hb dX7_store_71 ?_
      refine lv_aload_n hx hb dX7_store_72 rfl (lv_at hl 0 rfl) ?_
      refine ax_getV hx hb hts hown hK hR fl_X7_22 (lk_35 hL) rfl dX7_store_73 ?_
      refine lv_iload_n hx hb dX7_store_76 rfl (lv_at hl 2 rfl) ?_
      obtain ⟨hq, h⟩ := ax_ck h
      refine ax_iald hx hb hK hR (lk_40 hL) hq dX7_store_77 ?_
      obtain ⟨hq, h⟩ := ax_ck h
      refine ax_iast hx hb hK hR hS hPk1 hq dX7_store_78 (fun H locs hR hS => ?_)
      refine lv_iinc (v := (x2 + 1)) (lv' := [(2, .int (x2 + 1)), (0, .ref (B + 35)), (1, .ref (B + k1))]) hx hb dX7_store_79 hl (k := 2) rfl rfl (by decide) rfl (fun ls hl => ?_)
      refine lv_goto (tgt := 61) hx hb dX7_store_82 (by decide) ?_
      exact ih _ _ h H locs cells slots ls hc hz hR hS (lv_sub hl [1, 2, 0] rfl)
set_option maxRecDepth 100000 in
set_option maxHeartbeats 4000000 in
theorem t_X7_store_2 {lay : List ax_S} {k1 : Nat} {n1 : Nat} {J : ax_J} {I9 : ax_I} (hL : ax_LL B lay) (hPk1 : lay[k1]? = some (.inr (.inl (0, n1)))) (C : ax_C p R s m args meth c yX7_store cX7_store 3 none 2 E mc ms) : ∀ (n : Nat) (I : ax_I) (x2 : Int32), f_X7_store_2 k1 n1 n I x2 = some I9 → AM p l e R s m args below meth c E B lay.length (ax_z lay) 3 none lay I9 J lay I J 2 [(0, .ref (B + 35)), (1, .ref (B + k1)), (2, .int x2)] [] := by
  obtain ⟨hx, hb, hr, hml, hown, hts, hlocks, hK, hfr, hlo, hmc, hms, hnm⟩ := id C
  have hown : s.vm.findClass RX7 = some m.cls := hown
  intro n
  induction n with
  | zero => intro I x2 h; cases h
  | succ n ih =>
    intro I x2 h H locs cells slots ls hc hz hR hS hl
    rw [f_X7_store_2] at h
    refine lv_iload_n hx hb dX7_store_2 rfl (lv_at hl 2 rfl) ?_
    refine lv_bipush (v := 6) hx hb dX7_store_3 (by decide) ?_
    refine lv_icmp_ge (tgt := 59) hx hb dX7_store_5 (by decide) (fun q => ?_) (fun q => ?_)
    · have h := ax_ip q h
      refine lv_iconst (v := 0) hx hb dX7_store_59 (by decide) ?_
      refine lv_istore_n (lv' := [(2, .int 0), (0, .ref (B + 35)), (1, .ref (B + k1))]) hx hb dX7_store_60 rfl hl (by decide) rfl (fun ls hl => ?_)
      exact t_X7_store_61 hL hPk1 C  ax_N _ _ h H locs cells slots ls hc hz hR hS (lv_sub hl [1, 2, 0] rfl)
    · have h := ax_iN q h
      refine lv_aload_n hx hb dX7_store_8 rfl (lv_at hl 1 rfl) ?_
      refine lv_iload_n hx hb dX7_store_9 rfl (lv_at hl 2 rfl) ?_
      refine lv_aload_n hx hb dX7_store_10 rfl (lv_at hl 0 rfl) ?_
      refine ax_getV hx hb hts hown hK hR fl_X7_7 (lk_35 hL) rfl dX7_store_11 ?_
      refine lv_iload_n hx hb dX7_store_14 rfl (lv_at hl 2 rfl) ?_
      obtain ⟨hq, h⟩ := ax_ck h
      refine ax_iald hx hb hK hR (lk_36 hL) hq dX7_store_15 ?_
      obtain ⟨hq, h⟩ := ax_ck h
      refine ax_iast hx hb hK hR hS hPk1 hq dX7_store_16 (fun H locs hR hS => ?_)
      refine lv_aload_n hx hb dX7_store_17 rfl (lv_at hl 1 rfl) ?_
      refine lv_bipush (v := 6) hx hb dX7_store_18 (by decide) ?_
      refine lv_iload_n hx hb dX7_store_20 rfl (lv_at hl 2 rfl) ?_
      refine lv_iadd hx hb dX7_store_21 ?_
      refine lv_aload_n hx hb dX7_store_22 rfl (lv_at hl 0 rfl) ?_
      refine ax_getV hx hb hts hown hK hR fl_X7_13 (lk_35 hL) rfl dX7_store_23 ?_
      refine lv_iload_n hx hb dX7_store_26 rfl (lv_at hl 2 rfl) ?_
      obtain ⟨hq, h⟩ := ax_ck h
      refine ax_iald hx hb hK hR (lk_37 hL) hq dX7_store_27 ?_
      obtain ⟨hq, h⟩ := ax_ck h
      refine ax_iast hx hb hK hR hS hPk1 hq dX7_store_28 (fun H locs hR hS => ?_)
      exact t_X7_store_29 hL hPk1 C ih _ _ h H locs cells slots ls hc hz hR hS (lv_sub hl [0, 1, 2] rfl)
set_option maxRecDepth 100000 in
set_option maxHeartbeats 4000000 in
theorem t_X7_store_0 {lay : List ax_S} {k1 : Nat} {n1 : Nat} {J : ax_J} {I9 : ax_I} (hL : ax_LL B lay) (hPk1 : lay[k1]? = some (.inr (.inl (0, n1)))) (C : ax_C p R s m args meth c yX7_store cX7_store 3 none 2 E mc ms) : ∀ (I : ax_I), F_X7_store I k1 n1 = some I9 → AM p l e R s m args below meth c E B lay.length (ax_z lay) 3 none lay I9 J lay I J 0 [(0, .ref (B + 35)), (1, .ref (B + k1))] [] := by
  obtain ⟨hx, hb, hr, hml, hown, hts, hlocks, hK, hfr, hlo, hmc, hms, hnm⟩ := id C
  have hown : s.vm.findClass RX7 = some m.cls := hown
  intro I h H locs cells slots ls hc hz hR hS hl
  unfold F_X7_store at h
  refine lv_iconst (v := 0) hx hb dX7_store_0 (by decide) ?_
  refine lv_istore_n (lv' := [(2, .int 0), (0, .ref (B + 35)), (1, .ref (B + k1))]) hx hb dX7_store_1 rfl hl (by decide) rfl (fun ls hl => ?_)
  exact t_X7_store_2 hL hPk1 C  ax_N _ _ h H locs cells slots ls hc hz hR hS (lv_sub hl [1, 2, 0] rfl)
theorem M_X7_store {l : Launch} {E : ax_E} {B : Nat} {lay : List ax_S} {I : ax_I} {J : ax_J} {k1 : Nat} {n1 : Nat} {I9 : ax_I} (hL : ax_LL B lay) (hPk1 : lay[k1]? = some (.inr (.inl (0, n1)))) (h : F_X7_store I k1 n1 = some I9) : Cm l yX7_store cX7_store 3 none 2 E B [.ref (B + 35), .ref (B + k1)] lay I J none lay I9 J :=
  ax_met (by decide) (Nat.le_of_ble_eq_true rfl) (fun p e R s m args below meth c C => t_X7_store_0 hL hPk1 C _ h)
def f_X7_lay_53 (k1 : Nat) (n1 : Nat) (r2 : ax_I → Int32 → Option (ax_I)) (I : ax_I) (x2 : Int32) : Option ax_I :=
  r2 I (x2 + 1)
def f_X7_lay_29 (k1 : Nat) (n1 : Nat) (r2 : ax_I → Int32 → Option (ax_I)) (I : ax_I) (x2 : Int32) : Option ax_I :=
  if ax_in (12 + x2) n1 = true then if ax_in x2 6 = true then if ax_in (18 + x2) n1 = true then if ax_in x2 6 = true then f_X7_lay_53 k1 n1 r2 (ax_u (ax_u I 38 x2.toNatClampNeg (I k1 (12 + x2).toNatClampNeg)) 39 x2.toNatClampNeg ((ax_u I 38 x2.toNatClampNeg (I k1 (12 + x2).toNatClampNeg)) k1 (18 + x2).toNatClampNeg)) x2 else none else none else none else none
def f_X7_lay_87 (k1 : Nat) (n1 : Nat) : Nat → ax_I → Int32 → Option ax_I
  | 0, _, _ => none
  | n + 1, I, x2 => if 4 ≤ x2 then (if ax_in 76 n1 = true then some (ax_u I 35 1 (I k1 (76 : Int32).toNatClampNeg)) else none) else if ax_in (72 + x2) n1 = true then if ax_in x2 4 = true then f_X7_lay_87 k1 n1 n (ax_u I 44 x2.toNatClampNeg (I k1 (72 + x2).toNatClampNeg)) (x2 + 1) else none else none
def f_X7_lay_61 (k1 : Nat) (n1 : Nat) : Nat → ax_I → Int32 → Option ax_I
  | 0, _, _ => none
  | n + 1, I, x2 => if 48 ≤ x2 then f_X7_lay_87 k1 n1 ax_N I 0 else if ax_in (24 + x2) n1 = true then if ax_in x2 48 = true then f_X7_lay_61 k1 n1 n (ax_u I 40 x2.toNatClampNeg (I k1 (24 + x2).toNatClampNeg)) (x2 + 1) else none else none
def f_X7_lay_2 (k1 : Nat) (n1 : Nat) : Nat → ax_I → Int32 → Option ax_I
  | 0, _, _ => none
  | n + 1, I, x2 => if 6 ≤ x2 then f_X7_lay_61 k1 n1 ax_N I 0 else if ax_in x2 n1 = true then if ax_in x2 6 = true then if ax_in (6 + x2) n1 = true then if ax_in x2 6 = true then f_X7_lay_29 k1 n1 (f_X7_lay_2 k1 n1 n) (ax_u (ax_u I 36 x2.toNatClampNeg (I k1 x2.toNatClampNeg)) 37 x2.toNatClampNeg ((ax_u I 36 x2.toNatClampNeg (I k1 x2.toNatClampNeg)) k1 (6 + x2).toNatClampNeg)) x2 else none else none else none else none
def F_X7_lay (I : ax_I) (k1 : Nat) (n1 : Nat) : Option ax_I :=
  f_X7_lay_2 k1 n1 ax_N I 0
set_option maxRecDepth 100000 in
set_option maxHeartbeats 4000000 in
theorem t_X7_lay_53 {lay : List ax_S} {k1 : Nat} {n1 : Nat} {J : ax_J} {I9 : ax_I} (hL : ax_LL B lay) (hPk1 : lay[k1]? = some (.inr (.inl (0, n1)))) (C : ax_C p R s m args meth c yX7_lay cX7_lay 3 none 2 E mc ms) {r2 : ax_I → Int32 → Option (ax_I)} (hr2 : ∀ (I : ax_I) (x2 : Int32), r2 I x2 = some I9 → AM p l e R s m args below meth c E B lay.length (ax_z lay) 3 none lay I9 J lay I J 2 [(0, .ref (B + 35)), (1, .ref (B + k1)), (2, .int x2)] []) : ∀ (I : ax_I) (x2 : Int32), f_X7_lay_53 k1 n1 r2 I x2 = some I9 → AM p l e R s m args below meth c E B lay.length (ax_z lay) 3 none lay I9 J lay I J 53 [(0, .ref (B + 35)), (1, .ref (B + k1)), (2, .int x2)] [] := by
  obtain ⟨hx, hb, hr, hml, hown, hts, hlocks, hK, hfr, hlo, hmc, hms, hnm⟩ := id C
  have hown : s.vm.findClass RX7 = some m.cls := hown
  intro I x2 h H locs cells slots ls hc hz hR hS hl
  unfold f_X7_lay_53 at h
  refine lv_iinc (v := (x2 + 1)) (lv' := [(2, .int (x2 + 1)), (0, .ref (B + 35)), (1, .ref (B + k1))]) hx hb dX7_lay_53 hl (k := 2) rfl rfl (by decide) rfl (fun ls hl => ?_)
  refine lv_goto (tgt := 2) hx hb dX7_lay_56 (by decide) ?_
  exact hr2 _ _ h H locs cells slots ls hc hz hR hS (lv_sub hl [1, 2, 0] rfl)
set_option maxRecDepth 100000 in
set_option maxHeartbeats 4000000 in
theorem t_X7_lay_29 {lay : List ax_S} {k1 : Nat} {n1 : Nat} {J : ax_J} {I9 : ax_I} (hL : ax_LL B lay) (hPk1 : lay[k1]? = some (.inr (.inl (0, n1)))) (C : ax_C p R s m args meth c yX7_lay cX7_lay 3 none 2 E mc ms) {r2 : ax_I → Int32 → Option (ax_I)} (hr2 : ∀ (I : ax_I) (x2 : Int32), r2 I x2 = some I9 → AM p l e R s m args below meth c E B lay.length (ax_z lay) 3 none lay I9 J lay I J 2 [(0, .ref (B + 35)), (1, .ref (B + k1)), (2, .int x2)] []) : ∀ (I : ax_I) (x2 : Int32), f_X7_lay_29 k1 n1 r2 I x2 = some I9 → AM p l e R s m args below meth c E B lay.length (ax_z lay) 3 none lay I9 J lay I J 29 [(0, .ref (B + 35)), (1, .ref (B + k1)), (2, .int x2)] [] := by
  obtain ⟨hx, hb, hr, hml, hown, hts, hlocks, hK, hfr, hlo, hmc, hms, hnm⟩ := id C
  have hown : s.vm.findClass RX7 = some m.cls := hown
  intro I x2 h H locs cells slots ls hc hz hR hS hl
  unfold f_X7_lay_29 at h
  refine lv_aload_n hx hb dX7_lay_29 rfl (lv_at hl 0 rfl) ?_
  refine ax_getV hx hb hts hown hK hR fl_X7_16 (lk_35 hL) rfl dX7_lay_30 ?_
  refine lv_iload_n hx hb dX7_lay_33 rfl (lv_at hl 2 rfl) ?_
  refine lv_aload_n hx hb dX7_lay_34 rfl (lv_at hl 1 rfl) ?_
  refine lv_bipush (v := 12) hx hb dX7_lay_35 (by decide) ?_
  refine lv_iload_n hx hb dX7_lay_37 rfl (lv_at hl 2 rfl) ?_
  refine lv_iadd hx hb dX7_lay_38 ?_
  obtain ⟨hq, h⟩ := ax_ck h
  refine ax_iald hx hb hK hR hPk1 hq dX7_lay_39 ?_
  obtain ⟨hq, h⟩ := ax_ck h
  refine ax_iast hx hb hK hR hS (lk_38 hL) hq dX7_lay_40 (fun H locs hR hS => ?_)
  refine lv_aload_n hx hb dX7_lay_41 rfl (lv_at hl 0 rfl) ?_
  refine ax_getV hx hb hts hown hK hR fl_X7_19 (lk_35 hL) rfl dX7_lay_42 ?_
  refine lv_iload_n hx hb dX7_lay_45 rfl (lv_at hl 2 rfl) ?_
  refine lv_aload_n hx hb dX7_lay_46 rfl (lv_at hl 1 rfl) ?_
  refine lv_bipush (v := 18) hx hb dX7_lay_47 (by decide) ?_
  refine lv_iload_n hx hb dX7_lay_49 rfl (lv_at hl 2 rfl) ?_
  refine lv_iadd hx hb dX7_lay_50 ?_
  obtain ⟨hq, h⟩ := ax_ck h
  refine ax_iald hx hb hK hR hPk1 hq dX7_lay_51 ?_
  obtain ⟨hq, h⟩ := ax_ck h
  refine ax_iast hx hb hK hR hS (lk_39 hL) hq dX7_lay_52 (fun H locs hR hS => ?_)
  exact t_X7_lay_53 hL hPk1 C hr2 _ _ h H locs cells slots ls hc hz hR hS (lv_sub hl [0, 1, 2] rfl)
set_option maxRecDepth 100000 in
set_option maxHeartbeats 4000000 in
theorem t_X7_lay_87 {lay : List ax_S} {k1 : Nat} {n1 : Nat} {J : ax_J} {I9 : ax_I} (hL : ax_LL B lay) (hPk1 : lay[k1]? = some (.inr (.inl (0, n1)))) (C : ax_C p R s m args meth c yX7_lay cX7_lay 3 none 2 E mc ms) : ∀ (n : Nat) (I : ax_I) (x2 : Int32), f_X7_lay_87 k1 n1 n I x2 = some I9 → AM p l e R s m args below meth c E B lay.length (ax_z lay) 3 none lay I9 J lay I J 87 [(0, .ref (B + 35)), (1, .ref (B + k1)), (2, .int x2)] [] := by
  obtain ⟨hx, hb, hr, hml, hown, hts, hlocks, hK, hfr, hlo, hmc, hms, hnm⟩ := id C
  have hown : s.vm.findClass RX7 = some m.cls := hown
  intro n
  induction n with
  | zero => intro I x2 h; cases h
  | succ n ih =>
    intro I x2 h H locs cells slots ls hc hz hR hS hl
    rw [f_X7_lay_87] at h
    refine lv_iload_n hx hb dX7_lay_87 rfl (lv_at hl 2 rfl) ?_
    refine lv_iconst (v := 4) hx hb dX7_lay_88 (by decide) ?_
    refine lv_icmp_ge (tgt := 110) hx hb dX7_lay_89 (by decide) (fun q => ?_) (fun q => ?_)
    · have h := ax_ip q h
      refine lv_aload_n hx hb dX7_lay_110 rfl (lv_at hl 0 rfl) ?_
      refine lv_aload_n hx hb dX7_lay_111 rfl (lv_at hl 1 rfl) ?_
      refine lv_bipush (v := 76) hx hb dX7_lay_112 (by decide) ?_
      obtain ⟨hq, h⟩ := ax_ck h
      refine ax_iald hx hb hK hR hPk1 hq dX7_lay_114 ?_
      refine ax_putI hx hb hts hown hK hR hS fp_X7_173 (lk_35 hL) rfl rfl rfl dX7_lay_115 (fun H locs hR hS => ?_)
      cases h
      exact ax_vret C hc hz hR hS dX7_lay_118
    · have h := ax_iN q h
      refine lv_aload_n hx hb dX7_lay_92 rfl (lv_at hl 0 rfl) ?_
      refine ax_getV hx hb hts hown hK hR fl_X7_34 (lk_35 hL) rfl dX7_lay_93 ?_
      refine lv_iload_n hx hb dX7_lay_96 rfl (lv_at hl 2 rfl) ?_
      refine lv_aload_n hx hb dX7_lay_97 rfl (lv_at hl 1 rfl) ?_
      refine lv_bipush (v := 72) hx hb dX7_lay_98 (by decide) ?_
      refine lv_iload_n hx hb dX7_lay_100 rfl (lv_at hl 2 rfl) ?_
      refine lv_iadd hx hb dX7_lay_101 ?_
      obtain ⟨hq, h⟩ := ax_ck h
      refine ax_iald hx hb hK hR hPk1 hq dX7_lay_102 ?_
      obtain ⟨hq, h⟩ := ax_ck h
      refine ax_iast hx hb hK hR hS (lk_44 hL) hq dX7_lay_103 (fun H locs hR hS => ?_)
      refine lv_iinc (v := (x2 + 1)) (lv' := [(2, .int (x2 + 1)), (0, .ref (B + 35)), (1, .ref (B + k1))]) hx hb dX7_lay_104 hl (k := 2) rfl rfl (by decide) rfl (fun ls hl => ?_)
      refine lv_goto (tgt := 87) hx hb dX7_lay_107 (by decide) ?_
      exact ih _ _ h H locs cells slots ls hc hz hR hS (lv_sub hl [1, 2, 0] rfl)
set_option maxRecDepth 100000 in
set_option maxHeartbeats 4000000 in
theorem t_X7_lay_61 {lay : List ax_S} {k1 : Nat} {n1 : Nat} {J : ax_J} {I9 : ax_I} (hL : ax_LL B lay) (hPk1 : lay[k1]? = some (.inr (.inl (0, n1)))) (C : ax_C p R s m args meth c yX7_lay cX7_lay 3 none 2 E mc ms) : ∀ (n : Nat) (I : ax_I) (x2 : Int32), f_X7_lay_61 k1 n1 n I x2 = some I9 → AM p l e R s m args below meth c E B lay.length (ax_z lay) 3 none lay I9 J lay I J 61 [(0, .ref (B + 35)), (1, .ref (B + k1)), (2, .int x2)] [] := by
  obtain ⟨hx, hb, hr, hml, hown, hts, hlocks, hK, hfr, hlo, hmc, hms, hnm⟩ := id C
  have hown : s.vm.findClass RX7 = some m.cls := hown
  intro n
  induction n with
  | zero => intro I x2 h; cases h
  | succ n ih =>
    intro I x2 h H locs cells slots ls hc hz hR hS hl
    rw [f_X7_lay_61] at h
    refine lv_iload_n hx hb dX7_lay_61 rfl (lv_at hl 2 rfl) ?_
    refine lv_bipush (v := 48) hx hb dX7_lay_62 (by decide) ?_
    refine lv_icmp_ge (tgt := 85) hx hb dX7_lay_64 (by decide) (fun q => ?_) (fun q => ?_)
    · have h := ax_ip q h
      refine lv_iconst (v := 0) hx hb dX7_lay_85 (by decide) ?_
      refine lv_istore_n (lv' := [(2, .int 0), (0, .ref (B + 35)), (1, .ref (B + k1))]) hx hb dX7_lay_86 rfl hl (by decide) rfl (fun ls hl => ?_)
      exact t_X7_lay_87 hL hPk1 C  ax_N _ _ h H locs cells slots ls hc hz hR hS (lv_sub hl [1, 2, 0] rfl)
    · have h := ax_iN q h
      refine lv_aload_n hx hb dX7_lay_67 rfl (lv_at hl 0 rfl) ?_
      refine ax_getV hx hb hts hown hK hR fl_X7_22 (lk_35 hL) rfl dX7_lay_68 ?_
      refine lv_iload_n hx hb dX7_lay_71 rfl (lv_at hl 2 rfl) ?_
      refine lv_aload_n hx hb dX7_lay_72 rfl (lv_at hl 1 rfl) ?_
      refine lv_bipush (v := 24) hx hb dX7_lay_73 (by decide) ?_
      refine lv_iload_n hx hb dX7_lay_75 rfl (lv_at hl 2 rfl) ?_
      refine lv_iadd hx hb dX7_lay_76 ?_
      obtain ⟨hq, h⟩ := ax_ck h
      refine ax_iald hx hb hK hR hPk1 hq dX7_lay_77 ?_
      obtain ⟨hq, h⟩ := ax_ck h
      refine ax_iast hx hb hK hR hS (lk_40 hL) hq dX7_lay_78 (fun H locs hR hS => ?_)
      refine lv_iinc (v := (x2 + 1)) (lv' := [(2, .int (x2 + 1)), (0, .ref (B + 35)), (1, .ref (B + k1))]) hx hb dX7_lay_79 hl (k := 2) rfl rfl (by decide) rfl (fun ls hl => ?_)
      refine lv_goto (tgt := 61) hx hb dX7_lay_82 (by decide) ?_
      exact ih _ _ h H locs cells slots ls hc hz hR hS (lv_sub hl [1, 2, 0] rfl)
set_option maxRecDepth 100000 in
set_option maxHeartbeats 4000000 in
theorem t_X7_lay_2 {lay : List ax_S} {k1 : Nat} {n1 : Nat} {J : ax_J} {I9 : ax_I} (hL : ax_LL B lay) (hPk1 : lay[k1]? = some (.inr (.inl (0, n1)))) (C : ax_C p R s m args meth c yX7_lay cX7_lay 3 none 2 E mc ms) : ∀ (n : Nat) (I : ax_I) (x2 : Int32), f_X7_lay_2 k1 n1 n I x2 = some I9 → AM p l e R s m args below meth c E B lay.length (ax_z lay) 3 none lay I9 J lay I J 2 [(0, .ref (B + 35)), (1, .ref (B + k1)), (2, .int x2)] [] := by
  obtain ⟨hx, hb, hr, hml, hown, hts, hlocks, hK, hfr, hlo, hmc, hms, hnm⟩ := id C
  have hown : s.vm.findClass RX7 = some m.cls := hown
  intro n
  induction n with
  | zero => intro I x2 h; cases h
  | succ n ih =>
    intro I x2 h H locs cells slots ls hc hz hR hS hl
    rw [f_X7_lay_2] at h
    refine lv_iload_n hx hb dX7_lay_2 rfl (lv_at hl 2 rfl) ?_
    refine lv_bipush (v := 6) hx hb dX7_lay_3 (by decide) ?_
    refine lv_icmp_ge (tgt := 59) hx hb dX7_lay_5 (by decide) (fun q => ?_) (fun q => ?_)
    · have h := ax_ip q h
      refine lv_iconst (v := 0) hx hb dX7_lay_59 (by decide) ?_
      refine lv_istore_n (lv' := [(2, .int 0), (0, .ref (B + 35)), (1, .ref (B + k1))]) hx hb dX7_lay_60 rfl hl (by decide) rfl (fun ls hl => ?_)
      exact t_X7_lay_61 hL hPk1 C  ax_N _ _ h H locs cells slots ls hc hz hR hS (lv_sub hl [1, 2, 0] rfl)
    · have h := ax_iN q h
      refine lv_aload_n hx hb dX7_lay_8 rfl (lv_at hl 0 rfl) ?_
      refine ax_getV hx hb hts hown hK hR fl_X7_7 (lk_35 hL) rfl dX7_lay_9 ?_
      refine lv_iload_n hx hb dX7_lay_12 rfl (lv_at hl 2 rfl) ?_
      refine lv_aload_n hx hb dX7_lay_13 rfl (lv_at hl 1 rfl) ?_
      refine lv_iload_n hx hb dX7_lay_14 rfl (lv_at hl 2 rfl) ?_
      obtain ⟨hq, h⟩ := ax_ck h
      refine ax_iald hx hb hK hR hPk1 hq dX7_lay_15 ?_
      obtain ⟨hq, h⟩ := ax_ck h
      refine ax_iast hx hb hK hR hS (lk_36 hL) hq dX7_lay_16 (fun H locs hR hS => ?_)
      refine lv_aload_n hx hb dX7_lay_17 rfl (lv_at hl 0 rfl) ?_
      refine ax_getV hx hb hts hown hK hR fl_X7_13 (lk_35 hL) rfl dX7_lay_18 ?_
      refine lv_iload_n hx hb dX7_lay_21 rfl (lv_at hl 2 rfl) ?_
      refine lv_aload_n hx hb dX7_lay_22 rfl (lv_at hl 1 rfl) ?_
      refine lv_bipush (v := 6) hx hb dX7_lay_23 (by decide) ?_
      refine lv_iload_n hx hb dX7_lay_25 rfl (lv_at hl 2 rfl) ?_
      refine lv_iadd hx hb dX7_lay_26 ?_
      obtain ⟨hq, h⟩ := ax_ck h
      refine ax_iald hx hb hK hR hPk1 hq dX7_lay_27 ?_
      obtain ⟨hq, h⟩ := ax_ck h
      refine ax_iast hx hb hK hR hS (lk_37 hL) hq dX7_lay_28 (fun H locs hR hS => ?_)
      exact t_X7_lay_29 hL hPk1 C ih _ _ h H locs cells slots ls hc hz hR hS (lv_sub hl [0, 1, 2] rfl)
set_option maxRecDepth 100000 in
set_option maxHeartbeats 4000000 in
theorem t_X7_lay_0 {lay : List ax_S} {k1 : Nat} {n1 : Nat} {J : ax_J} {I9 : ax_I} (hL : ax_LL B lay) (hPk1 : lay[k1]? = some (.inr (.inl (0, n1)))) (C : ax_C p R s m args meth c yX7_lay cX7_lay 3 none 2 E mc ms) : ∀ (I : ax_I), F_X7_lay I k1 n1 = some I9 → AM p l e R s m args below meth c E B lay.length (ax_z lay) 3 none lay I9 J lay I J 0 [(0, .ref (B + 35)), (1, .ref (B + k1))] [] := by
  obtain ⟨hx, hb, hr, hml, hown, hts, hlocks, hK, hfr, hlo, hmc, hms, hnm⟩ := id C
  have hown : s.vm.findClass RX7 = some m.cls := hown
  intro I h H locs cells slots ls hc hz hR hS hl
  unfold F_X7_lay at h
  refine lv_iconst (v := 0) hx hb dX7_lay_0 (by decide) ?_
  refine lv_istore_n (lv' := [(2, .int 0), (0, .ref (B + 35)), (1, .ref (B + k1))]) hx hb dX7_lay_1 rfl hl (by decide) rfl (fun ls hl => ?_)
  exact t_X7_lay_2 hL hPk1 C  ax_N _ _ h H locs cells slots ls hc hz hR hS (lv_sub hl [1, 2, 0] rfl)
theorem M_X7_lay {l : Launch} {E : ax_E} {B : Nat} {lay : List ax_S} {I : ax_I} {J : ax_J} {k1 : Nat} {n1 : Nat} {I9 : ax_I} (hL : ax_LL B lay) (hPk1 : lay[k1]? = some (.inr (.inl (0, n1)))) (h : F_X7_lay I k1 n1 = some I9) : Cm l yX7_lay cX7_lay 3 none 2 E B [.ref (B + 35), .ref (B + k1)] lay I J none lay I9 J :=
  ax_met (by decide) (Nat.le_of_ble_eq_true rfl) (fun p e R s m args below meth c C => t_X7_lay_0 hL hPk1 C _ h)
def f_X7_goYears_139 (r30 : ax_I → Int32 → Option (ax_I)) (I : ax_I) (x1 : Int32) : Option ax_I :=
  r30 I (x1 + 1)
def f_X7_goYears_104 (r30 : ax_I → Int32 → Option (ax_I)) (I : ax_I) (x1 : Int32) (x2 : Int32) (s0 : Int32) : Option ax_I :=
  if x2 = 0 then (if ax_in x1 60 = true then if ax_in x1 60 = true then if ax_in x1 60 = true then if ax_in x1 60 = true then (F_X7_happen (ax_u I 35 31 s0) ((ax_u I 35 31 s0) 51 x1.toNatClampNeg) ((ax_u I 35 31 s0) 52 x1.toNatClampNeg) ((ax_u I 35 31 s0) 53 x1.toNatClampNeg) ((ax_u I 35 31 s0) 54 x1.toNatClampNeg)).bind (fun q136 => f_X7_goYears_139 r30 q136 x1) else none else none else none else none) else f_X7_goYears_139 r30 (ax_u I 35 31 s0) x1
def f_X7_goYears_90 (r30 : ax_I → Int32 → Option (ax_I)) (I : ax_I) (x1 : Int32) (x2 : Int32) (s0 : Int32) : Option ax_I :=
  if x2 ≤ 0 then f_X7_goYears_104 r30 (ax_u I 35 30 s0) x1 x2 (-6) else f_X7_goYears_104 r30 (ax_u I 35 30 s0) x1 x2 x2
def f_X7_goYears_30 : Nat → ax_I → Int32 → Option ax_I
  | 0, _, _ => none
  | n + 1, I, x1 => if (I 35 23) ≤ x1 then some I else if 0 ≤ (I 35 30) then some I else if ax_in x1 60 = true then if ax_in x1 60 = true then if ax_in x1 60 = true then if ax_in x1 60 = true then (F_X7_whyNot (ax_u I 35 27 x1) ((ax_u I 35 27 x1) 51 x1.toNatClampNeg) ((ax_u I 35 27 x1) 52 x1.toNatClampNeg) ((ax_u I 35 27 x1) 53 x1.toNatClampNeg) ((ax_u I 35 27 x1) 54 x1.toNatClampNeg)).bind (fun q75 => if q75 ≤ 0 then f_X7_goYears_90 (f_X7_goYears_30 n) (ax_u I 35 27 x1) x1 q75 (-6) else f_X7_goYears_90 (f_X7_goYears_30 n) (ax_u I 35 27 x1) x1 q75 x1) else none else none else none else none
def F_X7_goYears (I : ax_I) : Option ax_I :=
  f_X7_goYears_30 ax_N (ax_u (ax_u (ax_u (ax_u (ax_u I 35 30 (-6)) 35 31 (-6)) 35 24 0) 35 25 (-6)) 35 26 0) 0
set_option maxRecDepth 100000 in
set_option maxHeartbeats 4000000 in
theorem t_X7_goYears_139 {lay : List ax_S} {J : ax_J} {I9 : ax_I} (hL : ax_LL B lay) (C : ax_C p R s m args meth c yX7_goYears cX7_goYears 3 none 14 E mc ms) {r30 : ax_I → Int32 → Option (ax_I)} (hr30 : ∀ (I : ax_I) (x1 : Int32), r30 I x1 = some I9 → AM p l e R s m args below meth c E B lay.length (ax_z lay) 3 none lay I9 J lay I J 30 [(0, .ref (B + 35)), (1, .int x1)] []) : ∀ (I : ax_I) (x1 : Int32), f_X7_goYears_139 r30 I x1 = some I9 → AM p l e R s m args below meth c E B lay.length (ax_z lay) 3 none lay I9 J lay I J 139 [(0, .ref (B + 35)), (1, .int x1)] [] := by
  obtain ⟨hx, hb, hr, hml, hown, hts, hlocks, hK, hfr, hlo, hmc, hms, hnm⟩ := id C
  have hown : s.vm.findClass RX7 = some m.cls := hown
  intro I x1 h H locs cells slots ls hc hz hR hS hl
  unfold f_X7_goYears_139 at h
  refine lv_iinc (v := (x1 + 1)) (lv' := [(1, .int (x1 + 1)), (0, .ref (B + 35))]) hx hb dX7_goYears_139 hl (k := 1) rfl rfl (by decide) rfl (fun ls hl => ?_)
  refine lv_goto (tgt := 30) hx hb dX7_goYears_142 (by decide) ?_
  exact hr30 _ _ h H locs cells slots ls hc hz hR hS (lv_sub hl [1, 0] rfl)
set_option maxRecDepth 100000 in
set_option maxHeartbeats 4000000 in
theorem t_X7_goYears_104 {lay : List ax_S} {J : ax_J} {I9 : ax_I} (hL : ax_LL B lay) (C : ax_C p R s m args meth c yX7_goYears cX7_goYears 3 none 14 E mc ms) {r30 : ax_I → Int32 → Option (ax_I)} (hr30 : ∀ (I : ax_I) (x1 : Int32), r30 I x1 = some I9 → AM p l e R s m args below meth c E B lay.length (ax_z lay) 3 none lay I9 J lay I J 30 [(0, .ref (B + 35)), (1, .int x1)] []) : ∀ (I : ax_I) (x1 : Int32) (x2 : Int32) (s0 : Int32), f_X7_goYears_104 r30 I x1 x2 s0 = some I9 → AM p l e R s m args below meth c E B lay.length (ax_z lay) 3 none lay I9 J lay I J 104 [(0, .ref (B + 35)), (1, .int x1), (2, .int x2)] [.int s0, .ref (B + 35)] := by
  obtain ⟨hx, hb, hr, hml, hown, hts, hlocks, hK, hfr, hlo, hmc, hms, hnm⟩ := id C
  have hown : s.vm.findClass RX7 = some m.cls := hown
  intro I x1 x2 s0 h H locs cells slots ls hc hz hR hS hl
  unfold f_X7_goYears_104 at h
  refine ax_putI hx hb hts hown hK hR hS fp_X7_203 (lk_35 hL) rfl rfl rfl dX7_goYears_104 (fun H locs hR hS => ?_)
  refine lv_iload_n hx hb dX7_goYears_107 rfl (lv_at hl 2 rfl) ?_
  refine lv_if_ne (tgt := 139) hx hb dX7_goYears_108 (by decide) (fun q => ?_) (fun q => ?_)
  · have h := ax_iN q h
    exact t_X7_goYears_139 hL C hr30 _ _ h H locs cells slots ls hc hz hR hS (lv_sub hl [0, 1] rfl)
  · have h := ax_ip q h
    refine lv_aload_n hx hb dX7_goYears_111 rfl (lv_at hl 0 rfl) ?_
    refine lv_aload_n hx hb dX7_goYears_112 rfl (lv_at hl 0 rfl) ?_
    refine ax_getV hx hb hts hown hK hR fl_X7_55 (lk_35 hL) rfl dX7_goYears_113 ?_
    refine lv_iload_n hx hb dX7_goYears_116 rfl (lv_at hl 1 rfl) ?_
    obtain ⟨hq, h⟩ := ax_ck h
    refine ax_iald hx hb hK hR (lk_51 hL) hq dX7_goYears_117 ?_
    refine lv_aload_n hx hb dX7_goYears_118 rfl (lv_at hl 0 rfl) ?_
    refine ax_getV hx hb hts hown hK hR fl_X7_58 (lk_35 hL) rfl dX7_goYears_119 ?_
    refine lv_iload_n hx hb dX7_goYears_122 rfl (lv_at hl 1 rfl) ?_
    obtain ⟨hq, h⟩ := ax_ck h
    refine ax_iald hx hb hK hR (lk_52 hL) hq dX7_goYears_123 ?_
    refine lv_aload_n hx hb dX7_goYears_124 rfl (lv_at hl 0 rfl) ?_
    refine ax_getV hx hb hts hown hK hR fl_X7_61 (lk_35 hL) rfl dX7_goYears_125 ?_
    refine lv_iload_n hx hb dX7_goYears_128 rfl (lv_at hl 1 rfl) ?_
    obtain ⟨hq, h⟩ := ax_ck h
    refine ax_iald hx hb hK hR (lk_53 hL) hq dX7_goYears_129 ?_
    refine lv_aload_n hx hb dX7_goYears_130 rfl (lv_at hl 0 rfl) ?_
    refine ax_getV hx hb hts hown hK hR fl_X7_64 (lk_35 hL) rfl dX7_goYears_131 ?_
    refine lv_iload_n hx hb dX7_goYears_134 rfl (lv_at hl 1 rfl) ?_
    obtain ⟨hq, h⟩ := ax_ck h
    refine ax_iald hx hb hK hR (lk_54 hL) hq dX7_goYears_135 ?_
    obtain ⟨q136, hq, h⟩ := ax_bd h
    refine ax_cV (rest := []) (st1 := []) C hc hz hS hR (M_X7_happen hL hq) yk_X7_happen in_X7_happen se_X7_happen ml_X7_210 (lk_35 hL) rfl rfl (by decide) rfl hl.1 (Nat.le_of_ble_eq_true rfl) rfl rfl dX7_goYears_136 (fun H locs hR hS => ?_)
    exact t_X7_goYears_139 hL C hr30 _ _ h H locs cells slots ls hc hz hR hS (lv_sub hl [0, 1] rfl)
set_option maxRecDepth 100000 in
set_option maxHeartbeats 4000000 in
theorem t_X7_goYears_90 {lay : List ax_S} {J : ax_J} {I9 : ax_I} (hL : ax_LL B lay) (C : ax_C p R s m args meth c yX7_goYears cX7_goYears 3 none 14 E mc ms) {r30 : ax_I → Int32 → Option (ax_I)} (hr30 : ∀ (I : ax_I) (x1 : Int32), r30 I x1 = some I9 → AM p l e R s m args below meth c E B lay.length (ax_z lay) 3 none lay I9 J lay I J 30 [(0, .ref (B + 35)), (1, .int x1)] []) : ∀ (I : ax_I) (x1 : Int32) (x2 : Int32) (s0 : Int32), f_X7_goYears_90 r30 I x1 x2 s0 = some I9 → AM p l e R s m args below meth c E B lay.length (ax_z lay) 3 none lay I9 J lay I J 90 [(0, .ref (B + 35)), (1, .int x1), (2, .int x2)] [.int s0, .ref (B + 35)] := by
  obtain ⟨hx, hb, hr, hml, hown, hts, hlocks, hK, hfr, hlo, hmc, hms, hnm⟩ := id C
  have hown : s.vm.findClass RX7 = some m.cls := hown
  intro I x1 x2 s0 h H locs cells slots ls hc hz hR hS hl
  unfold f_X7_goYears_90 at h
  refine ax_putI hx hb hts hown hK hR hS fp_X7_200 (lk_35 hL) rfl rfl rfl dX7_goYears_90 (fun H locs hR hS => ?_)
  refine lv_aload_n hx hb dX7_goYears_93 rfl (lv_at hl 0 rfl) ?_
  refine lv_iload_n hx hb dX7_goYears_94 rfl (lv_at hl 2 rfl) ?_
  refine lv_if_le (tgt := 102) hx hb dX7_goYears_95 (by decide) (fun q => ?_) (fun q => ?_)
  · have h := ax_ip q h
    refine lv_bipush (v := (-6)) hx hb dX7_goYears_102 (by decide) ?_
    exact t_X7_goYears_104 hL C hr30 _ _ _ _ h H locs cells slots ls hc hz hR hS (lv_sub hl [0, 1, 2] rfl)
  · have h := ax_iN q h
    refine lv_iload_n hx hb dX7_goYears_98 rfl (lv_at hl 2 rfl) ?_
    refine lv_goto (tgt := 104) hx hb dX7_goYears_99 (by decide) ?_
    exact t_X7_goYears_104 hL C hr30 _ _ _ _ h H locs cells slots ls hc hz hR hS (lv_sub hl [0, 1, 2] rfl)
set_option maxRecDepth 100000 in
set_option maxHeartbeats 4000000 in
theorem t_X7_goYears_30 {lay : List ax_S} {J : ax_J} {I9 : ax_I} (hL : ax_LL B lay) (C : ax_C p R s m args meth c yX7_goYears cX7_goYears 3 none 14 E mc ms) : ∀ (n : Nat) (I : ax_I) (x1 : Int32), f_X7_goYears_30 n I x1 = some I9 → AM p l e R s m args below meth c E B lay.length (ax_z lay) 3 none lay I9 J lay I J 30 [(0, .ref (B + 35)), (1, .int x1)] [] := by
  obtain ⟨hx, hb, hr, hml, hown, hts, hlocks, hK, hfr, hlo, hmc, hms, hnm⟩ := id C
  have hown : s.vm.findClass RX7 = some m.cls := hown
  intro n
  induction n with
  | zero => intro I x1 h; cases h
  | succ n ih =>
    intro I x1 h H locs cells slots ls hc hz hR hS hl
    rw [f_X7_goYears_30] at h
    refine lv_iload_n hx hb dX7_goYears_30 rfl (lv_at hl 1 rfl) ?_
    refine lv_aload_n hx hb dX7_goYears_31 rfl (lv_at hl 0 rfl) ?_
    refine ax_getI hx hb hts hown hK hR fl_X7_146 (lk_35 hL) rfl dX7_goYears_32 ?_
    refine lv_icmp_ge (tgt := 145) hx hb dX7_goYears_35 (by decide) (fun q => ?_) (fun q => ?_)
    · have h := ax_ip q h
      cases h
      exact ax_vret C hc hz hR hS dX7_goYears_145
    · have h := ax_iN q h
      refine lv_aload_n hx hb dX7_goYears_38 rfl (lv_at hl 0 rfl) ?_
      refine ax_getI hx hb hts hown hK hR fl_X7_200 (lk_35 hL) rfl dX7_goYears_39 ?_
      refine lv_if_ge (tgt := 145) hx hb dX7_goYears_42 (by decide) (fun q => ?_) (fun q => ?_)
      · have h := ax_ip q h
        cases h
        exact ax_vret C hc hz hR hS dX7_goYears_145
      · have h := ax_iN q h
        refine lv_aload_n hx hb dX7_goYears_45 rfl (lv_at hl 0 rfl) ?_
        refine lv_iload_n hx hb dX7_goYears_46 rfl (lv_at hl 1 rfl) ?_
        refine ax_putI hx hb hts hown hK hR hS fp_X7_188 (lk_35 hL) rfl rfl rfl dX7_goYears_47 (fun H locs hR hS => ?_)
        refine lv_aload_n hx hb dX7_goYears_50 rfl (lv_at hl 0 rfl) ?_
        refine lv_aload_n hx hb dX7_goYears_51 rfl (lv_at hl 0 rfl) ?_
        refine ax_getV hx hb hts hown hK hR fl_X7_55 (lk_35 hL) rfl dX7_goYears_52 ?_
        refine lv_iload_n hx hb dX7_goYears_55 rfl (lv_at hl 1 rfl) ?_
        obtain ⟨hq, h⟩ := ax_ck h
        refine ax_iald hx hb hK hR (lk_51 hL) hq dX7_goYears_56 ?_
        refine lv_aload_n hx hb dX7_goYears_57 rfl (lv_at hl 0 rfl) ?_
        refine ax_getV hx hb hts hown hK hR fl_X7_58 (lk_35 hL) rfl dX7_goYears_58 ?_
        refine lv_iload_n hx hb dX7_goYears_61 rfl (lv_at hl 1 rfl) ?_
        obtain ⟨hq, h⟩ := ax_ck h
        refine ax_iald hx hb hK hR (lk_52 hL) hq dX7_goYears_62 ?_
        refine lv_aload_n hx hb dX7_goYears_63 rfl (lv_at hl 0 rfl) ?_
        refine ax_getV hx hb hts hown hK hR fl_X7_61 (lk_35 hL) rfl dX7_goYears_64 ?_
        refine lv_iload_n hx hb dX7_goYears_67 rfl (lv_at hl 1 rfl) ?_
        obtain ⟨hq, h⟩ := ax_ck h
        refine ax_iald hx hb hK hR (lk_53 hL) hq dX7_goYears_68 ?_
        refine lv_aload_n hx hb dX7_goYears_69 rfl (lv_at hl 0 rfl) ?_
        refine ax_getV hx hb hts hown hK hR fl_X7_64 (lk_35 hL) rfl dX7_goYears_70 ?_
        refine lv_iload_n hx hb dX7_goYears_73 rfl (lv_at hl 1 rfl) ?_
        obtain ⟨hq, h⟩ := ax_ck h
        refine ax_iald hx hb hK hR (lk_54 hL) hq dX7_goYears_74 ?_
        obtain ⟨q75, hq, h⟩ := ax_bd h
        refine ax_cV (rest := []) (st1 := [.int q75]) C hc hz hS hR (M_X7_whyNot hL hq) yk_X7_whyNot in_X7_whyNot se_X7_whyNot ml_X7_206 (lk_35 hL) rfl rfl (by decide) rfl hl.1 (Nat.le_of_ble_eq_true rfl) rfl rfl dX7_goYears_75 (fun H locs hR hS => ?_)
        refine lv_istore_n (lv' := [(2, .int q75), (0, .ref (B + 35)), (1, .int x1)]) hx hb dX7_goYears_78 rfl hl (by decide) rfl (fun ls hl => ?_)
        refine lv_aload_n hx hb dX7_goYears_79 rfl (lv_at hl 1 rfl) ?_
        refine lv_iload_n hx hb dX7_goYears_80 rfl (lv_at hl 0 rfl) ?_
        refine lv_if_le (tgt := 88) hx hb dX7_goYears_81 (by decide) (fun q => ?_) (fun q => ?_)
        · have h := ax_ip q h
          refine lv_bipush (v := (-6)) hx hb dX7_goYears_88 (by decide) ?_
          exact t_X7_goYears_90 hL C ih _ _ _ _ h H locs cells slots ls hc hz hR hS (lv_sub hl [1, 2, 0] rfl)
        · have h := ax_iN q h
          refine lv_iload_n hx hb dX7_goYears_84 rfl (lv_at hl 2 rfl) ?_
          refine lv_goto (tgt := 90) hx hb dX7_goYears_85 (by decide) ?_
          exact t_X7_goYears_90 hL C ih _ _ _ _ h H locs cells slots ls hc hz hR hS (lv_sub hl [1, 2, 0] rfl)
set_option maxRecDepth 100000 in
set_option maxHeartbeats 4000000 in
theorem t_X7_goYears_0 {lay : List ax_S} {J : ax_J} {I9 : ax_I} (hL : ax_LL B lay) (C : ax_C p R s m args meth c yX7_goYears cX7_goYears 3 none 14 E mc ms) : ∀ (I : ax_I), F_X7_goYears I = some I9 → AM p l e R s m args below meth c E B lay.length (ax_z lay) 3 none lay I9 J lay I J 0 [(0, .ref (B + 35))] [] := by
  obtain ⟨hx, hb, hr, hml, hown, hts, hlocks, hK, hfr, hlo, hmc, hms, hnm⟩ := id C
  have hown : s.vm.findClass RX7 = some m.cls := hown
  intro I h H locs cells slots ls hc hz hR hS hl
  unfold F_X7_goYears at h
  refine lv_aload_n hx hb dX7_goYears_0 rfl (lv_at hl 0 rfl) ?_
  refine lv_bipush (v := (-6)) hx hb dX7_goYears_1 (by decide) ?_
  refine ax_putI hx hb hts hown hK hR hS fp_X7_200 (lk_35 hL) rfl rfl rfl dX7_goYears_3 (fun H locs hR hS => ?_)
  refine lv_aload_n hx hb dX7_goYears_6 rfl (lv_at hl 0 rfl) ?_
  refine lv_bipush (v := (-6)) hx hb dX7_goYears_7 (by decide) ?_
  refine ax_putI hx hb hts hown hK hR hS fp_X7_203 (lk_35 hL) rfl rfl rfl dX7_goYears_9 (fun H locs hR hS => ?_)
  refine lv_aload_n hx hb dX7_goYears_12 rfl (lv_at hl 0 rfl) ?_
  refine lv_iconst (v := 0) hx hb dX7_goYears_13 (by decide) ?_
  refine ax_putI hx hb hts hown hK hR hS fp_X7_179 (lk_35 hL) rfl rfl rfl dX7_goYears_14 (fun H locs hR hS => ?_)
  refine lv_aload_n hx hb dX7_goYears_17 rfl (lv_at hl 0 rfl) ?_
  refine lv_bipush (v := (-6)) hx hb dX7_goYears_18 (by decide) ?_
  refine ax_putI hx hb hts hown hK hR hS fp_X7_185 (lk_35 hL) rfl rfl rfl dX7_goYears_20 (fun H locs hR hS => ?_)
  refine lv_aload_n hx hb dX7_goYears_23 rfl (lv_at hl 0 rfl) ?_
  refine lv_iconst (v := 0) hx hb dX7_goYears_24 (by decide) ?_
  refine ax_putI hx hb hts hown hK hR hS fp_X7_191 (lk_35 hL) rfl rfl rfl dX7_goYears_25 (fun H locs hR hS => ?_)
  refine lv_iconst (v := 0) hx hb dX7_goYears_28 (by decide) ?_
  refine lv_istore_n (lv' := [(1, .int 0), (0, .ref (B + 35))]) hx hb dX7_goYears_29 rfl hl (by decide) rfl (fun ls hl => ?_)
  exact t_X7_goYears_30 hL C  ax_N _ _ h H locs cells slots ls hc hz hR hS (lv_sub hl [1, 0] rfl)
theorem M_X7_goYears {l : Launch} {E : ax_E} {B : Nat} {lay : List ax_S} {I : ax_I} {J : ax_J} {I9 : ax_I} (hL : ax_LL B lay) (h : F_X7_goYears I = some I9) : Cm l yX7_goYears cX7_goYears 3 none 14 E B [.ref (B + 35)] lay I J none lay I9 J :=
  ax_met (by decide) (Nat.le_of_ble_eq_true rfl) (fun p e R s m args below meth c C => t_X7_goYears_0 hL C _ h)
def f_X7_refusal_59 (r32 : ax_I → Int32 → Option (Int32 × ax_I)) (I : ax_I) (x1 : Int32) (s0 : Int32) (s1 : Int32) : Option (Int32 × ax_I) :=
  if ax_in s1 83 = true then r32 (ax_u I 56 s1.toNatClampNeg s0) (x1 + 1) else none
def f_X7_refusal_32 : Nat → ax_I → Int32 → Option (Int32 × ax_I)
  | 0, _, _ => none
  | n + 1, I, x1 => if 6 ≤ x1 then (F_X7_lay I 55 77).bind (fun q71 => if (q71 35 30) < 0 then some ((-6), q71) else some ((-3), q71)) else (F_X7_isSaint I x1).bind (fun q48 => if q48 = 0 then f_X7_refusal_59 (f_X7_refusal_32 n) I x1 0 (77 + x1) else f_X7_refusal_59 (f_X7_refusal_32 n) I x1 1 (77 + x1))
def F_X7_refusal (I : ax_I) : Option (Int32 × ax_I) :=
  (F_X7_fault I).bind (fun q1 => if q1.1 < 0 then (F_X7_store q1.2 55 77).bind (fun q15 => (F_X7_goYears q15).bind (fun q19 => (F_X7_store q19 56 83).bind (fun q27 => f_X7_refusal_32 ax_N q27 0))) else some ((-5), q1.2))
set_option maxRecDepth 100000 in
set_option maxHeartbeats 4000000 in
theorem t_X7_refusal_59 {lay : List ax_S} {J : ax_J} {rv : Int32} {I9 : ax_I} (hL : ax_LL B lay) (C : ax_C p R s m args meth c yX7_refusal cX7_refusal 2 (some .int) 16 E mc ms) {r32 : ax_I → Int32 → Option (Int32 × ax_I)} (hr32 : ∀ (I : ax_I) (x1 : Int32), r32 I x1 = some (rv, I9) → AM p l e R s m args below meth c E B lay.length (ax_z lay) 2 (some (.int rv)) lay I9 J lay I J 32 [(0, .ref (B + 35)), (1, .int x1)] []) : ∀ (I : ax_I) (x1 : Int32) (s0 : Int32) (s1 : Int32), f_X7_refusal_59 r32 I x1 s0 s1 = some (rv, I9) → AM p l e R s m args below meth c E B lay.length (ax_z lay) 2 (some (.int rv)) lay I9 J lay I J 59 [(0, .ref (B + 35)), (1, .int x1)] [.int s0, .int s1, .ref (B + 56)] := by
  obtain ⟨hx, hb, hr, hml, hown, hts, hlocks, hK, hfr, hlo, hmc, hms, hnm⟩ := id C
  have hown : s.vm.findClass RX7 = some m.cls := hown
  intro I x1 s0 s1 h H locs cells slots ls hc hz hR hS hl
  unfold f_X7_refusal_59 at h
  obtain ⟨hq, h⟩ := ax_ck h
  refine ax_iast hx hb hK hR hS (lk_56 hL) hq dX7_refusal_59 (fun H locs hR hS => ?_)
  refine lv_iinc (v := (x1 + 1)) (lv' := [(1, .int (x1 + 1)), (0, .ref (B + 35))]) hx hb dX7_refusal_60 hl (k := 1) rfl rfl (by decide) rfl (fun ls hl => ?_)
  refine lv_goto (tgt := 32) hx hb dX7_refusal_63 (by decide) ?_
  exact hr32 _ _ h H locs cells slots ls hc hz hR hS (lv_sub hl [1, 0] rfl)
set_option maxRecDepth 100000 in
set_option maxHeartbeats 4000000 in
theorem t_X7_refusal_32 {lay : List ax_S} {J : ax_J} {rv : Int32} {I9 : ax_I} (hL : ax_LL B lay) (C : ax_C p R s m args meth c yX7_refusal cX7_refusal 2 (some .int) 16 E mc ms) : ∀ (n : Nat) (I : ax_I) (x1 : Int32), f_X7_refusal_32 n I x1 = some (rv, I9) → AM p l e R s m args below meth c E B lay.length (ax_z lay) 2 (some (.int rv)) lay I9 J lay I J 32 [(0, .ref (B + 35)), (1, .int x1)] [] := by
  obtain ⟨hx, hb, hr, hml, hown, hts, hlocks, hK, hfr, hlo, hmc, hms, hnm⟩ := id C
  have hown : s.vm.findClass RX7 = some m.cls := hown
  intro n
  induction n with
  | zero => intro I x1 h; cases h
  | succ n ih =>
    intro I x1 h H locs cells slots ls hc hz hR hS hl
    rw [f_X7_refusal_32] at h
    refine lv_iload_n hx hb dX7_refusal_32 rfl (lv_at hl 1 rfl) ?_
    refine lv_bipush (v := 6) hx hb dX7_refusal_33 (by decide) ?_
    refine lv_icmp_ge (tgt := 66) hx hb dX7_refusal_35 (by decide) (fun q => ?_) (fun q => ?_)
    · have h := ax_ip q h
      refine lv_aload_n hx hb dX7_refusal_66 rfl (lv_at hl 0 rfl) ?_
      refine lv_aload_n hx hb dX7_refusal_67 rfl (lv_at hl 0 rfl) ?_
      refine ax_getV hx hb hts hown hK hR fl_X7_67 (lk_35 hL) rfl dX7_refusal_68 ?_
      obtain ⟨q71, hq, h⟩ := ax_bd h
      refine ax_cV (rest := []) (st1 := []) C hc hz hS hR (M_X7_lay hL (lk_55 hL) hq) yk_X7_lay in_X7_lay se_X7_lay ml_X7_224 (lk_35 hL) rfl rfl (by decide) rfl hl.1 (Nat.le_of_ble_eq_true rfl) rfl rfl dX7_refusal_71 (fun H locs hR hS => ?_)
      refine lv_aload_n hx hb dX7_refusal_74 rfl (lv_at hl 0 rfl) ?_
      refine ax_getI hx hb hts hown hK hR fl_X7_200 (lk_35 hL) rfl dX7_refusal_75 ?_
      refine lv_if_lt (tgt := 86) hx hb dX7_refusal_78 (by decide) (fun q => ?_) (fun q => ?_)
      · have h := ax_ip q h
        refine lv_bipush (v := (-6)) hx hb dX7_refusal_86 (by decide) ?_
        cases h
        exact ax_iret C hc hz hR hS rfl rfl dX7_refusal_88
      · have h := ax_iN q h
        refine lv_bipush (v := (-3)) hx hb dX7_refusal_81 (by decide) ?_
        refine lv_goto (tgt := 88) hx hb dX7_refusal_83 (by decide) ?_
        cases h
        exact ax_iret C hc hz hR hS rfl rfl dX7_refusal_88
    · have h := ax_iN q h
      refine lv_aload_n hx hb dX7_refusal_38 rfl (lv_at hl 0 rfl) ?_
      refine ax_getV hx hb hts hown hK hR fl_X7_70 (lk_35 hL) rfl dX7_refusal_39 ?_
      refine lv_bipush (v := 77) hx hb dX7_refusal_42 (by decide) ?_
      refine lv_iload_n hx hb dX7_refusal_44 rfl (lv_at hl 1 rfl) ?_
      refine lv_iadd hx hb dX7_refusal_45 ?_
      refine lv_aload_n hx hb dX7_refusal_46 rfl (lv_at hl 0 rfl) ?_
      refine lv_iload_n hx hb dX7_refusal_47 rfl (lv_at hl 1 rfl) ?_
      obtain ⟨q48, hq, h⟩ := ax_bd h
      refine ax_cV (rest := [.int (77 + x1), .ref (B + 56)]) (st1 := [.int q48, .int (77 + x1), .ref (B + 56)]) C hc hz hS hR (M_X7_isSaint hL hq) yk_X7_isSaint in_X7_isSaint se_X7_isSaint ml_X7_182 (lk_35 hL) rfl rfl (by decide) rfl hl.1 (Nat.le_of_ble_eq_true rfl) rfl rfl dX7_refusal_48 (fun H locs hR hS => ?_)
      refine lv_if_eq (tgt := 58) hx hb dX7_refusal_51 (by decide) (fun q => ?_) (fun q => ?_)
      · have h := ax_ip q h
        refine lv_iconst (v := 0) hx hb dX7_refusal_58 (by decide) ?_
        exact t_X7_refusal_59 hL C ih _ _ _ _ h H locs cells slots ls hc hz hR hS (lv_sub hl [0, 1] rfl)
      · have h := ax_iN q h
        refine lv_iconst (v := 1) hx hb dX7_refusal_54 (by decide) ?_
        refine lv_goto (tgt := 59) hx hb dX7_refusal_55 (by decide) ?_
        exact t_X7_refusal_59 hL C ih _ _ _ _ h H locs cells slots ls hc hz hR hS (lv_sub hl [0, 1] rfl)
set_option maxRecDepth 100000 in
set_option maxHeartbeats 4000000 in
theorem t_X7_refusal_0 {lay : List ax_S} {J : ax_J} {rv : Int32} {I9 : ax_I} (hL : ax_LL B lay) (C : ax_C p R s m args meth c yX7_refusal cX7_refusal 2 (some .int) 16 E mc ms) : ∀ (I : ax_I), F_X7_refusal I = some (rv, I9) → AM p l e R s m args below meth c E B lay.length (ax_z lay) 2 (some (.int rv)) lay I9 J lay I J 0 [(0, .ref (B + 35))] [] := by
  obtain ⟨hx, hb, hr, hml, hown, hts, hlocks, hK, hfr, hlo, hmc, hms, hnm⟩ := id C
  have hown : s.vm.findClass RX7 = some m.cls := hown
  intro I h H locs cells slots ls hc hz hR hS hl
  unfold F_X7_refusal at h
  refine lv_aload_n hx hb dX7_refusal_0 rfl (lv_at hl 0 rfl) ?_
  obtain ⟨q1, hq, h⟩ := ax_bd h
  refine ax_cV (rest := []) (st1 := [.int q1.1]) C hc hz hS hR (M_X7_fault hL hq) yk_X7_fault in_X7_fault se_X7_fault ml_X7_214 (lk_35 hL) rfl rfl (by decide) rfl hl.1 (Nat.le_of_ble_eq_true rfl) rfl rfl dX7_refusal_1 (fun H locs hR hS => ?_)
  refine lv_if_lt (tgt := 10) hx hb dX7_refusal_4 (by decide) (fun q => ?_) (fun q => ?_)
  · have h := ax_ip q h
    refine lv_aload_n hx hb dX7_refusal_10 rfl (lv_at hl 0 rfl) ?_
    refine lv_aload_n hx hb dX7_refusal_11 rfl (lv_at hl 0 rfl) ?_
    refine ax_getV hx hb hts hown hK hR fl_X7_67 (lk_35 hL) rfl dX7_refusal_12 ?_
    obtain ⟨q15, hq, h⟩ := ax_bd h
    refine ax_cV (rest := []) (st1 := []) C hc hz hS hR (M_X7_store hL (lk_55 hL) hq) yk_X7_store in_X7_store se_X7_store ml_X7_217 (lk_35 hL) rfl rfl (by decide) rfl hl.1 (Nat.le_of_ble_eq_true rfl) rfl rfl dX7_refusal_15 (fun H locs hR hS => ?_)
    refine lv_aload_n hx hb dX7_refusal_18 rfl (lv_at hl 0 rfl) ?_
    obtain ⟨q19, hq, h⟩ := ax_bd h
    refine ax_cV (rest := []) (st1 := []) C hc hz hS hR (M_X7_goYears hL hq) yk_X7_goYears in_X7_goYears se_X7_goYears ml_X7_221 (lk_35 hL) rfl rfl (by decide) rfl hl.1 (Nat.le_of_ble_eq_true rfl) rfl rfl dX7_refusal_19 (fun H locs hR hS => ?_)
    refine lv_aload_n hx hb dX7_refusal_22 rfl (lv_at hl 0 rfl) ?_
    refine lv_aload_n hx hb dX7_refusal_23 rfl (lv_at hl 0 rfl) ?_
    refine ax_getV hx hb hts hown hK hR fl_X7_70 (lk_35 hL) rfl dX7_refusal_24 ?_
    obtain ⟨q27, hq, h⟩ := ax_bd h
    refine ax_cV (rest := []) (st1 := []) C hc hz hS hR (M_X7_store hL (lk_56 hL) hq) yk_X7_store in_X7_store se_X7_store ml_X7_217 (lk_35 hL) rfl rfl (by decide) rfl hl.1 (Nat.le_of_ble_eq_true rfl) rfl rfl dX7_refusal_27 (fun H locs hR hS => ?_)
    refine lv_iconst (v := 0) hx hb dX7_refusal_30 (by decide) ?_
    refine lv_istore_n (lv' := [(1, .int 0), (0, .ref (B + 35))]) hx hb dX7_refusal_31 rfl hl (by decide) rfl (fun ls hl => ?_)
    exact t_X7_refusal_32 hL C  ax_N _ _ h H locs cells slots ls hc hz hR hS (lv_sub hl [1, 0] rfl)
  · have h := ax_iN q h
    refine lv_bipush (v := (-5)) hx hb dX7_refusal_7 (by decide) ?_
    cases h
    exact ax_iret C hc hz hR hS rfl rfl dX7_refusal_9
theorem M_X7_refusal {l : Launch} {E : ax_E} {B : Nat} {lay : List ax_S} {I : ax_I} {J : ax_J} {rv : Int32} {I9 : ax_I} (hL : ax_LL B lay) (h : F_X7_refusal I = some (rv, I9)) : Cm l yX7_refusal cX7_refusal 2 (some .int) 16 E B [.ref (B + 35)] lay I J (some (.int rv)) lay I9 J :=
  ax_met (by decide) (Nat.le_of_ble_eq_true rfl) (fun p e R s m args below meth c C => t_X7_refusal_0 hL C _ h)
def f_X7_judge_39 (I : ax_I) (x1 : Int32) : Option (Int32 × ax_I) :=
  if x1 = 0 then some ((I 35 30), I) else if x1 = 1 then some ((I 35 31), I) else some ((I 35 24), I)
def F_X7_judge (I : ax_I) (x1 : Int32) : Option (Int32 × ax_I) :=
  (F_X7_in I ((x1 : Int32).toInt64) 0 2).bind (fun q6 => if q6 = 0 then some ((-2), I) else (F_X7_refusal I).bind (fun q16 => if q16.1 = (-5) then some (q16.1, q16.2) else if x1 ≤ 1 then f_X7_judge_39 q16.2 x1 else if q16.1 = (-3) then some (q16.1, q16.2) else f_X7_judge_39 q16.2 x1))
set_option maxRecDepth 100000 in
set_option maxHeartbeats 4000000 in
theorem t_X7_judge_39 {lay : List ax_S} {J : ax_J} {rv : Int32} {I9 : ax_I} (hL : ax_LL B lay) (C : ax_C p R s m args meth c yX7_judge cX7_judge 3 (some .int) 18 E mc ms) : ∀ (I : ax_I) (x1 : Int32), f_X7_judge_39 I x1 = some (rv, I9) → AM p l e R s m args below meth c E B lay.length (ax_z lay) 3 (some (.int rv)) lay I9 J lay I J 39 [(0, .ref (B + 35)), (1, .int x1)] [] := by
  obtain ⟨hx, hb, hr, hml, hown, hts, hlocks, hK, hfr, hlo, hmc, hms, hnm⟩ := id C
  have hown : s.vm.findClass RX7 = some m.cls := hown
  intro I x1 h H locs cells slots ls hc hz hR hS hl
  unfold f_X7_judge_39 at h
  refine lv_iload_n hx hb dX7_judge_39 rfl (lv_at hl 1 rfl) ?_
  refine lv_if_ne (tgt := 50) hx hb dX7_judge_40 (by decide) (fun q => ?_) (fun q => ?_)
  · have h := ax_iN q h
    refine lv_iload_n hx hb dX7_judge_50 rfl (lv_at hl 1 rfl) ?_
    refine lv_iconst (v := 1) hx hb dX7_judge_51 (by decide) ?_
    refine lv_icmp_ne (tgt := 62) hx hb dX7_judge_52 (by decide) (fun q => ?_) (fun q => ?_)
    · have h := ax_iN q h
      refine lv_aload_n hx hb dX7_judge_62 rfl (lv_at hl 0 rfl) ?_
      refine ax_getI hx hb hts hown hK hR fl_X7_179 (lk_35 hL) rfl dX7_judge_63 ?_
      cases h
      exact ax_iret C hc hz hR hS rfl rfl dX7_judge_66
    · have h := ax_ip q h
      refine lv_aload_n hx hb dX7_judge_55 rfl (lv_at hl 0 rfl) ?_
      refine ax_getI hx hb hts hown hK hR fl_X7_203 (lk_35 hL) rfl dX7_judge_56 ?_
      refine lv_goto (tgt := 66) hx hb dX7_judge_59 (by decide) ?_
      cases h
      exact ax_iret C hc hz hR hS rfl rfl dX7_judge_66
  · have h := ax_ip q h
    refine lv_aload_n hx hb dX7_judge_43 rfl (lv_at hl 0 rfl) ?_
    refine ax_getI hx hb hts hown hK hR fl_X7_200 (lk_35 hL) rfl dX7_judge_44 ?_
    refine lv_goto (tgt := 66) hx hb dX7_judge_47 (by decide) ?_
    cases h
    exact ax_iret C hc hz hR hS rfl rfl dX7_judge_66
set_option maxRecDepth 100000 in
set_option maxHeartbeats 4000000 in
theorem t_X7_judge_0 {lay : List ax_S} {J : ax_J} {rv : Int32} {I9 : ax_I} (hL : ax_LL B lay) (C : ax_C p R s m args meth c yX7_judge cX7_judge 3 (some .int) 18 E mc ms) : ∀ (I : ax_I) (x1 : Int32), F_X7_judge I x1 = some (rv, I9) → AM p l e R s m args below meth c E B lay.length (ax_z lay) 3 (some (.int rv)) lay I9 J lay I J 0 [(0, .ref (B + 35)), (1, .int x1)] [] := by
  obtain ⟨hx, hb, hr, hml, hown, hts, hlocks, hK, hfr, hlo, hmc, hms, hnm⟩ := id C
  have hown : s.vm.findClass RX7 = some m.cls := hown
  intro I x1 h H locs cells slots ls hc hz hR hS hl
  unfold F_X7_judge at h
  refine lv_iload_n hx hb dX7_judge_0 rfl (lv_at hl 1 rfl) ?_
  refine lv_i2l hx hb dX7_judge_1 rfl ?_
  refine lv_lconst (v := 0) hx hb dX7_judge_2 (by decide) ?_
  refine lv_ldc2 hx hb hown (hts _ ct_X7_116) dX7_judge_3 ?_
  obtain ⟨q6, hq, h⟩ := ax_bd h
  refine ax_cS (rest := []) (st1 := [.int q6]) C hc hz hS hR (M_X7_in  hq) yk_X7_in st_X7_in ml_X7_89 (by decide) rfl hl.1 (Nat.le_of_ble_eq_true rfl) rfl rfl dX7_judge_6 (fun H locs hR hS => ?_)
  refine lv_if_ne (tgt := 15) hx hb dX7_judge_9 (by decide) (fun q => ?_) (fun q => ?_)
  · have h := ax_iN q h
    refine lv_aload_n hx hb dX7_judge_15 rfl (lv_at hl 0 rfl) ?_
    obtain ⟨q16, hq, h⟩ := ax_bd h
    refine ax_cV (rest := []) (st1 := [.int q16.1]) C hc hz hS hR (M_X7_refusal hL hq) yk_X7_refusal in_X7_refusal se_X7_refusal ml_X7_227 (lk_35 hL) rfl rfl (by decide) rfl hl.1 (Nat.le_of_ble_eq_true rfl) rfl rfl dX7_judge_16 (fun H locs hR hS => ?_)
    refine lv_istore_n (lv' := [(2, .int q16.1), (0, .ref (B + 35)), (1, .int x1)]) hx hb dX7_judge_19 rfl hl (by decide) rfl (fun ls hl => ?_)
    refine lv_iload_n hx hb dX7_judge_20 rfl (lv_at hl 0 rfl) ?_
    refine lv_bipush (v := (-5)) hx hb dX7_judge_21 (by decide) ?_
    refine lv_icmp_eq (tgt := 37) hx hb dX7_judge_23 (by decide) (fun q => ?_) (fun q => ?_)
    · have h := ax_ip q h
      refine lv_iload_n hx hb dX7_judge_37 rfl (lv_at hl 0 rfl) ?_
      cases h
      exact ax_iret C hc hz hR hS rfl rfl dX7_judge_38
    · have h := ax_iN q h
      refine lv_iload_n hx hb dX7_judge_26 rfl (lv_at hl 2 rfl) ?_
      refine lv_iconst (v := 1) hx hb dX7_judge_27 (by decide) ?_
      refine lv_icmp_le (tgt := 39) hx hb dX7_judge_28 (by decide) (fun q => ?_) (fun q => ?_)
      · have h := ax_ip q h
        exact t_X7_judge_39 hL C  _ _ h H locs cells slots ls hc hz hR hS (lv_sub hl [1, 2] rfl)
      · have h := ax_iN q h
        refine lv_iload_n hx hb dX7_judge_31 rfl (lv_at hl 0 rfl) ?_
        refine lv_bipush (v := (-3)) hx hb dX7_judge_32 (by decide) ?_
        refine lv_icmp_ne (tgt := 39) hx hb dX7_judge_34 (by decide) (fun q => ?_) (fun q => ?_)
        · have h := ax_iN q h
          exact t_X7_judge_39 hL C  _ _ h H locs cells slots ls hc hz hR hS (lv_sub hl [1, 2] rfl)
        · have h := ax_ip q h
          refine lv_iload_n hx hb dX7_judge_37 rfl (lv_at hl 0 rfl) ?_
          cases h
          exact ax_iret C hc hz hR hS rfl rfl dX7_judge_38
  · have h := ax_ip q h
    refine lv_bipush (v := (-2)) hx hb dX7_judge_12 (by decide) ?_
    cases h
    exact ax_iret C hc hz hR hS rfl rfl dX7_judge_14
theorem M_X7_judge {l : Launch} {E : ax_E} {B : Nat} {lay : List ax_S} {I : ax_I} {J : ax_J} {x1 : Int32} {rv : Int32} {I9 : ax_I} (hL : ax_LL B lay) (h : F_X7_judge I x1 = some (rv, I9)) : Cm l yX7_judge cX7_judge 3 (some .int) 18 E B [.ref (B + 35), .int x1] lay I J (some (.int rv)) lay I9 J :=
  ax_met (by decide) (Nat.le_of_ble_eq_true rfl) (fun p e R s m args below meth c C => t_X7_judge_0 hL C _ _ h)
def f_X7_behind_75 (I : ax_I) (x1 : Int32) (s0 : Int32) : Option (Int32 × ax_I) :=
  if ax_in (s0 + x1) 83 = true then some ((I 56 (s0 + x1).toNatClampNeg), I) else none
def F_X7_behind (I : ax_I) (x1 : Int32) (x2 : Int32) : Option (Int32 × ax_I) :=
  (F_X7_isChild I x1).bind (fun q2 => if q2 = 0 then some ((-1), I) else (F_X7_in I ((x2 : Int32).toInt64) 0 4).bind (fun q16 => if q16 = 0 then some ((-2), I) else (F_X7_refusal I).bind (fun q26 => if q26.1 = (-6) then (if 3 ≤ x2 then (if x2 = 3 then f_X7_behind_75 q26.2 x1 77 else f_X7_behind_75 q26.2 x1 18) else if ax_in ((6 * x2) + x1) 83 = true then some ((q26.2 56 ((6 * x2) + x1).toNatClampNeg), q26.2) else none) else some (q26.1, q26.2))))
set_option maxRecDepth 100000 in
set_option maxHeartbeats 4000000 in
theorem t_X7_behind_75 {lay : List ax_S} {J : ax_J} {rv : Int32} {I9 : ax_I} (hL : ax_LL B lay) (C : ax_C p R s m args meth c yX7_behind cX7_behind 4 (some .int) 18 E mc ms) : ∀ (I : ax_I) (x1 : Int32) (s0 : Int32), f_X7_behind_75 I x1 s0 = some (rv, I9) → AM p l e R s m args below meth c E B lay.length (ax_z lay) 4 (some (.int rv)) lay I9 J lay I J 75 [(1, .int x1)] [.int s0, .ref (B + 56)] := by
  obtain ⟨hx, hb, hr, hml, hown, hts, hlocks, hK, hfr, hlo, hmc, hms, hnm⟩ := id C
  have hown : s.vm.findClass RX7 = some m.cls := hown
  intro I x1 s0 h H locs cells slots ls hc hz hR hS hl
  unfold f_X7_behind_75 at h
  refine lv_iload_n hx hb dX7_behind_75 rfl (lv_at hl 0 rfl) ?_
  refine lv_iadd hx hb dX7_behind_76 ?_
  obtain ⟨hq, h⟩ := ax_ck h
  refine ax_iald hx hb hK hR (lk_56 hL) hq dX7_behind_77 ?_
  cases h
  exact ax_iret C hc hz hR hS rfl rfl dX7_behind_78
set_option maxRecDepth 100000 in
set_option maxHeartbeats 4000000 in
theorem t_X7_behind_0 {lay : List ax_S} {J : ax_J} {rv : Int32} {I9 : ax_I} (hL : ax_LL B lay) (C : ax_C p R s m args meth c yX7_behind cX7_behind 4 (some .int) 18 E mc ms) : ∀ (I : ax_I) (x1 : Int32) (x2 : Int32), F_X7_behind I x1 x2 = some (rv, I9) → AM p l e R s m args below meth c E B lay.length (ax_z lay) 4 (some (.int rv)) lay I9 J lay I J 0 [(0, .ref (B + 35)), (1, .int x1), (2, .int x2)] [] := by
  obtain ⟨hx, hb, hr, hml, hown, hts, hlocks, hK, hfr, hlo, hmc, hms, hnm⟩ := id C
  have hown : s.vm.findClass RX7 = some m.cls := hown
  intro I x1 x2 h H locs cells slots ls hc hz hR hS hl
  unfold F_X7_behind at h
  refine lv_aload_n hx hb dX7_behind_0 rfl (lv_at hl 0 rfl) ?_
  refine lv_iload_n hx hb dX7_behind_1 rfl (lv_at hl 1 rfl) ?_
  obtain ⟨q2, hq, h⟩ := ax_bd h
  refine ax_cV (rest := []) (st1 := [.int q2]) C hc hz hS hR (M_X7_isChild hL hq) yk_X7_isChild in_X7_isChild se_X7_isChild ml_X7_113 (lk_35 hL) rfl rfl (by decide) rfl hl.1 (Nat.le_of_ble_eq_true rfl) rfl rfl dX7_behind_2 (fun H locs hR hS => ?_)
  refine lv_if_ne (tgt := 10) hx hb dX7_behind_5 (by decide) (fun q => ?_) (fun q => ?_)
  · have h := ax_iN q h
    refine lv_iload_n hx hb dX7_behind_10 rfl (lv_at hl 2 rfl) ?_
    refine lv_i2l hx hb dX7_behind_11 rfl ?_
    refine lv_lconst (v := 0) hx hb dX7_behind_12 (by decide) ?_
    refine lv_ldc2 hx hb hown (hts _ ct_X7_230) dX7_behind_13 ?_
    obtain ⟨q16, hq, h⟩ := ax_bd h
    refine ax_cS (rest := []) (st1 := [.int q16]) C hc hz hS hR (M_X7_in  hq) yk_X7_in st_X7_in ml_X7_89 (by decide) rfl hl.1 (Nat.le_of_ble_eq_true rfl) rfl rfl dX7_behind_16 (fun H locs hR hS => ?_)
    refine lv_if_ne (tgt := 25) hx hb dX7_behind_19 (by decide) (fun q => ?_) (fun q => ?_)
    · have h := ax_iN q h
      refine lv_aload_n hx hb dX7_behind_25 rfl (lv_at hl 0 rfl) ?_
      obtain ⟨q26, hq, h⟩ := ax_bd h
      refine ax_cV (rest := []) (st1 := [.int q26.1]) C hc hz hS hR (M_X7_refusal hL hq) yk_X7_refusal in_X7_refusal se_X7_refusal ml_X7_227 (lk_35 hL) rfl rfl (by decide) rfl hl.1 (Nat.le_of_ble_eq_true rfl) rfl rfl dX7_behind_26 (fun H locs hR hS => ?_)
      refine lv_istore_n (lv' := [(3, .int q26.1), (0, .ref (B + 35)), (1, .int x1), (2, .int x2)]) hx hb dX7_behind_29 rfl hl (by decide) rfl (fun ls hl => ?_)
      refine lv_iload_n hx hb dX7_behind_30 rfl (lv_at hl 0 rfl) ?_
      refine lv_bipush (v := (-6)) hx hb dX7_behind_31 (by decide) ?_
      refine lv_icmp_eq (tgt := 40) hx hb dX7_behind_33 (by decide) (fun q => ?_) (fun q => ?_)
      · have h := ax_ip q h
        refine lv_iload_n hx hb dX7_behind_40 rfl (lv_at hl 3 rfl) ?_
        refine lv_iconst (v := 3) hx hb dX7_behind_41 (by decide) ?_
        refine lv_icmp_ge (tgt := 59) hx hb dX7_behind_42 (by decide) (fun q => ?_) (fun q => ?_)
        · have h := ax_ip q h
          refine lv_aload_n hx hb dX7_behind_59 rfl (lv_at hl 1 rfl) ?_
          refine ax_getV hx hb hts hown hK hR fl_X7_70 (lk_35 hL) rfl dX7_behind_60 ?_
          refine lv_iload_n hx hb dX7_behind_63 rfl (lv_at hl 3 rfl) ?_
          refine lv_iconst (v := 3) hx hb dX7_behind_64 (by decide) ?_
          refine lv_icmp_ne (tgt := 73) hx hb dX7_behind_65 (by decide) (fun q => ?_) (fun q => ?_)
          · have h := ax_iN q h
            refine lv_bipush (v := 18) hx hb dX7_behind_73 (by decide) ?_
            exact t_X7_behind_75 hL C  _ _ _ h H locs cells slots ls hc hz hR hS (lv_sub hl [2] rfl)
          · have h := ax_ip q h
            refine lv_bipush (v := 77) hx hb dX7_behind_68 (by decide) ?_
            refine lv_goto (tgt := 75) hx hb dX7_behind_70 (by decide) ?_
            exact t_X7_behind_75 hL C  _ _ _ h H locs cells slots ls hc hz hR hS (lv_sub hl [2] rfl)
        · have h := ax_iN q h
          refine lv_aload_n hx hb dX7_behind_45 rfl (lv_at hl 1 rfl) ?_
          refine ax_getV hx hb hts hown hK hR fl_X7_70 (lk_35 hL) rfl dX7_behind_46 ?_
          refine lv_bipush (v := 6) hx hb dX7_behind_49 (by decide) ?_
          refine lv_iload_n hx hb dX7_behind_51 rfl (lv_at hl 3 rfl) ?_
          refine lv_imul hx hb dX7_behind_52 ?_
          refine lv_iload_n hx hb dX7_behind_53 rfl (lv_at hl 2 rfl) ?_
          refine lv_iadd hx hb dX7_behind_54 ?_
          obtain ⟨hq, h⟩ := ax_ck h
          refine ax_iald hx hb hK hR (lk_56 hL) hq dX7_behind_55 ?_
          refine lv_goto (tgt := 78) hx hb dX7_behind_56 (by decide) ?_
          cases h
          exact ax_iret C hc hz hR hS rfl rfl dX7_behind_78
      · have h := ax_iN q h
        refine lv_iload_n hx hb dX7_behind_36 rfl (lv_at hl 0 rfl) ?_
        refine lv_goto (tgt := 78) hx hb dX7_behind_37 (by decide) ?_
        cases h
        exact ax_iret C hc hz hR hS rfl rfl dX7_behind_78
    · have h := ax_ip q h
      refine lv_bipush (v := (-2)) hx hb dX7_behind_22 (by decide) ?_
      cases h
      exact ax_iret C hc hz hR hS rfl rfl dX7_behind_24
  · have h := ax_ip q h
    refine lv_iconst (v := (-1)) hx hb dX7_behind_8 (by decide) ?_
    cases h
    exact ax_iret C hc hz hR hS rfl rfl dX7_behind_9
theorem M_X7_behind {l : Launch} {E : ax_E} {B : Nat} {lay : List ax_S} {I : ax_I} {J : ax_J} {x1 : Int32} {x2 : Int32} {rv : Int32} {I9 : ax_I} (hL : ax_LL B lay) (h : F_X7_behind I x1 x2 = some (rv, I9)) : Cm l yX7_behind cX7_behind 4 (some .int) 18 E B [.ref (B + 35), .int x1, .int x2] lay I J (some (.int rv)) lay I9 J :=
  ax_met (by decide) (Nat.le_of_ble_eq_true rfl) (fun p e R s m args below meth c C => t_X7_behind_0 hL C _ _ _ h)
def f_X7_holds_92 (r56 : ax_I → Int32 → Int32 → Int32 → Int32 → Option (Int32 × ax_I)) (I : ax_I) (x1 : Int32) (x2 : Int32) (x5 : Int32) (s0 : Int32) (s1 : Int32) : Option (Int32 × ax_I) :=
  r56 I x1 x2 (s1 ||| s0) (x5 + 1)
def f_X7_holds_56 : Nat → ax_I → Int32 → Int32 → Int32 → Int32 → Option (Int32 × ax_I)
  | 0, _, _, _, _, _ => none
  | n + 1, I, x1, x2, x4, x5 => if 8 ≤ x5 then some (x4, I) else if ax_in ((24 + (8 * x2)) + x5) 83 = true then if (I 56 ((24 + (8 * x2)) + x5).toNatClampNeg) = x1 then f_X7_holds_92 (f_X7_holds_56 n) I x1 x2 x5 ((1 : Int32) <<< (x5 &&& 31)) x4 else f_X7_holds_92 (f_X7_holds_56 n) I x1 x2 x5 0 x4 else none
def f_X7_holds_22 (I : ax_I) (x1 : Int32) (x2 : Int32) : Option (Int32 × ax_I) :=
  (F_X7_refusal I).bind (fun q23 => if q23.1 = (-6) then (if x2 = (-1) then (if ax_in (72 + x1) 83 = true then some ((q23.2 56 (72 + x1).toNatClampNeg), q23.2) else none) else f_X7_holds_56 ax_N q23.2 x1 x2 0 0) else some (q23.1, q23.2))
def F_X7_holds (I : ax_I) (x1 : Int32) (x2 : Int32) : Option (Int32 × ax_I) :=
  (F_X7_isParish I x1).bind (fun q1 => if q1 = 0 then some ((-1), I) else if x2 = (-1) then f_X7_holds_22 I x1 x2 else (F_X7_isChild I x2).bind (fun q14 => if q14 = 0 then some ((-1), I) else f_X7_holds_22 I x1 x2))
set_option maxRecDepth 100000 in
set_option maxHeartbeats 4000000 in
theorem t_X7_holds_92 {lay : List ax_S} {J : ax_J} {rv : Int32} {I9 : ax_I} (hL : ax_LL B lay) (C : ax_C p R s m args meth c yX7_holds cX7_holds 6 (some .int) 18 E mc ms) {r56 : ax_I → Int32 → Int32 → Int32 → Int32 → Option (Int32 × ax_I)} (hr56 : ∀ (I : ax_I) (x1 : Int32) (x2 : Int32) (x4 : Int32) (x5 : Int32), r56 I x1 x2 x4 x5 = some (rv, I9) → AM p l e R s m args below meth c E B lay.length (ax_z lay) 6 (some (.int rv)) lay I9 J lay I J 56 [(0, .ref (B + 35)), (1, .int x1), (2, .int x2), (4, .int x4), (5, .int x5)] []) : ∀ (I : ax_I) (x1 : Int32) (x2 : Int32) (x5 : Int32) (s0 : Int32) (s1 : Int32), f_X7_holds_92 r56 I x1 x2 x5 s0 s1 = some (rv, I9) → AM p l e R s m args below meth c E B lay.length (ax_z lay) 6 (some (.int rv)) lay I9 J lay I J 92 [(0, .ref (B + 35)), (1, .int x1), (2, .int x2), (5, .int x5)] [.int s0, .int s1] := by
  obtain ⟨hx, hb, hr, hml, hown, hts, hlocks, hK, hfr, hlo, hmc, hms, hnm⟩ := id C
  have hown : s.vm.findClass RX7 = some m.cls := hown
  intro I x1 x2 x5 s0 s1 h H locs cells slots ls hc hz hR hS hl
  unfold f_X7_holds_92 at h
  refine lv_ior hx hb dX7_holds_92 ?_
  refine lv_istore (lv' := [(4, .int (s1 ||| s0)), (0, .ref (B + 35)), (1, .int x1), (2, .int x2), (5, .int x5)]) hx hb dX7_holds_93 hl (by decide) rfl (fun ls hl => ?_)
  refine lv_iinc (v := (x5 + 1)) (lv' := [(5, .int (x5 + 1)), (4, .int (s1 ||| s0)), (0, .ref (B + 35)), (1, .int x1), (2, .int x2)]) hx hb dX7_holds_95 hl (k := 4) rfl rfl (by decide) rfl (fun ls hl => ?_)
  refine lv_goto (tgt := 56) hx hb dX7_holds_98 (by decide) ?_
  exact hr56 _ _ _ _ _ h H locs cells slots ls hc hz hR hS (lv_sub hl [2, 3, 4, 1, 0] rfl)
set_option maxRecDepth 100000 in
set_option maxHeartbeats 4000000 in
theorem t_X7_holds_56 {lay : List ax_S} {J : ax_J} {rv : Int32} {I9 : ax_I} (hL : ax_LL B lay) (C : ax_C p R s m args meth c yX7_holds cX7_holds 6 (some .int) 18 E mc ms) : ∀ (n : Nat) (I : ax_I) (x1 : Int32) (x2 : Int32) (x4 : Int32) (x5 : Int32), f_X7_holds_56 n I x1 x2 x4 x5 = some (rv, I9) → AM p l e R s m args below meth c E B lay.length (ax_z lay) 6 (some (.int rv)) lay I9 J lay I J 56 [(0, .ref (B + 35)), (1, .int x1), (2, .int x2), (4, .int x4), (5, .int x5)] [] := by
  obtain ⟨hx, hb, hr, hml, hown, hts, hlocks, hK, hfr, hlo, hmc, hms, hnm⟩ := id C
  have hown : s.vm.findClass RX7 = some m.cls := hown
  intro n
  induction n with
  | zero => intro I x1 x2 x4 x5 h; cases h
  | succ n ih =>
    intro I x1 x2 x4 x5 h H locs cells slots ls hc hz hR hS hl
    rw [f_X7_holds_56] at h
    refine lv_iload hx hb dX7_holds_56 (lv_at hl 4 rfl) ?_
    refine lv_bipush (v := 8) hx hb dX7_holds_58 (by decide) ?_
    refine lv_icmp_ge (tgt := 101) hx hb dX7_holds_60 (by decide) (fun q => ?_) (fun q => ?_)
    · have h := ax_ip q h
      refine lv_iload hx hb dX7_holds_101 (lv_at hl 3 rfl) ?_
      cases h
      exact ax_iret C hc hz hR hS rfl rfl dX7_holds_103
    · have h := ax_iN q h
      refine lv_iload hx hb dX7_holds_63 (lv_at hl 3 rfl) ?_
      refine lv_aload_n hx hb dX7_holds_65 rfl (lv_at hl 0 rfl) ?_
      refine ax_getV hx hb hts hown hK hR fl_X7_70 (lk_35 hL) rfl dX7_holds_66 ?_
      refine lv_bipush (v := 24) hx hb dX7_holds_69 (by decide) ?_
      refine lv_bipush (v := 8) hx hb dX7_holds_71 (by decide) ?_
      refine lv_iload_n hx hb dX7_holds_73 rfl (lv_at hl 2 rfl) ?_
      refine lv_imul hx hb dX7_holds_74 ?_
      refine lv_iadd hx hb dX7_holds_75 ?_
      refine lv_iload hx hb dX7_holds_76 (lv_at hl 4 rfl) ?_
      refine lv_iadd hx hb dX7_holds_78 ?_
      obtain ⟨hq, h⟩ := ax_ck h
      refine ax_iald hx hb hK hR (lk_56 hL) hq dX7_holds_79 ?_
      refine lv_iload_n hx hb dX7_holds_80 rfl (lv_at hl 1 rfl) ?_
      refine lv_icmp_ne (tgt := 91) hx hb dX7_holds_81 (by decide) (fun q => ?_) (fun q => ?_)
      · have h := ax_iN q h
        refine lv_iconst (v := 0) hx hb dX7_holds_91 (by decide) ?_
        exact t_X7_holds_92 hL C ih _ _ _ _ _ _ h H locs cells slots ls hc hz hR hS (lv_sub hl [0, 1, 2, 4] rfl)
      · have h := ax_ip q h
        refine lv_iconst (v := 1) hx hb dX7_holds_84 (by decide) ?_
        refine lv_iload hx hb dX7_holds_85 (lv_at hl 4 rfl) ?_
        refine lv_ishl hx hb dX7_holds_87 ?_
        refine lv_goto (tgt := 92) hx hb dX7_holds_88 (by decide) ?_
        exact t_X7_holds_92 hL C ih _ _ _ _ _ _ h H locs cells slots ls hc hz hR hS (lv_sub hl [0, 1, 2, 4] rfl)
set_option maxRecDepth 100000 in
set_option maxHeartbeats 4000000 in
theorem t_X7_holds_22 {lay : List ax_S} {J : ax_J} {rv : Int32} {I9 : ax_I} (hL : ax_LL B lay) (C : ax_C p R s m args meth c yX7_holds cX7_holds 6 (some .int) 18 E mc ms) : ∀ (I : ax_I) (x1 : Int32) (x2 : Int32), f_X7_holds_22 I x1 x2 = some (rv, I9) → AM p l e R s m args below meth c E B lay.length (ax_z lay) 6 (some (.int rv)) lay I9 J lay I J 22 [(0, .ref (B + 35)), (1, .int x1), (2, .int x2)] [] := by
  obtain ⟨hx, hb, hr, hml, hown, hts, hlocks, hK, hfr, hlo, hmc, hms, hnm⟩ := id C
  have hown : s.vm.findClass RX7 = some m.cls := hown
  intro I x1 x2 h H locs cells slots ls hc hz hR hS hl
  unfold f_X7_holds_22 at h
  refine lv_aload_n hx hb dX7_holds_22 rfl (lv_at hl 0 rfl) ?_
  obtain ⟨q23, hq, h⟩ := ax_bd h
  refine ax_cV (rest := []) (st1 := [.int q23.1]) C hc hz hS hR (M_X7_refusal hL hq) yk_X7_refusal in_X7_refusal se_X7_refusal ml_X7_227 (lk_35 hL) rfl rfl (by decide) rfl hl.1 (Nat.le_of_ble_eq_true rfl) rfl rfl dX7_holds_23 (fun H locs hR hS => ?_)
  refine lv_istore_n (lv' := [(3, .int q23.1), (0, .ref (B + 35)), (1, .int x1), (2, .int x2)]) hx hb dX7_holds_26 rfl hl (by decide) rfl (fun ls hl => ?_)
  refine lv_iload_n hx hb dX7_holds_27 rfl (lv_at hl 0 rfl) ?_
  refine lv_bipush (v := (-6)) hx hb dX7_holds_28 (by decide) ?_
  refine lv_icmp_eq (tgt := 35) hx hb dX7_holds_30 (by decide) (fun q => ?_) (fun q => ?_)
  · have h := ax_ip q h
    refine lv_iload_n hx hb dX7_holds_35 rfl (lv_at hl 3 rfl) ?_
    refine lv_iconst (v := (-1)) hx hb dX7_holds_36 (by decide) ?_
    refine lv_icmp_ne (tgt := 50) hx hb dX7_holds_37 (by decide) (fun q => ?_) (fun q => ?_)
    · have h := ax_iN q h
      refine lv_iconst (v := 0) hx hb dX7_holds_50 (by decide) ?_
      refine lv_istore (lv' := [(4, .int 0), (3, .int q23.1), (0, .ref (B + 35)), (1, .int x1), (2, .int x2)]) hx hb dX7_holds_51 hl (by decide) rfl (fun ls hl => ?_)
      refine lv_iconst (v := 0) hx hb dX7_holds_53 (by decide) ?_
      refine lv_istore (lv' := [(5, .int 0), (4, .int 0), (3, .int q23.1), (0, .ref (B + 35)), (1, .int x1), (2, .int x2)]) hx hb dX7_holds_54 hl (by decide) rfl (fun ls hl => ?_)
      exact t_X7_holds_56 hL C  ax_N _ _ _ _ _ h H locs cells slots ls hc hz hR hS (lv_sub hl [3, 4, 5, 1, 0] rfl)
    · have h := ax_ip q h
      refine lv_aload_n hx hb dX7_holds_40 rfl (lv_at hl 1 rfl) ?_
      refine ax_getV hx hb hts hown hK hR fl_X7_70 (lk_35 hL) rfl dX7_holds_41 ?_
      refine lv_bipush (v := 72) hx hb dX7_holds_44 (by decide) ?_
      refine lv_iload_n hx hb dX7_holds_46 rfl (lv_at hl 2 rfl) ?_
      refine lv_iadd hx hb dX7_holds_47 ?_
      obtain ⟨hq, h⟩ := ax_ck h
      refine ax_iald hx hb hK hR (lk_56 hL) hq dX7_holds_48 ?_
      cases h
      exact ax_iret C hc hz hR hS rfl rfl dX7_holds_49
  · have h := ax_iN q h
    refine lv_iload_n hx hb dX7_holds_33 rfl (lv_at hl 0 rfl) ?_
    cases h
    exact ax_iret C hc hz hR hS rfl rfl dX7_holds_34
set_option maxRecDepth 100000 in
set_option maxHeartbeats 4000000 in
theorem t_X7_holds_0 {lay : List ax_S} {J : ax_J} {rv : Int32} {I9 : ax_I} (hL : ax_LL B lay) (C : ax_C p R s m args meth c yX7_holds cX7_holds 6 (some .int) 18 E mc ms) : ∀ (I : ax_I) (x1 : Int32) (x2 : Int32), F_X7_holds I x1 x2 = some (rv, I9) → AM p l e R s m args below meth c E B lay.length (ax_z lay) 6 (some (.int rv)) lay I9 J lay I J 0 [(0, .ref (B + 35)), (1, .int x1), (2, .int x2)] [] := by
  obtain ⟨hx, hb, hr, hml, hown, hts, hlocks, hK, hfr, hlo, hmc, hms, hnm⟩ := id C
  have hown : s.vm.findClass RX7 = some m.cls := hown
  intro I x1 x2 h H locs cells slots ls hc hz hR hS hl
  unfold F_X7_holds at h
  refine lv_iload_n hx hb dX7_holds_0 rfl (lv_at hl 1 rfl) ?_
  obtain ⟨q1, hq, h⟩ := ax_bd h
  refine ax_cS (rest := []) (st1 := [.int q1]) C hc hz hS hR (M_X7_isParish  hq) yk_X7_isParish st_X7_isParish ml_X7_120 (by decide) rfl hl.1 (Nat.le_of_ble_eq_true rfl) rfl rfl dX7_holds_1 (fun H locs hR hS => ?_)
  refine lv_if_eq (tgt := 20) hx hb dX7_holds_4 (by decide) (fun q => ?_) (fun q => ?_)
  · have h := ax_ip q h
    refine lv_iconst (v := (-1)) hx hb dX7_holds_20 (by decide) ?_
    cases h
    exact ax_iret C hc hz hR hS rfl rfl dX7_holds_21
  · have h := ax_iN q h
    refine lv_iload_n hx hb dX7_holds_7 rfl (lv_at hl 2 rfl) ?_
    refine lv_iconst (v := (-1)) hx hb dX7_holds_8 (by decide) ?_
    refine lv_icmp_eq (tgt := 22) hx hb dX7_holds_9 (by decide) (fun q => ?_) (fun q => ?_)
    · have h := ax_ip q h
      exact t_X7_holds_22 hL C  _ _ _ h H locs cells slots ls hc hz hR hS (lv_sub hl [0, 1, 2] rfl)
    · have h := ax_iN q h
      refine lv_aload_n hx hb dX7_holds_12 rfl (lv_at hl 0 rfl) ?_
      refine lv_iload_n hx hb dX7_holds_13 rfl (lv_at hl 2 rfl) ?_
      obtain ⟨q14, hq, h⟩ := ax_bd h
      refine ax_cV (rest := []) (st1 := [.int q14]) C hc hz hS hR (M_X7_isChild hL hq) yk_X7_isChild in_X7_isChild se_X7_isChild ml_X7_113 (lk_35 hL) rfl rfl (by decide) rfl hl.1 (Nat.le_of_ble_eq_true rfl) rfl rfl dX7_holds_14 (fun H locs hR hS => ?_)
      refine lv_if_ne (tgt := 22) hx hb dX7_holds_17 (by decide) (fun q => ?_) (fun q => ?_)
      · have h := ax_iN q h
        exact t_X7_holds_22 hL C  _ _ _ h H locs cells slots ls hc hz hR hS (lv_sub hl [0, 1, 2] rfl)
      · have h := ax_ip q h
        refine lv_iconst (v := (-1)) hx hb dX7_holds_20 (by decide) ?_
        cases h
        exact ax_iret C hc hz hR hS rfl rfl dX7_holds_21
theorem M_X7_holds {l : Launch} {E : ax_E} {B : Nat} {lay : List ax_S} {I : ax_I} {J : ax_J} {x1 : Int32} {x2 : Int32} {rv : Int32} {I9 : ax_I} (hL : ax_LL B lay) (h : F_X7_holds I x1 x2 = some (rv, I9)) : Cm l yX7_holds cX7_holds 6 (some .int) 18 E B [.ref (B + 35), .int x1, .int x2] lay I J (some (.int rv)) lay I9 J :=
  ax_met (by decide) (Nat.le_of_ble_eq_true rfl) (fun p e R s m args below meth c C => t_X7_holds_0 hL C _ _ _ h)
def F_X7_wrong (I : ax_I) (x1 : Int32) : Option (Int32 × ax_I) :=
  (F_X7_in I ((x1 : Int32).toInt64) 0 1).bind (fun q4 => if q4 = 0 then some ((-2), I) else (F_X7_refusal I).bind (fun q14 => if q14.1 = (-6) then (if x1 = 0 then some ((q14.2 35 25), q14.2) else some ((q14.2 35 26), q14.2)) else some (q14.1, q14.2)))
set_option maxRecDepth 100000 in
set_option maxHeartbeats 4000000 in
theorem t_X7_wrong_0 {lay : List ax_S} {J : ax_J} {rv : Int32} {I9 : ax_I} (hL : ax_LL B lay) (C : ax_C p R s m args meth c yX7_wrong cX7_wrong 3 (some .int) 18 E mc ms) : ∀ (I : ax_I) (x1 : Int32), F_X7_wrong I x1 = some (rv, I9) → AM p l e R s m args below meth c E B lay.length (ax_z lay) 3 (some (.int rv)) lay I9 J lay I J 0 [(0, .ref (B + 35)), (1, .int x1)] [] := by
  obtain ⟨hx, hb, hr, hml, hown, hts, hlocks, hK, hfr, hlo, hmc, hms, hnm⟩ := id C
  have hown : s.vm.findClass RX7 = some m.cls := hown
  intro I x1 h H locs cells slots ls hc hz hR hS hl
  unfold F_X7_wrong at h
  refine lv_iload_n hx hb dX7_wrong_0 rfl (lv_at hl 1 rfl) ?_
  refine lv_i2l hx hb dX7_wrong_1 rfl ?_
  refine lv_lconst (v := 0) hx hb dX7_wrong_2 (by decide) ?_
  refine lv_lconst (v := 1) hx hb dX7_wrong_3 (by decide) ?_
  obtain ⟨q4, hq, h⟩ := ax_bd h
  refine ax_cS (rest := []) (st1 := [.int q4]) C hc hz hS hR (M_X7_in  hq) yk_X7_in st_X7_in ml_X7_89 (by decide) rfl hl.1 (Nat.le_of_ble_eq_true rfl) rfl rfl dX7_wrong_4 (fun H locs hR hS => ?_)
  refine lv_if_ne (tgt := 13) hx hb dX7_wrong_7 (by decide) (fun q => ?_) (fun q => ?_)
  · have h := ax_iN q h
    refine lv_aload_n hx hb dX7_wrong_13 rfl (lv_at hl 0 rfl) ?_
    obtain ⟨q14, hq, h⟩ := ax_bd h
    refine ax_cV (rest := []) (st1 := [.int q14.1]) C hc hz hS hR (M_X7_refusal hL hq) yk_X7_refusal in_X7_refusal se_X7_refusal ml_X7_227 (lk_35 hL) rfl rfl (by decide) rfl hl.1 (Nat.le_of_ble_eq_true rfl) rfl rfl dX7_wrong_14 (fun H locs hR hS => ?_)
    refine lv_istore_n (lv' := [(2, .int q14.1), (0, .ref (B + 35)), (1, .int x1)]) hx hb dX7_wrong_17 rfl hl (by decide) rfl (fun ls hl => ?_)
    refine lv_iload_n hx hb dX7_wrong_18 rfl (lv_at hl 0 rfl) ?_
    refine lv_bipush (v := (-6)) hx hb dX7_wrong_19 (by decide) ?_
    refine lv_icmp_eq (tgt := 28) hx hb dX7_wrong_21 (by decide) (fun q => ?_) (fun q => ?_)
    · have h := ax_ip q h
      refine lv_iload_n hx hb dX7_wrong_28 rfl (lv_at hl 2 rfl) ?_
      refine lv_if_ne (tgt := 39) hx hb dX7_wrong_29 (by decide) (fun q => ?_) (fun q => ?_)
      · have h := ax_iN q h
        refine lv_aload_n hx hb dX7_wrong_39 rfl (lv_at hl 1 rfl) ?_
        refine ax_getI hx hb hts hown hK hR fl_X7_191 (lk_35 hL) rfl dX7_wrong_40 ?_
        cases h
        exact ax_iret C hc hz hR hS rfl rfl dX7_wrong_43
      · have h := ax_ip q h
        refine lv_aload_n hx hb dX7_wrong_32 rfl (lv_at hl 1 rfl) ?_
        refine ax_getI hx hb hts hown hK hR fl_X7_185 (lk_35 hL) rfl dX7_wrong_33 ?_
        refine lv_goto (tgt := 43) hx hb dX7_wrong_36 (by decide) ?_
        cases h
        exact ax_iret C hc hz hR hS rfl rfl dX7_wrong_43
    · have h := ax_iN q h
      refine lv_iload_n hx hb dX7_wrong_24 rfl (lv_at hl 0 rfl) ?_
      refine lv_goto (tgt := 43) hx hb dX7_wrong_25 (by decide) ?_
      cases h
      exact ax_iret C hc hz hR hS rfl rfl dX7_wrong_43
  · have h := ax_ip q h
    refine lv_bipush (v := (-2)) hx hb dX7_wrong_10 (by decide) ?_
    cases h
    exact ax_iret C hc hz hR hS rfl rfl dX7_wrong_12
theorem M_X7_wrong {l : Launch} {E : ax_E} {B : Nat} {lay : List ax_S} {I : ax_I} {J : ax_J} {x1 : Int32} {rv : Int32} {I9 : ax_I} (hL : ax_LL B lay) (h : F_X7_wrong I x1 = some (rv, I9)) : Cm l yX7_wrong cX7_wrong 3 (some .int) 18 E B [.ref (B + 35), .int x1] lay I J (some (.int rv)) lay I9 J :=
  ax_met (by decide) (Nat.le_of_ble_eq_true rfl) (fun p e R s m args below meth c C => t_X7_wrong_0 hL C _ _ h)
def F_X7_done (I : ax_I) : Option (Int32 × ax_I) :=
  (F_X7_refusal I).bind (fun q1 => if q1.1 = (-6) then (F_X7_goYears q1.2).bind (fun q14 => some (((ax_u q14 35 18 0) 35 23), (ax_u q14 35 18 0))) else some (q1.1, q1.2))
set_option maxRecDepth 100000 in
set_option maxHeartbeats 4000000 in
theorem t_X7_done_0 {lay : List ax_S} {J : ax_J} {rv : Int32} {I9 : ax_I} (hL : ax_LL B lay) (C : ax_C p R s m args meth c yX7_done cX7_done 2 (some .int) 18 E mc ms) : ∀ (I : ax_I), F_X7_done I = some (rv, I9) → AM p l e R s m args below meth c E B lay.length (ax_z lay) 2 (some (.int rv)) lay I9 J lay I J 0 [(0, .ref (B + 35))] [] := by
  obtain ⟨hx, hb, hr, hml, hown, hts, hlocks, hK, hfr, hlo, hmc, hms, hnm⟩ := id C
  have hown : s.vm.findClass RX7 = some m.cls := hown
  intro I h H locs cells slots ls hc hz hR hS hl
  unfold F_X7_done at h
  refine lv_aload_n hx hb dX7_done_0 rfl (lv_at hl 0 rfl) ?_
  obtain ⟨q1, hq, h⟩ := ax_bd h
  refine ax_cV (rest := []) (st1 := [.int q1.1]) C hc hz hS hR (M_X7_refusal hL hq) yk_X7_refusal in_X7_refusal se_X7_refusal ml_X7_227 (lk_35 hL) rfl rfl (by decide) rfl hl.1 (Nat.le_of_ble_eq_true rfl) rfl rfl dX7_done_1 (fun H locs hR hS => ?_)
  refine lv_istore_n (lv' := [(1, .int q1.1), (0, .ref (B + 35))]) hx hb dX7_done_4 rfl hl (by decide) rfl (fun ls hl => ?_)
  refine lv_iload_n hx hb dX7_done_5 rfl (lv_at hl 0 rfl) ?_
  refine lv_bipush (v := (-6)) hx hb dX7_done_6 (by decide) ?_
  refine lv_icmp_eq (tgt := 13) hx hb dX7_done_8 (by decide) (fun q => ?_) (fun q => ?_)
  · have h := ax_ip q h
    refine lv_aload_n hx hb dX7_done_13 rfl (lv_at hl 1 rfl) ?_
    obtain ⟨q14, hq, h⟩ := ax_bd h
    refine ax_cV (rest := []) (st1 := []) C hc hz hS hR (M_X7_goYears hL hq) yk_X7_goYears in_X7_goYears se_X7_goYears ml_X7_221 (lk_35 hL) rfl rfl (by decide) rfl hl.1 (Nat.le_of_ble_eq_true rfl) rfl rfl dX7_done_14 (fun H locs hR hS => ?_)
    refine lv_aload_n hx hb dX7_done_17 rfl (lv_at hl 1 rfl) ?_
    refine lv_iconst (v := 0) hx hb dX7_done_18 (by decide) ?_
    refine ax_putI hx hb hts hown hK hR hS fp_X7_135 (lk_35 hL) rfl rfl rfl dX7_done_19 (fun H locs hR hS => ?_)
    refine lv_aload_n hx hb dX7_done_22 rfl (lv_at hl 1 rfl) ?_
    refine ax_getI hx hb hts hown hK hR fl_X7_146 (lk_35 hL) rfl dX7_done_23 ?_
    cases h
    exact ax_iret C hc hz hR hS rfl rfl dX7_done_26
  · have h := ax_iN q h
    refine lv_iload_n hx hb dX7_done_11 rfl (lv_at hl 0 rfl) ?_
    cases h
    exact ax_iret C hc hz hR hS rfl rfl dX7_done_12
theorem M_X7_done {l : Launch} {E : ax_E} {B : Nat} {lay : List ax_S} {I : ax_I} {J : ax_J} {rv : Int32} {I9 : ax_I} (hL : ax_LL B lay) (h : F_X7_done I = some (rv, I9)) : Cm l yX7_done cX7_done 2 (some .int) 18 E B [.ref (B + 35)] lay I J (some (.int rv)) lay I9 J :=
  ax_met (by decide) (Nat.le_of_ble_eq_true rfl) (fun p e R s m args below meth c C => t_X7_done_0 hL C _ h)
def f_X7_saints_26 (r4 : ax_I → Int32 → Int32 → Option (Int32)) (I : ax_I) (x2 : Int32) (s0 : Int32) (s1 : Int32) : Option Int32 :=
  r4 I (s1 ||| s0) (x2 + 1)
def f_X7_saints_4 : Nat → ax_I → Int32 → Int32 → Option Int32
  | 0, _, _, _ => none
  | n + 1, I, x1, x2 => if 6 ≤ x2 then some x1 else (F_X7_isSaint I x2).bind (fun q13 => if q13 = 0 then f_X7_saints_26 (f_X7_saints_4 n) I x2 0 x1 else f_X7_saints_26 (f_X7_saints_4 n) I x2 ((1 : Int32) <<< (x2 &&& 31)) x1)
def F_X7_saints (I : ax_I) : Option Int32 :=
  f_X7_saints_4 ax_N I 0 0
set_option maxRecDepth 100000 in
set_option maxHeartbeats 4000000 in
theorem t_X7_saints_26 {lay : List ax_S} {J : ax_J} {rv : Int32} (hL : ax_LL B lay) (C : ax_C p R s m args meth c yX7_saints cX7_saints 3 (some .int) 10 E mc ms) {r4 : ax_I → Int32 → Int32 → Option (Int32)} (hr4 : ∀ (I : ax_I) (x1 : Int32) (x2 : Int32), r4 I x1 x2 = some rv → AM p l e R s m args below meth c E B lay.length (ax_z lay) 3 (some (.int rv)) lay I J lay I J 4 [(0, .ref (B + 35)), (1, .int x1), (2, .int x2)] []) : ∀ (I : ax_I) (x2 : Int32) (s0 : Int32) (s1 : Int32), f_X7_saints_26 r4 I x2 s0 s1 = some rv → AM p l e R s m args below meth c E B lay.length (ax_z lay) 3 (some (.int rv)) lay I J lay I J 26 [(0, .ref (B + 35)), (2, .int x2)] [.int s0, .int s1] := by
  obtain ⟨hx, hb, hr, hml, hown, hts, hlocks, hK, hfr, hlo, hmc, hms, hnm⟩ := id C
  have hown : s.vm.findClass RX7 = some m.cls := hown
  intro I x2 s0 s1 h H locs cells slots ls hc hz hR hS hl
  unfold f_X7_saints_26 at h
  refine lv_ior hx hb dX7_saints_26 ?_
  refine lv_istore_n (lv' := [(1, .int (s1 ||| s0)), (0, .ref (B + 35)), (2, .int x2)]) hx hb dX7_saints_27 rfl hl (by decide) rfl (fun ls hl => ?_)
  refine lv_iinc (v := (x2 + 1)) (lv' := [(2, .int (x2 + 1)), (1, .int (s1 ||| s0)), (0, .ref (B + 35))]) hx hb dX7_saints_28 hl (k := 2) rfl rfl (by decide) rfl (fun ls hl => ?_)
  refine lv_goto (tgt := 4) hx hb dX7_saints_31 (by decide) ?_
  exact hr4 _ _ _ h H locs cells slots ls hc hz hR hS (lv_sub hl [2, 1, 0] rfl)
set_option maxRecDepth 100000 in
set_option maxHeartbeats 4000000 in
theorem t_X7_saints_4 {lay : List ax_S} {J : ax_J} {rv : Int32} (hL : ax_LL B lay) (C : ax_C p R s m args meth c yX7_saints cX7_saints 3 (some .int) 10 E mc ms) : ∀ (n : Nat) (I : ax_I) (x1 : Int32) (x2 : Int32), f_X7_saints_4 n I x1 x2 = some rv → AM p l e R s m args below meth c E B lay.length (ax_z lay) 3 (some (.int rv)) lay I J lay I J 4 [(0, .ref (B + 35)), (1, .int x1), (2, .int x2)] [] := by
  obtain ⟨hx, hb, hr, hml, hown, hts, hlocks, hK, hfr, hlo, hmc, hms, hnm⟩ := id C
  have hown : s.vm.findClass RX7 = some m.cls := hown
  intro n
  induction n with
  | zero => intro I x1 x2 h; cases h
  | succ n ih =>
    intro I x1 x2 h H locs cells slots ls hc hz hR hS hl
    rw [f_X7_saints_4] at h
    refine lv_iload_n hx hb dX7_saints_4 rfl (lv_at hl 2 rfl) ?_
    refine lv_bipush (v := 6) hx hb dX7_saints_5 (by decide) ?_
    refine lv_icmp_ge (tgt := 34) hx hb dX7_saints_7 (by decide) (fun q => ?_) (fun q => ?_)
    · have h := ax_ip q h
      refine lv_iload_n hx hb dX7_saints_34 rfl (lv_at hl 1 rfl) ?_
      cases h
      exact ax_iret C hc hz hR hS rfl rfl dX7_saints_35
    · have h := ax_iN q h
      refine lv_iload_n hx hb dX7_saints_10 rfl (lv_at hl 1 rfl) ?_
      refine lv_aload_n hx hb dX7_saints_11 rfl (lv_at hl 0 rfl) ?_
      refine lv_iload_n hx hb dX7_saints_12 rfl (lv_at hl 2 rfl) ?_
      obtain ⟨q13, hq, h⟩ := ax_bd h
      refine ax_cV (rest := [.int x1]) (st1 := [.int q13, .int x1]) C hc hz hS hR (M_X7_isSaint hL hq) yk_X7_isSaint in_X7_isSaint se_X7_isSaint ml_X7_182 (lk_35 hL) rfl rfl (by decide) rfl hl.1 (Nat.le_of_ble_eq_true rfl) rfl rfl dX7_saints_13 (fun H locs hR hS => ?_)
      refine lv_if_eq (tgt := 25) hx hb dX7_saints_16 (by decide) (fun q => ?_) (fun q => ?_)
      · have h := ax_ip q h
        refine lv_iconst (v := 0) hx hb dX7_saints_25 (by decide) ?_
        exact t_X7_saints_26 hL C ih _ _ _ _ h H locs cells slots ls hc hz hR hS (lv_sub hl [0, 2] rfl)
      · have h := ax_iN q h
        refine lv_iconst (v := 1) hx hb dX7_saints_19 (by decide) ?_
        refine lv_iload_n hx hb dX7_saints_20 rfl (lv_at hl 2 rfl) ?_
        refine lv_ishl hx hb dX7_saints_21 ?_
        refine lv_goto (tgt := 26) hx hb dX7_saints_22 (by decide) ?_
        exact t_X7_saints_26 hL C ih _ _ _ _ h H locs cells slots ls hc hz hR hS (lv_sub hl [0, 2] rfl)
set_option maxRecDepth 100000 in
set_option maxHeartbeats 4000000 in
theorem t_X7_saints_0 {lay : List ax_S} {J : ax_J} {rv : Int32} (hL : ax_LL B lay) (C : ax_C p R s m args meth c yX7_saints cX7_saints 3 (some .int) 10 E mc ms) : ∀ (I : ax_I), F_X7_saints I = some rv → AM p l e R s m args below meth c E B lay.length (ax_z lay) 3 (some (.int rv)) lay I J lay I J 0 [(0, .ref (B + 35))] [] := by
  obtain ⟨hx, hb, hr, hml, hown, hts, hlocks, hK, hfr, hlo, hmc, hms, hnm⟩ := id C
  have hown : s.vm.findClass RX7 = some m.cls := hown
  intro I h H locs cells slots ls hc hz hR hS hl
  unfold F_X7_saints at h
  refine lv_iconst (v := 0) hx hb dX7_saints_0 (by decide) ?_
  refine lv_istore_n (lv' := [(1, .int 0), (0, .ref (B + 35))]) hx hb dX7_saints_1 rfl hl (by decide) rfl (fun ls hl => ?_)
  refine lv_iconst (v := 0) hx hb dX7_saints_2 (by decide) ?_
  refine lv_istore_n (lv' := [(2, .int 0), (1, .int 0), (0, .ref (B + 35))]) hx hb dX7_saints_3 rfl hl (by decide) rfl (fun ls hl => ?_)
  exact t_X7_saints_4 hL C  ax_N _ _ _ h H locs cells slots ls hc hz hR hS (lv_sub hl [2, 1, 0] rfl)
theorem M_X7_saints {l : Launch} {E : ax_E} {B : Nat} {lay : List ax_S} {I : ax_I} {J : ax_J} {rv : Int32} (hL : ax_LL B lay) (h : F_X7_saints I = some rv) : Cm l yX7_saints cX7_saints 3 (some .int) 10 E B [.ref (B + 35)] lay I J (some (.int rv)) lay I J :=
  ax_met (by decide) (Nat.le_of_ble_eq_true rfl) (fun p e R s m args below meth c C => t_X7_saints_0 hL C _ h)
def F_X7_over (I : ax_I) (x0 : Int32) : Option Int32 :=
  if x0 ≤ 0 then some 0 else some x0
set_option maxRecDepth 100000 in
set_option maxHeartbeats 4000000 in
theorem t_X7_over_0 {lay : List ax_S} {J : ax_J} {rv : Int32} (C : ax_C p R s m args meth c yX7_over cX7_over 1 (some .int) 2 E mc ms) : ∀ (I : ax_I) (x0 : Int32), F_X7_over I x0 = some rv → AM p l e R s m args below meth c E B lay.length (ax_z lay) 1 (some (.int rv)) lay I J lay I J 0 [(0, .int x0)] [] := by
  obtain ⟨hx, hb, hr, hml, hown, hts, hlocks, hK, hfr, hlo, hmc, hms, hnm⟩ := id C
  have hown : s.vm.findClass RX7 = some m.cls := hown
  intro I x0 h H locs cells slots ls hc hz hR hS hl
  unfold F_X7_over at h
  refine lv_iload_n hx hb dX7_over_0 rfl (lv_at hl 0 rfl) ?_
  refine lv_if_le (tgt := 8) hx hb dX7_over_1 (by decide) (fun q => ?_) (fun q => ?_)
  · have h := ax_ip q h
    refine lv_iconst (v := 0) hx hb dX7_over_8 (by decide) ?_
    cases h
    exact ax_iret C hc hz hR hS rfl rfl dX7_over_9
  · have h := ax_iN q h
    refine lv_iload_n hx hb dX7_over_4 rfl (lv_at hl 0 rfl) ?_
    refine lv_goto (tgt := 9) hx hb dX7_over_5 (by decide) ?_
    cases h
    exact ax_iret C hc hz hR hS rfl rfl dX7_over_9
theorem M_X7_over {l : Launch} {E : ax_E} {B : Nat} {lay : List ax_S} {I : ax_I} {J : ax_J} {x0 : Int32} {rv : Int32} (h : F_X7_over I x0 = some rv) : Cm l yX7_over cX7_over 1 (some .int) 2 E B [.int x0] lay I J (some (.int rv)) lay I J :=
  ax_met (by decide) (Nat.le_of_ble_eq_true rfl) (fun p e R s m args below meth c C => t_X7_over_0  C _ _ h)
def F_X7_lacks (I : ax_I) (x1 : Int32) : Option Int32 :=
  (F_X7_isChild I x1).bind (fun q2 => if q2 = 0 then some (-1) else if ax_in x1 6 = true then if (I 39 x1.toNatClampNeg) = 1 then some (-3) else if ax_in x1 6 = true then (F_X7_over I ((I 45 (0 : Int32).toNatClampNeg) - (I 36 x1.toNatClampNeg))).bind (fun q36 => if ax_in x1 6 = true then (F_X7_over I ((I 37 x1.toNatClampNeg) - (I 45 (1 : Int32).toNatClampNeg))).bind (fun q52 => if ax_in x1 6 = true then (F_X7_over I ((I 45 (2 : Int32).toNatClampNeg) - (I 38 x1.toNatClampNeg))).bind (fun q69 => some ((q36 + q52) + q69)) else none) else none) else none else none)
set_option maxRecDepth 100000 in
set_option maxHeartbeats 4000000 in
theorem t_X7_lacks_0 {lay : List ax_S} {J : ax_J} {rv : Int32} (hL : ax_LL B lay) (C : ax_C p R s m args meth c yX7_lacks cX7_lacks 2 (some .int) 8 E mc ms) : ∀ (I : ax_I) (x1 : Int32), F_X7_lacks I x1 = some rv → AM p l e R s m args below meth c E B lay.length (ax_z lay) 2 (some (.int rv)) lay I J lay I J 0 [(0, .ref (B + 35)), (1, .int x1)] [] := by
  obtain ⟨hx, hb, hr, hml, hown, hts, hlocks, hK, hfr, hlo, hmc, hms, hnm⟩ := id C
  have hown : s.vm.findClass RX7 = some m.cls := hown
  intro I x1 h H locs cells slots ls hc hz hR hS hl
  unfold F_X7_lacks at h
  refine lv_aload_n hx hb dX7_lacks_0 rfl (lv_at hl 0 rfl) ?_
  refine lv_iload_n hx hb dX7_lacks_1 rfl (lv_at hl 1 rfl) ?_
  obtain ⟨q2, hq, h⟩ := ax_bd h
  refine ax_cV (rest := []) (st1 := [.int q2]) C hc hz hS hR (M_X7_isChild hL hq) yk_X7_isChild in_X7_isChild se_X7_isChild ml_X7_113 (lk_35 hL) rfl rfl (by decide) rfl hl.1 (Nat.le_of_ble_eq_true rfl) rfl rfl dX7_lacks_2 (fun H locs hR hS => ?_)
  refine lv_if_ne (tgt := 10) hx hb dX7_lacks_5 (by decide) (fun q => ?_) (fun q => ?_)
  · have h := ax_iN q h
    refine lv_aload_n hx hb dX7_lacks_10 rfl (lv_at hl 0 rfl) ?_
    refine ax_getV hx hb hts hown hK hR fl_X7_19 (lk_35 hL) rfl dX7_lacks_11 ?_
    refine lv_iload_n hx hb dX7_lacks_14 rfl (lv_at hl 1 rfl) ?_
    obtain ⟨hq, h⟩ := ax_ck h
    refine ax_iald hx hb hK hR (lk_39 hL) hq dX7_lacks_15 ?_
    refine lv_iconst (v := 1) hx hb dX7_lacks_16 (by decide) ?_
    refine lv_icmp_ne (tgt := 23) hx hb dX7_lacks_17 (by decide) (fun q => ?_) (fun q => ?_)
    · have h := ax_iN q h
      refine lv_aload_n hx hb dX7_lacks_23 rfl (lv_at hl 0 rfl) ?_
      refine ax_getV hx hb hts hown hK hR fl_X7_37 (lk_35 hL) rfl dX7_lacks_24 ?_
      refine lv_iconst (v := 0) hx hb dX7_lacks_27 (by decide) ?_
      refine ax_iald hx hb hK hR (lk_45 hL) (by decide) dX7_lacks_28 ?_
      refine lv_aload_n hx hb dX7_lacks_29 rfl (lv_at hl 0 rfl) ?_
      refine ax_getV hx hb hts hown hK hR fl_X7_7 (lk_35 hL) rfl dX7_lacks_30 ?_
      refine lv_iload_n hx hb dX7_lacks_33 rfl (lv_at hl 1 rfl) ?_
      obtain ⟨hq, h⟩ := ax_ck h
      refine ax_iald hx hb hK hR (lk_36 hL) hq dX7_lacks_34 ?_
      refine lv_isub hx hb dX7_lacks_35 ?_
      obtain ⟨q36, hq, h⟩ := ax_bd h
      refine ax_cS (rest := []) (st1 := [.int q36]) C hc hz hS hR (M_X7_over  hq) yk_X7_over st_X7_over ml_X7_232 (by decide) rfl hl.1 (Nat.le_of_ble_eq_true rfl) rfl rfl dX7_lacks_36 (fun H locs hR hS => ?_)
      refine lv_aload_n hx hb dX7_lacks_39 rfl (lv_at hl 0 rfl) ?_
      refine ax_getV hx hb hts hown hK hR fl_X7_13 (lk_35 hL) rfl dX7_lacks_40 ?_
      refine lv_iload_n hx hb dX7_lacks_43 rfl (lv_at hl 1 rfl) ?_
      obtain ⟨hq, h⟩ := ax_ck h
      refine ax_iald hx hb hK hR (lk_37 hL) hq dX7_lacks_44 ?_
      refine lv_aload_n hx hb dX7_lacks_45 rfl (lv_at hl 0 rfl) ?_
      refine ax_getV hx hb hts hown hK hR fl_X7_37 (lk_35 hL) rfl dX7_lacks_46 ?_
      refine lv_iconst (v := 1) hx hb dX7_lacks_49 (by decide) ?_
      refine ax_iald hx hb hK hR (lk_45 hL) (by decide) dX7_lacks_50 ?_
      refine lv_isub hx hb dX7_lacks_51 ?_
      obtain ⟨q52, hq, h⟩ := ax_bd h
      refine ax_cS (rest := [.int q36]) (st1 := [.int q52, .int q36]) C hc hz hS hR (M_X7_over  hq) yk_X7_over st_X7_over ml_X7_232 (by decide) rfl hl.1 (Nat.le_of_ble_eq_true rfl) rfl rfl dX7_lacks_52 (fun H locs hR hS => ?_)
      refine lv_iadd hx hb dX7_lacks_55 ?_
      refine lv_aload_n hx hb dX7_lacks_56 rfl (lv_at hl 0 rfl) ?_
      refine ax_getV hx hb hts hown hK hR fl_X7_37 (lk_35 hL) rfl dX7_lacks_57 ?_
      refine lv_iconst (v := 2) hx hb dX7_lacks_60 (by decide) ?_
      refine ax_iald hx hb hK hR (lk_45 hL) (by decide) dX7_lacks_61 ?_
      refine lv_aload_n hx hb dX7_lacks_62 rfl (lv_at hl 0 rfl) ?_
      refine ax_getV hx hb hts hown hK hR fl_X7_16 (lk_35 hL) rfl dX7_lacks_63 ?_
      refine lv_iload_n hx hb dX7_lacks_66 rfl (lv_at hl 1 rfl) ?_
      obtain ⟨hq, h⟩ := ax_ck h
      refine ax_iald hx hb hK hR (lk_38 hL) hq dX7_lacks_67 ?_
      refine lv_isub hx hb dX7_lacks_68 ?_
      obtain ⟨q69, hq, h⟩ := ax_bd h
      refine ax_cS (rest := [.int (q36 + q52)]) (st1 := [.int q69, .int (q36 + q52)]) C hc hz hS hR (M_X7_over  hq) yk_X7_over st_X7_over ml_X7_232 (by decide) rfl hl.1 (Nat.le_of_ble_eq_true rfl) rfl rfl dX7_lacks_69 (fun H locs hR hS => ?_)
      refine lv_iadd hx hb dX7_lacks_72 ?_
      cases h
      exact ax_iret C hc hz hR hS rfl rfl dX7_lacks_73
    · have h := ax_ip q h
      refine lv_bipush (v := (-3)) hx hb dX7_lacks_20 (by decide) ?_
      cases h
      exact ax_iret C hc hz hR hS rfl rfl dX7_lacks_22
  · have h := ax_ip q h
    refine lv_iconst (v := (-1)) hx hb dX7_lacks_8 (by decide) ?_
    cases h
    exact ax_iret C hc hz hR hS rfl rfl dX7_lacks_9
theorem M_X7_lacks {l : Launch} {E : ax_E} {B : Nat} {lay : List ax_S} {I : ax_I} {J : ax_J} {x1 : Int32} {rv : Int32} (hL : ax_LL B lay) (h : F_X7_lacks I x1 = some rv) : Cm l yX7_lacks cX7_lacks 2 (some .int) 8 E B [.ref (B + 35), .int x1] lay I J (some (.int rv)) lay I J :=
  ax_met (by decide) (Nat.le_of_ble_eq_true rfl) (fun p e R s m args below meth c C => t_X7_lacks_0 hL C _ _ h)
def f_X7_lowest_6 : Nat → ax_I → Int64 → Int64 → Int32 → Int64 → Int64 → Option Int64
  | 0, _, _, _, _, _, _ => none
  | n + 1, I, x0, x2, x4, x5, x7 => if (lg_cmp x7 0) = 0 then (if x4 = 0 then (if ¬ (x5 = 0) then some (x0 / x5) else none) else if ¬ (x5 = 0) then some (x2 / x5) else none) else if ¬ (x7 = 0) then f_X7_lowest_6 n I x0 x2 x4 x7 (x5 - x5 / x7 * x7) else none
def F_X7_lowest (I : ax_I) (x0 : Int64) (x2 : Int64) (x4 : Int32) : Option Int64 :=
  f_X7_lowest_6 ax_N I x0 x2 x4 x2 x0
set_option maxRecDepth 100000 in
set_option maxHeartbeats 4000000 in
theorem t_X7_lowest_6 {lay : List ax_S} {J : ax_J} {rv : Int64} (C : ax_C p R s m args meth c yX7_lowest cX7_lowest 11 (some .long) 2 E mc ms) : ∀ (n : Nat) (I : ax_I) (x0 : Int64) (x2 : Int64) (x4 : Int32) (x5 : Int64) (x7 : Int64), f_X7_lowest_6 n I x0 x2 x4 x5 x7 = some rv → AM p l e R s m args below meth c E B lay.length (ax_z lay) 11 (some (.long rv)) lay I J lay I J 6 [(0, .long x0), (2, .long x2), (4, .int x4), (5, .long x5), (7, .long x7)] [] := by
  obtain ⟨hx, hb, hr, hml, hown, hts, hlocks, hK, hfr, hlo, hmc, hms, hnm⟩ := id C
  have hown : s.vm.findClass RX7 = some m.cls := hown
  intro n
  induction n with
  | zero => intro I x0 x2 x4 x5 x7 h; cases h
  | succ n ih =>
    intro I x0 x2 x4 x5 x7 h H locs cells slots ls hc hz hR hS hl
    rw [f_X7_lowest_6] at h
    refine lv_lload hx hb dX7_lowest_6 (lv_at hl 4 rfl) ?_
    refine lv_lconst (v := 0) hx hb dX7_lowest_8 (by decide) ?_
    refine W.lcmp hx hb dX7_lowest_9 ?_
    refine lv_if_eq (tgt := 31) hx hb dX7_lowest_10 (by decide) (fun q => ?_) (fun q => ?_)
    · have h := ax_ip q h
      refine lv_iload hx hb dX7_lowest_31 (lv_at hl 2 rfl) ?_
      refine lv_if_ne (tgt := 43) hx hb dX7_lowest_33 (by decide) (fun q => ?_) (fun q => ?_)
      · have h := ax_iN q h
        refine lv_lload_n hx hb dX7_lowest_43 rfl (lv_at hl 1 rfl) ?_
        refine lv_lload hx hb dX7_lowest_44 (lv_at hl 3 rfl) ?_
        obtain ⟨hq, h⟩ := ax_ck h
        refine lv_ldiv hx hb dX7_lowest_46 hq ?_
        cases h
        exact ax_lret C hc hz hR hS dX7_lowest_47
      · have h := ax_ip q h
        refine lv_lload_n hx hb dX7_lowest_36 rfl (lv_at hl 0 rfl) ?_
        refine lv_lload hx hb dX7_lowest_37 (lv_at hl 3 rfl) ?_
        obtain ⟨hq, h⟩ := ax_ck h
        refine lv_ldiv hx hb dX7_lowest_39 hq ?_
        refine lv_goto (tgt := 47) hx hb dX7_lowest_40 (by decide) ?_
        cases h
        exact ax_lret C hc hz hR hS dX7_lowest_47
    · have h := ax_iN q h
      refine lv_lload hx hb dX7_lowest_13 (lv_at hl 3 rfl) ?_
      refine lv_lload hx hb dX7_lowest_15 (lv_at hl 4 rfl) ?_
      obtain ⟨hq, h⟩ := ax_ck h
      refine lv_lrem hx hb dX7_lowest_17 hq ?_
      refine lv_lstore (lv' := [(9, .long (x5 - x5 / x7 * x7)), (0, .long x0), (2, .long x2), (4, .int x4), (5, .long x5), (7, .long x7)]) hx hb dX7_lowest_18 hl (by decide) rfl (fun ls hl => ?_)
      refine lv_lload hx hb dX7_lowest_20 (lv_at hl 5 rfl) ?_
      refine lv_lstore (lv' := [(5, .long x7), (9, .long (x5 - x5 / x7 * x7)), (0, .long x0), (2, .long x2), (4, .int x4), (7, .long x7)]) hx hb dX7_lowest_22 hl (by decide) rfl (fun ls hl => ?_)
      refine lv_lload hx hb dX7_lowest_24 (lv_at hl 1 rfl) ?_
      refine lv_lstore (lv' := [(7, .long (x5 - x5 / x7 * x7)), (5, .long x7), (9, .long (x5 - x5 / x7 * x7)), (0, .long x0), (2, .long x2), (4, .int x4)]) hx hb dX7_lowest_26 hl (by decide) rfl (fun ls hl => ?_)
      refine lv_goto (tgt := 6) hx hb dX7_lowest_28 (by decide) ?_
      exact ih _ _ _ _ _ _ h H locs cells slots ls hc hz hR hS (lv_sub hl [3, 4, 5, 1, 0] rfl)
set_option maxRecDepth 100000 in
set_option maxHeartbeats 4000000 in
theorem t_X7_lowest_0 {lay : List ax_S} {J : ax_J} {rv : Int64} (C : ax_C p R s m args meth c yX7_lowest cX7_lowest 11 (some .long) 2 E mc ms) : ∀ (I : ax_I) (x0 : Int64) (x2 : Int64) (x4 : Int32), F_X7_lowest I x0 x2 x4 = some rv → AM p l e R s m args below meth c E B lay.length (ax_z lay) 11 (some (.long rv)) lay I J lay I J 0 [(0, .long x0), (2, .long x2), (4, .int x4)] [] := by
  obtain ⟨hx, hb, hr, hml, hown, hts, hlocks, hK, hfr, hlo, hmc, hms, hnm⟩ := id C
  have hown : s.vm.findClass RX7 = some m.cls := hown
  intro I x0 x2 x4 h H locs cells slots ls hc hz hR hS hl
  unfold F_X7_lowest at h
  refine lv_lload_n hx hb dX7_lowest_0 rfl (lv_at hl 1 rfl) ?_
  refine lv_lstore (lv' := [(5, .long x2), (0, .long x0), (2, .long x2), (4, .int x4)]) hx hb dX7_lowest_1 hl (by decide) rfl (fun ls hl => ?_)
  refine lv_lload_n hx hb dX7_lowest_3 rfl (lv_at hl 1 rfl) ?_
  refine lv_lstore (lv' := [(7, .long x0), (5, .long x2), (0, .long x0), (2, .long x2), (4, .int x4)]) hx hb dX7_lowest_4 hl (by decide) rfl (fun ls hl => ?_)
  exact t_X7_lowest_6  C  ax_N _ _ _ _ _ _ h H locs cells slots ls hc hz hR hS (lv_sub hl [2, 3, 4, 1, 0] rfl)
theorem M_X7_lowest {l : Launch} {E : ax_E} {B : Nat} {lay : List ax_S} {I : ax_I} {J : ax_J} {x0 : Int64} {x2 : Int64} {x4 : Int32} {rv : Int64} (h : F_X7_lowest I x0 x2 x4 = some rv) : Cm l yX7_lowest cX7_lowest 11 (some .long) 2 E B [.long x0, .long x2, .int x4] lay I J (some (.long rv)) lay I J :=
  ax_met (by decide) (Nat.le_of_ble_eq_true rfl) (fun p e R s m args below meth c C => t_X7_lowest_0  C _ _ _ _ h)
def f_X7_yearOdds_83 (r3 : ax_I → ax_J → Int32 → Int32 → Int32 → Option (ax_J)) (I : ax_I) (J : ax_J) (x1 : Int32) (x2 : Int32) (x3 : Int32) : Option ax_J :=
  r3 I J x1 x2 (x3 + (-1))
def f_X7_yearOdds_53 (r3 : ax_I → ax_J → Int32 → Int32 → Int32 → Option (ax_J)) (I : ax_I) (J : ax_J) (x1 : Int32) (x2 : Int32) (x3 : Int32) (x4 : Int64) (s0 : Int64) : Option ax_J :=
  if ax_in x3 81 = true then if ax_in x3 81 = true then f_X7_yearOdds_83 r3 I (ax_v J 57 x3.toNatClampNeg (((((10 - ((x1 : Int32).toInt64)) - ((x2 : Int32).toInt64)) * (J 57 x3.toNatClampNeg)) + x4) + s0)) x1 x2 x3 else none else none
def f_X7_yearOdds_29 (r3 : ax_I → ax_J → Int32 → Int32 → Int32 → Option (ax_J)) (I : ax_I) (J : ax_J) (x1 : Int32) (x2 : Int32) (x3 : Int32) (s0 : Int64) : Option ax_J :=
  if (x3 - x3 / 9 * 9) ≤ 0 then f_X7_yearOdds_53 r3 I J x1 x2 x3 s0 0 else if ax_in (x3 - 1) 81 = true then f_X7_yearOdds_53 r3 I J x1 x2 x3 s0 (((x2 : Int32).toInt64) * (J 57 (x3 - 1).toNatClampNeg)) else none
def f_X7_yearOdds_3 : Nat → ax_I → ax_J → Int32 → Int32 → Int32 → Option ax_J
  | 0, _, _, _, _, _ => none
  | n + 1, I, J, x1, x2, x3 => if x3 < 0 then some J else if x3 < 9 then f_X7_yearOdds_29 (f_X7_yearOdds_3 n) I J x1 x2 x3 0 else if ax_in (x3 - 9) 81 = true then f_X7_yearOdds_29 (f_X7_yearOdds_3 n) I J x1 x2 x3 (((x1 : Int32).toInt64) * (J 57 (x3 - 9).toNatClampNeg)) else none
def F_X7_yearOdds (I : ax_I) (J : ax_J) (x1 : Int32) (x2 : Int32) : Option ax_J :=
  f_X7_yearOdds_3 ax_N I J x1 x2 80
set_option maxRecDepth 100000 in
set_option maxHeartbeats 4000000 in
theorem t_X7_yearOdds_83 {lay : List ax_S} {J9 : ax_J} (hL : ax_LL B lay) (C : ax_C p R s m args meth c yX7_yearOdds cX7_yearOdds 8 none 2 E mc ms) {r3 : ax_I → ax_J → Int32 → Int32 → Int32 → Option (ax_J)} (hr3 : ∀ (I : ax_I) (J : ax_J) (x1 : Int32) (x2 : Int32) (x3 : Int32), r3 I J x1 x2 x3 = some J9 → AM p l e R s m args below meth c E B lay.length (ax_z lay) 8 none lay I J9 lay I J 3 [(0, .ref (B + 35)), (1, .int x1), (2, .int x2), (3, .int x3)] []) : ∀ (I : ax_I) (J : ax_J) (x1 : Int32) (x2 : Int32) (x3 : Int32), f_X7_yearOdds_83 r3 I J x1 x2 x3 = some J9 → AM p l e R s m args below meth c E B lay.length (ax_z lay) 8 none lay I J9 lay I J 83 [(0, .ref (B + 35)), (1, .int x1), (2, .int x2), (3, .int x3)] [] := by
  obtain ⟨hx, hb, hr, hml, hown, hts, hlocks, hK, hfr, hlo, hmc, hms, hnm⟩ := id C
  have hown : s.vm.findClass RX7 = some m.cls := hown
  intro I J x1 x2 x3 h H locs cells slots ls hc hz hR hS hl
  unfold f_X7_yearOdds_83 at h
  refine lv_iinc (v := (x3 + (-1))) (lv' := [(3, .int (x3 + (-1))), (0, .ref (B + 35)), (1, .int x1), (2, .int x2)]) hx hb dX7_yearOdds_83 hl (k := 3) rfl rfl (by decide) rfl (fun ls hl => ?_)
  refine lv_goto (tgt := 3) hx hb dX7_yearOdds_86 (by decide) ?_
  exact hr3 _ _ _ _ _ h H locs cells slots ls hc hz hR hS (lv_sub hl [1, 2, 3, 0] rfl)
set_option maxRecDepth 100000 in
set_option maxHeartbeats 4000000 in
theorem t_X7_yearOdds_53 {lay : List ax_S} {J9 : ax_J} (hL : ax_LL B lay) (C : ax_C p R s m args meth c yX7_yearOdds cX7_yearOdds 8 none 2 E mc ms) {r3 : ax_I → ax_J → Int32 → Int32 → Int32 → Option (ax_J)} (hr3 : ∀ (I : ax_I) (J : ax_J) (x1 : Int32) (x2 : Int32) (x3 : Int32), r3 I J x1 x2 x3 = some J9 → AM p l e R s m args below meth c E B lay.length (ax_z lay) 8 none lay I J9 lay I J 3 [(0, .ref (B + 35)), (1, .int x1), (2, .int x2), (3, .int x3)] []) : ∀ (I : ax_I) (J : ax_J) (x1 : Int32) (x2 : Int32) (x3 : Int32) (x4 : Int64) (s0 : Int64), f_X7_yearOdds_53 r3 I J x1 x2 x3 x4 s0 = some J9 → AM p l e R s m args below meth c E B lay.length (ax_z lay) 8 none lay I J9 lay I J 53 [(0, .ref (B + 35)), (1, .int x1), (2, .int x2), (3, .int x3), (4, .long x4)] [.long s0] := by
  obtain ⟨hx, hb, hr, hml, hown, hts, hlocks, hK, hfr, hlo, hmc, hms, hnm⟩ := id C
  have hown : s.vm.findClass RX7 = some m.cls := hown
  intro I J x1 x2 x3 x4 s0 h H locs cells slots ls hc hz hR hS hl
  unfold f_X7_yearOdds_53 at h
  refine lv_lstore (lv' := [(6, .long s0), (0, .ref (B + 35)), (1, .int x1), (2, .int x2), (3, .int x3), (4, .long x4)]) hx hb dX7_yearOdds_53 hl (by decide) rfl (fun ls hl => ?_)
  refine lv_aload_n hx hb dX7_yearOdds_55 rfl (lv_at hl 1 rfl) ?_
  refine ax_getV hx hb hts hown hK hR fl_X7_73 (lk_35 hL) rfl dX7_yearOdds_56 ?_
  refine lv_iload_n hx hb dX7_yearOdds_59 rfl (lv_at hl 4 rfl) ?_
  refine lv_ldc2 hx hb hown (hts _ ct_X7_235) dX7_yearOdds_60 ?_
  refine lv_iload_n hx hb dX7_yearOdds_63 rfl (lv_at hl 2 rfl) ?_
  refine lv_i2l hx hb dX7_yearOdds_64 rfl ?_
  refine lv_lsub hx hb dX7_yearOdds_65 ?_
  refine lv_iload_n hx hb dX7_yearOdds_66 rfl (lv_at hl 3 rfl) ?_
  refine lv_i2l hx hb dX7_yearOdds_67 rfl ?_
  refine lv_lsub hx hb dX7_yearOdds_68 ?_
  refine lv_aload_n hx hb dX7_yearOdds_69 rfl (lv_at hl 1 rfl) ?_
  refine ax_getV hx hb hts hown hK hR fl_X7_73 (lk_35 hL) rfl dX7_yearOdds_70 ?_
  refine lv_iload_n hx hb dX7_yearOdds_73 rfl (lv_at hl 4 rfl) ?_
  obtain ⟨hq, h⟩ := ax_ck h
  refine ax_lald hx hb hK hR (lk_57 hL) hq dX7_yearOdds_74 ?_
  refine lv_lmul hx hb dX7_yearOdds_75 ?_
  refine lv_lload hx hb dX7_yearOdds_76 (lv_at hl 5 rfl) ?_
  refine lv_ladd hx hb dX7_yearOdds_78 ?_
  refine lv_lload hx hb dX7_yearOdds_79 (lv_at hl 0 rfl) ?_
  refine lv_ladd hx hb dX7_yearOdds_81 ?_
  obtain ⟨hq, h⟩ := ax_ck h
  refine ax_last hx hb hK hR hS (lk_57 hL) hq dX7_yearOdds_82 (fun H locs hR hS => ?_)
  exact t_X7_yearOdds_83 hL C hr3 _ _ _ _ _ h H locs cells slots ls hc hz hR hS (lv_sub hl [1, 2, 3, 4] rfl)
set_option maxRecDepth 100000 in
set_option maxHeartbeats 4000000 in
theorem t_X7_yearOdds_29 {lay : List ax_S} {J9 : ax_J} (hL : ax_LL B lay) (C : ax_C p R s m args meth c yX7_yearOdds cX7_yearOdds 8 none 2 E mc ms) {r3 : ax_I → ax_J → Int32 → Int32 → Int32 → Option (ax_J)} (hr3 : ∀ (I : ax_I) (J : ax_J) (x1 : Int32) (x2 : Int32) (x3 : Int32), r3 I J x1 x2 x3 = some J9 → AM p l e R s m args below meth c E B lay.length (ax_z lay) 8 none lay I J9 lay I J 3 [(0, .ref (B + 35)), (1, .int x1), (2, .int x2), (3, .int x3)] []) : ∀ (I : ax_I) (J : ax_J) (x1 : Int32) (x2 : Int32) (x3 : Int32) (s0 : Int64), f_X7_yearOdds_29 r3 I J x1 x2 x3 s0 = some J9 → AM p l e R s m args below meth c E B lay.length (ax_z lay) 8 none lay I J9 lay I J 29 [(0, .ref (B + 35)), (1, .int x1), (2, .int x2), (3, .int x3)] [.long s0] := by
  obtain ⟨hx, hb, hr, hml, hown, hts, hlocks, hK, hfr, hlo, hmc, hms, hnm⟩ := id C
  have hown : s.vm.findClass RX7 = some m.cls := hown
  intro I J x1 x2 x3 s0 h H locs cells slots ls hc hz hR hS hl
  unfold f_X7_yearOdds_29 at h
  refine lv_lstore (lv' := [(4, .long s0), (0, .ref (B + 35)), (1, .int x1), (2, .int x2), (3, .int x3)]) hx hb dX7_yearOdds_29 hl (by decide) rfl (fun ls hl => ?_)
  refine lv_iload_n hx hb dX7_yearOdds_31 rfl (lv_at hl 4 rfl) ?_
  refine lv_bipush (v := 9) hx hb dX7_yearOdds_32 (by decide) ?_
  refine lv_irem hx hb dX7_yearOdds_34 (by decide) ?_
  refine lv_if_le (tgt := 52) hx hb dX7_yearOdds_35 (by decide) (fun q => ?_) (fun q => ?_)
  · have h := ax_ip q h
    refine lv_lconst (v := 0) hx hb dX7_yearOdds_52 (by decide) ?_
    exact t_X7_yearOdds_53 hL C hr3 _ _ _ _ _ _ _ h H locs cells slots ls hc hz hR hS (lv_sub hl [1, 2, 3, 4, 0] rfl)
  · have h := ax_iN q h
    refine lv_iload_n hx hb dX7_yearOdds_38 rfl (lv_at hl 3 rfl) ?_
    refine lv_i2l hx hb dX7_yearOdds_39 rfl ?_
    refine lv_aload_n hx hb dX7_yearOdds_40 rfl (lv_at hl 1 rfl) ?_
    refine ax_getV hx hb hts hown hK hR fl_X7_73 (lk_35 hL) rfl dX7_yearOdds_41 ?_
    refine lv_iload_n hx hb dX7_yearOdds_44 rfl (lv_at hl 4 rfl) ?_
    refine lv_iconst (v := 1) hx hb dX7_yearOdds_45 (by decide) ?_
    refine lv_isub hx hb dX7_yearOdds_46 ?_
    obtain ⟨hq, h⟩ := ax_ck h
    refine ax_lald hx hb hK hR (lk_57 hL) hq dX7_yearOdds_47 ?_
    refine lv_lmul hx hb dX7_yearOdds_48 ?_
    refine lv_goto (tgt := 53) hx hb dX7_yearOdds_49 (by decide) ?_
    exact t_X7_yearOdds_53 hL C hr3 _ _ _ _ _ _ _ h H locs cells slots ls hc hz hR hS (lv_sub hl [1, 2, 3, 4, 0] rfl)
set_option maxRecDepth 100000 in
set_option maxHeartbeats 4000000 in
theorem t_X7_yearOdds_3 {lay : List ax_S} {J9 : ax_J} (hL : ax_LL B lay) (C : ax_C p R s m args meth c yX7_yearOdds cX7_yearOdds 8 none 2 E mc ms) : ∀ (n : Nat) (I : ax_I) (J : ax_J) (x1 : Int32) (x2 : Int32) (x3 : Int32), f_X7_yearOdds_3 n I J x1 x2 x3 = some J9 → AM p l e R s m args below meth c E B lay.length (ax_z lay) 8 none lay I J9 lay I J 3 [(0, .ref (B + 35)), (1, .int x1), (2, .int x2), (3, .int x3)] [] := by
  obtain ⟨hx, hb, hr, hml, hown, hts, hlocks, hK, hfr, hlo, hmc, hms, hnm⟩ := id C
  have hown : s.vm.findClass RX7 = some m.cls := hown
  intro n
  induction n with
  | zero => intro I J x1 x2 x3 h; cases h
  | succ n ih =>
    intro I J x1 x2 x3 h H locs cells slots ls hc hz hR hS hl
    rw [f_X7_yearOdds_3] at h
    refine lv_iload_n hx hb dX7_yearOdds_3 rfl (lv_at hl 3 rfl) ?_
    refine lv_if_lt (tgt := 89) hx hb dX7_yearOdds_4 (by decide) (fun q => ?_) (fun q => ?_)
    · have h := ax_ip q h
      cases h
      exact ax_vret C hc hz hR hS dX7_yearOdds_89
    · have h := ax_iN q h
      refine lv_iload_n hx hb dX7_yearOdds_7 rfl (lv_at hl 3 rfl) ?_
      refine lv_bipush (v := 9) hx hb dX7_yearOdds_8 (by decide) ?_
      refine lv_icmp_lt (tgt := 28) hx hb dX7_yearOdds_10 (by decide) (fun q => ?_) (fun q => ?_)
      · have h := ax_ip q h
        refine lv_lconst (v := 0) hx hb dX7_yearOdds_28 (by decide) ?_
        exact t_X7_yearOdds_29 hL C ih _ _ _ _ _ _ h H locs cells slots ls hc hz hR hS (lv_sub hl [0, 1, 2, 3] rfl)
      · have h := ax_iN q h
        refine lv_iload_n hx hb dX7_yearOdds_13 rfl (lv_at hl 1 rfl) ?_
        refine lv_i2l hx hb dX7_yearOdds_14 rfl ?_
        refine lv_aload_n hx hb dX7_yearOdds_15 rfl (lv_at hl 0 rfl) ?_
        refine ax_getV hx hb hts hown hK hR fl_X7_73 (lk_35 hL) rfl dX7_yearOdds_16 ?_
        refine lv_iload_n hx hb dX7_yearOdds_19 rfl (lv_at hl 3 rfl) ?_
        refine lv_bipush (v := 9) hx hb dX7_yearOdds_20 (by decide) ?_
        refine lv_isub hx hb dX7_yearOdds_22 ?_
        obtain ⟨hq, h⟩ := ax_ck h
        refine ax_lald hx hb hK hR (lk_57 hL) hq dX7_yearOdds_23 ?_
        refine lv_lmul hx hb dX7_yearOdds_24 ?_
        refine lv_goto (tgt := 29) hx hb dX7_yearOdds_25 (by decide) ?_
        exact t_X7_yearOdds_29 hL C ih _ _ _ _ _ _ h H locs cells slots ls hc hz hR hS (lv_sub hl [0, 1, 2, 3] rfl)
set_option maxRecDepth 100000 in
set_option maxHeartbeats 4000000 in
theorem t_X7_yearOdds_0 {lay : List ax_S} {J9 : ax_J} (hL : ax_LL B lay) (C : ax_C p R s m args meth c yX7_yearOdds cX7_yearOdds 8 none 2 E mc ms) : ∀ (I : ax_I) (J : ax_J) (x1 : Int32) (x2 : Int32), F_X7_yearOdds I J x1 x2 = some J9 → AM p l e R s m args below meth c E B lay.length (ax_z lay) 8 none lay I J9 lay I J 0 [(0, .ref (B + 35)), (1, .int x1), (2, .int x2)] [] := by
  obtain ⟨hx, hb, hr, hml, hown, hts, hlocks, hK, hfr, hlo, hmc, hms, hnm⟩ := id C
  have hown : s.vm.findClass RX7 = some m.cls := hown
  intro I J x1 x2 h H locs cells slots ls hc hz hR hS hl
  unfold F_X7_yearOdds at h
  refine lv_bipush (v := 80) hx hb dX7_yearOdds_0 (by decide) ?_
  refine lv_istore_n (lv' := [(3, .int 80), (0, .ref (B + 35)), (1, .int x1), (2, .int x2)]) hx hb dX7_yearOdds_2 rfl hl (by decide) rfl (fun ls hl => ?_)
  exact t_X7_yearOdds_3 hL C  ax_N _ _ _ _ _ h H locs cells slots ls hc hz hR hS (lv_sub hl [1, 2, 3, 0] rfl)
theorem M_X7_yearOdds {l : Launch} {E : ax_E} {B : Nat} {lay : List ax_S} {I : ax_I} {J : ax_J} {x1 : Int32} {x2 : Int32} {J9 : ax_J} (hL : ax_LL B lay) (h : F_X7_yearOdds I J x1 x2 = some J9) : Cm l yX7_yearOdds cX7_yearOdds 8 none 2 E B [.ref (B + 35), .int x1, .int x2] lay I J none lay I J9 :=
  ax_met (by decide) (Nat.le_of_ble_eq_true rfl) (fun p e R s m args below meth c C => t_X7_yearOdds_0 hL C _ _ _ _ h)
end GEN
