section GEN
variable {p : Program} {l : Launch} {e : Env} {R : Room} {s : State} {m : MethodId} {args : Array Value} {below : List Frame} {meth : Method} {c : Code} {E : ax_E} {B mc ms : Nat}
def F_X2_reasonAgainstLetting (I : ax_I) (b : Nat) (a : Nat) : Option Int32 :=
  (F_X2_holderOf I b (I a 1) (I a 2)).bind (fun q9 => if q9 = (-6) then (if ax_in (I a 3) 4 = true then if 10 ≤ (I (b + 8) (I a 3).toNatClampNeg) then some 0 else some 5 else none) else some 4)
set_option maxRecDepth 100000 in
set_option maxHeartbeats 4000000 in
theorem t_X2_reasonAgainstLetting_0 {lay : List ax_S} {b : Nat} {a : Nat} {J : ax_J} {rv : Int32} (hDb : ax_Dio B lay b) (hAa : lay[a]? = some ax_Ac) (C : ax_C p R s m args meth c yX2_reasonAgainstLetting cX2_reasonAgainstLetting 2 (some .int) 4 E mc ms) : ∀ (I : ax_I), F_X2_reasonAgainstLetting I b a = some rv → AM p l e R s m args below meth c E B lay.length (ax_z lay) 2 (some (.int rv)) lay I J lay I J 0 [(0, .ref (B + b)), (1, .ref (B + a))] [] := by
  obtain ⟨hx, hb, hr, hml, hown, hts, hlocks, hK, hfr, hlo, hmc, hms, hnm⟩ := id C
  have hown : s.vm.findClass RX2 = some m.cls := hown
  intro I h H locs cells slots ls hc hz hR hS hl
  unfold F_X2_reasonAgainstLetting at h
  refine lv_aload_n hx hb dX2_reasonAgainstLetting_0 rfl (lv_at hl 0 rfl) ?_
  refine lv_aload_n hx hb dX2_reasonAgainstLetting_1 rfl (lv_at hl 1 rfl) ?_
  refine ax_getI hx hb hts hown hK hR fl_X2_109 hAa rfl dX2_reasonAgainstLetting_2 ?_
  refine lv_aload_n hx hb dX2_reasonAgainstLetting_5 rfl (lv_at hl 1 rfl) ?_
  refine ax_getI hx hb hts hown hK hR fl_X2_119 hAa rfl dX2_reasonAgainstLetting_6 ?_
  obtain ⟨q9, hq, h⟩ := ax_bd h
  refine ax_cV (rest := []) (st1 := [.int q9]) C hc hz hS hR (M_X2_holderOf hDb hq) yk_X2_holderOf in_X2_holderOf se_X2_holderOf ml_X2_88 (dio_0 hDb) rfl rfl (by decide) rfl hl.1 (Nat.le_of_ble_eq_true rfl) rfl rfl dX2_reasonAgainstLetting_9 (fun H locs hR hS => ?_)
  refine lv_bipush (v := (-6)) hx hb dX2_reasonAgainstLetting_12 (by decide) ?_
  refine lv_icmp_eq (tgt := 19) hx hb dX2_reasonAgainstLetting_14 (by decide) (fun q => ?_) (fun q => ?_)
  · have h := ax_ip q h
    refine lv_aload_n hx hb dX2_reasonAgainstLetting_19 rfl (lv_at hl 0 rfl) ?_
    refine ax_getV hx hb hts hown hK hR fl_X2_33 (dio_0 hDb) rfl dX2_reasonAgainstLetting_20 ?_
    refine lv_aload_n hx hb dX2_reasonAgainstLetting_23 rfl (lv_at hl 1 rfl) ?_
    refine ax_getI hx hb hts hown hK hR fl_X2_116 hAa rfl dX2_reasonAgainstLetting_24 ?_
    obtain ⟨hq, h⟩ := ax_ck h
    refine ax_iald hx hb hK hR (dio_8 hDb) hq dX2_reasonAgainstLetting_27 ?_
    refine lv_bipush (v := 10) hx hb dX2_reasonAgainstLetting_28 (by decide) ?_
    refine lv_icmp_ge (tgt := 37) hx hb dX2_reasonAgainstLetting_30 (by decide) (fun q => ?_) (fun q => ?_)
    · have h := ax_ip q h
      refine lv_iconst (v := 0) hx hb dX2_reasonAgainstLetting_37 (by decide) ?_
      cases h
      exact ax_iret C hc hz hR hS rfl rfl dX2_reasonAgainstLetting_38
    · have h := ax_iN q h
      refine lv_iconst (v := 5) hx hb dX2_reasonAgainstLetting_33 (by decide) ?_
      refine lv_goto (tgt := 38) hx hb dX2_reasonAgainstLetting_34 (by decide) ?_
      cases h
      exact ax_iret C hc hz hR hS rfl rfl dX2_reasonAgainstLetting_38
  · have h := ax_iN q h
    refine lv_iconst (v := 4) hx hb dX2_reasonAgainstLetting_17 (by decide) ?_
    cases h
    exact ax_iret C hc hz hR hS rfl rfl dX2_reasonAgainstLetting_18
theorem M_X2_reasonAgainstLetting {l : Launch} {E : ax_E} {B : Nat} {lay : List ax_S} {I : ax_I} {J : ax_J} {b : Nat} {a : Nat} {rv : Int32} (hDb : ax_Dio B lay b) (hAa : lay[a]? = some ax_Ac) (h : F_X2_reasonAgainstLetting I b a = some rv) : Cm l yX2_reasonAgainstLetting cX2_reasonAgainstLetting 2 (some .int) 4 E B [.ref (B + b), .ref (B + a)] lay I J (some (.int rv)) lay I J :=
  ax_met (by decide) (Nat.le_of_ble_eq_true rfl) (fun p e R s m args below meth c C => t_X2_reasonAgainstLetting_0 hDb hAa C _ h)
def F_X2_reasonAgainst (I : ax_I) (b : Nat) (a : Nat) : Option Int32 :=
  if (I a 0) = 7 then (if (I b 2) < 99 then some 0 else some 7) else (F_X2_isThere I b (I a 1)).bind (fun q30 => if q30 = 0 then some 1 else (F_X2_isFallen I b (I a 1)).bind (fun q43 => if q43 = 0 then (if (I a 0) = 0 then (if ax_in (I a 1) 6 = true then if (I (b + 1) (I a 1).toNatClampNeg) < 99 then some 0 else some 3 else none) else if (I a 0) = 1 then (if ax_in (I a 1) 6 = true then if (I (b + 2) (I a 1).toNatClampNeg) < 99 then some 0 else some 3 else none) else if (I a 0) = 2 then (if ax_in (I a 1) 6 = true then if 0 < (I (b + 2) (I a 1).toNatClampNeg) then some 0 else some 3 else none) else if (I a 0) = 3 then (if ax_in (I a 1) 6 = true then if (I (b + 3) (I a 1).toNatClampNeg) < 99 then some 0 else some 3 else none) else if (I a 0) = 4 then some 0 else if (I a 0) = 5 then (F_X2_reasonAgainstLetting I b a).bind (fun q176 => some q176) else if (I a 0) = 6 then (F_X2_partBits I b (I a 1) (I a 3)).bind (fun q189 => if q189 = 0 then some 6 else some 0) else some 0) else some 2))
set_option maxRecDepth 100000 in
set_option maxHeartbeats 4000000 in
theorem t_X2_reasonAgainst_0 {lay : List ax_S} {b : Nat} {a : Nat} {J : ax_J} {rv : Int32} (hDb : ax_Dio B lay b) (hAa : lay[a]? = some ax_Ac) (C : ax_C p R s m args meth c yX2_reasonAgainst cX2_reasonAgainst 2 (some .int) 8 E mc ms) : ∀ (I : ax_I), F_X2_reasonAgainst I b a = some rv → AM p l e R s m args below meth c E B lay.length (ax_z lay) 2 (some (.int rv)) lay I J lay I J 0 [(0, .ref (B + b)), (1, .ref (B + a))] [] := by
  obtain ⟨hx, hb, hr, hml, hown, hts, hlocks, hK, hfr, hlo, hmc, hms, hnm⟩ := id C
  have hown : s.vm.findClass RX2 = some m.cls := hown
  intro I h H locs cells slots ls hc hz hR hS hl
  unfold F_X2_reasonAgainst at h
  refine lv_aload_n hx hb dX2_reasonAgainst_0 rfl (lv_at hl 1 rfl) ?_
  refine ax_getI hx hb hts hown hK hR fl_X2_104 hAa rfl dX2_reasonAgainst_1 ?_
  refine lv_bipush (v := 7) hx hb dX2_reasonAgainst_4 (by decide) ?_
  refine lv_icmp_ne (tgt := 25) hx hb dX2_reasonAgainst_6 (by decide) (fun q => ?_) (fun q => ?_)
  · have h := ax_iN q h
    refine lv_aload_n hx hb dX2_reasonAgainst_25 rfl (lv_at hl 0 rfl) ?_
    refine lv_aload_n hx hb dX2_reasonAgainst_26 rfl (lv_at hl 1 rfl) ?_
    refine ax_getI hx hb hts hown hK hR fl_X2_109 hAa rfl dX2_reasonAgainst_27 ?_
    obtain ⟨q30, hq, h⟩ := ax_bd h
    refine ax_cV (rest := []) (st1 := [.int q30]) C hc hz hS hR (M_X2_isThere hDb hq) yk_X2_isThere in_X2_isThere se_X2_isThere ml_X2_71 (dio_0 hDb) rfl rfl (by decide) rfl hl.1 (Nat.le_of_ble_eq_true rfl) rfl rfl dX2_reasonAgainst_30 (fun H locs hR hS => ?_)
    refine lv_if_ne (tgt := 38) hx hb dX2_reasonAgainst_33 (by decide) (fun q => ?_) (fun q => ?_)
    · have h := ax_iN q h
      refine lv_aload_n hx hb dX2_reasonAgainst_38 rfl (lv_at hl 0 rfl) ?_
      refine lv_aload_n hx hb dX2_reasonAgainst_39 rfl (lv_at hl 1 rfl) ?_
      refine ax_getI hx hb hts hown hK hR fl_X2_109 hAa rfl dX2_reasonAgainst_40 ?_
      obtain ⟨q43, hq, h⟩ := ax_bd h
      refine ax_cV (rest := []) (st1 := [.int q43]) C hc hz hS hR (M_X2_isFallen hDb hq) yk_X2_isFallen in_X2_isFallen se_X2_isFallen ml_X2_78 (dio_0 hDb) rfl rfl (by decide) rfl hl.1 (Nat.le_of_ble_eq_true rfl) rfl rfl dX2_reasonAgainst_43 (fun H locs hR hS => ?_)
      refine lv_if_eq (tgt := 51) hx hb dX2_reasonAgainst_46 (by decide) (fun q => ?_) (fun q => ?_)
      · have h := ax_ip q h
        refine lv_aload_n hx hb dX2_reasonAgainst_51 rfl (lv_at hl 1 rfl) ?_
        refine ax_getI hx hb hts hown hK hR fl_X2_104 hAa rfl dX2_reasonAgainst_52 ?_
        by_cases q0 : (I a 0) = 0
        · have h := ax_ip q0 h
          refine lv_tableIn (off := 41) (tgt := 96) hx hb dX2_reasonAgainst_55 (by rw [q0]; decide) (by rw [q0]; decide) (by rw [q0]; rfl) (by decide) ?_
          refine lv_aload_n hx hb dX2_reasonAgainst_96 rfl (lv_at hl 0 rfl) ?_
          refine ax_getV hx hb hts hown hK hR fl_X2_9 (dio_0 hDb) rfl dX2_reasonAgainst_97 ?_
          refine lv_aload_n hx hb dX2_reasonAgainst_100 rfl (lv_at hl 1 rfl) ?_
          refine ax_getI hx hb hts hown hK hR fl_X2_109 hAa rfl dX2_reasonAgainst_101 ?_
          obtain ⟨hq, h⟩ := ax_ck h
          refine ax_iald hx hb hK hR (dio_1 hDb) hq dX2_reasonAgainst_104 ?_
          refine lv_bipush (v := 99) hx hb dX2_reasonAgainst_105 (by decide) ?_
          refine lv_icmp_lt (tgt := 114) hx hb dX2_reasonAgainst_107 (by decide) (fun q => ?_) (fun q => ?_)
          · have h := ax_ip q h
            refine lv_iconst (v := 0) hx hb dX2_reasonAgainst_114 (by decide) ?_
            cases h
            exact ax_iret C hc hz hR hS rfl rfl dX2_reasonAgainst_115
          · have h := ax_iN q h
            refine lv_iconst (v := 3) hx hb dX2_reasonAgainst_110 (by decide) ?_
            refine lv_goto (tgt := 115) hx hb dX2_reasonAgainst_111 (by decide) ?_
            cases h
            exact ax_iret C hc hz hR hS rfl rfl dX2_reasonAgainst_115
        · have h := ax_iN q0 h
          by_cases q1 : (I a 0) = 1
          · have h := ax_ip q1 h
            refine lv_tableIn (off := 61) (tgt := 116) hx hb dX2_reasonAgainst_55 (by rw [q1]; decide) (by rw [q1]; decide) (by rw [q1]; rfl) (by decide) ?_
            refine lv_aload_n hx hb dX2_reasonAgainst_116 rfl (lv_at hl 0 rfl) ?_
            refine ax_getV hx hb hts hown hK hR fl_X2_15 (dio_0 hDb) rfl dX2_reasonAgainst_117 ?_
            refine lv_aload_n hx hb dX2_reasonAgainst_120 rfl (lv_at hl 1 rfl) ?_
            refine ax_getI hx hb hts hown hK hR fl_X2_109 hAa rfl dX2_reasonAgainst_121 ?_
            obtain ⟨hq, h⟩ := ax_ck h
            refine ax_iald hx hb hK hR (dio_2 hDb) hq dX2_reasonAgainst_124 ?_
            refine lv_bipush (v := 99) hx hb dX2_reasonAgainst_125 (by decide) ?_
            refine lv_icmp_lt (tgt := 134) hx hb dX2_reasonAgainst_127 (by decide) (fun q => ?_) (fun q => ?_)
            · have h := ax_ip q h
              refine lv_iconst (v := 0) hx hb dX2_reasonAgainst_134 (by decide) ?_
              cases h
              exact ax_iret C hc hz hR hS rfl rfl dX2_reasonAgainst_135
            · have h := ax_iN q h
              refine lv_iconst (v := 3) hx hb dX2_reasonAgainst_130 (by decide) ?_
              refine lv_goto (tgt := 135) hx hb dX2_reasonAgainst_131 (by decide) ?_
              cases h
              exact ax_iret C hc hz hR hS rfl rfl dX2_reasonAgainst_135
          · have h := ax_iN q1 h
            by_cases q2 : (I a 0) = 2
            · have h := ax_ip q2 h
              refine lv_tableIn (off := 101) (tgt := 156) hx hb dX2_reasonAgainst_55 (by rw [q2]; decide) (by rw [q2]; decide) (by rw [q2]; rfl) (by decide) ?_
              refine lv_aload_n hx hb dX2_reasonAgainst_156 rfl (lv_at hl 0 rfl) ?_
              refine ax_getV hx hb hts hown hK hR fl_X2_15 (dio_0 hDb) rfl dX2_reasonAgainst_157 ?_
              refine lv_aload_n hx hb dX2_reasonAgainst_160 rfl (lv_at hl 1 rfl) ?_
              refine ax_getI hx hb hts hown hK hR fl_X2_109 hAa rfl dX2_reasonAgainst_161 ?_
              obtain ⟨hq, h⟩ := ax_ck h
              refine ax_iald hx hb hK hR (dio_2 hDb) hq dX2_reasonAgainst_164 ?_
              refine lv_if_gt (tgt := 172) hx hb dX2_reasonAgainst_165 (by decide) (fun q => ?_) (fun q => ?_)
              · have h := ax_ip q h
                refine lv_iconst (v := 0) hx hb dX2_reasonAgainst_172 (by decide) ?_
                cases h
                exact ax_iret C hc hz hR hS rfl rfl dX2_reasonAgainst_173
              · have h := ax_iN q h
                refine lv_iconst (v := 3) hx hb dX2_reasonAgainst_168 (by decide) ?_
                refine lv_goto (tgt := 173) hx hb dX2_reasonAgainst_169 (by decide) ?_
                cases h
                exact ax_iret C hc hz hR hS rfl rfl dX2_reasonAgainst_173
            · have h := ax_iN q2 h
              by_cases q3 : (I a 0) = 3
              · have h := ax_ip q3 h
                refine lv_tableIn (off := 81) (tgt := 136) hx hb dX2_reasonAgainst_55 (by rw [q3]; decide) (by rw [q3]; decide) (by rw [q3]; rfl) (by decide) ?_
                refine lv_aload_n hx hb dX2_reasonAgainst_136 rfl (lv_at hl 0 rfl) ?_
                refine ax_getV hx hb hts hown hK hR fl_X2_18 (dio_0 hDb) rfl dX2_reasonAgainst_137 ?_
                refine lv_aload_n hx hb dX2_reasonAgainst_140 rfl (lv_at hl 1 rfl) ?_
                refine ax_getI hx hb hts hown hK hR fl_X2_109 hAa rfl dX2_reasonAgainst_141 ?_
                obtain ⟨hq, h⟩ := ax_ck h
                refine ax_iald hx hb hK hR (dio_3 hDb) hq dX2_reasonAgainst_144 ?_
                refine lv_bipush (v := 99) hx hb dX2_reasonAgainst_145 (by decide) ?_
                refine lv_icmp_lt (tgt := 154) hx hb dX2_reasonAgainst_147 (by decide) (fun q => ?_) (fun q => ?_)
                · have h := ax_ip q h
                  refine lv_iconst (v := 0) hx hb dX2_reasonAgainst_154 (by decide) ?_
                  cases h
                  exact ax_iret C hc hz hR hS rfl rfl dX2_reasonAgainst_155
                · have h := ax_iN q h
                  refine lv_iconst (v := 3) hx hb dX2_reasonAgainst_150 (by decide) ?_
                  refine lv_goto (tgt := 155) hx hb dX2_reasonAgainst_151 (by decide) ?_
                  cases h
                  exact ax_iret C hc hz hR hS rfl rfl dX2_reasonAgainst_155
              · have h := ax_iN q3 h
                by_cases q4 : (I a 0) = 4
                · have h := ax_ip q4 h
                  refine lv_tableIn (off := 147) (tgt := 202) hx hb dX2_reasonAgainst_55 (by rw [q4]; decide) (by rw [q4]; decide) (by rw [q4]; rfl) (by decide) ?_
                  refine lv_iconst (v := 0) hx hb dX2_reasonAgainst_202 (by decide) ?_
                  cases h
                  exact ax_iret C hc hz hR hS rfl rfl dX2_reasonAgainst_203
                · have h := ax_iN q4 h
                  by_cases q5 : (I a 0) = 5
                  · have h := ax_ip q5 h
                    refine lv_tableIn (off := 119) (tgt := 174) hx hb dX2_reasonAgainst_55 (by rw [q5]; decide) (by rw [q5]; decide) (by rw [q5]; rfl) (by decide) ?_
                    refine lv_aload_n hx hb dX2_reasonAgainst_174 rfl (lv_at hl 0 rfl) ?_
                    refine lv_aload_n hx hb dX2_reasonAgainst_175 rfl (lv_at hl 1 rfl) ?_
                    obtain ⟨q176, hq, h⟩ := ax_bd h
                    refine ax_cV (rest := []) (st1 := [.int q176]) C hc hz hS hR (M_X2_reasonAgainstLetting hDb hAa hq) yk_X2_reasonAgainstLetting in_X2_reasonAgainstLetting se_X2_reasonAgainstLetting ml_X2_112 (dio_0 hDb) rfl rfl (by decide) rfl hl.1 (Nat.le_of_ble_eq_true rfl) rfl rfl dX2_reasonAgainst_176 (fun H locs hR hS => ?_)
                    cases h
                    exact ax_iret C hc hz hR hS rfl rfl dX2_reasonAgainst_179
                  · have h := ax_iN q5 h
                    by_cases q6 : (I a 0) = 6
                    · have h := ax_ip q6 h
                      refine lv_tableIn (off := 125) (tgt := 180) hx hb dX2_reasonAgainst_55 (by rw [q6]; decide) (by rw [q6]; decide) (by rw [q6]; rfl) (by decide) ?_
                      refine lv_aload_n hx hb dX2_reasonAgainst_180 rfl (lv_at hl 0 rfl) ?_
                      refine lv_aload_n hx hb dX2_reasonAgainst_181 rfl (lv_at hl 1 rfl) ?_
                      refine ax_getI hx hb hts hown hK hR fl_X2_109 hAa rfl dX2_reasonAgainst_182 ?_
                      refine lv_aload_n hx hb dX2_reasonAgainst_185 rfl (lv_at hl 1 rfl) ?_
                      refine ax_getI hx hb hts hown hK hR fl_X2_116 hAa rfl dX2_reasonAgainst_186 ?_
                      obtain ⟨q189, hq, h⟩ := ax_bd h
                      refine ax_cV (rest := []) (st1 := [.int q189]) C hc hz hS hR (M_X2_partBits hDb hq) yk_X2_partBits in_X2_partBits se_X2_partBits ml_X2_92 (dio_0 hDb) rfl rfl (by decide) rfl hl.1 (Nat.le_of_ble_eq_true rfl) rfl rfl dX2_reasonAgainst_189 (fun H locs hR hS => ?_)
                      refine lv_if_ne (tgt := 200) hx hb dX2_reasonAgainst_192 (by decide) (fun q => ?_) (fun q => ?_)
                      · have h := ax_iN q h
                        refine lv_iconst (v := 0) hx hb dX2_reasonAgainst_200 (by decide) ?_
                        cases h
                        exact ax_iret C hc hz hR hS rfl rfl dX2_reasonAgainst_201
                      · have h := ax_ip q h
                        refine lv_bipush (v := 6) hx hb dX2_reasonAgainst_195 (by decide) ?_
                        refine lv_goto (tgt := 201) hx hb dX2_reasonAgainst_197 (by decide) ?_
                        cases h
                        exact ax_iret C hc hz hR hS rfl rfl dX2_reasonAgainst_201
                    · have h := ax_iN q6 h
                      have e0 := ax_nt (z := 0) q0 (by decide)
                      have e1 := ax_nt (z := 1) q1 (by decide)
                      have e2 := ax_nt (z := 2) q2 (by decide)
                      have e3 := ax_nt (z := 3) q3 (by decide)
                      have e4 := ax_nt (z := 4) q4 (by decide)
                      have e5 := ax_nt (z := 5) q5 (by decide)
                      have e6 := ax_nt (z := 6) q6 (by decide)
                      refine lv_tableOut (tgt := 202) hx hb dX2_reasonAgainst_55 (by omega) (by decide) ?_
                      refine lv_iconst (v := 0) hx hb dX2_reasonAgainst_202 (by decide) ?_
                      cases h
                      exact ax_iret C hc hz hR hS rfl rfl dX2_reasonAgainst_203
      · have h := ax_iN q h
        refine lv_iconst (v := 2) hx hb dX2_reasonAgainst_49 (by decide) ?_
        cases h
        exact ax_iret C hc hz hR hS rfl rfl dX2_reasonAgainst_50
    · have h := ax_ip q h
      refine lv_iconst (v := 1) hx hb dX2_reasonAgainst_36 (by decide) ?_
      cases h
      exact ax_iret C hc hz hR hS rfl rfl dX2_reasonAgainst_37
  · have h := ax_ip q h
    refine lv_aload_n hx hb dX2_reasonAgainst_9 rfl (lv_at hl 0 rfl) ?_
    refine ax_getI hx hb hts hown hK hR fl_X2_52 (dio_0 hDb) rfl dX2_reasonAgainst_10 ?_
    refine lv_bipush (v := 99) hx hb dX2_reasonAgainst_13 (by decide) ?_
    refine lv_icmp_lt (tgt := 23) hx hb dX2_reasonAgainst_15 (by decide) (fun q => ?_) (fun q => ?_)
    · have h := ax_ip q h
      refine lv_iconst (v := 0) hx hb dX2_reasonAgainst_23 (by decide) ?_
      cases h
      exact ax_iret C hc hz hR hS rfl rfl dX2_reasonAgainst_24
    · have h := ax_iN q h
      refine lv_bipush (v := 7) hx hb dX2_reasonAgainst_18 (by decide) ?_
      refine lv_goto (tgt := 24) hx hb dX2_reasonAgainst_20 (by decide) ?_
      cases h
      exact ax_iret C hc hz hR hS rfl rfl dX2_reasonAgainst_24
theorem M_X2_reasonAgainst {l : Launch} {E : ax_E} {B : Nat} {lay : List ax_S} {I : ax_I} {J : ax_J} {b : Nat} {a : Nat} {rv : Int32} (hDb : ax_Dio B lay b) (hAa : lay[a]? = some ax_Ac) (h : F_X2_reasonAgainst I b a = some rv) : Cm l yX2_reasonAgainst cX2_reasonAgainst 2 (some .int) 8 E B [.ref (B + b), .ref (B + a)] lay I J (some (.int rv)) lay I J :=
  ax_met (by decide) (Nat.le_of_ble_eq_true rfl) (fun p e R s m args below meth c C => t_X2_reasonAgainst_0 hDb hAa C _ h)
def f_X2_fall_40 (b : Nat) (r2 : ax_I → Int32 → Int32 → Option (ax_I)) (I : ax_I) (x1 : Int32) (x2 : Int32) : Option ax_I :=
  r2 I x1 (x2 + 1)
def f_X2_fall_2 (b : Nat) : Nat → ax_I → Int32 → Int32 → Option ax_I
  | 0, _, _, _ => none
  | n + 1, I, x1, x2 => if 4 ≤ x2 then (F_X2_freeParts (ax_u I b 1 ((I b 1) ||| ((1 : Int32) <<< (x1 &&& 31)))) b x1).bind (fun q60 => some q60) else (F_X2_partBits I b x1 x2).bind (fun q12 => (F_J6_bitCount_0f7a4 I q12).bind (fun q15 => if ax_in x2 4 = true then if ax_in x2 4 = true then f_X2_fall_40 b (f_X2_fall_2 b n) (ax_u I (b + 8) x2.toNatClampNeg (if ((I (b + 8) x2.toNatClampNeg) + (10 * q15)) < 999 then ((I (b + 8) x2.toNatClampNeg) + (10 * q15)) else 999)) x1 x2 else none else none))
def F_X2_fall (I : ax_I) (b : Nat) (x1 : Int32) : Option ax_I :=
  f_X2_fall_2 b ax_N I x1 0
set_option maxRecDepth 100000 in
set_option maxHeartbeats 4000000 in
theorem t_X2_fall_40 {lay : List ax_S} {b : Nat} {J : ax_J} {I9 : ax_I} (hDb : ax_Dio B lay b) (C : ax_C p R s m args meth c yX2_fall cX2_fall 4 none 6 E mc ms) {r2 : ax_I → Int32 → Int32 → Option (ax_I)} (hr2 : ∀ (I : ax_I) (x1 : Int32) (x2 : Int32), r2 I x1 x2 = some I9 → AM p l e R s m args below meth c E B lay.length (ax_z lay) 4 none lay I9 J lay I J 2 [(0, .ref (B + b)), (1, .int x1), (2, .int x2)] []) : ∀ (I : ax_I) (x1 : Int32) (x2 : Int32), f_X2_fall_40 b r2 I x1 x2 = some I9 → AM p l e R s m args below meth c E B lay.length (ax_z lay) 4 none lay I9 J lay I J 40 [(0, .ref (B + b)), (1, .int x1), (2, .int x2)] [] := by
  obtain ⟨hx, hb, hr, hml, hown, hts, hlocks, hK, hfr, hlo, hmc, hms, hnm⟩ := id C
  have hown : s.vm.findClass RX2 = some m.cls := hown
  intro I x1 x2 h H locs cells slots ls hc hz hR hS hl
  unfold f_X2_fall_40 at h
  refine lv_iinc (v := (x2 + 1)) (lv' := [(2, .int (x2 + 1)), (0, .ref (B + b)), (1, .int x1)]) hx hb dX2_fall_40 hl (k := 2) rfl rfl (by decide) rfl (fun ls hl => ?_)
  refine lv_goto (tgt := 2) hx hb dX2_fall_43 (by decide) ?_
  exact hr2 _ _ _ h H locs cells slots ls hc hz hR hS (lv_sub hl [1, 2, 0] rfl)
set_option maxRecDepth 100000 in
set_option maxHeartbeats 4000000 in
theorem t_X2_fall_2 {lay : List ax_S} {b : Nat} {J : ax_J} {I9 : ax_I} (hDb : ax_Dio B lay b) (C : ax_C p R s m args meth c yX2_fall cX2_fall 4 none 6 E mc ms) : ∀ (n : Nat) (I : ax_I) (x1 : Int32) (x2 : Int32), f_X2_fall_2 b n I x1 x2 = some I9 → AM p l e R s m args below meth c E B lay.length (ax_z lay) 4 none lay I9 J lay I J 2 [(0, .ref (B + b)), (1, .int x1), (2, .int x2)] [] := by
  obtain ⟨hx, hb, hr, hml, hown, hts, hlocks, hK, hfr, hlo, hmc, hms, hnm⟩ := id C
  have hown : s.vm.findClass RX2 = some m.cls := hown
  intro n
  induction n with
  | zero => intro I x1 x2 h; cases h
  | succ n ih =>
    intro I x1 x2 h H locs cells slots ls hc hz hR hS hl
    rw [f_X2_fall_2] at h
    refine lv_iload_n hx hb dX2_fall_2 rfl (lv_at hl 2 rfl) ?_
    refine lv_iconst (v := 4) hx hb dX2_fall_3 (by decide) ?_
    refine lv_icmp_ge (tgt := 46) hx hb dX2_fall_4 (by decide) (fun q => ?_) (fun q => ?_)
    · have h := ax_ip q h
      refine lv_aload_n hx hb dX2_fall_46 rfl (lv_at hl 0 rfl) ?_
      refine lv_dup hx hb dX2_fall_47 rfl ?_
      refine ax_getI hx hb hts hown hK hR fl_X2_49 (dio_0 hDb) rfl dX2_fall_48 ?_
      refine lv_iconst (v := 1) hx hb dX2_fall_51 (by decide) ?_
      refine lv_iload_n hx hb dX2_fall_52 rfl (lv_at hl 1 rfl) ?_
      refine lv_ishl hx hb dX2_fall_53 ?_
      refine lv_ior hx hb dX2_fall_54 ?_
      refine ax_putI hx hb hts hown hK hR hS fp_X2_49 (dio_0 hDb) rfl rfl rfl dX2_fall_55 (fun H locs hR hS => ?_)
      refine lv_aload_n hx hb dX2_fall_58 rfl (lv_at hl 0 rfl) ?_
      refine lv_iload_n hx hb dX2_fall_59 rfl (lv_at hl 1 rfl) ?_
      obtain ⟨q60, hq, h⟩ := ax_bd h
      refine ax_cV (rest := []) (st1 := []) C hc hz hS hR (M_X2_freeParts hDb hq) yk_X2_freeParts in_X2_freeParts se_X2_freeParts ml_X2_84 (dio_0 hDb) rfl rfl (by decide) rfl hl.1 (Nat.le_of_ble_eq_true rfl) rfl rfl dX2_fall_60 (fun H locs hR hS => ?_)
      cases h
      exact ax_vret C hc hz hR hS dX2_fall_63
    · have h := ax_iN q h
      refine lv_bipush (v := 10) hx hb dX2_fall_7 (by decide) ?_
      refine lv_aload_n hx hb dX2_fall_9 rfl (lv_at hl 0 rfl) ?_
      refine lv_iload_n hx hb dX2_fall_10 rfl (lv_at hl 1 rfl) ?_
      refine lv_iload_n hx hb dX2_fall_11 rfl (lv_at hl 2 rfl) ?_
      obtain ⟨q12, hq, h⟩ := ax_bd h
      refine ax_cV (rest := [.int 10]) (st1 := [.int q12, .int 10]) C hc hz hS hR (M_X2_partBits hDb hq) yk_X2_partBits in_X2_partBits se_X2_partBits ml_X2_92 (dio_0 hDb) rfl rfl (by decide) rfl hl.1 (Nat.le_of_ble_eq_true rfl) rfl rfl dX2_fall_12 (fun H locs hR hS => ?_)
      obtain ⟨q15, hq, h⟩ := ax_bd h
      refine ax_cS (rest := [.int 10]) (st1 := [.int q15, .int 10]) C hc hz hS hR (M_J6_bitCount_0f7a4  hq) yk_J6_bitCount_0f7a4 st_J6_bitCount_0f7a4 ml_X2_95 (by decide) rfl hl.1 (Nat.le_of_ble_eq_true rfl) rfl rfl dX2_fall_15 (fun H locs hR hS => ?_)
      refine lv_imul hx hb dX2_fall_18 ?_
      refine lv_istore_n (lv' := [(3, .int (10 * q15)), (0, .ref (B + b)), (1, .int x1), (2, .int x2)]) hx hb dX2_fall_19 rfl hl (by decide) rfl (fun ls hl => ?_)
      refine lv_aload_n hx hb dX2_fall_20 rfl (lv_at hl 1 rfl) ?_
      refine ax_getV hx hb hts hown hK hR fl_X2_33 (dio_0 hDb) rfl dX2_fall_21 ?_
      refine lv_iload_n hx hb dX2_fall_24 rfl (lv_at hl 3 rfl) ?_
      refine lv_sipush (v := 999) hx hb dX2_fall_25 (by decide) ?_
      refine lv_aload_n hx hb dX2_fall_28 rfl (lv_at hl 1 rfl) ?_
      refine ax_getV hx hb hts hown hK hR fl_X2_33 (dio_0 hDb) rfl dX2_fall_29 ?_
      refine lv_iload_n hx hb dX2_fall_32 rfl (lv_at hl 3 rfl) ?_
      obtain ⟨hq, h⟩ := ax_ck h
      refine ax_iald hx hb hK hR (dio_8 hDb) hq dX2_fall_33 ?_
      refine lv_iload_n hx hb dX2_fall_34 rfl (lv_at hl 0 rfl) ?_
      refine lv_iadd hx hb dX2_fall_35 ?_
      refine ax_min (rest := [.int x2, .ref (B + (b + 8))]) C hc hz ml_X2_125 (by decide) hl.1 (Nat.le_of_ble_eq_true rfl) dX2_fall_36 ?_
      obtain ⟨hq, h⟩ := ax_ck h
      refine ax_iast hx hb hK hR hS (dio_8 hDb) hq dX2_fall_39 (fun H locs hR hS => ?_)
      exact t_X2_fall_40 hDb C ih _ _ _ h H locs cells slots ls hc hz hR hS (lv_sub hl [1, 2, 3] rfl)
set_option maxRecDepth 100000 in
set_option maxHeartbeats 4000000 in
theorem t_X2_fall_0 {lay : List ax_S} {b : Nat} {J : ax_J} {I9 : ax_I} (hDb : ax_Dio B lay b) (C : ax_C p R s m args meth c yX2_fall cX2_fall 4 none 6 E mc ms) : ∀ (I : ax_I) (x1 : Int32), F_X2_fall I b x1 = some I9 → AM p l e R s m args below meth c E B lay.length (ax_z lay) 4 none lay I9 J lay I J 0 [(0, .ref (B + b)), (1, .int x1)] [] := by
  obtain ⟨hx, hb, hr, hml, hown, hts, hlocks, hK, hfr, hlo, hmc, hms, hnm⟩ := id C
  have hown : s.vm.findClass RX2 = some m.cls := hown
  intro I x1 h H locs cells slots ls hc hz hR hS hl
  unfold F_X2_fall at h
  refine lv_iconst (v := 0) hx hb dX2_fall_0 (by decide) ?_
  refine lv_istore_n (lv' := [(2, .int 0), (0, .ref (B + b)), (1, .int x1)]) hx hb dX2_fall_1 rfl hl (by decide) rfl (fun ls hl => ?_)
  exact t_X2_fall_2 hDb C  ax_N _ _ _ h H locs cells slots ls hc hz hR hS (lv_sub hl [1, 2, 0] rfl)
theorem M_X2_fall {l : Launch} {E : ax_E} {B : Nat} {lay : List ax_S} {I : ax_I} {J : ax_J} {b : Nat} {x1 : Int32} {I9 : ax_I} (hDb : ax_Dio B lay b) (h : F_X2_fall I b x1 = some I9) : Cm l yX2_fall cX2_fall 4 none 6 E B [.ref (B + b), .int x1] lay I J none lay I9 J :=
  ax_met (by decide) (Nat.le_of_ble_eq_true rfl) (fun p e R s m args below meth c C => t_X2_fall_0 hDb C _ _ h)
def f_X2_live_162 (b : Nat) (a : Nat) (I : ax_I) : Option ax_I :=
  some I
def F_X2_live (I : ax_I) (b : Nat) (a : Nat) : Option ax_I :=
  if (I a 0) = 0 then (if ax_in (I a 1) 6 = true then if ax_in (I a 1) 6 = true then some (ax_u I (b + 1) (I a 1).toNatClampNeg ((I (b + 1) (I a 1).toNatClampNeg) + 1)) else none else none) else if (I a 0) = 1 then (if ax_in (I a 1) 6 = true then if ax_in (I a 1) 6 = true then some (ax_u I (b + 2) (I a 1).toNatClampNeg ((I (b + 2) (I a 1).toNatClampNeg) + 1)) else none else none) else if (I a 0) = 2 then (if ax_in (I a 1) 6 = true then if ax_in (I a 1) 6 = true then some (ax_u I (b + 2) (I a 1).toNatClampNeg ((I (b + 2) (I a 1).toNatClampNeg) - 1)) else none else none) else if (I a 0) = 3 then (if ax_in (I a 1) 6 = true then if ax_in (I a 1) 6 = true then some (ax_u I (b + 3) (I a 1).toNatClampNeg ((I (b + 3) (I a 1).toNatClampNeg) + 1)) else none else none) else if (I a 0) = 4 then (F_X2_fall I b (I a 1)).bind (fun q121 => some q121) else if (I a 0) = 5 then (if ax_in (((I a 1) * 8) + (I a 2)) 48 = true then if ax_in ((ax_u I (b + 4) (((I a 1) * 8) + (I a 2)).toNatClampNeg (I a 3)) a 3) 4 = true then if ax_in ((ax_u I (b + 4) (((I a 1) * 8) + (I a 2)).toNatClampNeg (I a 3)) a 3) 4 = true then f_X2_live_162 b a (ax_u (ax_u I (b + 4) (((I a 1) * 8) + (I a 2)).toNatClampNeg (I a 3)) (b + 8) ((ax_u I (b + 4) (((I a 1) * 8) + (I a 2)).toNatClampNeg (I a 3)) a 3).toNatClampNeg (((ax_u I (b + 4) (((I a 1) * 8) + (I a 2)).toNatClampNeg (I a 3)) (b + 8) ((ax_u I (b + 4) (((I a 1) * 8) + (I a 2)).toNatClampNeg (I a 3)) a 3).toNatClampNeg) - 10)) else none else none else none) else if (I a 0) = 6 then some I else if (I a 0) = 7 then some (ax_u I b 2 ((I b 2) + 1)) else some I
set_option maxRecDepth 100000 in
set_option maxHeartbeats 4000000 in
theorem t_X2_live_162 {lay : List ax_S} {b : Nat} {a : Nat} {J : ax_J} {I9 : ax_I} (hDb : ax_Dio B lay b) (hAa : lay[a]? = some ax_Ac) (C : ax_C p R s m args meth c yX2_live cX2_live 2 none 8 E mc ms) : ∀ (I : ax_I), f_X2_live_162 b a I = some I9 → AM p l e R s m args below meth c E B lay.length (ax_z lay) 2 none lay I9 J lay I J 162 [] [] := by
  obtain ⟨hx, hb, hr, hml, hown, hts, hlocks, hK, hfr, hlo, hmc, hms, hnm⟩ := id C
  have hown : s.vm.findClass RX2 = some m.cls := hown
  intro I h H locs cells slots ls hc hz hR hS hl
  unfold f_X2_live_162 at h
  refine lv_goto (tgt := 178) hx hb dX2_live_162 (by decide) ?_
  cases h
  exact ax_vret C hc hz hR hS dX2_live_178
set_option maxRecDepth 100000 in
set_option maxHeartbeats 4000000 in
theorem t_X2_live_0 {lay : List ax_S} {b : Nat} {a : Nat} {J : ax_J} {I9 : ax_I} (hDb : ax_Dio B lay b) (hAa : lay[a]? = some ax_Ac) (C : ax_C p R s m args meth c yX2_live cX2_live 2 none 8 E mc ms) : ∀ (I : ax_I), F_X2_live I b a = some I9 → AM p l e R s m args below meth c E B lay.length (ax_z lay) 2 none lay I9 J lay I J 0 [(0, .ref (B + b)), (1, .ref (B + a))] [] := by
  obtain ⟨hx, hb, hr, hml, hown, hts, hlocks, hK, hfr, hlo, hmc, hms, hnm⟩ := id C
  have hown : s.vm.findClass RX2 = some m.cls := hown
  intro I h H locs cells slots ls hc hz hR hS hl
  unfold F_X2_live at h
  refine lv_aload_n hx hb dX2_live_0 rfl (lv_at hl 1 rfl) ?_
  refine ax_getI hx hb hts hown hK hR fl_X2_104 hAa rfl dX2_live_1 ?_
  by_cases q0 : (I a 0) = 0
  · have h := ax_ip q0 h
    refine lv_tableIn (off := 48) (tgt := 52) hx hb dX2_live_4 (by rw [q0]; decide) (by rw [q0]; decide) (by rw [q0]; rfl) (by decide) ?_
    refine lv_aload_n hx hb dX2_live_52 rfl (lv_at hl 0 rfl) ?_
    refine ax_getV hx hb hts hown hK hR fl_X2_9 (dio_0 hDb) rfl dX2_live_53 ?_
    refine lv_aload_n hx hb dX2_live_56 rfl (lv_at hl 1 rfl) ?_
    refine ax_getI hx hb hts hown hK hR fl_X2_109 hAa rfl dX2_live_57 ?_
    refine lv_dup2_11 hx hb dX2_live_60 rfl rfl ?_
    obtain ⟨hq, h⟩ := ax_ck h
    refine ax_iald hx hb hK hR (dio_1 hDb) hq dX2_live_61 ?_
    refine lv_iconst (v := 1) hx hb dX2_live_62 (by decide) ?_
    refine lv_iadd hx hb dX2_live_63 ?_
    obtain ⟨hq, h⟩ := ax_ck h
    refine ax_iast hx hb hK hR hS (dio_1 hDb) hq dX2_live_64 (fun H locs hR hS => ?_)
    refine lv_goto (tgt := 178) hx hb dX2_live_65 (by decide) ?_
    cases h
    exact ax_vret C hc hz hR hS dX2_live_178
  · have h := ax_iN q0 h
    by_cases q1 : (I a 0) = 1
    · have h := ax_ip q1 h
      refine lv_tableIn (off := 64) (tgt := 68) hx hb dX2_live_4 (by rw [q1]; decide) (by rw [q1]; decide) (by rw [q1]; rfl) (by decide) ?_
      refine lv_aload_n hx hb dX2_live_68 rfl (lv_at hl 0 rfl) ?_
      refine ax_getV hx hb hts hown hK hR fl_X2_15 (dio_0 hDb) rfl dX2_live_69 ?_
      refine lv_aload_n hx hb dX2_live_72 rfl (lv_at hl 1 rfl) ?_
      refine ax_getI hx hb hts hown hK hR fl_X2_109 hAa rfl dX2_live_73 ?_
      refine lv_dup2_11 hx hb dX2_live_76 rfl rfl ?_
      obtain ⟨hq, h⟩ := ax_ck h
      refine ax_iald hx hb hK hR (dio_2 hDb) hq dX2_live_77 ?_
      refine lv_iconst (v := 1) hx hb dX2_live_78 (by decide) ?_
      refine lv_iadd hx hb dX2_live_79 ?_
      obtain ⟨hq, h⟩ := ax_ck h
      refine ax_iast hx hb hK hR hS (dio_2 hDb) hq dX2_live_80 (fun H locs hR hS => ?_)
      refine lv_goto (tgt := 178) hx hb dX2_live_81 (by decide) ?_
      cases h
      exact ax_vret C hc hz hR hS dX2_live_178
    · have h := ax_iN q1 h
      by_cases q2 : (I a 0) = 2
      · have h := ax_ip q2 h
        refine lv_tableIn (off := 96) (tgt := 100) hx hb dX2_live_4 (by rw [q2]; decide) (by rw [q2]; decide) (by rw [q2]; rfl) (by decide) ?_
        refine lv_aload_n hx hb dX2_live_100 rfl (lv_at hl 0 rfl) ?_
        refine ax_getV hx hb hts hown hK hR fl_X2_15 (dio_0 hDb) rfl dX2_live_101 ?_
        refine lv_aload_n hx hb dX2_live_104 rfl (lv_at hl 1 rfl) ?_
        refine ax_getI hx hb hts hown hK hR fl_X2_109 hAa rfl dX2_live_105 ?_
        refine lv_dup2_11 hx hb dX2_live_108 rfl rfl ?_
        obtain ⟨hq, h⟩ := ax_ck h
        refine ax_iald hx hb hK hR (dio_2 hDb) hq dX2_live_109 ?_
        refine lv_iconst (v := 1) hx hb dX2_live_110 (by decide) ?_
        refine lv_isub hx hb dX2_live_111 ?_
        obtain ⟨hq, h⟩ := ax_ck h
        refine ax_iast hx hb hK hR hS (dio_2 hDb) hq dX2_live_112 (fun H locs hR hS => ?_)
        refine lv_goto (tgt := 178) hx hb dX2_live_113 (by decide) ?_
        cases h
        exact ax_vret C hc hz hR hS dX2_live_178
      · have h := ax_iN q2 h
        by_cases q3 : (I a 0) = 3
        · have h := ax_ip q3 h
          refine lv_tableIn (off := 80) (tgt := 84) hx hb dX2_live_4 (by rw [q3]; decide) (by rw [q3]; decide) (by rw [q3]; rfl) (by decide) ?_
          refine lv_aload_n hx hb dX2_live_84 rfl (lv_at hl 0 rfl) ?_
          refine ax_getV hx hb hts hown hK hR fl_X2_18 (dio_0 hDb) rfl dX2_live_85 ?_
          refine lv_aload_n hx hb dX2_live_88 rfl (lv_at hl 1 rfl) ?_
          refine ax_getI hx hb hts hown hK hR fl_X2_109 hAa rfl dX2_live_89 ?_
          refine lv_dup2_11 hx hb dX2_live_92 rfl rfl ?_
          obtain ⟨hq, h⟩ := ax_ck h
          refine ax_iald hx hb hK hR (dio_3 hDb) hq dX2_live_93 ?_
          refine lv_iconst (v := 1) hx hb dX2_live_94 (by decide) ?_
          refine lv_iadd hx hb dX2_live_95 ?_
          obtain ⟨hq, h⟩ := ax_ck h
          refine ax_iast hx hb hK hR hS (dio_3 hDb) hq dX2_live_96 (fun H locs hR hS => ?_)
          refine lv_goto (tgt := 178) hx hb dX2_live_97 (by decide) ?_
          cases h
          exact ax_vret C hc hz hR hS dX2_live_178
        · have h := ax_iN q3 h
          by_cases q4 : (I a 0) = 4
          · have h := ax_ip q4 h
            refine lv_tableIn (off := 112) (tgt := 116) hx hb dX2_live_4 (by rw [q4]; decide) (by rw [q4]; decide) (by rw [q4]; rfl) (by decide) ?_
            refine lv_aload_n hx hb dX2_live_116 rfl (lv_at hl 0 rfl) ?_
            refine lv_aload_n hx hb dX2_live_117 rfl (lv_at hl 1 rfl) ?_
            refine ax_getI hx hb hts hown hK hR fl_X2_109 hAa rfl dX2_live_118 ?_
            obtain ⟨q121, hq, h⟩ := ax_bd h
            refine ax_cV (rest := []) (st1 := []) C hc hz hS hR (M_X2_fall hDb hq) yk_X2_fall in_X2_fall se_X2_fall ml_X2_122 (dio_0 hDb) rfl rfl (by decide) rfl hl.1 (Nat.le_of_ble_eq_true rfl) rfl rfl dX2_live_121 (fun H locs hR hS => ?_)
            refine lv_goto (tgt := 178) hx hb dX2_live_124 (by decide) ?_
            cases h
            exact ax_vret C hc hz hR hS dX2_live_178
          · have h := ax_iN q4 h
            by_cases q5 : (I a 0) = 5
            · have h := ax_ip q5 h
              refine lv_tableIn (off := 123) (tgt := 127) hx hb dX2_live_4 (by rw [q5]; decide) (by rw [q5]; decide) (by rw [q5]; rfl) (by decide) ?_
              refine lv_aload_n hx hb dX2_live_127 rfl (lv_at hl 0 rfl) ?_
              refine ax_getV hx hb hts hown hK hR fl_X2_21 (dio_0 hDb) rfl dX2_live_128 ?_
              refine lv_aload_n hx hb dX2_live_131 rfl (lv_at hl 1 rfl) ?_
              refine ax_getI hx hb hts hown hK hR fl_X2_109 hAa rfl dX2_live_132 ?_
              refine lv_bipush (v := 8) hx hb dX2_live_135 (by decide) ?_
              refine lv_imul hx hb dX2_live_137 ?_
              refine lv_aload_n hx hb dX2_live_138 rfl (lv_at hl 1 rfl) ?_
              refine ax_getI hx hb hts hown hK hR fl_X2_119 hAa rfl dX2_live_139 ?_
              refine lv_iadd hx hb dX2_live_142 ?_
              refine lv_aload_n hx hb dX2_live_143 rfl (lv_at hl 1 rfl) ?_
              refine ax_getI hx hb hts hown hK hR fl_X2_116 hAa rfl dX2_live_144 ?_
              obtain ⟨hq, h⟩ := ax_ck h
              refine ax_iast hx hb hK hR hS (dio_4 hDb) hq dX2_live_147 (fun H locs hR hS => ?_)
              refine lv_aload_n hx hb dX2_live_148 rfl (lv_at hl 0 rfl) ?_
              refine ax_getV hx hb hts hown hK hR fl_X2_33 (dio_0 hDb) rfl dX2_live_149 ?_
              refine lv_aload_n hx hb dX2_live_152 rfl (lv_at hl 1 rfl) ?_
              refine ax_getI hx hb hts hown hK hR fl_X2_116 hAa rfl dX2_live_153 ?_
              refine lv_dup2_11 hx hb dX2_live_156 rfl rfl ?_
              obtain ⟨hq, h⟩ := ax_ck h
              refine ax_iald hx hb hK hR (dio_8 hDb) hq dX2_live_157 ?_
              refine lv_bipush (v := 10) hx hb dX2_live_158 (by decide) ?_
              refine lv_isub hx hb dX2_live_160 ?_
              obtain ⟨hq, h⟩ := ax_ck h
              refine ax_iast hx hb hK hR hS (dio_8 hDb) hq dX2_live_161 (fun H locs hR hS => ?_)
              exact t_X2_live_162 hDb hAa C  _ h H locs cells slots ls hc hz hR hS (lv_sub hl [] rfl)
            · have h := ax_iN q5 h
              by_cases q6 : (I a 0) = 6
              · have h := ax_ip q6 h
                refine lv_tableIn (off := 174) (tgt := 178) hx hb dX2_live_4 (by rw [q6]; decide) (by rw [q6]; decide) (by rw [q6]; rfl) (by decide) ?_
                cases h
                exact ax_vret C hc hz hR hS dX2_live_178
              · have h := ax_iN q6 h
                by_cases q7 : (I a 0) = 7
                · have h := ax_ip q7 h
                  refine lv_tableIn (off := 161) (tgt := 165) hx hb dX2_live_4 (by rw [q7]; decide) (by rw [q7]; decide) (by rw [q7]; rfl) (by decide) ?_
                  refine lv_aload_n hx hb dX2_live_165 rfl (lv_at hl 0 rfl) ?_
                  refine lv_dup hx hb dX2_live_166 rfl ?_
                  refine ax_getI hx hb hts hown hK hR fl_X2_52 (dio_0 hDb) rfl dX2_live_167 ?_
                  refine lv_iconst (v := 1) hx hb dX2_live_170 (by decide) ?_
                  refine lv_iadd hx hb dX2_live_171 ?_
                  refine ax_putI hx hb hts hown hK hR hS fp_X2_52 (dio_0 hDb) rfl rfl rfl dX2_live_172 (fun H locs hR hS => ?_)
                  refine lv_goto (tgt := 178) hx hb dX2_live_175 (by decide) ?_
                  cases h
                  exact ax_vret C hc hz hR hS dX2_live_178
                · have h := ax_iN q7 h
                  have e0 := ax_nt (z := 0) q0 (by decide)
                  have e1 := ax_nt (z := 1) q1 (by decide)
                  have e2 := ax_nt (z := 2) q2 (by decide)
                  have e3 := ax_nt (z := 3) q3 (by decide)
                  have e4 := ax_nt (z := 4) q4 (by decide)
                  have e5 := ax_nt (z := 5) q5 (by decide)
                  have e6 := ax_nt (z := 6) q6 (by decide)
                  have e7 := ax_nt (z := 7) q7 (by decide)
                  refine lv_tableOut (tgt := 178) hx hb dX2_live_4 (by omega) (by decide) ?_
                  cases h
                  exact ax_vret C hc hz hR hS dX2_live_178
theorem M_X2_live {l : Launch} {E : ax_E} {B : Nat} {lay : List ax_S} {I : ax_I} {J : ax_J} {b : Nat} {a : Nat} {I9 : ax_I} (hDb : ax_Dio B lay b) (hAa : lay[a]? = some ax_Ac) (h : F_X2_live I b a = some I9) : Cm l yX2_live cX2_live 2 none 8 E B [.ref (B + b), .ref (B + a)] lay I J none lay I9 J :=
  ax_met (by decide) (Nat.le_of_ble_eq_true rfl) (fun p e R s m args below meth c C => t_X2_live_0 hDb hAa C _ h)
def F_X3_makesSaint (I : ax_I) (x0 : Int32) (x1 : Int32) (x2 : Int32) : Option Int32 :=
  if x1 < (x0 / 10) then some 0 else if (x0 - x0 / 10 * 10) < x2 then some 0 else some 1
set_option maxRecDepth 100000 in
set_option maxHeartbeats 4000000 in
theorem t_X3_makesSaint_0 {lay : List ax_S} {J : ax_J} {rv : Int32} (C : ax_C p R s m args meth c yX3_makesSaint cX3_makesSaint 3 (some .boolean) 2 E mc ms) : ∀ (I : ax_I) (x0 : Int32) (x1 : Int32) (x2 : Int32), F_X3_makesSaint I x0 x1 x2 = some rv → AM p l e R s m args below meth c E B lay.length (ax_z lay) 3 (some (.int rv)) lay I J lay I J 0 [(0, .int x0), (1, .int x1), (2, .int x2)] [] := by
  obtain ⟨hx, hb, hr, hml, hown, hts, hlocks, hK, hfr, hlo, hmc, hms, hnm⟩ := id C
  have hown : s.vm.findClass RX3 = some m.cls := hown
  intro I x0 x1 x2 h H locs cells slots ls hc hz hR hS hl
  unfold F_X3_makesSaint at h
  refine lv_iload_n hx hb dX3_makesSaint_0 rfl (lv_at hl 1 rfl) ?_
  refine lv_iload_n hx hb dX3_makesSaint_1 rfl (lv_at hl 0 rfl) ?_
  refine lv_bipush (v := 10) hx hb dX3_makesSaint_2 (by decide) ?_
  refine lv_idiv hx hb dX3_makesSaint_4 (by decide) ?_
  refine lv_icmp_lt (tgt := 20) hx hb dX3_makesSaint_5 (by decide) (fun q => ?_) (fun q => ?_)
  · have h := ax_ip q h
    refine lv_iconst (v := 0) hx hb dX3_makesSaint_20 (by decide) ?_
    cases h
    exact ax_iret C hc hz hR hS rfl ax_bool_n0 dX3_makesSaint_21
  · have h := ax_iN q h
    refine lv_iload_n hx hb dX3_makesSaint_8 rfl (lv_at hl 2 rfl) ?_
    refine lv_iload_n hx hb dX3_makesSaint_9 rfl (lv_at hl 0 rfl) ?_
    refine lv_bipush (v := 10) hx hb dX3_makesSaint_10 (by decide) ?_
    refine lv_irem hx hb dX3_makesSaint_12 (by decide) ?_
    refine lv_icmp_gt (tgt := 20) hx hb dX3_makesSaint_13 (by decide) (fun q => ?_) (fun q => ?_)
    · have h := ax_ip q h
      refine lv_iconst (v := 0) hx hb dX3_makesSaint_20 (by decide) ?_
      cases h
      exact ax_iret C hc hz hR hS rfl ax_bool_n0 dX3_makesSaint_21
    · have h := ax_iN q h
      refine lv_iconst (v := 1) hx hb dX3_makesSaint_16 (by decide) ?_
      refine lv_goto (tgt := 21) hx hb dX3_makesSaint_17 (by decide) ?_
      cases h
      exact ax_iret C hc hz hR hS rfl ax_bool_n1 dX3_makesSaint_21
theorem M_X3_makesSaint {l : Launch} {E : ax_E} {B : Nat} {lay : List ax_S} {I : ax_I} {J : ax_J} {x0 : Int32} {x1 : Int32} {x2 : Int32} {rv : Int32} (h : F_X3_makesSaint I x0 x1 x2 = some rv) : Cm l yX3_makesSaint cX3_makesSaint 3 (some .boolean) 2 E B [.int x0, .int x1, .int x2] lay I J (some (.int rv)) lay I J :=
  ax_met (by decide) (Nat.le_of_ble_eq_true rfl) (fun p e R s m args below meth c C => t_X3_makesSaint_0  C _ _ _ _ h)
def f_X3_fits_33 (b : Nat) (r2 : ax_I → Int32 → Int32 → Option (Int32)) (I : ax_I) (x0 : Int32) (x2 : Int32) (x3 : Int32) (s0 : Int32) : Option Int32 :=
  (F_X3_makesSaint I x0 (x3 / 10) (x3 - x3 / 10 * 10)).bind (fun q44 => if q44 = s0 then r2 I x0 (x2 + 1) else some 0)
def f_X3_fits_2 (b : Nat) : Nat → ax_I → Int32 → Int32 → Option Int32
  | 0, _, _, _ => none
  | n + 1, I, x0, x2 => if (I b 3) ≤ x2 then some 1 else if ax_in x2 8 = true then if (((I b 4) >>> (x2 &&& 31)) &&& 1) = 0 then f_X3_fits_33 b (f_X3_fits_2 b n) I x0 x2 (I (b + 11) x2.toNatClampNeg) 0 else f_X3_fits_33 b (f_X3_fits_2 b n) I x0 x2 (I (b + 11) x2.toNatClampNeg) 1 else none
def F_X3_fits (I : ax_I) (x0 : Int32) (b : Nat) : Option Int32 :=
  f_X3_fits_2 b ax_N I x0 0
set_option maxRecDepth 100000 in
set_option maxHeartbeats 4000000 in
theorem t_X3_fits_33 {lay : List ax_S} {b : Nat} {J : ax_J} {rv : Int32} (hDb : ax_Dio B lay b) (C : ax_C p R s m args meth c yX3_fits cX3_fits 5 (some .boolean) 4 E mc ms) {r2 : ax_I → Int32 → Int32 → Option (Int32)} (hr2 : ∀ (I : ax_I) (x0 : Int32) (x2 : Int32), r2 I x0 x2 = some rv → AM p l e R s m args below meth c E B lay.length (ax_z lay) 5 (some (.int rv)) lay I J lay I J 2 [(0, .int x0), (1, .ref (B + b)), (2, .int x2)] []) : ∀ (I : ax_I) (x0 : Int32) (x2 : Int32) (x3 : Int32) (s0 : Int32), f_X3_fits_33 b r2 I x0 x2 x3 s0 = some rv → AM p l e R s m args below meth c E B lay.length (ax_z lay) 5 (some (.int rv)) lay I J lay I J 33 [(0, .int x0), (1, .ref (B + b)), (2, .int x2), (3, .int x3)] [.int s0] := by
  obtain ⟨hx, hb, hr, hml, hown, hts, hlocks, hK, hfr, hlo, hmc, hms, hnm⟩ := id C
  have hown : s.vm.findClass RX3 = some m.cls := hown
  intro I x0 x2 x3 s0 h H locs cells slots ls hc hz hR hS hl
  unfold f_X3_fits_33 at h
  refine lv_istore (lv' := [(4, .int s0), (0, .int x0), (1, .ref (B + b)), (2, .int x2), (3, .int x3)]) hx hb dX3_fits_33 hl (by decide) rfl (fun ls hl => ?_)
  refine lv_iload_n hx hb dX3_fits_35 rfl (lv_at hl 1 rfl) ?_
  refine lv_iload_n hx hb dX3_fits_36 rfl (lv_at hl 4 rfl) ?_
  refine lv_bipush (v := 10) hx hb dX3_fits_37 (by decide) ?_
  refine lv_idiv hx hb dX3_fits_39 (by decide) ?_
  refine lv_iload_n hx hb dX3_fits_40 rfl (lv_at hl 4 rfl) ?_
  refine lv_bipush (v := 10) hx hb dX3_fits_41 (by decide) ?_
  refine lv_irem hx hb dX3_fits_43 (by decide) ?_
  obtain ⟨q44, hq, h⟩ := ax_bd h
  refine ax_cS (rest := []) (st1 := [.int q44]) C hc hz hS hR (M_X3_makesSaint  hq) yk_X3_makesSaint st_X3_makesSaint ml_X3_34 (by decide) rfl hl.1 (Nat.le_of_ble_eq_true rfl) rfl rfl dX3_fits_44 (fun H locs hR hS => ?_)
  refine lv_iload hx hb dX3_fits_47 (lv_at hl 0 rfl) ?_
  refine lv_icmp_eq (tgt := 54) hx hb dX3_fits_49 (by decide) (fun q => ?_) (fun q => ?_)
  · have h := ax_ip q h
    refine lv_iinc (v := (x2 + 1)) (lv' := [(2, .int (x2 + 1)), (4, .int s0), (0, .int x0), (1, .ref (B + b)), (3, .int x3)]) hx hb dX3_fits_54 hl (k := 3) rfl rfl (by decide) rfl (fun ls hl => ?_)
    refine lv_goto (tgt := 2) hx hb dX3_fits_57 (by decide) ?_
    exact hr2 _ _ _ h H locs cells slots ls hc hz hR hS (lv_sub hl [2, 3, 0] rfl)
  · have h := ax_iN q h
    refine lv_iconst (v := 0) hx hb dX3_fits_52 (by decide) ?_
    cases h
    exact ax_iret C hc hz hR hS rfl ax_bool_n0 dX3_fits_53
set_option maxRecDepth 100000 in
set_option maxHeartbeats 4000000 in
theorem t_X3_fits_2 {lay : List ax_S} {b : Nat} {J : ax_J} {rv : Int32} (hDb : ax_Dio B lay b) (C : ax_C p R s m args meth c yX3_fits cX3_fits 5 (some .boolean) 4 E mc ms) : ∀ (n : Nat) (I : ax_I) (x0 : Int32) (x2 : Int32), f_X3_fits_2 b n I x0 x2 = some rv → AM p l e R s m args below meth c E B lay.length (ax_z lay) 5 (some (.int rv)) lay I J lay I J 2 [(0, .int x0), (1, .ref (B + b)), (2, .int x2)] [] := by
  obtain ⟨hx, hb, hr, hml, hown, hts, hlocks, hK, hfr, hlo, hmc, hms, hnm⟩ := id C
  have hown : s.vm.findClass RX3 = some m.cls := hown
  intro n
  induction n with
  | zero => intro I x0 x2 h; cases h
  | succ n ih =>
    intro I x0 x2 h H locs cells slots ls hc hz hR hS hl
    rw [f_X3_fits_2] at h
    refine lv_iload_n hx hb dX3_fits_2 rfl (lv_at hl 2 rfl) ?_
    refine lv_aload_n hx hb dX3_fits_3 rfl (lv_at hl 1 rfl) ?_
    refine ax_getI hx hb hts hown hK hR fl_X3_23 (dio_0 hDb) rfl dX3_fits_4 ?_
    refine lv_icmp_ge (tgt := 60) hx hb dX3_fits_7 (by decide) (fun q => ?_) (fun q => ?_)
    · have h := ax_ip q h
      refine lv_iconst (v := 1) hx hb dX3_fits_60 (by decide) ?_
      cases h
      exact ax_iret C hc hz hR hS rfl ax_bool_n1 dX3_fits_61
    · have h := ax_iN q h
      refine lv_aload_n hx hb dX3_fits_10 rfl (lv_at hl 1 rfl) ?_
      refine ax_getV hx hb hts hown hK hR fl_X3_28 (dio_0 hDb) rfl dX3_fits_11 ?_
      refine lv_iload_n hx hb dX3_fits_14 rfl (lv_at hl 2 rfl) ?_
      obtain ⟨hq, h⟩ := ax_ck h
      refine ax_iald hx hb hK hR (dio_11 hDb) hq dX3_fits_15 ?_
      refine lv_istore_n (lv' := [(3, .int (I (b + 11) x2.toNatClampNeg)), (0, .int x0), (1, .ref (B + b)), (2, .int x2)]) hx hb dX3_fits_16 rfl hl (by decide) rfl (fun ls hl => ?_)
      refine lv_aload_n hx hb dX3_fits_17 rfl (lv_at hl 2 rfl) ?_
      refine ax_getI hx hb hts hown hK hR fl_X3_31 (dio_0 hDb) rfl dX3_fits_18 ?_
      refine lv_iload_n hx hb dX3_fits_21 rfl (lv_at hl 3 rfl) ?_
      refine lv_ishr hx hb dX3_fits_22 ?_
      refine lv_iconst (v := 1) hx hb dX3_fits_23 (by decide) ?_
      refine lv_iand hx hb dX3_fits_24 ?_
      refine lv_if_eq (tgt := 32) hx hb dX3_fits_25 (by decide) (fun q => ?_) (fun q => ?_)
      · have h := ax_ip q h
        refine lv_iconst (v := 0) hx hb dX3_fits_32 (by decide) ?_
        exact t_X3_fits_33 hDb C ih _ _ _ _ _ h H locs cells slots ls hc hz hR hS (lv_sub hl [1, 2, 3, 0] rfl)
      · have h := ax_iN q h
        refine lv_iconst (v := 1) hx hb dX3_fits_28 (by decide) ?_
        refine lv_goto (tgt := 33) hx hb dX3_fits_29 (by decide) ?_
        exact t_X3_fits_33 hDb C ih _ _ _ _ _ h H locs cells slots ls hc hz hR hS (lv_sub hl [1, 2, 3, 0] rfl)
set_option maxRecDepth 100000 in
set_option maxHeartbeats 4000000 in
theorem t_X3_fits_0 {lay : List ax_S} {b : Nat} {J : ax_J} {rv : Int32} (hDb : ax_Dio B lay b) (C : ax_C p R s m args meth c yX3_fits cX3_fits 5 (some .boolean) 4 E mc ms) : ∀ (I : ax_I) (x0 : Int32), F_X3_fits I x0 b = some rv → AM p l e R s m args below meth c E B lay.length (ax_z lay) 5 (some (.int rv)) lay I J lay I J 0 [(0, .int x0), (1, .ref (B + b))] [] := by
  obtain ⟨hx, hb, hr, hml, hown, hts, hlocks, hK, hfr, hlo, hmc, hms, hnm⟩ := id C
  have hown : s.vm.findClass RX3 = some m.cls := hown
  intro I x0 h H locs cells slots ls hc hz hR hS hl
  unfold F_X3_fits at h
  refine lv_iconst (v := 0) hx hb dX3_fits_0 (by decide) ?_
  refine lv_istore_n (lv' := [(2, .int 0), (0, .int x0), (1, .ref (B + b))]) hx hb dX3_fits_1 rfl hl (by decide) rfl (fun ls hl => ?_)
  exact t_X3_fits_2 hDb C  ax_N _ _ _ h H locs cells slots ls hc hz hR hS (lv_sub hl [1, 2, 0] rfl)
theorem M_X3_fits {l : Launch} {E : ax_E} {B : Nat} {lay : List ax_S} {I : ax_I} {J : ax_J} {x0 : Int32} {b : Nat} {rv : Int32} (hDb : ax_Dio B lay b) (h : F_X3_fits I x0 b = some rv) : Cm l yX3_fits cX3_fits 5 (some .boolean) 4 E B [.int x0, .ref (B + b)] lay I J (some (.int rv)) lay I J :=
  ax_met (by decide) (Nat.le_of_ble_eq_true rfl) (fun p e R s m args below meth c C => t_X3_fits_0 hDb C _ _ h)
def f_X3_find_41 (b : Nat) (r7 : ax_I → Int32 → Option (ax_I)) (I : ax_I) (x2 : Int32) : Option ax_I :=
  r7 I (x2 + 1)
def f_X3_find_7 (b : Nat) : Nat → ax_I → Int32 → Option ax_I
  | 0, _, _ => none
  | n + 1, I, x2 => if 100 ≤ x2 then some I else (F_X3_fits I x2 b).bind (fun q15 => if q15 = 0 then f_X3_find_41 b (f_X3_find_7 b n) I x2 else if ax_in (I 33 1) 100 = true then f_X3_find_41 b (f_X3_find_7 b n) (ax_u (ax_u I 34 (I 33 1).toNatClampNeg x2) 33 1 (((ax_u I 34 (I 33 1).toNatClampNeg x2) 33 1) + 1)) x2 else none)
def F_X3_find (I : ax_I) (b : Nat) : Option ax_I :=
  f_X3_find_7 b ax_N (ax_u I 33 1 0) 0
set_option maxRecDepth 100000 in
set_option maxHeartbeats 4000000 in
theorem t_X3_find_41 {lay : List ax_S} {b : Nat} {J : ax_J} {I9 : ax_I} (hL : ax_LL B lay) (hDb : ax_Dio B lay b) (C : ax_C p R s m args meth c yX3_find cX3_find 3 none 6 E mc ms) {r7 : ax_I → Int32 → Option (ax_I)} (hr7 : ∀ (I : ax_I) (x2 : Int32), r7 I x2 = some I9 → AM p l e R s m args below meth c E B lay.length (ax_z lay) 3 none lay I9 J lay I J 7 [(0, .ref (B + 33)), (1, .ref (B + b)), (2, .int x2)] []) : ∀ (I : ax_I) (x2 : Int32), f_X3_find_41 b r7 I x2 = some I9 → AM p l e R s m args below meth c E B lay.length (ax_z lay) 3 none lay I9 J lay I J 41 [(0, .ref (B + 33)), (1, .ref (B + b)), (2, .int x2)] [] := by
  obtain ⟨hx, hb, hr, hml, hown, hts, hlocks, hK, hfr, hlo, hmc, hms, hnm⟩ := id C
  have hown : s.vm.findClass RX3 = some m.cls := hown
  intro I x2 h H locs cells slots ls hc hz hR hS hl
  unfold f_X3_find_41 at h
  refine lv_iinc (v := (x2 + 1)) (lv' := [(2, .int (x2 + 1)), (0, .ref (B + 33)), (1, .ref (B + b))]) hx hb dX3_find_41 hl (k := 2) rfl rfl (by decide) rfl (fun ls hl => ?_)
  refine lv_goto (tgt := 7) hx hb dX3_find_44 (by decide) ?_
  exact hr7 _ _ h H locs cells slots ls hc hz hR hS (lv_sub hl [1, 2, 0] rfl)
set_option maxRecDepth 100000 in
set_option maxHeartbeats 4000000 in
theorem t_X3_find_7 {lay : List ax_S} {b : Nat} {J : ax_J} {I9 : ax_I} (hL : ax_LL B lay) (hDb : ax_Dio B lay b) (C : ax_C p R s m args meth c yX3_find cX3_find 3 none 6 E mc ms) : ∀ (n : Nat) (I : ax_I) (x2 : Int32), f_X3_find_7 b n I x2 = some I9 → AM p l e R s m args below meth c E B lay.length (ax_z lay) 3 none lay I9 J lay I J 7 [(0, .ref (B + 33)), (1, .ref (B + b)), (2, .int x2)] [] := by
  obtain ⟨hx, hb, hr, hml, hown, hts, hlocks, hK, hfr, hlo, hmc, hms, hnm⟩ := id C
  have hown : s.vm.findClass RX3 = some m.cls := hown
  intro n
  induction n with
  | zero => intro I x2 h; cases h
  | succ n ih =>
    intro I x2 h H locs cells slots ls hc hz hR hS hl
    rw [f_X3_find_7] at h
    refine lv_iload_n hx hb dX3_find_7 rfl (lv_at hl 2 rfl) ?_
    refine lv_bipush (v := 100) hx hb dX3_find_8 (by decide) ?_
    refine lv_icmp_ge (tgt := 47) hx hb dX3_find_10 (by decide) (fun q => ?_) (fun q => ?_)
    · have h := ax_ip q h
      cases h
      exact ax_vret C hc hz hR hS dX3_find_47
    · have h := ax_iN q h
      refine lv_iload_n hx hb dX3_find_13 rfl (lv_at hl 2 rfl) ?_
      refine lv_aload_n hx hb dX3_find_14 rfl (lv_at hl 1 rfl) ?_
      obtain ⟨q15, hq, h⟩ := ax_bd h
      refine ax_cS (rest := []) (st1 := [.int q15]) C hc hz hS hR (M_X3_fits hDb hq) yk_X3_fits st_X3_fits ml_X3_19 (by decide) rfl hl.1 (Nat.le_of_ble_eq_true rfl) rfl rfl dX3_find_15 (fun H locs hR hS => ?_)
      refine lv_if_eq (tgt := 41) hx hb dX3_find_18 (by decide) (fun q => ?_) (fun q => ?_)
      · have h := ax_ip q h
        exact t_X3_find_41 hL hDb C ih _ _ h H locs cells slots ls hc hz hR hS (lv_sub hl [0, 1, 2] rfl)
      · have h := ax_iN q h
        refine lv_aload_n hx hb dX3_find_21 rfl (lv_at hl 0 rfl) ?_
        refine ax_getV hx hb hts hown hK hR fl_X3_9 (lk_33 hL) rfl dX3_find_22 ?_
        refine lv_aload_n hx hb dX3_find_25 rfl (lv_at hl 0 rfl) ?_
        refine ax_getI hx hb hts hown hK hR fl_X3_15 (lk_33 hL) rfl dX3_find_26 ?_
        refine lv_iload_n hx hb dX3_find_29 rfl (lv_at hl 2 rfl) ?_
        obtain ⟨hq, h⟩ := ax_ck h
        refine ax_iast hx hb hK hR hS (lk_34 hL) hq dX3_find_30 (fun H locs hR hS => ?_)
        refine lv_aload_n hx hb dX3_find_31 rfl (lv_at hl 0 rfl) ?_
        refine lv_dup hx hb dX3_find_32 rfl ?_
        refine ax_getI hx hb hts hown hK hR fl_X3_15 (lk_33 hL) rfl dX3_find_33 ?_
        refine lv_iconst (v := 1) hx hb dX3_find_36 (by decide) ?_
        refine lv_iadd hx hb dX3_find_37 ?_
        refine ax_putI hx hb hts hown hK hR hS fp_X3_15 (lk_33 hL) rfl rfl rfl dX3_find_38 (fun H locs hR hS => ?_)
        exact t_X3_find_41 hL hDb C ih _ _ h H locs cells slots ls hc hz hR hS (lv_sub hl [0, 1, 2] rfl)
set_option maxRecDepth 100000 in
set_option maxHeartbeats 4000000 in
theorem t_X3_find_0 {lay : List ax_S} {b : Nat} {J : ax_J} {I9 : ax_I} (hL : ax_LL B lay) (hDb : ax_Dio B lay b) (C : ax_C p R s m args meth c yX3_find cX3_find 3 none 6 E mc ms) : ∀ (I : ax_I), F_X3_find I b = some I9 → AM p l e R s m args below meth c E B lay.length (ax_z lay) 3 none lay I9 J lay I J 0 [(0, .ref (B + 33)), (1, .ref (B + b))] [] := by
  obtain ⟨hx, hb, hr, hml, hown, hts, hlocks, hK, hfr, hlo, hmc, hms, hnm⟩ := id C
  have hown : s.vm.findClass RX3 = some m.cls := hown
  intro I h H locs cells slots ls hc hz hR hS hl
  unfold F_X3_find at h
  refine lv_aload_n hx hb dX3_find_0 rfl (lv_at hl 0 rfl) ?_
  refine lv_iconst (v := 0) hx hb dX3_find_1 (by decide) ?_
  refine ax_putI hx hb hts hown hK hR hS fp_X3_15 (lk_33 hL) rfl rfl rfl dX3_find_2 (fun H locs hR hS => ?_)
  refine lv_iconst (v := 0) hx hb dX3_find_5 (by decide) ?_
  refine lv_istore_n (lv' := [(2, .int 0), (0, .ref (B + 33)), (1, .ref (B + b))]) hx hb dX3_find_6 rfl hl (by decide) rfl (fun ls hl => ?_)
  exact t_X3_find_7 hL hDb C  ax_N _ _ h H locs cells slots ls hc hz hR hS (lv_sub hl [1, 2, 0] rfl)
theorem M_X3_find {l : Launch} {E : ax_E} {B : Nat} {lay : List ax_S} {I : ax_I} {J : ax_J} {b : Nat} {I9 : ax_I} (hL : ax_LL B lay) (hDb : ax_Dio B lay b) (h : F_X3_find I b = some I9) : Cm l yX3_find cX3_find 3 none 6 E B [.ref (B + 33), .ref (B + b)] lay I J none lay I9 J :=
  ax_met (by decide) (Nat.le_of_ble_eq_true rfl) (fun p e R s m args below meth c C => t_X3_find_0 hL hDb C _ h)
def f_X3_countThatMake_32 (r5 : ax_I → Int32 → Int32 → Int32 → Int32 → Option (Int32)) (I : ax_I) (x1 : Int32) (x2 : Int32) (x3 : Int32) (x4 : Int32) : Option Int32 :=
  r5 I x1 x2 x3 (x4 + 1)
def f_X3_countThatMake_5 : Nat → ax_I → Int32 → Int32 → Int32 → Int32 → Option Int32
  | 0, _, _, _, _, _ => none
  | n + 1, I, x1, x2, x3, x4 => if (I 33 1) ≤ x4 then some x3 else if ax_in x4 100 = true then (F_X3_makesSaint I (I 34 x4.toNatClampNeg) x1 x2).bind (fun q23 => if q23 = 0 then f_X3_countThatMake_32 (f_X3_countThatMake_5 n) I x1 x2 x3 x4 else f_X3_countThatMake_32 (f_X3_countThatMake_5 n) I x1 x2 (x3 + 1) x4) else none
def F_X3_countThatMake (I : ax_I) (x1 : Int32) (x2 : Int32) : Option Int32 :=
  f_X3_countThatMake_5 ax_N I x1 x2 0 0
set_option maxRecDepth 100000 in
set_option maxHeartbeats 4000000 in
theorem t_X3_countThatMake_32 {lay : List ax_S} {J : ax_J} {rv : Int32} (hL : ax_LL B lay) (C : ax_C p R s m args meth c yX3_countThatMake cX3_countThatMake 5 (some .int) 4 E mc ms) {r5 : ax_I → Int32 → Int32 → Int32 → Int32 → Option (Int32)} (hr5 : ∀ (I : ax_I) (x1 : Int32) (x2 : Int32) (x3 : Int32) (x4 : Int32), r5 I x1 x2 x3 x4 = some rv → AM p l e R s m args below meth c E B lay.length (ax_z lay) 5 (some (.int rv)) lay I J lay I J 5 [(0, .ref (B + 33)), (1, .int x1), (2, .int x2), (3, .int x3), (4, .int x4)] []) : ∀ (I : ax_I) (x1 : Int32) (x2 : Int32) (x3 : Int32) (x4 : Int32), f_X3_countThatMake_32 r5 I x1 x2 x3 x4 = some rv → AM p l e R s m args below meth c E B lay.length (ax_z lay) 5 (some (.int rv)) lay I J lay I J 32 [(0, .ref (B + 33)), (1, .int x1), (2, .int x2), (3, .int x3), (4, .int x4)] [] := by
  obtain ⟨hx, hb, hr, hml, hown, hts, hlocks, hK, hfr, hlo, hmc, hms, hnm⟩ := id C
  have hown : s.vm.findClass RX3 = some m.cls := hown
  intro I x1 x2 x3 x4 h H locs cells slots ls hc hz hR hS hl
  unfold f_X3_countThatMake_32 at h
  refine lv_iinc (v := (x4 + 1)) (lv' := [(4, .int (x4 + 1)), (0, .ref (B + 33)), (1, .int x1), (2, .int x2), (3, .int x3)]) hx hb dX3_countThatMake_32 hl (k := 4) rfl rfl (by decide) rfl (fun ls hl => ?_)
  refine lv_goto (tgt := 5) hx hb dX3_countThatMake_35 (by decide) ?_
  exact hr5 _ _ _ _ _ h H locs cells slots ls hc hz hR hS (lv_sub hl [1, 2, 3, 4, 0] rfl)
set_option maxRecDepth 100000 in
set_option maxHeartbeats 4000000 in
theorem t_X3_countThatMake_5 {lay : List ax_S} {J : ax_J} {rv : Int32} (hL : ax_LL B lay) (C : ax_C p R s m args meth c yX3_countThatMake cX3_countThatMake 5 (some .int) 4 E mc ms) : ∀ (n : Nat) (I : ax_I) (x1 : Int32) (x2 : Int32) (x3 : Int32) (x4 : Int32), f_X3_countThatMake_5 n I x1 x2 x3 x4 = some rv → AM p l e R s m args below meth c E B lay.length (ax_z lay) 5 (some (.int rv)) lay I J lay I J 5 [(0, .ref (B + 33)), (1, .int x1), (2, .int x2), (3, .int x3), (4, .int x4)] [] := by
  obtain ⟨hx, hb, hr, hml, hown, hts, hlocks, hK, hfr, hlo, hmc, hms, hnm⟩ := id C
  have hown : s.vm.findClass RX3 = some m.cls := hown
  intro n
  induction n with
  | zero => intro I x1 x2 x3 x4 h; cases h
  | succ n ih =>
    intro I x1 x2 x3 x4 h H locs cells slots ls hc hz hR hS hl
    rw [f_X3_countThatMake_5] at h
    refine lv_iload hx hb dX3_countThatMake_5 (lv_at hl 4 rfl) ?_
    refine lv_aload_n hx hb dX3_countThatMake_7 rfl (lv_at hl 0 rfl) ?_
    refine ax_getI hx hb hts hown hK hR fl_X3_15 (lk_33 hL) rfl dX3_countThatMake_8 ?_
    refine lv_icmp_ge (tgt := 38) hx hb dX3_countThatMake_11 (by decide) (fun q => ?_) (fun q => ?_)
    · have h := ax_ip q h
      refine lv_iload_n hx hb dX3_countThatMake_38 rfl (lv_at hl 3 rfl) ?_
      cases h
      exact ax_iret C hc hz hR hS rfl rfl dX3_countThatMake_39
    · have h := ax_iN q h
      refine lv_aload_n hx hb dX3_countThatMake_14 rfl (lv_at hl 0 rfl) ?_
      refine ax_getV hx hb hts hown hK hR fl_X3_9 (lk_33 hL) rfl dX3_countThatMake_15 ?_
      refine lv_iload hx hb dX3_countThatMake_18 (lv_at hl 4 rfl) ?_
      obtain ⟨hq, h⟩ := ax_ck h
      refine ax_iald hx hb hK hR (lk_34 hL) hq dX3_countThatMake_20 ?_
      refine lv_iload_n hx hb dX3_countThatMake_21 rfl (lv_at hl 1 rfl) ?_
      refine lv_iload_n hx hb dX3_countThatMake_22 rfl (lv_at hl 2 rfl) ?_
      obtain ⟨q23, hq, h⟩ := ax_bd h
      refine ax_cS (rest := []) (st1 := [.int q23]) C hc hz hS hR (M_X3_makesSaint  hq) yk_X3_makesSaint st_X3_makesSaint ml_X3_34 (by decide) rfl hl.1 (Nat.le_of_ble_eq_true rfl) rfl rfl dX3_countThatMake_23 (fun H locs hR hS => ?_)
      refine lv_if_eq (tgt := 32) hx hb dX3_countThatMake_26 (by decide) (fun q => ?_) (fun q => ?_)
      · have h := ax_ip q h
        exact t_X3_countThatMake_32 hL C ih _ _ _ _ _ h H locs cells slots ls hc hz hR hS (lv_sub hl [0, 1, 2, 3, 4] rfl)
      · have h := ax_iN q h
        refine lv_iinc (v := (x3 + 1)) (lv' := [(3, .int (x3 + 1)), (0, .ref (B + 33)), (1, .int x1), (2, .int x2), (4, .int x4)]) hx hb dX3_countThatMake_29 hl (k := 3) rfl rfl (by decide) rfl (fun ls hl => ?_)
        exact t_X3_countThatMake_32 hL C ih _ _ _ _ _ h H locs cells slots ls hc hz hR hS (lv_sub hl [1, 2, 3, 0, 4] rfl)
set_option maxRecDepth 100000 in
set_option maxHeartbeats 4000000 in
theorem t_X3_countThatMake_0 {lay : List ax_S} {J : ax_J} {rv : Int32} (hL : ax_LL B lay) (C : ax_C p R s m args meth c yX3_countThatMake cX3_countThatMake 5 (some .int) 4 E mc ms) : ∀ (I : ax_I) (x1 : Int32) (x2 : Int32), F_X3_countThatMake I x1 x2 = some rv → AM p l e R s m args below meth c E B lay.length (ax_z lay) 5 (some (.int rv)) lay I J lay I J 0 [(0, .ref (B + 33)), (1, .int x1), (2, .int x2)] [] := by
  obtain ⟨hx, hb, hr, hml, hown, hts, hlocks, hK, hfr, hlo, hmc, hms, hnm⟩ := id C
  have hown : s.vm.findClass RX3 = some m.cls := hown
  intro I x1 x2 h H locs cells slots ls hc hz hR hS hl
  unfold F_X3_countThatMake at h
  refine lv_iconst (v := 0) hx hb dX3_countThatMake_0 (by decide) ?_
  refine lv_istore_n (lv' := [(3, .int 0), (0, .ref (B + 33)), (1, .int x1), (2, .int x2)]) hx hb dX3_countThatMake_1 rfl hl (by decide) rfl (fun ls hl => ?_)
  refine lv_iconst (v := 0) hx hb dX3_countThatMake_2 (by decide) ?_
  refine lv_istore (lv' := [(4, .int 0), (3, .int 0), (0, .ref (B + 33)), (1, .int x1), (2, .int x2)]) hx hb dX3_countThatMake_3 hl (by decide) rfl (fun ls hl => ?_)
  exact t_X3_countThatMake_5 hL C  ax_N _ _ _ _ _ h H locs cells slots ls hc hz hR hS (lv_sub hl [2, 3, 4, 1, 0] rfl)
theorem M_X3_countThatMake {l : Launch} {E : ax_E} {B : Nat} {lay : List ax_S} {I : ax_I} {J : ax_J} {x1 : Int32} {x2 : Int32} {rv : Int32} (hL : ax_LL B lay) (h : F_X3_countThatMake I x1 x2 = some rv) : Cm l yX3_countThatMake cX3_countThatMake 5 (some .int) 4 E B [.ref (B + 33), .int x1, .int x2] lay I J (some (.int rv)) lay I J :=
  ax_met (by decide) (Nat.le_of_ble_eq_true rfl) (fun p e R s m args below meth c C => t_X3_countThatMake_0 hL C _ _ _ h)
def f_X4_write_29 (I : ax_I) : Option ax_I :=
  some I
def F_X4_write (I : ax_I) (x1 : Int32) : Option ax_I :=
  if 60 ≤ (I 26 1) then f_X4_write_29 I else if ax_in (I 26 1) 60 = true then f_X4_write_29 (ax_u (ax_u I 27 (I 26 1).toNatClampNeg (vp_nar .char x1)) 26 1 (((ax_u I 27 (I 26 1).toNatClampNeg (vp_nar .char x1)) 26 1) + 1)) else none
set_option maxRecDepth 100000 in
set_option maxHeartbeats 4000000 in
theorem t_X4_write_29 {lay : List ax_S} {J : ax_J} {I9 : ax_I} (hL : ax_LL B lay) (C : ax_C p R s m args meth c yX4_write cX4_write 2 none 2 E mc ms) : ∀ (I : ax_I), f_X4_write_29 I = some I9 → AM p l e R s m args below meth c E B lay.length (ax_z lay) 2 none lay I9 J lay I J 29 [] [] := by
  obtain ⟨hx, hb, hr, hml, hown, hts, hlocks, hK, hfr, hlo, hmc, hms, hnm⟩ := id C
  have hown : s.vm.findClass RX4 = some m.cls := hown
  intro I h H locs cells slots ls hc hz hR hS hl
  unfold f_X4_write_29 at h
  cases h
  exact ax_vret C hc hz hR hS dX4_write_29
set_option maxRecDepth 100000 in
set_option maxHeartbeats 4000000 in
theorem t_X4_write_0 {lay : List ax_S} {J : ax_J} {I9 : ax_I} (hL : ax_LL B lay) (C : ax_C p R s m args meth c yX4_write cX4_write 2 none 2 E mc ms) : ∀ (I : ax_I) (x1 : Int32), F_X4_write I x1 = some I9 → AM p l e R s m args below meth c E B lay.length (ax_z lay) 2 none lay I9 J lay I J 0 [(0, .ref (B + 26)), (1, .int x1)] [] := by
  obtain ⟨hx, hb, hr, hml, hown, hts, hlocks, hK, hfr, hlo, hmc, hms, hnm⟩ := id C
  have hown : s.vm.findClass RX4 = some m.cls := hown
  intro I x1 h H locs cells slots ls hc hz hR hS hl
  unfold F_X4_write at h
  refine lv_aload_n hx hb dX4_write_0 rfl (lv_at hl 0 rfl) ?_
  refine ax_getI hx hb hts hown hK hR fl_X4_15 (lk_26 hL) rfl dX4_write_1 ?_
  refine lv_bipush (v := 60) hx hb dX4_write_4 (by decide) ?_
  refine lv_icmp_ge (tgt := 29) hx hb dX4_write_6 (by decide) (fun q => ?_) (fun q => ?_)
  · have h := ax_ip q h
    exact t_X4_write_29 hL C  _ h H locs cells slots ls hc hz hR hS (lv_sub hl [] rfl)
  · have h := ax_iN q h
    refine lv_aload_n hx hb dX4_write_9 rfl (lv_at hl 0 rfl) ?_
    refine ax_getV hx hb hts hown hK hR fl_X4_11 (lk_26 hL) rfl dX4_write_10 ?_
    refine lv_aload_n hx hb dX4_write_13 rfl (lv_at hl 0 rfl) ?_
    refine ax_getI hx hb hts hown hK hR fl_X4_15 (lk_26 hL) rfl dX4_write_14 ?_
    refine lv_iload_n hx hb dX4_write_17 rfl (lv_at hl 1 rfl) ?_
    obtain ⟨hq, h⟩ := ax_ck h
    refine ax_cast hx hb hK hR hS (lk_27 hL) hq dX4_write_18 (fun H locs hR hS => ?_)
    refine lv_aload_n hx hb dX4_write_19 rfl (lv_at hl 0 rfl) ?_
    refine lv_dup hx hb dX4_write_20 rfl ?_
    refine ax_getI hx hb hts hown hK hR fl_X4_15 (lk_26 hL) rfl dX4_write_21 ?_
    refine lv_iconst (v := 1) hx hb dX4_write_24 (by decide) ?_
    refine lv_iadd hx hb dX4_write_25 ?_
    refine ax_putI hx hb hts hown hK hR hS fp_X4_15 (lk_26 hL) rfl rfl rfl dX4_write_26 (fun H locs hR hS => ?_)
    exact t_X4_write_29 hL C  _ h H locs cells slots ls hc hz hR hS (lv_sub hl [] rfl)
theorem M_X4_write {l : Launch} {E : ax_E} {B : Nat} {lay : List ax_S} {I : ax_I} {J : ax_J} {x1 : Int32} {I9 : ax_I} (hL : ax_LL B lay) (h : F_X4_write I x1 = some I9) : Cm l yX4_write cX4_write 2 none 2 E B [.ref (B + 26), .int x1] lay I J none lay I9 J :=
  ax_met (by decide) (Nat.le_of_ble_eq_true rfl) (fun p e R s m args below meth c C => t_X4_write_0 hL C _ _ h)
def F_X4_signAt (I : ax_I) (x1 : Int32) : Option Int32 :=
  (F_X6_within I x1 0 ((I 26 1) - 1)).bind (fun q8 => if q8 = 0 then (if ax_char 46 = true then some 46 else none) else if ax_in x1 60 = true then if ax_char (I 27 x1.toNatClampNeg) = true then some (I 27 x1.toNatClampNeg) else none else none)
set_option maxRecDepth 100000 in
set_option maxHeartbeats 4000000 in
theorem t_X4_signAt_0 {lay : List ax_S} {J : ax_J} {rv : Int32} (hL : ax_LL B lay) (C : ax_C p R s m args meth c yX4_signAt cX4_signAt 2 (some .char) 4 E mc ms) : ∀ (I : ax_I) (x1 : Int32), F_X4_signAt I x1 = some rv → AM p l e R s m args below meth c E B lay.length (ax_z lay) 2 (some (.int rv)) lay I J lay I J 0 [(0, .ref (B + 26)), (1, .int x1)] [] := by
  obtain ⟨hx, hb, hr, hml, hown, hts, hlocks, hK, hfr, hlo, hmc, hms, hnm⟩ := id C
  have hown : s.vm.findClass RX4 = some m.cls := hown
  intro I x1 h H locs cells slots ls hc hz hR hS hl
  unfold F_X4_signAt at h
  refine lv_iload_n hx hb dX4_signAt_0 rfl (lv_at hl 1 rfl) ?_
  refine lv_iconst (v := 0) hx hb dX4_signAt_1 (by decide) ?_
  refine lv_aload_n hx hb dX4_signAt_2 rfl (lv_at hl 0 rfl) ?_
  refine ax_getI hx hb hts hown hK hR fl_X4_15 (lk_26 hL) rfl dX4_signAt_3 ?_
  refine lv_iconst (v := 1) hx hb dX4_signAt_6 (by decide) ?_
  refine lv_isub hx hb dX4_signAt_7 ?_
  obtain ⟨q8, hq, h⟩ := ax_bd h
  refine ax_cN (rest := []) (st1 := [.int q8]) C hc hz hS hR (M_X6_within  hq) yk_X6_within st_X6_within nl_X4_31 (by decide) rfl hl.1 (Nat.le_of_ble_eq_true rfl) rfl rfl dX4_signAt_8 (fun H locs hR hS => ?_)
  refine lv_if_eq (tgt := 23) hx hb dX4_signAt_11 (by decide) (fun q => ?_) (fun q => ?_)
  · have h := ax_ip q h
    refine lv_bipush (v := 46) hx hb dX4_signAt_23 (by decide) ?_
    obtain ⟨hq, h⟩ := ax_ck h
    cases h
    exact ax_iret C hc hz hR hS rfl (ax_char_n hq) dX4_signAt_25
  · have h := ax_iN q h
    refine lv_aload_n hx hb dX4_signAt_14 rfl (lv_at hl 0 rfl) ?_
    refine ax_getV hx hb hts hown hK hR fl_X4_11 (lk_26 hL) rfl dX4_signAt_15 ?_
    refine lv_iload_n hx hb dX4_signAt_18 rfl (lv_at hl 1 rfl) ?_
    obtain ⟨hq, h⟩ := ax_ck h
    refine ax_cald hx hb hK hR (lk_27 hL) hq dX4_signAt_19 ?_
    refine lv_goto (tgt := 25) hx hb dX4_signAt_20 (by decide) ?_
    obtain ⟨hq, h⟩ := ax_ck h
    cases h
    exact ax_iret C hc hz hR hS rfl (ax_char_n hq) dX4_signAt_25
theorem M_X4_signAt {l : Launch} {E : ax_E} {B : Nat} {lay : List ax_S} {I : ax_I} {J : ax_J} {x1 : Int32} {rv : Int32} (hL : ax_LL B lay) (h : F_X4_signAt I x1 = some rv) : Cm l yX4_signAt cX4_signAt 2 (some .char) 4 E B [.ref (B + 26), .int x1] lay I J (some (.int rv)) lay I J :=
  ax_met (by decide) (Nat.le_of_ble_eq_true rfl) (fun p e R s m args below meth c C => t_X4_signAt_0 hL C _ _ h)
def F_X4_deedKind (I : ax_I) (x0 : Int32) : Option Int32 :=
  if x0 = 101 then some 3 else if x0 = 112 then some 2 else if x0 = 115 then some 1 else if x0 = 119 then some 0 else if x0 = 120 then some 4 else some (-6)
set_option maxRecDepth 100000 in
set_option maxHeartbeats 4000000 in
theorem t_X4_deedKind_0 {lay : List ax_S} {J : ax_J} {rv : Int32} (C : ax_C p R s m args meth c yX4_deedKind cX4_deedKind 1 (some .int) 2 E mc ms) : ∀ (I : ax_I) (x0 : Int32), F_X4_deedKind I x0 = some rv → AM p l e R s m args below meth c E B lay.length (ax_z lay) 1 (some (.int rv)) lay I J lay I J 0 [(0, .int x0)] [] := by
  obtain ⟨hx, hb, hr, hml, hown, hts, hlocks, hK, hfr, hlo, hmc, hms, hnm⟩ := id C
  have hown : s.vm.findClass RX4 = some m.cls := hown
  intro I x0 h H locs cells slots ls hc hz hR hS hl
  unfold F_X4_deedKind at h
  refine lv_iload_n hx hb dX4_deedKind_0 rfl (lv_at hl 0 rfl) ?_
  by_cases q0 : x0 = 101
  · have h := ax_ip q0 h
    refine lv_lookup (off := 57) (tgt := 58) hx hb dX4_deedKind_1 (by decide) (by rw [q0]; rfl) (by decide) ?_
    refine lv_iconst (v := 3) hx hb dX4_deedKind_58 (by decide) ?_
    cases h
    exact ax_iret C hc hz hR hS rfl rfl dX4_deedKind_59
  · have h := ax_iN q0 h
    by_cases q1 : x0 = 112
    · have h := ax_ip q1 h
      refine lv_lookup (off := 55) (tgt := 56) hx hb dX4_deedKind_1 (by decide) (by rw [q1]; rfl) (by decide) ?_
      refine lv_iconst (v := 2) hx hb dX4_deedKind_56 (by decide) ?_
      cases h
      exact ax_iret C hc hz hR hS rfl rfl dX4_deedKind_57
    · have h := ax_iN q1 h
      by_cases q2 : x0 = 115
      · have h := ax_ip q2 h
        refine lv_lookup (off := 53) (tgt := 54) hx hb dX4_deedKind_1 (by decide) (by rw [q2]; rfl) (by decide) ?_
        refine lv_iconst (v := 1) hx hb dX4_deedKind_54 (by decide) ?_
        cases h
        exact ax_iret C hc hz hR hS rfl rfl dX4_deedKind_55
      · have h := ax_iN q2 h
        by_cases q3 : x0 = 119
        · have h := ax_ip q3 h
          refine lv_lookup (off := 51) (tgt := 52) hx hb dX4_deedKind_1 (by decide) (by rw [q3]; rfl) (by decide) ?_
          refine lv_iconst (v := 0) hx hb dX4_deedKind_52 (by decide) ?_
          cases h
          exact ax_iret C hc hz hR hS rfl rfl dX4_deedKind_53
        · have h := ax_iN q3 h
          by_cases q4 : x0 = 120
          · have h := ax_ip q4 h
            refine lv_lookup (off := 59) (tgt := 60) hx hb dX4_deedKind_1 (by decide) (by rw [q4]; rfl) (by decide) ?_
            refine lv_iconst (v := 4) hx hb dX4_deedKind_60 (by decide) ?_
            cases h
            exact ax_iret C hc hz hR hS rfl rfl dX4_deedKind_61
          · have h := ax_iN q4 h
            have e0 := ax_nt (z := 101) q0 (by decide)
            have e1 := ax_nt (z := 112) q1 (by decide)
            have e2 := ax_nt (z := 115) q2 (by decide)
            have e3 := ax_nt (z := 119) q3 (by decide)
            have e4 := ax_nt (z := 120) q4 (by decide)
            refine lv_lookup (off := 61) (tgt := 62) hx hb dX4_deedKind_1 (by decide) (by simp [Op.lookupswitch.offset, Ne.symm e0, Ne.symm e1, Ne.symm e2, Ne.symm e3, Ne.symm e4]) (by decide) ?_
            refine lv_bipush (v := (-6)) hx hb dX4_deedKind_62 (by decide) ?_
            cases h
            exact ax_iret C hc hz hR hS rfl rfl dX4_deedKind_64
theorem M_X4_deedKind {l : Launch} {E : ax_E} {B : Nat} {lay : List ax_S} {I : ax_I} {J : ax_J} {x0 : Int32} {rv : Int32} (h : F_X4_deedKind I x0 = some rv) : Cm l yX4_deedKind cX4_deedKind 1 (some .int) 2 E B [.int x0] lay I J (some (.int rv)) lay I J :=
  ax_met (by decide) (Nat.le_of_ble_eq_true rfl) (fun p e R s m args below meth c C => t_X4_deedKind_0  C _ _ h)
def F_X4_isChild (I : ax_I) (x0 : Int32) : Option Int32 :=
  (F_X6_within I x0 65 70).bind (fun q5 => if ax_bool q5 = true then some q5 else none)
set_option maxRecDepth 100000 in
set_option maxHeartbeats 4000000 in
theorem t_X4_isChild_0 {lay : List ax_S} {J : ax_J} {rv : Int32} (C : ax_C p R s m args meth c yX4_isChild cX4_isChild 1 (some .boolean) 4 E mc ms) : ∀ (I : ax_I) (x0 : Int32), F_X4_isChild I x0 = some rv → AM p l e R s m args below meth c E B lay.length (ax_z lay) 1 (some (.int rv)) lay I J lay I J 0 [(0, .int x0)] [] := by
  obtain ⟨hx, hb, hr, hml, hown, hts, hlocks, hK, hfr, hlo, hmc, hms, hnm⟩ := id C
  have hown : s.vm.findClass RX4 = some m.cls := hown
  intro I x0 h H locs cells slots ls hc hz hR hS hl
  unfold F_X4_isChild at h
  refine lv_iload_n hx hb dX4_isChild_0 rfl (lv_at hl 0 rfl) ?_
  refine lv_bipush (v := 65) hx hb dX4_isChild_1 (by decide) ?_
  refine lv_bipush (v := 70) hx hb dX4_isChild_3 (by decide) ?_
  obtain ⟨q5, hq, h⟩ := ax_bd h
  refine ax_cN (rest := []) (st1 := [.int q5]) C hc hz hS hR (M_X6_within  hq) yk_X6_within st_X6_within nl_X4_31 (by decide) rfl hl.1 (Nat.le_of_ble_eq_true rfl) rfl rfl dX4_isChild_5 (fun H locs hR hS => ?_)
  obtain ⟨hq, h⟩ := ax_ck h
  cases h
  exact ax_iret C hc hz hR hS rfl (ax_bool_n hq) dX4_isChild_8
theorem M_X4_isChild {l : Launch} {E : ax_E} {B : Nat} {lay : List ax_S} {I : ax_I} {J : ax_J} {x0 : Int32} {rv : Int32} (h : F_X4_isChild I x0 = some rv) : Cm l yX4_isChild cX4_isChild 1 (some .boolean) 4 E B [.int x0] lay I J (some (.int rv)) lay I J :=
  ax_met (by decide) (Nat.le_of_ble_eq_true rfl) (fun p e R s m args below meth c C => t_X4_isChild_0  C _ _ h)
def F_X4_isParish (I : ax_I) (x0 : Int32) : Option Int32 :=
  (F_X6_within I x0 97 100).bind (fun q5 => if ax_bool q5 = true then some q5 else none)
set_option maxRecDepth 100000 in
set_option maxHeartbeats 4000000 in
theorem t_X4_isParish_0 {lay : List ax_S} {J : ax_J} {rv : Int32} (C : ax_C p R s m args meth c yX4_isParish cX4_isParish 1 (some .boolean) 4 E mc ms) : ∀ (I : ax_I) (x0 : Int32), F_X4_isParish I x0 = some rv → AM p l e R s m args below meth c E B lay.length (ax_z lay) 1 (some (.int rv)) lay I J lay I J 0 [(0, .int x0)] [] := by
  obtain ⟨hx, hb, hr, hml, hown, hts, hlocks, hK, hfr, hlo, hmc, hms, hnm⟩ := id C
  have hown : s.vm.findClass RX4 = some m.cls := hown
  intro I x0 h H locs cells slots ls hc hz hR hS hl
  unfold F_X4_isParish at h
  refine lv_iload_n hx hb dX4_isParish_0 rfl (lv_at hl 0 rfl) ?_
  refine lv_bipush (v := 97) hx hb dX4_isParish_1 (by decide) ?_
  refine lv_bipush (v := 100) hx hb dX4_isParish_3 (by decide) ?_
  obtain ⟨q5, hq, h⟩ := ax_bd h
  refine ax_cN (rest := []) (st1 := [.int q5]) C hc hz hS hR (M_X6_within  hq) yk_X6_within st_X6_within nl_X4_31 (by decide) rfl hl.1 (Nat.le_of_ble_eq_true rfl) rfl rfl dX4_isParish_5 (fun H locs hR hS => ?_)
  obtain ⟨hq, h⟩ := ax_ck h
  cases h
  exact ax_iret C hc hz hR hS rfl (ax_bool_n hq) dX4_isParish_8
theorem M_X4_isParish {l : Launch} {E : ax_E} {B : Nat} {lay : List ax_S} {I : ax_I} {J : ax_J} {x0 : Int32} {rv : Int32} (h : F_X4_isParish I x0 = some rv) : Cm l yX4_isParish cX4_isParish 1 (some .boolean) 4 E B [.int x0] lay I J (some (.int rv)) lay I J :=
  ax_met (by decide) (Nat.le_of_ble_eq_true rfl) (fun p e R s m args below meth c C => t_X4_isParish_0  C _ _ h)
def F_X4_wantedAfterFirst (I : ax_I) (x0 : Int32) : Option Int32 :=
  if x0 = 46 then some 0 else if x0 = 102 then some 3 else (F_X4_isChild I x0).bind (fun q17 => if q17 = 0 then some 5 else some 1)
set_option maxRecDepth 100000 in
set_option maxHeartbeats 4000000 in
theorem t_X4_wantedAfterFirst_0 {lay : List ax_S} {J : ax_J} {rv : Int32} (C : ax_C p R s m args meth c yX4_wantedAfterFirst cX4_wantedAfterFirst 1 (some .int) 6 E mc ms) : ∀ (I : ax_I) (x0 : Int32), F_X4_wantedAfterFirst I x0 = some rv → AM p l e R s m args below meth c E B lay.length (ax_z lay) 1 (some (.int rv)) lay I J lay I J 0 [(0, .int x0)] [] := by
  obtain ⟨hx, hb, hr, hml, hown, hts, hlocks, hK, hfr, hlo, hmc, hms, hnm⟩ := id C
  have hown : s.vm.findClass RX4 = some m.cls := hown
  intro I x0 h H locs cells slots ls hc hz hR hS hl
  unfold F_X4_wantedAfterFirst at h
  refine lv_iload_n hx hb dX4_wantedAfterFirst_0 rfl (lv_at hl 0 rfl) ?_
  refine lv_bipush (v := 46) hx hb dX4_wantedAfterFirst_1 (by decide) ?_
  refine lv_icmp_ne (tgt := 8) hx hb dX4_wantedAfterFirst_3 (by decide) (fun q => ?_) (fun q => ?_)
  · have h := ax_iN q h
    refine lv_iload_n hx hb dX4_wantedAfterFirst_8 rfl (lv_at hl 0 rfl) ?_
    refine lv_bipush (v := 102) hx hb dX4_wantedAfterFirst_9 (by decide) ?_
    refine lv_icmp_ne (tgt := 16) hx hb dX4_wantedAfterFirst_11 (by decide) (fun q => ?_) (fun q => ?_)
    · have h := ax_iN q h
      refine lv_iload_n hx hb dX4_wantedAfterFirst_16 rfl (lv_at hl 0 rfl) ?_
      obtain ⟨q17, hq, h⟩ := ax_bd h
      refine ax_cS (rest := []) (st1 := [.int q17]) C hc hz hS hR (M_X4_isChild  hq) yk_X4_isChild st_X4_isChild ml_X4_42 (by decide) rfl hl.1 (Nat.le_of_ble_eq_true rfl) rfl rfl dX4_wantedAfterFirst_17 (fun H locs hR hS => ?_)
      refine lv_if_eq (tgt := 27) hx hb dX4_wantedAfterFirst_20 (by decide) (fun q => ?_) (fun q => ?_)
      · have h := ax_ip q h
        refine lv_iconst (v := 5) hx hb dX4_wantedAfterFirst_27 (by decide) ?_
        cases h
        exact ax_iret C hc hz hR hS rfl rfl dX4_wantedAfterFirst_28
      · have h := ax_iN q h
        refine lv_iconst (v := 1) hx hb dX4_wantedAfterFirst_23 (by decide) ?_
        refine lv_goto (tgt := 28) hx hb dX4_wantedAfterFirst_24 (by decide) ?_
        cases h
        exact ax_iret C hc hz hR hS rfl rfl dX4_wantedAfterFirst_28
    · have h := ax_ip q h
      refine lv_iconst (v := 3) hx hb dX4_wantedAfterFirst_14 (by decide) ?_
      cases h
      exact ax_iret C hc hz hR hS rfl rfl dX4_wantedAfterFirst_15
  · have h := ax_ip q h
    refine lv_iconst (v := 0) hx hb dX4_wantedAfterFirst_6 (by decide) ?_
    cases h
    exact ax_iret C hc hz hR hS rfl rfl dX4_wantedAfterFirst_7
theorem M_X4_wantedAfterFirst {l : Launch} {E : ax_E} {B : Nat} {lay : List ax_S} {I : ax_I} {J : ax_J} {x0 : Int32} {rv : Int32} (h : F_X4_wantedAfterFirst I x0 = some rv) : Cm l yX4_wantedAfterFirst cX4_wantedAfterFirst 1 (some .int) 6 E B [.int x0] lay I J (some (.int rv)) lay I J :=
  ax_met (by decide) (Nat.le_of_ble_eq_true rfl) (fun p e R s m args below meth c C => t_X4_wantedAfterFirst_0  C _ _ h)
def F_X4_wantedAfter (I : ax_I) (x0 : Int32) (x1 : Int32) : Option Int32 :=
  if x0 = 0 then (F_X4_wantedAfterFirst I x1).bind (fun q37 => some q37) else if x0 = 1 then (F_X6_within I x1 48 55).bind (fun q46 => if q46 = 0 then (F_X4_deedKind I x1).bind (fun q55 => if q55 = (-6) then some 5 else some 0) else some 2) else if x0 = 2 then (F_X4_isParish I x1).bind (fun q70 => if q70 = 0 then some 5 else some 0) else if x0 = 3 then (F_X4_isParish I x1).bind (fun q83 => if q83 = 0 then some 5 else some 4) else if x0 = 4 then (F_X4_isChild I x1).bind (fun q96 => if q96 = 0 then some 5 else some 0) else some 5
set_option maxRecDepth 100000 in
set_option maxHeartbeats 4000000 in
theorem t_X4_wantedAfter_0 {lay : List ax_S} {J : ax_J} {rv : Int32} (C : ax_C p R s m args meth c yX4_wantedAfter cX4_wantedAfter 2 (some .int) 8 E mc ms) : ∀ (I : ax_I) (x0 : Int32) (x1 : Int32), F_X4_wantedAfter I x0 x1 = some rv → AM p l e R s m args below meth c E B lay.length (ax_z lay) 2 (some (.int rv)) lay I J lay I J 0 [(0, .int x0), (1, .int x1)] [] := by
  obtain ⟨hx, hb, hr, hml, hown, hts, hlocks, hK, hfr, hlo, hmc, hms, hnm⟩ := id C
  have hown : s.vm.findClass RX4 = some m.cls := hown
  intro I x0 x1 h H locs cells slots ls hc hz hR hS hl
  unfold F_X4_wantedAfter at h
  refine lv_iload_n hx hb dX4_wantedAfter_0 rfl (lv_at hl 0 rfl) ?_
  by_cases q0 : x0 = 0
  · have h := ax_ip q0 h
    refine lv_tableIn (off := 35) (tgt := 36) hx hb dX4_wantedAfter_1 (by rw [q0]; decide) (by rw [q0]; decide) (by rw [q0]; rfl) (by decide) ?_
    refine lv_iload_n hx hb dX4_wantedAfter_36 rfl (lv_at hl 1 rfl) ?_
    obtain ⟨q37, hq, h⟩ := ax_bd h
    refine ax_cS (rest := []) (st1 := [.int q37]) C hc hz hS hR (M_X4_wantedAfterFirst  hq) yk_X4_wantedAfterFirst st_X4_wantedAfterFirst ml_X4_27 (by decide) rfl hl.1 (Nat.le_of_ble_eq_true rfl) rfl rfl dX4_wantedAfter_37 (fun H locs hR hS => ?_)
    cases h
    exact ax_iret C hc hz hR hS rfl rfl dX4_wantedAfter_40
  · have h := ax_iN q0 h
    by_cases q1 : x0 = 1
    · have h := ax_ip q1 h
      refine lv_tableIn (off := 40) (tgt := 41) hx hb dX4_wantedAfter_1 (by rw [q1]; decide) (by rw [q1]; decide) (by rw [q1]; rfl) (by decide) ?_
      refine lv_iload_n hx hb dX4_wantedAfter_41 rfl (lv_at hl 1 rfl) ?_
      refine lv_bipush (v := 48) hx hb dX4_wantedAfter_42 (by decide) ?_
      refine lv_bipush (v := 55) hx hb dX4_wantedAfter_44 (by decide) ?_
      obtain ⟨q46, hq, h⟩ := ax_bd h
      refine ax_cN (rest := []) (st1 := [.int q46]) C hc hz hS hR (M_X6_within  hq) yk_X6_within st_X6_within nl_X4_31 (by decide) rfl hl.1 (Nat.le_of_ble_eq_true rfl) rfl rfl dX4_wantedAfter_46 (fun H locs hR hS => ?_)
      refine lv_if_eq (tgt := 54) hx hb dX4_wantedAfter_49 (by decide) (fun q => ?_) (fun q => ?_)
      · have h := ax_ip q h
        refine lv_iload_n hx hb dX4_wantedAfter_54 rfl (lv_at hl 1 rfl) ?_
        obtain ⟨q55, hq, h⟩ := ax_bd h
        refine ax_cS (rest := []) (st1 := [.int q55]) C hc hz hS hR (M_X4_deedKind  hq) yk_X4_deedKind st_X4_deedKind ml_X4_35 (by decide) rfl hl.1 (Nat.le_of_ble_eq_true rfl) rfl rfl dX4_wantedAfter_55 (fun H locs hR hS => ?_)
        refine lv_bipush (v := (-6)) hx hb dX4_wantedAfter_58 (by decide) ?_
        refine lv_icmp_eq (tgt := 67) hx hb dX4_wantedAfter_60 (by decide) (fun q => ?_) (fun q => ?_)
        · have h := ax_ip q h
          refine lv_iconst (v := 5) hx hb dX4_wantedAfter_67 (by decide) ?_
          cases h
          exact ax_iret C hc hz hR hS rfl rfl dX4_wantedAfter_68
        · have h := ax_iN q h
          refine lv_iconst (v := 0) hx hb dX4_wantedAfter_63 (by decide) ?_
          refine lv_goto (tgt := 68) hx hb dX4_wantedAfter_64 (by decide) ?_
          cases h
          exact ax_iret C hc hz hR hS rfl rfl dX4_wantedAfter_68
      · have h := ax_iN q h
        refine lv_iconst (v := 2) hx hb dX4_wantedAfter_52 (by decide) ?_
        cases h
        exact ax_iret C hc hz hR hS rfl rfl dX4_wantedAfter_53
    · have h := ax_iN q1 h
      by_cases q2 : x0 = 2
      · have h := ax_ip q2 h
        refine lv_tableIn (off := 68) (tgt := 69) hx hb dX4_wantedAfter_1 (by rw [q2]; decide) (by rw [q2]; decide) (by rw [q2]; rfl) (by decide) ?_
        refine lv_iload_n hx hb dX4_wantedAfter_69 rfl (lv_at hl 1 rfl) ?_
        obtain ⟨q70, hq, h⟩ := ax_bd h
        refine ax_cS (rest := []) (st1 := [.int q70]) C hc hz hS hR (M_X4_isParish  hq) yk_X4_isParish st_X4_isParish ml_X4_38 (by decide) rfl hl.1 (Nat.le_of_ble_eq_true rfl) rfl rfl dX4_wantedAfter_70 (fun H locs hR hS => ?_)
        refine lv_if_eq (tgt := 80) hx hb dX4_wantedAfter_73 (by decide) (fun q => ?_) (fun q => ?_)
        · have h := ax_ip q h
          refine lv_iconst (v := 5) hx hb dX4_wantedAfter_80 (by decide) ?_
          cases h
          exact ax_iret C hc hz hR hS rfl rfl dX4_wantedAfter_81
        · have h := ax_iN q h
          refine lv_iconst (v := 0) hx hb dX4_wantedAfter_76 (by decide) ?_
          refine lv_goto (tgt := 81) hx hb dX4_wantedAfter_77 (by decide) ?_
          cases h
          exact ax_iret C hc hz hR hS rfl rfl dX4_wantedAfter_81
      · have h := ax_iN q2 h
        by_cases q3 : x0 = 3
        · have h := ax_ip q3 h
          refine lv_tableIn (off := 81) (tgt := 82) hx hb dX4_wantedAfter_1 (by rw [q3]; decide) (by rw [q3]; decide) (by rw [q3]; rfl) (by decide) ?_
          refine lv_iload_n hx hb dX4_wantedAfter_82 rfl (lv_at hl 1 rfl) ?_
          obtain ⟨q83, hq, h⟩ := ax_bd h
          refine ax_cS (rest := []) (st1 := [.int q83]) C hc hz hS hR (M_X4_isParish  hq) yk_X4_isParish st_X4_isParish ml_X4_38 (by decide) rfl hl.1 (Nat.le_of_ble_eq_true rfl) rfl rfl dX4_wantedAfter_83 (fun H locs hR hS => ?_)
          refine lv_if_eq (tgt := 93) hx hb dX4_wantedAfter_86 (by decide) (fun q => ?_) (fun q => ?_)
          · have h := ax_ip q h
            refine lv_iconst (v := 5) hx hb dX4_wantedAfter_93 (by decide) ?_
            cases h
            exact ax_iret C hc hz hR hS rfl rfl dX4_wantedAfter_94
          · have h := ax_iN q h
            refine lv_iconst (v := 4) hx hb dX4_wantedAfter_89 (by decide) ?_
            refine lv_goto (tgt := 94) hx hb dX4_wantedAfter_90 (by decide) ?_
            cases h
            exact ax_iret C hc hz hR hS rfl rfl dX4_wantedAfter_94
        · have h := ax_iN q3 h
          by_cases q4 : x0 = 4
          · have h := ax_ip q4 h
            refine lv_tableIn (off := 94) (tgt := 95) hx hb dX4_wantedAfter_1 (by rw [q4]; decide) (by rw [q4]; decide) (by rw [q4]; rfl) (by decide) ?_
            refine lv_iload_n hx hb dX4_wantedAfter_95 rfl (lv_at hl 1 rfl) ?_
            obtain ⟨q96, hq, h⟩ := ax_bd h
            refine ax_cS (rest := []) (st1 := [.int q96]) C hc hz hS hR (M_X4_isChild  hq) yk_X4_isChild st_X4_isChild ml_X4_42 (by decide) rfl hl.1 (Nat.le_of_ble_eq_true rfl) rfl rfl dX4_wantedAfter_96 (fun H locs hR hS => ?_)
            refine lv_if_eq (tgt := 106) hx hb dX4_wantedAfter_99 (by decide) (fun q => ?_) (fun q => ?_)
            · have h := ax_ip q h
              refine lv_iconst (v := 5) hx hb dX4_wantedAfter_106 (by decide) ?_
              cases h
              exact ax_iret C hc hz hR hS rfl rfl dX4_wantedAfter_107
            · have h := ax_iN q h
              refine lv_iconst (v := 0) hx hb dX4_wantedAfter_102 (by decide) ?_
              refine lv_goto (tgt := 107) hx hb dX4_wantedAfter_103 (by decide) ?_
              cases h
              exact ax_iret C hc hz hR hS rfl rfl dX4_wantedAfter_107
          · have h := ax_iN q4 h
            have e0 := ax_nt (z := 0) q0 (by decide)
            have e1 := ax_nt (z := 1) q1 (by decide)
            have e2 := ax_nt (z := 2) q2 (by decide)
            have e3 := ax_nt (z := 3) q3 (by decide)
            have e4 := ax_nt (z := 4) q4 (by decide)
            refine lv_tableOut (tgt := 108) hx hb dX4_wantedAfter_1 (by omega) (by decide) ?_
            refine lv_iconst (v := 5) hx hb dX4_wantedAfter_108 (by decide) ?_
            cases h
            exact ax_iret C hc hz hR hS rfl rfl dX4_wantedAfter_109
theorem M_X4_wantedAfter {l : Launch} {E : ax_E} {B : Nat} {lay : List ax_S} {I : ax_I} {J : ax_J} {x0 : Int32} {x1 : Int32} {rv : Int32} (h : F_X4_wantedAfter I x0 x1 = some rv) : Cm l yX4_wantedAfter cX4_wantedAfter 2 (some .int) 8 E B [.int x0, .int x1] lay I J (some (.int rv)) lay I J :=
  ax_met (by decide) (Nat.le_of_ble_eq_true rfl) (fun p e R s m args below meth c C => t_X4_wantedAfter_0  C _ _ _ h)
def f_X4_firstFault_4 : Nat → ax_I → Int32 → Int32 → Option Int32
  | 0, _, _, _ => none
  | n + 1, I, x1, x2 => if (I 26 1) ≤ x2 then (if x1 = 0 then some (-6) else some (I 26 1)) else (F_X4_signAt I x2).bind (fun q15 => (F_X4_wantedAfter I x1 q15).bind (fun q18 => if q18 = 5 then some x2 else f_X4_firstFault_4 n I q18 (x2 + 1)))
def F_X4_firstFault (I : ax_I) : Option Int32 :=
  f_X4_firstFault_4 ax_N I 0 0
set_option maxRecDepth 100000 in
set_option maxHeartbeats 4000000 in
theorem t_X4_firstFault_4 {lay : List ax_S} {J : ax_J} {rv : Int32} (hL : ax_LL B lay) (C : ax_C p R s m args meth c yX4_firstFault cX4_firstFault 3 (some .int) 10 E mc ms) : ∀ (n : Nat) (I : ax_I) (x1 : Int32) (x2 : Int32), f_X4_firstFault_4 n I x1 x2 = some rv → AM p l e R s m args below meth c E B lay.length (ax_z lay) 3 (some (.int rv)) lay I J lay I J 4 [(0, .ref (B + 26)), (1, .int x1), (2, .int x2)] [] := by
  obtain ⟨hx, hb, hr, hml, hown, hts, hlocks, hK, hfr, hlo, hmc, hms, hnm⟩ := id C
  have hown : s.vm.findClass RX4 = some m.cls := hown
  intro n
  induction n with
  | zero => intro I x1 x2 h; cases h
  | succ n ih =>
    intro I x1 x2 h H locs cells slots ls hc hz hR hS hl
    rw [f_X4_firstFault_4] at h
    refine lv_iload_n hx hb dX4_firstFault_4 rfl (lv_at hl 2 rfl) ?_
    refine lv_aload_n hx hb dX4_firstFault_5 rfl (lv_at hl 0 rfl) ?_
    refine ax_getI hx hb hts hown hK hR fl_X4_15 (lk_26 hL) rfl dX4_firstFault_6 ?_
    refine lv_icmp_ge (tgt := 35) hx hb dX4_firstFault_9 (by decide) (fun q => ?_) (fun q => ?_)
    · have h := ax_ip q h
      refine lv_iload_n hx hb dX4_firstFault_35 rfl (lv_at hl 1 rfl) ?_
      refine lv_if_ne (tgt := 44) hx hb dX4_firstFault_36 (by decide) (fun q => ?_) (fun q => ?_)
      · have h := ax_iN q h
        refine lv_aload_n hx hb dX4_firstFault_44 rfl (lv_at hl 0 rfl) ?_
        refine ax_getI hx hb hts hown hK hR fl_X4_15 (lk_26 hL) rfl dX4_firstFault_45 ?_
        cases h
        exact ax_iret C hc hz hR hS rfl rfl dX4_firstFault_48
      · have h := ax_ip q h
        refine lv_bipush (v := (-6)) hx hb dX4_firstFault_39 (by decide) ?_
        refine lv_goto (tgt := 48) hx hb dX4_firstFault_41 (by decide) ?_
        cases h
        exact ax_iret C hc hz hR hS rfl rfl dX4_firstFault_48
    · have h := ax_iN q h
      refine lv_iload_n hx hb dX4_firstFault_12 rfl (lv_at hl 1 rfl) ?_
      refine lv_aload_n hx hb dX4_firstFault_13 rfl (lv_at hl 0 rfl) ?_
      refine lv_iload_n hx hb dX4_firstFault_14 rfl (lv_at hl 2 rfl) ?_
      obtain ⟨q15, hq, h⟩ := ax_bd h
      refine ax_cV (rest := [.int x1]) (st1 := [.int q15, .int x1]) C hc hz hS hR (M_X4_signAt hL hq) yk_X4_signAt in_X4_signAt se_X4_signAt ml_X4_19 (lk_26 hL) rfl rfl (by decide) rfl hl.1 (Nat.le_of_ble_eq_true rfl) rfl rfl dX4_firstFault_15 (fun H locs hR hS => ?_)
      obtain ⟨q18, hq, h⟩ := ax_bd h
      refine ax_cS (rest := []) (st1 := [.int q18]) C hc hz hS hR (M_X4_wantedAfter  hq) yk_X4_wantedAfter st_X4_wantedAfter ml_X4_23 (by decide) rfl hl.1 (Nat.le_of_ble_eq_true rfl) rfl rfl dX4_firstFault_18 (fun H locs hR hS => ?_)
      refine lv_istore_n (lv' := [(1, .int q18), (0, .ref (B + 26)), (2, .int x2)]) hx hb dX4_firstFault_21 rfl hl (by decide) rfl (fun ls hl => ?_)
      refine lv_iload_n hx hb dX4_firstFault_22 rfl (lv_at hl 0 rfl) ?_
      refine lv_iconst (v := 5) hx hb dX4_firstFault_23 (by decide) ?_
      refine lv_icmp_ne (tgt := 29) hx hb dX4_firstFault_24 (by decide) (fun q => ?_) (fun q => ?_)
      · have h := ax_iN q h
        refine lv_iinc (v := (x2 + 1)) (lv' := [(2, .int (x2 + 1)), (1, .int q18), (0, .ref (B + 26))]) hx hb dX4_firstFault_29 hl (k := 2) rfl rfl (by decide) rfl (fun ls hl => ?_)
        refine lv_goto (tgt := 4) hx hb dX4_firstFault_32 (by decide) ?_
        exact ih _ _ _ h H locs cells slots ls hc hz hR hS (lv_sub hl [2, 1, 0] rfl)
      · have h := ax_ip q h
        refine lv_iload_n hx hb dX4_firstFault_27 rfl (lv_at hl 2 rfl) ?_
        cases h
        exact ax_iret C hc hz hR hS rfl rfl dX4_firstFault_28
set_option maxRecDepth 100000 in
set_option maxHeartbeats 4000000 in
theorem t_X4_firstFault_0 {lay : List ax_S} {J : ax_J} {rv : Int32} (hL : ax_LL B lay) (C : ax_C p R s m args meth c yX4_firstFault cX4_firstFault 3 (some .int) 10 E mc ms) : ∀ (I : ax_I), F_X4_firstFault I = some rv → AM p l e R s m args below meth c E B lay.length (ax_z lay) 3 (some (.int rv)) lay I J lay I J 0 [(0, .ref (B + 26))] [] := by
  obtain ⟨hx, hb, hr, hml, hown, hts, hlocks, hK, hfr, hlo, hmc, hms, hnm⟩ := id C
  have hown : s.vm.findClass RX4 = some m.cls := hown
  intro I h H locs cells slots ls hc hz hR hS hl
  unfold F_X4_firstFault at h
  refine lv_iconst (v := 0) hx hb dX4_firstFault_0 (by decide) ?_
  refine lv_istore_n (lv' := [(1, .int 0), (0, .ref (B + 26))]) hx hb dX4_firstFault_1 rfl hl (by decide) rfl (fun ls hl => ?_)
  refine lv_iconst (v := 0) hx hb dX4_firstFault_2 (by decide) ?_
  refine lv_istore_n (lv' := [(2, .int 0), (1, .int 0), (0, .ref (B + 26))]) hx hb dX4_firstFault_3 rfl hl (by decide) rfl (fun ls hl => ?_)
  exact t_X4_firstFault_4 hL C  ax_N _ _ _ h H locs cells slots ls hc hz hR hS (lv_sub hl [2, 1, 0] rfl)
theorem M_X4_firstFault {l : Launch} {E : ax_E} {B : Nat} {lay : List ax_S} {I : ax_I} {J : ax_J} {rv : Int32} (hL : ax_LL B lay) (h : F_X4_firstFault I = some rv) : Cm l yX4_firstFault cX4_firstFault 3 (some .int) 10 E B [.ref (B + 26)] lay I J (some (.int rv)) lay I J :=
  ax_met (by decide) (Nat.le_of_ble_eq_true rfl) (fun p e R s m args below meth c C => t_X4_firstFault_0 hL C _ h)
def F_X4_readAct (I : ax_I) (x1 : Int32) (a : Nat) : Option (Int32 × ax_I) :=
  (F_X4_signAt I x1).bind (fun q2 => (F_X4_signAt I (x1 + 1)).bind (fun q10 => (F_X4_signAt I (x1 + 2)).bind (fun q19 => if q2 = 46 then (F_X0_put I a 7 0 0 0).bind (fun q36 => some ((x1 + 1), q36)) else if q2 = 102 then (F_X0_put I a 6 (q19 - 65) 0 (q10 - 97)).bind (fun q63 => some ((x1 + 3), q63)) else (F_X4_deedKind I q10).bind (fun q72 => if q72 = (-6) then (F_X0_put I a 5 (q2 - 65) (q10 - 48) (q19 - 97)).bind (fun q116 => some ((x1 + 3), q116)) else (F_X0_put I a q72 (q2 - 65) 0 0).bind (fun q93 => some ((x1 + 2), q93))))))
set_option maxRecDepth 100000 in
set_option maxHeartbeats 4000000 in
theorem t_X4_readAct_0 {lay : List ax_S} {a : Nat} {J : ax_J} {rv : Int32} {I9 : ax_I} (hL : ax_LL B lay) (hAa : lay[a]? = some ax_Ac) (C : ax_C p R s m args meth c yX4_readAct cX4_readAct 7 (some .int) 6 E mc ms) : ∀ (I : ax_I) (x1 : Int32), F_X4_readAct I x1 a = some (rv, I9) → AM p l e R s m args below meth c E B lay.length (ax_z lay) 7 (some (.int rv)) lay I9 J lay I J 0 [(0, .ref (B + 26)), (1, .int x1), (2, .ref (B + a))] [] := by
  obtain ⟨hx, hb, hr, hml, hown, hts, hlocks, hK, hfr, hlo, hmc, hms, hnm⟩ := id C
  have hown : s.vm.findClass RX4 = some m.cls := hown
  intro I x1 h H locs cells slots ls hc hz hR hS hl
  unfold F_X4_readAct at h
  refine lv_aload_n hx hb dX4_readAct_0 rfl (lv_at hl 0 rfl) ?_
  refine lv_iload_n hx hb dX4_readAct_1 rfl (lv_at hl 1 rfl) ?_
  obtain ⟨q2, hq, h⟩ := ax_bd h
  refine ax_cV (rest := []) (st1 := [.int q2]) C hc hz hS hR (M_X4_signAt hL hq) yk_X4_signAt in_X4_signAt se_X4_signAt ml_X4_19 (lk_26 hL) rfl rfl (by decide) rfl hl.1 (Nat.le_of_ble_eq_true rfl) rfl rfl dX4_readAct_2 (fun H locs hR hS => ?_)
  refine lv_istore_n (lv' := [(3, .int q2), (0, .ref (B + 26)), (1, .int x1), (2, .ref (B + a))]) hx hb dX4_readAct_5 rfl hl (by decide) rfl (fun ls hl => ?_)
  refine lv_aload_n hx hb dX4_readAct_6 rfl (lv_at hl 1 rfl) ?_
  refine lv_iload_n hx hb dX4_readAct_7 rfl (lv_at hl 2 rfl) ?_
  refine lv_iconst (v := 1) hx hb dX4_readAct_8 (by decide) ?_
  refine lv_iadd hx hb dX4_readAct_9 ?_
  obtain ⟨q10, hq, h⟩ := ax_bd h
  refine ax_cV (rest := []) (st1 := [.int q10]) C hc hz hS hR (M_X4_signAt hL hq) yk_X4_signAt in_X4_signAt se_X4_signAt ml_X4_19 (lk_26 hL) rfl rfl (by decide) rfl hl.1 (Nat.le_of_ble_eq_true rfl) rfl rfl dX4_readAct_10 (fun H locs hR hS => ?_)
  refine lv_istore (lv' := [(4, .int q10), (3, .int q2), (0, .ref (B + 26)), (1, .int x1), (2, .ref (B + a))]) hx hb dX4_readAct_13 hl (by decide) rfl (fun ls hl => ?_)
  refine lv_aload_n hx hb dX4_readAct_15 rfl (lv_at hl 2 rfl) ?_
  refine lv_iload_n hx hb dX4_readAct_16 rfl (lv_at hl 3 rfl) ?_
  refine lv_iconst (v := 2) hx hb dX4_readAct_17 (by decide) ?_
  refine lv_iadd hx hb dX4_readAct_18 ?_
  obtain ⟨q19, hq, h⟩ := ax_bd h
  refine ax_cV (rest := []) (st1 := [.int q19]) C hc hz hS hR (M_X4_signAt hL hq) yk_X4_signAt in_X4_signAt se_X4_signAt ml_X4_19 (lk_26 hL) rfl rfl (by decide) rfl hl.1 (Nat.le_of_ble_eq_true rfl) rfl rfl dX4_readAct_19 (fun H locs hR hS => ?_)
  refine lv_istore (lv' := [(5, .int q19), (4, .int q10), (3, .int q2), (0, .ref (B + 26)), (1, .int x1), (2, .ref (B + a))]) hx hb dX4_readAct_22 hl (by decide) rfl (fun ls hl => ?_)
  refine lv_iload_n hx hb dX4_readAct_24 rfl (lv_at hl 2 rfl) ?_
  refine lv_bipush (v := 46) hx hb dX4_readAct_25 (by decide) ?_
  refine lv_icmp_ne (tgt := 43) hx hb dX4_readAct_27 (by decide) (fun q => ?_) (fun q => ?_)
  · have h := ax_iN q h
    refine lv_iload_n hx hb dX4_readAct_43 rfl (lv_at hl 2 rfl) ?_
    refine lv_bipush (v := 102) hx hb dX4_readAct_44 (by decide) ?_
    refine lv_icmp_ne (tgt := 70) hx hb dX4_readAct_46 (by decide) (fun q => ?_) (fun q => ?_)
    · have h := ax_iN q h
      refine lv_iload hx hb dX4_readAct_70 (lv_at hl 1 rfl) ?_
      obtain ⟨q72, hq, h⟩ := ax_bd h
      refine ax_cS (rest := []) (st1 := [.int q72]) C hc hz hS hR (M_X4_deedKind  hq) yk_X4_deedKind st_X4_deedKind ml_X4_35 (by decide) rfl hl.1 (Nat.le_of_ble_eq_true rfl) rfl rfl dX4_readAct_72 (fun H locs hR hS => ?_)
      refine lv_istore (lv' := [(6, .int q72), (5, .int q19), (4, .int q10), (3, .int q2), (0, .ref (B + 26)), (1, .int x1), (2, .ref (B + a))]) hx hb dX4_readAct_75 hl (by decide) rfl (fun ls hl => ?_)
      refine lv_iload hx hb dX4_readAct_77 (lv_at hl 0 rfl) ?_
      refine lv_bipush (v := (-6)) hx hb dX4_readAct_79 (by decide) ?_
      refine lv_icmp_eq (tgt := 100) hx hb dX4_readAct_81 (by decide) (fun q => ?_) (fun q => ?_)
      · have h := ax_ip q h
        refine lv_aload_n hx hb dX4_readAct_100 rfl (lv_at hl 6 rfl) ?_
        refine lv_iconst (v := 5) hx hb dX4_readAct_101 (by decide) ?_
        refine lv_iload_n hx hb dX4_readAct_102 rfl (lv_at hl 3 rfl) ?_
        refine lv_bipush (v := 65) hx hb dX4_readAct_103 (by decide) ?_
        refine lv_isub hx hb dX4_readAct_105 ?_
        refine lv_iload hx hb dX4_readAct_106 (lv_at hl 2 rfl) ?_
        refine lv_bipush (v := 48) hx hb dX4_readAct_108 (by decide) ?_
        refine lv_isub hx hb dX4_readAct_110 ?_
        refine lv_iload hx hb dX4_readAct_111 (lv_at hl 1 rfl) ?_
        refine lv_bipush (v := 97) hx hb dX4_readAct_113 (by decide) ?_
        refine lv_isub hx hb dX4_readAct_115 ?_
        obtain ⟨q116, hq, h⟩ := ax_bd h
        refine ax_cV (rest := []) (st1 := []) C hc hz hS hR (M_X0_put hAa hq) yk_X0_put in_X0_put se_X0_put ml_X4_47 hAa rfl rfl (by decide) rfl hl.1 (Nat.le_of_ble_eq_true rfl) rfl rfl dX4_readAct_116 (fun H locs hR hS => ?_)
        refine lv_iload_n hx hb dX4_readAct_119 rfl (lv_at hl 5 rfl) ?_
        refine lv_iconst (v := 3) hx hb dX4_readAct_120 (by decide) ?_
        refine lv_iadd hx hb dX4_readAct_121 ?_
        cases h
        exact ax_iret C hc hz hR hS rfl rfl dX4_readAct_122
      · have h := ax_iN q h
        refine lv_aload_n hx hb dX4_readAct_84 rfl (lv_at hl 6 rfl) ?_
        refine lv_iload hx hb dX4_readAct_85 (lv_at hl 0 rfl) ?_
        refine lv_iload_n hx hb dX4_readAct_87 rfl (lv_at hl 3 rfl) ?_
        refine lv_bipush (v := 65) hx hb dX4_readAct_88 (by decide) ?_
        refine lv_isub hx hb dX4_readAct_90 ?_
        refine lv_iconst (v := 0) hx hb dX4_readAct_91 (by decide) ?_
        refine lv_iconst (v := 0) hx hb dX4_readAct_92 (by decide) ?_
        obtain ⟨q93, hq, h⟩ := ax_bd h
        refine ax_cV (rest := []) (st1 := []) C hc hz hS hR (M_X0_put hAa hq) yk_X0_put in_X0_put se_X0_put ml_X4_47 hAa rfl rfl (by decide) rfl hl.1 (Nat.le_of_ble_eq_true rfl) rfl rfl dX4_readAct_93 (fun H locs hR hS => ?_)
        refine lv_iload_n hx hb dX4_readAct_96 rfl (lv_at hl 5 rfl) ?_
        refine lv_iconst (v := 2) hx hb dX4_readAct_97 (by decide) ?_
        refine lv_iadd hx hb dX4_readAct_98 ?_
        cases h
        exact ax_iret C hc hz hR hS rfl rfl dX4_readAct_99
    · have h := ax_ip q h
      refine lv_aload_n hx hb dX4_readAct_49 rfl (lv_at hl 5 rfl) ?_
      refine lv_bipush (v := 6) hx hb dX4_readAct_50 (by decide) ?_
      refine lv_iload hx hb dX4_readAct_52 (lv_at hl 0 rfl) ?_
      refine lv_bipush (v := 65) hx hb dX4_readAct_54 (by decide) ?_
      refine lv_isub hx hb dX4_readAct_56 ?_
      refine lv_iconst (v := 0) hx hb dX4_readAct_57 (by decide) ?_
      refine lv_iload hx hb dX4_readAct_58 (lv_at hl 1 rfl) ?_
      refine lv_bipush (v := 97) hx hb dX4_readAct_60 (by decide) ?_
      refine lv_isub hx hb dX4_readAct_62 ?_
      obtain ⟨q63, hq, h⟩ := ax_bd h
      refine ax_cV (rest := []) (st1 := []) C hc hz hS hR (M_X0_put hAa hq) yk_X0_put in_X0_put se_X0_put ml_X4_47 hAa rfl rfl (by decide) rfl hl.1 (Nat.le_of_ble_eq_true rfl) rfl rfl dX4_readAct_63 (fun H locs hR hS => ?_)
      refine lv_iload_n hx hb dX4_readAct_66 rfl (lv_at hl 4 rfl) ?_
      refine lv_iconst (v := 3) hx hb dX4_readAct_67 (by decide) ?_
      refine lv_iadd hx hb dX4_readAct_68 ?_
      cases h
      exact ax_iret C hc hz hR hS rfl rfl dX4_readAct_69
  · have h := ax_ip q h
    refine lv_aload_n hx hb dX4_readAct_30 rfl (lv_at hl 5 rfl) ?_
    refine lv_bipush (v := 7) hx hb dX4_readAct_31 (by decide) ?_
    refine lv_iconst (v := 0) hx hb dX4_readAct_33 (by decide) ?_
    refine lv_iconst (v := 0) hx hb dX4_readAct_34 (by decide) ?_
    refine lv_iconst (v := 0) hx hb dX4_readAct_35 (by decide) ?_
    obtain ⟨q36, hq, h⟩ := ax_bd h
    refine ax_cV (rest := []) (st1 := []) C hc hz hS hR (M_X0_put hAa hq) yk_X0_put in_X0_put se_X0_put ml_X4_47 hAa rfl rfl (by decide) rfl hl.1 (Nat.le_of_ble_eq_true rfl) rfl rfl dX4_readAct_36 (fun H locs hR hS => ?_)
    refine lv_iload_n hx hb dX4_readAct_39 rfl (lv_at hl 4 rfl) ?_
    refine lv_iconst (v := 1) hx hb dX4_readAct_40 (by decide) ?_
    refine lv_iadd hx hb dX4_readAct_41 ?_
    cases h
    exact ax_iret C hc hz hR hS rfl rfl dX4_readAct_42
theorem M_X4_readAct {l : Launch} {E : ax_E} {B : Nat} {lay : List ax_S} {I : ax_I} {J : ax_J} {x1 : Int32} {a : Nat} {rv : Int32} {I9 : ax_I} (hL : ax_LL B lay) (hAa : lay[a]? = some ax_Ac) (h : F_X4_readAct I x1 a = some (rv, I9)) : Cm l yX4_readAct cX4_readAct 7 (some .int) 6 E B [.ref (B + 26), .int x1, .ref (B + a)] lay I J (some (.int rv)) lay I9 J :=
  ax_met (by decide) (Nat.le_of_ble_eq_true rfl) (fun p e R s m args below meth c C => t_X4_readAct_0 hL hAa C _ _ h)
def F_X5_clear (I : ax_I) : Option ax_I :=
  some (ax_u (ax_u (ax_u (ax_u (ax_u (ax_u I 28 1 0) 28 2 (-6)) 28 3 (-6)) 28 4 0) 28 5 (-6)) 28 6 0)
set_option maxRecDepth 100000 in
set_option maxHeartbeats 4000000 in
theorem t_X5_clear_0 {lay : List ax_S} {J : ax_J} {I9 : ax_I} (hL : ax_LL B lay) (C : ax_C p R s m args meth c yX5_clear cX5_clear 1 none 2 E mc ms) : ∀ (I : ax_I), F_X5_clear I = some I9 → AM p l e R s m args below meth c E B lay.length (ax_z lay) 1 none lay I9 J lay I J 0 [(0, .ref (B + 28))] [] := by
  obtain ⟨hx, hb, hr, hml, hown, hts, hlocks, hK, hfr, hlo, hmc, hms, hnm⟩ := id C
  have hown : s.vm.findClass RX5 = some m.cls := hown
  intro I h H locs cells slots ls hc hz hR hS hl
  unfold F_X5_clear at h
  refine lv_aload_n hx hb dX5_clear_0 rfl (lv_at hl 0 rfl) ?_
  refine lv_iconst (v := 0) hx hb dX5_clear_1 (by decide) ?_
  refine ax_putI hx hb hts hown hK hR hS fp_X5_37 (lk_28 hL) rfl rfl rfl dX5_clear_2 (fun H locs hR hS => ?_)
  refine lv_aload_n hx hb dX5_clear_5 rfl (lv_at hl 0 rfl) ?_
  refine lv_bipush (v := (-6)) hx hb dX5_clear_6 (by decide) ?_
  refine ax_putI hx hb hts hown hK hR hS fp_X5_40 (lk_28 hL) rfl rfl rfl dX5_clear_8 (fun H locs hR hS => ?_)
  refine lv_aload_n hx hb dX5_clear_11 rfl (lv_at hl 0 rfl) ?_
  refine lv_bipush (v := (-6)) hx hb dX5_clear_12 (by decide) ?_
  refine ax_putI hx hb hts hown hK hR hS fp_X5_43 (lk_28 hL) rfl rfl rfl dX5_clear_14 (fun H locs hR hS => ?_)
  refine lv_aload_n hx hb dX5_clear_17 rfl (lv_at hl 0 rfl) ?_
  refine lv_iconst (v := 0) hx hb dX5_clear_18 (by decide) ?_
  refine ax_putI hx hb hts hown hK hR hS fp_X5_64 (lk_28 hL) rfl rfl rfl dX5_clear_19 (fun H locs hR hS => ?_)
  refine lv_aload_n hx hb dX5_clear_22 rfl (lv_at hl 0 rfl) ?_
  refine lv_bipush (v := (-6)) hx hb dX5_clear_23 (by decide) ?_
  refine ax_putI hx hb hts hown hK hR hS fp_X5_67 (lk_28 hL) rfl rfl rfl dX5_clear_25 (fun H locs hR hS => ?_)
  refine lv_aload_n hx hb dX5_clear_28 rfl (lv_at hl 0 rfl) ?_
  refine lv_iconst (v := 0) hx hb dX5_clear_29 (by decide) ?_
  refine ax_putI hx hb hts hown hK hR hS fp_X5_70 (lk_28 hL) rfl rfl rfl dX5_clear_30 (fun H locs hR hS => ?_)
  cases h
  exact ax_vret C hc hz hR hS dX5_clear_33
theorem M_X5_clear {l : Launch} {E : ax_E} {B : Nat} {lay : List ax_S} {I : ax_I} {J : ax_J} {I9 : ax_I} (hL : ax_LL B lay) (h : F_X5_clear I = some I9) : Cm l yX5_clear cX5_clear 1 none 2 E B [.ref (B + 28)] lay I J none lay I9 J :=
  ax_met (by decide) (Nat.le_of_ble_eq_true rfl) (fun p e R s m args below meth c C => t_X5_clear_0 hL C _ h)
def f_X5_countFeast_41 (I : ax_I) : Option ax_I :=
  some I
def F_X5_countFeast (I : ax_I) (x1 : Int32) : Option ax_I :=
  if x1 = 0 then (if ((ax_u (ax_u I 28 4 ((I 28 4) + 1)) 28 6 (((ax_u I 28 4 ((I 28 4) + 1)) 28 6) + 1)) 28 5) = (-6) then f_X5_countFeast_41 (ax_u (ax_u (ax_u I 28 4 ((I 28 4) + 1)) 28 6 (((ax_u I 28 4 ((I 28 4) + 1)) 28 6) + 1)) 28 5 ((ax_u (ax_u I 28 4 ((I 28 4) + 1)) 28 6 (((ax_u I 28 4 ((I 28 4) + 1)) 28 6) + 1)) 28 1)) else f_X5_countFeast_41 (ax_u (ax_u I 28 4 ((I 28 4) + 1)) 28 6 (((ax_u I 28 4 ((I 28 4) + 1)) 28 6) + 1))) else f_X5_countFeast_41 (ax_u I 28 4 ((I 28 4) + 1))
set_option maxRecDepth 100000 in
set_option maxHeartbeats 4000000 in
theorem t_X5_countFeast_41 {lay : List ax_S} {J : ax_J} {I9 : ax_I} (hL : ax_LL B lay) (C : ax_C p R s m args meth c yX5_countFeast cX5_countFeast 2 none 2 E mc ms) : ∀ (I : ax_I), f_X5_countFeast_41 I = some I9 → AM p l e R s m args below meth c E B lay.length (ax_z lay) 2 none lay I9 J lay I J 41 [] [] := by
  obtain ⟨hx, hb, hr, hml, hown, hts, hlocks, hK, hfr, hlo, hmc, hms, hnm⟩ := id C
  have hown : s.vm.findClass RX5 = some m.cls := hown
  intro I h H locs cells slots ls hc hz hR hS hl
  unfold f_X5_countFeast_41 at h
  cases h
  exact ax_vret C hc hz hR hS dX5_countFeast_41
set_option maxRecDepth 100000 in
set_option maxHeartbeats 4000000 in
theorem t_X5_countFeast_0 {lay : List ax_S} {J : ax_J} {I9 : ax_I} (hL : ax_LL B lay) (C : ax_C p R s m args meth c yX5_countFeast cX5_countFeast 2 none 2 E mc ms) : ∀ (I : ax_I) (x1 : Int32), F_X5_countFeast I x1 = some I9 → AM p l e R s m args below meth c E B lay.length (ax_z lay) 2 none lay I9 J lay I J 0 [(0, .ref (B + 28)), (1, .int x1)] [] := by
  obtain ⟨hx, hb, hr, hml, hown, hts, hlocks, hK, hfr, hlo, hmc, hms, hnm⟩ := id C
  have hown : s.vm.findClass RX5 = some m.cls := hown
  intro I x1 h H locs cells slots ls hc hz hR hS hl
  unfold F_X5_countFeast at h
  refine lv_aload_n hx hb dX5_countFeast_0 rfl (lv_at hl 0 rfl) ?_
  refine lv_dup hx hb dX5_countFeast_1 rfl ?_
  refine ax_getI hx hb hts hown hK hR fl_X5_64 (lk_28 hL) rfl dX5_countFeast_2 ?_
  refine lv_iconst (v := 1) hx hb dX5_countFeast_5 (by decide) ?_
  refine lv_iadd hx hb dX5_countFeast_6 ?_
  refine ax_putI hx hb hts hown hK hR hS fp_X5_64 (lk_28 hL) rfl rfl rfl dX5_countFeast_7 (fun H locs hR hS => ?_)
  refine lv_iload_n hx hb dX5_countFeast_10 rfl (lv_at hl 1 rfl) ?_
  refine lv_if_ne (tgt := 41) hx hb dX5_countFeast_11 (by decide) (fun q => ?_) (fun q => ?_)
  · have h := ax_iN q h
    exact t_X5_countFeast_41 hL C  _ h H locs cells slots ls hc hz hR hS (lv_sub hl [] rfl)
  · have h := ax_ip q h
    refine lv_aload_n hx hb dX5_countFeast_14 rfl (lv_at hl 0 rfl) ?_
    refine lv_dup hx hb dX5_countFeast_15 rfl ?_
    refine ax_getI hx hb hts hown hK hR fl_X5_70 (lk_28 hL) rfl dX5_countFeast_16 ?_
    refine lv_iconst (v := 1) hx hb dX5_countFeast_19 (by decide) ?_
    refine lv_iadd hx hb dX5_countFeast_20 ?_
    refine ax_putI hx hb hts hown hK hR hS fp_X5_70 (lk_28 hL) rfl rfl rfl dX5_countFeast_21 (fun H locs hR hS => ?_)
    refine lv_aload_n hx hb dX5_countFeast_24 rfl (lv_at hl 0 rfl) ?_
    refine ax_getI hx hb hts hown hK hR fl_X5_67 (lk_28 hL) rfl dX5_countFeast_25 ?_
    refine lv_bipush (v := (-6)) hx hb dX5_countFeast_28 (by decide) ?_
    refine lv_icmp_ne (tgt := 41) hx hb dX5_countFeast_30 (by decide) (fun q => ?_) (fun q => ?_)
    · have h := ax_iN q h
      exact t_X5_countFeast_41 hL C  _ h H locs cells slots ls hc hz hR hS (lv_sub hl [] rfl)
    · have h := ax_ip q h
      refine lv_aload_n hx hb dX5_countFeast_33 rfl (lv_at hl 0 rfl) ?_
      refine lv_aload_n hx hb dX5_countFeast_34 rfl (lv_at hl 0 rfl) ?_
      refine ax_getI hx hb hts hown hK hR fl_X5_37 (lk_28 hL) rfl dX5_countFeast_35 ?_
      refine ax_putI hx hb hts hown hK hR hS fp_X5_67 (lk_28 hL) rfl rfl rfl dX5_countFeast_38 (fun H locs hR hS => ?_)
      exact t_X5_countFeast_41 hL C  _ h H locs cells slots ls hc hz hR hS (lv_sub hl [] rfl)
theorem M_X5_countFeast {l : Launch} {E : ax_E} {B : Nat} {lay : List ax_S} {I : ax_I} {J : ax_J} {x1 : Int32} {I9 : ax_I} (hL : ax_LL B lay) (h : F_X5_countFeast I x1 = some I9) : Cm l yX5_countFeast cX5_countFeast 2 none 2 E B [.ref (B + 28), .int x1] lay I J none lay I9 J :=
  ax_met (by decide) (Nat.le_of_ble_eq_true rfl) (fun p e R s m args below meth c C => t_X5_countFeast_0 hL C _ _ h)
def f_X5_live_99 (b : Nat) (r9 : ax_I → Int32 → Int32 → Option (ax_I)) (I : ax_I) (x3 : Int32) (x4 : Int32) : Option ax_I :=
  r9 (ax_u I 28 1 ((I 28 1) + 1)) x3 (x4 + 1)
def f_X5_live_9 (b : Nat) : Nat → ax_I → Int32 → Int32 → Option ax_I
  | 0, _, _, _ => none
  | n + 1, I, x3, x4 => if 60 ≤ x4 then some I else if (I 26 1) ≤ x3 then some I else (F_X4_readAct I x3 29).bind (fun q30 => (F_X2_reasonAgainst q30.2 b 29).bind (fun q39 => if q39 = 0 then (F_X2_live q30.2 b 29).bind (fun q69 => if (q69 29 0) = 6 then (F_X2_isSaint q69 b (q69 29 1)).bind (fun q93 => (F_X5_countFeast q69 q93).bind (fun q96 => f_X5_live_99 b (f_X5_live_9 b n) q96 q30.1 x4)) else f_X5_live_99 b (f_X5_live_9 b n) q69 q30.1 x4) else some (ax_u (ax_u q30.2 28 2 (q30.2 28 1)) 28 3 q39)))
def F_X5_live (I : ax_I) (b : Nat) : Option ax_I :=
  (F_X5_clear I).bind (fun q1 => f_X5_live_9 b ax_N q1 0 0)
set_option maxRecDepth 100000 in
set_option maxHeartbeats 4000000 in
theorem t_X5_live_99 {lay : List ax_S} {b : Nat} {J : ax_J} {I9 : ax_I} (hL : ax_LL B lay) (hDb : ax_Dio B lay b) (C : ax_C p R s m args meth c yX5_live cX5_live 6 none 12 E mc ms) {r9 : ax_I → Int32 → Int32 → Option (ax_I)} (hr9 : ∀ (I : ax_I) (x3 : Int32) (x4 : Int32), r9 I x3 x4 = some I9 → AM p l e R s m args below meth c E B lay.length (ax_z lay) 6 none lay I9 J lay I J 9 [(0, .ref (B + 28)), (1, .ref (B + 26)), (2, .ref (B + b)), (3, .int x3), (4, .int x4)] []) : ∀ (I : ax_I) (x3 : Int32) (x4 : Int32), f_X5_live_99 b r9 I x3 x4 = some I9 → AM p l e R s m args below meth c E B lay.length (ax_z lay) 6 none lay I9 J lay I J 99 [(0, .ref (B + 28)), (1, .ref (B + 26)), (2, .ref (B + b)), (3, .int x3), (4, .int x4)] [] := by
  obtain ⟨hx, hb, hr, hml, hown, hts, hlocks, hK, hfr, hlo, hmc, hms, hnm⟩ := id C
  have hown : s.vm.findClass RX5 = some m.cls := hown
  intro I x3 x4 h H locs cells slots ls hc hz hR hS hl
  unfold f_X5_live_99 at h
  refine lv_aload_n hx hb dX5_live_99 rfl (lv_at hl 0 rfl) ?_
  refine lv_dup hx hb dX5_live_100 rfl ?_
  refine ax_getI hx hb hts hown hK hR fl_X5_37 (lk_28 hL) rfl dX5_live_101 ?_
  refine lv_iconst (v := 1) hx hb dX5_live_104 (by decide) ?_
  refine lv_iadd hx hb dX5_live_105 ?_
  refine ax_putI hx hb hts hown hK hR hS fp_X5_37 (lk_28 hL) rfl rfl rfl dX5_live_106 (fun H locs hR hS => ?_)
  refine lv_iinc (v := (x4 + 1)) (lv' := [(4, .int (x4 + 1)), (0, .ref (B + 28)), (1, .ref (B + 26)), (2, .ref (B + b)), (3, .int x3)]) hx hb dX5_live_109 hl (k := 4) rfl rfl (by decide) rfl (fun ls hl => ?_)
  refine lv_goto (tgt := 9) hx hb dX5_live_112 (by decide) ?_
  exact hr9 _ _ _ h H locs cells slots ls hc hz hR hS (lv_sub hl [1, 2, 3, 4, 0] rfl)
set_option maxRecDepth 100000 in
set_option maxHeartbeats 4000000 in
theorem t_X5_live_9 {lay : List ax_S} {b : Nat} {J : ax_J} {I9 : ax_I} (hL : ax_LL B lay) (hDb : ax_Dio B lay b) (C : ax_C p R s m args meth c yX5_live cX5_live 6 none 12 E mc ms) : ∀ (n : Nat) (I : ax_I) (x3 : Int32) (x4 : Int32), f_X5_live_9 b n I x3 x4 = some I9 → AM p l e R s m args below meth c E B lay.length (ax_z lay) 6 none lay I9 J lay I J 9 [(0, .ref (B + 28)), (1, .ref (B + 26)), (2, .ref (B + b)), (3, .int x3), (4, .int x4)] [] := by
  obtain ⟨hx, hb, hr, hml, hown, hts, hlocks, hK, hfr, hlo, hmc, hms, hnm⟩ := id C
  have hown : s.vm.findClass RX5 = some m.cls := hown
  intro n
  induction n with
  | zero => intro I x3 x4 h; cases h
  | succ n ih =>
    intro I x3 x4 h H locs cells slots ls hc hz hR hS hl
    rw [f_X5_live_9] at h
    refine lv_iload hx hb dX5_live_9 (lv_at hl 4 rfl) ?_
    refine lv_bipush (v := 60) hx hb dX5_live_11 (by decide) ?_
    refine lv_icmp_ge (tgt := 115) hx hb dX5_live_13 (by decide) (fun q => ?_) (fun q => ?_)
    · have h := ax_ip q h
      cases h
      exact ax_vret C hc hz hR hS dX5_live_115
    · have h := ax_iN q h
      refine lv_iload_n hx hb dX5_live_16 rfl (lv_at hl 3 rfl) ?_
      refine lv_aload_n hx hb dX5_live_17 rfl (lv_at hl 1 rfl) ?_
      refine ax_getI hx hb hts hown hK hR fl_X5_23 (lk_26 hL) rfl dX5_live_18 ?_
      refine lv_icmp_ge (tgt := 115) hx hb dX5_live_21 (by decide) (fun q => ?_) (fun q => ?_)
      · have h := ax_ip q h
        cases h
        exact ax_vret C hc hz hR hS dX5_live_115
      · have h := ax_iN q h
        refine lv_aload_n hx hb dX5_live_24 rfl (lv_at hl 1 rfl) ?_
        refine lv_iload_n hx hb dX5_live_25 rfl (lv_at hl 3 rfl) ?_
        refine lv_aload_n hx hb dX5_live_26 rfl (lv_at hl 0 rfl) ?_
        refine ax_getV hx hb hts hown hK hR fl_X5_12 (lk_28 hL) rfl dX5_live_27 ?_
        obtain ⟨q30, hq, h⟩ := ax_bd h
        refine ax_cV (rest := []) (st1 := [.int q30.1]) C hc hz hS hR (M_X4_readAct hL (lk_29 hL) hq) yk_X4_readAct in_X4_readAct se_X4_readAct ml_X5_27 (lk_26 hL) rfl rfl (by decide) rfl hl.1 (Nat.le_of_ble_eq_true rfl) rfl rfl dX5_live_30 (fun H locs hR hS => ?_)
        refine lv_istore_n (lv' := [(3, .int q30.1), (0, .ref (B + 28)), (1, .ref (B + 26)), (2, .ref (B + b)), (4, .int x4)]) hx hb dX5_live_33 rfl hl (by decide) rfl (fun ls hl => ?_)
        refine lv_aload_n hx hb dX5_live_34 rfl (lv_at hl 3 rfl) ?_
        refine lv_aload_n hx hb dX5_live_35 rfl (lv_at hl 1 rfl) ?_
        refine ax_getV hx hb hts hown hK hR fl_X5_12 (lk_28 hL) rfl dX5_live_36 ?_
        obtain ⟨q39, hq, h⟩ := ax_bd h
        refine ax_cV (rest := []) (st1 := [.int q39]) C hc hz hS hR (M_X2_reasonAgainst hDb (lk_29 hL) hq) yk_X2_reasonAgainst in_X2_reasonAgainst se_X2_reasonAgainst ml_X5_31 (dio_0 hDb) rfl rfl (by decide) rfl hl.1 (Nat.le_of_ble_eq_true rfl) rfl rfl dX5_live_39 (fun H locs hR hS => ?_)
        refine lv_istore (lv' := [(5, .int q39), (3, .int q30.1), (0, .ref (B + 28)), (1, .ref (B + 26)), (2, .ref (B + b)), (4, .int x4)]) hx hb dX5_live_42 hl (by decide) rfl (fun ls hl => ?_)
        refine lv_iload hx hb dX5_live_44 (lv_at hl 0 rfl) ?_
        refine lv_if_eq (tgt := 64) hx hb dX5_live_46 (by decide) (fun q => ?_) (fun q => ?_)
        · have h := ax_ip q h
          refine lv_aload_n hx hb dX5_live_64 rfl (lv_at hl 4 rfl) ?_
          refine lv_aload_n hx hb dX5_live_65 rfl (lv_at hl 2 rfl) ?_
          refine ax_getV hx hb hts hown hK hR fl_X5_12 (lk_28 hL) rfl dX5_live_66 ?_
          obtain ⟨q69, hq, h⟩ := ax_bd h
          refine ax_cV (rest := []) (st1 := []) C hc hz hS hR (M_X2_live hDb (lk_29 hL) hq) yk_X2_live in_X2_live se_X2_live ml_X5_46 (dio_0 hDb) rfl rfl (by decide) rfl hl.1 (Nat.le_of_ble_eq_true rfl) rfl rfl dX5_live_69 (fun H locs hR hS => ?_)
          refine lv_aload_n hx hb dX5_live_72 rfl (lv_at hl 2 rfl) ?_
          refine ax_getV hx hb hts hown hK hR fl_X5_12 (lk_28 hL) rfl dX5_live_73 ?_
          refine ax_getI hx hb hts hown hK hR fl_X5_50 (lk_29 hL) rfl dX5_live_76 ?_
          refine lv_bipush (v := 6) hx hb dX5_live_79 (by decide) ?_
          refine lv_icmp_ne (tgt := 99) hx hb dX5_live_81 (by decide) (fun q => ?_) (fun q => ?_)
          · have h := ax_iN q h
            exact t_X5_live_99 hL hDb C ih _ _ _ h H locs cells slots ls hc hz hR hS (lv_sub hl [2, 3, 4, 1, 5] rfl)
          · have h := ax_ip q h
            refine lv_aload_n hx hb dX5_live_84 rfl (lv_at hl 2 rfl) ?_
            refine lv_aload_n hx hb dX5_live_85 rfl (lv_at hl 4 rfl) ?_
            refine lv_aload_n hx hb dX5_live_86 rfl (lv_at hl 2 rfl) ?_
            refine ax_getV hx hb hts hown hK hR fl_X5_12 (lk_28 hL) rfl dX5_live_87 ?_
            refine ax_getI hx hb hts hown hK hR fl_X5_53 (lk_29 hL) rfl dX5_live_90 ?_
            obtain ⟨q93, hq, h⟩ := ax_bd h
            refine ax_cV (rest := [.ref (B + 28)]) (st1 := [.int q93, .ref (B + 28)]) C hc hz hS hR (M_X2_isSaint hDb hq) yk_X2_isSaint in_X2_isSaint se_X2_isSaint ml_X5_56 (dio_0 hDb) rfl rfl (by decide) rfl hl.1 (Nat.le_of_ble_eq_true rfl) rfl rfl dX5_live_93 (fun H locs hR hS => ?_)
            obtain ⟨q96, hq, h⟩ := ax_bd h
            refine ax_cV (rest := []) (st1 := []) C hc hz hS hR (M_X5_countFeast hL hq) yk_X5_countFeast in_X5_countFeast se_X5_countFeast ml_X5_60 (lk_28 hL) rfl rfl (by decide) rfl hl.1 (Nat.le_of_ble_eq_true rfl) rfl rfl dX5_live_96 (fun H locs hR hS => ?_)
            exact t_X5_live_99 hL hDb C ih _ _ _ h H locs cells slots ls hc hz hR hS (lv_sub hl [2, 3, 4, 1, 5] rfl)
        · have h := ax_iN q h
          refine lv_aload_n hx hb dX5_live_49 rfl (lv_at hl 2 rfl) ?_
          refine lv_aload_n hx hb dX5_live_50 rfl (lv_at hl 2 rfl) ?_
          refine ax_getI hx hb hts hown hK hR fl_X5_37 (lk_28 hL) rfl dX5_live_51 ?_
          refine ax_putI hx hb hts hown hK hR hS fp_X5_40 (lk_28 hL) rfl rfl rfl dX5_live_54 (fun H locs hR hS => ?_)
          refine lv_aload_n hx hb dX5_live_57 rfl (lv_at hl 2 rfl) ?_
          refine lv_iload hx hb dX5_live_58 (lv_at hl 0 rfl) ?_
          refine ax_putI hx hb hts hown hK hR hS fp_X5_43 (lk_28 hL) rfl rfl rfl dX5_live_60 (fun H locs hR hS => ?_)
          cases h
          exact ax_vret C hc hz hR hS dX5_live_63
set_option maxRecDepth 100000 in
set_option maxHeartbeats 4000000 in
theorem t_X5_live_0 {lay : List ax_S} {b : Nat} {J : ax_J} {I9 : ax_I} (hL : ax_LL B lay) (hDb : ax_Dio B lay b) (C : ax_C p R s m args meth c yX5_live cX5_live 6 none 12 E mc ms) : ∀ (I : ax_I), F_X5_live I b = some I9 → AM p l e R s m args below meth c E B lay.length (ax_z lay) 6 none lay I9 J lay I J 0 [(0, .ref (B + 28)), (1, .ref (B + 26)), (2, .ref (B + b))] [] := by
  obtain ⟨hx, hb, hr, hml, hown, hts, hlocks, hK, hfr, hlo, hmc, hms, hnm⟩ := id C
  have hown : s.vm.findClass RX5 = some m.cls := hown
  intro I h H locs cells slots ls hc hz hR hS hl
  unfold F_X5_live at h
  refine lv_aload_n hx hb dX5_live_0 rfl (lv_at hl 0 rfl) ?_
  obtain ⟨q1, hq, h⟩ := ax_bd h
  refine ax_cV (rest := []) (st1 := []) C hc hz hS hR (M_X5_clear hL hq) yk_X5_clear in_X5_clear se_X5_clear ml_X5_18 (lk_28 hL) rfl rfl (by decide) rfl hl.1 (Nat.le_of_ble_eq_true rfl) rfl rfl dX5_live_1 (fun H locs hR hS => ?_)
  refine lv_iconst (v := 0) hx hb dX5_live_4 (by decide) ?_
  refine lv_istore_n (lv' := [(3, .int 0), (0, .ref (B + 28)), (1, .ref (B + 26)), (2, .ref (B + b))]) hx hb dX5_live_5 rfl hl (by decide) rfl (fun ls hl => ?_)
  refine lv_iconst (v := 0) hx hb dX5_live_6 (by decide) ?_
  refine lv_istore (lv' := [(4, .int 0), (3, .int 0), (0, .ref (B + 28)), (1, .ref (B + 26)), (2, .ref (B + b))]) hx hb dX5_live_7 hl (by decide) rfl (fun ls hl => ?_)
  exact t_X5_live_9 hL hDb C  ax_N _ _ _ h H locs cells slots ls hc hz hR hS (lv_sub hl [2, 3, 4, 1, 0] rfl)
theorem M_X5_live {l : Launch} {E : ax_E} {B : Nat} {lay : List ax_S} {I : ax_I} {J : ax_J} {b : Nat} {I9 : ax_I} (hL : ax_LL B lay) (hDb : ax_Dio B lay b) (h : F_X5_live I b = some I9) : Cm l yX5_live cX5_live 6 none 12 E B [.ref (B + 28), .ref (B + 26), .ref (B + b)] lay I J none lay I9 J :=
  ax_met (by decide) (Nat.le_of_ble_eq_true rfl) (fun p e R s m args below meth c C => t_X5_live_0 hL hDb C _ h)
def F_X6_child (I : ax_I) (x1 : Int32) (x2 : Int32) (x3 : Int32) (x4 : Int32) : Option (Int32 × ax_I) :=
  (F_X6_within I x1 0 5).bind (fun q3 => if q3 = 0 then some ((-1), I) else (F_X6_within I x2 0 99).bind (fun q15 => if q15 = 0 then some ((-2), I) else (F_X6_within I x3 0 99).bind (fun q25 => if q25 = 0 then some ((-2), I) else (F_X6_within I x4 0 99).bind (fun q36 => if q36 = 0 then some ((-2), I) else (F_X2_enter I 1 x1 x2 x3 x4).bind (fun q54 => (F_J6_bitCount_0f7a4 q54 (q54 1 0)).bind (fun q64 => some (q64, q54)))))))
set_option maxRecDepth 100000 in
set_option maxHeartbeats 4000000 in
theorem t_X6_child_0 {lay : List ax_S} {J : ax_J} {rv : Int32} {I9 : ax_I} (hL : ax_LL B lay) (C : ax_C p R s m args meth c yX6_child cX6_child 5 (some .int) 6 E mc ms) : ∀ (I : ax_I) (x1 : Int32) (x2 : Int32) (x3 : Int32) (x4 : Int32), F_X6_child I x1 x2 x3 x4 = some (rv, I9) → AM p l e R s m args below meth c E B lay.length (ax_z lay) 5 (some (.int rv)) lay I9 J lay I J 0 [(0, .ref (B + 0)), (1, .int x1), (2, .int x2), (3, .int x3), (4, .int x4)] [] := by
  obtain ⟨hx, hb, hr, hml, hown, hts, hlocks, hK, hfr, hlo, hmc, hms, hnm⟩ := id C
  have hown : s.vm.findClass RX6 = some m.cls := hown
  intro I x1 x2 x3 x4 h H locs cells slots ls hc hz hR hS hl
  unfold F_X6_child at h
  refine lv_iload_n hx hb dX6_child_0 rfl (lv_at hl 1 rfl) ?_
  refine lv_iconst (v := 0) hx hb dX6_child_1 (by decide) ?_
  refine lv_iconst (v := 5) hx hb dX6_child_2 (by decide) ?_
  obtain ⟨q3, hq, h⟩ := ax_bd h
  refine ax_cS (rest := []) (st1 := [.int q3]) C hc hz hS hR (M_X6_within  hq) yk_X6_within st_X6_within ml_X6_58 (by decide) rfl hl.1 (Nat.le_of_ble_eq_true rfl) rfl rfl dX6_child_3 (fun H locs hR hS => ?_)
  refine lv_if_ne (tgt := 11) hx hb dX6_child_6 (by decide) (fun q => ?_) (fun q => ?_)
  · have h := ax_iN q h
    refine lv_iload_n hx hb dX6_child_11 rfl (lv_at hl 2 rfl) ?_
    refine lv_iconst (v := 0) hx hb dX6_child_12 (by decide) ?_
    refine lv_bipush (v := 99) hx hb dX6_child_13 (by decide) ?_
    obtain ⟨q15, hq, h⟩ := ax_bd h
    refine ax_cS (rest := []) (st1 := [.int q15]) C hc hz hS hR (M_X6_within  hq) yk_X6_within st_X6_within ml_X6_58 (by decide) rfl hl.1 (Nat.le_of_ble_eq_true rfl) rfl rfl dX6_child_15 (fun H locs hR hS => ?_)
    refine lv_if_eq (tgt := 42) hx hb dX6_child_18 (by decide) (fun q => ?_) (fun q => ?_)
    · have h := ax_ip q h
      refine lv_bipush (v := (-2)) hx hb dX6_child_42 (by decide) ?_
      cases h
      exact ax_iret C hc hz hR hS rfl rfl dX6_child_44
    · have h := ax_iN q h
      refine lv_iload_n hx hb dX6_child_21 rfl (lv_at hl 3 rfl) ?_
      refine lv_iconst (v := 0) hx hb dX6_child_22 (by decide) ?_
      refine lv_bipush (v := 99) hx hb dX6_child_23 (by decide) ?_
      obtain ⟨q25, hq, h⟩ := ax_bd h
      refine ax_cS (rest := []) (st1 := [.int q25]) C hc hz hS hR (M_X6_within  hq) yk_X6_within st_X6_within ml_X6_58 (by decide) rfl hl.1 (Nat.le_of_ble_eq_true rfl) rfl rfl dX6_child_25 (fun H locs hR hS => ?_)
      refine lv_if_eq (tgt := 42) hx hb dX6_child_28 (by decide) (fun q => ?_) (fun q => ?_)
      · have h := ax_ip q h
        refine lv_bipush (v := (-2)) hx hb dX6_child_42 (by decide) ?_
        cases h
        exact ax_iret C hc hz hR hS rfl rfl dX6_child_44
      · have h := ax_iN q h
        refine lv_iload hx hb dX6_child_31 (lv_at hl 4 rfl) ?_
        refine lv_iconst (v := 0) hx hb dX6_child_33 (by decide) ?_
        refine lv_bipush (v := 99) hx hb dX6_child_34 (by decide) ?_
        obtain ⟨q36, hq, h⟩ := ax_bd h
        refine ax_cS (rest := []) (st1 := [.int q36]) C hc hz hS hR (M_X6_within  hq) yk_X6_within st_X6_within ml_X6_58 (by decide) rfl hl.1 (Nat.le_of_ble_eq_true rfl) rfl rfl dX6_child_36 (fun H locs hR hS => ?_)
        refine lv_if_ne (tgt := 45) hx hb dX6_child_39 (by decide) (fun q => ?_) (fun q => ?_)
        · have h := ax_iN q h
          refine lv_aload_n hx hb dX6_child_45 rfl (lv_at hl 0 rfl) ?_
          refine ax_getV hx hb hts hown hK hR fl_X6_10 (lk_0 hL) rfl dX6_child_46 ?_
          refine lv_iload_n hx hb dX6_child_49 rfl (lv_at hl 1 rfl) ?_
          refine lv_iload_n hx hb dX6_child_50 rfl (lv_at hl 2 rfl) ?_
          refine lv_iload_n hx hb dX6_child_51 rfl (lv_at hl 3 rfl) ?_
          refine lv_iload hx hb dX6_child_52 (lv_at hl 4 rfl) ?_
          obtain ⟨q54, hq, h⟩ := ax_bd h
          refine ax_cV (rest := []) (st1 := []) C hc hz hS hR (M_X2_enter (dio_at1 hL) hq) yk_X2_enter in_X2_enter se_X2_enter ml_X6_62 (lk_1 hL) rfl rfl (by decide) rfl hl.1 (Nat.le_of_ble_eq_true rfl) rfl rfl dX6_child_54 (fun H locs hR hS => ?_)
          refine lv_aload_n hx hb dX6_child_57 rfl (lv_at hl 0 rfl) ?_
          refine ax_getV hx hb hts hown hK hR fl_X6_10 (lk_0 hL) rfl dX6_child_58 ?_
          refine ax_getI hx hb hts hown hK hR fl_X6_66 (lk_1 hL) rfl dX6_child_61 ?_
          obtain ⟨q64, hq, h⟩ := ax_bd h
          refine ax_cS (rest := []) (st1 := [.int q64]) C hc hz hS hR (M_J6_bitCount_0f7a4  hq) yk_J6_bitCount_0f7a4 st_J6_bitCount_0f7a4 ml_X6_70 (by decide) rfl hl.1 (Nat.le_of_ble_eq_true rfl) rfl rfl dX6_child_64 (fun H locs hR hS => ?_)
          cases h
          exact ax_iret C hc hz hR hS rfl rfl dX6_child_67
        · have h := ax_ip q h
          refine lv_bipush (v := (-2)) hx hb dX6_child_42 (by decide) ?_
          cases h
          exact ax_iret C hc hz hR hS rfl rfl dX6_child_44
  · have h := ax_ip q h
    refine lv_iconst (v := (-1)) hx hb dX6_child_9 (by decide) ?_
    cases h
    exact ax_iret C hc hz hR hS rfl rfl dX6_child_10
theorem M_X6_child {l : Launch} {E : ax_E} {B : Nat} {lay : List ax_S} {I : ax_I} {J : ax_J} {x1 : Int32} {x2 : Int32} {x3 : Int32} {x4 : Int32} {rv : Int32} {I9 : ax_I} (hL : ax_LL B lay) (h : F_X6_child I x1 x2 x3 x4 = some (rv, I9)) : Cm l yX6_child cX6_child 5 (some .int) 6 E B [.ref (B + 0), .int x1, .int x2, .int x3, .int x4] lay I J (some (.int rv)) lay I9 J :=
  ax_met (by decide) (Nat.le_of_ble_eq_true rfl) (fun p e R s m args below meth c C => t_X6_child_0 hL C _ _ _ _ _ h)
def F_X6_leave (I : ax_I) (x1 : Int32) : Option (Int32 × ax_I) :=
  (F_X2_isThere I 1 x1).bind (fun q5 => if q5 = 0 then some ((-1), I) else (F_X2_remove I 1 x1).bind (fun q18 => (F_J6_bitCount_0f7a4 q18 (q18 1 0)).bind (fun q28 => some (q28, q18))))
set_option maxRecDepth 100000 in
set_option maxHeartbeats 4000000 in
theorem t_X6_leave_0 {lay : List ax_S} {J : ax_J} {rv : Int32} {I9 : ax_I} (hL : ax_LL B lay) (C : ax_C p R s m args meth c yX6_leave cX6_leave 2 (some .int) 6 E mc ms) : ∀ (I : ax_I) (x1 : Int32), F_X6_leave I x1 = some (rv, I9) → AM p l e R s m args below meth c E B lay.length (ax_z lay) 2 (some (.int rv)) lay I9 J lay I J 0 [(0, .ref (B + 0)), (1, .int x1)] [] := by
  obtain ⟨hx, hb, hr, hml, hown, hts, hlocks, hK, hfr, hlo, hmc, hms, hnm⟩ := id C
  have hown : s.vm.findClass RX6 = some m.cls := hown
  intro I x1 h H locs cells slots ls hc hz hR hS hl
  unfold F_X6_leave at h
  refine lv_aload_n hx hb dX6_leave_0 rfl (lv_at hl 0 rfl) ?_
  refine ax_getV hx hb hts hown hK hR fl_X6_10 (lk_0 hL) rfl dX6_leave_1 ?_
  refine lv_iload_n hx hb dX6_leave_4 rfl (lv_at hl 1 rfl) ?_
  obtain ⟨q5, hq, h⟩ := ax_bd h
  refine ax_cV (rest := []) (st1 := [.int q5]) C hc hz hS hR (M_X2_isThere (dio_at1 hL) hq) yk_X2_isThere in_X2_isThere se_X2_isThere ml_X6_76 (lk_1 hL) rfl rfl (by decide) rfl hl.1 (Nat.le_of_ble_eq_true rfl) rfl rfl dX6_leave_5 (fun H locs hR hS => ?_)
  refine lv_if_ne (tgt := 13) hx hb dX6_leave_8 (by decide) (fun q => ?_) (fun q => ?_)
  · have h := ax_iN q h
    refine lv_aload_n hx hb dX6_leave_13 rfl (lv_at hl 0 rfl) ?_
    refine ax_getV hx hb hts hown hK hR fl_X6_10 (lk_0 hL) rfl dX6_leave_14 ?_
    refine lv_iload_n hx hb dX6_leave_17 rfl (lv_at hl 1 rfl) ?_
    obtain ⟨q18, hq, h⟩ := ax_bd h
    refine ax_cV (rest := []) (st1 := []) C hc hz hS hR (M_X2_remove (dio_at1 hL) hq) yk_X2_remove in_X2_remove se_X2_remove ml_X6_80 (lk_1 hL) rfl rfl (by decide) rfl hl.1 (Nat.le_of_ble_eq_true rfl) rfl rfl dX6_leave_18 (fun H locs hR hS => ?_)
    refine lv_aload_n hx hb dX6_leave_21 rfl (lv_at hl 0 rfl) ?_
    refine ax_getV hx hb hts hown hK hR fl_X6_10 (lk_0 hL) rfl dX6_leave_22 ?_
    refine ax_getI hx hb hts hown hK hR fl_X6_66 (lk_1 hL) rfl dX6_leave_25 ?_
    obtain ⟨q28, hq, h⟩ := ax_bd h
    refine ax_cS (rest := []) (st1 := [.int q28]) C hc hz hS hR (M_J6_bitCount_0f7a4  hq) yk_J6_bitCount_0f7a4 st_J6_bitCount_0f7a4 ml_X6_70 (by decide) rfl hl.1 (Nat.le_of_ble_eq_true rfl) rfl rfl dX6_leave_28 (fun H locs hR hS => ?_)
    cases h
    exact ax_iret C hc hz hR hS rfl rfl dX6_leave_31
  · have h := ax_ip q h
    refine lv_iconst (v := (-1)) hx hb dX6_leave_11 (by decide) ?_
    cases h
    exact ax_iret C hc hz hR hS rfl rfl dX6_leave_12
theorem M_X6_leave {l : Launch} {E : ax_E} {B : Nat} {lay : List ax_S} {I : ax_I} {J : ax_J} {x1 : Int32} {rv : Int32} {I9 : ax_I} (hL : ax_LL B lay) (h : F_X6_leave I x1 = some (rv, I9)) : Cm l yX6_leave cX6_leave 2 (some .int) 6 E B [.ref (B + 0), .int x1] lay I J (some (.int rv)) lay I9 J :=
  ax_met (by decide) (Nat.le_of_ble_eq_true rfl) (fun p e R s m args below meth c C => t_X6_leave_0 hL C _ _ h)
def F_X6_law (I : ax_I) (x1 : Int32) (x2 : Int32) : Option (Int32 × ax_I) :=
  (F_X6_within I x1 0 2).bind (fun q3 => if q3 = 0 then some ((-2), I) else (F_X6_within I x2 0 9).bind (fun q13 => if q13 = 0 then some ((-2), I) else if ax_in x1 3 = true then if ax_in x1 3 = true then some ((I 10 x1.toNatClampNeg), (ax_u I 10 x1.toNatClampNeg x2)) else none else none))
set_option maxRecDepth 100000 in
set_option maxHeartbeats 4000000 in
theorem t_X6_law_0 {lay : List ax_S} {J : ax_J} {rv : Int32} {I9 : ax_I} (hL : ax_LL B lay) (C : ax_C p R s m args meth c yX6_law cX6_law 4 (some .int) 4 E mc ms) : ∀ (I : ax_I) (x1 : Int32) (x2 : Int32), F_X6_law I x1 x2 = some (rv, I9) → AM p l e R s m args below meth c E B lay.length (ax_z lay) 4 (some (.int rv)) lay I9 J lay I J 0 [(0, .ref (B + 0)), (1, .int x1), (2, .int x2)] [] := by
  obtain ⟨hx, hb, hr, hml, hown, hts, hlocks, hK, hfr, hlo, hmc, hms, hnm⟩ := id C
  have hown : s.vm.findClass RX6 = some m.cls := hown
  intro I x1 x2 h H locs cells slots ls hc hz hR hS hl
  unfold F_X6_law at h
  refine lv_iload_n hx hb dX6_law_0 rfl (lv_at hl 1 rfl) ?_
  refine lv_iconst (v := 0) hx hb dX6_law_1 (by decide) ?_
  refine lv_iconst (v := 2) hx hb dX6_law_2 (by decide) ?_
  obtain ⟨q3, hq, h⟩ := ax_bd h
  refine ax_cS (rest := []) (st1 := [.int q3]) C hc hz hS hR (M_X6_within  hq) yk_X6_within st_X6_within ml_X6_58 (by decide) rfl hl.1 (Nat.le_of_ble_eq_true rfl) rfl rfl dX6_law_3 (fun H locs hR hS => ?_)
  refine lv_if_eq (tgt := 19) hx hb dX6_law_6 (by decide) (fun q => ?_) (fun q => ?_)
  · have h := ax_ip q h
    refine lv_bipush (v := (-2)) hx hb dX6_law_19 (by decide) ?_
    cases h
    exact ax_iret C hc hz hR hS rfl rfl dX6_law_21
  · have h := ax_iN q h
    refine lv_iload_n hx hb dX6_law_9 rfl (lv_at hl 2 rfl) ?_
    refine lv_iconst (v := 0) hx hb dX6_law_10 (by decide) ?_
    refine lv_bipush (v := 9) hx hb dX6_law_11 (by decide) ?_
    obtain ⟨q13, hq, h⟩ := ax_bd h
    refine ax_cS (rest := []) (st1 := [.int q13]) C hc hz hS hR (M_X6_within  hq) yk_X6_within st_X6_within ml_X6_58 (by decide) rfl hl.1 (Nat.le_of_ble_eq_true rfl) rfl rfl dX6_law_13 (fun H locs hR hS => ?_)
    refine lv_if_ne (tgt := 22) hx hb dX6_law_16 (by decide) (fun q => ?_) (fun q => ?_)
    · have h := ax_iN q h
      refine lv_aload_n hx hb dX6_law_22 rfl (lv_at hl 0 rfl) ?_
      refine ax_getV hx hb hts hown hK hR fl_X6_10 (lk_0 hL) rfl dX6_law_23 ?_
      refine ax_getV hx hb hts hown hK hR fl_X6_84 (lk_1 hL) rfl dX6_law_26 ?_
      refine lv_iload_n hx hb dX6_law_29 rfl (lv_at hl 1 rfl) ?_
      obtain ⟨hq, h⟩ := ax_ck h
      refine ax_iald hx hb hK hR (lk_10 hL) hq dX6_law_30 ?_
      refine lv_istore_n (lv' := [(3, .int (I 10 x1.toNatClampNeg)), (0, .ref (B + 0)), (1, .int x1), (2, .int x2)]) hx hb dX6_law_31 rfl hl (by decide) rfl (fun ls hl => ?_)
      refine lv_aload_n hx hb dX6_law_32 rfl (lv_at hl 1 rfl) ?_
      refine ax_getV hx hb hts hown hK hR fl_X6_10 (lk_0 hL) rfl dX6_law_33 ?_
      refine ax_getV hx hb hts hown hK hR fl_X6_84 (lk_1 hL) rfl dX6_law_36 ?_
      refine lv_iload_n hx hb dX6_law_39 rfl (lv_at hl 2 rfl) ?_
      refine lv_iload_n hx hb dX6_law_40 rfl (lv_at hl 3 rfl) ?_
      obtain ⟨hq, h⟩ := ax_ck h
      refine ax_iast hx hb hK hR hS (lk_10 hL) hq dX6_law_41 (fun H locs hR hS => ?_)
      refine lv_iload_n hx hb dX6_law_42 rfl (lv_at hl 0 rfl) ?_
      cases h
      exact ax_iret C hc hz hR hS rfl rfl dX6_law_43
    · have h := ax_ip q h
      refine lv_bipush (v := (-2)) hx hb dX6_law_19 (by decide) ?_
      cases h
      exact ax_iret C hc hz hR hS rfl rfl dX6_law_21
theorem M_X6_law {l : Launch} {E : ax_E} {B : Nat} {lay : List ax_S} {I : ax_I} {J : ax_J} {x1 : Int32} {x2 : Int32} {rv : Int32} {I9 : ax_I} (hL : ax_LL B lay) (h : F_X6_law I x1 x2 = some (rv, I9)) : Cm l yX6_law cX6_law 4 (some .int) 4 E B [.ref (B + 0), .int x1, .int x2] lay I J (some (.int rv)) lay I9 J :=
  ax_met (by decide) (Nat.le_of_ble_eq_true rfl) (fun p e R s m args below meth c C => t_X6_law_0 hL C _ _ _ h)
def F_X6_purse (I : ax_I) (x1 : Int32) (x2 : Int32) : Option (Int32 × ax_I) :=
  (F_X6_within I x1 0 3).bind (fun q3 => if q3 = 0 then some ((-1), I) else (F_X6_within I x2 0 999).bind (fun q16 => if q16 = 0 then some ((-2), I) else if ax_in x1 4 = true then if ax_in x1 4 = true then some ((I 9 x1.toNatClampNeg), (ax_u I 9 x1.toNatClampNeg x2)) else none else none))
set_option maxRecDepth 100000 in
set_option maxHeartbeats 4000000 in
theorem t_X6_purse_0 {lay : List ax_S} {J : ax_J} {rv : Int32} {I9 : ax_I} (hL : ax_LL B lay) (C : ax_C p R s m args meth c yX6_purse cX6_purse 4 (some .int) 4 E mc ms) : ∀ (I : ax_I) (x1 : Int32) (x2 : Int32), F_X6_purse I x1 x2 = some (rv, I9) → AM p l e R s m args below meth c E B lay.length (ax_z lay) 4 (some (.int rv)) lay I9 J lay I J 0 [(0, .ref (B + 0)), (1, .int x1), (2, .int x2)] [] := by
  obtain ⟨hx, hb, hr, hml, hown, hts, hlocks, hK, hfr, hlo, hmc, hms, hnm⟩ := id C
  have hown : s.vm.findClass RX6 = some m.cls := hown
  intro I x1 x2 h H locs cells slots ls hc hz hR hS hl
  unfold F_X6_purse at h
  refine lv_iload_n hx hb dX6_purse_0 rfl (lv_at hl 1 rfl) ?_
  refine lv_iconst (v := 0) hx hb dX6_purse_1 (by decide) ?_
  refine lv_iconst (v := 3) hx hb dX6_purse_2 (by decide) ?_
  obtain ⟨q3, hq, h⟩ := ax_bd h
  refine ax_cS (rest := []) (st1 := [.int q3]) C hc hz hS hR (M_X6_within  hq) yk_X6_within st_X6_within ml_X6_58 (by decide) rfl hl.1 (Nat.le_of_ble_eq_true rfl) rfl rfl dX6_purse_3 (fun H locs hR hS => ?_)
  refine lv_if_ne (tgt := 11) hx hb dX6_purse_6 (by decide) (fun q => ?_) (fun q => ?_)
  · have h := ax_iN q h
    refine lv_iload_n hx hb dX6_purse_11 rfl (lv_at hl 2 rfl) ?_
    refine lv_iconst (v := 0) hx hb dX6_purse_12 (by decide) ?_
    refine lv_sipush (v := 999) hx hb dX6_purse_13 (by decide) ?_
    obtain ⟨q16, hq, h⟩ := ax_bd h
    refine ax_cS (rest := []) (st1 := [.int q16]) C hc hz hS hR (M_X6_within  hq) yk_X6_within st_X6_within ml_X6_58 (by decide) rfl hl.1 (Nat.le_of_ble_eq_true rfl) rfl rfl dX6_purse_16 (fun H locs hR hS => ?_)
    refine lv_if_ne (tgt := 25) hx hb dX6_purse_19 (by decide) (fun q => ?_) (fun q => ?_)
    · have h := ax_iN q h
      refine lv_aload_n hx hb dX6_purse_25 rfl (lv_at hl 0 rfl) ?_
      refine ax_getV hx hb hts hown hK hR fl_X6_10 (lk_0 hL) rfl dX6_purse_26 ?_
      refine ax_getV hx hb hts hown hK hR fl_X6_88 (lk_1 hL) rfl dX6_purse_29 ?_
      refine lv_iload_n hx hb dX6_purse_32 rfl (lv_at hl 1 rfl) ?_
      obtain ⟨hq, h⟩ := ax_ck h
      refine ax_iald hx hb hK hR (lk_9 hL) hq dX6_purse_33 ?_
      refine lv_istore_n (lv' := [(3, .int (I 9 x1.toNatClampNeg)), (0, .ref (B + 0)), (1, .int x1), (2, .int x2)]) hx hb dX6_purse_34 rfl hl (by decide) rfl (fun ls hl => ?_)
      refine lv_aload_n hx hb dX6_purse_35 rfl (lv_at hl 1 rfl) ?_
      refine ax_getV hx hb hts hown hK hR fl_X6_10 (lk_0 hL) rfl dX6_purse_36 ?_
      refine ax_getV hx hb hts hown hK hR fl_X6_88 (lk_1 hL) rfl dX6_purse_39 ?_
      refine lv_iload_n hx hb dX6_purse_42 rfl (lv_at hl 2 rfl) ?_
      refine lv_iload_n hx hb dX6_purse_43 rfl (lv_at hl 3 rfl) ?_
      obtain ⟨hq, h⟩ := ax_ck h
      refine ax_iast hx hb hK hR hS (lk_9 hL) hq dX6_purse_44 (fun H locs hR hS => ?_)
      refine lv_iload_n hx hb dX6_purse_45 rfl (lv_at hl 0 rfl) ?_
      cases h
      exact ax_iret C hc hz hR hS rfl rfl dX6_purse_46
    · have h := ax_ip q h
      refine lv_bipush (v := (-2)) hx hb dX6_purse_22 (by decide) ?_
      cases h
      exact ax_iret C hc hz hR hS rfl rfl dX6_purse_24
  · have h := ax_ip q h
    refine lv_iconst (v := (-1)) hx hb dX6_purse_9 (by decide) ?_
    cases h
    exact ax_iret C hc hz hR hS rfl rfl dX6_purse_10
theorem M_X6_purse {l : Launch} {E : ax_E} {B : Nat} {lay : List ax_S} {I : ax_I} {J : ax_J} {x1 : Int32} {x2 : Int32} {rv : Int32} {I9 : ax_I} (hL : ax_LL B lay) (h : F_X6_purse I x1 x2 = some (rv, I9)) : Cm l yX6_purse cX6_purse 4 (some .int) 4 E B [.ref (B + 0), .int x1, .int x2] lay I J (some (.int rv)) lay I9 J :=
  ax_met (by decide) (Nat.le_of_ble_eq_true rfl) (fun p e R s m args below meth c C => t_X6_purse_0 hL C _ _ _ h)
end GEN
