/-! ===== the law: its calls, its cases, its loop ===== -/
section LWC
variable {p : Program} {l : Launch} {e : Env} {R : Room} {s : State} {m : MethodId} {args : Array Value} {below : List Frame} {meth : Method} {c : Code} {H : Heap} {locs : List Loc} {cells slots : Nat} {Q : State → Prop}
variable {cc : ByteArray} {pc : Nat} {ls : Array Slot} {rest : List Value} {E : ax_E} {B : Nat} {lay lay' : List ax_S} {I I' : ax_I} {J J' : ax_J} {y' : MethodName} {cc' : ByteArray} {nL mL' : Nat} {rt' : Option FieldType} {d d' n idx : Nat} {av : List Value} {rv : Option Value} {own : String}
theorem lw_callV {k ci : Nat} {fs : List (Option Value)} {q : vw_C} (S : CallFix p m c cc nL s args ax_g own) (hK : ax_K E s) (hfr : d ≤ R.frames) (hlo : 40 * d ≤ R.locals) (hS : va_S (fun q => B ≤ q) s.heap H locs) (hR : ax_R E B lay I J H) (hM : Cm l y' cc' mL' rt' d' E B (.ref (B + k) :: av) lay I J rv lay' I' J') (hY : ax_Y y' cc' mL' rt' n) (hin : Cond.instanceMethod y' ∈ ax_g) (hse : Cond.selects y'.cls y' y' ∈ ax_g) (hlk : Cond.methodLink own idx y' ∈ ax_g) (hk : lay[k]? = some (.inl (ci, fs))) (hci : ax_cl[ci]? = some q) (hcq : q.1 = y'.cls) (hd : d' + 1 ≤ d) (hn : av.length = n) (hsz : ls.size = nL) (hW : (rest.map fun v => v.category).sum ≤ 8) {st0 st1 : List Value} (hst0 : st0 = av.reverse ++ .ref (B + k) :: rest) (hst1 : rv.toList ++ rest = st1) (hc : cells + 0 = lay.length) (hz : slots + 0 = ax_z lay) (hle : lay.length ≤ lay'.length) (hlz : ax_z lay ≤ ax_z lay') (hb1 : lay'.length ≤ R.cells) (hb2 : ax_z lay' ≤ R.slots) (hdg : decode cc pc = .ok (.invokevirtual idx, 3))
    (kk : ∀ (H1 : Heap) (locs1 : List Loc) (cells slots : Nat), cells + 0 = lay'.length → slots + 0 = ax_z lay' → ax_R E B lay' I' J' H1 → va_S (fun q => B ≤ q) s.heap H1 locs1 → W p l e R s m args below meth c H1 locs1 cells slots Q (F0 m (pc + 3) ls st1)) : W p l e R s m args below meth c H locs cells slots Q (F0 m pc ls st0) := by
  subst hst1
  have hrc := va_recv hK.1 hR.1 hci (q0 := k) (ax_W_at hk)
  rw [hcq] at hrc
  exact ax_go (va_runV (As := av) (rest := rest) S hM ⟨ax_cb S.2.2.2.2 hY hlk hd hfr hlo, S.2.2.2.2 _ hin, S.2.2.2.2 _ hse⟩ ⟨ax_blind, hrc, ax_pre hK hR⟩ rfl hn hsz hst0 (lv_room hW) hdg ⟨by omega, by omega⟩) hS (fun H1 locs1 hR1 hS1 => kk H1 locs1 _ _ (by omega) (by omega) hR1 hS1)
end LWC
/-- class and model answer alike, from every world of the invariant -/
def OpV (Inv : Nat → List ax_S → ax_I → ax_J → Prop) (rt : FieldType) (mk : (r : Value) → Prop) (yx : MethodName) (cx : ByteArray) (mx : Nat) (ym : MethodName) (cm : ByteArray) (mm : Nat) (av : List Value) : Prop :=
  ∀ (l : Launch) (E : ax_E) (B : Nat) (lay : List ax_S) (I : ax_I) (J : ax_J), Inv B lay I J → ∃ (r : Value) (d1 d2 : Nat) (lay1 : List ax_S) (I1 : ax_I) (J1 : ax_J) (lay2 : List ax_S) (I2 : ax_I) (J2 : ax_J), mk r ∧ d1 ≤ 90 ∧ d2 ≤ 90 ∧ Cm l yx cx mx (some rt) d1 E B (.ref (B + 0) :: av) lay I J (some r) lay1 I1 J1 ∧ Cm l ym cm mm (some rt) d2 E B (.ref (B + 35) :: av) lay1 I1 J1 (some r) lay2 I2 J2 ∧ (lay.length ≤ lay1.length ∧ ax_z lay ≤ ax_z lay1 ∧ lay1.length ≤ 200 ∧ ax_z lay1 ≤ 100000 ∧ ax_LL B lay1) ∧ (lay1.length ≤ lay2.length ∧ ax_z lay1 ≤ ax_z lay2 ∧ lay2.length ≤ 200 ∧ ax_z lay2 ≤ 100000) ∧ Inv B lay2 I2 J2
def isI (v : Value) : Prop := ∃ r : Int32, v = .int r
def isL (v : Value) : Prop := ∃ r : Int64, v = .long r
theorem lw_in {i j L : Nat} (hi : i + 7 ≤ L) (hL : L ≤ 448) (hj : j < 7) {z : Int32} (hz : z = nI j) : vp_in (nI i + z) L := by
  rw [hz, nI_add]
  exact vp_in_nI (by omega) (by omega)
theorem lw_in0 {i L : Nat} (hi : i + 7 ≤ L) (hL : L ≤ 448) : vp_in (nI i) L := vp_in_nI (by omega) (by omega)
theorem lw_tg {w : Cond} (h : w ∈ ax_g) : w ∈ lw_tbl := (List.mem_filter.mp h).1

set_option maxRecDepth 100000 in
set_option maxHeartbeats 4000000 in
theorem law_0 {p : Program} {l : Launch} {e : Env} {s : State} {m : MethodId} {below : List Frame} {meth : Method} {c : Code} {E : ax_E} {B b L i : Nat} {xs : Nat → Int32} {Inv : Nat → List ax_S → ax_I → ax_J → Prop} (hL : L ≤ 448) (hi : i + 7 ≤ L) (C0 : lw_At p s m meth c b L xs) (hK : ax_K E s) (hB : B = s.heap.size) (hInv : ∀ lay I J, Inv B lay I J → ax_LL B lay) (hop : OpV Inv .int isI yX6_child cX6_child 5 yX7_child cX7_child 5 [.int (xs (nI i + 1).toNatClampNeg), .int (xs (nI i + 2).toNatClampNeg), .int (xs (nI i + 3).toNatClampNeg), .int (xs (nI i + 4).toNatClampNeg)]) (hnext : ∀ (lay : List ax_S) (I : ax_I) (J : ax_J), Inv B lay I J → AX p l e room_1 s m #[Value.ref b] below meth c E B 0 0 4 (lw_Z below #[Value.ref b] s) lay I J 1087 [(0, .ref b), (1, .ref (B + 0)), (2, .ref (B + 35)), (3, .int (nI i))] []) : ∀ (lay : List ax_S) (I : ax_I) (J : ax_J), Inv B lay I J → AX p l e room_1 s m #[Value.ref b] below meth c E B 0 0 4 (lw_Z below #[Value.ref b] s) lay I J 168 [(0, .ref b), (1, .ref (B + 0)), (2, .ref (B + 35)), (3, .int (nI i))] [] := by
  obtain ⟨hx, hb, hr, hml, hown, hts0, hX, hbl, hlocks, hgv⟩ := id C0
  have hown : s.vm.findClass RL = some m.cls := hown
  have hts : ∀ w ∈ ax_g, w.before #[Value.ref b] s = true := fun w hw => hts0 w (lw_tg hw)
  have hbA : ¬ (fun q : Nat => B ≤ q) b := by show ¬ B ≤ b; omega
  intro lay I J hI H locs cells slots ls hc hz hR hS hl
  have hLL := hInv lay I J hI
  obtain ⟨r, d1, d2, lay1, I1, J1, lay2, I2, J2, ⟨r, rfl⟩, hd1, hd2, hM1, hM2, hq1, hq2, hI2⟩ := hop l E B lay I J hI
  have hLL1 := hq1.2.2.2.2
  refine lv_aload_n hx hb dL_law_168 rfl (lv_at hl 1 rfl) ?_
  refine lv_aload_n hx hb dL_law_169 rfl (lv_at hl 0 rfl) ?_
  refine lv_iload_n hx hb dL_law_170 rfl (lv_at hl 3 rfl) ?_
  refine lv_iconst (v := 1) hx hb dL_law_171 (by decide) ?_
  refine lv_iadd hx hb dL_law_172 ?_
  refine va_sld hx hb hX hbl hbA hS (lw_in hi hL (j := 1) (by decide) rfl) dL_law_173 ?_
  refine lv_aload_n hx hb dL_law_174 rfl (lv_at hl 0 rfl) ?_
  refine lv_iload_n hx hb dL_law_175 rfl (lv_at hl 3 rfl) ?_
  refine lv_iconst (v := 2) hx hb dL_law_176 (by decide) ?_
  refine lv_iadd hx hb dL_law_177 ?_
  refine va_sld hx hb hX hbl hbA hS (lw_in hi hL (j := 2) (by decide) rfl) dL_law_178 ?_
  refine lv_aload_n hx hb dL_law_179 rfl (lv_at hl 0 rfl) ?_
  refine lv_iload_n hx hb dL_law_180 rfl (lv_at hl 3 rfl) ?_
  refine lv_iconst (v := 3) hx hb dL_law_181 (by decide) ?_
  refine lv_iadd hx hb dL_law_182 ?_
  refine va_sld hx hb hX hbl hbA hS (lw_in hi hL (j := 3) (by decide) rfl) dL_law_183 ?_
  refine lv_aload_n hx hb dL_law_184 rfl (lv_at hl 0 rfl) ?_
  refine lv_iload_n hx hb dL_law_185 rfl (lv_at hl 3 rfl) ?_
  refine lv_iconst (v := 4) hx hb dL_law_186 (by decide) ?_
  refine lv_iadd hx hb dL_law_187 ?_
  refine va_sld hx hb hX hbl hbA hS (lw_in hi hL (j := 4) (by decide) rfl) dL_law_188 ?_
  refine lw_callV (d := 100) (rest := []) (st1 := [.int r]) ⟨hx, hb, hml, hown, hts⟩ hK (by decide) (by decide) hS hR hM1 yk_X6_child in_X6_child se_X6_child ml_L_13 (lk_0 hLL) rfl rfl (by omega) rfl hl.1 (Nat.le_of_ble_eq_true rfl) rfl rfl hc hz hq1.1 hq1.2.1 (by show _ ≤ 600000; omega) (by show _ ≤ 7302250; omega) dL_law_189 (fun H locs cells slots hc hz hR hS => ?_)
  refine lv_aload_n hx hb dL_law_192 rfl (lv_at hl 2 rfl) ?_
  refine lv_aload_n hx hb dL_law_193 rfl (lv_at hl 0 rfl) ?_
  refine lv_iload_n hx hb dL_law_194 rfl (lv_at hl 3 rfl) ?_
  refine lv_iconst (v := 1) hx hb dL_law_195 (by decide) ?_
  refine lv_iadd hx hb dL_law_196 ?_
  refine va_sld hx hb hX hbl hbA hS (lw_in hi hL (j := 1) (by decide) rfl) dL_law_197 ?_
  refine lv_aload_n hx hb dL_law_198 rfl (lv_at hl 0 rfl) ?_
  refine lv_iload_n hx hb dL_law_199 rfl (lv_at hl 3 rfl) ?_
  refine lv_iconst (v := 2) hx hb dL_law_200 (by decide) ?_
  refine lv_iadd hx hb dL_law_201 ?_
  refine va_sld hx hb hX hbl hbA hS (lw_in hi hL (j := 2) (by decide) rfl) dL_law_202 ?_
  refine lv_aload_n hx hb dL_law_203 rfl (lv_at hl 0 rfl) ?_
  refine lv_iload_n hx hb dL_law_204 rfl (lv_at hl 3 rfl) ?_
  refine lv_iconst (v := 3) hx hb dL_law_205 (by decide) ?_
  refine lv_iadd hx hb dL_law_206 ?_
  refine va_sld hx hb hX hbl hbA hS (lw_in hi hL (j := 3) (by decide) rfl) dL_law_207 ?_
  refine lv_aload_n hx hb dL_law_208 rfl (lv_at hl 0 rfl) ?_
  refine lv_iload_n hx hb dL_law_209 rfl (lv_at hl 3 rfl) ?_
  refine lv_iconst (v := 4) hx hb dL_law_210 (by decide) ?_
  refine lv_iadd hx hb dL_law_211 ?_
  refine va_sld hx hb hX hbl hbA hS (lw_in hi hL (j := 4) (by decide) rfl) dL_law_212 ?_
  refine lw_callV (d := 100) (rest := [.int r]) (st1 := [.int r, .int r]) ⟨hx, hb, hml, hown, hts⟩ hK (by decide) (by decide) hS hR hM2 yk_X7_child in_X7_child se_X7_child ml_L_17 (lk_35 hLL1) rfl rfl (by omega) rfl hl.1 (Nat.le_of_ble_eq_true rfl) rfl rfl hc hz hq2.1 hq2.2.1 (by show _ ≤ 600000; omega) (by show _ ≤ 7302250; omega) dL_law_213 (fun H locs cells slots hc hz hR hS => ?_)
  refine lv_icmp_eq (tgt := 1087) hx hb dL_law_216 (by decide) (fun q => ?_) (fun q => absurd rfl q)
  exact hnext lay2 I2 J2 hI2 H locs cells slots ls hc hz hR hS hl
set_option maxRecDepth 100000 in
set_option maxHeartbeats 4000000 in
theorem law_1 {p : Program} {l : Launch} {e : Env} {s : State} {m : MethodId} {below : List Frame} {meth : Method} {c : Code} {E : ax_E} {B b L i : Nat} {xs : Nat → Int32} {Inv : Nat → List ax_S → ax_I → ax_J → Prop} (hL : L ≤ 448) (hi : i + 7 ≤ L) (C0 : lw_At p s m meth c b L xs) (hK : ax_K E s) (hB : B = s.heap.size) (hInv : ∀ lay I J, Inv B lay I J → ax_LL B lay) (hop : OpV Inv .int isI yX6_leave cX6_leave 2 yX7_leave cX7_leave 2 [.int (xs (nI i + 1).toNatClampNeg)]) (hnext : ∀ (lay : List ax_S) (I : ax_I) (J : ax_J), Inv B lay I J → AX p l e room_1 s m #[Value.ref b] below meth c E B 0 0 4 (lw_Z below #[Value.ref b] s) lay I J 1087 [(0, .ref b), (1, .ref (B + 0)), (2, .ref (B + 35)), (3, .int (nI i))] []) : ∀ (lay : List ax_S) (I : ax_I) (J : ax_J), Inv B lay I J → AX p l e room_1 s m #[Value.ref b] below meth c E B 0 0 4 (lw_Z below #[Value.ref b] s) lay I J 221 [(0, .ref b), (1, .ref (B + 0)), (2, .ref (B + 35)), (3, .int (nI i))] [] := by
  obtain ⟨hx, hb, hr, hml, hown, hts0, hX, hbl, hlocks, hgv⟩ := id C0
  have hown : s.vm.findClass RL = some m.cls := hown
  have hts : ∀ w ∈ ax_g, w.before #[Value.ref b] s = true := fun w hw => hts0 w (lw_tg hw)
  have hbA : ¬ (fun q : Nat => B ≤ q) b := by show ¬ B ≤ b; omega
  intro lay I J hI H locs cells slots ls hc hz hR hS hl
  have hLL := hInv lay I J hI
  obtain ⟨r, d1, d2, lay1, I1, J1, lay2, I2, J2, ⟨r, rfl⟩, hd1, hd2, hM1, hM2, hq1, hq2, hI2⟩ := hop l E B lay I J hI
  have hLL1 := hq1.2.2.2.2
  refine lv_aload_n hx hb dL_law_221 rfl (lv_at hl 1 rfl) ?_
  refine lv_aload_n hx hb dL_law_222 rfl (lv_at hl 0 rfl) ?_
  refine lv_iload_n hx hb dL_law_223 rfl (lv_at hl 3 rfl) ?_
  refine lv_iconst (v := 1) hx hb dL_law_224 (by decide) ?_
  refine lv_iadd hx hb dL_law_225 ?_
  refine va_sld hx hb hX hbl hbA hS (lw_in hi hL (j := 1) (by decide) rfl) dL_law_226 ?_
  refine lw_callV (d := 100) (rest := []) (st1 := [.int r]) ⟨hx, hb, hml, hown, hts⟩ hK (by decide) (by decide) hS hR hM1 yk_X6_leave in_X6_leave se_X6_leave ml_L_18 (lk_0 hLL) rfl rfl (by omega) rfl hl.1 (Nat.le_of_ble_eq_true rfl) rfl rfl hc hz hq1.1 hq1.2.1 (by show _ ≤ 600000; omega) (by show _ ≤ 7302250; omega) dL_law_227 (fun H locs cells slots hc hz hR hS => ?_)
  refine lv_aload_n hx hb dL_law_230 rfl (lv_at hl 2 rfl) ?_
  refine lv_aload_n hx hb dL_law_231 rfl (lv_at hl 0 rfl) ?_
  refine lv_iload_n hx hb dL_law_232 rfl (lv_at hl 3 rfl) ?_
  refine lv_iconst (v := 1) hx hb dL_law_233 (by decide) ?_
  refine lv_iadd hx hb dL_law_234 ?_
  refine va_sld hx hb hX hbl hbA hS (lw_in hi hL (j := 1) (by decide) rfl) dL_law_235 ?_
  refine lw_callV (d := 100) (rest := [.int r]) (st1 := [.int r, .int r]) ⟨hx, hb, hml, hown, hts⟩ hK (by decide) (by decide) hS hR hM2 yk_X7_leave in_X7_leave se_X7_leave ml_L_22 (lk_35 hLL1) rfl rfl (by omega) rfl hl.1 (Nat.le_of_ble_eq_true rfl) rfl rfl hc hz hq2.1 hq2.2.1 (by show _ ≤ 600000; omega) (by show _ ≤ 7302250; omega) dL_law_236 (fun H locs cells slots hc hz hR hS => ?_)
  refine lv_icmp_eq (tgt := 1087) hx hb dL_law_239 (by decide) (fun q => ?_) (fun q => absurd rfl q)
  exact hnext lay2 I2 J2 hI2 H locs cells slots ls hc hz hR hS hl
set_option maxRecDepth 100000 in
set_option maxHeartbeats 4000000 in
theorem law_2 {p : Program} {l : Launch} {e : Env} {s : State} {m : MethodId} {below : List Frame} {meth : Method} {c : Code} {E : ax_E} {B b L i : Nat} {xs : Nat → Int32} {Inv : Nat → List ax_S → ax_I → ax_J → Prop} (hL : L ≤ 448) (hi : i + 7 ≤ L) (C0 : lw_At p s m meth c b L xs) (hK : ax_K E s) (hB : B = s.heap.size) (hInv : ∀ lay I J, Inv B lay I J → ax_LL B lay) (hop : OpV Inv .int isI yX6_law cX6_law 4 yX7_law cX7_law 4 [.int (xs (nI i + 1).toNatClampNeg), .int (xs (nI i + 2).toNatClampNeg)]) (hnext : ∀ (lay : List ax_S) (I : ax_I) (J : ax_J), Inv B lay I J → AX p l e room_1 s m #[Value.ref b] below meth c E B 0 0 4 (lw_Z below #[Value.ref b] s) lay I J 1087 [(0, .ref b), (1, .ref (B + 0)), (2, .ref (B + 35)), (3, .int (nI i))] []) : ∀ (lay : List ax_S) (I : ax_I) (J : ax_J), Inv B lay I J → AX p l e room_1 s m #[Value.ref b] below meth c E B 0 0 4 (lw_Z below #[Value.ref b] s) lay I J 244 [(0, .ref b), (1, .ref (B + 0)), (2, .ref (B + 35)), (3, .int (nI i))] [] := by
  obtain ⟨hx, hb, hr, hml, hown, hts0, hX, hbl, hlocks, hgv⟩ := id C0
  have hown : s.vm.findClass RL = some m.cls := hown
  have hts : ∀ w ∈ ax_g, w.before #[Value.ref b] s = true := fun w hw => hts0 w (lw_tg hw)
  have hbA : ¬ (fun q : Nat => B ≤ q) b := by show ¬ B ≤ b; omega
  intro lay I J hI H locs cells slots ls hc hz hR hS hl
  have hLL := hInv lay I J hI
  obtain ⟨r, d1, d2, lay1, I1, J1, lay2, I2, J2, ⟨r, rfl⟩, hd1, hd2, hM1, hM2, hq1, hq2, hI2⟩ := hop l E B lay I J hI
  have hLL1 := hq1.2.2.2.2
  refine lv_aload_n hx hb dL_law_244 rfl (lv_at hl 1 rfl) ?_
  refine lv_aload_n hx hb dL_law_245 rfl (lv_at hl 0 rfl) ?_
  refine lv_iload_n hx hb dL_law_246 rfl (lv_at hl 3 rfl) ?_
  refine lv_iconst (v := 1) hx hb dL_law_247 (by decide) ?_
  refine lv_iadd hx hb dL_law_248 ?_
  refine va_sld hx hb hX hbl hbA hS (lw_in hi hL (j := 1) (by decide) rfl) dL_law_249 ?_
  refine lv_aload_n hx hb dL_law_250 rfl (lv_at hl 0 rfl) ?_
  refine lv_iload_n hx hb dL_law_251 rfl (lv_at hl 3 rfl) ?_
  refine lv_iconst (v := 2) hx hb dL_law_252 (by decide) ?_
  refine lv_iadd hx hb dL_law_253 ?_
  refine va_sld hx hb hX hbl hbA hS (lw_in hi hL (j := 2) (by decide) rfl) dL_law_254 ?_
  refine lw_callV (d := 100) (rest := []) (st1 := [.int r]) ⟨hx, hb, hml, hown, hts⟩ hK (by decide) (by decide) hS hR hM1 yk_X6_law in_X6_law se_X6_law ml_L_23 (lk_0 hLL) rfl rfl (by omega) rfl hl.1 (Nat.le_of_ble_eq_true rfl) rfl rfl hc hz hq1.1 hq1.2.1 (by show _ ≤ 600000; omega) (by show _ ≤ 7302250; omega) dL_law_255 (fun H locs cells slots hc hz hR hS => ?_)
  refine lv_aload_n hx hb dL_law_258 rfl (lv_at hl 2 rfl) ?_
  refine lv_aload_n hx hb dL_law_259 rfl (lv_at hl 0 rfl) ?_
  refine lv_iload_n hx hb dL_law_260 rfl (lv_at hl 3 rfl) ?_
  refine lv_iconst (v := 1) hx hb dL_law_261 (by decide) ?_
  refine lv_iadd hx hb dL_law_262 ?_
  refine va_sld hx hb hX hbl hbA hS (lw_in hi hL (j := 1) (by decide) rfl) dL_law_263 ?_
  refine lv_aload_n hx hb dL_law_264 rfl (lv_at hl 0 rfl) ?_
  refine lv_iload_n hx hb dL_law_265 rfl (lv_at hl 3 rfl) ?_
  refine lv_iconst (v := 2) hx hb dL_law_266 (by decide) ?_
  refine lv_iadd hx hb dL_law_267 ?_
  refine va_sld hx hb hX hbl hbA hS (lw_in hi hL (j := 2) (by decide) rfl) dL_law_268 ?_
  refine lw_callV (d := 100) (rest := [.int r]) (st1 := [.int r, .int r]) ⟨hx, hb, hml, hown, hts⟩ hK (by decide) (by decide) hS hR hM2 yk_X7_law in_X7_law se_X7_law ml_L_27 (lk_35 hLL1) rfl rfl (by omega) rfl hl.1 (Nat.le_of_ble_eq_true rfl) rfl rfl hc hz hq2.1 hq2.2.1 (by show _ ≤ 600000; omega) (by show _ ≤ 7302250; omega) dL_law_269 (fun H locs cells slots hc hz hR hS => ?_)
  refine lv_icmp_eq (tgt := 1087) hx hb dL_law_272 (by decide) (fun q => ?_) (fun q => absurd rfl q)
  exact hnext lay2 I2 J2 hI2 H locs cells slots ls hc hz hR hS hl
set_option maxRecDepth 100000 in
set_option maxHeartbeats 4000000 in
theorem law_3 {p : Program} {l : Launch} {e : Env} {s : State} {m : MethodId} {below : List Frame} {meth : Method} {c : Code} {E : ax_E} {B b L i : Nat} {xs : Nat → Int32} {Inv : Nat → List ax_S → ax_I → ax_J → Prop} (hL : L ≤ 448) (hi : i + 7 ≤ L) (C0 : lw_At p s m meth c b L xs) (hK : ax_K E s) (hB : B = s.heap.size) (hInv : ∀ lay I J, Inv B lay I J → ax_LL B lay) (hop : OpV Inv .int isI yX6_purse cX6_purse 4 yX7_purse cX7_purse 4 [.int (xs (nI i + 1).toNatClampNeg), .int (xs (nI i + 2).toNatClampNeg)]) (hnext : ∀ (lay : List ax_S) (I : ax_I) (J : ax_J), Inv B lay I J → AX p l e room_1 s m #[Value.ref b] below meth c E B 0 0 4 (lw_Z below #[Value.ref b] s) lay I J 1087 [(0, .ref b), (1, .ref (B + 0)), (2, .ref (B + 35)), (3, .int (nI i))] []) : ∀ (lay : List ax_S) (I : ax_I) (J : ax_J), Inv B lay I J → AX p l e room_1 s m #[Value.ref b] below meth c E B 0 0 4 (lw_Z below #[Value.ref b] s) lay I J 277 [(0, .ref b), (1, .ref (B + 0)), (2, .ref (B + 35)), (3, .int (nI i))] [] := by
  obtain ⟨hx, hb, hr, hml, hown, hts0, hX, hbl, hlocks, hgv⟩ := id C0
  have hown : s.vm.findClass RL = some m.cls := hown
  have hts : ∀ w ∈ ax_g, w.before #[Value.ref b] s = true := fun w hw => hts0 w (lw_tg hw)
  have hbA : ¬ (fun q : Nat => B ≤ q) b := by show ¬ B ≤ b; omega
  intro lay I J hI H locs cells slots ls hc hz hR hS hl
  have hLL := hInv lay I J hI
  obtain ⟨r, d1, d2, lay1, I1, J1, lay2, I2, J2, ⟨r, rfl⟩, hd1, hd2, hM1, hM2, hq1, hq2, hI2⟩ := hop l E B lay I J hI
  have hLL1 := hq1.2.2.2.2
  refine lv_aload_n hx hb dL_law_277 rfl (lv_at hl 1 rfl) ?_
  refine lv_aload_n hx hb dL_law_278 rfl (lv_at hl 0 rfl) ?_
  refine lv_iload_n hx hb dL_law_279 rfl (lv_at hl 3 rfl) ?_
  refine lv_iconst (v := 1) hx hb dL_law_280 (by decide) ?_
  refine lv_iadd hx hb dL_law_281 ?_
  refine va_sld hx hb hX hbl hbA hS (lw_in hi hL (j := 1) (by decide) rfl) dL_law_282 ?_
  refine lv_aload_n hx hb dL_law_283 rfl (lv_at hl 0 rfl) ?_
  refine lv_iload_n hx hb dL_law_284 rfl (lv_at hl 3 rfl) ?_
  refine lv_iconst (v := 2) hx hb dL_law_285 (by decide) ?_
  refine lv_iadd hx hb dL_law_286 ?_
  refine va_sld hx hb hX hbl hbA hS (lw_in hi hL (j := 2) (by decide) rfl) dL_law_287 ?_
  refine lw_callV (d := 100) (rest := []) (st1 := [.int r]) ⟨hx, hb, hml, hown, hts⟩ hK (by decide) (by decide) hS hR hM1 yk_X6_purse in_X6_purse se_X6_purse ml_L_28 (lk_0 hLL) rfl rfl (by omega) rfl hl.1 (Nat.le_of_ble_eq_true rfl) rfl rfl hc hz hq1.1 hq1.2.1 (by show _ ≤ 600000; omega) (by show _ ≤ 7302250; omega) dL_law_288 (fun H locs cells slots hc hz hR hS => ?_)
  refine lv_aload_n hx hb dL_law_291 rfl (lv_at hl 2 rfl) ?_
  refine lv_aload_n hx hb dL_law_292 rfl (lv_at hl 0 rfl) ?_
  refine lv_iload_n hx hb dL_law_293 rfl (lv_at hl 3 rfl) ?_
  refine lv_iconst (v := 1) hx hb dL_law_294 (by decide) ?_
  refine lv_iadd hx hb dL_law_295 ?_
  refine va_sld hx hb hX hbl hbA hS (lw_in hi hL (j := 1) (by decide) rfl) dL_law_296 ?_
  refine lv_aload_n hx hb dL_law_297 rfl (lv_at hl 0 rfl) ?_
  refine lv_iload_n hx hb dL_law_298 rfl (lv_at hl 3 rfl) ?_
  refine lv_iconst (v := 2) hx hb dL_law_299 (by decide) ?_
  refine lv_iadd hx hb dL_law_300 ?_
  refine va_sld hx hb hX hbl hbA hS (lw_in hi hL (j := 2) (by decide) rfl) dL_law_301 ?_
  refine lw_callV (d := 100) (rest := [.int r]) (st1 := [.int r, .int r]) ⟨hx, hb, hml, hown, hts⟩ hK (by decide) (by decide) hS hR hM2 yk_X7_purse in_X7_purse se_X7_purse ml_L_31 (lk_35 hLL1) rfl rfl (by omega) rfl hl.1 (Nat.le_of_ble_eq_true rfl) rfl rfl hc hz hq2.1 hq2.2.1 (by show _ ≤ 600000; omega) (by show _ ≤ 7302250; omega) dL_law_302 (fun H locs cells slots hc hz hR hS => ?_)
  refine lv_icmp_eq (tgt := 1087) hx hb dL_law_305 (by decide) (fun q => ?_) (fun q => absurd rfl q)
  exact hnext lay2 I2 J2 hI2 H locs cells slots ls hc hz hR hS hl
set_option maxRecDepth 100000 in
set_option maxHeartbeats 4000000 in
theorem law_4 {p : Program} {l : Launch} {e : Env} {s : State} {m : MethodId} {below : List Frame} {meth : Method} {c : Code} {E : ax_E} {B b L i : Nat} {xs : Nat → Int32} {Inv : Nat → List ax_S → ax_I → ax_J → Prop} (hL : L ≤ 448) (hi : i + 7 ≤ L) (C0 : lw_At p s m meth c b L xs) (hK : ax_K E s) (hB : B = s.heap.size) (hInv : ∀ lay I J, Inv B lay I J → ax_LL B lay) (hop : OpV Inv .int isI yX6_offer cX6_offer 6 yX7_offer cX7_offer 6 [.int (xs (nI i + 1).toNatClampNeg), .int (xs (nI i + 2).toNatClampNeg), .int (xs (nI i + 3).toNatClampNeg), .int (xs (nI i + 4).toNatClampNeg)]) (hnext : ∀ (lay : List ax_S) (I : ax_I) (J : ax_J), Inv B lay I J → AX p l e room_1 s m #[Value.ref b] below meth c E B 0 0 4 (lw_Z below #[Value.ref b] s) lay I J 1087 [(0, .ref b), (1, .ref (B + 0)), (2, .ref (B + 35)), (3, .int (nI i))] []) : ∀ (lay : List ax_S) (I : ax_I) (J : ax_J), Inv B lay I J → AX p l e room_1 s m #[Value.ref b] below meth c E B 0 0 4 (lw_Z below #[Value.ref b] s) lay I J 310 [(0, .ref b), (1, .ref (B + 0)), (2, .ref (B + 35)), (3, .int (nI i))] [] := by
  obtain ⟨hx, hb, hr, hml, hown, hts0, hX, hbl, hlocks, hgv⟩ := id C0
  have hown : s.vm.findClass RL = some m.cls := hown
  have hts : ∀ w ∈ ax_g, w.before #[Value.ref b] s = true := fun w hw => hts0 w (lw_tg hw)
  have hbA : ¬ (fun q : Nat => B ≤ q) b := by show ¬ B ≤ b; omega
  intro lay I J hI H locs cells slots ls hc hz hR hS hl
  have hLL := hInv lay I J hI
  obtain ⟨r, d1, d2, lay1, I1, J1, lay2, I2, J2, ⟨r, rfl⟩, hd1, hd2, hM1, hM2, hq1, hq2, hI2⟩ := hop l E B lay I J hI
  have hLL1 := hq1.2.2.2.2
  refine lv_aload_n hx hb dL_law_310 rfl (lv_at hl 1 rfl) ?_
  refine lv_aload_n hx hb dL_law_311 rfl (lv_at hl 0 rfl) ?_
  refine lv_iload_n hx hb dL_law_312 rfl (lv_at hl 3 rfl) ?_
  refine lv_iconst (v := 1) hx hb dL_law_313 (by decide) ?_
  refine lv_iadd hx hb dL_law_314 ?_
  refine va_sld hx hb hX hbl hbA hS (lw_in hi hL (j := 1) (by decide) rfl) dL_law_315 ?_
  refine lv_aload_n hx hb dL_law_316 rfl (lv_at hl 0 rfl) ?_
  refine lv_iload_n hx hb dL_law_317 rfl (lv_at hl 3 rfl) ?_
  refine lv_iconst (v := 2) hx hb dL_law_318 (by decide) ?_
  refine lv_iadd hx hb dL_law_319 ?_
  refine va_sld hx hb hX hbl hbA hS (lw_in hi hL (j := 2) (by decide) rfl) dL_law_320 ?_
  refine lv_aload_n hx hb dL_law_321 rfl (lv_at hl 0 rfl) ?_
  refine lv_iload_n hx hb dL_law_322 rfl (lv_at hl 3 rfl) ?_
  refine lv_iconst (v := 3) hx hb dL_law_323 (by decide) ?_
  refine lv_iadd hx hb dL_law_324 ?_
  refine va_sld hx hb hX hbl hbA hS (lw_in hi hL (j := 3) (by decide) rfl) dL_law_325 ?_
  refine lv_aload_n hx hb dL_law_326 rfl (lv_at hl 0 rfl) ?_
  refine lv_iload_n hx hb dL_law_327 rfl (lv_at hl 3 rfl) ?_
  refine lv_iconst (v := 4) hx hb dL_law_328 (by decide) ?_
  refine lv_iadd hx hb dL_law_329 ?_
  refine va_sld hx hb hX hbl hbA hS (lw_in hi hL (j := 4) (by decide) rfl) dL_law_330 ?_
  refine lw_callV (d := 100) (rest := []) (st1 := [.int r]) ⟨hx, hb, hml, hown, hts⟩ hK (by decide) (by decide) hS hR hM1 yk_X6_offer in_X6_offer se_X6_offer ml_L_32 (lk_0 hLL) rfl rfl (by omega) rfl hl.1 (Nat.le_of_ble_eq_true rfl) rfl rfl hc hz hq1.1 hq1.2.1 (by show _ ≤ 600000; omega) (by show _ ≤ 7302250; omega) dL_law_331 (fun H locs cells slots hc hz hR hS => ?_)
  refine lv_aload_n hx hb dL_law_334 rfl (lv_at hl 2 rfl) ?_
  refine lv_aload_n hx hb dL_law_335 rfl (lv_at hl 0 rfl) ?_
  refine lv_iload_n hx hb dL_law_336 rfl (lv_at hl 3 rfl) ?_
  refine lv_iconst (v := 1) hx hb dL_law_337 (by decide) ?_
  refine lv_iadd hx hb dL_law_338 ?_
  refine va_sld hx hb hX hbl hbA hS (lw_in hi hL (j := 1) (by decide) rfl) dL_law_339 ?_
  refine lv_aload_n hx hb dL_law_340 rfl (lv_at hl 0 rfl) ?_
  refine lv_iload_n hx hb dL_law_341 rfl (lv_at hl 3 rfl) ?_
  refine lv_iconst (v := 2) hx hb dL_law_342 (by decide) ?_
  refine lv_iadd hx hb dL_law_343 ?_
  refine va_sld hx hb hX hbl hbA hS (lw_in hi hL (j := 2) (by decide) rfl) dL_law_344 ?_
  refine lv_aload_n hx hb dL_law_345 rfl (lv_at hl 0 rfl) ?_
  refine lv_iload_n hx hb dL_law_346 rfl (lv_at hl 3 rfl) ?_
  refine lv_iconst (v := 3) hx hb dL_law_347 (by decide) ?_
  refine lv_iadd hx hb dL_law_348 ?_
  refine va_sld hx hb hX hbl hbA hS (lw_in hi hL (j := 3) (by decide) rfl) dL_law_349 ?_
  refine lv_aload_n hx hb dL_law_350 rfl (lv_at hl 0 rfl) ?_
  refine lv_iload_n hx hb dL_law_351 rfl (lv_at hl 3 rfl) ?_
  refine lv_iconst (v := 4) hx hb dL_law_352 (by decide) ?_
  refine lv_iadd hx hb dL_law_353 ?_
  refine va_sld hx hb hX hbl hbA hS (lw_in hi hL (j := 4) (by decide) rfl) dL_law_354 ?_
  refine lw_callV (d := 100) (rest := [.int r]) (st1 := [.int r, .int r]) ⟨hx, hb, hml, hown, hts⟩ hK (by decide) (by decide) hS hR hM2 yk_X7_offer in_X7_offer se_X7_offer ml_L_35 (lk_35 hLL1) rfl rfl (by omega) rfl hl.1 (Nat.le_of_ble_eq_true rfl) rfl rfl hc hz hq2.1 hq2.2.1 (by show _ ≤ 600000; omega) (by show _ ≤ 7302250; omega) dL_law_355 (fun H locs cells slots hc hz hR hS => ?_)
  refine lv_icmp_eq (tgt := 1087) hx hb dL_law_358 (by decide) (fun q => ?_) (fun q => absurd rfl q)
  exact hnext lay2 I2 J2 hI2 H locs cells slots ls hc hz hR hS hl
set_option maxRecDepth 100000 in
set_option maxHeartbeats 4000000 in
theorem law_5 {p : Program} {l : Launch} {e : Env} {s : State} {m : MethodId} {below : List Frame} {meth : Method} {c : Code} {E : ax_E} {B b L i : Nat} {xs : Nat → Int32} {Inv : Nat → List ax_S → ax_I → ax_J → Prop} (hL : L ≤ 448) (hi : i + 7 ≤ L) (C0 : lw_At p s m meth c b L xs) (hK : ax_K E s) (hB : B = s.heap.size) (hInv : ∀ lay I J, Inv B lay I J → ax_LL B lay) (hop : OpV Inv .int isI yX6_witness cX6_witness 4 yX7_witness cX7_witness 4 [.int (xs (nI i + 1).toNatClampNeg), .int (xs (nI i + 2).toNatClampNeg)]) (hnext : ∀ (lay : List ax_S) (I : ax_I) (J : ax_J), Inv B lay I J → AX p l e room_1 s m #[Value.ref b] below meth c E B 0 0 4 (lw_Z below #[Value.ref b] s) lay I J 1087 [(0, .ref b), (1, .ref (B + 0)), (2, .ref (B + 35)), (3, .int (nI i))] []) : ∀ (lay : List ax_S) (I : ax_I) (J : ax_J), Inv B lay I J → AX p l e room_1 s m #[Value.ref b] below meth c E B 0 0 4 (lw_Z below #[Value.ref b] s) lay I J 363 [(0, .ref b), (1, .ref (B + 0)), (2, .ref (B + 35)), (3, .int (nI i))] [] := by
  obtain ⟨hx, hb, hr, hml, hown, hts0, hX, hbl, hlocks, hgv⟩ := id C0
  have hown : s.vm.findClass RL = some m.cls := hown
  have hts : ∀ w ∈ ax_g, w.before #[Value.ref b] s = true := fun w hw => hts0 w (lw_tg hw)
  have hbA : ¬ (fun q : Nat => B ≤ q) b := by show ¬ B ≤ b; omega
  intro lay I J hI H locs cells slots ls hc hz hR hS hl
  have hLL := hInv lay I J hI
  obtain ⟨r, d1, d2, lay1, I1, J1, lay2, I2, J2, ⟨r, rfl⟩, hd1, hd2, hM1, hM2, hq1, hq2, hI2⟩ := hop l E B lay I J hI
  have hLL1 := hq1.2.2.2.2
  refine lv_aload_n hx hb dL_law_363 rfl (lv_at hl 1 rfl) ?_
  refine lv_aload_n hx hb dL_law_364 rfl (lv_at hl 0 rfl) ?_
  refine lv_iload_n hx hb dL_law_365 rfl (lv_at hl 3 rfl) ?_
  refine lv_iconst (v := 1) hx hb dL_law_366 (by decide) ?_
  refine lv_iadd hx hb dL_law_367 ?_
  refine va_sld hx hb hX hbl hbA hS (lw_in hi hL (j := 1) (by decide) rfl) dL_law_368 ?_
  refine lv_aload_n hx hb dL_law_369 rfl (lv_at hl 0 rfl) ?_
  refine lv_iload_n hx hb dL_law_370 rfl (lv_at hl 3 rfl) ?_
  refine lv_iconst (v := 2) hx hb dL_law_371 (by decide) ?_
  refine lv_iadd hx hb dL_law_372 ?_
  refine va_sld hx hb hX hbl hbA hS (lw_in hi hL (j := 2) (by decide) rfl) dL_law_373 ?_
  refine lw_callV (d := 100) (rest := []) (st1 := [.int r]) ⟨hx, hb, hml, hown, hts⟩ hK (by decide) (by decide) hS hR hM1 yk_X6_witness in_X6_witness se_X6_witness ml_L_36 (lk_0 hLL) rfl rfl (by omega) rfl hl.1 (Nat.le_of_ble_eq_true rfl) rfl rfl hc hz hq1.1 hq1.2.1 (by show _ ≤ 600000; omega) (by show _ ≤ 7302250; omega) dL_law_374 (fun H locs cells slots hc hz hR hS => ?_)
  refine lv_aload_n hx hb dL_law_377 rfl (lv_at hl 2 rfl) ?_
  refine lv_aload_n hx hb dL_law_378 rfl (lv_at hl 0 rfl) ?_
  refine lv_iload_n hx hb dL_law_379 rfl (lv_at hl 3 rfl) ?_
  refine lv_iconst (v := 1) hx hb dL_law_380 (by decide) ?_
  refine lv_iadd hx hb dL_law_381 ?_
  refine va_sld hx hb hX hbl hbA hS (lw_in hi hL (j := 1) (by decide) rfl) dL_law_382 ?_
  refine lv_aload_n hx hb dL_law_383 rfl (lv_at hl 0 rfl) ?_
  refine lv_iload_n hx hb dL_law_384 rfl (lv_at hl 3 rfl) ?_
  refine lv_iconst (v := 2) hx hb dL_law_385 (by decide) ?_
  refine lv_iadd hx hb dL_law_386 ?_
  refine va_sld hx hb hX hbl hbA hS (lw_in hi hL (j := 2) (by decide) rfl) dL_law_387 ?_
  refine lw_callV (d := 100) (rest := [.int r]) (st1 := [.int r, .int r]) ⟨hx, hb, hml, hown, hts⟩ hK (by decide) (by decide) hS hR hM2 yk_X7_witness in_X7_witness se_X7_witness ml_L_39 (lk_35 hLL1) rfl rfl (by omega) rfl hl.1 (Nat.le_of_ble_eq_true rfl) rfl rfl hc hz hq2.1 hq2.2.1 (by show _ ≤ 600000; omega) (by show _ ≤ 7302250; omega) dL_law_388 (fun H locs cells slots hc hz hR hS => ?_)
  refine lv_icmp_eq (tgt := 1087) hx hb dL_law_391 (by decide) (fun q => ?_) (fun q => absurd rfl q)
  exact hnext lay2 I2 J2 hI2 H locs cells slots ls hc hz hR hS hl
set_option maxRecDepth 100000 in
set_option maxHeartbeats 4000000 in
theorem law_6 {p : Program} {l : Launch} {e : Env} {s : State} {m : MethodId} {below : List Frame} {meth : Method} {c : Code} {E : ax_E} {B b L i : Nat} {xs : Nat → Int32} {Inv : Nat → List ax_S → ax_I → ax_J → Prop} (hL : L ≤ 448) (hi : i + 7 ≤ L) (C0 : lw_At p s m meth c b L xs) (hK : ax_K E s) (hB : B = s.heap.size) (hInv : ∀ lay I J, Inv B lay I J → ax_LL B lay) (hop : OpV Inv .int isI yX6_say cX6_say 2 yX7_say cX7_say 2 [.int (xs (nI i + 1).toNatClampNeg)]) (hnext : ∀ (lay : List ax_S) (I : ax_I) (J : ax_J), Inv B lay I J → AX p l e room_1 s m #[Value.ref b] below meth c E B 0 0 4 (lw_Z below #[Value.ref b] s) lay I J 1087 [(0, .ref b), (1, .ref (B + 0)), (2, .ref (B + 35)), (3, .int (nI i))] []) : ∀ (lay : List ax_S) (I : ax_I) (J : ax_J), Inv B lay I J → AX p l e room_1 s m #[Value.ref b] below meth c E B 0 0 4 (lw_Z below #[Value.ref b] s) lay I J 396 [(0, .ref b), (1, .ref (B + 0)), (2, .ref (B + 35)), (3, .int (nI i))] [] := by
  obtain ⟨hx, hb, hr, hml, hown, hts0, hX, hbl, hlocks, hgv⟩ := id C0
  have hown : s.vm.findClass RL = some m.cls := hown
  have hts : ∀ w ∈ ax_g, w.before #[Value.ref b] s = true := fun w hw => hts0 w (lw_tg hw)
  have hbA : ¬ (fun q : Nat => B ≤ q) b := by show ¬ B ≤ b; omega
  intro lay I J hI H locs cells slots ls hc hz hR hS hl
  have hLL := hInv lay I J hI
  obtain ⟨r, d1, d2, lay1, I1, J1, lay2, I2, J2, ⟨r, rfl⟩, hd1, hd2, hM1, hM2, hq1, hq2, hI2⟩ := hop l E B lay I J hI
  have hLL1 := hq1.2.2.2.2
  refine lv_aload_n hx hb dL_law_396 rfl (lv_at hl 1 rfl) ?_
  refine lv_aload_n hx hb dL_law_397 rfl (lv_at hl 0 rfl) ?_
  refine lv_iload_n hx hb dL_law_398 rfl (lv_at hl 3 rfl) ?_
  refine lv_iconst (v := 1) hx hb dL_law_399 (by decide) ?_
  refine lv_iadd hx hb dL_law_400 ?_
  refine va_sld hx hb hX hbl hbA hS (lw_in hi hL (j := 1) (by decide) rfl) dL_law_401 ?_
  refine lw_callV (d := 100) (rest := []) (st1 := [.int r]) ⟨hx, hb, hml, hown, hts⟩ hK (by decide) (by decide) hS hR hM1 yk_X6_say in_X6_say se_X6_say ml_L_40 (lk_0 hLL) rfl rfl (by omega) rfl hl.1 (Nat.le_of_ble_eq_true rfl) rfl rfl hc hz hq1.1 hq1.2.1 (by show _ ≤ 600000; omega) (by show _ ≤ 7302250; omega) dL_law_402 (fun H locs cells slots hc hz hR hS => ?_)
  refine lv_aload_n hx hb dL_law_405 rfl (lv_at hl 2 rfl) ?_
  refine lv_aload_n hx hb dL_law_406 rfl (lv_at hl 0 rfl) ?_
  refine lv_iload_n hx hb dL_law_407 rfl (lv_at hl 3 rfl) ?_
  refine lv_iconst (v := 1) hx hb dL_law_408 (by decide) ?_
  refine lv_iadd hx hb dL_law_409 ?_
  refine va_sld hx hb hX hbl hbA hS (lw_in hi hL (j := 1) (by decide) rfl) dL_law_410 ?_
  refine lw_callV (d := 100) (rest := [.int r]) (st1 := [.int r, .int r]) ⟨hx, hb, hml, hown, hts⟩ hK (by decide) (by decide) hS hR hM2 yk_X7_say in_X7_say se_X7_say ml_L_43 (lk_35 hLL1) rfl rfl (by omega) rfl hl.1 (Nat.le_of_ble_eq_true rfl) rfl rfl hc hz hq2.1 hq2.2.1 (by show _ ≤ 600000; omega) (by show _ ≤ 7302250; omega) dL_law_411 (fun H locs cells slots hc hz hR hS => ?_)
  refine lv_icmp_eq (tgt := 1087) hx hb dL_law_414 (by decide) (fun q => ?_) (fun q => absurd rfl q)
  exact hnext lay2 I2 J2 hI2 H locs cells slots ls hc hz hR hS hl
set_option maxRecDepth 100000 in
set_option maxHeartbeats 4000000 in
theorem law_7 {p : Program} {l : Launch} {e : Env} {s : State} {m : MethodId} {below : List Frame} {meth : Method} {c : Code} {E : ax_E} {B b L i : Nat} {xs : Nat → Int32} {Inv : Nat → List ax_S → ax_I → ax_J → Prop} (hL : L ≤ 448) (hi : i + 7 ≤ L) (C0 : lw_At p s m meth c b L xs) (hK : ax_K E s) (hB : B = s.heap.size) (hInv : ∀ lay I J, Inv B lay I J → ax_LL B lay) (hop : OpV Inv .int isI yX6_wipe cX6_wipe 2 yX7_wipe cX7_wipe 2 []) (hnext : ∀ (lay : List ax_S) (I : ax_I) (J : ax_J), Inv B lay I J → AX p l e room_1 s m #[Value.ref b] below meth c E B 0 0 4 (lw_Z below #[Value.ref b] s) lay I J 1087 [(0, .ref b), (1, .ref (B + 0)), (2, .ref (B + 35)), (3, .int (nI i))] []) : ∀ (lay : List ax_S) (I : ax_I) (J : ax_J), Inv B lay I J → AX p l e room_1 s m #[Value.ref b] below meth c E B 0 0 4 (lw_Z below #[Value.ref b] s) lay I J 419 [(0, .ref b), (1, .ref (B + 0)), (2, .ref (B + 35)), (3, .int (nI i))] [] := by
  obtain ⟨hx, hb, hr, hml, hown, hts0, hX, hbl, hlocks, hgv⟩ := id C0
  have hown : s.vm.findClass RL = some m.cls := hown
  have hts : ∀ w ∈ ax_g, w.before #[Value.ref b] s = true := fun w hw => hts0 w (lw_tg hw)
  have hbA : ¬ (fun q : Nat => B ≤ q) b := by show ¬ B ≤ b; omega
  intro lay I J hI H locs cells slots ls hc hz hR hS hl
  have hLL := hInv lay I J hI
  obtain ⟨r, d1, d2, lay1, I1, J1, lay2, I2, J2, ⟨r, rfl⟩, hd1, hd2, hM1, hM2, hq1, hq2, hI2⟩ := hop l E B lay I J hI
  have hLL1 := hq1.2.2.2.2
  refine lv_aload_n hx hb dL_law_419 rfl (lv_at hl 1 rfl) ?_
  refine lw_callV (d := 100) (rest := []) (st1 := [.int r]) ⟨hx, hb, hml, hown, hts⟩ hK (by decide) (by decide) hS hR hM1 yk_X6_wipe in_X6_wipe se_X6_wipe ml_L_44 (lk_0 hLL) rfl rfl (by omega) rfl hl.1 (Nat.le_of_ble_eq_true rfl) rfl rfl hc hz hq1.1 hq1.2.1 (by show _ ≤ 600000; omega) (by show _ ≤ 7302250; omega) dL_law_420 (fun H locs cells slots hc hz hR hS => ?_)
  refine lv_aload_n hx hb dL_law_423 rfl (lv_at hl 2 rfl) ?_
  refine lw_callV (d := 100) (rest := [.int r]) (st1 := [.int r, .int r]) ⟨hx, hb, hml, hown, hts⟩ hK (by decide) (by decide) hS hR hM2 yk_X7_wipe in_X7_wipe se_X7_wipe ml_L_48 (lk_35 hLL1) rfl rfl (by omega) rfl hl.1 (Nat.le_of_ble_eq_true rfl) rfl rfl hc hz hq2.1 hq2.2.1 (by show _ ≤ 600000; omega) (by show _ ≤ 7302250; omega) dL_law_424 (fun H locs cells slots hc hz hR hS => ?_)
  refine lv_icmp_eq (tgt := 1087) hx hb dL_law_427 (by decide) (fun q => ?_) (fun q => absurd rfl q)
  exact hnext lay2 I2 J2 hI2 H locs cells slots ls hc hz hR hS hl
set_option maxRecDepth 100000 in
set_option maxHeartbeats 4000000 in
theorem law_8 {p : Program} {l : Launch} {e : Env} {s : State} {m : MethodId} {below : List Frame} {meth : Method} {c : Code} {E : ax_E} {B b L i : Nat} {xs : Nat → Int32} {Inv : Nat → List ax_S → ax_I → ax_J → Prop} (hL : L ≤ 448) (hi : i + 7 ≤ L) (C0 : lw_At p s m meth c b L xs) (hK : ax_K E s) (hB : B = s.heap.size) (hInv : ∀ lay I J, Inv B lay I J → ax_LL B lay) (hop : OpV Inv .int isI yX6_fault cX6_fault 1 yX7_fault cX7_fault 3 []) (hnext : ∀ (lay : List ax_S) (I : ax_I) (J : ax_J), Inv B lay I J → AX p l e room_1 s m #[Value.ref b] below meth c E B 0 0 4 (lw_Z below #[Value.ref b] s) lay I J 1087 [(0, .ref b), (1, .ref (B + 0)), (2, .ref (B + 35)), (3, .int (nI i))] []) : ∀ (lay : List ax_S) (I : ax_I) (J : ax_J), Inv B lay I J → AX p l e room_1 s m #[Value.ref b] below meth c E B 0 0 4 (lw_Z below #[Value.ref b] s) lay I J 432 [(0, .ref b), (1, .ref (B + 0)), (2, .ref (B + 35)), (3, .int (nI i))] [] := by
  obtain ⟨hx, hb, hr, hml, hown, hts0, hX, hbl, hlocks, hgv⟩ := id C0
  have hown : s.vm.findClass RL = some m.cls := hown
  have hts : ∀ w ∈ ax_g, w.before #[Value.ref b] s = true := fun w hw => hts0 w (lw_tg hw)
  have hbA : ¬ (fun q : Nat => B ≤ q) b := by show ¬ B ≤ b; omega
  intro lay I J hI H locs cells slots ls hc hz hR hS hl
  have hLL := hInv lay I J hI
  obtain ⟨r, d1, d2, lay1, I1, J1, lay2, I2, J2, ⟨r, rfl⟩, hd1, hd2, hM1, hM2, hq1, hq2, hI2⟩ := hop l E B lay I J hI
  have hLL1 := hq1.2.2.2.2
  refine lv_aload_n hx hb dL_law_432 rfl (lv_at hl 1 rfl) ?_
  refine lw_callV (d := 100) (rest := []) (st1 := [.int r]) ⟨hx, hb, hml, hown, hts⟩ hK (by decide) (by decide) hS hR hM1 yk_X6_fault in_X6_fault se_X6_fault ml_L_49 (lk_0 hLL) rfl rfl (by omega) rfl hl.1 (Nat.le_of_ble_eq_true rfl) rfl rfl hc hz hq1.1 hq1.2.1 (by show _ ≤ 600000; omega) (by show _ ≤ 7302250; omega) dL_law_433 (fun H locs cells slots hc hz hR hS => ?_)
  refine lv_aload_n hx hb dL_law_436 rfl (lv_at hl 2 rfl) ?_
  refine lw_callV (d := 100) (rest := [.int r]) (st1 := [.int r, .int r]) ⟨hx, hb, hml, hown, hts⟩ hK (by decide) (by decide) hS hR hM2 yk_X7_fault in_X7_fault se_X7_fault ml_L_52 (lk_35 hLL1) rfl rfl (by omega) rfl hl.1 (Nat.le_of_ble_eq_true rfl) rfl rfl hc hz hq2.1 hq2.2.1 (by show _ ≤ 600000; omega) (by show _ ≤ 7302250; omega) dL_law_437 (fun H locs cells slots hc hz hR hS => ?_)
  refine lv_icmp_eq (tgt := 1087) hx hb dL_law_440 (by decide) (fun q => ?_) (fun q => absurd rfl q)
  exact hnext lay2 I2 J2 hI2 H locs cells slots ls hc hz hR hS hl
set_option maxRecDepth 100000 in
set_option maxHeartbeats 4000000 in
theorem law_9 {p : Program} {l : Launch} {e : Env} {s : State} {m : MethodId} {below : List Frame} {meth : Method} {c : Code} {E : ax_E} {B b L i : Nat} {xs : Nat → Int32} {Inv : Nat → List ax_S → ax_I → ax_J → Prop} (hL : L ≤ 448) (hi : i + 7 ≤ L) (C0 : lw_At p s m meth c b L xs) (hK : ax_K E s) (hB : B = s.heap.size) (hInv : ∀ lay I J, Inv B lay I J → ax_LL B lay) (hop : OpV Inv .int isI yX6_judge cX6_judge 3 yX7_judge cX7_judge 3 [.int (xs (nI i + 1).toNatClampNeg)]) (hnext : ∀ (lay : List ax_S) (I : ax_I) (J : ax_J), Inv B lay I J → AX p l e room_1 s m #[Value.ref b] below meth c E B 0 0 4 (lw_Z below #[Value.ref b] s) lay I J 1087 [(0, .ref b), (1, .ref (B + 0)), (2, .ref (B + 35)), (3, .int (nI i))] []) : ∀ (lay : List ax_S) (I : ax_I) (J : ax_J), Inv B lay I J → AX p l e room_1 s m #[Value.ref b] below meth c E B 0 0 4 (lw_Z below #[Value.ref b] s) lay I J 445 [(0, .ref b), (1, .ref (B + 0)), (2, .ref (B + 35)), (3, .int (nI i))] [] := by
  obtain ⟨hx, hb, hr, hml, hown, hts0, hX, hbl, hlocks, hgv⟩ := id C0
  have hown : s.vm.findClass RL = some m.cls := hown
  have hts : ∀ w ∈ ax_g, w.before #[Value.ref b] s = true := fun w hw => hts0 w (lw_tg hw)
  have hbA : ¬ (fun q : Nat => B ≤ q) b := by show ¬ B ≤ b; omega
  intro lay I J hI H locs cells slots ls hc hz hR hS hl
  have hLL := hInv lay I J hI
  obtain ⟨r, d1, d2, lay1, I1, J1, lay2, I2, J2, ⟨r, rfl⟩, hd1, hd2, hM1, hM2, hq1, hq2, hI2⟩ := hop l E B lay I J hI
  have hLL1 := hq1.2.2.2.2
  refine lv_aload_n hx hb dL_law_445 rfl (lv_at hl 1 rfl) ?_
  refine lv_aload_n hx hb dL_law_446 rfl (lv_at hl 0 rfl) ?_
  refine lv_iload_n hx hb dL_law_447 rfl (lv_at hl 3 rfl) ?_
  refine lv_iconst (v := 1) hx hb dL_law_448 (by decide) ?_
  refine lv_iadd hx hb dL_law_449 ?_
  refine va_sld hx hb hX hbl hbA hS (lw_in hi hL (j := 1) (by decide) rfl) dL_law_450 ?_
  refine lw_callV (d := 100) (rest := []) (st1 := [.int r]) ⟨hx, hb, hml, hown, hts⟩ hK (by decide) (by decide) hS hR hM1 yk_X6_judge in_X6_judge se_X6_judge ml_L_53 (lk_0 hLL) rfl rfl (by omega) rfl hl.1 (Nat.le_of_ble_eq_true rfl) rfl rfl hc hz hq1.1 hq1.2.1 (by show _ ≤ 600000; omega) (by show _ ≤ 7302250; omega) dL_law_451 (fun H locs cells slots hc hz hR hS => ?_)
  refine lv_aload_n hx hb dL_law_454 rfl (lv_at hl 2 rfl) ?_
  refine lv_aload_n hx hb dL_law_455 rfl (lv_at hl 0 rfl) ?_
  refine lv_iload_n hx hb dL_law_456 rfl (lv_at hl 3 rfl) ?_
  refine lv_iconst (v := 1) hx hb dL_law_457 (by decide) ?_
  refine lv_iadd hx hb dL_law_458 ?_
  refine va_sld hx hb hX hbl hbA hS (lw_in hi hL (j := 1) (by decide) rfl) dL_law_459 ?_
  refine lw_callV (d := 100) (rest := [.int r]) (st1 := [.int r, .int r]) ⟨hx, hb, hml, hown, hts⟩ hK (by decide) (by decide) hS hR hM2 yk_X7_judge in_X7_judge se_X7_judge ml_L_56 (lk_35 hLL1) rfl rfl (by omega) rfl hl.1 (Nat.le_of_ble_eq_true rfl) rfl rfl hc hz hq2.1 hq2.2.1 (by show _ ≤ 600000; omega) (by show _ ≤ 7302250; omega) dL_law_460 (fun H locs cells slots hc hz hR hS => ?_)
  refine lv_icmp_eq (tgt := 1087) hx hb dL_law_463 (by decide) (fun q => ?_) (fun q => absurd rfl q)
  exact hnext lay2 I2 J2 hI2 H locs cells slots ls hc hz hR hS hl
set_option maxRecDepth 100000 in
set_option maxHeartbeats 4000000 in
theorem law_10 {p : Program} {l : Launch} {e : Env} {s : State} {m : MethodId} {below : List Frame} {meth : Method} {c : Code} {E : ax_E} {B b L i : Nat} {xs : Nat → Int32} {Inv : Nat → List ax_S → ax_I → ax_J → Prop} (hL : L ≤ 448) (hi : i + 7 ≤ L) (C0 : lw_At p s m meth c b L xs) (hK : ax_K E s) (hB : B = s.heap.size) (hInv : ∀ lay I J, Inv B lay I J → ax_LL B lay) (hop : OpV Inv .int isI yX6_behind cX6_behind 4 yX7_behind cX7_behind 4 [.int (xs (nI i + 1).toNatClampNeg), .int (xs (nI i + 2).toNatClampNeg)]) (hnext : ∀ (lay : List ax_S) (I : ax_I) (J : ax_J), Inv B lay I J → AX p l e room_1 s m #[Value.ref b] below meth c E B 0 0 4 (lw_Z below #[Value.ref b] s) lay I J 1087 [(0, .ref b), (1, .ref (B + 0)), (2, .ref (B + 35)), (3, .int (nI i))] []) : ∀ (lay : List ax_S) (I : ax_I) (J : ax_J), Inv B lay I J → AX p l e room_1 s m #[Value.ref b] below meth c E B 0 0 4 (lw_Z below #[Value.ref b] s) lay I J 468 [(0, .ref b), (1, .ref (B + 0)), (2, .ref (B + 35)), (3, .int (nI i))] [] := by
  obtain ⟨hx, hb, hr, hml, hown, hts0, hX, hbl, hlocks, hgv⟩ := id C0
  have hown : s.vm.findClass RL = some m.cls := hown
  have hts : ∀ w ∈ ax_g, w.before #[Value.ref b] s = true := fun w hw => hts0 w (lw_tg hw)
  have hbA : ¬ (fun q : Nat => B ≤ q) b := by show ¬ B ≤ b; omega
  intro lay I J hI H locs cells slots ls hc hz hR hS hl
  have hLL := hInv lay I J hI
  obtain ⟨r, d1, d2, lay1, I1, J1, lay2, I2, J2, ⟨r, rfl⟩, hd1, hd2, hM1, hM2, hq1, hq2, hI2⟩ := hop l E B lay I J hI
  have hLL1 := hq1.2.2.2.2
  refine lv_aload_n hx hb dL_law_468 rfl (lv_at hl 1 rfl) ?_
  refine lv_aload_n hx hb dL_law_469 rfl (lv_at hl 0 rfl) ?_
  refine lv_iload_n hx hb dL_law_470 rfl (lv_at hl 3 rfl) ?_
  refine lv_iconst (v := 1) hx hb dL_law_471 (by decide) ?_
  refine lv_iadd hx hb dL_law_472 ?_
  refine va_sld hx hb hX hbl hbA hS (lw_in hi hL (j := 1) (by decide) rfl) dL_law_473 ?_
  refine lv_aload_n hx hb dL_law_474 rfl (lv_at hl 0 rfl) ?_
  refine lv_iload_n hx hb dL_law_475 rfl (lv_at hl 3 rfl) ?_
  refine lv_iconst (v := 2) hx hb dL_law_476 (by decide) ?_
  refine lv_iadd hx hb dL_law_477 ?_
  refine va_sld hx hb hX hbl hbA hS (lw_in hi hL (j := 2) (by decide) rfl) dL_law_478 ?_
  refine lw_callV (d := 100) (rest := []) (st1 := [.int r]) ⟨hx, hb, hml, hown, hts⟩ hK (by decide) (by decide) hS hR hM1 yk_X6_behind in_X6_behind se_X6_behind ml_L_57 (lk_0 hLL) rfl rfl (by omega) rfl hl.1 (Nat.le_of_ble_eq_true rfl) rfl rfl hc hz hq1.1 hq1.2.1 (by show _ ≤ 600000; omega) (by show _ ≤ 7302250; omega) dL_law_479 (fun H locs cells slots hc hz hR hS => ?_)
  refine lv_aload_n hx hb dL_law_482 rfl (lv_at hl 2 rfl) ?_
  refine lv_aload_n hx hb dL_law_483 rfl (lv_at hl 0 rfl) ?_
  refine lv_iload_n hx hb dL_law_484 rfl (lv_at hl 3 rfl) ?_
  refine lv_iconst (v := 1) hx hb dL_law_485 (by decide) ?_
  refine lv_iadd hx hb dL_law_486 ?_
  refine va_sld hx hb hX hbl hbA hS (lw_in hi hL (j := 1) (by decide) rfl) dL_law_487 ?_
  refine lv_aload_n hx hb dL_law_488 rfl (lv_at hl 0 rfl) ?_
  refine lv_iload_n hx hb dL_law_489 rfl (lv_at hl 3 rfl) ?_
  refine lv_iconst (v := 2) hx hb dL_law_490 (by decide) ?_
  refine lv_iadd hx hb dL_law_491 ?_
  refine va_sld hx hb hX hbl hbA hS (lw_in hi hL (j := 2) (by decide) rfl) dL_law_492 ?_
  refine lw_callV (d := 100) (rest := [.int r]) (st1 := [.int r, .int r]) ⟨hx, hb, hml, hown, hts⟩ hK (by decide) (by decide) hS hR hM2 yk_X7_behind in_X7_behind se_X7_behind ml_L_60 (lk_35 hLL1) rfl rfl (by omega) rfl hl.1 (Nat.le_of_ble_eq_true rfl) rfl rfl hc hz hq2.1 hq2.2.1 (by show _ ≤ 600000; omega) (by show _ ≤ 7302250; omega) dL_law_493 (fun H locs cells slots hc hz hR hS => ?_)
  refine lv_icmp_eq (tgt := 1087) hx hb dL_law_496 (by decide) (fun q => ?_) (fun q => absurd rfl q)
  exact hnext lay2 I2 J2 hI2 H locs cells slots ls hc hz hR hS hl
set_option maxRecDepth 100000 in
set_option maxHeartbeats 4000000 in
theorem law_11 {p : Program} {l : Launch} {e : Env} {s : State} {m : MethodId} {below : List Frame} {meth : Method} {c : Code} {E : ax_E} {B b L i : Nat} {xs : Nat → Int32} {Inv : Nat → List ax_S → ax_I → ax_J → Prop} (hL : L ≤ 448) (hi : i + 7 ≤ L) (C0 : lw_At p s m meth c b L xs) (hK : ax_K E s) (hB : B = s.heap.size) (hInv : ∀ lay I J, Inv B lay I J → ax_LL B lay) (hop : OpV Inv .int isI yX6_holds cX6_holds 4 yX7_holds cX7_holds 6 [.int (xs (nI i + 1).toNatClampNeg), .int (xs (nI i + 2).toNatClampNeg)]) (hnext : ∀ (lay : List ax_S) (I : ax_I) (J : ax_J), Inv B lay I J → AX p l e room_1 s m #[Value.ref b] below meth c E B 0 0 4 (lw_Z below #[Value.ref b] s) lay I J 1087 [(0, .ref b), (1, .ref (B + 0)), (2, .ref (B + 35)), (3, .int (nI i))] []) : ∀ (lay : List ax_S) (I : ax_I) (J : ax_J), Inv B lay I J → AX p l e room_1 s m #[Value.ref b] below meth c E B 0 0 4 (lw_Z below #[Value.ref b] s) lay I J 501 [(0, .ref b), (1, .ref (B + 0)), (2, .ref (B + 35)), (3, .int (nI i))] [] := by
  obtain ⟨hx, hb, hr, hml, hown, hts0, hX, hbl, hlocks, hgv⟩ := id C0
  have hown : s.vm.findClass RL = some m.cls := hown
  have hts : ∀ w ∈ ax_g, w.before #[Value.ref b] s = true := fun w hw => hts0 w (lw_tg hw)
  have hbA : ¬ (fun q : Nat => B ≤ q) b := by show ¬ B ≤ b; omega
  intro lay I J hI H locs cells slots ls hc hz hR hS hl
  have hLL := hInv lay I J hI
  obtain ⟨r, d1, d2, lay1, I1, J1, lay2, I2, J2, ⟨r, rfl⟩, hd1, hd2, hM1, hM2, hq1, hq2, hI2⟩ := hop l E B lay I J hI
  have hLL1 := hq1.2.2.2.2
  refine lv_aload_n hx hb dL_law_501 rfl (lv_at hl 1 rfl) ?_
  refine lv_aload_n hx hb dL_law_502 rfl (lv_at hl 0 rfl) ?_
  refine lv_iload_n hx hb dL_law_503 rfl (lv_at hl 3 rfl) ?_
  refine lv_iconst (v := 1) hx hb dL_law_504 (by decide) ?_
  refine lv_iadd hx hb dL_law_505 ?_
  refine va_sld hx hb hX hbl hbA hS (lw_in hi hL (j := 1) (by decide) rfl) dL_law_506 ?_
  refine lv_aload_n hx hb dL_law_507 rfl (lv_at hl 0 rfl) ?_
  refine lv_iload_n hx hb dL_law_508 rfl (lv_at hl 3 rfl) ?_
  refine lv_iconst (v := 2) hx hb dL_law_509 (by decide) ?_
  refine lv_iadd hx hb dL_law_510 ?_
  refine va_sld hx hb hX hbl hbA hS (lw_in hi hL (j := 2) (by decide) rfl) dL_law_511 ?_
  refine lw_callV (d := 100) (rest := []) (st1 := [.int r]) ⟨hx, hb, hml, hown, hts⟩ hK (by decide) (by decide) hS hR hM1 yk_X6_holds in_X6_holds se_X6_holds ml_L_61 (lk_0 hLL) rfl rfl (by omega) rfl hl.1 (Nat.le_of_ble_eq_true rfl) rfl rfl hc hz hq1.1 hq1.2.1 (by show _ ≤ 600000; omega) (by show _ ≤ 7302250; omega) dL_law_512 (fun H locs cells slots hc hz hR hS => ?_)
  refine lv_aload_n hx hb dL_law_515 rfl (lv_at hl 2 rfl) ?_
  refine lv_aload_n hx hb dL_law_516 rfl (lv_at hl 0 rfl) ?_
  refine lv_iload_n hx hb dL_law_517 rfl (lv_at hl 3 rfl) ?_
  refine lv_iconst (v := 1) hx hb dL_law_518 (by decide) ?_
  refine lv_iadd hx hb dL_law_519 ?_
  refine va_sld hx hb hX hbl hbA hS (lw_in hi hL (j := 1) (by decide) rfl) dL_law_520 ?_
  refine lv_aload_n hx hb dL_law_521 rfl (lv_at hl 0 rfl) ?_
  refine lv_iload_n hx hb dL_law_522 rfl (lv_at hl 3 rfl) ?_
  refine lv_iconst (v := 2) hx hb dL_law_523 (by decide) ?_
  refine lv_iadd hx hb dL_law_524 ?_
  refine va_sld hx hb hX hbl hbA hS (lw_in hi hL (j := 2) (by decide) rfl) dL_law_525 ?_
  refine lw_callV (d := 100) (rest := [.int r]) (st1 := [.int r, .int r]) ⟨hx, hb, hml, hown, hts⟩ hK (by decide) (by decide) hS hR hM2 yk_X7_holds in_X7_holds se_X7_holds ml_L_64 (lk_35 hLL1) rfl rfl (by omega) rfl hl.1 (Nat.le_of_ble_eq_true rfl) rfl rfl hc hz hq2.1 hq2.2.1 (by show _ ≤ 600000; omega) (by show _ ≤ 7302250; omega) dL_law_526 (fun H locs cells slots hc hz hR hS => ?_)
  refine lv_icmp_eq (tgt := 1087) hx hb dL_law_529 (by decide) (fun q => ?_) (fun q => absurd rfl q)
  exact hnext lay2 I2 J2 hI2 H locs cells slots ls hc hz hR hS hl
set_option maxRecDepth 100000 in
set_option maxHeartbeats 4000000 in
theorem law_12 {p : Program} {l : Launch} {e : Env} {s : State} {m : MethodId} {below : List Frame} {meth : Method} {c : Code} {E : ax_E} {B b L i : Nat} {xs : Nat → Int32} {Inv : Nat → List ax_S → ax_I → ax_J → Prop} (hL : L ≤ 448) (hi : i + 7 ≤ L) (C0 : lw_At p s m meth c b L xs) (hK : ax_K E s) (hB : B = s.heap.size) (hInv : ∀ lay I J, Inv B lay I J → ax_LL B lay) (hop : OpV Inv .int isI yX6_wrong cX6_wrong 3 yX7_wrong cX7_wrong 3 [.int (xs (nI i + 1).toNatClampNeg)]) (hnext : ∀ (lay : List ax_S) (I : ax_I) (J : ax_J), Inv B lay I J → AX p l e room_1 s m #[Value.ref b] below meth c E B 0 0 4 (lw_Z below #[Value.ref b] s) lay I J 1087 [(0, .ref b), (1, .ref (B + 0)), (2, .ref (B + 35)), (3, .int (nI i))] []) : ∀ (lay : List ax_S) (I : ax_I) (J : ax_J), Inv B lay I J → AX p l e room_1 s m #[Value.ref b] below meth c E B 0 0 4 (lw_Z below #[Value.ref b] s) lay I J 534 [(0, .ref b), (1, .ref (B + 0)), (2, .ref (B + 35)), (3, .int (nI i))] [] := by
  obtain ⟨hx, hb, hr, hml, hown, hts0, hX, hbl, hlocks, hgv⟩ := id C0
  have hown : s.vm.findClass RL = some m.cls := hown
  have hts : ∀ w ∈ ax_g, w.before #[Value.ref b] s = true := fun w hw => hts0 w (lw_tg hw)
  have hbA : ¬ (fun q : Nat => B ≤ q) b := by show ¬ B ≤ b; omega
  intro lay I J hI H locs cells slots ls hc hz hR hS hl
  have hLL := hInv lay I J hI
  obtain ⟨r, d1, d2, lay1, I1, J1, lay2, I2, J2, ⟨r, rfl⟩, hd1, hd2, hM1, hM2, hq1, hq2, hI2⟩ := hop l E B lay I J hI
  have hLL1 := hq1.2.2.2.2
  refine lv_aload_n hx hb dL_law_534 rfl (lv_at hl 1 rfl) ?_
  refine lv_aload_n hx hb dL_law_535 rfl (lv_at hl 0 rfl) ?_
  refine lv_iload_n hx hb dL_law_536 rfl (lv_at hl 3 rfl) ?_
  refine lv_iconst (v := 1) hx hb dL_law_537 (by decide) ?_
  refine lv_iadd hx hb dL_law_538 ?_
  refine va_sld hx hb hX hbl hbA hS (lw_in hi hL (j := 1) (by decide) rfl) dL_law_539 ?_
  refine lw_callV (d := 100) (rest := []) (st1 := [.int r]) ⟨hx, hb, hml, hown, hts⟩ hK (by decide) (by decide) hS hR hM1 yk_X6_wrong in_X6_wrong se_X6_wrong ml_L_65 (lk_0 hLL) rfl rfl (by omega) rfl hl.1 (Nat.le_of_ble_eq_true rfl) rfl rfl hc hz hq1.1 hq1.2.1 (by show _ ≤ 600000; omega) (by show _ ≤ 7302250; omega) dL_law_540 (fun H locs cells slots hc hz hR hS => ?_)
  refine lv_aload_n hx hb dL_law_543 rfl (lv_at hl 2 rfl) ?_
  refine lv_aload_n hx hb dL_law_544 rfl (lv_at hl 0 rfl) ?_
  refine lv_iload_n hx hb dL_law_545 rfl (lv_at hl 3 rfl) ?_
  refine lv_iconst (v := 1) hx hb dL_law_546 (by decide) ?_
  refine lv_iadd hx hb dL_law_547 ?_
  refine va_sld hx hb hX hbl hbA hS (lw_in hi hL (j := 1) (by decide) rfl) dL_law_548 ?_
  refine lw_callV (d := 100) (rest := [.int r]) (st1 := [.int r, .int r]) ⟨hx, hb, hml, hown, hts⟩ hK (by decide) (by decide) hS hR hM2 yk_X7_wrong in_X7_wrong se_X7_wrong ml_L_68 (lk_35 hLL1) rfl rfl (by omega) rfl hl.1 (Nat.le_of_ble_eq_true rfl) rfl rfl hc hz hq2.1 hq2.2.1 (by show _ ≤ 600000; omega) (by show _ ≤ 7302250; omega) dL_law_549 (fun H locs cells slots hc hz hR hS => ?_)
  refine lv_icmp_eq (tgt := 1087) hx hb dL_law_552 (by decide) (fun q => ?_) (fun q => absurd rfl q)
  exact hnext lay2 I2 J2 hI2 H locs cells slots ls hc hz hR hS hl
set_option maxRecDepth 100000 in
set_option maxHeartbeats 4000000 in
theorem law_13 {p : Program} {l : Launch} {e : Env} {s : State} {m : MethodId} {below : List Frame} {meth : Method} {c : Code} {E : ax_E} {B b L i : Nat} {xs : Nat → Int32} {Inv : Nat → List ax_S → ax_I → ax_J → Prop} (hL : L ≤ 448) (hi : i + 7 ≤ L) (C0 : lw_At p s m meth c b L xs) (hK : ax_K E s) (hB : B = s.heap.size) (hInv : ∀ lay I J, Inv B lay I J → ax_LL B lay) (hop : OpV Inv .int isI yX6_done cX6_done 2 yX7_done cX7_done 2 []) (hnext : ∀ (lay : List ax_S) (I : ax_I) (J : ax_J), Inv B lay I J → AX p l e room_1 s m #[Value.ref b] below meth c E B 0 0 4 (lw_Z below #[Value.ref b] s) lay I J 1087 [(0, .ref b), (1, .ref (B + 0)), (2, .ref (B + 35)), (3, .int (nI i))] []) : ∀ (lay : List ax_S) (I : ax_I) (J : ax_J), Inv B lay I J → AX p l e room_1 s m #[Value.ref b] below meth c E B 0 0 4 (lw_Z below #[Value.ref b] s) lay I J 557 [(0, .ref b), (1, .ref (B + 0)), (2, .ref (B + 35)), (3, .int (nI i))] [] := by
  obtain ⟨hx, hb, hr, hml, hown, hts0, hX, hbl, hlocks, hgv⟩ := id C0
  have hown : s.vm.findClass RL = some m.cls := hown
  have hts : ∀ w ∈ ax_g, w.before #[Value.ref b] s = true := fun w hw => hts0 w (lw_tg hw)
  have hbA : ¬ (fun q : Nat => B ≤ q) b := by show ¬ B ≤ b; omega
  intro lay I J hI H locs cells slots ls hc hz hR hS hl
  have hLL := hInv lay I J hI
  obtain ⟨r, d1, d2, lay1, I1, J1, lay2, I2, J2, ⟨r, rfl⟩, hd1, hd2, hM1, hM2, hq1, hq2, hI2⟩ := hop l E B lay I J hI
  have hLL1 := hq1.2.2.2.2
  refine lv_aload_n hx hb dL_law_557 rfl (lv_at hl 1 rfl) ?_
  refine lw_callV (d := 100) (rest := []) (st1 := [.int r]) ⟨hx, hb, hml, hown, hts⟩ hK (by decide) (by decide) hS hR hM1 yk_X6_done in_X6_done se_X6_done ml_L_69 (lk_0 hLL) rfl rfl (by omega) rfl hl.1 (Nat.le_of_ble_eq_true rfl) rfl rfl hc hz hq1.1 hq1.2.1 (by show _ ≤ 600000; omega) (by show _ ≤ 7302250; omega) dL_law_558 (fun H locs cells slots hc hz hR hS => ?_)
  refine lv_aload_n hx hb dL_law_561 rfl (lv_at hl 2 rfl) ?_
  refine lw_callV (d := 100) (rest := [.int r]) (st1 := [.int r, .int r]) ⟨hx, hb, hml, hown, hts⟩ hK (by decide) (by decide) hS hR hM2 yk_X7_done in_X7_done se_X7_done ml_L_72 (lk_35 hLL1) rfl rfl (by omega) rfl hl.1 (Nat.le_of_ble_eq_true rfl) rfl rfl hc hz hq2.1 hq2.2.1 (by show _ ≤ 600000; omega) (by show _ ≤ 7302250; omega) dL_law_562 (fun H locs cells slots hc hz hR hS => ?_)
  refine lv_icmp_eq (tgt := 1087) hx hb dL_law_565 (by decide) (fun q => ?_) (fun q => absurd rfl q)
  exact hnext lay2 I2 J2 hI2 H locs cells slots ls hc hz hR hS hl
set_option maxRecDepth 100000 in
set_option maxHeartbeats 4000000 in
theorem law_14 {p : Program} {l : Launch} {e : Env} {s : State} {m : MethodId} {below : List Frame} {meth : Method} {c : Code} {E : ax_E} {B b L i : Nat} {xs : Nat → Int32} {Inv : Nat → List ax_S → ax_I → ax_J → Prop} (hL : L ≤ 448) (hi : i + 7 ≤ L) (C0 : lw_At p s m meth c b L xs) (hK : ax_K E s) (hB : B = s.heap.size) (hInv : ∀ lay I J, Inv B lay I J → ax_LL B lay) (hop : OpV Inv .int isI yX6_saints cX6_saints 1 yX7_saints cX7_saints 3 []) (hnext : ∀ (lay : List ax_S) (I : ax_I) (J : ax_J), Inv B lay I J → AX p l e room_1 s m #[Value.ref b] below meth c E B 0 0 4 (lw_Z below #[Value.ref b] s) lay I J 1087 [(0, .ref b), (1, .ref (B + 0)), (2, .ref (B + 35)), (3, .int (nI i))] []) : ∀ (lay : List ax_S) (I : ax_I) (J : ax_J), Inv B lay I J → AX p l e room_1 s m #[Value.ref b] below meth c E B 0 0 4 (lw_Z below #[Value.ref b] s) lay I J 570 [(0, .ref b), (1, .ref (B + 0)), (2, .ref (B + 35)), (3, .int (nI i))] [] := by
  obtain ⟨hx, hb, hr, hml, hown, hts0, hX, hbl, hlocks, hgv⟩ := id C0
  have hown : s.vm.findClass RL = some m.cls := hown
  have hts : ∀ w ∈ ax_g, w.before #[Value.ref b] s = true := fun w hw => hts0 w (lw_tg hw)
  have hbA : ¬ (fun q : Nat => B ≤ q) b := by show ¬ B ≤ b; omega
  intro lay I J hI H locs cells slots ls hc hz hR hS hl
  have hLL := hInv lay I J hI
  obtain ⟨r, d1, d2, lay1, I1, J1, lay2, I2, J2, ⟨r, rfl⟩, hd1, hd2, hM1, hM2, hq1, hq2, hI2⟩ := hop l E B lay I J hI
  have hLL1 := hq1.2.2.2.2
  refine lv_aload_n hx hb dL_law_570 rfl (lv_at hl 1 rfl) ?_
  refine lw_callV (d := 100) (rest := []) (st1 := [.int r]) ⟨hx, hb, hml, hown, hts⟩ hK (by decide) (by decide) hS hR hM1 yk_X6_saints in_X6_saints se_X6_saints ml_L_73 (lk_0 hLL) rfl rfl (by omega) rfl hl.1 (Nat.le_of_ble_eq_true rfl) rfl rfl hc hz hq1.1 hq1.2.1 (by show _ ≤ 600000; omega) (by show _ ≤ 7302250; omega) dL_law_571 (fun H locs cells slots hc hz hR hS => ?_)
  refine lv_aload_n hx hb dL_law_574 rfl (lv_at hl 2 rfl) ?_
  refine lw_callV (d := 100) (rest := [.int r]) (st1 := [.int r, .int r]) ⟨hx, hb, hml, hown, hts⟩ hK (by decide) (by decide) hS hR hM2 yk_X7_saints in_X7_saints se_X7_saints ml_L_76 (lk_35 hLL1) rfl rfl (by omega) rfl hl.1 (Nat.le_of_ble_eq_true rfl) rfl rfl hc hz hq2.1 hq2.2.1 (by show _ ≤ 600000; omega) (by show _ ≤ 7302250; omega) dL_law_575 (fun H locs cells slots hc hz hR hS => ?_)
  refine lv_icmp_eq (tgt := 1087) hx hb dL_law_578 (by decide) (fun q => ?_) (fun q => absurd rfl q)
  exact hnext lay2 I2 J2 hI2 H locs cells slots ls hc hz hR hS hl
set_option maxRecDepth 100000 in
set_option maxHeartbeats 4000000 in
theorem law_15 {p : Program} {l : Launch} {e : Env} {s : State} {m : MethodId} {below : List Frame} {meth : Method} {c : Code} {E : ax_E} {B b L i : Nat} {xs : Nat → Int32} {Inv : Nat → List ax_S → ax_I → ax_J → Prop} (hL : L ≤ 448) (hi : i + 7 ≤ L) (C0 : lw_At p s m meth c b L xs) (hK : ax_K E s) (hB : B = s.heap.size) (hInv : ∀ lay I J, Inv B lay I J → ax_LL B lay) (hop : OpV Inv .int isI yX6_lacks cX6_lacks 2 yX7_lacks cX7_lacks 2 [.int (xs (nI i + 1).toNatClampNeg)]) (hnext : ∀ (lay : List ax_S) (I : ax_I) (J : ax_J), Inv B lay I J → AX p l e room_1 s m #[Value.ref b] below meth c E B 0 0 4 (lw_Z below #[Value.ref b] s) lay I J 1087 [(0, .ref b), (1, .ref (B + 0)), (2, .ref (B + 35)), (3, .int (nI i))] []) : ∀ (lay : List ax_S) (I : ax_I) (J : ax_J), Inv B lay I J → AX p l e room_1 s m #[Value.ref b] below meth c E B 0 0 4 (lw_Z below #[Value.ref b] s) lay I J 583 [(0, .ref b), (1, .ref (B + 0)), (2, .ref (B + 35)), (3, .int (nI i))] [] := by
  obtain ⟨hx, hb, hr, hml, hown, hts0, hX, hbl, hlocks, hgv⟩ := id C0
  have hown : s.vm.findClass RL = some m.cls := hown
  have hts : ∀ w ∈ ax_g, w.before #[Value.ref b] s = true := fun w hw => hts0 w (lw_tg hw)
  have hbA : ¬ (fun q : Nat => B ≤ q) b := by show ¬ B ≤ b; omega
  intro lay I J hI H locs cells slots ls hc hz hR hS hl
  have hLL := hInv lay I J hI
  obtain ⟨r, d1, d2, lay1, I1, J1, lay2, I2, J2, ⟨r, rfl⟩, hd1, hd2, hM1, hM2, hq1, hq2, hI2⟩ := hop l E B lay I J hI
  have hLL1 := hq1.2.2.2.2
  refine lv_aload_n hx hb dL_law_583 rfl (lv_at hl 1 rfl) ?_
  refine lv_aload_n hx hb dL_law_584 rfl (lv_at hl 0 rfl) ?_
  refine lv_iload_n hx hb dL_law_585 rfl (lv_at hl 3 rfl) ?_
  refine lv_iconst (v := 1) hx hb dL_law_586 (by decide) ?_
  refine lv_iadd hx hb dL_law_587 ?_
  refine va_sld hx hb hX hbl hbA hS (lw_in hi hL (j := 1) (by decide) rfl) dL_law_588 ?_
  refine lw_callV (d := 100) (rest := []) (st1 := [.int r]) ⟨hx, hb, hml, hown, hts⟩ hK (by decide) (by decide) hS hR hM1 yk_X6_lacks in_X6_lacks se_X6_lacks ml_L_77 (lk_0 hLL) rfl rfl (by omega) rfl hl.1 (Nat.le_of_ble_eq_true rfl) rfl rfl hc hz hq1.1 hq1.2.1 (by show _ ≤ 600000; omega) (by show _ ≤ 7302250; omega) dL_law_589 (fun H locs cells slots hc hz hR hS => ?_)
  refine lv_aload_n hx hb dL_law_592 rfl (lv_at hl 2 rfl) ?_
  refine lv_aload_n hx hb dL_law_593 rfl (lv_at hl 0 rfl) ?_
  refine lv_iload_n hx hb dL_law_594 rfl (lv_at hl 3 rfl) ?_
  refine lv_iconst (v := 1) hx hb dL_law_595 (by decide) ?_
  refine lv_iadd hx hb dL_law_596 ?_
  refine va_sld hx hb hX hbl hbA hS (lw_in hi hL (j := 1) (by decide) rfl) dL_law_597 ?_
  refine lw_callV (d := 100) (rest := [.int r]) (st1 := [.int r, .int r]) ⟨hx, hb, hml, hown, hts⟩ hK (by decide) (by decide) hS hR hM2 yk_X7_lacks in_X7_lacks se_X7_lacks ml_L_80 (lk_35 hLL1) rfl rfl (by omega) rfl hl.1 (Nat.le_of_ble_eq_true rfl) rfl rfl hc hz hq2.1 hq2.2.1 (by show _ ≤ 600000; omega) (by show _ ≤ 7302250; omega) dL_law_598 (fun H locs cells slots hc hz hR hS => ?_)
  refine lv_icmp_eq (tgt := 1087) hx hb dL_law_601 (by decide) (fun q => ?_) (fun q => absurd rfl q)
  exact hnext lay2 I2 J2 hI2 H locs cells slots ls hc hz hR hS hl
set_option maxRecDepth 100000 in
set_option maxHeartbeats 4000000 in
theorem law_16 {p : Program} {l : Launch} {e : Env} {s : State} {m : MethodId} {below : List Frame} {meth : Method} {c : Code} {E : ax_E} {B b L i : Nat} {xs : Nat → Int32} {Inv : Nat → List ax_S → ax_I → ax_J → Prop} (hL : L ≤ 448) (hi : i + 7 ≤ L) (C0 : lw_At p s m meth c b L xs) (hK : ax_K E s) (hB : B = s.heap.size) (hInv : ∀ lay I J, Inv B lay I J → ax_LL B lay) (hop : OpV Inv .long isL yX6_odds cX6_odds 14 yX7_odds cX7_odds 15 [.int (xs (nI i + 1).toNatClampNeg), .int (xs (nI i + 2).toNatClampNeg), .int (xs (nI i + 3).toNatClampNeg), .int (xs (nI i + 4).toNatClampNeg), .int (xs (nI i + 5).toNatClampNeg), .int (xs (nI i + 6).toNatClampNeg)]) (hnext : ∀ (lay : List ax_S) (I : ax_I) (J : ax_J), Inv B lay I J → AX p l e room_1 s m #[Value.ref b] below meth c E B 0 0 4 (lw_Z below #[Value.ref b] s) lay I J 1087 [(0, .ref b), (1, .ref (B + 0)), (2, .ref (B + 35)), (3, .int (nI i))] []) : ∀ (lay : List ax_S) (I : ax_I) (J : ax_J), Inv B lay I J → AX p l e room_1 s m #[Value.ref b] below meth c E B 0 0 4 (lw_Z below #[Value.ref b] s) lay I J 606 [(0, .ref b), (1, .ref (B + 0)), (2, .ref (B + 35)), (3, .int (nI i))] [] := by
  obtain ⟨hx, hb, hr, hml, hown, hts0, hX, hbl, hlocks, hgv⟩ := id C0
  have hown : s.vm.findClass RL = some m.cls := hown
  have hts : ∀ w ∈ ax_g, w.before #[Value.ref b] s = true := fun w hw => hts0 w (lw_tg hw)
  have hbA : ¬ (fun q : Nat => B ≤ q) b := by show ¬ B ≤ b; omega
  intro lay I J hI H locs cells slots ls hc hz hR hS hl
  have hLL := hInv lay I J hI
  obtain ⟨r, d1, d2, lay1, I1, J1, lay2, I2, J2, ⟨r, rfl⟩, hd1, hd2, hM1, hM2, hq1, hq2, hI2⟩ := hop l E B lay I J hI
  have hLL1 := hq1.2.2.2.2
  refine lv_aload_n hx hb dL_law_606 rfl (lv_at hl 1 rfl) ?_
  refine lv_aload_n hx hb dL_law_607 rfl (lv_at hl 0 rfl) ?_
  refine lv_iload_n hx hb dL_law_608 rfl (lv_at hl 3 rfl) ?_
  refine lv_iconst (v := 1) hx hb dL_law_609 (by decide) ?_
  refine lv_iadd hx hb dL_law_610 ?_
  refine va_sld hx hb hX hbl hbA hS (lw_in hi hL (j := 1) (by decide) rfl) dL_law_611 ?_
  refine lv_aload_n hx hb dL_law_612 rfl (lv_at hl 0 rfl) ?_
  refine lv_iload_n hx hb dL_law_613 rfl (lv_at hl 3 rfl) ?_
  refine lv_iconst (v := 2) hx hb dL_law_614 (by decide) ?_
  refine lv_iadd hx hb dL_law_615 ?_
  refine va_sld hx hb hX hbl hbA hS (lw_in hi hL (j := 2) (by decide) rfl) dL_law_616 ?_
  refine lv_aload_n hx hb dL_law_617 rfl (lv_at hl 0 rfl) ?_
  refine lv_iload_n hx hb dL_law_618 rfl (lv_at hl 3 rfl) ?_
  refine lv_iconst (v := 3) hx hb dL_law_619 (by decide) ?_
  refine lv_iadd hx hb dL_law_620 ?_
  refine va_sld hx hb hX hbl hbA hS (lw_in hi hL (j := 3) (by decide) rfl) dL_law_621 ?_
  refine lv_aload_n hx hb dL_law_622 rfl (lv_at hl 0 rfl) ?_
  refine lv_iload_n hx hb dL_law_623 rfl (lv_at hl 3 rfl) ?_
  refine lv_iconst (v := 4) hx hb dL_law_624 (by decide) ?_
  refine lv_iadd hx hb dL_law_625 ?_
  refine va_sld hx hb hX hbl hbA hS (lw_in hi hL (j := 4) (by decide) rfl) dL_law_626 ?_
  refine lv_aload_n hx hb dL_law_627 rfl (lv_at hl 0 rfl) ?_
  refine lv_iload_n hx hb dL_law_628 rfl (lv_at hl 3 rfl) ?_
  refine lv_iconst (v := 5) hx hb dL_law_629 (by decide) ?_
  refine lv_iadd hx hb dL_law_630 ?_
  refine va_sld hx hb hX hbl hbA hS (lw_in hi hL (j := 5) (by decide) rfl) dL_law_631 ?_
  refine lv_aload_n hx hb dL_law_632 rfl (lv_at hl 0 rfl) ?_
  refine lv_iload_n hx hb dL_law_633 rfl (lv_at hl 3 rfl) ?_
  refine lv_bipush (v := 6) hx hb dL_law_634 (by decide) ?_
  refine lv_iadd hx hb dL_law_636 ?_
  refine va_sld hx hb hX hbl hbA hS (lw_in hi hL (j := 6) (by decide) rfl) dL_law_637 ?_
  refine lw_callV (d := 100) (rest := []) (st1 := [.long r]) ⟨hx, hb, hml, hown, hts⟩ hK (by decide) (by decide) hS hR hM1 yk_X6_odds in_X6_odds se_X6_odds ml_L_81 (lk_0 hLL) rfl rfl (by omega) rfl hl.1 (Nat.le_of_ble_eq_true rfl) rfl rfl hc hz hq1.1 hq1.2.1 (by show _ ≤ 600000; omega) (by show _ ≤ 7302250; omega) dL_law_638 (fun H locs cells slots hc hz hR hS => ?_)
  refine lv_aload_n hx hb dL_law_641 rfl (lv_at hl 2 rfl) ?_
  refine lv_aload_n hx hb dL_law_642 rfl (lv_at hl 0 rfl) ?_
  refine lv_iload_n hx hb dL_law_643 rfl (lv_at hl 3 rfl) ?_
  refine lv_iconst (v := 1) hx hb dL_law_644 (by decide) ?_
  refine lv_iadd hx hb dL_law_645 ?_
  refine va_sld hx hb hX hbl hbA hS (lw_in hi hL (j := 1) (by decide) rfl) dL_law_646 ?_
  refine lv_aload_n hx hb dL_law_647 rfl (lv_at hl 0 rfl) ?_
  refine lv_iload_n hx hb dL_law_648 rfl (lv_at hl 3 rfl) ?_
  refine lv_iconst (v := 2) hx hb dL_law_649 (by decide) ?_
  refine lv_iadd hx hb dL_law_650 ?_
  refine va_sld hx hb hX hbl hbA hS (lw_in hi hL (j := 2) (by decide) rfl) dL_law_651 ?_
  refine lv_aload_n hx hb dL_law_652 rfl (lv_at hl 0 rfl) ?_
  refine lv_iload_n hx hb dL_law_653 rfl (lv_at hl 3 rfl) ?_
  refine lv_iconst (v := 3) hx hb dL_law_654 (by decide) ?_
  refine lv_iadd hx hb dL_law_655 ?_
  refine va_sld hx hb hX hbl hbA hS (lw_in hi hL (j := 3) (by decide) rfl) dL_law_656 ?_
  refine lv_aload_n hx hb dL_law_657 rfl (lv_at hl 0 rfl) ?_
  refine lv_iload_n hx hb dL_law_658 rfl (lv_at hl 3 rfl) ?_
  refine lv_iconst (v := 4) hx hb dL_law_659 (by decide) ?_
  refine lv_iadd hx hb dL_law_660 ?_
  refine va_sld hx hb hX hbl hbA hS (lw_in hi hL (j := 4) (by decide) rfl) dL_law_661 ?_
  refine lv_aload_n hx hb dL_law_662 rfl (lv_at hl 0 rfl) ?_
  refine lv_iload_n hx hb dL_law_663 rfl (lv_at hl 3 rfl) ?_
  refine lv_iconst (v := 5) hx hb dL_law_664 (by decide) ?_
  refine lv_iadd hx hb dL_law_665 ?_
  refine va_sld hx hb hX hbl hbA hS (lw_in hi hL (j := 5) (by decide) rfl) dL_law_666 ?_
  refine lv_aload_n hx hb dL_law_667 rfl (lv_at hl 0 rfl) ?_
  refine lv_iload_n hx hb dL_law_668 rfl (lv_at hl 3 rfl) ?_
  refine lv_bipush (v := 6) hx hb dL_law_669 (by decide) ?_
  refine lv_iadd hx hb dL_law_671 ?_
  refine va_sld hx hb hX hbl hbA hS (lw_in hi hL (j := 6) (by decide) rfl) dL_law_672 ?_
  refine lw_callV (d := 100) (rest := [.long r]) (st1 := [.long r, .long r]) ⟨hx, hb, hml, hown, hts⟩ hK (by decide) (by decide) hS hR hM2 yk_X7_odds in_X7_odds se_X7_odds ml_L_85 (lk_35 hLL1) rfl rfl (by omega) rfl hl.1 (Nat.le_of_ble_eq_true rfl) rfl rfl hc hz hq2.1 hq2.2.1 (by show _ ≤ 600000; omega) (by show _ ≤ 7302250; omega) dL_law_673 (fun H locs cells slots hc hz hR hS => ?_)
  refine W.lcmp hx hb dL_law_676 ?_
  refine lv_if_eq (tgt := 1087) hx hb dL_law_677 (by decide) (fun q => ?_) (fun q => absurd (by simp [lg_cmp]) q)
  exact hnext lay2 I2 J2 hI2 H locs cells slots ls hc hz hR hS hl
set_option maxRecDepth 100000 in
set_option maxHeartbeats 4000000 in
theorem law_17 {p : Program} {l : Launch} {e : Env} {s : State} {m : MethodId} {below : List Frame} {meth : Method} {c : Code} {E : ax_E} {B b L i : Nat} {xs : Nat → Int32} {Inv : Nat → List ax_S → ax_I → ax_J → Prop} (hL : L ≤ 448) (hi : i + 7 ≤ L) (C0 : lw_At p s m meth c b L xs) (hK : ax_K E s) (hB : B = s.heap.size) (hInv : ∀ lay I J, Inv B lay I J → ax_LL B lay) (hop : OpV Inv .int isI yX6_back cX6_back 8 yX7_back cX7_back 6 [.int (xs (nI i + 1).toNatClampNeg), .int (xs (nI i + 2).toNatClampNeg)]) (hnext : ∀ (lay : List ax_S) (I : ax_I) (J : ax_J), Inv B lay I J → AX p l e room_1 s m #[Value.ref b] below meth c E B 0 0 4 (lw_Z below #[Value.ref b] s) lay I J 1087 [(0, .ref b), (1, .ref (B + 0)), (2, .ref (B + 35)), (3, .int (nI i))] []) : ∀ (lay : List ax_S) (I : ax_I) (J : ax_J), Inv B lay I J → AX p l e room_1 s m #[Value.ref b] below meth c E B 0 0 4 (lw_Z below #[Value.ref b] s) lay I J 682 [(0, .ref b), (1, .ref (B + 0)), (2, .ref (B + 35)), (3, .int (nI i))] [] := by
  obtain ⟨hx, hb, hr, hml, hown, hts0, hX, hbl, hlocks, hgv⟩ := id C0
  have hown : s.vm.findClass RL = some m.cls := hown
  have hts : ∀ w ∈ ax_g, w.before #[Value.ref b] s = true := fun w hw => hts0 w (lw_tg hw)
  have hbA : ¬ (fun q : Nat => B ≤ q) b := by show ¬ B ≤ b; omega
  intro lay I J hI H locs cells slots ls hc hz hR hS hl
  have hLL := hInv lay I J hI
  obtain ⟨r, d1, d2, lay1, I1, J1, lay2, I2, J2, ⟨r, rfl⟩, hd1, hd2, hM1, hM2, hq1, hq2, hI2⟩ := hop l E B lay I J hI
  have hLL1 := hq1.2.2.2.2
  refine lv_aload_n hx hb dL_law_682 rfl (lv_at hl 1 rfl) ?_
  refine lv_aload_n hx hb dL_law_683 rfl (lv_at hl 0 rfl) ?_
  refine lv_iload_n hx hb dL_law_684 rfl (lv_at hl 3 rfl) ?_
  refine lv_iconst (v := 1) hx hb dL_law_685 (by decide) ?_
  refine lv_iadd hx hb dL_law_686 ?_
  refine va_sld hx hb hX hbl hbA hS (lw_in hi hL (j := 1) (by decide) rfl) dL_law_687 ?_
  refine lv_aload_n hx hb dL_law_688 rfl (lv_at hl 0 rfl) ?_
  refine lv_iload_n hx hb dL_law_689 rfl (lv_at hl 3 rfl) ?_
  refine lv_iconst (v := 2) hx hb dL_law_690 (by decide) ?_
  refine lv_iadd hx hb dL_law_691 ?_
  refine va_sld hx hb hX hbl hbA hS (lw_in hi hL (j := 2) (by decide) rfl) dL_law_692 ?_
  refine lw_callV (d := 100) (rest := []) (st1 := [.int r]) ⟨hx, hb, hml, hown, hts⟩ hK (by decide) (by decide) hS hR hM1 yk_X6_back in_X6_back se_X6_back ml_L_86 (lk_0 hLL) rfl rfl (by omega) rfl hl.1 (Nat.le_of_ble_eq_true rfl) rfl rfl hc hz hq1.1 hq1.2.1 (by show _ ≤ 600000; omega) (by show _ ≤ 7302250; omega) dL_law_693 (fun H locs cells slots hc hz hR hS => ?_)
  refine lv_aload_n hx hb dL_law_696 rfl (lv_at hl 2 rfl) ?_
  refine lv_aload_n hx hb dL_law_697 rfl (lv_at hl 0 rfl) ?_
  refine lv_iload_n hx hb dL_law_698 rfl (lv_at hl 3 rfl) ?_
  refine lv_iconst (v := 1) hx hb dL_law_699 (by decide) ?_
  refine lv_iadd hx hb dL_law_700 ?_
  refine va_sld hx hb hX hbl hbA hS (lw_in hi hL (j := 1) (by decide) rfl) dL_law_701 ?_
  refine lv_aload_n hx hb dL_law_702 rfl (lv_at hl 0 rfl) ?_
  refine lv_iload_n hx hb dL_law_703 rfl (lv_at hl 3 rfl) ?_
  refine lv_iconst (v := 2) hx hb dL_law_704 (by decide) ?_
  refine lv_iadd hx hb dL_law_705 ?_
  refine va_sld hx hb hX hbl hbA hS (lw_in hi hL (j := 2) (by decide) rfl) dL_law_706 ?_
  refine lw_callV (d := 100) (rest := [.int r]) (st1 := [.int r, .int r]) ⟨hx, hb, hml, hown, hts⟩ hK (by decide) (by decide) hS hR hM2 yk_X7_back in_X7_back se_X7_back ml_L_89 (lk_35 hLL1) rfl rfl (by omega) rfl hl.1 (Nat.le_of_ble_eq_true rfl) rfl rfl hc hz hq2.1 hq2.2.1 (by show _ ≤ 600000; omega) (by show _ ≤ 7302250; omega) dL_law_707 (fun H locs cells slots hc hz hR hS => ?_)
  refine lv_icmp_eq (tgt := 1087) hx hb dL_law_710 (by decide) (fun q => ?_) (fun q => absurd rfl q)
  exact hnext lay2 I2 J2 hI2 H locs cells slots ls hc hz hR hS hl
set_option maxRecDepth 100000 in
set_option maxHeartbeats 4000000 in
theorem law_18 {p : Program} {l : Launch} {e : Env} {s : State} {m : MethodId} {below : List Frame} {meth : Method} {c : Code} {E : ax_E} {B b L i : Nat} {xs : Nat → Int32} {Inv : Nat → List ax_S → ax_I → ax_J → Prop} (hL : L ≤ 448) (hi : i + 7 ≤ L) (C0 : lw_At p s m meth c b L xs) (hK : ax_K E s) (hB : B = s.heap.size) (hInv : ∀ lay I J, Inv B lay I J → ax_LL B lay) (hop : OpV Inv .int isI yX6_fewest cX6_fewest 7 yX7_fewest cX7_fewest 6 [.int (xs (nI i + 1).toNatClampNeg), .int (xs (nI i + 2).toNatClampNeg)]) (hnext : ∀ (lay : List ax_S) (I : ax_I) (J : ax_J), Inv B lay I J → AX p l e room_1 s m #[Value.ref b] below meth c E B 0 0 4 (lw_Z below #[Value.ref b] s) lay I J 1087 [(0, .ref b), (1, .ref (B + 0)), (2, .ref (B + 35)), (3, .int (nI i))] []) : ∀ (lay : List ax_S) (I : ax_I) (J : ax_J), Inv B lay I J → AX p l e room_1 s m #[Value.ref b] below meth c E B 0 0 4 (lw_Z below #[Value.ref b] s) lay I J 715 [(0, .ref b), (1, .ref (B + 0)), (2, .ref (B + 35)), (3, .int (nI i))] [] := by
  obtain ⟨hx, hb, hr, hml, hown, hts0, hX, hbl, hlocks, hgv⟩ := id C0
  have hown : s.vm.findClass RL = some m.cls := hown
  have hts : ∀ w ∈ ax_g, w.before #[Value.ref b] s = true := fun w hw => hts0 w (lw_tg hw)
  have hbA : ¬ (fun q : Nat => B ≤ q) b := by show ¬ B ≤ b; omega
  intro lay I J hI H locs cells slots ls hc hz hR hS hl
  have hLL := hInv lay I J hI
  obtain ⟨r, d1, d2, lay1, I1, J1, lay2, I2, J2, ⟨r, rfl⟩, hd1, hd2, hM1, hM2, hq1, hq2, hI2⟩ := hop l E B lay I J hI
  have hLL1 := hq1.2.2.2.2
  refine lv_aload_n hx hb dL_law_715 rfl (lv_at hl 1 rfl) ?_
  refine lv_aload_n hx hb dL_law_716 rfl (lv_at hl 0 rfl) ?_
  refine lv_iload_n hx hb dL_law_717 rfl (lv_at hl 3 rfl) ?_
  refine lv_iconst (v := 1) hx hb dL_law_718 (by decide) ?_
  refine lv_iadd hx hb dL_law_719 ?_
  refine va_sld hx hb hX hbl hbA hS (lw_in hi hL (j := 1) (by decide) rfl) dL_law_720 ?_
  refine lv_aload_n hx hb dL_law_721 rfl (lv_at hl 0 rfl) ?_
  refine lv_iload_n hx hb dL_law_722 rfl (lv_at hl 3 rfl) ?_
  refine lv_iconst (v := 2) hx hb dL_law_723 (by decide) ?_
  refine lv_iadd hx hb dL_law_724 ?_
  refine va_sld hx hb hX hbl hbA hS (lw_in hi hL (j := 2) (by decide) rfl) dL_law_725 ?_
  refine lw_callV (d := 100) (rest := []) (st1 := [.int r]) ⟨hx, hb, hml, hown, hts⟩ hK (by decide) (by decide) hS hR hM1 yk_X6_fewest in_X6_fewest se_X6_fewest ml_L_90 (lk_0 hLL) rfl rfl (by omega) rfl hl.1 (Nat.le_of_ble_eq_true rfl) rfl rfl hc hz hq1.1 hq1.2.1 (by show _ ≤ 600000; omega) (by show _ ≤ 7302250; omega) dL_law_726 (fun H locs cells slots hc hz hR hS => ?_)
  refine lv_aload_n hx hb dL_law_729 rfl (lv_at hl 2 rfl) ?_
  refine lv_aload_n hx hb dL_law_730 rfl (lv_at hl 0 rfl) ?_
  refine lv_iload_n hx hb dL_law_731 rfl (lv_at hl 3 rfl) ?_
  refine lv_iconst (v := 1) hx hb dL_law_732 (by decide) ?_
  refine lv_iadd hx hb dL_law_733 ?_
  refine va_sld hx hb hX hbl hbA hS (lw_in hi hL (j := 1) (by decide) rfl) dL_law_734 ?_
  refine lv_aload_n hx hb dL_law_735 rfl (lv_at hl 0 rfl) ?_
  refine lv_iload_n hx hb dL_law_736 rfl (lv_at hl 3 rfl) ?_
  refine lv_iconst (v := 2) hx hb dL_law_737 (by decide) ?_
  refine lv_iadd hx hb dL_law_738 ?_
  refine va_sld hx hb hX hbl hbA hS (lw_in hi hL (j := 2) (by decide) rfl) dL_law_739 ?_
  refine lw_callV (d := 100) (rest := [.int r]) (st1 := [.int r, .int r]) ⟨hx, hb, hml, hown, hts⟩ hK (by decide) (by decide) hS hR hM2 yk_X7_fewest in_X7_fewest se_X7_fewest ml_L_93 (lk_35 hLL1) rfl rfl (by omega) rfl hl.1 (Nat.le_of_ble_eq_true rfl) rfl rfl hc hz hq2.1 hq2.2.1 (by show _ ≤ 600000; omega) (by show _ ≤ 7302250; omega) dL_law_740 (fun H locs cells slots hc hz hR hS => ?_)
  refine lv_icmp_eq (tgt := 1087) hx hb dL_law_743 (by decide) (fun q => ?_) (fun q => absurd rfl q)
  exact hnext lay2 I2 J2 hI2 H locs cells slots ls hc hz hR hS hl
set_option maxRecDepth 100000 in
set_option maxHeartbeats 4000000 in
theorem law_19 {p : Program} {l : Launch} {e : Env} {s : State} {m : MethodId} {below : List Frame} {meth : Method} {c : Code} {E : ax_E} {B b L i : Nat} {xs : Nat → Int32} {Inv : Nat → List ax_S → ax_I → ax_J → Prop} (hL : L ≤ 448) (hi : i + 7 ≤ L) (C0 : lw_At p s m meth c b L xs) (hK : ax_K E s) (hB : B = s.heap.size) (hInv : ∀ lay I J, Inv B lay I J → ax_LL B lay) (hop : OpV Inv .int isI yX6_day cX6_day 7 yX7_day cX7_day 6 [.int (xs (nI i + 1).toNatClampNeg)]) (hnext : ∀ (lay : List ax_S) (I : ax_I) (J : ax_J), Inv B lay I J → AX p l e room_1 s m #[Value.ref b] below meth c E B 0 0 4 (lw_Z below #[Value.ref b] s) lay I J 1087 [(0, .ref b), (1, .ref (B + 0)), (2, .ref (B + 35)), (3, .int (nI i))] []) : ∀ (lay : List ax_S) (I : ax_I) (J : ax_J), Inv B lay I J → AX p l e room_1 s m #[Value.ref b] below meth c E B 0 0 4 (lw_Z below #[Value.ref b] s) lay I J 748 [(0, .ref b), (1, .ref (B + 0)), (2, .ref (B + 35)), (3, .int (nI i))] [] := by
  obtain ⟨hx, hb, hr, hml, hown, hts0, hX, hbl, hlocks, hgv⟩ := id C0
  have hown : s.vm.findClass RL = some m.cls := hown
  have hts : ∀ w ∈ ax_g, w.before #[Value.ref b] s = true := fun w hw => hts0 w (lw_tg hw)
  have hbA : ¬ (fun q : Nat => B ≤ q) b := by show ¬ B ≤ b; omega
  intro lay I J hI H locs cells slots ls hc hz hR hS hl
  have hLL := hInv lay I J hI
  obtain ⟨r, d1, d2, lay1, I1, J1, lay2, I2, J2, ⟨r, rfl⟩, hd1, hd2, hM1, hM2, hq1, hq2, hI2⟩ := hop l E B lay I J hI
  have hLL1 := hq1.2.2.2.2
  refine lv_aload_n hx hb dL_law_748 rfl (lv_at hl 1 rfl) ?_
  refine lv_aload_n hx hb dL_law_749 rfl (lv_at hl 0 rfl) ?_
  refine lv_iload_n hx hb dL_law_750 rfl (lv_at hl 3 rfl) ?_
  refine lv_iconst (v := 1) hx hb dL_law_751 (by decide) ?_
  refine lv_iadd hx hb dL_law_752 ?_
  refine va_sld hx hb hX hbl hbA hS (lw_in hi hL (j := 1) (by decide) rfl) dL_law_753 ?_
  refine lw_callV (d := 100) (rest := []) (st1 := [.int r]) ⟨hx, hb, hml, hown, hts⟩ hK (by decide) (by decide) hS hR hM1 yk_X6_day in_X6_day se_X6_day ml_L_94 (lk_0 hLL) rfl rfl (by omega) rfl hl.1 (Nat.le_of_ble_eq_true rfl) rfl rfl hc hz hq1.1 hq1.2.1 (by show _ ≤ 600000; omega) (by show _ ≤ 7302250; omega) dL_law_754 (fun H locs cells slots hc hz hR hS => ?_)
  refine lv_aload_n hx hb dL_law_757 rfl (lv_at hl 2 rfl) ?_
  refine lv_aload_n hx hb dL_law_758 rfl (lv_at hl 0 rfl) ?_
  refine lv_iload_n hx hb dL_law_759 rfl (lv_at hl 3 rfl) ?_
  refine lv_iconst (v := 1) hx hb dL_law_760 (by decide) ?_
  refine lv_iadd hx hb dL_law_761 ?_
  refine va_sld hx hb hX hbl hbA hS (lw_in hi hL (j := 1) (by decide) rfl) dL_law_762 ?_
  refine lw_callV (d := 100) (rest := [.int r]) (st1 := [.int r, .int r]) ⟨hx, hb, hml, hown, hts⟩ hK (by decide) (by decide) hS hR hM2 yk_X7_day in_X7_day se_X7_day ml_L_97 (lk_35 hLL1) rfl rfl (by omega) rfl hl.1 (Nat.le_of_ble_eq_true rfl) rfl rfl hc hz hq2.1 hq2.2.1 (by show _ ≤ 600000; omega) (by show _ ≤ 7302250; omega) dL_law_763 (fun H locs cells slots hc hz hR hS => ?_)
  refine lv_icmp_eq (tgt := 1087) hx hb dL_law_766 (by decide) (fun q => ?_) (fun q => absurd rfl q)
  exact hnext lay2 I2 J2 hI2 H locs cells slots ls hc hz hR hS hl
set_option maxRecDepth 100000 in
set_option maxHeartbeats 4000000 in
theorem law_20 {p : Program} {l : Launch} {e : Env} {s : State} {m : MethodId} {below : List Frame} {meth : Method} {c : Code} {E : ax_E} {B b L i : Nat} {xs : Nat → Int32} {Inv : Nat → List ax_S → ax_I → ax_J → Prop} (hL : L ≤ 448) (hi : i + 7 ≤ L) (C0 : lw_At p s m meth c b L xs) (hK : ax_K E s) (hB : B = s.heap.size) (hInv : ∀ lay I J, Inv B lay I J → ax_LL B lay) (hop : OpV Inv .int isI yX6_rivals cX6_rivals 8 yX7_rivals cX7_rivals 6 [.int (xs (nI i + 1).toNatClampNeg), .int (xs (nI i + 2).toNatClampNeg), .int (xs (nI i + 3).toNatClampNeg)]) (hnext : ∀ (lay : List ax_S) (I : ax_I) (J : ax_J), Inv B lay I J → AX p l e room_1 s m #[Value.ref b] below meth c E B 0 0 4 (lw_Z below #[Value.ref b] s) lay I J 1087 [(0, .ref b), (1, .ref (B + 0)), (2, .ref (B + 35)), (3, .int (nI i))] []) : ∀ (lay : List ax_S) (I : ax_I) (J : ax_J), Inv B lay I J → AX p l e room_1 s m #[Value.ref b] below meth c E B 0 0 4 (lw_Z below #[Value.ref b] s) lay I J 771 [(0, .ref b), (1, .ref (B + 0)), (2, .ref (B + 35)), (3, .int (nI i))] [] := by
  obtain ⟨hx, hb, hr, hml, hown, hts0, hX, hbl, hlocks, hgv⟩ := id C0
  have hown : s.vm.findClass RL = some m.cls := hown
  have hts : ∀ w ∈ ax_g, w.before #[Value.ref b] s = true := fun w hw => hts0 w (lw_tg hw)
  have hbA : ¬ (fun q : Nat => B ≤ q) b := by show ¬ B ≤ b; omega
  intro lay I J hI H locs cells slots ls hc hz hR hS hl
  have hLL := hInv lay I J hI
  obtain ⟨r, d1, d2, lay1, I1, J1, lay2, I2, J2, ⟨r, rfl⟩, hd1, hd2, hM1, hM2, hq1, hq2, hI2⟩ := hop l E B lay I J hI
  have hLL1 := hq1.2.2.2.2
  refine lv_aload_n hx hb dL_law_771 rfl (lv_at hl 1 rfl) ?_
  refine lv_aload_n hx hb dL_law_772 rfl (lv_at hl 0 rfl) ?_
  refine lv_iload_n hx hb dL_law_773 rfl (lv_at hl 3 rfl) ?_
  refine lv_iconst (v := 1) hx hb dL_law_774 (by decide) ?_
  refine lv_iadd hx hb dL_law_775 ?_
  refine va_sld hx hb hX hbl hbA hS (lw_in hi hL (j := 1) (by decide) rfl) dL_law_776 ?_
  refine lv_aload_n hx hb dL_law_777 rfl (lv_at hl 0 rfl) ?_
  refine lv_iload_n hx hb dL_law_778 rfl (lv_at hl 3 rfl) ?_
  refine lv_iconst (v := 2) hx hb dL_law_779 (by decide) ?_
  refine lv_iadd hx hb dL_law_780 ?_
  refine va_sld hx hb hX hbl hbA hS (lw_in hi hL (j := 2) (by decide) rfl) dL_law_781 ?_
  refine lv_aload_n hx hb dL_law_782 rfl (lv_at hl 0 rfl) ?_
  refine lv_iload_n hx hb dL_law_783 rfl (lv_at hl 3 rfl) ?_
  refine lv_iconst (v := 3) hx hb dL_law_784 (by decide) ?_
  refine lv_iadd hx hb dL_law_785 ?_
  refine va_sld hx hb hX hbl hbA hS (lw_in hi hL (j := 3) (by decide) rfl) dL_law_786 ?_
  refine lw_callV (d := 100) (rest := []) (st1 := [.int r]) ⟨hx, hb, hml, hown, hts⟩ hK (by decide) (by decide) hS hR hM1 yk_X6_rivals in_X6_rivals se_X6_rivals ml_L_98 (lk_0 hLL) rfl rfl (by omega) rfl hl.1 (Nat.le_of_ble_eq_true rfl) rfl rfl hc hz hq1.1 hq1.2.1 (by show _ ≤ 600000; omega) (by show _ ≤ 7302250; omega) dL_law_787 (fun H locs cells slots hc hz hR hS => ?_)
  refine lv_aload_n hx hb dL_law_790 rfl (lv_at hl 2 rfl) ?_
  refine lv_aload_n hx hb dL_law_791 rfl (lv_at hl 0 rfl) ?_
  refine lv_iload_n hx hb dL_law_792 rfl (lv_at hl 3 rfl) ?_
  refine lv_iconst (v := 1) hx hb dL_law_793 (by decide) ?_
  refine lv_iadd hx hb dL_law_794 ?_
  refine va_sld hx hb hX hbl hbA hS (lw_in hi hL (j := 1) (by decide) rfl) dL_law_795 ?_
  refine lv_aload_n hx hb dL_law_796 rfl (lv_at hl 0 rfl) ?_
  refine lv_iload_n hx hb dL_law_797 rfl (lv_at hl 3 rfl) ?_
  refine lv_iconst (v := 2) hx hb dL_law_798 (by decide) ?_
  refine lv_iadd hx hb dL_law_799 ?_
  refine va_sld hx hb hX hbl hbA hS (lw_in hi hL (j := 2) (by decide) rfl) dL_law_800 ?_
  refine lv_aload_n hx hb dL_law_801 rfl (lv_at hl 0 rfl) ?_
  refine lv_iload_n hx hb dL_law_802 rfl (lv_at hl 3 rfl) ?_
  refine lv_iconst (v := 3) hx hb dL_law_803 (by decide) ?_
  refine lv_iadd hx hb dL_law_804 ?_
  refine va_sld hx hb hX hbl hbA hS (lw_in hi hL (j := 3) (by decide) rfl) dL_law_805 ?_
  refine lw_callV (d := 100) (rest := [.int r]) (st1 := [.int r, .int r]) ⟨hx, hb, hml, hown, hts⟩ hK (by decide) (by decide) hS hR hM2 yk_X7_rivals in_X7_rivals se_X7_rivals ml_L_102 (lk_35 hLL1) rfl rfl (by omega) rfl hl.1 (Nat.le_of_ble_eq_true rfl) rfl rfl hc hz hq2.1 hq2.2.1 (by show _ ≤ 600000; omega) (by show _ ≤ 7302250; omega) dL_law_806 (fun H locs cells slots hc hz hR hS => ?_)
  refine lv_icmp_eq (tgt := 1087) hx hb dL_law_809 (by decide) (fun q => ?_) (fun q => absurd rfl q)
  exact hnext lay2 I2 J2 hI2 H locs cells slots ls hc hz hR hS hl
set_option maxRecDepth 100000 in
set_option maxHeartbeats 4000000 in
theorem law_21 {p : Program} {l : Launch} {e : Env} {s : State} {m : MethodId} {below : List Frame} {meth : Method} {c : Code} {E : ax_E} {B b L i : Nat} {xs : Nat → Int32} {Inv : Nat → List ax_S → ax_I → ax_J → Prop} (hL : L ≤ 448) (hi : i + 7 ≤ L) (C0 : lw_At p s m meth c b L xs) (hK : ax_K E s) (hB : B = s.heap.size) (hInv : ∀ lay I J, Inv B lay I J → ax_LL B lay) (hop : OpV Inv .int isI yX6_share cX6_share 10 yX7_share cX7_share 10 [.int (xs (nI i + 1).toNatClampNeg), .int (xs (nI i + 2).toNatClampNeg), .int (xs (nI i + 3).toNatClampNeg)]) (hnext : ∀ (lay : List ax_S) (I : ax_I) (J : ax_J), Inv B lay I J → AX p l e room_1 s m #[Value.ref b] below meth c E B 0 0 4 (lw_Z below #[Value.ref b] s) lay I J 1087 [(0, .ref b), (1, .ref (B + 0)), (2, .ref (B + 35)), (3, .int (nI i))] []) : ∀ (lay : List ax_S) (I : ax_I) (J : ax_J), Inv B lay I J → AX p l e room_1 s m #[Value.ref b] below meth c E B 0 0 4 (lw_Z below #[Value.ref b] s) lay I J 814 [(0, .ref b), (1, .ref (B + 0)), (2, .ref (B + 35)), (3, .int (nI i))] [] := by
  obtain ⟨hx, hb, hr, hml, hown, hts0, hX, hbl, hlocks, hgv⟩ := id C0
  have hown : s.vm.findClass RL = some m.cls := hown
  have hts : ∀ w ∈ ax_g, w.before #[Value.ref b] s = true := fun w hw => hts0 w (lw_tg hw)
  have hbA : ¬ (fun q : Nat => B ≤ q) b := by show ¬ B ≤ b; omega
  intro lay I J hI H locs cells slots ls hc hz hR hS hl
  have hLL := hInv lay I J hI
  obtain ⟨r, d1, d2, lay1, I1, J1, lay2, I2, J2, ⟨r, rfl⟩, hd1, hd2, hM1, hM2, hq1, hq2, hI2⟩ := hop l E B lay I J hI
  have hLL1 := hq1.2.2.2.2
  refine lv_aload_n hx hb dL_law_814 rfl (lv_at hl 1 rfl) ?_
  refine lv_aload_n hx hb dL_law_815 rfl (lv_at hl 0 rfl) ?_
  refine lv_iload_n hx hb dL_law_816 rfl (lv_at hl 3 rfl) ?_
  refine lv_iconst (v := 1) hx hb dL_law_817 (by decide) ?_
  refine lv_iadd hx hb dL_law_818 ?_
  refine va_sld hx hb hX hbl hbA hS (lw_in hi hL (j := 1) (by decide) rfl) dL_law_819 ?_
  refine lv_aload_n hx hb dL_law_820 rfl (lv_at hl 0 rfl) ?_
  refine lv_iload_n hx hb dL_law_821 rfl (lv_at hl 3 rfl) ?_
  refine lv_iconst (v := 2) hx hb dL_law_822 (by decide) ?_
  refine lv_iadd hx hb dL_law_823 ?_
  refine va_sld hx hb hX hbl hbA hS (lw_in hi hL (j := 2) (by decide) rfl) dL_law_824 ?_
  refine lv_aload_n hx hb dL_law_825 rfl (lv_at hl 0 rfl) ?_
  refine lv_iload_n hx hb dL_law_826 rfl (lv_at hl 3 rfl) ?_
  refine lv_iconst (v := 3) hx hb dL_law_827 (by decide) ?_
  refine lv_iadd hx hb dL_law_828 ?_
  refine va_sld hx hb hX hbl hbA hS (lw_in hi hL (j := 3) (by decide) rfl) dL_law_829 ?_
  refine lw_callV (d := 100) (rest := []) (st1 := [.int r]) ⟨hx, hb, hml, hown, hts⟩ hK (by decide) (by decide) hS hR hM1 yk_X6_share in_X6_share se_X6_share ml_L_103 (lk_0 hLL) rfl rfl (by omega) rfl hl.1 (Nat.le_of_ble_eq_true rfl) rfl rfl hc hz hq1.1 hq1.2.1 (by show _ ≤ 600000; omega) (by show _ ≤ 7302250; omega) dL_law_830 (fun H locs cells slots hc hz hR hS => ?_)
  refine lv_aload_n hx hb dL_law_833 rfl (lv_at hl 2 rfl) ?_
  refine lv_aload_n hx hb dL_law_834 rfl (lv_at hl 0 rfl) ?_
  refine lv_iload_n hx hb dL_law_835 rfl (lv_at hl 3 rfl) ?_
  refine lv_iconst (v := 1) hx hb dL_law_836 (by decide) ?_
  refine lv_iadd hx hb dL_law_837 ?_
  refine va_sld hx hb hX hbl hbA hS (lw_in hi hL (j := 1) (by decide) rfl) dL_law_838 ?_
  refine lv_aload_n hx hb dL_law_839 rfl (lv_at hl 0 rfl) ?_
  refine lv_iload_n hx hb dL_law_840 rfl (lv_at hl 3 rfl) ?_
  refine lv_iconst (v := 2) hx hb dL_law_841 (by decide) ?_
  refine lv_iadd hx hb dL_law_842 ?_
  refine va_sld hx hb hX hbl hbA hS (lw_in hi hL (j := 2) (by decide) rfl) dL_law_843 ?_
  refine lv_aload_n hx hb dL_law_844 rfl (lv_at hl 0 rfl) ?_
  refine lv_iload_n hx hb dL_law_845 rfl (lv_at hl 3 rfl) ?_
  refine lv_iconst (v := 3) hx hb dL_law_846 (by decide) ?_
  refine lv_iadd hx hb dL_law_847 ?_
  refine va_sld hx hb hX hbl hbA hS (lw_in hi hL (j := 3) (by decide) rfl) dL_law_848 ?_
  refine lw_callV (d := 100) (rest := [.int r]) (st1 := [.int r, .int r]) ⟨hx, hb, hml, hown, hts⟩ hK (by decide) (by decide) hS hR hM2 yk_X7_share in_X7_share se_X7_share ml_L_106 (lk_35 hLL1) rfl rfl (by omega) rfl hl.1 (Nat.le_of_ble_eq_true rfl) rfl rfl hc hz hq2.1 hq2.2.1 (by show _ ≤ 600000; omega) (by show _ ≤ 7302250; omega) dL_law_849 (fun H locs cells slots hc hz hR hS => ?_)
  refine lv_icmp_eq (tgt := 1087) hx hb dL_law_852 (by decide) (fun q => ?_) (fun q => absurd rfl q)
  exact hnext lay2 I2 J2 hI2 H locs cells slots ls hc hz hR hS hl
set_option maxRecDepth 100000 in
set_option maxHeartbeats 4000000 in
theorem law_22_0 {p : Program} {l : Launch} {e : Env} {s : State} {m : MethodId} {below : List Frame} {meth : Method} {c : Code} {E : ax_E} {B b L i : Nat} {xs : Nat → Int32} {Inv : Nat → List ax_S → ax_I → ax_J → Prop} (hL : L ≤ 448) (hi : i + 7 ≤ L) (C0 : lw_At p s m meth c b L xs) (hK : ax_K E s) (hB : B = s.heap.size) (hInv : ∀ lay I J, Inv B lay I J → ax_LL B lay) (h3 : (xs (nI i + 3).toNatClampNeg) = 0) (hop : OpV Inv .int isI yX6_seen cX6_seen 4 yX7_seen cX7_seen 4 [.int (xs (nI i + 1).toNatClampNeg), .int (xs (nI i + 2).toNatClampNeg), .int 0]) (hnext : ∀ (lay : List ax_S) (I : ax_I) (J : ax_J), Inv B lay I J → AX p l e room_1 s m #[Value.ref b] below meth c E B 0 0 4 (lw_Z below #[Value.ref b] s) lay I J 1087 [(0, .ref b), (1, .ref (B + 0)), (2, .ref (B + 35)), (3, .int (nI i))] []) : ∀ (lay : List ax_S) (I : ax_I) (J : ax_J), Inv B lay I J → AX p l e room_1 s m #[Value.ref b] below meth c E B 0 0 4 (lw_Z below #[Value.ref b] s) lay I J 857 [(0, .ref b), (1, .ref (B + 0)), (2, .ref (B + 35)), (3, .int (nI i))] [] := by
  obtain ⟨hx, hb, hr, hml, hown, hts0, hX, hbl, hlocks, hgv⟩ := id C0
  have hown : s.vm.findClass RL = some m.cls := hown
  have hts : ∀ w ∈ ax_g, w.before #[Value.ref b] s = true := fun w hw => hts0 w (lw_tg hw)
  have hbA : ¬ (fun q : Nat => B ≤ q) b := by show ¬ B ≤ b; omega
  intro lay I J hI H locs cells slots ls hc hz hR hS hl
  have hLL := hInv lay I J hI
  obtain ⟨r, d1, d2, lay1, I1, J1, lay2, I2, J2, ⟨r, rfl⟩, hd1, hd2, hM1, hM2, hq1, hq2, hI2⟩ := hop l E B lay I J hI
  have hLL1 := hq1.2.2.2.2
  refine lv_aload_n hx hb dL_law_857 rfl (lv_at hl 1 rfl) ?_
  refine lv_aload_n hx hb dL_law_858 rfl (lv_at hl 0 rfl) ?_
  refine lv_iload_n hx hb dL_law_859 rfl (lv_at hl 3 rfl) ?_
  refine lv_iconst (v := 1) hx hb dL_law_860 (by decide) ?_
  refine lv_iadd hx hb dL_law_861 ?_
  refine va_sld hx hb hX hbl hbA hS (lw_in hi hL (j := 1) (by decide) rfl) dL_law_862 ?_
  refine lv_aload_n hx hb dL_law_863 rfl (lv_at hl 0 rfl) ?_
  refine lv_iload_n hx hb dL_law_864 rfl (lv_at hl 3 rfl) ?_
  refine lv_iconst (v := 2) hx hb dL_law_865 (by decide) ?_
  refine lv_iadd hx hb dL_law_866 ?_
  refine va_sld hx hb hX hbl hbA hS (lw_in hi hL (j := 2) (by decide) rfl) dL_law_867 ?_
  refine lv_aload_n hx hb dL_law_868 rfl (lv_at hl 0 rfl) ?_
  refine lv_iload_n hx hb dL_law_869 rfl (lv_at hl 3 rfl) ?_
  refine lv_iconst (v := 3) hx hb dL_law_870 (by decide) ?_
  refine lv_iadd hx hb dL_law_871 ?_
  refine va_sld hx hb hX hbl hbA hS (lw_in hi hL (j := 3) (by decide) rfl) dL_law_872 ?_
  refine lv_if_eq (tgt := 880) hx hb dL_law_873 (by decide) (fun q => ?_) (fun q => absurd h3 q)
  refine lv_iconst (v := 0) hx hb dL_law_880 (by decide) ?_
  refine lw_callV (d := 100) (rest := []) (st1 := [.int r]) ⟨hx, hb, hml, hown, hts⟩ hK (by decide) (by decide) hS hR hM1 yk_X6_seen in_X6_seen se_X6_seen ml_L_107 (lk_0 hLL) rfl rfl (by omega) rfl hl.1 (Nat.le_of_ble_eq_true rfl) rfl rfl hc hz hq1.1 hq1.2.1 (by show _ ≤ 600000; omega) (by show _ ≤ 7302250; omega) dL_law_881 (fun H locs cells slots hc hz hR hS => ?_)
  refine lv_aload_n hx hb dL_law_884 rfl (lv_at hl 2 rfl) ?_
  refine lv_aload_n hx hb dL_law_885 rfl (lv_at hl 0 rfl) ?_
  refine lv_iload_n hx hb dL_law_886 rfl (lv_at hl 3 rfl) ?_
  refine lv_iconst (v := 1) hx hb dL_law_887 (by decide) ?_
  refine lv_iadd hx hb dL_law_888 ?_
  refine va_sld hx hb hX hbl hbA hS (lw_in hi hL (j := 1) (by decide) rfl) dL_law_889 ?_
  refine lv_aload_n hx hb dL_law_890 rfl (lv_at hl 0 rfl) ?_
  refine lv_iload_n hx hb dL_law_891 rfl (lv_at hl 3 rfl) ?_
  refine lv_iconst (v := 2) hx hb dL_law_892 (by decide) ?_
  refine lv_iadd hx hb dL_law_893 ?_
  refine va_sld hx hb hX hbl hbA hS (lw_in hi hL (j := 2) (by decide) rfl) dL_law_894 ?_
  refine lv_aload_n hx hb dL_law_895 rfl (lv_at hl 0 rfl) ?_
  refine lv_iload_n hx hb dL_law_896 rfl (lv_at hl 3 rfl) ?_
  refine lv_iconst (v := 3) hx hb dL_law_897 (by decide) ?_
  refine lv_iadd hx hb dL_law_898 ?_
  refine va_sld hx hb hX hbl hbA hS (lw_in hi hL (j := 3) (by decide) rfl) dL_law_899 ?_
  refine lv_if_eq (tgt := 907) hx hb dL_law_900 (by decide) (fun q => ?_) (fun q => absurd h3 q)
  refine lv_iconst (v := 0) hx hb dL_law_907 (by decide) ?_
  refine lw_callV (d := 100) (rest := [.int r]) (st1 := [.int r, .int r]) ⟨hx, hb, hml, hown, hts⟩ hK (by decide) (by decide) hS hR hM2 yk_X7_seen in_X7_seen se_X7_seen ml_L_111 (lk_35 hLL1) rfl rfl (by omega) rfl hl.1 (Nat.le_of_ble_eq_true rfl) rfl rfl hc hz hq2.1 hq2.2.1 (by show _ ≤ 600000; omega) (by show _ ≤ 7302250; omega) dL_law_908 (fun H locs cells slots hc hz hR hS => ?_)
  refine lv_icmp_eq (tgt := 1087) hx hb dL_law_911 (by decide) (fun q => ?_) (fun q => absurd rfl q)
  exact hnext lay2 I2 J2 hI2 H locs cells slots ls hc hz hR hS hl
set_option maxRecDepth 100000 in
set_option maxHeartbeats 4000000 in
theorem law_22_1 {p : Program} {l : Launch} {e : Env} {s : State} {m : MethodId} {below : List Frame} {meth : Method} {c : Code} {E : ax_E} {B b L i : Nat} {xs : Nat → Int32} {Inv : Nat → List ax_S → ax_I → ax_J → Prop} (hL : L ≤ 448) (hi : i + 7 ≤ L) (C0 : lw_At p s m meth c b L xs) (hK : ax_K E s) (hB : B = s.heap.size) (hInv : ∀ lay I J, Inv B lay I J → ax_LL B lay) (h3 : ¬ (xs (nI i + 3).toNatClampNeg) = 0) (hop : OpV Inv .int isI yX6_seen cX6_seen 4 yX7_seen cX7_seen 4 [.int (xs (nI i + 1).toNatClampNeg), .int (xs (nI i + 2).toNatClampNeg), .int 1]) (hnext : ∀ (lay : List ax_S) (I : ax_I) (J : ax_J), Inv B lay I J → AX p l e room_1 s m #[Value.ref b] below meth c E B 0 0 4 (lw_Z below #[Value.ref b] s) lay I J 1087 [(0, .ref b), (1, .ref (B + 0)), (2, .ref (B + 35)), (3, .int (nI i))] []) : ∀ (lay : List ax_S) (I : ax_I) (J : ax_J), Inv B lay I J → AX p l e room_1 s m #[Value.ref b] below meth c E B 0 0 4 (lw_Z below #[Value.ref b] s) lay I J 857 [(0, .ref b), (1, .ref (B + 0)), (2, .ref (B + 35)), (3, .int (nI i))] [] := by
  obtain ⟨hx, hb, hr, hml, hown, hts0, hX, hbl, hlocks, hgv⟩ := id C0
  have hown : s.vm.findClass RL = some m.cls := hown
  have hts : ∀ w ∈ ax_g, w.before #[Value.ref b] s = true := fun w hw => hts0 w (lw_tg hw)
  have hbA : ¬ (fun q : Nat => B ≤ q) b := by show ¬ B ≤ b; omega
  intro lay I J hI H locs cells slots ls hc hz hR hS hl
  have hLL := hInv lay I J hI
  obtain ⟨r, d1, d2, lay1, I1, J1, lay2, I2, J2, ⟨r, rfl⟩, hd1, hd2, hM1, hM2, hq1, hq2, hI2⟩ := hop l E B lay I J hI
  have hLL1 := hq1.2.2.2.2
  refine lv_aload_n hx hb dL_law_857 rfl (lv_at hl 1 rfl) ?_
  refine lv_aload_n hx hb dL_law_858 rfl (lv_at hl 0 rfl) ?_
  refine lv_iload_n hx hb dL_law_859 rfl (lv_at hl 3 rfl) ?_
  refine lv_iconst (v := 1) hx hb dL_law_860 (by decide) ?_
  refine lv_iadd hx hb dL_law_861 ?_
  refine va_sld hx hb hX hbl hbA hS (lw_in hi hL (j := 1) (by decide) rfl) dL_law_862 ?_
  refine lv_aload_n hx hb dL_law_863 rfl (lv_at hl 0 rfl) ?_
  refine lv_iload_n hx hb dL_law_864 rfl (lv_at hl 3 rfl) ?_
  refine lv_iconst (v := 2) hx hb dL_law_865 (by decide) ?_
  refine lv_iadd hx hb dL_law_866 ?_
  refine va_sld hx hb hX hbl hbA hS (lw_in hi hL (j := 2) (by decide) rfl) dL_law_867 ?_
  refine lv_aload_n hx hb dL_law_868 rfl (lv_at hl 0 rfl) ?_
  refine lv_iload_n hx hb dL_law_869 rfl (lv_at hl 3 rfl) ?_
  refine lv_iconst (v := 3) hx hb dL_law_870 (by decide) ?_
  refine lv_iadd hx hb dL_law_871 ?_
  refine va_sld hx hb hX hbl hbA hS (lw_in hi hL (j := 3) (by decide) rfl) dL_law_872 ?_
  refine lv_if_eq (tgt := 880) hx hb dL_law_873 (by decide) (fun q => absurd q h3) (fun q => ?_)
  refine lv_iconst (v := 1) hx hb dL_law_876 (by decide) ?_
  refine lv_goto (tgt := 881) hx hb dL_law_877 (by decide) ?_
  refine lw_callV (d := 100) (rest := []) (st1 := [.int r]) ⟨hx, hb, hml, hown, hts⟩ hK (by decide) (by decide) hS hR hM1 yk_X6_seen in_X6_seen se_X6_seen ml_L_107 (lk_0 hLL) rfl rfl (by omega) rfl hl.1 (Nat.le_of_ble_eq_true rfl) rfl rfl hc hz hq1.1 hq1.2.1 (by show _ ≤ 600000; omega) (by show _ ≤ 7302250; omega) dL_law_881 (fun H locs cells slots hc hz hR hS => ?_)
  refine lv_aload_n hx hb dL_law_884 rfl (lv_at hl 2 rfl) ?_
  refine lv_aload_n hx hb dL_law_885 rfl (lv_at hl 0 rfl) ?_
  refine lv_iload_n hx hb dL_law_886 rfl (lv_at hl 3 rfl) ?_
  refine lv_iconst (v := 1) hx hb dL_law_887 (by decide) ?_
  refine lv_iadd hx hb dL_law_888 ?_
  refine va_sld hx hb hX hbl hbA hS (lw_in hi hL (j := 1) (by decide) rfl) dL_law_889 ?_
  refine lv_aload_n hx hb dL_law_890 rfl (lv_at hl 0 rfl) ?_
  refine lv_iload_n hx hb dL_law_891 rfl (lv_at hl 3 rfl) ?_
  refine lv_iconst (v := 2) hx hb dL_law_892 (by decide) ?_
  refine lv_iadd hx hb dL_law_893 ?_
  refine va_sld hx hb hX hbl hbA hS (lw_in hi hL (j := 2) (by decide) rfl) dL_law_894 ?_
  refine lv_aload_n hx hb dL_law_895 rfl (lv_at hl 0 rfl) ?_
  refine lv_iload_n hx hb dL_law_896 rfl (lv_at hl 3 rfl) ?_
  refine lv_iconst (v := 3) hx hb dL_law_897 (by decide) ?_
  refine lv_iadd hx hb dL_law_898 ?_
  refine va_sld hx hb hX hbl hbA hS (lw_in hi hL (j := 3) (by decide) rfl) dL_law_899 ?_
  refine lv_if_eq (tgt := 907) hx hb dL_law_900 (by decide) (fun q => absurd q h3) (fun q => ?_)
  refine lv_iconst (v := 1) hx hb dL_law_903 (by decide) ?_
  refine lv_goto (tgt := 908) hx hb dL_law_904 (by decide) ?_
  refine lw_callV (d := 100) (rest := [.int r]) (st1 := [.int r, .int r]) ⟨hx, hb, hml, hown, hts⟩ hK (by decide) (by decide) hS hR hM2 yk_X7_seen in_X7_seen se_X7_seen ml_L_111 (lk_35 hLL1) rfl rfl (by omega) rfl hl.1 (Nat.le_of_ble_eq_true rfl) rfl rfl hc hz hq2.1 hq2.2.1 (by show _ ≤ 600000; omega) (by show _ ≤ 7302250; omega) dL_law_908 (fun H locs cells slots hc hz hR hS => ?_)
  refine lv_icmp_eq (tgt := 1087) hx hb dL_law_911 (by decide) (fun q => ?_) (fun q => absurd rfl q)
  exact hnext lay2 I2 J2 hI2 H locs cells slots ls hc hz hR hS hl
set_option maxRecDepth 100000 in
set_option maxHeartbeats 4000000 in
theorem law_23 {p : Program} {l : Launch} {e : Env} {s : State} {m : MethodId} {below : List Frame} {meth : Method} {c : Code} {E : ax_E} {B b L i : Nat} {xs : Nat → Int32} {Inv : Nat → List ax_S → ax_I → ax_J → Prop} (hL : L ≤ 448) (hi : i + 7 ≤ L) (C0 : lw_At p s m meth c b L xs) (hK : ax_K E s) (hB : B = s.heap.size) (hInv : ∀ lay I J, Inv B lay I J → ax_LL B lay) (hop : OpV Inv .int isI yX6_forget cX6_forget 2 yX7_forget cX7_forget 2 []) (hnext : ∀ (lay : List ax_S) (I : ax_I) (J : ax_J), Inv B lay I J → AX p l e room_1 s m #[Value.ref b] below meth c E B 0 0 4 (lw_Z below #[Value.ref b] s) lay I J 1087 [(0, .ref b), (1, .ref (B + 0)), (2, .ref (B + 35)), (3, .int (nI i))] []) : ∀ (lay : List ax_S) (I : ax_I) (J : ax_J), Inv B lay I J → AX p l e room_1 s m #[Value.ref b] below meth c E B 0 0 4 (lw_Z below #[Value.ref b] s) lay I J 916 [(0, .ref b), (1, .ref (B + 0)), (2, .ref (B + 35)), (3, .int (nI i))] [] := by
  obtain ⟨hx, hb, hr, hml, hown, hts0, hX, hbl, hlocks, hgv⟩ := id C0
  have hown : s.vm.findClass RL = some m.cls := hown
  have hts : ∀ w ∈ ax_g, w.before #[Value.ref b] s = true := fun w hw => hts0 w (lw_tg hw)
  have hbA : ¬ (fun q : Nat => B ≤ q) b := by show ¬ B ≤ b; omega
  intro lay I J hI H locs cells slots ls hc hz hR hS hl
  have hLL := hInv lay I J hI
  obtain ⟨r, d1, d2, lay1, I1, J1, lay2, I2, J2, ⟨r, rfl⟩, hd1, hd2, hM1, hM2, hq1, hq2, hI2⟩ := hop l E B lay I J hI
  have hLL1 := hq1.2.2.2.2
  refine lv_aload_n hx hb dL_law_916 rfl (lv_at hl 1 rfl) ?_
  refine lw_callV (d := 100) (rest := []) (st1 := [.int r]) ⟨hx, hb, hml, hown, hts⟩ hK (by decide) (by decide) hS hR hM1 yk_X6_forget in_X6_forget se_X6_forget ml_L_112 (lk_0 hLL) rfl rfl (by omega) rfl hl.1 (Nat.le_of_ble_eq_true rfl) rfl rfl hc hz hq1.1 hq1.2.1 (by show _ ≤ 600000; omega) (by show _ ≤ 7302250; omega) dL_law_917 (fun H locs cells slots hc hz hR hS => ?_)
  refine lv_aload_n hx hb dL_law_920 rfl (lv_at hl 2 rfl) ?_
  refine lw_callV (d := 100) (rest := [.int r]) (st1 := [.int r, .int r]) ⟨hx, hb, hml, hown, hts⟩ hK (by decide) (by decide) hS hR hM2 yk_X7_forget in_X7_forget se_X7_forget ml_L_115 (lk_35 hLL1) rfl rfl (by omega) rfl hl.1 (Nat.le_of_ble_eq_true rfl) rfl rfl hc hz hq2.1 hq2.2.1 (by show _ ≤ 600000; omega) (by show _ ≤ 7302250; omega) dL_law_921 (fun H locs cells slots hc hz hR hS => ?_)
  refine lv_icmp_eq (tgt := 1087) hx hb dL_law_924 (by decide) (fun q => ?_) (fun q => absurd rfl q)
  exact hnext lay2 I2 J2 hI2 H locs cells slots ls hc hz hR hS hl
set_option maxRecDepth 100000 in
set_option maxHeartbeats 4000000 in
theorem law_24 {p : Program} {l : Launch} {e : Env} {s : State} {m : MethodId} {below : List Frame} {meth : Method} {c : Code} {E : ax_E} {B b L i : Nat} {xs : Nat → Int32} {Inv : Nat → List ax_S → ax_I → ax_J → Prop} (hL : L ≤ 448) (hi : i + 7 ≤ L) (C0 : lw_At p s m meth c b L xs) (hK : ax_K E s) (hB : B = s.heap.size) (hInv : ∀ lay I J, Inv B lay I J → ax_LL B lay) (hop : OpV Inv .int isI yX6_laws cX6_laws 2 yX7_laws cX7_laws 4 [.int (xs (nI i + 1).toNatClampNeg)]) (hnext : ∀ (lay : List ax_S) (I : ax_I) (J : ax_J), Inv B lay I J → AX p l e room_1 s m #[Value.ref b] below meth c E B 0 0 4 (lw_Z below #[Value.ref b] s) lay I J 1087 [(0, .ref b), (1, .ref (B + 0)), (2, .ref (B + 35)), (3, .int (nI i))] []) : ∀ (lay : List ax_S) (I : ax_I) (J : ax_J), Inv B lay I J → AX p l e room_1 s m #[Value.ref b] below meth c E B 0 0 4 (lw_Z below #[Value.ref b] s) lay I J 929 [(0, .ref b), (1, .ref (B + 0)), (2, .ref (B + 35)), (3, .int (nI i))] [] := by
  obtain ⟨hx, hb, hr, hml, hown, hts0, hX, hbl, hlocks, hgv⟩ := id C0
  have hown : s.vm.findClass RL = some m.cls := hown
  have hts : ∀ w ∈ ax_g, w.before #[Value.ref b] s = true := fun w hw => hts0 w (lw_tg hw)
  have hbA : ¬ (fun q : Nat => B ≤ q) b := by show ¬ B ≤ b; omega
  intro lay I J hI H locs cells slots ls hc hz hR hS hl
  have hLL := hInv lay I J hI
  obtain ⟨r, d1, d2, lay1, I1, J1, lay2, I2, J2, ⟨r, rfl⟩, hd1, hd2, hM1, hM2, hq1, hq2, hI2⟩ := hop l E B lay I J hI
  have hLL1 := hq1.2.2.2.2
  refine lv_aload_n hx hb dL_law_929 rfl (lv_at hl 1 rfl) ?_
  refine lv_aload_n hx hb dL_law_930 rfl (lv_at hl 0 rfl) ?_
  refine lv_iload_n hx hb dL_law_931 rfl (lv_at hl 3 rfl) ?_
  refine lv_iconst (v := 1) hx hb dL_law_932 (by decide) ?_
  refine lv_iadd hx hb dL_law_933 ?_
  refine va_sld hx hb hX hbl hbA hS (lw_in hi hL (j := 1) (by decide) rfl) dL_law_934 ?_
  refine lw_callV (d := 100) (rest := []) (st1 := [.int r]) ⟨hx, hb, hml, hown, hts⟩ hK (by decide) (by decide) hS hR hM1 yk_X6_laws in_X6_laws se_X6_laws ml_L_116 (lk_0 hLL) rfl rfl (by omega) rfl hl.1 (Nat.le_of_ble_eq_true rfl) rfl rfl hc hz hq1.1 hq1.2.1 (by show _ ≤ 600000; omega) (by show _ ≤ 7302250; omega) dL_law_935 (fun H locs cells slots hc hz hR hS => ?_)
  refine lv_aload_n hx hb dL_law_938 rfl (lv_at hl 2 rfl) ?_
  refine lv_aload_n hx hb dL_law_939 rfl (lv_at hl 0 rfl) ?_
  refine lv_iload_n hx hb dL_law_940 rfl (lv_at hl 3 rfl) ?_
  refine lv_iconst (v := 1) hx hb dL_law_941 (by decide) ?_
  refine lv_iadd hx hb dL_law_942 ?_
  refine va_sld hx hb hX hbl hbA hS (lw_in hi hL (j := 1) (by decide) rfl) dL_law_943 ?_
  refine lw_callV (d := 100) (rest := [.int r]) (st1 := [.int r, .int r]) ⟨hx, hb, hml, hown, hts⟩ hK (by decide) (by decide) hS hR hM2 yk_X7_laws in_X7_laws se_X7_laws ml_L_119 (lk_35 hLL1) rfl rfl (by omega) rfl hl.1 (Nat.le_of_ble_eq_true rfl) rfl rfl hc hz hq2.1 hq2.2.1 (by show _ ≤ 600000; omega) (by show _ ≤ 7302250; omega) dL_law_944 (fun H locs cells slots hc hz hR hS => ?_)
  refine lv_icmp_eq (tgt := 1087) hx hb dL_law_947 (by decide) (fun q => ?_) (fun q => absurd rfl q)
  exact hnext lay2 I2 J2 hI2 H locs cells slots ls hc hz hR hS hl
set_option maxRecDepth 100000 in
set_option maxHeartbeats 4000000 in
theorem law_25 {p : Program} {l : Launch} {e : Env} {s : State} {m : MethodId} {below : List Frame} {meth : Method} {c : Code} {E : ax_E} {B b L i : Nat} {xs : Nat → Int32} {Inv : Nat → List ax_S → ax_I → ax_J → Prop} (hL : L ≤ 448) (hi : i + 7 ≤ L) (C0 : lw_At p s m meth c b L xs) (hK : ax_K E s) (hB : B = s.heap.size) (hInv : ∀ lay I J, Inv B lay I J → ax_LL B lay) (hop : OpV Inv .int isI yX6_ask cX6_ask 7 yX7_ask cX7_ask 6 [.int (xs (nI i + 1).toNatClampNeg)]) (hnext : ∀ (lay : List ax_S) (I : ax_I) (J : ax_J), Inv B lay I J → AX p l e room_1 s m #[Value.ref b] below meth c E B 0 0 4 (lw_Z below #[Value.ref b] s) lay I J 1087 [(0, .ref b), (1, .ref (B + 0)), (2, .ref (B + 35)), (3, .int (nI i))] []) : ∀ (lay : List ax_S) (I : ax_I) (J : ax_J), Inv B lay I J → AX p l e room_1 s m #[Value.ref b] below meth c E B 0 0 4 (lw_Z below #[Value.ref b] s) lay I J 952 [(0, .ref b), (1, .ref (B + 0)), (2, .ref (B + 35)), (3, .int (nI i))] [] := by
  obtain ⟨hx, hb, hr, hml, hown, hts0, hX, hbl, hlocks, hgv⟩ := id C0
  have hown : s.vm.findClass RL = some m.cls := hown
  have hts : ∀ w ∈ ax_g, w.before #[Value.ref b] s = true := fun w hw => hts0 w (lw_tg hw)
  have hbA : ¬ (fun q : Nat => B ≤ q) b := by show ¬ B ≤ b; omega
  intro lay I J hI H locs cells slots ls hc hz hR hS hl
  have hLL := hInv lay I J hI
  obtain ⟨r, d1, d2, lay1, I1, J1, lay2, I2, J2, ⟨r, rfl⟩, hd1, hd2, hM1, hM2, hq1, hq2, hI2⟩ := hop l E B lay I J hI
  have hLL1 := hq1.2.2.2.2
  refine lv_aload_n hx hb dL_law_952 rfl (lv_at hl 1 rfl) ?_
  refine lv_aload_n hx hb dL_law_953 rfl (lv_at hl 0 rfl) ?_
  refine lv_iload_n hx hb dL_law_954 rfl (lv_at hl 3 rfl) ?_
  refine lv_iconst (v := 1) hx hb dL_law_955 (by decide) ?_
  refine lv_iadd hx hb dL_law_956 ?_
  refine va_sld hx hb hX hbl hbA hS (lw_in hi hL (j := 1) (by decide) rfl) dL_law_957 ?_
  refine lw_callV (d := 100) (rest := []) (st1 := [.int r]) ⟨hx, hb, hml, hown, hts⟩ hK (by decide) (by decide) hS hR hM1 yk_X6_ask in_X6_ask se_X6_ask ml_L_120 (lk_0 hLL) rfl rfl (by omega) rfl hl.1 (Nat.le_of_ble_eq_true rfl) rfl rfl hc hz hq1.1 hq1.2.1 (by show _ ≤ 600000; omega) (by show _ ≤ 7302250; omega) dL_law_958 (fun H locs cells slots hc hz hR hS => ?_)
  refine lv_aload_n hx hb dL_law_961 rfl (lv_at hl 2 rfl) ?_
  refine lv_aload_n hx hb dL_law_962 rfl (lv_at hl 0 rfl) ?_
  refine lv_iload_n hx hb dL_law_963 rfl (lv_at hl 3 rfl) ?_
  refine lv_iconst (v := 1) hx hb dL_law_964 (by decide) ?_
  refine lv_iadd hx hb dL_law_965 ?_
  refine va_sld hx hb hX hbl hbA hS (lw_in hi hL (j := 1) (by decide) rfl) dL_law_966 ?_
  refine lw_callV (d := 100) (rest := [.int r]) (st1 := [.int r, .int r]) ⟨hx, hb, hml, hown, hts⟩ hK (by decide) (by decide) hS hR hM2 yk_X7_ask in_X7_ask se_X7_ask ml_L_123 (lk_35 hLL1) rfl rfl (by omega) rfl hl.1 (Nat.le_of_ble_eq_true rfl) rfl rfl hc hz hq2.1 hq2.2.1 (by show _ ≤ 600000; omega) (by show _ ≤ 7302250; omega) dL_law_967 (fun H locs cells slots hc hz hR hS => ?_)
  refine lv_icmp_eq (tgt := 1087) hx hb dL_law_970 (by decide) (fun q => ?_) (fun q => absurd rfl q)
  exact hnext lay2 I2 J2 hI2 H locs cells slots ls hc hz hR hS hl
set_option maxRecDepth 100000 in
set_option maxHeartbeats 4000000 in
theorem law_26 {p : Program} {l : Launch} {e : Env} {s : State} {m : MethodId} {below : List Frame} {meth : Method} {c : Code} {E : ax_E} {B b L i : Nat} {xs : Nat → Int32} {Inv : Nat → List ax_S → ax_I → ax_J → Prop} (hL : L ≤ 448) (hi : i + 7 ≤ L) (C0 : lw_At p s m meth c b L xs) (hK : ax_K E s) (hB : B = s.heap.size) (hInv : ∀ lay I J, Inv B lay I J → ax_LL B lay) (hop : OpV Inv .int isI yX6_book cX6_book 6 yX7_book cX7_book 10 [.int (xs (nI i + 1).toNatClampNeg), .int (xs (nI i + 2).toNatClampNeg), .int (xs (nI i + 3).toNatClampNeg)]) (hnext : ∀ (lay : List ax_S) (I : ax_I) (J : ax_J), Inv B lay I J → AX p l e room_1 s m #[Value.ref b] below meth c E B 0 0 4 (lw_Z below #[Value.ref b] s) lay I J 1087 [(0, .ref b), (1, .ref (B + 0)), (2, .ref (B + 35)), (3, .int (nI i))] []) : ∀ (lay : List ax_S) (I : ax_I) (J : ax_J), Inv B lay I J → AX p l e room_1 s m #[Value.ref b] below meth c E B 0 0 4 (lw_Z below #[Value.ref b] s) lay I J 975 [(0, .ref b), (1, .ref (B + 0)), (2, .ref (B + 35)), (3, .int (nI i))] [] := by
  obtain ⟨hx, hb, hr, hml, hown, hts0, hX, hbl, hlocks, hgv⟩ := id C0
  have hown : s.vm.findClass RL = some m.cls := hown
  have hts : ∀ w ∈ ax_g, w.before #[Value.ref b] s = true := fun w hw => hts0 w (lw_tg hw)
  have hbA : ¬ (fun q : Nat => B ≤ q) b := by show ¬ B ≤ b; omega
  intro lay I J hI H locs cells slots ls hc hz hR hS hl
  have hLL := hInv lay I J hI
  obtain ⟨r, d1, d2, lay1, I1, J1, lay2, I2, J2, ⟨r, rfl⟩, hd1, hd2, hM1, hM2, hq1, hq2, hI2⟩ := hop l E B lay I J hI
  have hLL1 := hq1.2.2.2.2
  refine lv_aload_n hx hb dL_law_975 rfl (lv_at hl 1 rfl) ?_
  refine lv_aload_n hx hb dL_law_976 rfl (lv_at hl 0 rfl) ?_
  refine lv_iload_n hx hb dL_law_977 rfl (lv_at hl 3 rfl) ?_
  refine lv_iconst (v := 1) hx hb dL_law_978 (by decide) ?_
  refine lv_iadd hx hb dL_law_979 ?_
  refine va_sld hx hb hX hbl hbA hS (lw_in hi hL (j := 1) (by decide) rfl) dL_law_980 ?_
  refine lv_aload_n hx hb dL_law_981 rfl (lv_at hl 0 rfl) ?_
  refine lv_iload_n hx hb dL_law_982 rfl (lv_at hl 3 rfl) ?_
  refine lv_iconst (v := 2) hx hb dL_law_983 (by decide) ?_
  refine lv_iadd hx hb dL_law_984 ?_
  refine va_sld hx hb hX hbl hbA hS (lw_in hi hL (j := 2) (by decide) rfl) dL_law_985 ?_
  refine lv_aload_n hx hb dL_law_986 rfl (lv_at hl 0 rfl) ?_
  refine lv_iload_n hx hb dL_law_987 rfl (lv_at hl 3 rfl) ?_
  refine lv_iconst (v := 3) hx hb dL_law_988 (by decide) ?_
  refine lv_iadd hx hb dL_law_989 ?_
  refine va_sld hx hb hX hbl hbA hS (lw_in hi hL (j := 3) (by decide) rfl) dL_law_990 ?_
  refine lw_callV (d := 100) (rest := []) (st1 := [.int r]) ⟨hx, hb, hml, hown, hts⟩ hK (by decide) (by decide) hS hR hM1 yk_X6_book in_X6_book se_X6_book ml_L_124 (lk_0 hLL) rfl rfl (by omega) rfl hl.1 (Nat.le_of_ble_eq_true rfl) rfl rfl hc hz hq1.1 hq1.2.1 (by show _ ≤ 600000; omega) (by show _ ≤ 7302250; omega) dL_law_991 (fun H locs cells slots hc hz hR hS => ?_)
  refine lv_aload_n hx hb dL_law_994 rfl (lv_at hl 2 rfl) ?_
  refine lv_aload_n hx hb dL_law_995 rfl (lv_at hl 0 rfl) ?_
  refine lv_iload_n hx hb dL_law_996 rfl (lv_at hl 3 rfl) ?_
  refine lv_iconst (v := 1) hx hb dL_law_997 (by decide) ?_
  refine lv_iadd hx hb dL_law_998 ?_
  refine va_sld hx hb hX hbl hbA hS (lw_in hi hL (j := 1) (by decide) rfl) dL_law_999 ?_
  refine lv_aload_n hx hb dL_law_1000 rfl (lv_at hl 0 rfl) ?_
  refine lv_iload_n hx hb dL_law_1001 rfl (lv_at hl 3 rfl) ?_
  refine lv_iconst (v := 2) hx hb dL_law_1002 (by decide) ?_
  refine lv_iadd hx hb dL_law_1003 ?_
  refine va_sld hx hb hX hbl hbA hS (lw_in hi hL (j := 2) (by decide) rfl) dL_law_1004 ?_
  refine lv_aload_n hx hb dL_law_1005 rfl (lv_at hl 0 rfl) ?_
  refine lv_iload_n hx hb dL_law_1006 rfl (lv_at hl 3 rfl) ?_
  refine lv_iconst (v := 3) hx hb dL_law_1007 (by decide) ?_
  refine lv_iadd hx hb dL_law_1008 ?_
  refine va_sld hx hb hX hbl hbA hS (lw_in hi hL (j := 3) (by decide) rfl) dL_law_1009 ?_
  refine lw_callV (d := 100) (rest := [.int r]) (st1 := [.int r, .int r]) ⟨hx, hb, hml, hown, hts⟩ hK (by decide) (by decide) hS hR hM2 yk_X7_book in_X7_book se_X7_book ml_L_127 (lk_35 hLL1) rfl rfl (by omega) rfl hl.1 (Nat.le_of_ble_eq_true rfl) rfl rfl hc hz hq2.1 hq2.2.1 (by show _ ≤ 600000; omega) (by show _ ≤ 7302250; omega) dL_law_1010 (fun H locs cells slots hc hz hR hS => ?_)
  refine lv_icmp_eq (tgt := 1087) hx hb dL_law_1013 (by decide) (fun q => ?_) (fun q => absurd rfl q)
  exact hnext lay2 I2 J2 hI2 H locs cells slots ls hc hz hR hS hl
set_option maxRecDepth 100000 in
set_option maxHeartbeats 4000000 in
theorem law_27 {p : Program} {l : Launch} {e : Env} {s : State} {m : MethodId} {below : List Frame} {meth : Method} {c : Code} {E : ax_E} {B b L i : Nat} {xs : Nat → Int32} {Inv : Nat → List ax_S → ax_I → ax_J → Prop} (hL : L ≤ 448) (hi : i + 7 ≤ L) (C0 : lw_At p s m meth c b L xs) (hK : ax_K E s) (hB : B = s.heap.size) (hInv : ∀ lay I J, Inv B lay I J → ax_LL B lay) (hop : OpV Inv .int isI yX6_image cX6_image 3 yX7_image cX7_image 2 [.int (xs (nI i + 1).toNatClampNeg)]) (hnext : ∀ (lay : List ax_S) (I : ax_I) (J : ax_J), Inv B lay I J → AX p l e room_1 s m #[Value.ref b] below meth c E B 0 0 4 (lw_Z below #[Value.ref b] s) lay I J 1087 [(0, .ref b), (1, .ref (B + 0)), (2, .ref (B + 35)), (3, .int (nI i))] []) : ∀ (lay : List ax_S) (I : ax_I) (J : ax_J), Inv B lay I J → AX p l e room_1 s m #[Value.ref b] below meth c E B 0 0 4 (lw_Z below #[Value.ref b] s) lay I J 1018 [(0, .ref b), (1, .ref (B + 0)), (2, .ref (B + 35)), (3, .int (nI i))] [] := by
  obtain ⟨hx, hb, hr, hml, hown, hts0, hX, hbl, hlocks, hgv⟩ := id C0
  have hown : s.vm.findClass RL = some m.cls := hown
  have hts : ∀ w ∈ ax_g, w.before #[Value.ref b] s = true := fun w hw => hts0 w (lw_tg hw)
  have hbA : ¬ (fun q : Nat => B ≤ q) b := by show ¬ B ≤ b; omega
  intro lay I J hI H locs cells slots ls hc hz hR hS hl
  have hLL := hInv lay I J hI
  obtain ⟨r, d1, d2, lay1, I1, J1, lay2, I2, J2, ⟨r, rfl⟩, hd1, hd2, hM1, hM2, hq1, hq2, hI2⟩ := hop l E B lay I J hI
  have hLL1 := hq1.2.2.2.2
  refine lv_aload_n hx hb dL_law_1018 rfl (lv_at hl 1 rfl) ?_
  refine lv_aload_n hx hb dL_law_1019 rfl (lv_at hl 0 rfl) ?_
  refine lv_iload_n hx hb dL_law_1020 rfl (lv_at hl 3 rfl) ?_
  refine lv_iconst (v := 1) hx hb dL_law_1021 (by decide) ?_
  refine lv_iadd hx hb dL_law_1022 ?_
  refine va_sld hx hb hX hbl hbA hS (lw_in hi hL (j := 1) (by decide) rfl) dL_law_1023 ?_
  refine lw_callV (d := 100) (rest := []) (st1 := [.int r]) ⟨hx, hb, hml, hown, hts⟩ hK (by decide) (by decide) hS hR hM1 yk_X6_image in_X6_image se_X6_image ml_L_128 (lk_0 hLL) rfl rfl (by omega) rfl hl.1 (Nat.le_of_ble_eq_true rfl) rfl rfl hc hz hq1.1 hq1.2.1 (by show _ ≤ 600000; omega) (by show _ ≤ 7302250; omega) dL_law_1024 (fun H locs cells slots hc hz hR hS => ?_)
  refine lv_aload_n hx hb dL_law_1027 rfl (lv_at hl 2 rfl) ?_
  refine lv_aload_n hx hb dL_law_1028 rfl (lv_at hl 0 rfl) ?_
  refine lv_iload_n hx hb dL_law_1029 rfl (lv_at hl 3 rfl) ?_
  refine lv_iconst (v := 1) hx hb dL_law_1030 (by decide) ?_
  refine lv_iadd hx hb dL_law_1031 ?_
  refine va_sld hx hb hX hbl hbA hS (lw_in hi hL (j := 1) (by decide) rfl) dL_law_1032 ?_
  refine lw_callV (d := 100) (rest := [.int r]) (st1 := [.int r, .int r]) ⟨hx, hb, hml, hown, hts⟩ hK (by decide) (by decide) hS hR hM2 yk_X7_image in_X7_image se_X7_image ml_L_131 (lk_35 hLL1) rfl rfl (by omega) rfl hl.1 (Nat.le_of_ble_eq_true rfl) rfl rfl hc hz hq2.1 hq2.2.1 (by show _ ≤ 600000; omega) (by show _ ≤ 7302250; omega) dL_law_1033 (fun H locs cells slots hc hz hR hS => ?_)
  refine lv_icmp_eq (tgt := 1087) hx hb dL_law_1036 (by decide) (fun q => ?_) (fun q => absurd rfl q)
  exact hnext lay2 I2 J2 hI2 H locs cells slots ls hc hz hR hS hl
set_option maxRecDepth 100000 in
set_option maxHeartbeats 4000000 in
theorem law_28 {p : Program} {l : Launch} {e : Env} {s : State} {m : MethodId} {below : List Frame} {meth : Method} {c : Code} {E : ax_E} {B b L i : Nat} {xs : Nat → Int32} {Inv : Nat → List ax_S → ax_I → ax_J → Prop} (hL : L ≤ 448) (hi : i + 7 ≤ L) (C0 : lw_At p s m meth c b L xs) (hK : ax_K E s) (hB : B = s.heap.size) (hInv : ∀ lay I J, Inv B lay I J → ax_LL B lay) (hop : OpV Inv .int isI yX6_restore cX6_restore 3 yX7_restore cX7_restore 2 [.int (xs (nI i + 1).toNatClampNeg)]) (hnext : ∀ (lay : List ax_S) (I : ax_I) (J : ax_J), Inv B lay I J → AX p l e room_1 s m #[Value.ref b] below meth c E B 0 0 4 (lw_Z below #[Value.ref b] s) lay I J 1087 [(0, .ref b), (1, .ref (B + 0)), (2, .ref (B + 35)), (3, .int (nI i))] []) : ∀ (lay : List ax_S) (I : ax_I) (J : ax_J), Inv B lay I J → AX p l e room_1 s m #[Value.ref b] below meth c E B 0 0 4 (lw_Z below #[Value.ref b] s) lay I J 1041 [(0, .ref b), (1, .ref (B + 0)), (2, .ref (B + 35)), (3, .int (nI i))] [] := by
  obtain ⟨hx, hb, hr, hml, hown, hts0, hX, hbl, hlocks, hgv⟩ := id C0
  have hown : s.vm.findClass RL = some m.cls := hown
  have hts : ∀ w ∈ ax_g, w.before #[Value.ref b] s = true := fun w hw => hts0 w (lw_tg hw)
  have hbA : ¬ (fun q : Nat => B ≤ q) b := by show ¬ B ≤ b; omega
  intro lay I J hI H locs cells slots ls hc hz hR hS hl
  have hLL := hInv lay I J hI
  obtain ⟨r, d1, d2, lay1, I1, J1, lay2, I2, J2, ⟨r, rfl⟩, hd1, hd2, hM1, hM2, hq1, hq2, hI2⟩ := hop l E B lay I J hI
  have hLL1 := hq1.2.2.2.2
  refine lv_aload_n hx hb dL_law_1041 rfl (lv_at hl 1 rfl) ?_
  refine lv_aload_n hx hb dL_law_1042 rfl (lv_at hl 0 rfl) ?_
  refine lv_iload_n hx hb dL_law_1043 rfl (lv_at hl 3 rfl) ?_
  refine lv_iconst (v := 1) hx hb dL_law_1044 (by decide) ?_
  refine lv_iadd hx hb dL_law_1045 ?_
  refine va_sld hx hb hX hbl hbA hS (lw_in hi hL (j := 1) (by decide) rfl) dL_law_1046 ?_
  refine lw_callV (d := 100) (rest := []) (st1 := [.int r]) ⟨hx, hb, hml, hown, hts⟩ hK (by decide) (by decide) hS hR hM1 yk_X6_restore in_X6_restore se_X6_restore ml_L_132 (lk_0 hLL) rfl rfl (by omega) rfl hl.1 (Nat.le_of_ble_eq_true rfl) rfl rfl hc hz hq1.1 hq1.2.1 (by show _ ≤ 600000; omega) (by show _ ≤ 7302250; omega) dL_law_1047 (fun H locs cells slots hc hz hR hS => ?_)
  refine lv_aload_n hx hb dL_law_1050 rfl (lv_at hl 2 rfl) ?_
  refine lv_aload_n hx hb dL_law_1051 rfl (lv_at hl 0 rfl) ?_
  refine lv_iload_n hx hb dL_law_1052 rfl (lv_at hl 3 rfl) ?_
  refine lv_iconst (v := 1) hx hb dL_law_1053 (by decide) ?_
  refine lv_iadd hx hb dL_law_1054 ?_
  refine va_sld hx hb hX hbl hbA hS (lw_in hi hL (j := 1) (by decide) rfl) dL_law_1055 ?_
  refine lw_callV (d := 100) (rest := [.int r]) (st1 := [.int r, .int r]) ⟨hx, hb, hml, hown, hts⟩ hK (by decide) (by decide) hS hR hM2 yk_X7_restore in_X7_restore se_X7_restore ml_L_135 (lk_35 hLL1) rfl rfl (by omega) rfl hl.1 (Nat.le_of_ble_eq_true rfl) rfl rfl hc hz hq2.1 hq2.2.1 (by show _ ≤ 600000; omega) (by show _ ≤ 7302250; omega) dL_law_1056 (fun H locs cells slots hc hz hR hS => ?_)
  refine lv_icmp_eq (tgt := 1087) hx hb dL_law_1059 (by decide) (fun q => ?_) (fun q => absurd rfl q)
  exact hnext lay2 I2 J2 hI2 H locs cells slots ls hc hz hR hS hl
set_option maxRecDepth 100000 in
set_option maxHeartbeats 4000000 in
theorem law_29 {p : Program} {l : Launch} {e : Env} {s : State} {m : MethodId} {below : List Frame} {meth : Method} {c : Code} {E : ax_E} {B b L i : Nat} {xs : Nat → Int32} {Inv : Nat → List ax_S → ax_I → ax_J → Prop} (hL : L ≤ 448) (hi : i + 7 ≤ L) (C0 : lw_At p s m meth c b L xs) (hK : ax_K E s) (hB : B = s.heap.size) (hInv : ∀ lay I J, Inv B lay I J → ax_LL B lay) (hop : OpV Inv .int isI yX6_told cX6_told 2 yX7_told cX7_told 3 [.int (xs (nI i + 1).toNatClampNeg)]) (hnext : ∀ (lay : List ax_S) (I : ax_I) (J : ax_J), Inv B lay I J → AX p l e room_1 s m #[Value.ref b] below meth c E B 0 0 4 (lw_Z below #[Value.ref b] s) lay I J 1087 [(0, .ref b), (1, .ref (B + 0)), (2, .ref (B + 35)), (3, .int (nI i))] []) : ∀ (lay : List ax_S) (I : ax_I) (J : ax_J), Inv B lay I J → AX p l e room_1 s m #[Value.ref b] below meth c E B 0 0 4 (lw_Z below #[Value.ref b] s) lay I J 1064 [(0, .ref b), (1, .ref (B + 0)), (2, .ref (B + 35)), (3, .int (nI i))] [] := by
  obtain ⟨hx, hb, hr, hml, hown, hts0, hX, hbl, hlocks, hgv⟩ := id C0
  have hown : s.vm.findClass RL = some m.cls := hown
  have hts : ∀ w ∈ ax_g, w.before #[Value.ref b] s = true := fun w hw => hts0 w (lw_tg hw)
  have hbA : ¬ (fun q : Nat => B ≤ q) b := by show ¬ B ≤ b; omega
  intro lay I J hI H locs cells slots ls hc hz hR hS hl
  have hLL := hInv lay I J hI
  obtain ⟨r, d1, d2, lay1, I1, J1, lay2, I2, J2, ⟨r, rfl⟩, hd1, hd2, hM1, hM2, hq1, hq2, hI2⟩ := hop l E B lay I J hI
  have hLL1 := hq1.2.2.2.2
  refine lv_aload_n hx hb dL_law_1064 rfl (lv_at hl 1 rfl) ?_
  refine lv_aload_n hx hb dL_law_1065 rfl (lv_at hl 0 rfl) ?_
  refine lv_iload_n hx hb dL_law_1066 rfl (lv_at hl 3 rfl) ?_
  refine lv_iconst (v := 1) hx hb dL_law_1067 (by decide) ?_
  refine lv_iadd hx hb dL_law_1068 ?_
  refine va_sld hx hb hX hbl hbA hS (lw_in hi hL (j := 1) (by decide) rfl) dL_law_1069 ?_
  refine lw_callV (d := 100) (rest := []) (st1 := [.int r]) ⟨hx, hb, hml, hown, hts⟩ hK (by decide) (by decide) hS hR hM1 yk_X6_told in_X6_told se_X6_told ml_L_136 (lk_0 hLL) rfl rfl (by omega) rfl hl.1 (Nat.le_of_ble_eq_true rfl) rfl rfl hc hz hq1.1 hq1.2.1 (by show _ ≤ 600000; omega) (by show _ ≤ 7302250; omega) dL_law_1070 (fun H locs cells slots hc hz hR hS => ?_)
  refine lv_aload_n hx hb dL_law_1073 rfl (lv_at hl 2 rfl) ?_
  refine lv_aload_n hx hb dL_law_1074 rfl (lv_at hl 0 rfl) ?_
  refine lv_iload_n hx hb dL_law_1075 rfl (lv_at hl 3 rfl) ?_
  refine lv_iconst (v := 1) hx hb dL_law_1076 (by decide) ?_
  refine lv_iadd hx hb dL_law_1077 ?_
  refine va_sld hx hb hX hbl hbA hS (lw_in hi hL (j := 1) (by decide) rfl) dL_law_1078 ?_
  refine lw_callV (d := 100) (rest := [.int r]) (st1 := [.int r, .int r]) ⟨hx, hb, hml, hown, hts⟩ hK (by decide) (by decide) hS hR hM2 yk_X7_told in_X7_told se_X7_told ml_L_139 (lk_35 hLL1) rfl rfl (by omega) rfl hl.1 (Nat.le_of_ble_eq_true rfl) rfl rfl hc hz hq2.1 hq2.2.1 (by show _ ≤ 600000; omega) (by show _ ≤ 7302250; omega) dL_law_1079 (fun H locs cells slots hc hz hR hS => ?_)
  refine lv_icmp_eq (tgt := 1087) hx hb dL_law_1082 (by decide) (fun q => ?_) (fun q => absurd rfl q)
  exact hnext lay2 I2 J2 hI2 H locs cells slots ls hc hz hR hS hl
