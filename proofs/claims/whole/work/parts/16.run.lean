section GEN
variable {p : Program} {l : Launch} {e : Env} {R : Room} {s : State} {m : MethodId} {args : Array Value} {below : List Frame} {meth : Method} {c : Code} {E : ax_E} {B mc ms : Nat}
def f_X7_odds_93 (I : ax_I) (J : ax_J) : Option (Int64 × ax_J) :=
  some ((-1000000000000000002), J)
def f_X7_odds_123 (r100 : ax_I → ax_J → Int32 → Int32 → Int32 → Int32 → Int32 → Int32 → Int32 → Option (Int64 × ax_J)) (I : ax_I) (J : ax_J) (x1 : Int32) (x2 : Int32) (x3 : Int32) (x4 : Int32) (x5 : Int32) (x6 : Int32) (x8 : Int32) (s0 : Int64) (s1 : Int32) : Option (Int64 × ax_J) :=
  if ax_in s1 81 = true then r100 I (ax_v J 57 s1.toNatClampNeg s0) x1 x2 x3 x4 x5 x6 (x8 + 1) else none
def f_X7_odds_157 (r136 : ax_I → ax_J → Int32 → Int32 → Int32 → Int32 → Int32 → Int32 → Int64 → Int32 → Option (Int64 × ax_J)) (I : ax_I) (J : ax_J) (x1 : Int32) (x2 : Int32) (x3 : Int32) (x4 : Int32) (x5 : Int32) (x6 : Int32) (x8 : Int64) (x10 : Int32) (s0 : Int32) (s1 : Int32) : Option (Int64 × ax_J) :=
  (F_X7_yearOdds I J s1 s0).bind (fun q157 => r136 I q157 x1 x2 x3 x4 x5 x6 (x8 * 10) (x10 + 1))
def f_X7_odds_290 (r211 : ax_I → ax_J → Int32 → Int32 → Int64 → Int32 → Int64 → Int32 → Option (Int64 × ax_J)) (I : ax_I) (J : ax_J) (x1 : Int32) (x6 : Int32) (x8 : Int64) (x10 : Int32) (x13 : Int32) (s0 : Int64) (s1 : Int64) : Option (Int64 × ax_J) :=
  r211 I J x1 x6 x8 x10 (s1 + s0) (x13 + 1)
def f_X7_odds_270 (r211 : ax_I → ax_J → Int32 → Int32 → Int64 → Int32 → Int64 → Int32 → Option (Int64 × ax_J)) (I : ax_I) (J : ax_J) (x1 : Int32) (x6 : Int32) (x8 : Int64) (x10 : Int32) (x11 : Int64) (x13 : Int32) (s0 : Int32) : Option (Int64 × ax_J) :=
  if s0 = 0 then f_X7_odds_290 r211 I J x1 x6 x8 x10 x13 0 x11 else if ax_in x13 81 = true then f_X7_odds_290 r211 I J x1 x6 x8 x10 x13 (J 57 x13.toNatClampNeg) x11 else none
def f_X7_odds_269 (r211 : ax_I → ax_J → Int32 → Int32 → Int64 → Int32 → Int64 → Int32 → Option (Int64 × ax_J)) (I : ax_I) (J : ax_J) (x1 : Int32) (x6 : Int32) (x8 : Int64) (x10 : Int32) (x11 : Int64) (x13 : Int32) : Option (Int64 × ax_J) :=
  f_X7_odds_270 r211 I J x1 x6 x8 x10 x11 x13 0
def f_X7_odds_211 : Nat → ax_I → ax_J → Int32 → Int32 → Int64 → Int32 → Int64 → Int32 → Option (Int64 × ax_J)
  | 0, _, _, _, _, _, _, _, _ => none
  | n + 1, I, J, x1, x6, x8, x10, x11, x13 => if 81 ≤ x13 then (F_X7_lowest I x11 x8 x6).bind (fun q305 => some (q305, J)) else if x10 = 0 then f_X7_odds_269 (f_X7_odds_211 n) I J x1 x6 x8 x10 x11 x13 else if ax_in x1 6 = true then if ((I 36 x1.toNatClampNeg) + (x13 / 9)) < (I 45 (0 : Int32).toNatClampNeg) then f_X7_odds_269 (f_X7_odds_211 n) I J x1 x6 x8 x10 x11 x13 else if ax_in x1 6 = true then if (I 45 (1 : Int32).toNatClampNeg) < ((I 37 x1.toNatClampNeg) + (x13 - x13 / 9 * 9)) then f_X7_odds_269 (f_X7_odds_211 n) I J x1 x6 x8 x10 x11 x13 else f_X7_odds_270 (f_X7_odds_211 n) I J x1 x6 x8 x10 x11 x13 1 else none else none
def f_X7_odds_203 (I : ax_I) (J : ax_J) (x1 : Int32) (x6 : Int32) (x8 : Int64) (s0 : Int32) : Option (Int64 × ax_J) :=
  f_X7_odds_211 ax_N I J x1 x6 x8 s0 0 0
def f_X7_odds_202 (I : ax_I) (J : ax_J) (x1 : Int32) (x6 : Int32) (x8 : Int64) : Option (Int64 × ax_J) :=
  f_X7_odds_203 I J x1 x6 x8 0
def f_X7_odds_136 : Nat → ax_I → ax_J → Int32 → Int32 → Int32 → Int32 → Int32 → Int32 → Int64 → Int32 → Option (Int64 × ax_J)
  | 0, _, _, _, _, _, _, _, _, _, _ => none
  | n + 1, I, J, x1, x2, x3, x4, x5, x6, x8, x10 => if x2 ≤ x10 then (if ax_in x1 6 = true then if (I 39 x1.toNatClampNeg) = 0 then (if ax_in x1 6 = true then if (I 38 x1.toNatClampNeg) < (I 45 (2 : Int32).toNatClampNeg) then f_X7_odds_202 I J x1 x6 x8 else f_X7_odds_203 I J x1 x6 x8 1 else none) else f_X7_odds_202 I J x1 x6 x8 else none) else if x5 ≤ x10 then f_X7_odds_157 (f_X7_odds_136 n) I J x1 x2 x3 x4 x5 x6 x8 x10 x4 x3 else f_X7_odds_157 (f_X7_odds_136 n) I J x1 x2 x3 x4 x5 x6 x8 x10 0 x3
def f_X7_odds_100 : Nat → ax_I → ax_J → Int32 → Int32 → Int32 → Int32 → Int32 → Int32 → Int32 → Option (Int64 × ax_J)
  | 0, _, _, _, _, _, _, _, _, _ => none
  | n + 1, I, J, x1, x2, x3, x4, x5, x6, x8 => if 81 ≤ x8 then f_X7_odds_136 ax_N I J x1 x2 x3 x4 x5 x6 1 0 else if x8 = 0 then f_X7_odds_123 (f_X7_odds_100 n) I J x1 x2 x3 x4 x5 x6 x8 1 x8 else f_X7_odds_123 (f_X7_odds_100 n) I J x1 x2 x3 x4 x5 x6 x8 0 x8
def f_X7_odds_51 (I : ax_I) (J : ax_J) (x1 : Int32) (x2 : Int32) (x3 : Int32) (x4 : Int32) (x5 : Int32) (x6 : Int32) (s0 : Int32) : Option (Int64 × ax_J) :=
  (F_X7_in I ((x2 : Int32).toInt64) 0 8).bind (fun q59 => if q59 = 0 then f_X7_odds_93 I J else if s0 = 0 then f_X7_odds_93 I J else (F_X7_in I ((x5 : Int32).toInt64) 0 ((x2 : Int32).toInt64)).bind (fun q76 => if q76 = 0 then f_X7_odds_93 I J else (F_X7_in I ((x6 : Int32).toInt64) 0 1).bind (fun q87 => if q87 = 0 then f_X7_odds_93 I J else f_X7_odds_100 ax_N I J x1 x2 x3 x4 x5 x6 0)))
def f_X7_odds_50 (I : ax_I) (J : ax_J) (x1 : Int32) (x2 : Int32) (x3 : Int32) (x4 : Int32) (x5 : Int32) (x6 : Int32) : Option (Int64 × ax_J) :=
  f_X7_odds_51 I J x1 x2 x3 x4 x5 x6 0
def F_X7_odds (I : ax_I) (J : ax_J) (x1 : Int32) (x2 : Int32) (x3 : Int32) (x4 : Int32) (x5 : Int32) (x6 : Int32) : Option (Int64 × ax_J) :=
  (F_X7_isChild I x1).bind (fun q2 => if q2 = 0 then some ((-1000000000000000001), J) else (F_X7_in I ((x3 : Int32).toInt64) 0 10).bind (fun q18 => if q18 = 0 then f_X7_odds_50 I J x1 x2 x3 x4 x5 x6 else (F_X7_in I ((x4 : Int32).toInt64) 0 10).bind (fun q31 => if q31 = 0 then f_X7_odds_50 I J x1 x2 x3 x4 x5 x6 else if 10 < (x3 + x4) then f_X7_odds_50 I J x1 x2 x3 x4 x5 x6 else f_X7_odds_51 I J x1 x2 x3 x4 x5 x6 1)))
set_option maxRecDepth 100000 in
set_option maxHeartbeats 4000000 in
theorem t_X7_odds_93 {lay : List ax_S} {rv : Int64} {J9 : ax_J} (hL : ax_LL B lay) (C : ax_C p R s m args meth c yX7_odds cX7_odds 15 (some .long) 8 E mc ms) : ∀ (I : ax_I) (J : ax_J), f_X7_odds_93 I J = some (rv, J9) → AM p l e R s m args below meth c E B lay.length (ax_z lay) 15 (some (.long rv)) lay I J9 lay I J 93 [] [] := by
  obtain ⟨hx, hb, hr, hml, hown, hts, hlocks, hK, hfr, hlo, hmc, hms, hnm⟩ := id C
  have hown : s.vm.findClass RX7 = some m.cls := hown
  intro I J h H locs cells slots ls hc hz hR hS hl
  unfold f_X7_odds_93 at h
  refine lv_ldc2 hx hb hown (hts _ ct_X7_241) dX7_odds_93 ?_
  cases h
  exact ax_lret C hc hz hR hS dX7_odds_96
set_option maxRecDepth 100000 in
set_option maxHeartbeats 4000000 in
theorem t_X7_odds_123 {lay : List ax_S} {rv : Int64} {J9 : ax_J} (hL : ax_LL B lay) (C : ax_C p R s m args meth c yX7_odds cX7_odds 15 (some .long) 8 E mc ms) {r100 : ax_I → ax_J → Int32 → Int32 → Int32 → Int32 → Int32 → Int32 → Int32 → Option (Int64 × ax_J)} (hr100 : ∀ (I : ax_I) (J : ax_J) (x1 : Int32) (x2 : Int32) (x3 : Int32) (x4 : Int32) (x5 : Int32) (x6 : Int32) (x8 : Int32), r100 I J x1 x2 x3 x4 x5 x6 x8 = some (rv, J9) → AM p l e R s m args below meth c E B lay.length (ax_z lay) 15 (some (.long rv)) lay I J9 lay I J 100 [(0, .ref (B + 35)), (1, .int x1), (2, .int x2), (3, .int x3), (4, .int x4), (5, .int x5), (6, .int x6), (8, .int x8)] []) : ∀ (I : ax_I) (J : ax_J) (x1 : Int32) (x2 : Int32) (x3 : Int32) (x4 : Int32) (x5 : Int32) (x6 : Int32) (x8 : Int32) (s0 : Int64) (s1 : Int32), f_X7_odds_123 r100 I J x1 x2 x3 x4 x5 x6 x8 s0 s1 = some (rv, J9) → AM p l e R s m args below meth c E B lay.length (ax_z lay) 15 (some (.long rv)) lay I J9 lay I J 123 [(0, .ref (B + 35)), (1, .int x1), (2, .int x2), (3, .int x3), (4, .int x4), (5, .int x5), (6, .int x6), (8, .int x8)] [.long s0, .int s1, .ref (B + 57)] := by
  obtain ⟨hx, hb, hr, hml, hown, hts, hlocks, hK, hfr, hlo, hmc, hms, hnm⟩ := id C
  have hown : s.vm.findClass RX7 = some m.cls := hown
  intro I J x1 x2 x3 x4 x5 x6 x8 s0 s1 h H locs cells slots ls hc hz hR hS hl
  unfold f_X7_odds_123 at h
  obtain ⟨hq, h⟩ := ax_ck h
  refine ax_last hx hb hK hR hS (lk_57 hL) hq dX7_odds_123 (fun H locs hR hS => ?_)
  refine lv_iinc (v := (x8 + 1)) (lv' := [(8, .int (x8 + 1)), (0, .ref (B + 35)), (1, .int x1), (2, .int x2), (3, .int x3), (4, .int x4), (5, .int x5), (6, .int x6)]) hx hb dX7_odds_124 hl (k := 7) rfl rfl (by decide) rfl (fun ls hl => ?_)
  refine lv_goto (tgt := 100) hx hb dX7_odds_127 (by decide) ?_
  exact hr100 _ _ _ _ _ _ _ _ _ h H locs cells slots ls hc hz hR hS (lv_sub hl [1, 2, 3, 4, 5, 6, 7, 0] rfl)
set_option maxRecDepth 100000 in
set_option maxHeartbeats 4000000 in
theorem t_X7_odds_157 {lay : List ax_S} {rv : Int64} {J9 : ax_J} (hL : ax_LL B lay) (C : ax_C p R s m args meth c yX7_odds cX7_odds 15 (some .long) 8 E mc ms) {r136 : ax_I → ax_J → Int32 → Int32 → Int32 → Int32 → Int32 → Int32 → Int64 → Int32 → Option (Int64 × ax_J)} (hr136 : ∀ (I : ax_I) (J : ax_J) (x1 : Int32) (x2 : Int32) (x3 : Int32) (x4 : Int32) (x5 : Int32) (x6 : Int32) (x8 : Int64) (x10 : Int32), r136 I J x1 x2 x3 x4 x5 x6 x8 x10 = some (rv, J9) → AM p l e R s m args below meth c E B lay.length (ax_z lay) 15 (some (.long rv)) lay I J9 lay I J 136 [(0, .ref (B + 35)), (1, .int x1), (2, .int x2), (3, .int x3), (4, .int x4), (5, .int x5), (6, .int x6), (8, .long x8), (10, .int x10)] []) : ∀ (I : ax_I) (J : ax_J) (x1 : Int32) (x2 : Int32) (x3 : Int32) (x4 : Int32) (x5 : Int32) (x6 : Int32) (x8 : Int64) (x10 : Int32) (s0 : Int32) (s1 : Int32), f_X7_odds_157 r136 I J x1 x2 x3 x4 x5 x6 x8 x10 s0 s1 = some (rv, J9) → AM p l e R s m args below meth c E B lay.length (ax_z lay) 15 (some (.long rv)) lay I J9 lay I J 157 [(0, .ref (B + 35)), (1, .int x1), (2, .int x2), (3, .int x3), (4, .int x4), (5, .int x5), (6, .int x6), (8, .long x8), (10, .int x10)] [.int s0, .int s1, .ref (B + 35)] := by
  obtain ⟨hx, hb, hr, hml, hown, hts, hlocks, hK, hfr, hlo, hmc, hms, hnm⟩ := id C
  have hown : s.vm.findClass RX7 = some m.cls := hown
  intro I J x1 x2 x3 x4 x5 x6 x8 x10 s0 s1 h H locs cells slots ls hc hz hR hS hl
  unfold f_X7_odds_157 at h
  obtain ⟨q157, hq, h⟩ := ax_bd h
  refine ax_cV (rest := []) (st1 := []) C hc hz hS hR (M_X7_yearOdds hL hq) yk_X7_yearOdds in_X7_yearOdds se_X7_yearOdds ml_X7_243 (lk_35 hL) rfl rfl (by decide) rfl hl.1 (Nat.le_of_ble_eq_true rfl) rfl rfl dX7_odds_157 (fun H locs hR hS => ?_)
  refine lv_lload hx hb dX7_odds_160 (lv_at hl 7 rfl) ?_
  refine lv_ldc2 hx hb hown (hts _ ct_X7_235) dX7_odds_162 ?_
  refine lv_lmul hx hb dX7_odds_165 ?_
  refine lv_lstore (lv' := [(8, .long (x8 * 10)), (0, .ref (B + 35)), (1, .int x1), (2, .int x2), (3, .int x3), (4, .int x4), (5, .int x5), (6, .int x6), (10, .int x10)]) hx hb dX7_odds_166 hl (by decide) rfl (fun ls hl => ?_)
  refine lv_iinc (v := (x10 + 1)) (lv' := [(10, .int (x10 + 1)), (8, .long (x8 * 10)), (0, .ref (B + 35)), (1, .int x1), (2, .int x2), (3, .int x3), (4, .int x4), (5, .int x5), (6, .int x6)]) hx hb dX7_odds_168 hl (k := 8) rfl rfl (by decide) rfl (fun ls hl => ?_)
  refine lv_goto (tgt := 136) hx hb dX7_odds_171 (by decide) ?_
  exact hr136 _ _ _ _ _ _ _ _ _ _ h H locs cells slots ls hc hz hR hS (lv_sub hl [2, 3, 4, 5, 6, 7, 8, 1, 0] rfl)
set_option maxRecDepth 100000 in
set_option maxHeartbeats 4000000 in
theorem t_X7_odds_290 {lay : List ax_S} {rv : Int64} {J9 : ax_J} (hL : ax_LL B lay) (C : ax_C p R s m args meth c yX7_odds cX7_odds 15 (some .long) 8 E mc ms) {r211 : ax_I → ax_J → Int32 → Int32 → Int64 → Int32 → Int64 → Int32 → Option (Int64 × ax_J)} (hr211 : ∀ (I : ax_I) (J : ax_J) (x1 : Int32) (x6 : Int32) (x8 : Int64) (x10 : Int32) (x11 : Int64) (x13 : Int32), r211 I J x1 x6 x8 x10 x11 x13 = some (rv, J9) → AM p l e R s m args below meth c E B lay.length (ax_z lay) 15 (some (.long rv)) lay I J9 lay I J 211 [(0, .ref (B + 35)), (1, .int x1), (6, .int x6), (8, .long x8), (10, .int x10), (11, .long x11), (13, .int x13)] []) : ∀ (I : ax_I) (J : ax_J) (x1 : Int32) (x6 : Int32) (x8 : Int64) (x10 : Int32) (x13 : Int32) (s0 : Int64) (s1 : Int64), f_X7_odds_290 r211 I J x1 x6 x8 x10 x13 s0 s1 = some (rv, J9) → AM p l e R s m args below meth c E B lay.length (ax_z lay) 15 (some (.long rv)) lay I J9 lay I J 290 [(0, .ref (B + 35)), (1, .int x1), (6, .int x6), (8, .long x8), (10, .int x10), (13, .int x13)] [.long s0, .long s1] := by
  obtain ⟨hx, hb, hr, hml, hown, hts, hlocks, hK, hfr, hlo, hmc, hms, hnm⟩ := id C
  have hown : s.vm.findClass RX7 = some m.cls := hown
  intro I J x1 x6 x8 x10 x13 s0 s1 h H locs cells slots ls hc hz hR hS hl
  unfold f_X7_odds_290 at h
  refine lv_ladd hx hb dX7_odds_290 ?_
  refine lv_lstore (lv' := [(11, .long (s1 + s0)), (0, .ref (B + 35)), (1, .int x1), (6, .int x6), (8, .long x8), (10, .int x10), (13, .int x13)]) hx hb dX7_odds_291 hl (by decide) rfl (fun ls hl => ?_)
  refine lv_iinc (v := (x13 + 1)) (lv' := [(13, .int (x13 + 1)), (11, .long (s1 + s0)), (0, .ref (B + 35)), (1, .int x1), (6, .int x6), (8, .long x8), (10, .int x10)]) hx hb dX7_odds_293 hl (k := 6) rfl rfl (by decide) rfl (fun ls hl => ?_)
  refine lv_goto (tgt := 211) hx hb dX7_odds_296 (by decide) ?_
  exact hr211 _ _ _ _ _ _ _ _ h H locs cells slots ls hc hz hR hS (lv_sub hl [2, 3, 4, 5, 6, 1, 0] rfl)
set_option maxRecDepth 100000 in
set_option maxHeartbeats 4000000 in
theorem t_X7_odds_270 {lay : List ax_S} {rv : Int64} {J9 : ax_J} (hL : ax_LL B lay) (C : ax_C p R s m args meth c yX7_odds cX7_odds 15 (some .long) 8 E mc ms) {r211 : ax_I → ax_J → Int32 → Int32 → Int64 → Int32 → Int64 → Int32 → Option (Int64 × ax_J)} (hr211 : ∀ (I : ax_I) (J : ax_J) (x1 : Int32) (x6 : Int32) (x8 : Int64) (x10 : Int32) (x11 : Int64) (x13 : Int32), r211 I J x1 x6 x8 x10 x11 x13 = some (rv, J9) → AM p l e R s m args below meth c E B lay.length (ax_z lay) 15 (some (.long rv)) lay I J9 lay I J 211 [(0, .ref (B + 35)), (1, .int x1), (6, .int x6), (8, .long x8), (10, .int x10), (11, .long x11), (13, .int x13)] []) : ∀ (I : ax_I) (J : ax_J) (x1 : Int32) (x6 : Int32) (x8 : Int64) (x10 : Int32) (x11 : Int64) (x13 : Int32) (s0 : Int32), f_X7_odds_270 r211 I J x1 x6 x8 x10 x11 x13 s0 = some (rv, J9) → AM p l e R s m args below meth c E B lay.length (ax_z lay) 15 (some (.long rv)) lay I J9 lay I J 270 [(0, .ref (B + 35)), (1, .int x1), (6, .int x6), (8, .long x8), (10, .int x10), (11, .long x11), (13, .int x13)] [.int s0] := by
  obtain ⟨hx, hb, hr, hml, hown, hts, hlocks, hK, hfr, hlo, hmc, hms, hnm⟩ := id C
  have hown : s.vm.findClass RX7 = some m.cls := hown
  intro I J x1 x6 x8 x10 x11 x13 s0 h H locs cells slots ls hc hz hR hS hl
  unfold f_X7_odds_270 at h
  refine lv_istore (lv' := [(14, .int s0), (0, .ref (B + 35)), (1, .int x1), (6, .int x6), (8, .long x8), (10, .int x10), (11, .long x11), (13, .int x13)]) hx hb dX7_odds_270 hl (by decide) rfl (fun ls hl => ?_)
  refine lv_lload hx hb dX7_odds_272 (lv_at hl 6 rfl) ?_
  refine lv_iload hx hb dX7_odds_274 (lv_at hl 0 rfl) ?_
  refine lv_if_eq (tgt := 289) hx hb dX7_odds_276 (by decide) (fun q => ?_) (fun q => ?_)
  · have h := ax_ip q h
    refine lv_lconst (v := 0) hx hb dX7_odds_289 (by decide) ?_
    exact t_X7_odds_290 hL C hr211 _ _ _ _ _ _ _ _ _ h H locs cells slots ls hc hz hR hS (lv_sub hl [1, 2, 3, 4, 5, 7] rfl)
  · have h := ax_iN q h
    refine lv_aload_n hx hb dX7_odds_279 rfl (lv_at hl 1 rfl) ?_
    refine ax_getV hx hb hts hown hK hR fl_X7_73 (lk_35 hL) rfl dX7_odds_280 ?_
    refine lv_iload hx hb dX7_odds_283 (lv_at hl 7 rfl) ?_
    obtain ⟨hq, h⟩ := ax_ck h
    refine ax_lald hx hb hK hR (lk_57 hL) hq dX7_odds_285 ?_
    refine lv_goto (tgt := 290) hx hb dX7_odds_286 (by decide) ?_
    exact t_X7_odds_290 hL C hr211 _ _ _ _ _ _ _ _ _ h H locs cells slots ls hc hz hR hS (lv_sub hl [1, 2, 3, 4, 5, 7] rfl)
set_option maxRecDepth 100000 in
set_option maxHeartbeats 4000000 in
theorem t_X7_odds_269 {lay : List ax_S} {rv : Int64} {J9 : ax_J} (hL : ax_LL B lay) (C : ax_C p R s m args meth c yX7_odds cX7_odds 15 (some .long) 8 E mc ms) {r211 : ax_I → ax_J → Int32 → Int32 → Int64 → Int32 → Int64 → Int32 → Option (Int64 × ax_J)} (hr211 : ∀ (I : ax_I) (J : ax_J) (x1 : Int32) (x6 : Int32) (x8 : Int64) (x10 : Int32) (x11 : Int64) (x13 : Int32), r211 I J x1 x6 x8 x10 x11 x13 = some (rv, J9) → AM p l e R s m args below meth c E B lay.length (ax_z lay) 15 (some (.long rv)) lay I J9 lay I J 211 [(0, .ref (B + 35)), (1, .int x1), (6, .int x6), (8, .long x8), (10, .int x10), (11, .long x11), (13, .int x13)] []) : ∀ (I : ax_I) (J : ax_J) (x1 : Int32) (x6 : Int32) (x8 : Int64) (x10 : Int32) (x11 : Int64) (x13 : Int32), f_X7_odds_269 r211 I J x1 x6 x8 x10 x11 x13 = some (rv, J9) → AM p l e R s m args below meth c E B lay.length (ax_z lay) 15 (some (.long rv)) lay I J9 lay I J 269 [(0, .ref (B + 35)), (1, .int x1), (6, .int x6), (8, .long x8), (10, .int x10), (11, .long x11), (13, .int x13)] [] := by
  obtain ⟨hx, hb, hr, hml, hown, hts, hlocks, hK, hfr, hlo, hmc, hms, hnm⟩ := id C
  have hown : s.vm.findClass RX7 = some m.cls := hown
  intro I J x1 x6 x8 x10 x11 x13 h H locs cells slots ls hc hz hR hS hl
  unfold f_X7_odds_269 at h
  refine lv_iconst (v := 0) hx hb dX7_odds_269 (by decide) ?_
  exact t_X7_odds_270 hL C hr211 _ _ _ _ _ _ _ _ _ h H locs cells slots ls hc hz hR hS (lv_sub hl [0, 1, 2, 3, 4, 5, 6] rfl)
set_option maxRecDepth 100000 in
set_option maxHeartbeats 4000000 in
theorem t_X7_odds_211 {lay : List ax_S} {rv : Int64} {J9 : ax_J} (hL : ax_LL B lay) (C : ax_C p R s m args meth c yX7_odds cX7_odds 15 (some .long) 8 E mc ms) : ∀ (n : Nat) (I : ax_I) (J : ax_J) (x1 : Int32) (x6 : Int32) (x8 : Int64) (x10 : Int32) (x11 : Int64) (x13 : Int32), f_X7_odds_211 n I J x1 x6 x8 x10 x11 x13 = some (rv, J9) → AM p l e R s m args below meth c E B lay.length (ax_z lay) 15 (some (.long rv)) lay I J9 lay I J 211 [(0, .ref (B + 35)), (1, .int x1), (6, .int x6), (8, .long x8), (10, .int x10), (11, .long x11), (13, .int x13)] [] := by
  obtain ⟨hx, hb, hr, hml, hown, hts, hlocks, hK, hfr, hlo, hmc, hms, hnm⟩ := id C
  have hown : s.vm.findClass RX7 = some m.cls := hown
  intro n
  induction n with
  | zero => intro I J x1 x6 x8 x10 x11 x13 h; cases h
  | succ n ih =>
    intro I J x1 x6 x8 x10 x11 x13 h H locs cells slots ls hc hz hR hS hl
    rw [f_X7_odds_211] at h
    refine lv_iload hx hb dX7_odds_211 (lv_at hl 6 rfl) ?_
    refine lv_bipush (v := 81) hx hb dX7_odds_213 (by decide) ?_
    refine lv_icmp_ge (tgt := 299) hx hb dX7_odds_215 (by decide) (fun q => ?_) (fun q => ?_)
    · have h := ax_ip q h
      refine lv_lload hx hb dX7_odds_299 (lv_at hl 5 rfl) ?_
      refine lv_lload hx hb dX7_odds_301 (lv_at hl 3 rfl) ?_
      refine lv_iload hx hb dX7_odds_303 (lv_at hl 2 rfl) ?_
      obtain ⟨q305, hq, h⟩ := ax_bd h
      refine ax_cS (rest := []) (st1 := [.long q305]) C hc hz hS hR (M_X7_lowest  hq) yk_X7_lowest st_X7_lowest ml_X7_247 (by decide) rfl hl.1 (Nat.le_of_ble_eq_true rfl) rfl rfl dX7_odds_305 (fun H locs hR hS => ?_)
      cases h
      exact ax_lret C hc hz hR hS dX7_odds_308
    · have h := ax_iN q h
      refine lv_iload hx hb dX7_odds_218 (lv_at hl 4 rfl) ?_
      refine lv_if_eq (tgt := 269) hx hb dX7_odds_220 (by decide) (fun q => ?_) (fun q => ?_)
      · have h := ax_ip q h
        exact t_X7_odds_269 hL C ih _ _ _ _ _ _ _ _ h H locs cells slots ls hc hz hR hS (lv_sub hl [0, 1, 2, 3, 4, 5, 6] rfl)
      · have h := ax_iN q h
        refine lv_aload_n hx hb dX7_odds_223 rfl (lv_at hl 0 rfl) ?_
        refine ax_getV hx hb hts hown hK hR fl_X7_7 (lk_35 hL) rfl dX7_odds_224 ?_
        refine lv_iload_n hx hb dX7_odds_227 rfl (lv_at hl 1 rfl) ?_
        obtain ⟨hq, h⟩ := ax_ck h
        refine ax_iald hx hb hK hR (lk_36 hL) hq dX7_odds_228 ?_
        refine lv_iload hx hb dX7_odds_229 (lv_at hl 6 rfl) ?_
        refine lv_bipush (v := 9) hx hb dX7_odds_231 (by decide) ?_
        refine lv_idiv hx hb dX7_odds_233 (by decide) ?_
        refine lv_iadd hx hb dX7_odds_234 ?_
        refine lv_aload_n hx hb dX7_odds_235 rfl (lv_at hl 0 rfl) ?_
        refine ax_getV hx hb hts hown hK hR fl_X7_37 (lk_35 hL) rfl dX7_odds_236 ?_
        refine lv_iconst (v := 0) hx hb dX7_odds_239 (by decide) ?_
        refine ax_iald hx hb hK hR (lk_45 hL) (by decide) dX7_odds_240 ?_
        refine lv_icmp_lt (tgt := 269) hx hb dX7_odds_241 (by decide) (fun q => ?_) (fun q => ?_)
        · have h := ax_ip q h
          exact t_X7_odds_269 hL C ih _ _ _ _ _ _ _ _ h H locs cells slots ls hc hz hR hS (lv_sub hl [0, 1, 2, 3, 4, 5, 6] rfl)
        · have h := ax_iN q h
          refine lv_aload_n hx hb dX7_odds_244 rfl (lv_at hl 0 rfl) ?_
          refine ax_getV hx hb hts hown hK hR fl_X7_13 (lk_35 hL) rfl dX7_odds_245 ?_
          refine lv_iload_n hx hb dX7_odds_248 rfl (lv_at hl 1 rfl) ?_
          obtain ⟨hq, h⟩ := ax_ck h
          refine ax_iald hx hb hK hR (lk_37 hL) hq dX7_odds_249 ?_
          refine lv_iload hx hb dX7_odds_250 (lv_at hl 6 rfl) ?_
          refine lv_bipush (v := 9) hx hb dX7_odds_252 (by decide) ?_
          refine lv_irem hx hb dX7_odds_254 (by decide) ?_
          refine lv_iadd hx hb dX7_odds_255 ?_
          refine lv_aload_n hx hb dX7_odds_256 rfl (lv_at hl 0 rfl) ?_
          refine ax_getV hx hb hts hown hK hR fl_X7_37 (lk_35 hL) rfl dX7_odds_257 ?_
          refine lv_iconst (v := 1) hx hb dX7_odds_260 (by decide) ?_
          refine ax_iald hx hb hK hR (lk_45 hL) (by decide) dX7_odds_261 ?_
          refine lv_icmp_gt (tgt := 269) hx hb dX7_odds_262 (by decide) (fun q => ?_) (fun q => ?_)
          · have h := ax_ip q h
            exact t_X7_odds_269 hL C ih _ _ _ _ _ _ _ _ h H locs cells slots ls hc hz hR hS (lv_sub hl [0, 1, 2, 3, 4, 5, 6] rfl)
          · have h := ax_iN q h
            refine lv_iconst (v := 1) hx hb dX7_odds_265 (by decide) ?_
            refine lv_goto (tgt := 270) hx hb dX7_odds_266 (by decide) ?_
            exact t_X7_odds_270 hL C ih _ _ _ _ _ _ _ _ _ h H locs cells slots ls hc hz hR hS (lv_sub hl [0, 1, 2, 3, 4, 5, 6] rfl)
set_option maxRecDepth 100000 in
set_option maxHeartbeats 4000000 in
theorem t_X7_odds_203 {lay : List ax_S} {rv : Int64} {J9 : ax_J} (hL : ax_LL B lay) (C : ax_C p R s m args meth c yX7_odds cX7_odds 15 (some .long) 8 E mc ms) : ∀ (I : ax_I) (J : ax_J) (x1 : Int32) (x6 : Int32) (x8 : Int64) (s0 : Int32), f_X7_odds_203 I J x1 x6 x8 s0 = some (rv, J9) → AM p l e R s m args below meth c E B lay.length (ax_z lay) 15 (some (.long rv)) lay I J9 lay I J 203 [(0, .ref (B + 35)), (1, .int x1), (6, .int x6), (8, .long x8)] [.int s0] := by
  obtain ⟨hx, hb, hr, hml, hown, hts, hlocks, hK, hfr, hlo, hmc, hms, hnm⟩ := id C
  have hown : s.vm.findClass RX7 = some m.cls := hown
  intro I J x1 x6 x8 s0 h H locs cells slots ls hc hz hR hS hl
  unfold f_X7_odds_203 at h
  refine lv_istore (lv' := [(10, .int s0), (0, .ref (B + 35)), (1, .int x1), (6, .int x6), (8, .long x8)]) hx hb dX7_odds_203 hl (by decide) rfl (fun ls hl => ?_)
  refine lv_lconst (v := 0) hx hb dX7_odds_205 (by decide) ?_
  refine lv_lstore (lv' := [(11, .long 0), (10, .int s0), (0, .ref (B + 35)), (1, .int x1), (6, .int x6), (8, .long x8)]) hx hb dX7_odds_206 hl (by decide) rfl (fun ls hl => ?_)
  refine lv_iconst (v := 0) hx hb dX7_odds_208 (by decide) ?_
  refine lv_istore (lv' := [(13, .int 0), (11, .long 0), (10, .int s0), (0, .ref (B + 35)), (1, .int x1), (6, .int x6), (8, .long x8)]) hx hb dX7_odds_209 hl (by decide) rfl (fun ls hl => ?_)
  exact t_X7_odds_211 hL C  ax_N _ _ _ _ _ _ _ _ h H locs cells slots ls hc hz hR hS (lv_sub hl [3, 4, 5, 6, 2, 1, 0] rfl)
set_option maxRecDepth 100000 in
set_option maxHeartbeats 4000000 in
theorem t_X7_odds_202 {lay : List ax_S} {rv : Int64} {J9 : ax_J} (hL : ax_LL B lay) (C : ax_C p R s m args meth c yX7_odds cX7_odds 15 (some .long) 8 E mc ms) : ∀ (I : ax_I) (J : ax_J) (x1 : Int32) (x6 : Int32) (x8 : Int64), f_X7_odds_202 I J x1 x6 x8 = some (rv, J9) → AM p l e R s m args below meth c E B lay.length (ax_z lay) 15 (some (.long rv)) lay I J9 lay I J 202 [(0, .ref (B + 35)), (1, .int x1), (6, .int x6), (8, .long x8)] [] := by
  obtain ⟨hx, hb, hr, hml, hown, hts, hlocks, hK, hfr, hlo, hmc, hms, hnm⟩ := id C
  have hown : s.vm.findClass RX7 = some m.cls := hown
  intro I J x1 x6 x8 h H locs cells slots ls hc hz hR hS hl
  unfold f_X7_odds_202 at h
  refine lv_iconst (v := 0) hx hb dX7_odds_202 (by decide) ?_
  exact t_X7_odds_203 hL C  _ _ _ _ _ _ h H locs cells slots ls hc hz hR hS (lv_sub hl [0, 1, 2, 3] rfl)
set_option maxRecDepth 100000 in
set_option maxHeartbeats 4000000 in
theorem t_X7_odds_136 {lay : List ax_S} {rv : Int64} {J9 : ax_J} (hL : ax_LL B lay) (C : ax_C p R s m args meth c yX7_odds cX7_odds 15 (some .long) 8 E mc ms) : ∀ (n : Nat) (I : ax_I) (J : ax_J) (x1 : Int32) (x2 : Int32) (x3 : Int32) (x4 : Int32) (x5 : Int32) (x6 : Int32) (x8 : Int64) (x10 : Int32), f_X7_odds_136 n I J x1 x2 x3 x4 x5 x6 x8 x10 = some (rv, J9) → AM p l e R s m args below meth c E B lay.length (ax_z lay) 15 (some (.long rv)) lay I J9 lay I J 136 [(0, .ref (B + 35)), (1, .int x1), (2, .int x2), (3, .int x3), (4, .int x4), (5, .int x5), (6, .int x6), (8, .long x8), (10, .int x10)] [] := by
  obtain ⟨hx, hb, hr, hml, hown, hts, hlocks, hK, hfr, hlo, hmc, hms, hnm⟩ := id C
  have hown : s.vm.findClass RX7 = some m.cls := hown
  intro n
  induction n with
  | zero => intro I J x1 x2 x3 x4 x5 x6 x8 x10 h; cases h
  | succ n ih =>
    intro I J x1 x2 x3 x4 x5 x6 x8 x10 h H locs cells slots ls hc hz hR hS hl
    rw [f_X7_odds_136] at h
    refine lv_iload hx hb dX7_odds_136 (lv_at hl 8 rfl) ?_
    refine lv_iload_n hx hb dX7_odds_138 rfl (lv_at hl 2 rfl) ?_
    refine lv_icmp_ge (tgt := 174) hx hb dX7_odds_139 (by decide) (fun q => ?_) (fun q => ?_)
    · have h := ax_ip q h
      refine lv_aload_n hx hb dX7_odds_174 rfl (lv_at hl 0 rfl) ?_
      refine ax_getV hx hb hts hown hK hR fl_X7_19 (lk_35 hL) rfl dX7_odds_175 ?_
      refine lv_iload_n hx hb dX7_odds_178 rfl (lv_at hl 1 rfl) ?_
      obtain ⟨hq, h⟩ := ax_ck h
      refine ax_iald hx hb hK hR (lk_39 hL) hq dX7_odds_179 ?_
      refine lv_if_ne (tgt := 202) hx hb dX7_odds_180 (by decide) (fun q => ?_) (fun q => ?_)
      · have h := ax_iN q h
        exact t_X7_odds_202 hL C  _ _ _ _ _ h H locs cells slots ls hc hz hR hS (lv_sub hl [0, 1, 6, 7] rfl)
      · have h := ax_ip q h
        refine lv_aload_n hx hb dX7_odds_183 rfl (lv_at hl 0 rfl) ?_
        refine ax_getV hx hb hts hown hK hR fl_X7_16 (lk_35 hL) rfl dX7_odds_184 ?_
        refine lv_iload_n hx hb dX7_odds_187 rfl (lv_at hl 1 rfl) ?_
        obtain ⟨hq, h⟩ := ax_ck h
        refine ax_iald hx hb hK hR (lk_38 hL) hq dX7_odds_188 ?_
        refine lv_aload_n hx hb dX7_odds_189 rfl (lv_at hl 0 rfl) ?_
        refine ax_getV hx hb hts hown hK hR fl_X7_37 (lk_35 hL) rfl dX7_odds_190 ?_
        refine lv_iconst (v := 2) hx hb dX7_odds_193 (by decide) ?_
        refine ax_iald hx hb hK hR (lk_45 hL) (by decide) dX7_odds_194 ?_
        refine lv_icmp_lt (tgt := 202) hx hb dX7_odds_195 (by decide) (fun q => ?_) (fun q => ?_)
        · have h := ax_ip q h
          exact t_X7_odds_202 hL C  _ _ _ _ _ h H locs cells slots ls hc hz hR hS (lv_sub hl [0, 1, 6, 7] rfl)
        · have h := ax_iN q h
          refine lv_iconst (v := 1) hx hb dX7_odds_198 (by decide) ?_
          refine lv_goto (tgt := 203) hx hb dX7_odds_199 (by decide) ?_
          exact t_X7_odds_203 hL C  _ _ _ _ _ _ h H locs cells slots ls hc hz hR hS (lv_sub hl [0, 1, 6, 7] rfl)
    · have h := ax_iN q h
      refine lv_aload_n hx hb dX7_odds_142 rfl (lv_at hl 0 rfl) ?_
      refine lv_iload_n hx hb dX7_odds_143 rfl (lv_at hl 3 rfl) ?_
      refine lv_iload hx hb dX7_odds_144 (lv_at hl 8 rfl) ?_
      refine lv_iload hx hb dX7_odds_146 (lv_at hl 5 rfl) ?_
      refine lv_icmp_ge (tgt := 155) hx hb dX7_odds_148 (by decide) (fun q => ?_) (fun q => ?_)
      · have h := ax_ip q h
        refine lv_iload hx hb dX7_odds_155 (lv_at hl 4 rfl) ?_
        exact t_X7_odds_157 hL C ih _ _ _ _ _ _ _ _ _ _ _ _ h H locs cells slots ls hc hz hR hS (lv_sub hl [0, 1, 2, 3, 4, 5, 6, 7, 8] rfl)
      · have h := ax_iN q h
        refine lv_iconst (v := 0) hx hb dX7_odds_151 (by decide) ?_
        refine lv_goto (tgt := 157) hx hb dX7_odds_152 (by decide) ?_
        exact t_X7_odds_157 hL C ih _ _ _ _ _ _ _ _ _ _ _ _ h H locs cells slots ls hc hz hR hS (lv_sub hl [0, 1, 2, 3, 4, 5, 6, 7, 8] rfl)
set_option maxRecDepth 100000 in
set_option maxHeartbeats 4000000 in
theorem t_X7_odds_100 {lay : List ax_S} {rv : Int64} {J9 : ax_J} (hL : ax_LL B lay) (C : ax_C p R s m args meth c yX7_odds cX7_odds 15 (some .long) 8 E mc ms) : ∀ (n : Nat) (I : ax_I) (J : ax_J) (x1 : Int32) (x2 : Int32) (x3 : Int32) (x4 : Int32) (x5 : Int32) (x6 : Int32) (x8 : Int32), f_X7_odds_100 n I J x1 x2 x3 x4 x5 x6 x8 = some (rv, J9) → AM p l e R s m args below meth c E B lay.length (ax_z lay) 15 (some (.long rv)) lay I J9 lay I J 100 [(0, .ref (B + 35)), (1, .int x1), (2, .int x2), (3, .int x3), (4, .int x4), (5, .int x5), (6, .int x6), (8, .int x8)] [] := by
  obtain ⟨hx, hb, hr, hml, hown, hts, hlocks, hK, hfr, hlo, hmc, hms, hnm⟩ := id C
  have hown : s.vm.findClass RX7 = some m.cls := hown
  intro n
  induction n with
  | zero => intro I J x1 x2 x3 x4 x5 x6 x8 h; cases h
  | succ n ih =>
    intro I J x1 x2 x3 x4 x5 x6 x8 h H locs cells slots ls hc hz hR hS hl
    rw [f_X7_odds_100] at h
    refine lv_iload hx hb dX7_odds_100 (lv_at hl 7 rfl) ?_
    refine lv_bipush (v := 81) hx hb dX7_odds_102 (by decide) ?_
    refine lv_icmp_ge (tgt := 130) hx hb dX7_odds_104 (by decide) (fun q => ?_) (fun q => ?_)
    · have h := ax_ip q h
      refine lv_lconst (v := 1) hx hb dX7_odds_130 (by decide) ?_
      refine lv_lstore (lv' := [(8, .long 1), (0, .ref (B + 35)), (1, .int x1), (2, .int x2), (3, .int x3), (4, .int x4), (5, .int x5), (6, .int x6)]) hx hb dX7_odds_131 hl (by decide) rfl (fun ls hl => ?_)
      refine lv_iconst (v := 0) hx hb dX7_odds_133 (by decide) ?_
      refine lv_istore (lv' := [(10, .int 0), (8, .long 1), (0, .ref (B + 35)), (1, .int x1), (2, .int x2), (3, .int x3), (4, .int x4), (5, .int x5), (6, .int x6)]) hx hb dX7_odds_134 hl (by decide) rfl (fun ls hl => ?_)
      exact t_X7_odds_136 hL C  ax_N _ _ _ _ _ _ _ _ _ _ h H locs cells slots ls hc hz hR hS (lv_sub hl [2, 3, 4, 5, 6, 7, 8, 1, 0] rfl)
    · have h := ax_iN q h
      refine lv_aload_n hx hb dX7_odds_107 rfl (lv_at hl 0 rfl) ?_
      refine ax_getV hx hb hts hown hK hR fl_X7_73 (lk_35 hL) rfl dX7_odds_108 ?_
      refine lv_iload hx hb dX7_odds_111 (lv_at hl 7 rfl) ?_
      refine lv_iload hx hb dX7_odds_113 (lv_at hl 7 rfl) ?_
      refine lv_if_ne (tgt := 122) hx hb dX7_odds_115 (by decide) (fun q => ?_) (fun q => ?_)
      · have h := ax_iN q h
        refine lv_lconst (v := 0) hx hb dX7_odds_122 (by decide) ?_
        exact t_X7_odds_123 hL C ih _ _ _ _ _ _ _ _ _ _ _ h H locs cells slots ls hc hz hR hS (lv_sub hl [0, 1, 2, 3, 4, 5, 6, 7] rfl)
      · have h := ax_ip q h
        refine lv_lconst (v := 1) hx hb dX7_odds_118 (by decide) ?_
        refine lv_goto (tgt := 123) hx hb dX7_odds_119 (by decide) ?_
        exact t_X7_odds_123 hL C ih _ _ _ _ _ _ _ _ _ _ _ h H locs cells slots ls hc hz hR hS (lv_sub hl [0, 1, 2, 3, 4, 5, 6, 7] rfl)
set_option maxRecDepth 100000 in
set_option maxHeartbeats 4000000 in
theorem t_X7_odds_51 {lay : List ax_S} {rv : Int64} {J9 : ax_J} (hL : ax_LL B lay) (C : ax_C p R s m args meth c yX7_odds cX7_odds 15 (some .long) 8 E mc ms) : ∀ (I : ax_I) (J : ax_J) (x1 : Int32) (x2 : Int32) (x3 : Int32) (x4 : Int32) (x5 : Int32) (x6 : Int32) (s0 : Int32), f_X7_odds_51 I J x1 x2 x3 x4 x5 x6 s0 = some (rv, J9) → AM p l e R s m args below meth c E B lay.length (ax_z lay) 15 (some (.long rv)) lay I J9 lay I J 51 [(0, .ref (B + 35)), (1, .int x1), (2, .int x2), (3, .int x3), (4, .int x4), (5, .int x5), (6, .int x6)] [.int s0] := by
  obtain ⟨hx, hb, hr, hml, hown, hts, hlocks, hK, hfr, hlo, hmc, hms, hnm⟩ := id C
  have hown : s.vm.findClass RX7 = some m.cls := hown
  intro I J x1 x2 x3 x4 x5 x6 s0 h H locs cells slots ls hc hz hR hS hl
  unfold f_X7_odds_51 at h
  refine lv_istore (lv' := [(7, .int s0), (0, .ref (B + 35)), (1, .int x1), (2, .int x2), (3, .int x3), (4, .int x4), (5, .int x5), (6, .int x6)]) hx hb dX7_odds_51 hl (by decide) rfl (fun ls hl => ?_)
  refine lv_iload_n hx hb dX7_odds_53 rfl (lv_at hl 3 rfl) ?_
  refine lv_i2l hx hb dX7_odds_54 rfl ?_
  refine lv_lconst (v := 0) hx hb dX7_odds_55 (by decide) ?_
  refine lv_ldc2 hx hb hown (hts _ ct_X7_239) dX7_odds_56 ?_
  obtain ⟨q59, hq, h⟩ := ax_bd h
  refine ax_cS (rest := []) (st1 := [.int q59]) C hc hz hS hR (M_X7_in  hq) yk_X7_in st_X7_in ml_X7_89 (by decide) rfl hl.1 (Nat.le_of_ble_eq_true rfl) rfl rfl dX7_odds_59 (fun H locs hR hS => ?_)
  refine lv_if_eq (tgt := 93) hx hb dX7_odds_62 (by decide) (fun q => ?_) (fun q => ?_)
  · have h := ax_ip q h
    exact t_X7_odds_93 hL C  _ _ h H locs cells slots ls hc hz hR hS (lv_sub hl [] rfl)
  · have h := ax_iN q h
    refine lv_iload hx hb dX7_odds_65 (lv_at hl 0 rfl) ?_
    refine lv_if_eq (tgt := 93) hx hb dX7_odds_67 (by decide) (fun q => ?_) (fun q => ?_)
    · have h := ax_ip q h
      exact t_X7_odds_93 hL C  _ _ h H locs cells slots ls hc hz hR hS (lv_sub hl [] rfl)
    · have h := ax_iN q h
      refine lv_iload hx hb dX7_odds_70 (lv_at hl 6 rfl) ?_
      refine lv_i2l hx hb dX7_odds_72 rfl ?_
      refine lv_lconst (v := 0) hx hb dX7_odds_73 (by decide) ?_
      refine lv_iload_n hx hb dX7_odds_74 rfl (lv_at hl 3 rfl) ?_
      refine lv_i2l hx hb dX7_odds_75 rfl ?_
      obtain ⟨q76, hq, h⟩ := ax_bd h
      refine ax_cS (rest := []) (st1 := [.int q76]) C hc hz hS hR (M_X7_in  hq) yk_X7_in st_X7_in ml_X7_89 (by decide) rfl hl.1 (Nat.le_of_ble_eq_true rfl) rfl rfl dX7_odds_76 (fun H locs hR hS => ?_)
      refine lv_if_eq (tgt := 93) hx hb dX7_odds_79 (by decide) (fun q => ?_) (fun q => ?_)
      · have h := ax_ip q h
        exact t_X7_odds_93 hL C  _ _ h H locs cells slots ls hc hz hR hS (lv_sub hl [] rfl)
      · have h := ax_iN q h
        refine lv_iload hx hb dX7_odds_82 (lv_at hl 7 rfl) ?_
        refine lv_i2l hx hb dX7_odds_84 rfl ?_
        refine lv_lconst (v := 0) hx hb dX7_odds_85 (by decide) ?_
        refine lv_lconst (v := 1) hx hb dX7_odds_86 (by decide) ?_
        obtain ⟨q87, hq, h⟩ := ax_bd h
        refine ax_cS (rest := []) (st1 := [.int q87]) C hc hz hS hR (M_X7_in  hq) yk_X7_in st_X7_in ml_X7_89 (by decide) rfl hl.1 (Nat.le_of_ble_eq_true rfl) rfl rfl dX7_odds_87 (fun H locs hR hS => ?_)
        refine lv_if_ne (tgt := 97) hx hb dX7_odds_90 (by decide) (fun q => ?_) (fun q => ?_)
        · have h := ax_iN q h
          refine lv_iconst (v := 0) hx hb dX7_odds_97 (by decide) ?_
          refine lv_istore (lv' := [(8, .int 0), (7, .int s0), (0, .ref (B + 35)), (1, .int x1), (2, .int x2), (3, .int x3), (4, .int x4), (5, .int x5), (6, .int x6)]) hx hb dX7_odds_98 hl (by decide) rfl (fun ls hl => ?_)
          exact t_X7_odds_100 hL C  ax_N _ _ _ _ _ _ _ _ _ h H locs cells slots ls hc hz hR hS (lv_sub hl [2, 3, 4, 5, 6, 7, 8, 0] rfl)
        · have h := ax_ip q h
          exact t_X7_odds_93 hL C  _ _ h H locs cells slots ls hc hz hR hS (lv_sub hl [] rfl)
set_option maxRecDepth 100000 in
set_option maxHeartbeats 4000000 in
theorem t_X7_odds_50 {lay : List ax_S} {rv : Int64} {J9 : ax_J} (hL : ax_LL B lay) (C : ax_C p R s m args meth c yX7_odds cX7_odds 15 (some .long) 8 E mc ms) : ∀ (I : ax_I) (J : ax_J) (x1 : Int32) (x2 : Int32) (x3 : Int32) (x4 : Int32) (x5 : Int32) (x6 : Int32), f_X7_odds_50 I J x1 x2 x3 x4 x5 x6 = some (rv, J9) → AM p l e R s m args below meth c E B lay.length (ax_z lay) 15 (some (.long rv)) lay I J9 lay I J 50 [(0, .ref (B + 35)), (1, .int x1), (2, .int x2), (3, .int x3), (4, .int x4), (5, .int x5), (6, .int x6)] [] := by
  obtain ⟨hx, hb, hr, hml, hown, hts, hlocks, hK, hfr, hlo, hmc, hms, hnm⟩ := id C
  have hown : s.vm.findClass RX7 = some m.cls := hown
  intro I J x1 x2 x3 x4 x5 x6 h H locs cells slots ls hc hz hR hS hl
  unfold f_X7_odds_50 at h
  refine lv_iconst (v := 0) hx hb dX7_odds_50 (by decide) ?_
  exact t_X7_odds_51 hL C  _ _ _ _ _ _ _ _ _ h H locs cells slots ls hc hz hR hS (lv_sub hl [0, 1, 2, 3, 4, 5, 6] rfl)
set_option maxRecDepth 100000 in
set_option maxHeartbeats 4000000 in
theorem t_X7_odds_0 {lay : List ax_S} {rv : Int64} {J9 : ax_J} (hL : ax_LL B lay) (C : ax_C p R s m args meth c yX7_odds cX7_odds 15 (some .long) 8 E mc ms) : ∀ (I : ax_I) (J : ax_J) (x1 : Int32) (x2 : Int32) (x3 : Int32) (x4 : Int32) (x5 : Int32) (x6 : Int32), F_X7_odds I J x1 x2 x3 x4 x5 x6 = some (rv, J9) → AM p l e R s m args below meth c E B lay.length (ax_z lay) 15 (some (.long rv)) lay I J9 lay I J 0 [(0, .ref (B + 35)), (1, .int x1), (2, .int x2), (3, .int x3), (4, .int x4), (5, .int x5), (6, .int x6)] [] := by
  obtain ⟨hx, hb, hr, hml, hown, hts, hlocks, hK, hfr, hlo, hmc, hms, hnm⟩ := id C
  have hown : s.vm.findClass RX7 = some m.cls := hown
  intro I J x1 x2 x3 x4 x5 x6 h H locs cells slots ls hc hz hR hS hl
  unfold F_X7_odds at h
  refine lv_aload_n hx hb dX7_odds_0 rfl (lv_at hl 0 rfl) ?_
  refine lv_iload_n hx hb dX7_odds_1 rfl (lv_at hl 1 rfl) ?_
  obtain ⟨q2, hq, h⟩ := ax_bd h
  refine ax_cV (rest := []) (st1 := [.int q2]) C hc hz hS hR (M_X7_isChild hL hq) yk_X7_isChild in_X7_isChild se_X7_isChild ml_X7_113 (lk_35 hL) rfl rfl (by decide) rfl hl.1 (Nat.le_of_ble_eq_true rfl) rfl rfl dX7_odds_2 (fun H locs hR hS => ?_)
  refine lv_if_ne (tgt := 12) hx hb dX7_odds_5 (by decide) (fun q => ?_) (fun q => ?_)
  · have h := ax_iN q h
    refine lv_iload_n hx hb dX7_odds_12 rfl (lv_at hl 3 rfl) ?_
    refine lv_i2l hx hb dX7_odds_13 rfl ?_
    refine lv_lconst (v := 0) hx hb dX7_odds_14 (by decide) ?_
    refine lv_ldc2 hx hb hown (hts _ ct_X7_235) dX7_odds_15 ?_
    obtain ⟨q18, hq, h⟩ := ax_bd h
    refine ax_cS (rest := []) (st1 := [.int q18]) C hc hz hS hR (M_X7_in  hq) yk_X7_in st_X7_in ml_X7_89 (by decide) rfl hl.1 (Nat.le_of_ble_eq_true rfl) rfl rfl dX7_odds_18 (fun H locs hR hS => ?_)
    refine lv_if_eq (tgt := 50) hx hb dX7_odds_21 (by decide) (fun q => ?_) (fun q => ?_)
    · have h := ax_ip q h
      exact t_X7_odds_50 hL C  _ _ _ _ _ _ _ _ h H locs cells slots ls hc hz hR hS (lv_sub hl [0, 1, 2, 3, 4, 5, 6] rfl)
    · have h := ax_iN q h
      refine lv_iload hx hb dX7_odds_24 (lv_at hl 4 rfl) ?_
      refine lv_i2l hx hb dX7_odds_26 rfl ?_
      refine lv_lconst (v := 0) hx hb dX7_odds_27 (by decide) ?_
      refine lv_ldc2 hx hb hown (hts _ ct_X7_235) dX7_odds_28 ?_
      obtain ⟨q31, hq, h⟩ := ax_bd h
      refine ax_cS (rest := []) (st1 := [.int q31]) C hc hz hS hR (M_X7_in  hq) yk_X7_in st_X7_in ml_X7_89 (by decide) rfl hl.1 (Nat.le_of_ble_eq_true rfl) rfl rfl dX7_odds_31 (fun H locs hR hS => ?_)
      refine lv_if_eq (tgt := 50) hx hb dX7_odds_34 (by decide) (fun q => ?_) (fun q => ?_)
      · have h := ax_ip q h
        exact t_X7_odds_50 hL C  _ _ _ _ _ _ _ _ h H locs cells slots ls hc hz hR hS (lv_sub hl [0, 1, 2, 3, 4, 5, 6] rfl)
      · have h := ax_iN q h
        refine lv_iload_n hx hb dX7_odds_37 rfl (lv_at hl 3 rfl) ?_
        refine lv_iload hx hb dX7_odds_38 (lv_at hl 4 rfl) ?_
        refine lv_iadd hx hb dX7_odds_40 ?_
        refine lv_bipush (v := 10) hx hb dX7_odds_41 (by decide) ?_
        refine lv_icmp_gt (tgt := 50) hx hb dX7_odds_43 (by decide) (fun q => ?_) (fun q => ?_)
        · have h := ax_ip q h
          exact t_X7_odds_50 hL C  _ _ _ _ _ _ _ _ h H locs cells slots ls hc hz hR hS (lv_sub hl [0, 1, 2, 3, 4, 5, 6] rfl)
        · have h := ax_iN q h
          refine lv_iconst (v := 1) hx hb dX7_odds_46 (by decide) ?_
          refine lv_goto (tgt := 51) hx hb dX7_odds_47 (by decide) ?_
          exact t_X7_odds_51 hL C  _ _ _ _ _ _ _ _ _ h H locs cells slots ls hc hz hR hS (lv_sub hl [0, 1, 2, 3, 4, 5, 6] rfl)
  · have h := ax_ip q h
    refine lv_ldc2 hx hb hown (hts _ ct_X7_237) dX7_odds_8 ?_
    cases h
    exact ax_lret C hc hz hR hS dX7_odds_11
theorem M_X7_odds {l : Launch} {E : ax_E} {B : Nat} {lay : List ax_S} {I : ax_I} {J : ax_J} {x1 : Int32} {x2 : Int32} {x3 : Int32} {x4 : Int32} {x5 : Int32} {x6 : Int32} {rv : Int64} {J9 : ax_J} (hL : ax_LL B lay) (h : F_X7_odds I J x1 x2 x3 x4 x5 x6 = some (rv, J9)) : Cm l yX7_odds cX7_odds 15 (some .long) 8 E B [.ref (B + 35), .int x1, .int x2, .int x3, .int x4, .int x5, .int x6] lay I J (some (.long rv)) lay I J9 :=
  ax_met (by decide) (Nat.le_of_ble_eq_true rfl) (fun p e R s m args below meth c C => t_X7_odds_0 hL C _ _ _ _ _ _ _ _ h)
def f_X7_sumOf_31 (k1 : Nat) (n1 : Nat) (r5 : ax_I → Int32 → Int32 → Int32 → Option (Int32)) (I : ax_I) (x2 : Int32) (x4 : Int32) (s0 : Int32) (s1 : Int32) : Option Int32 :=
  r5 I x2 (s1 + s0) (x4 + 1)
def f_X7_sumOf_5 (k1 : Nat) (n1 : Nat) : Nat → ax_I → Int32 → Int32 → Int32 → Option Int32
  | 0, _, _, _, _ => none
  | n + 1, I, x2, x3, x4 => if 6 ≤ x4 then some x3 else if ((x2 >>> (x4 &&& 31)) &&& 1) = 1 then (if ax_in x4 n1 = true then f_X7_sumOf_31 k1 n1 (f_X7_sumOf_5 k1 n1 n) I x2 x4 (I k1 x4.toNatClampNeg) x3 else none) else f_X7_sumOf_31 k1 n1 (f_X7_sumOf_5 k1 n1 n) I x2 x4 0 x3
def F_X7_sumOf (I : ax_I) (k1 : Nat) (n1 : Nat) (x2 : Int32) : Option Int32 :=
  f_X7_sumOf_5 k1 n1 ax_N I x2 0 0
set_option maxRecDepth 100000 in
set_option maxHeartbeats 4000000 in
theorem t_X7_sumOf_31 {lay : List ax_S} {k1 : Nat} {n1 : Nat} {J : ax_J} {rv : Int32} (hL : ax_LL B lay) (hPk1 : lay[k1]? = some (.inr (.inl (0, n1)))) (C : ax_C p R s m args meth c yX7_sumOf cX7_sumOf 5 (some .int) 2 E mc ms) {r5 : ax_I → Int32 → Int32 → Int32 → Option (Int32)} (hr5 : ∀ (I : ax_I) (x2 : Int32) (x3 : Int32) (x4 : Int32), r5 I x2 x3 x4 = some rv → AM p l e R s m args below meth c E B lay.length (ax_z lay) 5 (some (.int rv)) lay I J lay I J 5 [(1, .ref (B + k1)), (2, .int x2), (3, .int x3), (4, .int x4)] []) : ∀ (I : ax_I) (x2 : Int32) (x4 : Int32) (s0 : Int32) (s1 : Int32), f_X7_sumOf_31 k1 n1 r5 I x2 x4 s0 s1 = some rv → AM p l e R s m args below meth c E B lay.length (ax_z lay) 5 (some (.int rv)) lay I J lay I J 31 [(1, .ref (B + k1)), (2, .int x2), (4, .int x4)] [.int s0, .int s1] := by
  obtain ⟨hx, hb, hr, hml, hown, hts, hlocks, hK, hfr, hlo, hmc, hms, hnm⟩ := id C
  have hown : s.vm.findClass RX7 = some m.cls := hown
  intro I x2 x4 s0 s1 h H locs cells slots ls hc hz hR hS hl
  unfold f_X7_sumOf_31 at h
  refine lv_iadd hx hb dX7_sumOf_31 ?_
  refine lv_istore_n (lv' := [(3, .int (s1 + s0)), (1, .ref (B + k1)), (2, .int x2), (4, .int x4)]) hx hb dX7_sumOf_32 rfl hl (by decide) rfl (fun ls hl => ?_)
  refine lv_iinc (v := (x4 + 1)) (lv' := [(4, .int (x4 + 1)), (3, .int (s1 + s0)), (1, .ref (B + k1)), (2, .int x2)]) hx hb dX7_sumOf_33 hl (k := 3) rfl rfl (by decide) rfl (fun ls hl => ?_)
  refine lv_goto (tgt := 5) hx hb dX7_sumOf_36 (by decide) ?_
  exact hr5 _ _ _ _ h H locs cells slots ls hc hz hR hS (lv_sub hl [2, 3, 1, 0] rfl)
set_option maxRecDepth 100000 in
set_option maxHeartbeats 4000000 in
theorem t_X7_sumOf_5 {lay : List ax_S} {k1 : Nat} {n1 : Nat} {J : ax_J} {rv : Int32} (hL : ax_LL B lay) (hPk1 : lay[k1]? = some (.inr (.inl (0, n1)))) (C : ax_C p R s m args meth c yX7_sumOf cX7_sumOf 5 (some .int) 2 E mc ms) : ∀ (n : Nat) (I : ax_I) (x2 : Int32) (x3 : Int32) (x4 : Int32), f_X7_sumOf_5 k1 n1 n I x2 x3 x4 = some rv → AM p l e R s m args below meth c E B lay.length (ax_z lay) 5 (some (.int rv)) lay I J lay I J 5 [(1, .ref (B + k1)), (2, .int x2), (3, .int x3), (4, .int x4)] [] := by
  obtain ⟨hx, hb, hr, hml, hown, hts, hlocks, hK, hfr, hlo, hmc, hms, hnm⟩ := id C
  have hown : s.vm.findClass RX7 = some m.cls := hown
  intro n
  induction n with
  | zero => intro I x2 x3 x4 h; cases h
  | succ n ih =>
    intro I x2 x3 x4 h H locs cells slots ls hc hz hR hS hl
    rw [f_X7_sumOf_5] at h
    refine lv_iload hx hb dX7_sumOf_5 (lv_at hl 3 rfl) ?_
    refine lv_bipush (v := 6) hx hb dX7_sumOf_7 (by decide) ?_
    refine lv_icmp_ge (tgt := 39) hx hb dX7_sumOf_9 (by decide) (fun q => ?_) (fun q => ?_)
    · have h := ax_ip q h
      refine lv_iload_n hx hb dX7_sumOf_39 rfl (lv_at hl 2 rfl) ?_
      cases h
      exact ax_iret C hc hz hR hS rfl rfl dX7_sumOf_40
    · have h := ax_iN q h
      refine lv_iload_n hx hb dX7_sumOf_12 rfl (lv_at hl 2 rfl) ?_
      refine lv_iload_n hx hb dX7_sumOf_13 rfl (lv_at hl 1 rfl) ?_
      refine lv_iload hx hb dX7_sumOf_14 (lv_at hl 3 rfl) ?_
      refine lv_ishr hx hb dX7_sumOf_16 ?_
      refine lv_iconst (v := 1) hx hb dX7_sumOf_17 (by decide) ?_
      refine lv_iand hx hb dX7_sumOf_18 ?_
      refine lv_iconst (v := 1) hx hb dX7_sumOf_19 (by decide) ?_
      refine lv_icmp_ne (tgt := 30) hx hb dX7_sumOf_20 (by decide) (fun q => ?_) (fun q => ?_)
      · have h := ax_iN q h
        refine lv_iconst (v := 0) hx hb dX7_sumOf_30 (by decide) ?_
        exact t_X7_sumOf_31 hL hPk1 C ih _ _ _ _ _ h H locs cells slots ls hc hz hR hS (lv_sub hl [0, 1, 3] rfl)
      · have h := ax_ip q h
        refine lv_aload_n hx hb dX7_sumOf_23 rfl (lv_at hl 0 rfl) ?_
        refine lv_iload hx hb dX7_sumOf_24 (lv_at hl 3 rfl) ?_
        obtain ⟨hq, h⟩ := ax_ck h
        refine ax_iald hx hb hK hR hPk1 hq dX7_sumOf_26 ?_
        refine lv_goto (tgt := 31) hx hb dX7_sumOf_27 (by decide) ?_
        exact t_X7_sumOf_31 hL hPk1 C ih _ _ _ _ _ h H locs cells slots ls hc hz hR hS (lv_sub hl [0, 1, 3] rfl)
set_option maxRecDepth 100000 in
set_option maxHeartbeats 4000000 in
theorem t_X7_sumOf_0 {lay : List ax_S} {k1 : Nat} {n1 : Nat} {J : ax_J} {rv : Int32} (hL : ax_LL B lay) (hPk1 : lay[k1]? = some (.inr (.inl (0, n1)))) (C : ax_C p R s m args meth c yX7_sumOf cX7_sumOf 5 (some .int) 2 E mc ms) : ∀ (I : ax_I) (x2 : Int32), F_X7_sumOf I k1 n1 x2 = some rv → AM p l e R s m args below meth c E B lay.length (ax_z lay) 5 (some (.int rv)) lay I J lay I J 0 [(0, .ref (B + 35)), (1, .ref (B + k1)), (2, .int x2)] [] := by
  obtain ⟨hx, hb, hr, hml, hown, hts, hlocks, hK, hfr, hlo, hmc, hms, hnm⟩ := id C
  have hown : s.vm.findClass RX7 = some m.cls := hown
  intro I x2 h H locs cells slots ls hc hz hR hS hl
  unfold F_X7_sumOf at h
  refine lv_iconst (v := 0) hx hb dX7_sumOf_0 (by decide) ?_
  refine lv_istore_n (lv' := [(3, .int 0), (0, .ref (B + 35)), (1, .ref (B + k1)), (2, .int x2)]) hx hb dX7_sumOf_1 rfl hl (by decide) rfl (fun ls hl => ?_)
  refine lv_iconst (v := 0) hx hb dX7_sumOf_2 (by decide) ?_
  refine lv_istore (lv' := [(4, .int 0), (3, .int 0), (0, .ref (B + 35)), (1, .ref (B + k1)), (2, .int x2)]) hx hb dX7_sumOf_3 hl (by decide) rfl (fun ls hl => ?_)
  exact t_X7_sumOf_5 hL hPk1 C  ax_N _ _ _ _ h H locs cells slots ls hc hz hR hS (lv_sub hl [3, 4, 1, 0] rfl)
theorem M_X7_sumOf {l : Launch} {E : ax_E} {B : Nat} {lay : List ax_S} {I : ax_I} {J : ax_J} {k1 : Nat} {n1 : Nat} {x2 : Int32} {rv : Int32} (hL : ax_LL B lay) (hPk1 : lay[k1]? = some (.inr (.inl (0, n1)))) (h : F_X7_sumOf I k1 n1 x2 = some rv) : Cm l yX7_sumOf cX7_sumOf 5 (some .int) 2 E B [.ref (B + 35), .ref (B + k1), .int x2] lay I J (some (.int rv)) lay I J :=
  ax_met (by decide) (Nat.le_of_ble_eq_true rfl) (fun p e R s m args below meth c C => t_X7_sumOf_0 hL hPk1 C _ _ h)
def f_X7_back_103 (r30 : ax_I → Int32 → Int32 → Int32 → Int32 → Option (Int32)) (I : ax_I) (x1 : Int32) (x2 : Int32) (x4 : Int32) (s0 : Int32) : Option Int32 :=
  r30 I x1 x2 s0 (x4 + 1)
def f_X7_back_102 (r30 : ax_I → Int32 → Int32 → Int32 → Int32 → Option (Int32)) (I : ax_I) (x1 : Int32) (x2 : Int32) (x3 : Int32) (x4 : Int32) : Option Int32 :=
  f_X7_back_103 r30 I x1 x2 x4 x3
def f_X7_back_68 (r30 : ax_I → Int32 → Int32 → Int32 → Int32 → Option (Int32)) (I : ax_I) (x1 : Int32) (x2 : Int32) (x3 : Int32) (x4 : Int32) (s0 : Int32) : Option Int32 :=
  if s0 = 0 then f_X7_back_102 r30 I x1 x2 x3 x4 else (F_X7_sumOf I 42 6 x4).bind (fun q82 => (F_X7_sumOf I 42 6 x3).bind (fun q91 => if q82 ≤ q91 then f_X7_back_102 r30 I x1 x2 x3 x4 else f_X7_back_103 r30 I x1 x2 x4 x4))
def f_X7_back_67 (r30 : ax_I → Int32 → Int32 → Int32 → Int32 → Option (Int32)) (I : ax_I) (x1 : Int32) (x2 : Int32) (x3 : Int32) (x4 : Int32) : Option Int32 :=
  f_X7_back_68 r30 I x1 x2 x3 x4 0
def f_X7_back_30 : Nat → ax_I → Int32 → Int32 → Int32 → Int32 → Option Int32
  | 0, _, _, _, _, _ => none
  | n + 1, I, x1, x2, x3, x4 => if 64 ≤ x4 then (if x2 = 0 then (F_X7_sumOf I 42 6 x3).bind (fun q120 => some q120) else some x3) else if (x4 &&& ((I 35 0) ^^^ (-1))) = 0 then (F_X7_sumOf I 41 6 x4).bind (fun q56 => if x1 < q56 then f_X7_back_67 (f_X7_back_30 n) I x1 x2 x3 x4 else f_X7_back_68 (f_X7_back_30 n) I x1 x2 x3 x4 1) else f_X7_back_67 (f_X7_back_30 n) I x1 x2 x3 x4
def F_X7_back (I : ax_I) (x1 : Int32) (x2 : Int32) : Option Int32 :=
  (F_X7_in I ((x1 : Int32).toInt64) 0 999).bind (fun q6 => if q6 = 0 then some (-2) else (F_X7_in I ((x2 : Int32).toInt64) 0 1).bind (fun q16 => if q16 = 0 then some (-2) else f_X7_back_30 ax_N I x1 x2 0 1))
set_option maxRecDepth 100000 in
set_option maxHeartbeats 4000000 in
theorem t_X7_back_103 {lay : List ax_S} {J : ax_J} {rv : Int32} (hL : ax_LL B lay) (C : ax_C p R s m args meth c yX7_back cX7_back 6 (some .int) 4 E mc ms) {r30 : ax_I → Int32 → Int32 → Int32 → Int32 → Option (Int32)} (hr30 : ∀ (I : ax_I) (x1 : Int32) (x2 : Int32) (x3 : Int32) (x4 : Int32), r30 I x1 x2 x3 x4 = some rv → AM p l e R s m args below meth c E B lay.length (ax_z lay) 6 (some (.int rv)) lay I J lay I J 30 [(0, .ref (B + 35)), (1, .int x1), (2, .int x2), (3, .int x3), (4, .int x4)] []) : ∀ (I : ax_I) (x1 : Int32) (x2 : Int32) (x4 : Int32) (s0 : Int32), f_X7_back_103 r30 I x1 x2 x4 s0 = some rv → AM p l e R s m args below meth c E B lay.length (ax_z lay) 6 (some (.int rv)) lay I J lay I J 103 [(0, .ref (B + 35)), (1, .int x1), (2, .int x2), (4, .int x4)] [.int s0] := by
  obtain ⟨hx, hb, hr, hml, hown, hts, hlocks, hK, hfr, hlo, hmc, hms, hnm⟩ := id C
  have hown : s.vm.findClass RX7 = some m.cls := hown
  intro I x1 x2 x4 s0 h H locs cells slots ls hc hz hR hS hl
  unfold f_X7_back_103 at h
  refine lv_istore_n (lv' := [(3, .int s0), (0, .ref (B + 35)), (1, .int x1), (2, .int x2), (4, .int x4)]) hx hb dX7_back_103 rfl hl (by decide) rfl (fun ls hl => ?_)
  refine lv_iinc (v := (x4 + 1)) (lv' := [(4, .int (x4 + 1)), (3, .int s0), (0, .ref (B + 35)), (1, .int x1), (2, .int x2)]) hx hb dX7_back_104 hl (k := 4) rfl rfl (by decide) rfl (fun ls hl => ?_)
  refine lv_goto (tgt := 30) hx hb dX7_back_107 (by decide) ?_
  exact hr30 _ _ _ _ _ h H locs cells slots ls hc hz hR hS (lv_sub hl [2, 3, 4, 1, 0] rfl)
set_option maxRecDepth 100000 in
set_option maxHeartbeats 4000000 in
theorem t_X7_back_102 {lay : List ax_S} {J : ax_J} {rv : Int32} (hL : ax_LL B lay) (C : ax_C p R s m args meth c yX7_back cX7_back 6 (some .int) 4 E mc ms) {r30 : ax_I → Int32 → Int32 → Int32 → Int32 → Option (Int32)} (hr30 : ∀ (I : ax_I) (x1 : Int32) (x2 : Int32) (x3 : Int32) (x4 : Int32), r30 I x1 x2 x3 x4 = some rv → AM p l e R s m args below meth c E B lay.length (ax_z lay) 6 (some (.int rv)) lay I J lay I J 30 [(0, .ref (B + 35)), (1, .int x1), (2, .int x2), (3, .int x3), (4, .int x4)] []) : ∀ (I : ax_I) (x1 : Int32) (x2 : Int32) (x3 : Int32) (x4 : Int32), f_X7_back_102 r30 I x1 x2 x3 x4 = some rv → AM p l e R s m args below meth c E B lay.length (ax_z lay) 6 (some (.int rv)) lay I J lay I J 102 [(0, .ref (B + 35)), (1, .int x1), (2, .int x2), (3, .int x3), (4, .int x4)] [] := by
  obtain ⟨hx, hb, hr, hml, hown, hts, hlocks, hK, hfr, hlo, hmc, hms, hnm⟩ := id C
  have hown : s.vm.findClass RX7 = some m.cls := hown
  intro I x1 x2 x3 x4 h H locs cells slots ls hc hz hR hS hl
  unfold f_X7_back_102 at h
  refine lv_iload_n hx hb dX7_back_102 rfl (lv_at hl 3 rfl) ?_
  exact t_X7_back_103 hL C hr30 _ _ _ _ _ h H locs cells slots ls hc hz hR hS (lv_sub hl [0, 1, 2, 4] rfl)
set_option maxRecDepth 100000 in
set_option maxHeartbeats 4000000 in
theorem t_X7_back_68 {lay : List ax_S} {J : ax_J} {rv : Int32} (hL : ax_LL B lay) (C : ax_C p R s m args meth c yX7_back cX7_back 6 (some .int) 4 E mc ms) {r30 : ax_I → Int32 → Int32 → Int32 → Int32 → Option (Int32)} (hr30 : ∀ (I : ax_I) (x1 : Int32) (x2 : Int32) (x3 : Int32) (x4 : Int32), r30 I x1 x2 x3 x4 = some rv → AM p l e R s m args below meth c E B lay.length (ax_z lay) 6 (some (.int rv)) lay I J lay I J 30 [(0, .ref (B + 35)), (1, .int x1), (2, .int x2), (3, .int x3), (4, .int x4)] []) : ∀ (I : ax_I) (x1 : Int32) (x2 : Int32) (x3 : Int32) (x4 : Int32) (s0 : Int32), f_X7_back_68 r30 I x1 x2 x3 x4 s0 = some rv → AM p l e R s m args below meth c E B lay.length (ax_z lay) 6 (some (.int rv)) lay I J lay I J 68 [(0, .ref (B + 35)), (1, .int x1), (2, .int x2), (3, .int x3), (4, .int x4)] [.int s0] := by
  obtain ⟨hx, hb, hr, hml, hown, hts, hlocks, hK, hfr, hlo, hmc, hms, hnm⟩ := id C
  have hown : s.vm.findClass RX7 = some m.cls := hown
  intro I x1 x2 x3 x4 s0 h H locs cells slots ls hc hz hR hS hl
  unfold f_X7_back_68 at h
  refine lv_istore (lv' := [(5, .int s0), (0, .ref (B + 35)), (1, .int x1), (2, .int x2), (3, .int x3), (4, .int x4)]) hx hb dX7_back_68 hl (by decide) rfl (fun ls hl => ?_)
  refine lv_iload hx hb dX7_back_70 (lv_at hl 0 rfl) ?_
  refine lv_if_eq (tgt := 102) hx hb dX7_back_72 (by decide) (fun q => ?_) (fun q => ?_)
  · have h := ax_ip q h
    exact t_X7_back_102 hL C hr30 _ _ _ _ _ h H locs cells slots ls hc hz hR hS (lv_sub hl [1, 2, 3, 4, 5] rfl)
  · have h := ax_iN q h
    refine lv_aload_n hx hb dX7_back_75 rfl (lv_at hl 1 rfl) ?_
    refine lv_aload_n hx hb dX7_back_76 rfl (lv_at hl 1 rfl) ?_
    refine ax_getV hx hb hts hown hK hR fl_X7_28 (lk_35 hL) rfl dX7_back_77 ?_
    refine lv_iload hx hb dX7_back_80 (lv_at hl 5 rfl) ?_
    obtain ⟨q82, hq, h⟩ := ax_bd h
    refine ax_cV (rest := []) (st1 := [.int q82]) C hc hz hS hR (M_X7_sumOf hL (lk_42 hL) hq) yk_X7_sumOf in_X7_sumOf se_X7_sumOf ml_X7_251 (lk_35 hL) rfl rfl (by decide) rfl hl.1 (Nat.le_of_ble_eq_true rfl) rfl rfl dX7_back_82 (fun H locs hR hS => ?_)
    refine lv_aload_n hx hb dX7_back_85 rfl (lv_at hl 1 rfl) ?_
    refine lv_aload_n hx hb dX7_back_86 rfl (lv_at hl 1 rfl) ?_
    refine ax_getV hx hb hts hown hK hR fl_X7_28 (lk_35 hL) rfl dX7_back_87 ?_
    refine lv_iload_n hx hb dX7_back_90 rfl (lv_at hl 4 rfl) ?_
    obtain ⟨q91, hq, h⟩ := ax_bd h
    refine ax_cV (rest := [.int q82]) (st1 := [.int q91, .int q82]) C hc hz hS hR (M_X7_sumOf hL (lk_42 hL) hq) yk_X7_sumOf in_X7_sumOf se_X7_sumOf ml_X7_251 (lk_35 hL) rfl rfl (by decide) rfl hl.1 (Nat.le_of_ble_eq_true rfl) rfl rfl dX7_back_91 (fun H locs hR hS => ?_)
    refine lv_icmp_le (tgt := 102) hx hb dX7_back_94 (by decide) (fun q => ?_) (fun q => ?_)
    · have h := ax_ip q h
      exact t_X7_back_102 hL C hr30 _ _ _ _ _ h H locs cells slots ls hc hz hR hS (lv_sub hl [1, 2, 3, 4, 5] rfl)
    · have h := ax_iN q h
      refine lv_iload hx hb dX7_back_97 (lv_at hl 5 rfl) ?_
      refine lv_goto (tgt := 103) hx hb dX7_back_99 (by decide) ?_
      exact t_X7_back_103 hL C hr30 _ _ _ _ _ h H locs cells slots ls hc hz hR hS (lv_sub hl [1, 2, 3, 5] rfl)
set_option maxRecDepth 100000 in
set_option maxHeartbeats 4000000 in
theorem t_X7_back_67 {lay : List ax_S} {J : ax_J} {rv : Int32} (hL : ax_LL B lay) (C : ax_C p R s m args meth c yX7_back cX7_back 6 (some .int) 4 E mc ms) {r30 : ax_I → Int32 → Int32 → Int32 → Int32 → Option (Int32)} (hr30 : ∀ (I : ax_I) (x1 : Int32) (x2 : Int32) (x3 : Int32) (x4 : Int32), r30 I x1 x2 x3 x4 = some rv → AM p l e R s m args below meth c E B lay.length (ax_z lay) 6 (some (.int rv)) lay I J lay I J 30 [(0, .ref (B + 35)), (1, .int x1), (2, .int x2), (3, .int x3), (4, .int x4)] []) : ∀ (I : ax_I) (x1 : Int32) (x2 : Int32) (x3 : Int32) (x4 : Int32), f_X7_back_67 r30 I x1 x2 x3 x4 = some rv → AM p l e R s m args below meth c E B lay.length (ax_z lay) 6 (some (.int rv)) lay I J lay I J 67 [(0, .ref (B + 35)), (1, .int x1), (2, .int x2), (3, .int x3), (4, .int x4)] [] := by
  obtain ⟨hx, hb, hr, hml, hown, hts, hlocks, hK, hfr, hlo, hmc, hms, hnm⟩ := id C
  have hown : s.vm.findClass RX7 = some m.cls := hown
  intro I x1 x2 x3 x4 h H locs cells slots ls hc hz hR hS hl
  unfold f_X7_back_67 at h
  refine lv_iconst (v := 0) hx hb dX7_back_67 (by decide) ?_
  exact t_X7_back_68 hL C hr30 _ _ _ _ _ _ h H locs cells slots ls hc hz hR hS (lv_sub hl [0, 1, 2, 3, 4] rfl)
set_option maxRecDepth 100000 in
set_option maxHeartbeats 4000000 in
theorem t_X7_back_30 {lay : List ax_S} {J : ax_J} {rv : Int32} (hL : ax_LL B lay) (C : ax_C p R s m args meth c yX7_back cX7_back 6 (some .int) 4 E mc ms) : ∀ (n : Nat) (I : ax_I) (x1 : Int32) (x2 : Int32) (x3 : Int32) (x4 : Int32), f_X7_back_30 n I x1 x2 x3 x4 = some rv → AM p l e R s m args below meth c E B lay.length (ax_z lay) 6 (some (.int rv)) lay I J lay I J 30 [(0, .ref (B + 35)), (1, .int x1), (2, .int x2), (3, .int x3), (4, .int x4)] [] := by
  obtain ⟨hx, hb, hr, hml, hown, hts, hlocks, hK, hfr, hlo, hmc, hms, hnm⟩ := id C
  have hown : s.vm.findClass RX7 = some m.cls := hown
  intro n
  induction n with
  | zero => intro I x1 x2 x3 x4 h; cases h
  | succ n ih =>
    intro I x1 x2 x3 x4 h H locs cells slots ls hc hz hR hS hl
    rw [f_X7_back_30] at h
    refine lv_iload hx hb dX7_back_30 (lv_at hl 4 rfl) ?_
    refine lv_bipush (v := 64) hx hb dX7_back_32 (by decide) ?_
    refine lv_icmp_ge (tgt := 110) hx hb dX7_back_34 (by decide) (fun q => ?_) (fun q => ?_)
    · have h := ax_ip q h
      refine lv_iload_n hx hb dX7_back_110 rfl (lv_at hl 2 rfl) ?_
      refine lv_if_ne (tgt := 126) hx hb dX7_back_111 (by decide) (fun q => ?_) (fun q => ?_)
      · have h := ax_iN q h
        refine lv_iload_n hx hb dX7_back_126 rfl (lv_at hl 3 rfl) ?_
        cases h
        exact ax_iret C hc hz hR hS rfl rfl dX7_back_127
      · have h := ax_ip q h
        refine lv_aload_n hx hb dX7_back_114 rfl (lv_at hl 0 rfl) ?_
        refine lv_aload_n hx hb dX7_back_115 rfl (lv_at hl 0 rfl) ?_
        refine ax_getV hx hb hts hown hK hR fl_X7_28 (lk_35 hL) rfl dX7_back_116 ?_
        refine lv_iload_n hx hb dX7_back_119 rfl (lv_at hl 3 rfl) ?_
        obtain ⟨q120, hq, h⟩ := ax_bd h
        refine ax_cV (rest := []) (st1 := [.int q120]) C hc hz hS hR (M_X7_sumOf hL (lk_42 hL) hq) yk_X7_sumOf in_X7_sumOf se_X7_sumOf ml_X7_251 (lk_35 hL) rfl rfl (by decide) rfl hl.1 (Nat.le_of_ble_eq_true rfl) rfl rfl dX7_back_120 (fun H locs hR hS => ?_)
        refine lv_goto (tgt := 127) hx hb dX7_back_123 (by decide) ?_
        cases h
        exact ax_iret C hc hz hR hS rfl rfl dX7_back_127
    · have h := ax_iN q h
      refine lv_iload hx hb dX7_back_37 (lv_at hl 4 rfl) ?_
      refine lv_aload_n hx hb dX7_back_39 rfl (lv_at hl 0 rfl) ?_
      refine ax_getI hx hb hts hown hK hR fl_X7_97 (lk_35 hL) rfl dX7_back_40 ?_
      refine lv_iconst (v := (-1)) hx hb dX7_back_43 (by decide) ?_
      refine lv_ixor hx hb dX7_back_44 ?_
      refine lv_iand hx hb dX7_back_45 ?_
      refine lv_if_ne (tgt := 67) hx hb dX7_back_46 (by decide) (fun q => ?_) (fun q => ?_)
      · have h := ax_iN q h
        exact t_X7_back_67 hL C ih _ _ _ _ _ h H locs cells slots ls hc hz hR hS (lv_sub hl [0, 1, 2, 3, 4] rfl)
      · have h := ax_ip q h
        refine lv_aload_n hx hb dX7_back_49 rfl (lv_at hl 0 rfl) ?_
        refine lv_aload_n hx hb dX7_back_50 rfl (lv_at hl 0 rfl) ?_
        refine ax_getV hx hb hts hown hK hR fl_X7_25 (lk_35 hL) rfl dX7_back_51 ?_
        refine lv_iload hx hb dX7_back_54 (lv_at hl 4 rfl) ?_
        obtain ⟨q56, hq, h⟩ := ax_bd h
        refine ax_cV (rest := []) (st1 := [.int q56]) C hc hz hS hR (M_X7_sumOf hL (lk_41 hL) hq) yk_X7_sumOf in_X7_sumOf se_X7_sumOf ml_X7_251 (lk_35 hL) rfl rfl (by decide) rfl hl.1 (Nat.le_of_ble_eq_true rfl) rfl rfl dX7_back_56 (fun H locs hR hS => ?_)
        refine lv_iload_n hx hb dX7_back_59 rfl (lv_at hl 1 rfl) ?_
        refine lv_icmp_gt (tgt := 67) hx hb dX7_back_60 (by decide) (fun q => ?_) (fun q => ?_)
        · have h := ax_ip q h
          exact t_X7_back_67 hL C ih _ _ _ _ _ h H locs cells slots ls hc hz hR hS (lv_sub hl [0, 1, 2, 3, 4] rfl)
        · have h := ax_iN q h
          refine lv_iconst (v := 1) hx hb dX7_back_63 (by decide) ?_
          refine lv_goto (tgt := 68) hx hb dX7_back_64 (by decide) ?_
          exact t_X7_back_68 hL C ih _ _ _ _ _ _ h H locs cells slots ls hc hz hR hS (lv_sub hl [0, 1, 2, 3, 4] rfl)
set_option maxRecDepth 100000 in
set_option maxHeartbeats 4000000 in
theorem t_X7_back_0 {lay : List ax_S} {J : ax_J} {rv : Int32} (hL : ax_LL B lay) (C : ax_C p R s m args meth c yX7_back cX7_back 6 (some .int) 4 E mc ms) : ∀ (I : ax_I) (x1 : Int32) (x2 : Int32), F_X7_back I x1 x2 = some rv → AM p l e R s m args below meth c E B lay.length (ax_z lay) 6 (some (.int rv)) lay I J lay I J 0 [(0, .ref (B + 35)), (1, .int x1), (2, .int x2)] [] := by
  obtain ⟨hx, hb, hr, hml, hown, hts, hlocks, hK, hfr, hlo, hmc, hms, hnm⟩ := id C
  have hown : s.vm.findClass RX7 = some m.cls := hown
  intro I x1 x2 h H locs cells slots ls hc hz hR hS hl
  unfold F_X7_back at h
  refine lv_iload_n hx hb dX7_back_0 rfl (lv_at hl 1 rfl) ?_
  refine lv_i2l hx hb dX7_back_1 rfl ?_
  refine lv_lconst (v := 0) hx hb dX7_back_2 (by decide) ?_
  refine lv_ldc2 hx hb hown (hts _ ct_X7_123) dX7_back_3 ?_
  obtain ⟨q6, hq, h⟩ := ax_bd h
  refine ax_cS (rest := []) (st1 := [.int q6]) C hc hz hS hR (M_X7_in  hq) yk_X7_in st_X7_in ml_X7_89 (by decide) rfl hl.1 (Nat.le_of_ble_eq_true rfl) rfl rfl dX7_back_6 (fun H locs hR hS => ?_)
  refine lv_if_eq (tgt := 22) hx hb dX7_back_9 (by decide) (fun q => ?_) (fun q => ?_)
  · have h := ax_ip q h
    refine lv_bipush (v := (-2)) hx hb dX7_back_22 (by decide) ?_
    cases h
    exact ax_iret C hc hz hR hS rfl rfl dX7_back_24
  · have h := ax_iN q h
    refine lv_iload_n hx hb dX7_back_12 rfl (lv_at hl 2 rfl) ?_
    refine lv_i2l hx hb dX7_back_13 rfl ?_
    refine lv_lconst (v := 0) hx hb dX7_back_14 (by decide) ?_
    refine lv_lconst (v := 1) hx hb dX7_back_15 (by decide) ?_
    obtain ⟨q16, hq, h⟩ := ax_bd h
    refine ax_cS (rest := []) (st1 := [.int q16]) C hc hz hS hR (M_X7_in  hq) yk_X7_in st_X7_in ml_X7_89 (by decide) rfl hl.1 (Nat.le_of_ble_eq_true rfl) rfl rfl dX7_back_16 (fun H locs hR hS => ?_)
    refine lv_if_ne (tgt := 25) hx hb dX7_back_19 (by decide) (fun q => ?_) (fun q => ?_)
    · have h := ax_iN q h
      refine lv_iconst (v := 0) hx hb dX7_back_25 (by decide) ?_
      refine lv_istore_n (lv' := [(3, .int 0), (0, .ref (B + 35)), (1, .int x1), (2, .int x2)]) hx hb dX7_back_26 rfl hl (by decide) rfl (fun ls hl => ?_)
      refine lv_iconst (v := 1) hx hb dX7_back_27 (by decide) ?_
      refine lv_istore (lv' := [(4, .int 1), (3, .int 0), (0, .ref (B + 35)), (1, .int x1), (2, .int x2)]) hx hb dX7_back_28 hl (by decide) rfl (fun ls hl => ?_)
      exact t_X7_back_30 hL C  ax_N _ _ _ _ _ h H locs cells slots ls hc hz hR hS (lv_sub hl [2, 3, 4, 1, 0] rfl)
    · have h := ax_ip q h
      refine lv_bipush (v := (-2)) hx hb dX7_back_22 (by decide) ?_
      cases h
      exact ax_iret C hc hz hR hS rfl rfl dX7_back_24
theorem M_X7_back {l : Launch} {E : ax_E} {B : Nat} {lay : List ax_S} {I : ax_I} {J : ax_J} {x1 : Int32} {x2 : Int32} {rv : Int32} (hL : ax_LL B lay) (h : F_X7_back I x1 x2 = some rv) : Cm l yX7_back cX7_back 6 (some .int) 4 E B [.ref (B + 35), .int x1, .int x2] lay I J (some (.int rv)) lay I J :=
  ax_met (by decide) (Nat.le_of_ble_eq_true rfl) (fun p e R s m args below meth c C => t_X7_back_0 hL C _ _ _ h)
def f_X7_seenBy_30 (r4 : ax_I → Int32 → Int32 → Int32 → Option (Int32)) (I : ax_I) (x1 : Int32) (x3 : Int32) (s0 : Int32) (s1 : Int32) : Option Int32 :=
  r4 I x1 (s1 ||| s0) (x3 + 1)
def f_X7_seenBy_4 : Nat → ax_I → Int32 → Int32 → Int32 → Option Int32
  | 0, _, _, _, _ => none
  | n + 1, I, x1, x2, x3 => if 8 ≤ x3 then some x2 else if ((x1 >>> (x3 &&& 31)) &&& 1) = 1 then (if ax_in x3 8 = true then f_X7_seenBy_30 (f_X7_seenBy_4 n) I x1 x3 (I 46 x3.toNatClampNeg) x2 else none) else f_X7_seenBy_30 (f_X7_seenBy_4 n) I x1 x3 0 x2
def F_X7_seenBy (I : ax_I) (x1 : Int32) : Option Int32 :=
  f_X7_seenBy_4 ax_N I x1 0 0
set_option maxRecDepth 100000 in
set_option maxHeartbeats 4000000 in
theorem t_X7_seenBy_30 {lay : List ax_S} {J : ax_J} {rv : Int32} (hL : ax_LL B lay) (C : ax_C p R s m args meth c yX7_seenBy cX7_seenBy 4 (some .int) 2 E mc ms) {r4 : ax_I → Int32 → Int32 → Int32 → Option (Int32)} (hr4 : ∀ (I : ax_I) (x1 : Int32) (x2 : Int32) (x3 : Int32), r4 I x1 x2 x3 = some rv → AM p l e R s m args below meth c E B lay.length (ax_z lay) 4 (some (.int rv)) lay I J lay I J 4 [(0, .ref (B + 35)), (1, .int x1), (2, .int x2), (3, .int x3)] []) : ∀ (I : ax_I) (x1 : Int32) (x3 : Int32) (s0 : Int32) (s1 : Int32), f_X7_seenBy_30 r4 I x1 x3 s0 s1 = some rv → AM p l e R s m args below meth c E B lay.length (ax_z lay) 4 (some (.int rv)) lay I J lay I J 30 [(0, .ref (B + 35)), (1, .int x1), (3, .int x3)] [.int s0, .int s1] := by
  obtain ⟨hx, hb, hr, hml, hown, hts, hlocks, hK, hfr, hlo, hmc, hms, hnm⟩ := id C
  have hown : s.vm.findClass RX7 = some m.cls := hown
  intro I x1 x3 s0 s1 h H locs cells slots ls hc hz hR hS hl
  unfold f_X7_seenBy_30 at h
  refine lv_ior hx hb dX7_seenBy_30 ?_
  refine lv_istore_n (lv' := [(2, .int (s1 ||| s0)), (0, .ref (B + 35)), (1, .int x1), (3, .int x3)]) hx hb dX7_seenBy_31 rfl hl (by decide) rfl (fun ls hl => ?_)
  refine lv_iinc (v := (x3 + 1)) (lv' := [(3, .int (x3 + 1)), (2, .int (s1 ||| s0)), (0, .ref (B + 35)), (1, .int x1)]) hx hb dX7_seenBy_32 hl (k := 3) rfl rfl (by decide) rfl (fun ls hl => ?_)
  refine lv_goto (tgt := 4) hx hb dX7_seenBy_35 (by decide) ?_
  exact hr4 _ _ _ _ h H locs cells slots ls hc hz hR hS (lv_sub hl [2, 3, 1, 0] rfl)
set_option maxRecDepth 100000 in
set_option maxHeartbeats 4000000 in
theorem t_X7_seenBy_4 {lay : List ax_S} {J : ax_J} {rv : Int32} (hL : ax_LL B lay) (C : ax_C p R s m args meth c yX7_seenBy cX7_seenBy 4 (some .int) 2 E mc ms) : ∀ (n : Nat) (I : ax_I) (x1 : Int32) (x2 : Int32) (x3 : Int32), f_X7_seenBy_4 n I x1 x2 x3 = some rv → AM p l e R s m args below meth c E B lay.length (ax_z lay) 4 (some (.int rv)) lay I J lay I J 4 [(0, .ref (B + 35)), (1, .int x1), (2, .int x2), (3, .int x3)] [] := by
  obtain ⟨hx, hb, hr, hml, hown, hts, hlocks, hK, hfr, hlo, hmc, hms, hnm⟩ := id C
  have hown : s.vm.findClass RX7 = some m.cls := hown
  intro n
  induction n with
  | zero => intro I x1 x2 x3 h; cases h
  | succ n ih =>
    intro I x1 x2 x3 h H locs cells slots ls hc hz hR hS hl
    rw [f_X7_seenBy_4] at h
    refine lv_iload_n hx hb dX7_seenBy_4 rfl (lv_at hl 3 rfl) ?_
    refine lv_bipush (v := 8) hx hb dX7_seenBy_5 (by decide) ?_
    refine lv_icmp_ge (tgt := 38) hx hb dX7_seenBy_7 (by decide) (fun q => ?_) (fun q => ?_)
    · have h := ax_ip q h
      refine lv_iload_n hx hb dX7_seenBy_38 rfl (lv_at hl 2 rfl) ?_
      cases h
      exact ax_iret C hc hz hR hS rfl rfl dX7_seenBy_39
    · have h := ax_iN q h
      refine lv_iload_n hx hb dX7_seenBy_10 rfl (lv_at hl 2 rfl) ?_
      refine lv_iload_n hx hb dX7_seenBy_11 rfl (lv_at hl 1 rfl) ?_
      refine lv_iload_n hx hb dX7_seenBy_12 rfl (lv_at hl 3 rfl) ?_
      refine lv_ishr hx hb dX7_seenBy_13 ?_
      refine lv_iconst (v := 1) hx hb dX7_seenBy_14 (by decide) ?_
      refine lv_iand hx hb dX7_seenBy_15 ?_
      refine lv_iconst (v := 1) hx hb dX7_seenBy_16 (by decide) ?_
      refine lv_icmp_ne (tgt := 29) hx hb dX7_seenBy_17 (by decide) (fun q => ?_) (fun q => ?_)
      · have h := ax_iN q h
        refine lv_iconst (v := 0) hx hb dX7_seenBy_29 (by decide) ?_
        exact t_X7_seenBy_30 hL C ih _ _ _ _ _ h H locs cells slots ls hc hz hR hS (lv_sub hl [0, 1, 3] rfl)
      · have h := ax_ip q h
        refine lv_aload_n hx hb dX7_seenBy_20 rfl (lv_at hl 0 rfl) ?_
        refine ax_getV hx hb hts hown hK hR fl_X7_40 (lk_35 hL) rfl dX7_seenBy_21 ?_
        refine lv_iload_n hx hb dX7_seenBy_24 rfl (lv_at hl 3 rfl) ?_
        obtain ⟨hq, h⟩ := ax_ck h
        refine ax_iald hx hb hK hR (lk_46 hL) hq dX7_seenBy_25 ?_
        refine lv_goto (tgt := 30) hx hb dX7_seenBy_26 (by decide) ?_
        exact t_X7_seenBy_30 hL C ih _ _ _ _ _ h H locs cells slots ls hc hz hR hS (lv_sub hl [0, 1, 3] rfl)
set_option maxRecDepth 100000 in
set_option maxHeartbeats 4000000 in
theorem t_X7_seenBy_0 {lay : List ax_S} {J : ax_J} {rv : Int32} (hL : ax_LL B lay) (C : ax_C p R s m args meth c yX7_seenBy cX7_seenBy 4 (some .int) 2 E mc ms) : ∀ (I : ax_I) (x1 : Int32), F_X7_seenBy I x1 = some rv → AM p l e R s m args below meth c E B lay.length (ax_z lay) 4 (some (.int rv)) lay I J lay I J 0 [(0, .ref (B + 35)), (1, .int x1)] [] := by
  obtain ⟨hx, hb, hr, hml, hown, hts, hlocks, hK, hfr, hlo, hmc, hms, hnm⟩ := id C
  have hown : s.vm.findClass RX7 = some m.cls := hown
  intro I x1 h H locs cells slots ls hc hz hR hS hl
  unfold F_X7_seenBy at h
  refine lv_iconst (v := 0) hx hb dX7_seenBy_0 (by decide) ?_
  refine lv_istore_n (lv' := [(2, .int 0), (0, .ref (B + 35)), (1, .int x1)]) hx hb dX7_seenBy_1 rfl hl (by decide) rfl (fun ls hl => ?_)
  refine lv_iconst (v := 0) hx hb dX7_seenBy_2 (by decide) ?_
  refine lv_istore_n (lv' := [(3, .int 0), (2, .int 0), (0, .ref (B + 35)), (1, .int x1)]) hx hb dX7_seenBy_3 rfl hl (by decide) rfl (fun ls hl => ?_)
  exact t_X7_seenBy_4 hL C  ax_N _ _ _ _ h H locs cells slots ls hc hz hR hS (lv_sub hl [2, 3, 1, 0] rfl)
theorem M_X7_seenBy {l : Launch} {E : ax_E} {B : Nat} {lay : List ax_S} {I : ax_I} {J : ax_J} {x1 : Int32} {rv : Int32} (hL : ax_LL B lay) (h : F_X7_seenBy I x1 = some rv) : Cm l yX7_seenBy cX7_seenBy 4 (some .int) 2 E B [.ref (B + 35), .int x1] lay I J (some (.int rv)) lay I J :=
  ax_met (by decide) (Nat.le_of_ble_eq_true rfl) (fun p e R s m args below meth c C => t_X7_seenBy_0 hL C _ _ h)
def f_X7_fewest_86 (r31 : ax_I → Int32 → Int32 → Int32 → Int32 → Option (Int32)) (I : ax_I) (x1 : Int32) (x2 : Int32) (x4 : Int32) (s0 : Int32) : Option Int32 :=
  r31 I x1 x2 s0 (x4 + 1)
def f_X7_fewest_85 (r31 : ax_I → Int32 → Int32 → Int32 → Int32 → Option (Int32)) (I : ax_I) (x1 : Int32) (x2 : Int32) (x3 : Int32) (x4 : Int32) : Option Int32 :=
  f_X7_fewest_86 r31 I x1 x2 x4 x3
def f_X7_fewest_60 (r31 : ax_I → Int32 → Int32 → Int32 → Int32 → Option (Int32)) (I : ax_I) (x1 : Int32) (x2 : Int32) (x3 : Int32) (x4 : Int32) (s0 : Int32) : Option Int32 :=
  if s0 = 0 then f_X7_fewest_85 r31 I x1 x2 x3 x4 else (F_X7_seenBy I x4).bind (fun q71 => if (x1 &&& (q71 ^^^ (-1))) = 0 then f_X7_fewest_86 r31 I x1 x2 x4 x4 else f_X7_fewest_85 r31 I x1 x2 x3 x4)
def f_X7_fewest_55 (r31 : ax_I → Int32 → Int32 → Int32 → Int32 → Option (Int32)) (I : ax_I) (x1 : Int32) (x2 : Int32) (x3 : Int32) (x4 : Int32) : Option Int32 :=
  f_X7_fewest_60 r31 I x1 x2 x3 x4 1
def f_X7_fewest_31 : Nat → ax_I → Int32 → Int32 → Int32 → Int32 → Option Int32
  | 0, _, _, _, _, _ => none
  | n + 1, I, x1, x2, x3, x4 => if 256 ≤ x4 then (if x3 < 0 then some x3 else if x2 = 1 then some x3 else (F_X7_ones I x3).bind (fun q107 => some q107)) else if x3 < 0 then f_X7_fewest_55 (f_X7_fewest_31 n) I x1 x2 x3 x4 else (F_X7_ones I x4).bind (fun q45 => (F_X7_ones I x3).bind (fun q49 => if q49 ≤ q45 then f_X7_fewest_60 (f_X7_fewest_31 n) I x1 x2 x3 x4 0 else f_X7_fewest_55 (f_X7_fewest_31 n) I x1 x2 x3 x4))
def F_X7_fewest (I : ax_I) (x1 : Int32) (x2 : Int32) : Option Int32 :=
  (F_X7_in I ((x1 : Int32).toInt64) 0 1023).bind (fun q6 => if q6 = 0 then some (-2) else (F_X7_in I ((x2 : Int32).toInt64) 0 1).bind (fun q16 => if q16 = 0 then some (-2) else f_X7_fewest_31 ax_N I x1 x2 (-6) 0))
set_option maxRecDepth 100000 in
set_option maxHeartbeats 4000000 in
theorem t_X7_fewest_86 {lay : List ax_S} {J : ax_J} {rv : Int32} (hL : ax_LL B lay) (C : ax_C p R s m args meth c yX7_fewest cX7_fewest 6 (some .int) 4 E mc ms) {r31 : ax_I → Int32 → Int32 → Int32 → Int32 → Option (Int32)} (hr31 : ∀ (I : ax_I) (x1 : Int32) (x2 : Int32) (x3 : Int32) (x4 : Int32), r31 I x1 x2 x3 x4 = some rv → AM p l e R s m args below meth c E B lay.length (ax_z lay) 6 (some (.int rv)) lay I J lay I J 31 [(0, .ref (B + 35)), (1, .int x1), (2, .int x2), (3, .int x3), (4, .int x4)] []) : ∀ (I : ax_I) (x1 : Int32) (x2 : Int32) (x4 : Int32) (s0 : Int32), f_X7_fewest_86 r31 I x1 x2 x4 s0 = some rv → AM p l e R s m args below meth c E B lay.length (ax_z lay) 6 (some (.int rv)) lay I J lay I J 86 [(0, .ref (B + 35)), (1, .int x1), (2, .int x2), (4, .int x4)] [.int s0] := by
  obtain ⟨hx, hb, hr, hml, hown, hts, hlocks, hK, hfr, hlo, hmc, hms, hnm⟩ := id C
  have hown : s.vm.findClass RX7 = some m.cls := hown
  intro I x1 x2 x4 s0 h H locs cells slots ls hc hz hR hS hl
  unfold f_X7_fewest_86 at h
  refine lv_istore_n (lv' := [(3, .int s0), (0, .ref (B + 35)), (1, .int x1), (2, .int x2), (4, .int x4)]) hx hb dX7_fewest_86 rfl hl (by decide) rfl (fun ls hl => ?_)
  refine lv_iinc (v := (x4 + 1)) (lv' := [(4, .int (x4 + 1)), (3, .int s0), (0, .ref (B + 35)), (1, .int x1), (2, .int x2)]) hx hb dX7_fewest_87 hl (k := 4) rfl rfl (by decide) rfl (fun ls hl => ?_)
  refine lv_goto (tgt := 31) hx hb dX7_fewest_90 (by decide) ?_
  exact hr31 _ _ _ _ _ h H locs cells slots ls hc hz hR hS (lv_sub hl [2, 3, 4, 1, 0] rfl)
set_option maxRecDepth 100000 in
set_option maxHeartbeats 4000000 in
theorem t_X7_fewest_85 {lay : List ax_S} {J : ax_J} {rv : Int32} (hL : ax_LL B lay) (C : ax_C p R s m args meth c yX7_fewest cX7_fewest 6 (some .int) 4 E mc ms) {r31 : ax_I → Int32 → Int32 → Int32 → Int32 → Option (Int32)} (hr31 : ∀ (I : ax_I) (x1 : Int32) (x2 : Int32) (x3 : Int32) (x4 : Int32), r31 I x1 x2 x3 x4 = some rv → AM p l e R s m args below meth c E B lay.length (ax_z lay) 6 (some (.int rv)) lay I J lay I J 31 [(0, .ref (B + 35)), (1, .int x1), (2, .int x2), (3, .int x3), (4, .int x4)] []) : ∀ (I : ax_I) (x1 : Int32) (x2 : Int32) (x3 : Int32) (x4 : Int32), f_X7_fewest_85 r31 I x1 x2 x3 x4 = some rv → AM p l e R s m args below meth c E B lay.length (ax_z lay) 6 (some (.int rv)) lay I J lay I J 85 [(0, .ref (B + 35)), (1, .int x1), (2, .int x2), (3, .int x3), (4, .int x4)] [] := by
  obtain ⟨hx, hb, hr, hml, hown, hts, hlocks, hK, hfr, hlo, hmc, hms, hnm⟩ := id C
  have hown : s.vm.findClass RX7 = some m.cls := hown
  intro I x1 x2 x3 x4 h H locs cells slots ls hc hz hR hS hl
  unfold f_X7_fewest_85 at h
  refine lv_iload_n hx hb dX7_fewest_85 rfl (lv_at hl 3 rfl) ?_
  exact t_X7_fewest_86 hL C hr31 _ _ _ _ _ h H locs cells slots ls hc hz hR hS (lv_sub hl [0, 1, 2, 4] rfl)
set_option maxRecDepth 100000 in
set_option maxHeartbeats 4000000 in
theorem t_X7_fewest_60 {lay : List ax_S} {J : ax_J} {rv : Int32} (hL : ax_LL B lay) (C : ax_C p R s m args meth c yX7_fewest cX7_fewest 6 (some .int) 4 E mc ms) {r31 : ax_I → Int32 → Int32 → Int32 → Int32 → Option (Int32)} (hr31 : ∀ (I : ax_I) (x1 : Int32) (x2 : Int32) (x3 : Int32) (x4 : Int32), r31 I x1 x2 x3 x4 = some rv → AM p l e R s m args below meth c E B lay.length (ax_z lay) 6 (some (.int rv)) lay I J lay I J 31 [(0, .ref (B + 35)), (1, .int x1), (2, .int x2), (3, .int x3), (4, .int x4)] []) : ∀ (I : ax_I) (x1 : Int32) (x2 : Int32) (x3 : Int32) (x4 : Int32) (s0 : Int32), f_X7_fewest_60 r31 I x1 x2 x3 x4 s0 = some rv → AM p l e R s m args below meth c E B lay.length (ax_z lay) 6 (some (.int rv)) lay I J lay I J 60 [(0, .ref (B + 35)), (1, .int x1), (2, .int x2), (3, .int x3), (4, .int x4)] [.int s0] := by
  obtain ⟨hx, hb, hr, hml, hown, hts, hlocks, hK, hfr, hlo, hmc, hms, hnm⟩ := id C
  have hown : s.vm.findClass RX7 = some m.cls := hown
  intro I x1 x2 x3 x4 s0 h H locs cells slots ls hc hz hR hS hl
  unfold f_X7_fewest_60 at h
  refine lv_istore (lv' := [(5, .int s0), (0, .ref (B + 35)), (1, .int x1), (2, .int x2), (3, .int x3), (4, .int x4)]) hx hb dX7_fewest_60 hl (by decide) rfl (fun ls hl => ?_)
  refine lv_iload hx hb dX7_fewest_62 (lv_at hl 0 rfl) ?_
  refine lv_if_eq (tgt := 85) hx hb dX7_fewest_64 (by decide) (fun q => ?_) (fun q => ?_)
  · have h := ax_ip q h
    exact t_X7_fewest_85 hL C hr31 _ _ _ _ _ h H locs cells slots ls hc hz hR hS (lv_sub hl [1, 2, 3, 4, 5] rfl)
  · have h := ax_iN q h
    refine lv_iload_n hx hb dX7_fewest_67 rfl (lv_at hl 2 rfl) ?_
    refine lv_aload_n hx hb dX7_fewest_68 rfl (lv_at hl 1 rfl) ?_
    refine lv_iload hx hb dX7_fewest_69 (lv_at hl 5 rfl) ?_
    obtain ⟨q71, hq, h⟩ := ax_bd h
    refine ax_cV (rest := [.int x1]) (st1 := [.int q71, .int x1]) C hc hz hS hR (M_X7_seenBy hL hq) yk_X7_seenBy in_X7_seenBy se_X7_seenBy ml_X7_255 (lk_35 hL) rfl rfl (by decide) rfl hl.1 (Nat.le_of_ble_eq_true rfl) rfl rfl dX7_fewest_71 (fun H locs hR hS => ?_)
    refine lv_iconst (v := (-1)) hx hb dX7_fewest_74 (by decide) ?_
    refine lv_ixor hx hb dX7_fewest_75 ?_
    refine lv_iand hx hb dX7_fewest_76 ?_
    refine lv_if_ne (tgt := 85) hx hb dX7_fewest_77 (by decide) (fun q => ?_) (fun q => ?_)
    · have h := ax_iN q h
      exact t_X7_fewest_85 hL C hr31 _ _ _ _ _ h H locs cells slots ls hc hz hR hS (lv_sub hl [1, 2, 3, 4, 5] rfl)
    · have h := ax_ip q h
      refine lv_iload hx hb dX7_fewest_80 (lv_at hl 5 rfl) ?_
      refine lv_goto (tgt := 86) hx hb dX7_fewest_82 (by decide) ?_
      exact t_X7_fewest_86 hL C hr31 _ _ _ _ _ h H locs cells slots ls hc hz hR hS (lv_sub hl [1, 2, 3, 5] rfl)
set_option maxRecDepth 100000 in
set_option maxHeartbeats 4000000 in
theorem t_X7_fewest_55 {lay : List ax_S} {J : ax_J} {rv : Int32} (hL : ax_LL B lay) (C : ax_C p R s m args meth c yX7_fewest cX7_fewest 6 (some .int) 4 E mc ms) {r31 : ax_I → Int32 → Int32 → Int32 → Int32 → Option (Int32)} (hr31 : ∀ (I : ax_I) (x1 : Int32) (x2 : Int32) (x3 : Int32) (x4 : Int32), r31 I x1 x2 x3 x4 = some rv → AM p l e R s m args below meth c E B lay.length (ax_z lay) 6 (some (.int rv)) lay I J lay I J 31 [(0, .ref (B + 35)), (1, .int x1), (2, .int x2), (3, .int x3), (4, .int x4)] []) : ∀ (I : ax_I) (x1 : Int32) (x2 : Int32) (x3 : Int32) (x4 : Int32), f_X7_fewest_55 r31 I x1 x2 x3 x4 = some rv → AM p l e R s m args below meth c E B lay.length (ax_z lay) 6 (some (.int rv)) lay I J lay I J 55 [(0, .ref (B + 35)), (1, .int x1), (2, .int x2), (3, .int x3), (4, .int x4)] [] := by
  obtain ⟨hx, hb, hr, hml, hown, hts, hlocks, hK, hfr, hlo, hmc, hms, hnm⟩ := id C
  have hown : s.vm.findClass RX7 = some m.cls := hown
  intro I x1 x2 x3 x4 h H locs cells slots ls hc hz hR hS hl
  unfold f_X7_fewest_55 at h
  refine lv_iconst (v := 1) hx hb dX7_fewest_55 (by decide) ?_
  refine lv_goto (tgt := 60) hx hb dX7_fewest_56 (by decide) ?_
  exact t_X7_fewest_60 hL C hr31 _ _ _ _ _ _ h H locs cells slots ls hc hz hR hS (lv_sub hl [0, 1, 2, 3, 4] rfl)
set_option maxRecDepth 100000 in
set_option maxHeartbeats 4000000 in
theorem t_X7_fewest_31 {lay : List ax_S} {J : ax_J} {rv : Int32} (hL : ax_LL B lay) (C : ax_C p R s m args meth c yX7_fewest cX7_fewest 6 (some .int) 4 E mc ms) : ∀ (n : Nat) (I : ax_I) (x1 : Int32) (x2 : Int32) (x3 : Int32) (x4 : Int32), f_X7_fewest_31 n I x1 x2 x3 x4 = some rv → AM p l e R s m args below meth c E B lay.length (ax_z lay) 6 (some (.int rv)) lay I J lay I J 31 [(0, .ref (B + 35)), (1, .int x1), (2, .int x2), (3, .int x3), (4, .int x4)] [] := by
  obtain ⟨hx, hb, hr, hml, hown, hts, hlocks, hK, hfr, hlo, hmc, hms, hnm⟩ := id C
  have hown : s.vm.findClass RX7 = some m.cls := hown
  intro n
  induction n with
  | zero => intro I x1 x2 x3 x4 h; cases h
  | succ n ih =>
    intro I x1 x2 x3 x4 h H locs cells slots ls hc hz hR hS hl
    rw [f_X7_fewest_31] at h
    refine lv_iload hx hb dX7_fewest_31 (lv_at hl 4 rfl) ?_
    refine lv_sipush (v := 256) hx hb dX7_fewest_33 (by decide) ?_
    refine lv_icmp_ge (tgt := 93) hx hb dX7_fewest_36 (by decide) (fun q => ?_) (fun q => ?_)
    · have h := ax_ip q h
      refine lv_iload_n hx hb dX7_fewest_93 rfl (lv_at hl 3 rfl) ?_
      refine lv_if_lt (tgt := 102) hx hb dX7_fewest_94 (by decide) (fun q => ?_) (fun q => ?_)
      · have h := ax_ip q h
        refine lv_iload_n hx hb dX7_fewest_102 rfl (lv_at hl 3 rfl) ?_
        refine lv_goto (tgt := 110) hx hb dX7_fewest_103 (by decide) ?_
        cases h
        exact ax_iret C hc hz hR hS rfl rfl dX7_fewest_110
      · have h := ax_iN q h
        refine lv_iload_n hx hb dX7_fewest_97 rfl (lv_at hl 2 rfl) ?_
        refine lv_iconst (v := 1) hx hb dX7_fewest_98 (by decide) ?_
        refine lv_icmp_ne (tgt := 106) hx hb dX7_fewest_99 (by decide) (fun q => ?_) (fun q => ?_)
        · have h := ax_iN q h
          refine lv_iload_n hx hb dX7_fewest_106 rfl (lv_at hl 3 rfl) ?_
          obtain ⟨q107, hq, h⟩ := ax_bd h
          refine ax_cS (rest := []) (st1 := [.int q107]) C hc hz hS hR (M_X7_ones  hq) yk_X7_ones st_X7_ones ml_X7_109 (by decide) rfl hl.1 (Nat.le_of_ble_eq_true rfl) rfl rfl dX7_fewest_107 (fun H locs hR hS => ?_)
          cases h
          exact ax_iret C hc hz hR hS rfl rfl dX7_fewest_110
        · have h := ax_ip q h
          refine lv_iload_n hx hb dX7_fewest_102 rfl (lv_at hl 3 rfl) ?_
          refine lv_goto (tgt := 110) hx hb dX7_fewest_103 (by decide) ?_
          cases h
          exact ax_iret C hc hz hR hS rfl rfl dX7_fewest_110
    · have h := ax_iN q h
      refine lv_iload_n hx hb dX7_fewest_39 rfl (lv_at hl 3 rfl) ?_
      refine lv_if_lt (tgt := 55) hx hb dX7_fewest_40 (by decide) (fun q => ?_) (fun q => ?_)
      · have h := ax_ip q h
        exact t_X7_fewest_55 hL C ih _ _ _ _ _ h H locs cells slots ls hc hz hR hS (lv_sub hl [0, 1, 2, 3, 4] rfl)
      · have h := ax_iN q h
        refine lv_iload hx hb dX7_fewest_43 (lv_at hl 4 rfl) ?_
        obtain ⟨q45, hq, h⟩ := ax_bd h
        refine ax_cS (rest := []) (st1 := [.int q45]) C hc hz hS hR (M_X7_ones  hq) yk_X7_ones st_X7_ones ml_X7_109 (by decide) rfl hl.1 (Nat.le_of_ble_eq_true rfl) rfl rfl dX7_fewest_45 (fun H locs hR hS => ?_)
        refine lv_iload_n hx hb dX7_fewest_48 rfl (lv_at hl 3 rfl) ?_
        obtain ⟨q49, hq, h⟩ := ax_bd h
        refine ax_cS (rest := [.int q45]) (st1 := [.int q49, .int q45]) C hc hz hS hR (M_X7_ones  hq) yk_X7_ones st_X7_ones ml_X7_109 (by decide) rfl hl.1 (Nat.le_of_ble_eq_true rfl) rfl rfl dX7_fewest_49 (fun H locs hR hS => ?_)
        refine lv_icmp_ge (tgt := 59) hx hb dX7_fewest_52 (by decide) (fun q => ?_) (fun q => ?_)
        · have h := ax_ip q h
          refine lv_iconst (v := 0) hx hb dX7_fewest_59 (by decide) ?_
          exact t_X7_fewest_60 hL C ih _ _ _ _ _ _ h H locs cells slots ls hc hz hR hS (lv_sub hl [0, 1, 2, 3, 4] rfl)
        · have h := ax_iN q h
          exact t_X7_fewest_55 hL C ih _ _ _ _ _ h H locs cells slots ls hc hz hR hS (lv_sub hl [0, 1, 2, 3, 4] rfl)
set_option maxRecDepth 100000 in
set_option maxHeartbeats 4000000 in
theorem t_X7_fewest_0 {lay : List ax_S} {J : ax_J} {rv : Int32} (hL : ax_LL B lay) (C : ax_C p R s m args meth c yX7_fewest cX7_fewest 6 (some .int) 4 E mc ms) : ∀ (I : ax_I) (x1 : Int32) (x2 : Int32), F_X7_fewest I x1 x2 = some rv → AM p l e R s m args below meth c E B lay.length (ax_z lay) 6 (some (.int rv)) lay I J lay I J 0 [(0, .ref (B + 35)), (1, .int x1), (2, .int x2)] [] := by
  obtain ⟨hx, hb, hr, hml, hown, hts, hlocks, hK, hfr, hlo, hmc, hms, hnm⟩ := id C
  have hown : s.vm.findClass RX7 = some m.cls := hown
  intro I x1 x2 h H locs cells slots ls hc hz hR hS hl
  unfold F_X7_fewest at h
  refine lv_iload_n hx hb dX7_fewest_0 rfl (lv_at hl 1 rfl) ?_
  refine lv_i2l hx hb dX7_fewest_1 rfl ?_
  refine lv_lconst (v := 0) hx hb dX7_fewest_2 (by decide) ?_
  refine lv_ldc2 hx hb hown (hts _ ct_X7_129) dX7_fewest_3 ?_
  obtain ⟨q6, hq, h⟩ := ax_bd h
  refine ax_cS (rest := []) (st1 := [.int q6]) C hc hz hS hR (M_X7_in  hq) yk_X7_in st_X7_in ml_X7_89 (by decide) rfl hl.1 (Nat.le_of_ble_eq_true rfl) rfl rfl dX7_fewest_6 (fun H locs hR hS => ?_)
  refine lv_if_eq (tgt := 22) hx hb dX7_fewest_9 (by decide) (fun q => ?_) (fun q => ?_)
  · have h := ax_ip q h
    refine lv_bipush (v := (-2)) hx hb dX7_fewest_22 (by decide) ?_
    cases h
    exact ax_iret C hc hz hR hS rfl rfl dX7_fewest_24
  · have h := ax_iN q h
    refine lv_iload_n hx hb dX7_fewest_12 rfl (lv_at hl 2 rfl) ?_
    refine lv_i2l hx hb dX7_fewest_13 rfl ?_
    refine lv_lconst (v := 0) hx hb dX7_fewest_14 (by decide) ?_
    refine lv_lconst (v := 1) hx hb dX7_fewest_15 (by decide) ?_
    obtain ⟨q16, hq, h⟩ := ax_bd h
    refine ax_cS (rest := []) (st1 := [.int q16]) C hc hz hS hR (M_X7_in  hq) yk_X7_in st_X7_in ml_X7_89 (by decide) rfl hl.1 (Nat.le_of_ble_eq_true rfl) rfl rfl dX7_fewest_16 (fun H locs hR hS => ?_)
    refine lv_if_ne (tgt := 25) hx hb dX7_fewest_19 (by decide) (fun q => ?_) (fun q => ?_)
    · have h := ax_iN q h
      refine lv_bipush (v := (-6)) hx hb dX7_fewest_25 (by decide) ?_
      refine lv_istore_n (lv' := [(3, .int (-6)), (0, .ref (B + 35)), (1, .int x1), (2, .int x2)]) hx hb dX7_fewest_27 rfl hl (by decide) rfl (fun ls hl => ?_)
      refine lv_iconst (v := 0) hx hb dX7_fewest_28 (by decide) ?_
      refine lv_istore (lv' := [(4, .int 0), (3, .int (-6)), (0, .ref (B + 35)), (1, .int x1), (2, .int x2)]) hx hb dX7_fewest_29 hl (by decide) rfl (fun ls hl => ?_)
      exact t_X7_fewest_31 hL C  ax_N _ _ _ _ _ h H locs cells slots ls hc hz hR hS (lv_sub hl [2, 3, 4, 1, 0] rfl)
    · have h := ax_ip q h
      refine lv_bipush (v := (-2)) hx hb dX7_fewest_22 (by decide) ?_
      cases h
      exact ax_iret C hc hz hR hS rfl rfl dX7_fewest_24
theorem M_X7_fewest {l : Launch} {E : ax_E} {B : Nat} {lay : List ax_S} {I : ax_I} {J : ax_J} {x1 : Int32} {x2 : Int32} {rv : Int32} (hL : ax_LL B lay) (h : F_X7_fewest I x1 x2 = some rv) : Cm l yX7_fewest cX7_fewest 6 (some .int) 4 E B [.ref (B + 35), .int x1, .int x2] lay I J (some (.int rv)) lay I J :=
  ax_met (by decide) (Nat.le_of_ble_eq_true rfl) (fun p e R s m args below meth c C => t_X7_fewest_0 hL C _ _ _ h)
def f_X7_mostDays_60 (r6 : ax_I → Int32 → Int32 → Int32 → Int32 → Option (Int32)) (r27 : ax_I → Int32 → Int32 → Int32 → Int32 → Int32 → Int32 → Option (Int32)) (I : ax_I) (x1 : Int32) (x2 : Int32) (x3 : Int32) (x4 : Int32) (x6 : Int32) (s0 : Int32) (s1 : Int32) : Option Int32 :=
  r27 I x1 x2 x3 x4 (s1 ||| s0) (x6 + 1)
def f_X7_mostDays_99 (r6 : ax_I → Int32 → Int32 → Int32 → Int32 → Option (Int32)) (I : ax_I) (x1 : Int32) (x2 : Int32) (x3 : Int32) (x4 : Int32) : Option Int32 :=
  r6 I x1 x2 x3 (x4 + 1)
def f_X7_mostDays_98 (r6 : ax_I → Int32 → Int32 → Int32 → Int32 → Option (Int32)) (I : ax_I) (x1 : Int32) (x2 : Int32) (x4 : Int32) (s0 : Int32) : Option Int32 :=
  f_X7_mostDays_99 r6 I x1 x2 s0 x4
def f_X7_mostDays_27 (r6 : ax_I → Int32 → Int32 → Int32 → Int32 → Option (Int32)) : Nat → ax_I → Int32 → Int32 → Int32 → Int32 → Int32 → Int32 → Option Int32
  | 0, _, _, _, _, _, _, _ => none
  | n + 1, I, x1, x2, x3, x4, x5, x6 => if 6 ≤ x6 then (F_X7_ones I (x1 &&& (x4 ^^^ (-1)))).bind (fun q75 => (F_X7_ones I x5).bind (fun q80 => if x3 ≤ (q75 + q80) then f_X7_mostDays_98 r6 I x1 x2 x4 x3 else f_X7_mostDays_98 r6 I x1 x2 x4 (q75 + q80))) else if ((x4 >>> (x6 &&& 31)) &&& 1) = 1 then (if ax_in x6 6 = true then f_X7_mostDays_60 r6 (f_X7_mostDays_27 r6 n) I x1 x2 x3 x4 x6 ((I 43 x6.toNatClampNeg) &&& x2) x5 else none) else f_X7_mostDays_60 r6 (f_X7_mostDays_27 r6 n) I x1 x2 x3 x4 x6 0 x5
def f_X7_mostDays_6 : Nat → ax_I → Int32 → Int32 → Int32 → Int32 → Option Int32
  | 0, _, _, _, _, _ => none
  | n + 1, I, x1, x2, x3, x4 => if x1 < x4 then some x3 else if (x4 &&& (x1 ^^^ (-1))) = 0 then f_X7_mostDays_27 (f_X7_mostDays_6 n) ax_N I x1 x2 x3 x4 0 0 else f_X7_mostDays_99 (f_X7_mostDays_6 n) I x1 x2 x3 x4
def F_X7_mostDays (I : ax_I) (x1 : Int32) (x2 : Int32) : Option Int32 :=
  f_X7_mostDays_6 ax_N I x1 x2 12 0
set_option maxRecDepth 100000 in
set_option maxHeartbeats 4000000 in
theorem t_X7_mostDays_60 {lay : List ax_S} {J : ax_J} {rv : Int32} (hL : ax_LL B lay) (C : ax_C p R s m args meth c yX7_mostDays cX7_mostDays 7 (some .int) 4 E mc ms) {r6 : ax_I → Int32 → Int32 → Int32 → Int32 → Option (Int32)} (hr6 : ∀ (I : ax_I) (x1 : Int32) (x2 : Int32) (x3 : Int32) (x4 : Int32), r6 I x1 x2 x3 x4 = some rv → AM p l e R s m args below meth c E B lay.length (ax_z lay) 7 (some (.int rv)) lay I J lay I J 6 [(0, .ref (B + 35)), (1, .int x1), (2, .int x2), (3, .int x3), (4, .int x4)] []) {r27 : ax_I → Int32 → Int32 → Int32 → Int32 → Int32 → Int32 → Option (Int32)} (hr27 : ∀ (I : ax_I) (x1 : Int32) (x2 : Int32) (x3 : Int32) (x4 : Int32) (x5 : Int32) (x6 : Int32), r27 I x1 x2 x3 x4 x5 x6 = some rv → AM p l e R s m args below meth c E B lay.length (ax_z lay) 7 (some (.int rv)) lay I J lay I J 27 [(0, .ref (B + 35)), (1, .int x1), (2, .int x2), (3, .int x3), (4, .int x4), (5, .int x5), (6, .int x6)] []) : ∀ (I : ax_I) (x1 : Int32) (x2 : Int32) (x3 : Int32) (x4 : Int32) (x6 : Int32) (s0 : Int32) (s1 : Int32), f_X7_mostDays_60 r6 r27 I x1 x2 x3 x4 x6 s0 s1 = some rv → AM p l e R s m args below meth c E B lay.length (ax_z lay) 7 (some (.int rv)) lay I J lay I J 60 [(0, .ref (B + 35)), (1, .int x1), (2, .int x2), (3, .int x3), (4, .int x4), (6, .int x6)] [.int s0, .int s1] := by
  obtain ⟨hx, hb, hr, hml, hown, hts, hlocks, hK, hfr, hlo, hmc, hms, hnm⟩ := id C
  have hown : s.vm.findClass RX7 = some m.cls := hown
  intro I x1 x2 x3 x4 x6 s0 s1 h H locs cells slots ls hc hz hR hS hl
  unfold f_X7_mostDays_60 at h
  refine lv_ior hx hb dX7_mostDays_60 ?_
  refine lv_istore (lv' := [(5, .int (s1 ||| s0)), (0, .ref (B + 35)), (1, .int x1), (2, .int x2), (3, .int x3), (4, .int x4), (6, .int x6)]) hx hb dX7_mostDays_61 hl (by decide) rfl (fun ls hl => ?_)
  refine lv_iinc (v := (x6 + 1)) (lv' := [(6, .int (x6 + 1)), (5, .int (s1 ||| s0)), (0, .ref (B + 35)), (1, .int x1), (2, .int x2), (3, .int x3), (4, .int x4)]) hx hb dX7_mostDays_63 hl (k := 6) rfl rfl (by decide) rfl (fun ls hl => ?_)
  refine lv_goto (tgt := 27) hx hb dX7_mostDays_66 (by decide) ?_
  exact hr27 _ _ _ _ _ _ _ h H locs cells slots ls hc hz hR hS (lv_sub hl [2, 3, 4, 5, 6, 1, 0] rfl)
set_option maxRecDepth 100000 in
set_option maxHeartbeats 4000000 in
theorem t_X7_mostDays_99 {lay : List ax_S} {J : ax_J} {rv : Int32} (hL : ax_LL B lay) (C : ax_C p R s m args meth c yX7_mostDays cX7_mostDays 7 (some .int) 4 E mc ms) {r6 : ax_I → Int32 → Int32 → Int32 → Int32 → Option (Int32)} (hr6 : ∀ (I : ax_I) (x1 : Int32) (x2 : Int32) (x3 : Int32) (x4 : Int32), r6 I x1 x2 x3 x4 = some rv → AM p l e R s m args below meth c E B lay.length (ax_z lay) 7 (some (.int rv)) lay I J lay I J 6 [(0, .ref (B + 35)), (1, .int x1), (2, .int x2), (3, .int x3), (4, .int x4)] []) : ∀ (I : ax_I) (x1 : Int32) (x2 : Int32) (x3 : Int32) (x4 : Int32), f_X7_mostDays_99 r6 I x1 x2 x3 x4 = some rv → AM p l e R s m args below meth c E B lay.length (ax_z lay) 7 (some (.int rv)) lay I J lay I J 99 [(0, .ref (B + 35)), (1, .int x1), (2, .int x2), (3, .int x3), (4, .int x4)] [] := by
  obtain ⟨hx, hb, hr, hml, hown, hts, hlocks, hK, hfr, hlo, hmc, hms, hnm⟩ := id C
  have hown : s.vm.findClass RX7 = some m.cls := hown
  intro I x1 x2 x3 x4 h H locs cells slots ls hc hz hR hS hl
  unfold f_X7_mostDays_99 at h
  refine lv_iinc (v := (x4 + 1)) (lv' := [(4, .int (x4 + 1)), (0, .ref (B + 35)), (1, .int x1), (2, .int x2), (3, .int x3)]) hx hb dX7_mostDays_99 hl (k := 4) rfl rfl (by decide) rfl (fun ls hl => ?_)
  refine lv_goto (tgt := 6) hx hb dX7_mostDays_102 (by decide) ?_
  exact hr6 _ _ _ _ _ h H locs cells slots ls hc hz hR hS (lv_sub hl [1, 2, 3, 4, 0] rfl)
set_option maxRecDepth 100000 in
set_option maxHeartbeats 4000000 in
theorem t_X7_mostDays_98 {lay : List ax_S} {J : ax_J} {rv : Int32} (hL : ax_LL B lay) (C : ax_C p R s m args meth c yX7_mostDays cX7_mostDays 7 (some .int) 4 E mc ms) {r6 : ax_I → Int32 → Int32 → Int32 → Int32 → Option (Int32)} (hr6 : ∀ (I : ax_I) (x1 : Int32) (x2 : Int32) (x3 : Int32) (x4 : Int32), r6 I x1 x2 x3 x4 = some rv → AM p l e R s m args below meth c E B lay.length (ax_z lay) 7 (some (.int rv)) lay I J lay I J 6 [(0, .ref (B + 35)), (1, .int x1), (2, .int x2), (3, .int x3), (4, .int x4)] []) : ∀ (I : ax_I) (x1 : Int32) (x2 : Int32) (x4 : Int32) (s0 : Int32), f_X7_mostDays_98 r6 I x1 x2 x4 s0 = some rv → AM p l e R s m args below meth c E B lay.length (ax_z lay) 7 (some (.int rv)) lay I J lay I J 98 [(0, .ref (B + 35)), (1, .int x1), (2, .int x2), (4, .int x4)] [.int s0] := by
  obtain ⟨hx, hb, hr, hml, hown, hts, hlocks, hK, hfr, hlo, hmc, hms, hnm⟩ := id C
  have hown : s.vm.findClass RX7 = some m.cls := hown
  intro I x1 x2 x4 s0 h H locs cells slots ls hc hz hR hS hl
  unfold f_X7_mostDays_98 at h
  refine lv_istore_n (lv' := [(3, .int s0), (0, .ref (B + 35)), (1, .int x1), (2, .int x2), (4, .int x4)]) hx hb dX7_mostDays_98 rfl hl (by decide) rfl (fun ls hl => ?_)
  exact t_X7_mostDays_99 hL C hr6 _ _ _ _ _ h H locs cells slots ls hc hz hR hS (lv_sub hl [1, 2, 3, 0, 4] rfl)
set_option maxRecDepth 100000 in
set_option maxHeartbeats 4000000 in
theorem t_X7_mostDays_27 {lay : List ax_S} {J : ax_J} {rv : Int32} (hL : ax_LL B lay) (C : ax_C p R s m args meth c yX7_mostDays cX7_mostDays 7 (some .int) 4 E mc ms) {r6 : ax_I → Int32 → Int32 → Int32 → Int32 → Option (Int32)} (hr6 : ∀ (I : ax_I) (x1 : Int32) (x2 : Int32) (x3 : Int32) (x4 : Int32), r6 I x1 x2 x3 x4 = some rv → AM p l e R s m args below meth c E B lay.length (ax_z lay) 7 (some (.int rv)) lay I J lay I J 6 [(0, .ref (B + 35)), (1, .int x1), (2, .int x2), (3, .int x3), (4, .int x4)] []) : ∀ (n : Nat) (I : ax_I) (x1 : Int32) (x2 : Int32) (x3 : Int32) (x4 : Int32) (x5 : Int32) (x6 : Int32), f_X7_mostDays_27 r6 n I x1 x2 x3 x4 x5 x6 = some rv → AM p l e R s m args below meth c E B lay.length (ax_z lay) 7 (some (.int rv)) lay I J lay I J 27 [(0, .ref (B + 35)), (1, .int x1), (2, .int x2), (3, .int x3), (4, .int x4), (5, .int x5), (6, .int x6)] [] := by
  obtain ⟨hx, hb, hr, hml, hown, hts, hlocks, hK, hfr, hlo, hmc, hms, hnm⟩ := id C
  have hown : s.vm.findClass RX7 = some m.cls := hown
  intro n
  induction n with
  | zero => intro I x1 x2 x3 x4 x5 x6 h; cases h
  | succ n ih =>
    intro I x1 x2 x3 x4 x5 x6 h H locs cells slots ls hc hz hR hS hl
    rw [f_X7_mostDays_27] at h
    refine lv_iload hx hb dX7_mostDays_27 (lv_at hl 6 rfl) ?_
    refine lv_bipush (v := 6) hx hb dX7_mostDays_29 (by decide) ?_
    refine lv_icmp_ge (tgt := 69) hx hb dX7_mostDays_31 (by decide) (fun q => ?_) (fun q => ?_)
    · have h := ax_ip q h
      refine lv_iload_n hx hb dX7_mostDays_69 rfl (lv_at hl 1 rfl) ?_
      refine lv_iload hx hb dX7_mostDays_70 (lv_at hl 4 rfl) ?_
      refine lv_iconst (v := (-1)) hx hb dX7_mostDays_72 (by decide) ?_
      refine lv_ixor hx hb dX7_mostDays_73 ?_
      refine lv_iand hx hb dX7_mostDays_74 ?_
      obtain ⟨q75, hq, h⟩ := ax_bd h
      refine ax_cS (rest := []) (st1 := [.int q75]) C hc hz hS hR (M_X7_ones  hq) yk_X7_ones st_X7_ones ml_X7_109 (by decide) rfl hl.1 (Nat.le_of_ble_eq_true rfl) rfl rfl dX7_mostDays_75 (fun H locs hR hS => ?_)
      refine lv_iload hx hb dX7_mostDays_78 (lv_at hl 5 rfl) ?_
      obtain ⟨q80, hq, h⟩ := ax_bd h
      refine ax_cS (rest := [.int q75]) (st1 := [.int q80, .int q75]) C hc hz hS hR (M_X7_ones  hq) yk_X7_ones st_X7_ones ml_X7_109 (by decide) rfl hl.1 (Nat.le_of_ble_eq_true rfl) rfl rfl dX7_mostDays_80 (fun H locs hR hS => ?_)
      refine lv_iadd hx hb dX7_mostDays_83 ?_
      refine lv_istore (lv' := [(6, .int (q75 + q80)), (0, .ref (B + 35)), (1, .int x1), (2, .int x2), (3, .int x3), (4, .int x4), (5, .int x5)]) hx hb dX7_mostDays_84 hl (by decide) rfl (fun ls hl => ?_)
      refine lv_iload hx hb dX7_mostDays_86 (lv_at hl 0 rfl) ?_
      refine lv_iload_n hx hb dX7_mostDays_88 rfl (lv_at hl 4 rfl) ?_
      refine lv_icmp_ge (tgt := 97) hx hb dX7_mostDays_89 (by decide) (fun q => ?_) (fun q => ?_)
      · have h := ax_ip q h
        refine lv_iload_n hx hb dX7_mostDays_97 rfl (lv_at hl 4 rfl) ?_
        exact t_X7_mostDays_98 hL C hr6 _ _ _ _ _ h H locs cells slots ls hc hz hR hS (lv_sub hl [1, 2, 3, 5] rfl)
      · have h := ax_iN q h
        refine lv_iload hx hb dX7_mostDays_92 (lv_at hl 0 rfl) ?_
        refine lv_goto (tgt := 98) hx hb dX7_mostDays_94 (by decide) ?_
        exact t_X7_mostDays_98 hL C hr6 _ _ _ _ _ h H locs cells slots ls hc hz hR hS (lv_sub hl [1, 2, 3, 5] rfl)
    · have h := ax_iN q h
      refine lv_iload hx hb dX7_mostDays_34 (lv_at hl 5 rfl) ?_
      refine lv_iload hx hb dX7_mostDays_36 (lv_at hl 4 rfl) ?_
      refine lv_iload hx hb dX7_mostDays_38 (lv_at hl 6 rfl) ?_
      refine lv_ishr hx hb dX7_mostDays_40 ?_
      refine lv_iconst (v := 1) hx hb dX7_mostDays_41 (by decide) ?_
      refine lv_iand hx hb dX7_mostDays_42 ?_
      refine lv_iconst (v := 1) hx hb dX7_mostDays_43 (by decide) ?_
      refine lv_icmp_ne (tgt := 59) hx hb dX7_mostDays_44 (by decide) (fun q => ?_) (fun q => ?_)
      · have h := ax_iN q h
        refine lv_iconst (v := 0) hx hb dX7_mostDays_59 (by decide) ?_
        exact t_X7_mostDays_60 hL C hr6 ih _ _ _ _ _ _ _ _ h H locs cells slots ls hc hz hR hS (lv_sub hl [0, 1, 2, 3, 4, 6] rfl)
      · have h := ax_ip q h
        refine lv_aload_n hx hb dX7_mostDays_47 rfl (lv_at hl 0 rfl) ?_
        refine ax_getV hx hb hts hown hK hR fl_X7_31 (lk_35 hL) rfl dX7_mostDays_48 ?_
        refine lv_iload hx hb dX7_mostDays_51 (lv_at hl 6 rfl) ?_
        obtain ⟨hq, h⟩ := ax_ck h
        refine ax_iald hx hb hK hR (lk_43 hL) hq dX7_mostDays_53 ?_
        refine lv_iload_n hx hb dX7_mostDays_54 rfl (lv_at hl 2 rfl) ?_
        refine lv_iand hx hb dX7_mostDays_55 ?_
        refine lv_goto (tgt := 60) hx hb dX7_mostDays_56 (by decide) ?_
        exact t_X7_mostDays_60 hL C hr6 ih _ _ _ _ _ _ _ _ h H locs cells slots ls hc hz hR hS (lv_sub hl [0, 1, 2, 3, 4, 6] rfl)
set_option maxRecDepth 100000 in
set_option maxHeartbeats 4000000 in
theorem t_X7_mostDays_6 {lay : List ax_S} {J : ax_J} {rv : Int32} (hL : ax_LL B lay) (C : ax_C p R s m args meth c yX7_mostDays cX7_mostDays 7 (some .int) 4 E mc ms) : ∀ (n : Nat) (I : ax_I) (x1 : Int32) (x2 : Int32) (x3 : Int32) (x4 : Int32), f_X7_mostDays_6 n I x1 x2 x3 x4 = some rv → AM p l e R s m args below meth c E B lay.length (ax_z lay) 7 (some (.int rv)) lay I J lay I J 6 [(0, .ref (B + 35)), (1, .int x1), (2, .int x2), (3, .int x3), (4, .int x4)] [] := by
  obtain ⟨hx, hb, hr, hml, hown, hts, hlocks, hK, hfr, hlo, hmc, hms, hnm⟩ := id C
  have hown : s.vm.findClass RX7 = some m.cls := hown
  intro n
  induction n with
  | zero => intro I x1 x2 x3 x4 h; cases h
  | succ n ih =>
    intro I x1 x2 x3 x4 h H locs cells slots ls hc hz hR hS hl
    rw [f_X7_mostDays_6] at h
    refine lv_iload hx hb dX7_mostDays_6 (lv_at hl 4 rfl) ?_
    refine lv_iload_n hx hb dX7_mostDays_8 rfl (lv_at hl 1 rfl) ?_
    refine lv_icmp_gt (tgt := 105) hx hb dX7_mostDays_9 (by decide) (fun q => ?_) (fun q => ?_)
    · have h := ax_ip q h
      refine lv_iload_n hx hb dX7_mostDays_105 rfl (lv_at hl 3 rfl) ?_
      cases h
      exact ax_iret C hc hz hR hS rfl rfl dX7_mostDays_106
    · have h := ax_iN q h
      refine lv_iload hx hb dX7_mostDays_12 (lv_at hl 4 rfl) ?_
      refine lv_iload_n hx hb dX7_mostDays_14 rfl (lv_at hl 1 rfl) ?_
      refine lv_iconst (v := (-1)) hx hb dX7_mostDays_15 (by decide) ?_
      refine lv_ixor hx hb dX7_mostDays_16 ?_
      refine lv_iand hx hb dX7_mostDays_17 ?_
      refine lv_if_ne (tgt := 99) hx hb dX7_mostDays_18 (by decide) (fun q => ?_) (fun q => ?_)
      · have h := ax_iN q h
        exact t_X7_mostDays_99 hL C ih _ _ _ _ _ h H locs cells slots ls hc hz hR hS (lv_sub hl [0, 1, 2, 3, 4] rfl)
      · have h := ax_ip q h
        refine lv_iconst (v := 0) hx hb dX7_mostDays_21 (by decide) ?_
        refine lv_istore (lv' := [(5, .int 0), (0, .ref (B + 35)), (1, .int x1), (2, .int x2), (3, .int x3), (4, .int x4)]) hx hb dX7_mostDays_22 hl (by decide) rfl (fun ls hl => ?_)
        refine lv_iconst (v := 0) hx hb dX7_mostDays_24 (by decide) ?_
        refine lv_istore (lv' := [(6, .int 0), (5, .int 0), (0, .ref (B + 35)), (1, .int x1), (2, .int x2), (3, .int x3), (4, .int x4)]) hx hb dX7_mostDays_25 hl (by decide) rfl (fun ls hl => ?_)
        exact t_X7_mostDays_27 hL C ih ax_N _ _ _ _ _ _ _ h H locs cells slots ls hc hz hR hS (lv_sub hl [2, 3, 4, 5, 6, 1, 0] rfl)
set_option maxRecDepth 100000 in
set_option maxHeartbeats 4000000 in
theorem t_X7_mostDays_0 {lay : List ax_S} {J : ax_J} {rv : Int32} (hL : ax_LL B lay) (C : ax_C p R s m args meth c yX7_mostDays cX7_mostDays 7 (some .int) 4 E mc ms) : ∀ (I : ax_I) (x1 : Int32) (x2 : Int32), F_X7_mostDays I x1 x2 = some rv → AM p l e R s m args below meth c E B lay.length (ax_z lay) 7 (some (.int rv)) lay I J lay I J 0 [(0, .ref (B + 35)), (1, .int x1), (2, .int x2)] [] := by
  obtain ⟨hx, hb, hr, hml, hown, hts, hlocks, hK, hfr, hlo, hmc, hms, hnm⟩ := id C
  have hown : s.vm.findClass RX7 = some m.cls := hown
  intro I x1 x2 h H locs cells slots ls hc hz hR hS hl
  unfold F_X7_mostDays at h
  refine lv_bipush (v := 12) hx hb dX7_mostDays_0 (by decide) ?_
  refine lv_istore_n (lv' := [(3, .int 12), (0, .ref (B + 35)), (1, .int x1), (2, .int x2)]) hx hb dX7_mostDays_2 rfl hl (by decide) rfl (fun ls hl => ?_)
  refine lv_iconst (v := 0) hx hb dX7_mostDays_3 (by decide) ?_
  refine lv_istore (lv' := [(4, .int 0), (3, .int 12), (0, .ref (B + 35)), (1, .int x1), (2, .int x2)]) hx hb dX7_mostDays_4 hl (by decide) rfl (fun ls hl => ?_)
  exact t_X7_mostDays_6 hL C  ax_N _ _ _ _ _ h H locs cells slots ls hc hz hR hS (lv_sub hl [2, 3, 4, 1, 0] rfl)
theorem M_X7_mostDays {l : Launch} {E : ax_E} {B : Nat} {lay : List ax_S} {I : ax_I} {J : ax_J} {x1 : Int32} {x2 : Int32} {rv : Int32} (hL : ax_LL B lay) (h : F_X7_mostDays I x1 x2 = some rv) : Cm l yX7_mostDays cX7_mostDays 7 (some .int) 4 E B [.ref (B + 35), .int x1, .int x2] lay I J (some (.int rv)) lay I J :=
  ax_met (by decide) (Nat.le_of_ble_eq_true rfl) (fun p e R s m args below meth c C => t_X7_mostDays_0 hL C _ _ _ h)
def f_X7_dayIn_73 (r15 : ax_I → Int32 → Int32 → Int32 → Int32 → Int32 → Option (Int32)) (I : ax_I) (x1 : Int32) (x2 : Int32) (x3 : Int32) (x4 : Int32) (x5 : Int32) : Option Int32 :=
  r15 I x1 x2 x3 x4 (x5 + 1)
def f_X7_dayIn_43 (r15 : ax_I → Int32 → Int32 → Int32 → Int32 → Int32 → Option (Int32)) (I : ax_I) (x1 : Int32) (x2 : Int32) (x3 : Int32) (x4 : Int32) (x5 : Int32) (s0 : Int32) : Option Int32 :=
  if s0 = 0 then f_X7_dayIn_73 r15 I x1 x2 x3 x4 x5 else (F_X7_mostDays I x2 (x3 &&& (((1 : Int32) <<< (x5 &&& 31)) ^^^ (-1)))).bind (fun q61 => if (1 + q61) = x4 then some x5 else f_X7_dayIn_73 r15 I x1 x2 x3 x4 x5)
def f_X7_dayIn_15 : Nat → ax_I → Int32 → Int32 → Int32 → Int32 → Int32 → Option Int32
  | 0, _, _, _, _, _, _ => none
  | n + 1, I, x1, x2, x3, x4, x5 => if 12 ≤ x5 then some (-6) else if ax_in x1 6 = true then if (((I 43 x1.toNatClampNeg) &&& x3) &&& ((1 : Int32) <<< (x5 &&& 31))) = 0 then f_X7_dayIn_43 (f_X7_dayIn_15 n) I x1 x2 x3 x4 x5 0 else f_X7_dayIn_43 (f_X7_dayIn_15 n) I x1 x2 x3 x4 x5 1 else none
def F_X7_dayIn (I : ax_I) (x1 : Int32) (x2 : Int32) (x3 : Int32) : Option Int32 :=
  (F_X7_mostDays I (x2 ||| ((1 : Int32) <<< (x1 &&& 31))) x3).bind (fun q7 => f_X7_dayIn_15 ax_N I x1 x2 x3 q7 0)
set_option maxRecDepth 100000 in
set_option maxHeartbeats 4000000 in
theorem t_X7_dayIn_73 {lay : List ax_S} {J : ax_J} {rv : Int32} (hL : ax_LL B lay) (C : ax_C p R s m args meth c yX7_dayIn cX7_dayIn 7 (some .int) 6 E mc ms) {r15 : ax_I → Int32 → Int32 → Int32 → Int32 → Int32 → Option (Int32)} (hr15 : ∀ (I : ax_I) (x1 : Int32) (x2 : Int32) (x3 : Int32) (x4 : Int32) (x5 : Int32), r15 I x1 x2 x3 x4 x5 = some rv → AM p l e R s m args below meth c E B lay.length (ax_z lay) 7 (some (.int rv)) lay I J lay I J 15 [(0, .ref (B + 35)), (1, .int x1), (2, .int x2), (3, .int x3), (4, .int x4), (5, .int x5)] []) : ∀ (I : ax_I) (x1 : Int32) (x2 : Int32) (x3 : Int32) (x4 : Int32) (x5 : Int32), f_X7_dayIn_73 r15 I x1 x2 x3 x4 x5 = some rv → AM p l e R s m args below meth c E B lay.length (ax_z lay) 7 (some (.int rv)) lay I J lay I J 73 [(0, .ref (B + 35)), (1, .int x1), (2, .int x2), (3, .int x3), (4, .int x4), (5, .int x5)] [] := by
  obtain ⟨hx, hb, hr, hml, hown, hts, hlocks, hK, hfr, hlo, hmc, hms, hnm⟩ := id C
  have hown : s.vm.findClass RX7 = some m.cls := hown
  intro I x1 x2 x3 x4 x5 h H locs cells slots ls hc hz hR hS hl
  unfold f_X7_dayIn_73 at h
  refine lv_iinc (v := (x5 + 1)) (lv' := [(5, .int (x5 + 1)), (0, .ref (B + 35)), (1, .int x1), (2, .int x2), (3, .int x3), (4, .int x4)]) hx hb dX7_dayIn_73 hl (k := 5) rfl rfl (by decide) rfl (fun ls hl => ?_)
  refine lv_goto (tgt := 15) hx hb dX7_dayIn_76 (by decide) ?_
  exact hr15 _ _ _ _ _ _ h H locs cells slots ls hc hz hR hS (lv_sub hl [1, 2, 3, 4, 5, 0] rfl)
set_option maxRecDepth 100000 in
set_option maxHeartbeats 4000000 in
theorem t_X7_dayIn_43 {lay : List ax_S} {J : ax_J} {rv : Int32} (hL : ax_LL B lay) (C : ax_C p R s m args meth c yX7_dayIn cX7_dayIn 7 (some .int) 6 E mc ms) {r15 : ax_I → Int32 → Int32 → Int32 → Int32 → Int32 → Option (Int32)} (hr15 : ∀ (I : ax_I) (x1 : Int32) (x2 : Int32) (x3 : Int32) (x4 : Int32) (x5 : Int32), r15 I x1 x2 x3 x4 x5 = some rv → AM p l e R s m args below meth c E B lay.length (ax_z lay) 7 (some (.int rv)) lay I J lay I J 15 [(0, .ref (B + 35)), (1, .int x1), (2, .int x2), (3, .int x3), (4, .int x4), (5, .int x5)] []) : ∀ (I : ax_I) (x1 : Int32) (x2 : Int32) (x3 : Int32) (x4 : Int32) (x5 : Int32) (s0 : Int32), f_X7_dayIn_43 r15 I x1 x2 x3 x4 x5 s0 = some rv → AM p l e R s m args below meth c E B lay.length (ax_z lay) 7 (some (.int rv)) lay I J lay I J 43 [(0, .ref (B + 35)), (1, .int x1), (2, .int x2), (3, .int x3), (4, .int x4), (5, .int x5)] [.int s0] := by
  obtain ⟨hx, hb, hr, hml, hown, hts, hlocks, hK, hfr, hlo, hmc, hms, hnm⟩ := id C
  have hown : s.vm.findClass RX7 = some m.cls := hown
  intro I x1 x2 x3 x4 x5 s0 h H locs cells slots ls hc hz hR hS hl
  unfold f_X7_dayIn_43 at h
  refine lv_istore (lv' := [(6, .int s0), (0, .ref (B + 35)), (1, .int x1), (2, .int x2), (3, .int x3), (4, .int x4), (5, .int x5)]) hx hb dX7_dayIn_43 hl (by decide) rfl (fun ls hl => ?_)
  refine lv_iload hx hb dX7_dayIn_45 (lv_at hl 0 rfl) ?_
  refine lv_if_eq (tgt := 73) hx hb dX7_dayIn_47 (by decide) (fun q => ?_) (fun q => ?_)
  · have h := ax_ip q h
    exact t_X7_dayIn_73 hL C hr15 _ _ _ _ _ _ h H locs cells slots ls hc hz hR hS (lv_sub hl [1, 2, 3, 4, 5, 6] rfl)
  · have h := ax_iN q h
    refine lv_iconst (v := 1) hx hb dX7_dayIn_50 (by decide) ?_
    refine lv_aload_n hx hb dX7_dayIn_51 rfl (lv_at hl 1 rfl) ?_
    refine lv_iload_n hx hb dX7_dayIn_52 rfl (lv_at hl 3 rfl) ?_
    refine lv_iload_n hx hb dX7_dayIn_53 rfl (lv_at hl 4 rfl) ?_
    refine lv_iconst (v := 1) hx hb dX7_dayIn_54 (by decide) ?_
    refine lv_iload hx hb dX7_dayIn_55 (lv_at hl 6 rfl) ?_
    refine lv_ishl hx hb dX7_dayIn_57 ?_
    refine lv_iconst (v := (-1)) hx hb dX7_dayIn_58 (by decide) ?_
    refine lv_ixor hx hb dX7_dayIn_59 ?_
    refine lv_iand hx hb dX7_dayIn_60 ?_
    obtain ⟨q61, hq, h⟩ := ax_bd h
    refine ax_cV (rest := [.int 1]) (st1 := [.int q61, .int 1]) C hc hz hS hR (M_X7_mostDays hL hq) yk_X7_mostDays in_X7_mostDays se_X7_mostDays ml_X7_258 (lk_35 hL) rfl rfl (by decide) rfl hl.1 (Nat.le_of_ble_eq_true rfl) rfl rfl dX7_dayIn_61 (fun H locs hR hS => ?_)
    refine lv_iadd hx hb dX7_dayIn_64 ?_
    refine lv_iload hx hb dX7_dayIn_65 (lv_at hl 5 rfl) ?_
    refine lv_icmp_ne (tgt := 73) hx hb dX7_dayIn_67 (by decide) (fun q => ?_) (fun q => ?_)
    · have h := ax_iN q h
      exact t_X7_dayIn_73 hL C hr15 _ _ _ _ _ _ h H locs cells slots ls hc hz hR hS (lv_sub hl [1, 2, 3, 4, 5, 6] rfl)
    · have h := ax_ip q h
      refine lv_iload hx hb dX7_dayIn_70 (lv_at hl 6 rfl) ?_
      cases h
      exact ax_iret C hc hz hR hS rfl rfl dX7_dayIn_72
set_option maxRecDepth 100000 in
set_option maxHeartbeats 4000000 in
theorem t_X7_dayIn_15 {lay : List ax_S} {J : ax_J} {rv : Int32} (hL : ax_LL B lay) (C : ax_C p R s m args meth c yX7_dayIn cX7_dayIn 7 (some .int) 6 E mc ms) : ∀ (n : Nat) (I : ax_I) (x1 : Int32) (x2 : Int32) (x3 : Int32) (x4 : Int32) (x5 : Int32), f_X7_dayIn_15 n I x1 x2 x3 x4 x5 = some rv → AM p l e R s m args below meth c E B lay.length (ax_z lay) 7 (some (.int rv)) lay I J lay I J 15 [(0, .ref (B + 35)), (1, .int x1), (2, .int x2), (3, .int x3), (4, .int x4), (5, .int x5)] [] := by
  obtain ⟨hx, hb, hr, hml, hown, hts, hlocks, hK, hfr, hlo, hmc, hms, hnm⟩ := id C
  have hown : s.vm.findClass RX7 = some m.cls := hown
  intro n
  induction n with
  | zero => intro I x1 x2 x3 x4 x5 h; cases h
  | succ n ih =>
    intro I x1 x2 x3 x4 x5 h H locs cells slots ls hc hz hR hS hl
    rw [f_X7_dayIn_15] at h
    refine lv_iload hx hb dX7_dayIn_15 (lv_at hl 5 rfl) ?_
    refine lv_bipush (v := 12) hx hb dX7_dayIn_17 (by decide) ?_
    refine lv_icmp_ge (tgt := 79) hx hb dX7_dayIn_19 (by decide) (fun q => ?_) (fun q => ?_)
    · have h := ax_ip q h
      refine lv_bipush (v := (-6)) hx hb dX7_dayIn_79 (by decide) ?_
      cases h
      exact ax_iret C hc hz hR hS rfl rfl dX7_dayIn_81
    · have h := ax_iN q h
      refine lv_aload_n hx hb dX7_dayIn_22 rfl (lv_at hl 0 rfl) ?_
      refine ax_getV hx hb hts hown hK hR fl_X7_31 (lk_35 hL) rfl dX7_dayIn_23 ?_
      refine lv_iload_n hx hb dX7_dayIn_26 rfl (lv_at hl 1 rfl) ?_
      obtain ⟨hq, h⟩ := ax_ck h
      refine ax_iald hx hb hK hR (lk_43 hL) hq dX7_dayIn_27 ?_
      refine lv_iload_n hx hb dX7_dayIn_28 rfl (lv_at hl 3 rfl) ?_
      refine lv_iand hx hb dX7_dayIn_29 ?_
      refine lv_iconst (v := 1) hx hb dX7_dayIn_30 (by decide) ?_
      refine lv_iload hx hb dX7_dayIn_31 (lv_at hl 5 rfl) ?_
      refine lv_ishl hx hb dX7_dayIn_33 ?_
      refine lv_iand hx hb dX7_dayIn_34 ?_
      refine lv_if_eq (tgt := 42) hx hb dX7_dayIn_35 (by decide) (fun q => ?_) (fun q => ?_)
      · have h := ax_ip q h
        refine lv_iconst (v := 0) hx hb dX7_dayIn_42 (by decide) ?_
        exact t_X7_dayIn_43 hL C ih _ _ _ _ _ _ _ h H locs cells slots ls hc hz hR hS (lv_sub hl [0, 1, 2, 3, 4, 5] rfl)
      · have h := ax_iN q h
        refine lv_iconst (v := 1) hx hb dX7_dayIn_38 (by decide) ?_
        refine lv_goto (tgt := 43) hx hb dX7_dayIn_39 (by decide) ?_
        exact t_X7_dayIn_43 hL C ih _ _ _ _ _ _ _ h H locs cells slots ls hc hz hR hS (lv_sub hl [0, 1, 2, 3, 4, 5] rfl)
set_option maxRecDepth 100000 in
set_option maxHeartbeats 4000000 in
theorem t_X7_dayIn_0 {lay : List ax_S} {J : ax_J} {rv : Int32} (hL : ax_LL B lay) (C : ax_C p R s m args meth c yX7_dayIn cX7_dayIn 7 (some .int) 6 E mc ms) : ∀ (I : ax_I) (x1 : Int32) (x2 : Int32) (x3 : Int32), F_X7_dayIn I x1 x2 x3 = some rv → AM p l e R s m args below meth c E B lay.length (ax_z lay) 7 (some (.int rv)) lay I J lay I J 0 [(0, .ref (B + 35)), (1, .int x1), (2, .int x2), (3, .int x3)] [] := by
  obtain ⟨hx, hb, hr, hml, hown, hts, hlocks, hK, hfr, hlo, hmc, hms, hnm⟩ := id C
  have hown : s.vm.findClass RX7 = some m.cls := hown
  intro I x1 x2 x3 h H locs cells slots ls hc hz hR hS hl
  unfold F_X7_dayIn at h
  refine lv_aload_n hx hb dX7_dayIn_0 rfl (lv_at hl 0 rfl) ?_
  refine lv_iload_n hx hb dX7_dayIn_1 rfl (lv_at hl 2 rfl) ?_
  refine lv_iconst (v := 1) hx hb dX7_dayIn_2 (by decide) ?_
  refine lv_iload_n hx hb dX7_dayIn_3 rfl (lv_at hl 1 rfl) ?_
  refine lv_ishl hx hb dX7_dayIn_4 ?_
  refine lv_ior hx hb dX7_dayIn_5 ?_
  refine lv_iload_n hx hb dX7_dayIn_6 rfl (lv_at hl 3 rfl) ?_
  obtain ⟨q7, hq, h⟩ := ax_bd h
  refine ax_cV (rest := []) (st1 := [.int q7]) C hc hz hS hR (M_X7_mostDays hL hq) yk_X7_mostDays in_X7_mostDays se_X7_mostDays ml_X7_258 (lk_35 hL) rfl rfl (by decide) rfl hl.1 (Nat.le_of_ble_eq_true rfl) rfl rfl dX7_dayIn_7 (fun H locs hR hS => ?_)
  refine lv_istore (lv' := [(4, .int q7), (0, .ref (B + 35)), (1, .int x1), (2, .int x2), (3, .int x3)]) hx hb dX7_dayIn_10 hl (by decide) rfl (fun ls hl => ?_)
  refine lv_iconst (v := 0) hx hb dX7_dayIn_12 (by decide) ?_
  refine lv_istore (lv' := [(5, .int 0), (4, .int q7), (0, .ref (B + 35)), (1, .int x1), (2, .int x2), (3, .int x3)]) hx hb dX7_dayIn_13 hl (by decide) rfl (fun ls hl => ?_)
  exact t_X7_dayIn_15 hL C  ax_N _ _ _ _ _ _ h H locs cells slots ls hc hz hR hS (lv_sub hl [2, 3, 4, 5, 1, 0] rfl)
theorem M_X7_dayIn {l : Launch} {E : ax_E} {B : Nat} {lay : List ax_S} {I : ax_I} {J : ax_J} {x1 : Int32} {x2 : Int32} {x3 : Int32} {rv : Int32} (hL : ax_LL B lay) (h : F_X7_dayIn I x1 x2 x3 = some rv) : Cm l yX7_dayIn cX7_dayIn 7 (some .int) 6 E B [.ref (B + 35), .int x1, .int x2, .int x3] lay I J (some (.int rv)) lay I J :=
  ax_met (by decide) (Nat.le_of_ble_eq_true rfl) (fun p e R s m args below meth c C => t_X7_dayIn_0 hL C _ _ _ _ h)
def f_X7_day_100 (r47 : ax_I → Int32 → Int32 → Int32 → Int32 → Int32 → Option (Int32)) (I : ax_I) (x1 : Int32) (x2 : Int32) (x3 : Int32) (x4 : Int32) (x5 : Int32) : Option Int32 :=
  r47 I x1 x2 x3 x4 (x5 + 1)
def f_X7_day_98 (r47 : ax_I → Int32 → Int32 → Int32 → Int32 → Int32 → Option (Int32)) (I : ax_I) (x1 : Int32) (x2 : Int32) (x4 : Int32) (x5 : Int32) (s0 : Int32) (s1 : Int32) : Option Int32 :=
  f_X7_day_100 r47 I x1 x2 (s1 &&& s0) x4 x5
def f_X7_day_72 (r47 : ax_I → Int32 → Int32 → Int32 → Int32 → Int32 → Option (Int32)) (I : ax_I) (x1 : Int32) (x2 : Int32) (x3 : Int32) (x5 : Int32) : Option Int32 :=
  (F_X7_dayIn I x5 x2 x3).bind (fun q77 => if 0 ≤ q77 then f_X7_day_98 r47 I x1 x2 q77 x5 (((1 : Int32) <<< (q77 &&& 31)) ^^^ (-1)) x3 else f_X7_day_98 r47 I x1 x2 q77 x5 x3 x3)
def f_X7_day_47 : Nat → ax_I → Int32 → Int32 → Int32 → Int32 → Int32 → Option Int32
  | 0, _, _, _, _, _, _ => none
  | n + 1, I, x1, x2, x3, x4, x5 => if x1 < x5 then some x4 else if ((x2 >>> (x5 &&& 31)) &&& 1) = 1 then f_X7_day_72 (f_X7_day_47 n) I x1 (x2 &&& (((1 : Int32) <<< (x5 &&& 31)) ^^^ (-1))) x3 x5 else f_X7_day_100 (f_X7_day_47 n) I x1 x2 x3 x4 x5
def F_X7_day (I : ax_I) (x1 : Int32) : Option Int32 :=
  (F_X7_saints I).bind (fun q1 => if x1 = (-1) then (F_X7_mostDays I q1 4095).bind (fun q15 => some q15) else (F_X7_isNumber I x1).bind (fun q20 => if q20 = 0 then some (-1) else if ((q1 >>> (x1 &&& 31)) &&& 1) = 0 then some (-1) else f_X7_day_47 ax_N I x1 q1 4095 (-6) 0))
set_option maxRecDepth 100000 in
set_option maxHeartbeats 4000000 in
theorem t_X7_day_100 {lay : List ax_S} {J : ax_J} {rv : Int32} (hL : ax_LL B lay) (C : ax_C p R s m args meth c yX7_day cX7_day 6 (some .int) 12 E mc ms) {r47 : ax_I → Int32 → Int32 → Int32 → Int32 → Int32 → Option (Int32)} (hr47 : ∀ (I : ax_I) (x1 : Int32) (x2 : Int32) (x3 : Int32) (x4 : Int32) (x5 : Int32), r47 I x1 x2 x3 x4 x5 = some rv → AM p l e R s m args below meth c E B lay.length (ax_z lay) 6 (some (.int rv)) lay I J lay I J 47 [(0, .ref (B + 35)), (1, .int x1), (2, .int x2), (3, .int x3), (4, .int x4), (5, .int x5)] []) : ∀ (I : ax_I) (x1 : Int32) (x2 : Int32) (x3 : Int32) (x4 : Int32) (x5 : Int32), f_X7_day_100 r47 I x1 x2 x3 x4 x5 = some rv → AM p l e R s m args below meth c E B lay.length (ax_z lay) 6 (some (.int rv)) lay I J lay I J 100 [(0, .ref (B + 35)), (1, .int x1), (2, .int x2), (3, .int x3), (4, .int x4), (5, .int x5)] [] := by
  obtain ⟨hx, hb, hr, hml, hown, hts, hlocks, hK, hfr, hlo, hmc, hms, hnm⟩ := id C
  have hown : s.vm.findClass RX7 = some m.cls := hown
  intro I x1 x2 x3 x4 x5 h H locs cells slots ls hc hz hR hS hl
  unfold f_X7_day_100 at h
  refine lv_iinc (v := (x5 + 1)) (lv' := [(5, .int (x5 + 1)), (0, .ref (B + 35)), (1, .int x1), (2, .int x2), (3, .int x3), (4, .int x4)]) hx hb dX7_day_100 hl (k := 5) rfl rfl (by decide) rfl (fun ls hl => ?_)
  refine lv_goto (tgt := 47) hx hb dX7_day_103 (by decide) ?_
  exact hr47 _ _ _ _ _ _ h H locs cells slots ls hc hz hR hS (lv_sub hl [1, 2, 3, 4, 5, 0] rfl)
set_option maxRecDepth 100000 in
set_option maxHeartbeats 4000000 in
theorem t_X7_day_98 {lay : List ax_S} {J : ax_J} {rv : Int32} (hL : ax_LL B lay) (C : ax_C p R s m args meth c yX7_day cX7_day 6 (some .int) 12 E mc ms) {r47 : ax_I → Int32 → Int32 → Int32 → Int32 → Int32 → Option (Int32)} (hr47 : ∀ (I : ax_I) (x1 : Int32) (x2 : Int32) (x3 : Int32) (x4 : Int32) (x5 : Int32), r47 I x1 x2 x3 x4 x5 = some rv → AM p l e R s m args below meth c E B lay.length (ax_z lay) 6 (some (.int rv)) lay I J lay I J 47 [(0, .ref (B + 35)), (1, .int x1), (2, .int x2), (3, .int x3), (4, .int x4), (5, .int x5)] []) : ∀ (I : ax_I) (x1 : Int32) (x2 : Int32) (x4 : Int32) (x5 : Int32) (s0 : Int32) (s1 : Int32), f_X7_day_98 r47 I x1 x2 x4 x5 s0 s1 = some rv → AM p l e R s m args below meth c E B lay.length (ax_z lay) 6 (some (.int rv)) lay I J lay I J 98 [(0, .ref (B + 35)), (1, .int x1), (2, .int x2), (4, .int x4), (5, .int x5)] [.int s0, .int s1] := by
  obtain ⟨hx, hb, hr, hml, hown, hts, hlocks, hK, hfr, hlo, hmc, hms, hnm⟩ := id C
  have hown : s.vm.findClass RX7 = some m.cls := hown
  intro I x1 x2 x4 x5 s0 s1 h H locs cells slots ls hc hz hR hS hl
  unfold f_X7_day_98 at h
  refine lv_iand hx hb dX7_day_98 ?_
  refine lv_istore_n (lv' := [(3, .int (s1 &&& s0)), (0, .ref (B + 35)), (1, .int x1), (2, .int x2), (4, .int x4), (5, .int x5)]) hx hb dX7_day_99 rfl hl (by decide) rfl (fun ls hl => ?_)
  exact t_X7_day_100 hL C hr47 _ _ _ _ _ _ h H locs cells slots ls hc hz hR hS (lv_sub hl [1, 2, 3, 0, 4, 5] rfl)
set_option maxRecDepth 100000 in
set_option maxHeartbeats 4000000 in
theorem t_X7_day_72 {lay : List ax_S} {J : ax_J} {rv : Int32} (hL : ax_LL B lay) (C : ax_C p R s m args meth c yX7_day cX7_day 6 (some .int) 12 E mc ms) {r47 : ax_I → Int32 → Int32 → Int32 → Int32 → Int32 → Option (Int32)} (hr47 : ∀ (I : ax_I) (x1 : Int32) (x2 : Int32) (x3 : Int32) (x4 : Int32) (x5 : Int32), r47 I x1 x2 x3 x4 x5 = some rv → AM p l e R s m args below meth c E B lay.length (ax_z lay) 6 (some (.int rv)) lay I J lay I J 47 [(0, .ref (B + 35)), (1, .int x1), (2, .int x2), (3, .int x3), (4, .int x4), (5, .int x5)] []) : ∀ (I : ax_I) (x1 : Int32) (x2 : Int32) (x3 : Int32) (x5 : Int32), f_X7_day_72 r47 I x1 x2 x3 x5 = some rv → AM p l e R s m args below meth c E B lay.length (ax_z lay) 6 (some (.int rv)) lay I J lay I J 72 [(0, .ref (B + 35)), (1, .int x1), (2, .int x2), (3, .int x3), (5, .int x5)] [] := by
  obtain ⟨hx, hb, hr, hml, hown, hts, hlocks, hK, hfr, hlo, hmc, hms, hnm⟩ := id C
  have hown : s.vm.findClass RX7 = some m.cls := hown
  intro I x1 x2 x3 x5 h H locs cells slots ls hc hz hR hS hl
  unfold f_X7_day_72 at h
  refine lv_aload_n hx hb dX7_day_72 rfl (lv_at hl 0 rfl) ?_
  refine lv_iload hx hb dX7_day_73 (lv_at hl 4 rfl) ?_
  refine lv_iload_n hx hb dX7_day_75 rfl (lv_at hl 2 rfl) ?_
  refine lv_iload_n hx hb dX7_day_76 rfl (lv_at hl 3 rfl) ?_
  obtain ⟨q77, hq, h⟩ := ax_bd h
  refine ax_cV (rest := []) (st1 := [.int q77]) C hc hz hS hR (M_X7_dayIn hL hq) yk_X7_dayIn in_X7_dayIn se_X7_dayIn ml_X7_264 (lk_35 hL) rfl rfl (by decide) rfl hl.1 (Nat.le_of_ble_eq_true rfl) rfl rfl dX7_day_77 (fun H locs hR hS => ?_)
  refine lv_istore (lv' := [(4, .int q77), (0, .ref (B + 35)), (1, .int x1), (2, .int x2), (3, .int x3), (5, .int x5)]) hx hb dX7_day_80 hl (by decide) rfl (fun ls hl => ?_)
  refine lv_iload_n hx hb dX7_day_82 rfl (lv_at hl 4 rfl) ?_
  refine lv_iload hx hb dX7_day_83 (lv_at hl 0 rfl) ?_
  refine lv_if_ge (tgt := 92) hx hb dX7_day_85 (by decide) (fun q => ?_) (fun q => ?_)
  · have h := ax_ip q h
    refine lv_iconst (v := 1) hx hb dX7_day_92 (by decide) ?_
    refine lv_iload hx hb dX7_day_93 (lv_at hl 0 rfl) ?_
    refine lv_ishl hx hb dX7_day_95 ?_
    refine lv_iconst (v := (-1)) hx hb dX7_day_96 (by decide) ?_
    refine lv_ixor hx hb dX7_day_97 ?_
    exact t_X7_day_98 hL C hr47 _ _ _ _ _ _ _ h H locs cells slots ls hc hz hR hS (lv_sub hl [1, 2, 3, 0, 5] rfl)
  · have h := ax_iN q h
    refine lv_iload_n hx hb dX7_day_88 rfl (lv_at hl 4 rfl) ?_
    refine lv_goto (tgt := 98) hx hb dX7_day_89 (by decide) ?_
    exact t_X7_day_98 hL C hr47 _ _ _ _ _ _ _ h H locs cells slots ls hc hz hR hS (lv_sub hl [1, 2, 3, 0, 5] rfl)
set_option maxRecDepth 100000 in
set_option maxHeartbeats 4000000 in
theorem t_X7_day_47 {lay : List ax_S} {J : ax_J} {rv : Int32} (hL : ax_LL B lay) (C : ax_C p R s m args meth c yX7_day cX7_day 6 (some .int) 12 E mc ms) : ∀ (n : Nat) (I : ax_I) (x1 : Int32) (x2 : Int32) (x3 : Int32) (x4 : Int32) (x5 : Int32), f_X7_day_47 n I x1 x2 x3 x4 x5 = some rv → AM p l e R s m args below meth c E B lay.length (ax_z lay) 6 (some (.int rv)) lay I J lay I J 47 [(0, .ref (B + 35)), (1, .int x1), (2, .int x2), (3, .int x3), (4, .int x4), (5, .int x5)] [] := by
  obtain ⟨hx, hb, hr, hml, hown, hts, hlocks, hK, hfr, hlo, hmc, hms, hnm⟩ := id C
  have hown : s.vm.findClass RX7 = some m.cls := hown
  intro n
  induction n with
  | zero => intro I x1 x2 x3 x4 x5 h; cases h
  | succ n ih =>
    intro I x1 x2 x3 x4 x5 h H locs cells slots ls hc hz hR hS hl
    rw [f_X7_day_47] at h
    refine lv_iload hx hb dX7_day_47 (lv_at hl 5 rfl) ?_
    refine lv_iload_n hx hb dX7_day_49 rfl (lv_at hl 1 rfl) ?_
    refine lv_icmp_gt (tgt := 106) hx hb dX7_day_50 (by decide) (fun q => ?_) (fun q => ?_)
    · have h := ax_ip q h
      refine lv_iload hx hb dX7_day_106 (lv_at hl 4 rfl) ?_
      cases h
      exact ax_iret C hc hz hR hS rfl rfl dX7_day_108
    · have h := ax_iN q h
      refine lv_iload_n hx hb dX7_day_53 rfl (lv_at hl 2 rfl) ?_
      refine lv_iload hx hb dX7_day_54 (lv_at hl 5 rfl) ?_
      refine lv_ishr hx hb dX7_day_56 ?_
      refine lv_iconst (v := 1) hx hb dX7_day_57 (by decide) ?_
      refine lv_iand hx hb dX7_day_58 ?_
      refine lv_iconst (v := 1) hx hb dX7_day_59 (by decide) ?_
      refine lv_icmp_ne (tgt := 100) hx hb dX7_day_60 (by decide) (fun q => ?_) (fun q => ?_)
      · have h := ax_iN q h
        exact t_X7_day_100 hL C ih _ _ _ _ _ _ h H locs cells slots ls hc hz hR hS (lv_sub hl [0, 1, 2, 3, 4, 5] rfl)
      · have h := ax_ip q h
        refine lv_iload_n hx hb dX7_day_63 rfl (lv_at hl 2 rfl) ?_
        refine lv_iconst (v := 1) hx hb dX7_day_64 (by decide) ?_
        refine lv_iload hx hb dX7_day_65 (lv_at hl 5 rfl) ?_
        refine lv_ishl hx hb dX7_day_67 ?_
        refine lv_iconst (v := (-1)) hx hb dX7_day_68 (by decide) ?_
        refine lv_ixor hx hb dX7_day_69 ?_
        refine lv_iand hx hb dX7_day_70 ?_
        refine lv_istore_n (lv' := [(2, .int (x2 &&& (((1 : Int32) <<< (x5 &&& 31)) ^^^ (-1)))), (0, .ref (B + 35)), (1, .int x1), (3, .int x3), (4, .int x4), (5, .int x5)]) hx hb dX7_day_71 rfl hl (by decide) rfl (fun ls hl => ?_)
        exact t_X7_day_72 hL C ih _ _ _ _ _ h H locs cells slots ls hc hz hR hS (lv_sub hl [1, 2, 0, 3, 5] rfl)
set_option maxRecDepth 100000 in
set_option maxHeartbeats 4000000 in
theorem t_X7_day_0 {lay : List ax_S} {J : ax_J} {rv : Int32} (hL : ax_LL B lay) (C : ax_C p R s m args meth c yX7_day cX7_day 6 (some .int) 12 E mc ms) : ∀ (I : ax_I) (x1 : Int32), F_X7_day I x1 = some rv → AM p l e R s m args below meth c E B lay.length (ax_z lay) 6 (some (.int rv)) lay I J lay I J 0 [(0, .ref (B + 35)), (1, .int x1)] [] := by
  obtain ⟨hx, hb, hr, hml, hown, hts, hlocks, hK, hfr, hlo, hmc, hms, hnm⟩ := id C
  have hown : s.vm.findClass RX7 = some m.cls := hown
  intro I x1 h H locs cells slots ls hc hz hR hS hl
  unfold F_X7_day at h
  refine lv_aload_n hx hb dX7_day_0 rfl (lv_at hl 0 rfl) ?_
  obtain ⟨q1, hq, h⟩ := ax_bd h
  refine ax_cV (rest := []) (st1 := [.int q1]) C hc hz hS hR (M_X7_saints hL hq) yk_X7_saints in_X7_saints se_X7_saints ml_X7_261 (lk_35 hL) rfl rfl (by decide) rfl hl.1 (Nat.le_of_ble_eq_true rfl) rfl rfl dX7_day_1 (fun H locs hR hS => ?_)
  refine lv_istore_n (lv' := [(2, .int q1), (0, .ref (B + 35)), (1, .int x1)]) hx hb dX7_day_4 rfl hl (by decide) rfl (fun ls hl => ?_)
  refine lv_iload_n hx hb dX7_day_5 rfl (lv_at hl 2 rfl) ?_
  refine lv_iconst (v := (-1)) hx hb dX7_day_6 (by decide) ?_
  refine lv_icmp_ne (tgt := 19) hx hb dX7_day_7 (by decide) (fun q => ?_) (fun q => ?_)
  · have h := ax_iN q h
    refine lv_iload_n hx hb dX7_day_19 rfl (lv_at hl 2 rfl) ?_
    obtain ⟨q20, hq, h⟩ := ax_bd h
    refine ax_cS (rest := []) (st1 := [.int q20]) C hc hz hS hR (M_X7_isNumber  hq) yk_X7_isNumber st_X7_isNumber ml_X7_93 (by decide) rfl hl.1 (Nat.le_of_ble_eq_true rfl) rfl rfl dX7_day_20 (fun H locs hR hS => ?_)
    refine lv_if_eq (tgt := 34) hx hb dX7_day_23 (by decide) (fun q => ?_) (fun q => ?_)
    · have h := ax_ip q h
      refine lv_iconst (v := (-1)) hx hb dX7_day_34 (by decide) ?_
      cases h
      exact ax_iret C hc hz hR hS rfl rfl dX7_day_35
    · have h := ax_iN q h
      refine lv_iload_n hx hb dX7_day_26 rfl (lv_at hl 0 rfl) ?_
      refine lv_iload_n hx hb dX7_day_27 rfl (lv_at hl 2 rfl) ?_
      refine lv_ishr hx hb dX7_day_28 ?_
      refine lv_iconst (v := 1) hx hb dX7_day_29 (by decide) ?_
      refine lv_iand hx hb dX7_day_30 ?_
      refine lv_if_ne (tgt := 36) hx hb dX7_day_31 (by decide) (fun q => ?_) (fun q => ?_)
      · have h := ax_iN q h
        refine lv_sipush (v := 4095) hx hb dX7_day_36 (by decide) ?_
        refine lv_istore_n (lv' := [(3, .int 4095), (2, .int q1), (0, .ref (B + 35)), (1, .int x1)]) hx hb dX7_day_39 rfl hl (by decide) rfl (fun ls hl => ?_)
        refine lv_bipush (v := (-6)) hx hb dX7_day_40 (by decide) ?_
        refine lv_istore (lv' := [(4, .int (-6)), (3, .int 4095), (2, .int q1), (0, .ref (B + 35)), (1, .int x1)]) hx hb dX7_day_42 hl (by decide) rfl (fun ls hl => ?_)
        refine lv_iconst (v := 0) hx hb dX7_day_44 (by decide) ?_
        refine lv_istore (lv' := [(5, .int 0), (4, .int (-6)), (3, .int 4095), (2, .int q1), (0, .ref (B + 35)), (1, .int x1)]) hx hb dX7_day_45 hl (by decide) rfl (fun ls hl => ?_)
        exact t_X7_day_47 hL C  ax_N _ _ _ _ _ _ h H locs cells slots ls hc hz hR hS (lv_sub hl [4, 5, 3, 2, 1, 0] rfl)
      · have h := ax_ip q h
        refine lv_iconst (v := (-1)) hx hb dX7_day_34 (by decide) ?_
        cases h
        exact ax_iret C hc hz hR hS rfl rfl dX7_day_35
  · have h := ax_ip q h
    refine lv_aload_n hx hb dX7_day_10 rfl (lv_at hl 1 rfl) ?_
    refine lv_iload_n hx hb dX7_day_11 rfl (lv_at hl 0 rfl) ?_
    refine lv_sipush (v := 4095) hx hb dX7_day_12 (by decide) ?_
    obtain ⟨q15, hq, h⟩ := ax_bd h
    refine ax_cV (rest := []) (st1 := [.int q15]) C hc hz hS hR (M_X7_mostDays hL hq) yk_X7_mostDays in_X7_mostDays se_X7_mostDays ml_X7_258 (lk_35 hL) rfl rfl (by decide) rfl hl.1 (Nat.le_of_ble_eq_true rfl) rfl rfl dX7_day_15 (fun H locs hR hS => ?_)
    cases h
    exact ax_iret C hc hz hR hS rfl rfl dX7_day_18
theorem M_X7_day {l : Launch} {E : ax_E} {B : Nat} {lay : List ax_S} {I : ax_I} {J : ax_J} {x1 : Int32} {rv : Int32} (hL : ax_LL B lay) (h : F_X7_day I x1 = some rv) : Cm l yX7_day cX7_day 6 (some .int) 12 E B [.ref (B + 35), .int x1] lay I J (some (.int rv)) lay I J :=
  ax_met (by decide) (Nat.le_of_ble_eq_true rfl) (fun p e R s m args below meth c C => t_X7_day_0 hL C _ _ h)
def F_X7_at (I : ax_I) (x0 : Int32) (x1 : Int32) (x2 : Int32) : Option Int32 :=
  some (((49 * x0) + (7 * x1)) + x2)
set_option maxRecDepth 100000 in
set_option maxHeartbeats 4000000 in
theorem t_X7_at_0 {lay : List ax_S} {J : ax_J} {rv : Int32} (C : ax_C p R s m args meth c yX7_at cX7_at 3 (some .int) 2 E mc ms) : ∀ (I : ax_I) (x0 : Int32) (x1 : Int32) (x2 : Int32), F_X7_at I x0 x1 x2 = some rv → AM p l e R s m args below meth c E B lay.length (ax_z lay) 3 (some (.int rv)) lay I J lay I J 0 [(0, .int x0), (1, .int x1), (2, .int x2)] [] := by
  obtain ⟨hx, hb, hr, hml, hown, hts, hlocks, hK, hfr, hlo, hmc, hms, hnm⟩ := id C
  have hown : s.vm.findClass RX7 = some m.cls := hown
  intro I x0 x1 x2 h H locs cells slots ls hc hz hR hS hl
  unfold F_X7_at at h
  refine lv_bipush (v := 49) hx hb dX7_at_0 (by decide) ?_
  refine lv_iload_n hx hb dX7_at_2 rfl (lv_at hl 0 rfl) ?_
  refine lv_imul hx hb dX7_at_3 ?_
  refine lv_bipush (v := 7) hx hb dX7_at_4 (by decide) ?_
  refine lv_iload_n hx hb dX7_at_6 rfl (lv_at hl 1 rfl) ?_
  refine lv_imul hx hb dX7_at_7 ?_
  refine lv_iadd hx hb dX7_at_8 ?_
  refine lv_iload_n hx hb dX7_at_9 rfl (lv_at hl 2 rfl) ?_
  refine lv_iadd hx hb dX7_at_10 ?_
  cases h
  exact ax_iret C hc hz hR hS rfl rfl dX7_at_11
theorem M_X7_at {l : Launch} {E : ax_E} {B : Nat} {lay : List ax_S} {I : ax_I} {J : ax_J} {x0 : Int32} {x1 : Int32} {x2 : Int32} {rv : Int32} (h : F_X7_at I x0 x1 x2 = some rv) : Cm l yX7_at cX7_at 3 (some .int) 2 E B [.int x0, .int x1, .int x2] lay I J (some (.int rv)) lay I J :=
  ax_met (by decide) (Nat.le_of_ble_eq_true rfl) (fun p e R s m args below meth c C => t_X7_at_0  C _ _ _ _ h)
def F_X7_wondersAt (I : ax_I) (x1 : Int32) (x2 : Int32) (x3 : Int32) : Option Int32 :=
  if ax_in x1 6 = true then some (((I 36 x1.toNatClampNeg) + x2) - x3) else none
set_option maxRecDepth 100000 in
set_option maxHeartbeats 4000000 in
theorem t_X7_wondersAt_0 {lay : List ax_S} {J : ax_J} {rv : Int32} (hL : ax_LL B lay) (C : ax_C p R s m args meth c yX7_wondersAt cX7_wondersAt 4 (some .int) 2 E mc ms) : ∀ (I : ax_I) (x1 : Int32) (x2 : Int32) (x3 : Int32), F_X7_wondersAt I x1 x2 x3 = some rv → AM p l e R s m args below meth c E B lay.length (ax_z lay) 4 (some (.int rv)) lay I J lay I J 0 [(0, .ref (B + 35)), (1, .int x1), (2, .int x2), (3, .int x3)] [] := by
  obtain ⟨hx, hb, hr, hml, hown, hts, hlocks, hK, hfr, hlo, hmc, hms, hnm⟩ := id C
  have hown : s.vm.findClass RX7 = some m.cls := hown
  intro I x1 x2 x3 h H locs cells slots ls hc hz hR hS hl
  unfold F_X7_wondersAt at h
  refine lv_aload_n hx hb dX7_wondersAt_0 rfl (lv_at hl 0 rfl) ?_
  refine ax_getV hx hb hts hown hK hR fl_X7_7 (lk_35 hL) rfl dX7_wondersAt_1 ?_
  refine lv_iload_n hx hb dX7_wondersAt_4 rfl (lv_at hl 1 rfl) ?_
  obtain ⟨hq, h⟩ := ax_ck h
  refine ax_iald hx hb hK hR (lk_36 hL) hq dX7_wondersAt_5 ?_
  refine lv_iload_n hx hb dX7_wondersAt_6 rfl (lv_at hl 2 rfl) ?_
  refine lv_iadd hx hb dX7_wondersAt_7 ?_
  refine lv_iload_n hx hb dX7_wondersAt_8 rfl (lv_at hl 3 rfl) ?_
  refine lv_isub hx hb dX7_wondersAt_9 ?_
  cases h
  exact ax_iret C hc hz hR hS rfl rfl dX7_wondersAt_10
theorem M_X7_wondersAt {l : Launch} {E : ax_E} {B : Nat} {lay : List ax_S} {I : ax_I} {J : ax_J} {x1 : Int32} {x2 : Int32} {x3 : Int32} {rv : Int32} (hL : ax_LL B lay) (h : F_X7_wondersAt I x1 x2 x3 = some rv) : Cm l yX7_wondersAt cX7_wondersAt 4 (some .int) 2 E B [.ref (B + 35), .int x1, .int x2, .int x3] lay I J (some (.int rv)) lay I J :=
  ax_met (by decide) (Nat.le_of_ble_eq_true rfl) (fun p e R s m args below meth c C => t_X7_wondersAt_0 hL C _ _ _ _ h)
def F_X7_sinsAt (I : ax_I) (x1 : Int32) (x2 : Int32) (x3 : Int32) (x4 : Int32) : Option Int32 :=
  if ax_in x1 6 = true then some (((I 37 x1.toNatClampNeg) - (((x2 + 1) / 2) - x3)) + ((x2 / 2) - x4)) else none
set_option maxRecDepth 100000 in
set_option maxHeartbeats 4000000 in
theorem t_X7_sinsAt_0 {lay : List ax_S} {J : ax_J} {rv : Int32} (hL : ax_LL B lay) (C : ax_C p R s m args meth c yX7_sinsAt cX7_sinsAt 5 (some .int) 2 E mc ms) : ∀ (I : ax_I) (x1 : Int32) (x2 : Int32) (x3 : Int32) (x4 : Int32), F_X7_sinsAt I x1 x2 x3 x4 = some rv → AM p l e R s m args below meth c E B lay.length (ax_z lay) 5 (some (.int rv)) lay I J lay I J 0 [(0, .ref (B + 35)), (1, .int x1), (2, .int x2), (3, .int x3), (4, .int x4)] [] := by
  obtain ⟨hx, hb, hr, hml, hown, hts, hlocks, hK, hfr, hlo, hmc, hms, hnm⟩ := id C
  have hown : s.vm.findClass RX7 = some m.cls := hown
  intro I x1 x2 x3 x4 h H locs cells slots ls hc hz hR hS hl
  unfold F_X7_sinsAt at h
  refine lv_aload_n hx hb dX7_sinsAt_0 rfl (lv_at hl 0 rfl) ?_
  refine ax_getV hx hb hts hown hK hR fl_X7_13 (lk_35 hL) rfl dX7_sinsAt_1 ?_
  refine lv_iload_n hx hb dX7_sinsAt_4 rfl (lv_at hl 1 rfl) ?_
  obtain ⟨hq, h⟩ := ax_ck h
  refine ax_iald hx hb hK hR (lk_37 hL) hq dX7_sinsAt_5 ?_
  refine lv_iload_n hx hb dX7_sinsAt_6 rfl (lv_at hl 2 rfl) ?_
  refine lv_iconst (v := 1) hx hb dX7_sinsAt_7 (by decide) ?_
  refine lv_iadd hx hb dX7_sinsAt_8 ?_
  refine lv_iconst (v := 2) hx hb dX7_sinsAt_9 (by decide) ?_
  refine lv_idiv hx hb dX7_sinsAt_10 (by decide) ?_
  refine lv_iload_n hx hb dX7_sinsAt_11 rfl (lv_at hl 3 rfl) ?_
  refine lv_isub hx hb dX7_sinsAt_12 ?_
  refine lv_isub hx hb dX7_sinsAt_13 ?_
  refine lv_iload_n hx hb dX7_sinsAt_14 rfl (lv_at hl 2 rfl) ?_
  refine lv_iconst (v := 2) hx hb dX7_sinsAt_15 (by decide) ?_
  refine lv_idiv hx hb dX7_sinsAt_16 (by decide) ?_
  refine lv_iload hx hb dX7_sinsAt_17 (lv_at hl 4 rfl) ?_
  refine lv_isub hx hb dX7_sinsAt_19 ?_
  refine lv_iadd hx hb dX7_sinsAt_20 ?_
  cases h
  exact ax_iret C hc hz hR hS rfl rfl dX7_sinsAt_21
theorem M_X7_sinsAt {l : Launch} {E : ax_E} {B : Nat} {lay : List ax_S} {I : ax_I} {J : ax_J} {x1 : Int32} {x2 : Int32} {x3 : Int32} {x4 : Int32} {rv : Int32} (hL : ax_LL B lay) (h : F_X7_sinsAt I x1 x2 x3 x4 = some rv) : Cm l yX7_sinsAt cX7_sinsAt 5 (some .int) 2 E B [.ref (B + 35), .int x1, .int x2, .int x3, .int x4] lay I J (some (.int rv)) lay I J :=
  ax_met (by decide) (Nat.le_of_ble_eq_true rfl) (fun p e R s m args below meth c C => t_X7_sinsAt_0 hL C _ _ _ _ _ h)
end GEN
