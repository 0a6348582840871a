section GEN
variable {p : Program} {l : Launch} {e : Env} {R : Room} {s : State} {m : MethodId} {args : Array Value} {below : List Frame} {meth : Method} {c : Code} {E : ax_E} {B mc ms : Nat}
def f_X7_book_184 (r53 : ax_I → Int32 → Int32 → Int32 → Int32 → Option (Int32 × ax_I)) (I : ax_I) (x2 : Int32) (x3 : Int32) (x4 : Int32) (x5 : Int32) : Option (Int32 × ax_I) :=
  r53 I x2 x3 x4 (x5 + 1)
def f_X7_book_129 (r53 : ax_I → Int32 → Int32 → Int32 → Int32 → Option (Int32 × ax_I)) (I : ax_I) (x2 : Int32) (x3 : Int32) (x4 : Int32) (x5 : Int32) (s0 : Int32) : Option (Int32 × ax_I) :=
  (F_X7_whyNot I s0 (x4 - x4 / 6 * 6) ((x4 / 384) - (x4 / 384) / 4 * 4) ((x4 / 48) - (x4 / 48) / 8 * 8)).bind (fun q163 => if q163 = 0 then (F_X7_happen I s0 (x4 - x4 / 6 * 6) ((x4 / 384) - (x4 / 384) / 4 * 4) ((x4 / 48) - (x4 / 48) / 8 * 8)).bind (fun q181 => f_X7_book_184 r53 q181 x2 x3 x4 x5) else f_X7_book_184 r53 I x2 x3 x4 x5)
def f_X7_book_77 (r53 : ax_I → Int32 → Int32 → Int32 → Int32 → Option (Int32 × ax_I)) (I : ax_I) (x2 : Int32) (x3 : Int32) (x4 : Int32) (x5 : Int32) : Option (Int32 × ax_I) :=
  if 3 ≤ ((x4 / 6) - (x4 / 6) / 8 * 8) then (if 5 ≤ ((x4 / 6) - (x4 / 6) / 8 * 8) then (if ((x4 / 6) - (x4 / 6) / 8 * 8) = 5 then f_X7_book_129 r53 I x2 x3 x4 x5 2 else if ((x4 / 6) - (x4 / 6) / 8 * 8) = 6 then f_X7_book_129 r53 I x2 x3 x4 x5 3 else f_X7_book_129 r53 I x2 x3 x4 x5 5) else f_X7_book_129 r53 I x2 x3 x4 x5 1) else f_X7_book_129 r53 I x2 x3 x4 x5 0
def f_X7_book_220 (r199 : ax_I → Int32 → Int32 → Int32 → Int32 → Option (Int32 × ax_I)) : Nat → ax_I → Int32 → Int32 → Int32 → Int32 → Int32 → Option (Int32 × ax_I)
  | 0, _, _, _, _, _, _ => none
  | n + 1, I, x3, x5, x6, x7, x8 => if 6 ≤ x8 then r199 I x3 x5 x6 (x7 + 1) else (F_X7_heldBy I x7 x8).bind (fun q234 => (F_X7_ones I q234).bind (fun q237 => f_X7_book_220 r199 n I x3 x5 (x6 + q237) x7 (x8 + 1)))
def f_X7_book_199 : Nat → ax_I → Int32 → Int32 → Int32 → Int32 → Option (Int32 × ax_I)
  | 0, _, _, _, _, _ => none
  | n + 1, I, x3, x5, x6, x7 => if 4 ≤ x7 then (F_X7_saints I).bind (fun q256 => (F_X7_ones I q256).bind (fun q259 => (F_X7_lay I 55 77).bind (fun q269 => if x3 = 0 then some (q259, q269) else if x3 = 1 then some (x5, q269) else some (x6, q269)))) else if ax_in x7 4 = true then f_X7_book_220 (f_X7_book_199 n) ax_N I x3 (x5 + (I 44 x7.toNatClampNeg)) x6 x7 0 else none
def f_X7_book_53 : Nat → ax_I → Int32 → Int32 → Int32 → Int32 → Option (Int32 × ax_I)
  | 0, _, _, _, _, _ => none
  | n + 1, I, x2, x3, x4, x5 => if x2 ≤ x5 then f_X7_book_199 ax_N I x3 0 0 0 else f_X7_book_77 (f_X7_book_53 n) I x2 x3 (((((75 * ((x4 : Int32).toInt64)) + 74) - ((75 * ((x4 : Int32).toInt64)) + 74) / 65537 * 65537) : Int64).toInt32) x5
def F_X7_book (I : ax_I) (x1 : Int32) (x2 : Int32) (x3 : Int32) : Option (Int32 × ax_I) :=
  (F_X7_in I ((x1 : Int32).toInt64) 0 9999).bind (fun q6 => if q6 = 0 then some ((-2), I) else (F_X7_in I ((x2 : Int32).toInt64) 1 99).bind (fun q18 => if q18 = 0 then some ((-2), I) else (F_X7_in I ((x3 : Int32).toInt64) 0 2).bind (fun q30 => if q30 = 0 then some ((-2), I) else (F_X7_store I 55 77).bind (fun q44 => f_X7_book_53 ax_N q44 x2 x3 x1 0))))
set_option maxRecDepth 100000 in
set_option maxHeartbeats 4000000 in
theorem t_X7_book_184 {lay : List ax_S} {J : ax_J} {rv : Int32} {I9 : ax_I} (hL : ax_LL B lay) (C : ax_C p R s m args meth c yX7_book cX7_book 10 (some .int) 14 E mc ms) {r53 : ax_I → Int32 → Int32 → Int32 → Int32 → Option (Int32 × ax_I)} (hr53 : ∀ (I : ax_I) (x2 : Int32) (x3 : Int32) (x4 : Int32) (x5 : Int32), r53 I x2 x3 x4 x5 = some (rv, I9) → AM p l e R s m args below meth c E B lay.length (ax_z lay) 10 (some (.int rv)) lay I9 J lay I J 53 [(0, .ref (B + 35)), (2, .int x2), (3, .int x3), (4, .int x4), (5, .int x5)] []) : ∀ (I : ax_I) (x2 : Int32) (x3 : Int32) (x4 : Int32) (x5 : Int32), f_X7_book_184 r53 I x2 x3 x4 x5 = some (rv, I9) → AM p l e R s m args below meth c E B lay.length (ax_z lay) 10 (some (.int rv)) lay I9 J lay I J 184 [(0, .ref (B + 35)), (2, .int x2), (3, .int x3), (4, .int x4), (5, .int x5)] [] := by
  obtain ⟨hx, hb, hr, hml, hown, hts, hlocks, hK, hfr, hlo, hmc, hms, hnm⟩ := id C
  have hown : s.vm.findClass RX7 = some m.cls := hown
  intro I x2 x3 x4 x5 h H locs cells slots ls hc hz hR hS hl
  unfold f_X7_book_184 at h
  refine lv_iinc (v := (x5 + 1)) (lv' := [(5, .int (x5 + 1)), (0, .ref (B + 35)), (2, .int x2), (3, .int x3), (4, .int x4)]) hx hb dX7_book_184 hl (k := 4) rfl rfl (by decide) rfl (fun ls hl => ?_)
  refine lv_goto (tgt := 53) hx hb dX7_book_187 (by decide) ?_
  exact hr53 _ _ _ _ _ h H locs cells slots ls hc hz hR hS (lv_sub hl [1, 2, 3, 4, 0] rfl)
set_option maxRecDepth 100000 in
set_option maxHeartbeats 4000000 in
theorem t_X7_book_129 {lay : List ax_S} {J : ax_J} {rv : Int32} {I9 : ax_I} (hL : ax_LL B lay) (C : ax_C p R s m args meth c yX7_book cX7_book 10 (some .int) 14 E mc ms) {r53 : ax_I → Int32 → Int32 → Int32 → Int32 → Option (Int32 × ax_I)} (hr53 : ∀ (I : ax_I) (x2 : Int32) (x3 : Int32) (x4 : Int32) (x5 : Int32), r53 I x2 x3 x4 x5 = some (rv, I9) → AM p l e R s m args below meth c E B lay.length (ax_z lay) 10 (some (.int rv)) lay I9 J lay I J 53 [(0, .ref (B + 35)), (2, .int x2), (3, .int x3), (4, .int x4), (5, .int x5)] []) : ∀ (I : ax_I) (x2 : Int32) (x3 : Int32) (x4 : Int32) (x5 : Int32) (s0 : Int32), f_X7_book_129 r53 I x2 x3 x4 x5 s0 = some (rv, I9) → AM p l e R s m args below meth c E B lay.length (ax_z lay) 10 (some (.int rv)) lay I9 J lay I J 129 [(0, .ref (B + 35)), (2, .int x2), (3, .int x3), (4, .int x4), (5, .int x5)] [.int s0] := by
  obtain ⟨hx, hb, hr, hml, hown, hts, hlocks, hK, hfr, hlo, hmc, hms, hnm⟩ := id C
  have hown : s.vm.findClass RX7 = some m.cls := hown
  intro I x2 x3 x4 x5 s0 h H locs cells slots ls hc hz hR hS hl
  unfold f_X7_book_129 at h
  refine lv_istore (lv' := [(7, .int s0), (0, .ref (B + 35)), (2, .int x2), (3, .int x3), (4, .int x4), (5, .int x5)]) hx hb dX7_book_129 hl (by decide) rfl (fun ls hl => ?_)
  refine lv_iload hx hb dX7_book_131 (lv_at hl 4 rfl) ?_
  refine lv_bipush (v := 48) hx hb dX7_book_133 (by decide) ?_
  refine lv_idiv hx hb dX7_book_135 (by decide) ?_
  refine lv_bipush (v := 8) hx hb dX7_book_136 (by decide) ?_
  refine lv_irem hx hb dX7_book_138 (by decide) ?_
  refine lv_istore (lv' := [(8, .int ((x4 / 48) - (x4 / 48) / 8 * 8)), (7, .int s0), (0, .ref (B + 35)), (2, .int x2), (3, .int x3), (4, .int x4), (5, .int x5)]) hx hb dX7_book_139 hl (by decide) rfl (fun ls hl => ?_)
  refine lv_iload hx hb dX7_book_141 (lv_at hl 5 rfl) ?_
  refine lv_sipush (v := 384) hx hb dX7_book_143 (by decide) ?_
  refine lv_idiv hx hb dX7_book_146 (by decide) ?_
  refine lv_iconst (v := 4) hx hb dX7_book_147 (by decide) ?_
  refine lv_irem hx hb dX7_book_148 (by decide) ?_
  refine lv_istore (lv' := [(9, .int ((x4 / 384) - (x4 / 384) / 4 * 4)), (8, .int ((x4 / 48) - (x4 / 48) / 8 * 8)), (7, .int s0), (0, .ref (B + 35)), (2, .int x2), (3, .int x3), (4, .int x4), (5, .int x5)]) hx hb dX7_book_149 hl (by decide) rfl (fun ls hl => ?_)
  refine lv_aload_n hx hb dX7_book_151 rfl (lv_at hl 3 rfl) ?_
  refine lv_iload hx hb dX7_book_152 (lv_at hl 2 rfl) ?_
  refine lv_iload hx hb dX7_book_154 (lv_at hl 6 rfl) ?_
  refine lv_bipush (v := 6) hx hb dX7_book_156 (by decide) ?_
  refine lv_irem hx hb dX7_book_158 (by decide) ?_
  refine lv_iload hx hb dX7_book_159 (lv_at hl 0 rfl) ?_
  refine lv_iload hx hb dX7_book_161 (lv_at hl 1 rfl) ?_
  obtain ⟨q163, hq, h⟩ := ax_bd h
  refine ax_cV (rest := []) (st1 := [.int q163]) C hc hz hS hR (M_X7_whyNot hL hq) yk_X7_whyNot in_X7_whyNot se_X7_whyNot ml_X7_206 (lk_35 hL) rfl rfl (by decide) rfl hl.1 (Nat.le_of_ble_eq_true rfl) rfl rfl dX7_book_163 (fun H locs hR hS => ?_)
  refine lv_if_ne (tgt := 184) hx hb dX7_book_166 (by decide) (fun q => ?_) (fun q => ?_)
  · have h := ax_iN q h
    exact t_X7_book_184 hL C hr53 _ _ _ _ _ h H locs cells slots ls hc hz hR hS (lv_sub hl [3, 4, 5, 6, 7] rfl)
  · have h := ax_ip q h
    refine lv_aload_n hx hb dX7_book_169 rfl (lv_at hl 3 rfl) ?_
    refine lv_iload hx hb dX7_book_170 (lv_at hl 2 rfl) ?_
    refine lv_iload hx hb dX7_book_172 (lv_at hl 6 rfl) ?_
    refine lv_bipush (v := 6) hx hb dX7_book_174 (by decide) ?_
    refine lv_irem hx hb dX7_book_176 (by decide) ?_
    refine lv_iload hx hb dX7_book_177 (lv_at hl 0 rfl) ?_
    refine lv_iload hx hb dX7_book_179 (lv_at hl 1 rfl) ?_
    obtain ⟨q181, hq, h⟩ := ax_bd h
    refine ax_cV (rest := []) (st1 := []) C hc hz hS hR (M_X7_happen hL hq) yk_X7_happen in_X7_happen se_X7_happen ml_X7_210 (lk_35 hL) rfl rfl (by decide) rfl hl.1 (Nat.le_of_ble_eq_true rfl) rfl rfl dX7_book_181 (fun H locs hR hS => ?_)
    exact t_X7_book_184 hL C hr53 _ _ _ _ _ h H locs cells slots ls hc hz hR hS (lv_sub hl [3, 4, 5, 6, 7] rfl)
set_option maxRecDepth 100000 in
set_option maxHeartbeats 4000000 in
theorem t_X7_book_77 {lay : List ax_S} {J : ax_J} {rv : Int32} {I9 : ax_I} (hL : ax_LL B lay) (C : ax_C p R s m args meth c yX7_book cX7_book 10 (some .int) 14 E mc ms) {r53 : ax_I → Int32 → Int32 → Int32 → Int32 → Option (Int32 × ax_I)} (hr53 : ∀ (I : ax_I) (x2 : Int32) (x3 : Int32) (x4 : Int32) (x5 : Int32), r53 I x2 x3 x4 x5 = some (rv, I9) → AM p l e R s m args below meth c E B lay.length (ax_z lay) 10 (some (.int rv)) lay I9 J lay I J 53 [(0, .ref (B + 35)), (2, .int x2), (3, .int x3), (4, .int x4), (5, .int x5)] []) : ∀ (I : ax_I) (x2 : Int32) (x3 : Int32) (x4 : Int32) (x5 : Int32), f_X7_book_77 r53 I x2 x3 x4 x5 = some (rv, I9) → AM p l e R s m args below meth c E B lay.length (ax_z lay) 10 (some (.int rv)) lay I9 J lay I J 77 [(0, .ref (B + 35)), (2, .int x2), (3, .int x3), (4, .int x4), (5, .int x5)] [] := by
  obtain ⟨hx, hb, hr, hml, hown, hts, hlocks, hK, hfr, hlo, hmc, hms, hnm⟩ := id C
  have hown : s.vm.findClass RX7 = some m.cls := hown
  intro I x2 x3 x4 x5 h H locs cells slots ls hc hz hR hS hl
  unfold f_X7_book_77 at h
  refine lv_iload hx hb dX7_book_77 (lv_at hl 3 rfl) ?_
  refine lv_bipush (v := 6) hx hb dX7_book_79 (by decide) ?_
  refine lv_idiv hx hb dX7_book_81 (by decide) ?_
  refine lv_bipush (v := 8) hx hb dX7_book_82 (by decide) ?_
  refine lv_irem hx hb dX7_book_84 (by decide) ?_
  refine lv_istore (lv' := [(6, .int ((x4 / 6) - (x4 / 6) / 8 * 8)), (0, .ref (B + 35)), (2, .int x2), (3, .int x3), (4, .int x4), (5, .int x5)]) hx hb dX7_book_85 hl (by decide) rfl (fun ls hl => ?_)
  refine lv_iload hx hb dX7_book_87 (lv_at hl 0 rfl) ?_
  refine lv_iconst (v := 3) hx hb dX7_book_89 (by decide) ?_
  refine lv_icmp_ge (tgt := 97) hx hb dX7_book_90 (by decide) (fun q => ?_) (fun q => ?_)
  · have h := ax_ip q h
    refine lv_iload hx hb dX7_book_97 (lv_at hl 0 rfl) ?_
    refine lv_iconst (v := 5) hx hb dX7_book_99 (by decide) ?_
    refine lv_icmp_ge (tgt := 107) hx hb dX7_book_100 (by decide) (fun q => ?_) (fun q => ?_)
    · have h := ax_ip q h
      refine lv_iload hx hb dX7_book_107 (lv_at hl 0 rfl) ?_
      refine lv_iconst (v := 5) hx hb dX7_book_109 (by decide) ?_
      refine lv_icmp_ne (tgt := 117) hx hb dX7_book_110 (by decide) (fun q => ?_) (fun q => ?_)
      · have h := ax_iN q h
        refine lv_iload hx hb dX7_book_117 (lv_at hl 0 rfl) ?_
        refine lv_bipush (v := 6) hx hb dX7_book_119 (by decide) ?_
        refine lv_icmp_ne (tgt := 128) hx hb dX7_book_121 (by decide) (fun q => ?_) (fun q => ?_)
        · have h := ax_iN q h
          refine lv_iconst (v := 5) hx hb dX7_book_128 (by decide) ?_
          exact t_X7_book_129 hL C hr53 _ _ _ _ _ _ h H locs cells slots ls hc hz hR hS (lv_sub hl [1, 2, 3, 4, 5] rfl)
        · have h := ax_ip q h
          refine lv_iconst (v := 3) hx hb dX7_book_124 (by decide) ?_
          refine lv_goto (tgt := 129) hx hb dX7_book_125 (by decide) ?_
          exact t_X7_book_129 hL C hr53 _ _ _ _ _ _ h H locs cells slots ls hc hz hR hS (lv_sub hl [1, 2, 3, 4, 5] rfl)
      · have h := ax_ip q h
        refine lv_iconst (v := 2) hx hb dX7_book_113 (by decide) ?_
        refine lv_goto (tgt := 129) hx hb dX7_book_114 (by decide) ?_
        exact t_X7_book_129 hL C hr53 _ _ _ _ _ _ h H locs cells slots ls hc hz hR hS (lv_sub hl [1, 2, 3, 4, 5] rfl)
    · have h := ax_iN q h
      refine lv_iconst (v := 1) hx hb dX7_book_103 (by decide) ?_
      refine lv_goto (tgt := 129) hx hb dX7_book_104 (by decide) ?_
      exact t_X7_book_129 hL C hr53 _ _ _ _ _ _ h H locs cells slots ls hc hz hR hS (lv_sub hl [1, 2, 3, 4, 5] rfl)
  · have h := ax_iN q h
    refine lv_iconst (v := 0) hx hb dX7_book_93 (by decide) ?_
    refine lv_goto (tgt := 129) hx hb dX7_book_94 (by decide) ?_
    exact t_X7_book_129 hL C hr53 _ _ _ _ _ _ h H locs cells slots ls hc hz hR hS (lv_sub hl [1, 2, 3, 4, 5] rfl)
set_option maxRecDepth 100000 in
set_option maxHeartbeats 4000000 in
theorem t_X7_book_220 {lay : List ax_S} {J : ax_J} {rv : Int32} {I9 : ax_I} (hL : ax_LL B lay) (C : ax_C p R s m args meth c yX7_book cX7_book 10 (some .int) 14 E mc ms) {r199 : ax_I → Int32 → Int32 → Int32 → Int32 → Option (Int32 × ax_I)} (hr199 : ∀ (I : ax_I) (x3 : Int32) (x5 : Int32) (x6 : Int32) (x7 : Int32), r199 I x3 x5 x6 x7 = some (rv, I9) → AM p l e R s m args below meth c E B lay.length (ax_z lay) 10 (some (.int rv)) lay I9 J lay I J 199 [(0, .ref (B + 35)), (3, .int x3), (5, .int x5), (6, .int x6), (7, .int x7)] []) : ∀ (n : Nat) (I : ax_I) (x3 : Int32) (x5 : Int32) (x6 : Int32) (x7 : Int32) (x8 : Int32), f_X7_book_220 r199 n I x3 x5 x6 x7 x8 = some (rv, I9) → AM p l e R s m args below meth c E B lay.length (ax_z lay) 10 (some (.int rv)) lay I9 J lay I J 220 [(0, .ref (B + 35)), (3, .int x3), (5, .int x5), (6, .int x6), (7, .int x7), (8, .int x8)] [] := by
  obtain ⟨hx, hb, hr, hml, hown, hts, hlocks, hK, hfr, hlo, hmc, hms, hnm⟩ := id C
  have hown : s.vm.findClass RX7 = some m.cls := hown
  intro n
  induction n with
  | zero => intro I x3 x5 x6 x7 x8 h; cases h
  | succ n ih =>
    intro I x3 x5 x6 x7 x8 h H locs cells slots ls hc hz hR hS hl
    rw [f_X7_book_220] at h
    refine lv_iload hx hb dX7_book_220 (lv_at hl 5 rfl) ?_
    refine lv_bipush (v := 6) hx hb dX7_book_222 (by decide) ?_
    refine lv_icmp_ge (tgt := 249) hx hb dX7_book_224 (by decide) (fun q => ?_) (fun q => ?_)
    · have h := ax_ip q h
      refine lv_iinc (v := (x7 + 1)) (lv' := [(7, .int (x7 + 1)), (0, .ref (B + 35)), (3, .int x3), (5, .int x5), (6, .int x6), (8, .int x8)]) hx hb dX7_book_249 hl (k := 4) rfl rfl (by decide) rfl (fun ls hl => ?_)
      refine lv_goto (tgt := 199) hx hb dX7_book_252 (by decide) ?_
      exact hr199 _ _ _ _ _ h H locs cells slots ls hc hz hR hS (lv_sub hl [1, 2, 3, 4, 0] rfl)
    · have h := ax_iN q h
      refine lv_iload hx hb dX7_book_227 (lv_at hl 3 rfl) ?_
      refine lv_aload_n hx hb dX7_book_229 rfl (lv_at hl 0 rfl) ?_
      refine lv_iload hx hb dX7_book_230 (lv_at hl 4 rfl) ?_
      refine lv_iload hx hb dX7_book_232 (lv_at hl 5 rfl) ?_
      obtain ⟨q234, hq, h⟩ := ax_bd h
      refine ax_cV (rest := [.int x6]) (st1 := [.int q234, .int x6]) C hc hz hS hR (M_X7_heldBy hL hq) yk_X7_heldBy in_X7_heldBy se_X7_heldBy ml_X7_176 (lk_35 hL) rfl rfl (by decide) rfl hl.1 (Nat.le_of_ble_eq_true rfl) rfl rfl dX7_book_234 (fun H locs hR hS => ?_)
      obtain ⟨q237, hq, h⟩ := ax_bd h
      refine ax_cS (rest := [.int x6]) (st1 := [.int q237, .int x6]) C hc hz hS hR (M_X7_ones  hq) yk_X7_ones st_X7_ones ml_X7_109 (by decide) rfl hl.1 (Nat.le_of_ble_eq_true rfl) rfl rfl dX7_book_237 (fun H locs hR hS => ?_)
      refine lv_iadd hx hb dX7_book_240 ?_
      refine lv_istore (lv' := [(6, .int (x6 + q237)), (0, .ref (B + 35)), (3, .int x3), (5, .int x5), (7, .int x7), (8, .int x8)]) hx hb dX7_book_241 hl (by decide) rfl (fun ls hl => ?_)
      refine lv_iinc (v := (x8 + 1)) (lv' := [(8, .int (x8 + 1)), (6, .int (x6 + q237)), (0, .ref (B + 35)), (3, .int x3), (5, .int x5), (7, .int x7)]) hx hb dX7_book_243 hl (k := 5) rfl rfl (by decide) rfl (fun ls hl => ?_)
      refine lv_goto (tgt := 220) hx hb dX7_book_246 (by decide) ?_
      exact ih _ _ _ _ _ _ h H locs cells slots ls hc hz hR hS (lv_sub hl [2, 3, 4, 1, 5, 0] rfl)
set_option maxRecDepth 100000 in
set_option maxHeartbeats 4000000 in
theorem t_X7_book_199 {lay : List ax_S} {J : ax_J} {rv : Int32} {I9 : ax_I} (hL : ax_LL B lay) (C : ax_C p R s m args meth c yX7_book cX7_book 10 (some .int) 14 E mc ms) : ∀ (n : Nat) (I : ax_I) (x3 : Int32) (x5 : Int32) (x6 : Int32) (x7 : Int32), f_X7_book_199 n I x3 x5 x6 x7 = some (rv, I9) → AM p l e R s m args below meth c E B lay.length (ax_z lay) 10 (some (.int rv)) lay I9 J lay I J 199 [(0, .ref (B + 35)), (3, .int x3), (5, .int x5), (6, .int x6), (7, .int x7)] [] := by
  obtain ⟨hx, hb, hr, hml, hown, hts, hlocks, hK, hfr, hlo, hmc, hms, hnm⟩ := id C
  have hown : s.vm.findClass RX7 = some m.cls := hown
  intro n
  induction n with
  | zero => intro I x3 x5 x6 x7 h; cases h
  | succ n ih =>
    intro I x3 x5 x6 x7 h H locs cells slots ls hc hz hR hS hl
    rw [f_X7_book_199] at h
    refine lv_iload hx hb dX7_book_199 (lv_at hl 4 rfl) ?_
    refine lv_iconst (v := 4) hx hb dX7_book_201 (by decide) ?_
    refine lv_icmp_ge (tgt := 255) hx hb dX7_book_202 (by decide) (fun q => ?_) (fun q => ?_)
    · have h := ax_ip q h
      refine lv_aload_n hx hb dX7_book_255 rfl (lv_at hl 0 rfl) ?_
      obtain ⟨q256, hq, h⟩ := ax_bd h
      refine ax_cV (rest := []) (st1 := [.int q256]) C hc hz hS hR (M_X7_saints hL hq) yk_X7_saints in_X7_saints se_X7_saints ml_X7_261 (lk_35 hL) rfl rfl (by decide) rfl hl.1 (Nat.le_of_ble_eq_true rfl) rfl rfl dX7_book_256 (fun H locs hR hS => ?_)
      obtain ⟨q259, hq, h⟩ := ax_bd h
      refine ax_cS (rest := []) (st1 := [.int q259]) C hc hz hS hR (M_X7_ones  hq) yk_X7_ones st_X7_ones ml_X7_109 (by decide) rfl hl.1 (Nat.le_of_ble_eq_true rfl) rfl rfl dX7_book_259 (fun H locs hR hS => ?_)
      refine lv_istore (lv' := [(7, .int q259), (0, .ref (B + 35)), (3, .int x3), (5, .int x5), (6, .int x6)]) hx hb dX7_book_262 hl (by decide) rfl (fun ls hl => ?_)
      refine lv_aload_n hx hb dX7_book_264 rfl (lv_at hl 1 rfl) ?_
      refine lv_aload_n hx hb dX7_book_265 rfl (lv_at hl 1 rfl) ?_
      refine ax_getV hx hb hts hown hK hR fl_X7_67 (lk_35 hL) rfl dX7_book_266 ?_
      obtain ⟨q269, hq, h⟩ := ax_bd h
      refine ax_cV (rest := []) (st1 := []) C hc hz hS hR (M_X7_lay hL (lk_55 hL) hq) yk_X7_lay in_X7_lay se_X7_lay ml_X7_224 (lk_35 hL) rfl rfl (by decide) rfl hl.1 (Nat.le_of_ble_eq_true rfl) rfl rfl dX7_book_269 (fun H locs hR hS => ?_)
      refine lv_iload_n hx hb dX7_book_272 rfl (lv_at hl 2 rfl) ?_
      refine lv_if_ne (tgt := 281) hx hb dX7_book_273 (by decide) (fun q => ?_) (fun q => ?_)
      · have h := ax_iN q h
        refine lv_iload_n hx hb dX7_book_281 rfl (lv_at hl 2 rfl) ?_
        refine lv_iconst (v := 1) hx hb dX7_book_282 (by decide) ?_
        refine lv_icmp_ne (tgt := 291) hx hb dX7_book_283 (by decide) (fun q => ?_) (fun q => ?_)
        · have h := ax_iN q h
          refine lv_iload hx hb dX7_book_291 (lv_at hl 4 rfl) ?_
          cases h
          exact ax_iret C hc hz hR hS rfl rfl dX7_book_293
        · have h := ax_ip q h
          refine lv_iload hx hb dX7_book_286 (lv_at hl 3 rfl) ?_
          refine lv_goto (tgt := 293) hx hb dX7_book_288 (by decide) ?_
          cases h
          exact ax_iret C hc hz hR hS rfl rfl dX7_book_293
      · have h := ax_ip q h
        refine lv_iload hx hb dX7_book_276 (lv_at hl 0 rfl) ?_
        refine lv_goto (tgt := 293) hx hb dX7_book_278 (by decide) ?_
        cases h
        exact ax_iret C hc hz hR hS rfl rfl dX7_book_293
    · have h := ax_iN q h
      refine lv_iload hx hb dX7_book_205 (lv_at hl 2 rfl) ?_
      refine lv_aload_n hx hb dX7_book_207 rfl (lv_at hl 0 rfl) ?_
      refine ax_getV hx hb hts hown hK hR fl_X7_34 (lk_35 hL) rfl dX7_book_208 ?_
      refine lv_iload hx hb dX7_book_211 (lv_at hl 4 rfl) ?_
      obtain ⟨hq, h⟩ := ax_ck h
      refine ax_iald hx hb hK hR (lk_44 hL) hq dX7_book_213 ?_
      refine lv_iadd hx hb dX7_book_214 ?_
      refine lv_istore (lv' := [(5, .int (x5 + (I 44 x7.toNatClampNeg))), (0, .ref (B + 35)), (3, .int x3), (6, .int x6), (7, .int x7)]) hx hb dX7_book_215 hl (by decide) rfl (fun ls hl => ?_)
      refine lv_iconst (v := 0) hx hb dX7_book_217 (by decide) ?_
      refine lv_istore (lv' := [(8, .int 0), (5, .int (x5 + (I 44 x7.toNatClampNeg))), (0, .ref (B + 35)), (3, .int x3), (6, .int x6), (7, .int x7)]) hx hb dX7_book_218 hl (by decide) rfl (fun ls hl => ?_)
      exact t_X7_book_220 hL C ih ax_N _ _ _ _ _ _ h H locs cells slots ls hc hz hR hS (lv_sub hl [2, 3, 1, 4, 5, 0] rfl)
set_option maxRecDepth 100000 in
set_option maxHeartbeats 4000000 in
theorem t_X7_book_53 {lay : List ax_S} {J : ax_J} {rv : Int32} {I9 : ax_I} (hL : ax_LL B lay) (C : ax_C p R s m args meth c yX7_book cX7_book 10 (some .int) 14 E mc ms) : ∀ (n : Nat) (I : ax_I) (x2 : Int32) (x3 : Int32) (x4 : Int32) (x5 : Int32), f_X7_book_53 n I x2 x3 x4 x5 = some (rv, I9) → AM p l e R s m args below meth c E B lay.length (ax_z lay) 10 (some (.int rv)) lay I9 J lay I J 53 [(0, .ref (B + 35)), (2, .int x2), (3, .int x3), (4, .int x4), (5, .int x5)] [] := by
  obtain ⟨hx, hb, hr, hml, hown, hts, hlocks, hK, hfr, hlo, hmc, hms, hnm⟩ := id C
  have hown : s.vm.findClass RX7 = some m.cls := hown
  intro n
  induction n with
  | zero => intro I x2 x3 x4 x5 h; cases h
  | succ n ih =>
    intro I x2 x3 x4 x5 h H locs cells slots ls hc hz hR hS hl
    rw [f_X7_book_53] at h
    refine lv_iload hx hb dX7_book_53 (lv_at hl 4 rfl) ?_
    refine lv_iload_n hx hb dX7_book_55 rfl (lv_at hl 1 rfl) ?_
    refine lv_icmp_ge (tgt := 190) hx hb dX7_book_56 (by decide) (fun q => ?_) (fun q => ?_)
    · have h := ax_ip q h
      refine lv_iconst (v := 0) hx hb dX7_book_190 (by decide) ?_
      refine lv_istore (lv' := [(5, .int 0), (0, .ref (B + 35)), (2, .int x2), (3, .int x3), (4, .int x4)]) hx hb dX7_book_191 hl (by decide) rfl (fun ls hl => ?_)
      refine lv_iconst (v := 0) hx hb dX7_book_193 (by decide) ?_
      refine lv_istore (lv' := [(6, .int 0), (5, .int 0), (0, .ref (B + 35)), (2, .int x2), (3, .int x3), (4, .int x4)]) hx hb dX7_book_194 hl (by decide) rfl (fun ls hl => ?_)
      refine lv_iconst (v := 0) hx hb dX7_book_196 (by decide) ?_
      refine lv_istore (lv' := [(7, .int 0), (6, .int 0), (5, .int 0), (0, .ref (B + 35)), (2, .int x2), (3, .int x3), (4, .int x4)]) hx hb dX7_book_197 hl (by decide) rfl (fun ls hl => ?_)
      exact t_X7_book_199 hL C  ax_N _ _ _ _ _ h H locs cells slots ls hc hz hR hS (lv_sub hl [3, 5, 2, 1, 0] rfl)
    · have h := ax_iN q h
      refine lv_ldc2 hx hb hown (hts _ ct_X7_300) dX7_book_59 ?_
      refine lv_iload hx hb dX7_book_62 (lv_at hl 3 rfl) ?_
      refine lv_i2l hx hb dX7_book_64 rfl ?_
      refine lv_lmul hx hb dX7_book_65 ?_
      refine lv_ldc2 hx hb hown (hts _ ct_X7_302) dX7_book_66 ?_
      refine lv_ladd hx hb dX7_book_69 ?_
      refine lv_ldc2 hx hb hown (hts _ ct_X7_304) dX7_book_70 ?_
      refine lv_lrem hx hb dX7_book_73 (by decide) ?_
      refine lv_l2i hx hb dX7_book_74 rfl ?_
      refine lv_istore (lv' := [(4, .int (((((75 * ((x4 : Int32).toInt64)) + 74) - ((75 * ((x4 : Int32).toInt64)) + 74) / 65537 * 65537) : Int64).toInt32)), (0, .ref (B + 35)), (2, .int x2), (3, .int x3), (5, .int x5)]) hx hb dX7_book_75 hl (by decide) rfl (fun ls hl => ?_)
      exact t_X7_book_77 hL C ih _ _ _ _ _ h H locs cells slots ls hc hz hR hS (lv_sub hl [1, 2, 3, 0, 4] rfl)
set_option maxRecDepth 100000 in
set_option maxHeartbeats 4000000 in
theorem t_X7_book_0 {lay : List ax_S} {J : ax_J} {rv : Int32} {I9 : ax_I} (hL : ax_LL B lay) (C : ax_C p R s m args meth c yX7_book cX7_book 10 (some .int) 14 E mc ms) : ∀ (I : ax_I) (x1 : Int32) (x2 : Int32) (x3 : Int32), F_X7_book I x1 x2 x3 = some (rv, I9) → AM p l e R s m args below meth c E B lay.length (ax_z lay) 10 (some (.int rv)) lay I9 J lay I J 0 [(0, .ref (B + 35)), (1, .int x1), (2, .int x2), (3, .int x3)] [] := by
  obtain ⟨hx, hb, hr, hml, hown, hts, hlocks, hK, hfr, hlo, hmc, hms, hnm⟩ := id C
  have hown : s.vm.findClass RX7 = some m.cls := hown
  intro I x1 x2 x3 h H locs cells slots ls hc hz hR hS hl
  unfold F_X7_book at h
  refine lv_iload_n hx hb dX7_book_0 rfl (lv_at hl 1 rfl) ?_
  refine lv_i2l hx hb dX7_book_1 rfl ?_
  refine lv_lconst (v := 0) hx hb dX7_book_2 (by decide) ?_
  refine lv_ldc2 hx hb hown (hts _ ct_X7_298) dX7_book_3 ?_
  obtain ⟨q6, hq, h⟩ := ax_bd h
  refine ax_cS (rest := []) (st1 := [.int q6]) C hc hz hS hR (M_X7_in  hq) yk_X7_in st_X7_in ml_X7_89 (by decide) rfl hl.1 (Nat.le_of_ble_eq_true rfl) rfl rfl dX7_book_6 (fun H locs hR hS => ?_)
  refine lv_if_eq (tgt := 36) hx hb dX7_book_9 (by decide) (fun q => ?_) (fun q => ?_)
  · have h := ax_ip q h
    refine lv_bipush (v := (-2)) hx hb dX7_book_36 (by decide) ?_
    cases h
    exact ax_iret C hc hz hR hS rfl rfl dX7_book_38
  · have h := ax_iN q h
    refine lv_iload_n hx hb dX7_book_12 rfl (lv_at hl 2 rfl) ?_
    refine lv_i2l hx hb dX7_book_13 rfl ?_
    refine lv_lconst (v := 1) hx hb dX7_book_14 (by decide) ?_
    refine lv_ldc2 hx hb hown (hts _ ct_X7_103) dX7_book_15 ?_
    obtain ⟨q18, hq, h⟩ := ax_bd h
    refine ax_cS (rest := []) (st1 := [.int q18]) C hc hz hS hR (M_X7_in  hq) yk_X7_in st_X7_in ml_X7_89 (by decide) rfl hl.1 (Nat.le_of_ble_eq_true rfl) rfl rfl dX7_book_18 (fun H locs hR hS => ?_)
    refine lv_if_eq (tgt := 36) hx hb dX7_book_21 (by decide) (fun q => ?_) (fun q => ?_)
    · have h := ax_ip q h
      refine lv_bipush (v := (-2)) hx hb dX7_book_36 (by decide) ?_
      cases h
      exact ax_iret C hc hz hR hS rfl rfl dX7_book_38
    · have h := ax_iN q h
      refine lv_iload_n hx hb dX7_book_24 rfl (lv_at hl 3 rfl) ?_
      refine lv_i2l hx hb dX7_book_25 rfl ?_
      refine lv_lconst (v := 0) hx hb dX7_book_26 (by decide) ?_
      refine lv_ldc2 hx hb hown (hts _ ct_X7_116) dX7_book_27 ?_
      obtain ⟨q30, hq, h⟩ := ax_bd h
      refine ax_cS (rest := []) (st1 := [.int q30]) C hc hz hS hR (M_X7_in  hq) yk_X7_in st_X7_in ml_X7_89 (by decide) rfl hl.1 (Nat.le_of_ble_eq_true rfl) rfl rfl dX7_book_30 (fun H locs hR hS => ?_)
      refine lv_if_ne (tgt := 39) hx hb dX7_book_33 (by decide) (fun q => ?_) (fun q => ?_)
      · have h := ax_iN q h
        refine lv_aload_n hx hb dX7_book_39 rfl (lv_at hl 0 rfl) ?_
        refine lv_aload_n hx hb dX7_book_40 rfl (lv_at hl 0 rfl) ?_
        refine ax_getV hx hb hts hown hK hR fl_X7_67 (lk_35 hL) rfl dX7_book_41 ?_
        obtain ⟨q44, hq, h⟩ := ax_bd h
        refine ax_cV (rest := []) (st1 := []) C hc hz hS hR (M_X7_store hL (lk_55 hL) hq) yk_X7_store in_X7_store se_X7_store ml_X7_217 (lk_35 hL) rfl rfl (by decide) rfl hl.1 (Nat.le_of_ble_eq_true rfl) rfl rfl dX7_book_44 (fun H locs hR hS => ?_)
        refine lv_iload_n hx hb dX7_book_47 rfl (lv_at hl 1 rfl) ?_
        refine lv_istore (lv' := [(4, .int x1), (0, .ref (B + 35)), (1, .int x1), (2, .int x2), (3, .int x3)]) hx hb dX7_book_48 hl (by decide) rfl (fun ls hl => ?_)
        refine lv_iconst (v := 0) hx hb dX7_book_50 (by decide) ?_
        refine lv_istore (lv' := [(5, .int 0), (4, .int x1), (0, .ref (B + 35)), (1, .int x1), (2, .int x2), (3, .int x3)]) hx hb dX7_book_51 hl (by decide) rfl (fun ls hl => ?_)
        exact t_X7_book_53 hL C  ax_N _ _ _ _ _ h H locs cells slots ls hc hz hR hS (lv_sub hl [2, 4, 5, 1, 0] rfl)
      · have h := ax_ip q h
        refine lv_bipush (v := (-2)) hx hb dX7_book_36 (by decide) ?_
        cases h
        exact ax_iret C hc hz hR hS rfl rfl dX7_book_38
theorem M_X7_book {l : Launch} {E : ax_E} {B : Nat} {lay : List ax_S} {I : ax_I} {J : ax_J} {x1 : Int32} {x2 : Int32} {x3 : Int32} {rv : Int32} {I9 : ax_I} (hL : ax_LL B lay) (h : F_X7_book I x1 x2 x3 = some (rv, I9)) : Cm l yX7_book cX7_book 10 (some .int) 14 E B [.ref (B + 35), .int x1, .int x2, .int x3] lay I J (some (.int rv)) lay I9 J :=
  ax_met (by decide) (Nat.le_of_ble_eq_true rfl) (fun p e R s m args below meth c C => t_X7_book_0 hL C _ _ _ _ h)
def f_X7_pass_20 (I : ax_I) (s0 : Int32) : Option (Int32 × ax_I) :=
  if ax_in (I 35 36) 320 = true then some (s0, (ax_u (ax_u I 59 (I 35 36).toNatClampNeg s0) 35 36 (((ax_u I 59 (I 35 36).toNatClampNeg s0) 35 36) + 1))) else none
def F_X7_pass (I : ax_I) (x1 : Int32) : Option (Int32 × ax_I) :=
  if (I 35 37) = 0 then (if ax_in (I 35 36) 320 = true then f_X7_pass_20 I (I 59 (I 35 36).toNatClampNeg) else none) else f_X7_pass_20 I x1
set_option maxRecDepth 100000 in
set_option maxHeartbeats 4000000 in
theorem t_X7_pass_20 {lay : List ax_S} {J : ax_J} {rv : Int32} {I9 : ax_I} (hL : ax_LL B lay) (C : ax_C p R s m args meth c yX7_pass cX7_pass 3 (some .int) 2 E mc ms) : ∀ (I : ax_I) (s0 : Int32), f_X7_pass_20 I s0 = some (rv, I9) → AM p l e R s m args below meth c E B lay.length (ax_z lay) 3 (some (.int rv)) lay I9 J lay I J 20 [(0, .ref (B + 35))] [.int s0] := by
  obtain ⟨hx, hb, hr, hml, hown, hts, hlocks, hK, hfr, hlo, hmc, hms, hnm⟩ := id C
  have hown : s.vm.findClass RX7 = some m.cls := hown
  intro I s0 h H locs cells slots ls hc hz hR hS hl
  unfold f_X7_pass_20 at h
  refine lv_istore_n (lv' := [(2, .int s0), (0, .ref (B + 35))]) hx hb dX7_pass_20 rfl hl (by decide) rfl (fun ls hl => ?_)
  refine lv_aload_n hx hb dX7_pass_21 rfl (lv_at hl 1 rfl) ?_
  refine ax_getV hx hb hts hown hK hR fl_X7_80 (lk_35 hL) rfl dX7_pass_22 ?_
  refine lv_aload_n hx hb dX7_pass_25 rfl (lv_at hl 1 rfl) ?_
  refine ax_getI hx hb hts hown hK hR fl_X7_310 (lk_35 hL) rfl dX7_pass_26 ?_
  refine lv_iload_n hx hb dX7_pass_29 rfl (lv_at hl 0 rfl) ?_
  obtain ⟨hq, h⟩ := ax_ck h
  refine ax_iast hx hb hK hR hS (lk_59 hL) hq dX7_pass_30 (fun H locs hR hS => ?_)
  refine lv_aload_n hx hb dX7_pass_31 rfl (lv_at hl 1 rfl) ?_
  refine lv_dup hx hb dX7_pass_32 rfl ?_
  refine ax_getI hx hb hts hown hK hR fl_X7_310 (lk_35 hL) rfl dX7_pass_33 ?_
  refine lv_iconst (v := 1) hx hb dX7_pass_36 (by decide) ?_
  refine lv_iadd hx hb dX7_pass_37 ?_
  refine ax_putI hx hb hts hown hK hR hS fp_X7_310 (lk_35 hL) rfl rfl rfl dX7_pass_38 (fun H locs hR hS => ?_)
  refine lv_iload_n hx hb dX7_pass_41 rfl (lv_at hl 0 rfl) ?_
  cases h
  exact ax_iret C hc hz hR hS rfl rfl dX7_pass_42
set_option maxRecDepth 100000 in
set_option maxHeartbeats 4000000 in
theorem t_X7_pass_0 {lay : List ax_S} {J : ax_J} {rv : Int32} {I9 : ax_I} (hL : ax_LL B lay) (C : ax_C p R s m args meth c yX7_pass cX7_pass 3 (some .int) 2 E mc ms) : ∀ (I : ax_I) (x1 : Int32), F_X7_pass I x1 = some (rv, I9) → AM p l e R s m args below meth c E B lay.length (ax_z lay) 3 (some (.int rv)) lay I9 J lay I J 0 [(0, .ref (B + 35)), (1, .int x1)] [] := by
  obtain ⟨hx, hb, hr, hml, hown, hts, hlocks, hK, hfr, hlo, hmc, hms, hnm⟩ := id C
  have hown : s.vm.findClass RX7 = some m.cls := hown
  intro I x1 h H locs cells slots ls hc hz hR hS hl
  unfold F_X7_pass at h
  refine lv_aload_n hx hb dX7_pass_0 rfl (lv_at hl 0 rfl) ?_
  refine ax_getI hx hb hts hown hK hR fl_X7_306 (lk_35 hL) rfl dX7_pass_1 ?_
  refine lv_if_eq (tgt := 11) hx hb dX7_pass_4 (by decide) (fun q => ?_) (fun q => ?_)
  · have h := ax_ip q h
    refine lv_aload_n hx hb dX7_pass_11 rfl (lv_at hl 0 rfl) ?_
    refine ax_getV hx hb hts hown hK hR fl_X7_80 (lk_35 hL) rfl dX7_pass_12 ?_
    refine lv_aload_n hx hb dX7_pass_15 rfl (lv_at hl 0 rfl) ?_
    refine ax_getI hx hb hts hown hK hR fl_X7_310 (lk_35 hL) rfl dX7_pass_16 ?_
    obtain ⟨hq, h⟩ := ax_ck h
    refine ax_iald hx hb hK hR (lk_59 hL) hq dX7_pass_19 ?_
    exact t_X7_pass_20 hL C  _ _ h H locs cells slots ls hc hz hR hS (lv_sub hl [0] rfl)
  · have h := ax_iN q h
    refine lv_iload_n hx hb dX7_pass_7 rfl (lv_at hl 1 rfl) ?_
    refine lv_goto (tgt := 20) hx hb dX7_pass_8 (by decide) ?_
    exact t_X7_pass_20 hL C  _ _ h H locs cells slots ls hc hz hR hS (lv_sub hl [0] rfl)
theorem M_X7_pass {l : Launch} {E : ax_E} {B : Nat} {lay : List ax_S} {I : ax_I} {J : ax_J} {x1 : Int32} {rv : Int32} {I9 : ax_I} (hL : ax_LL B lay) (h : F_X7_pass I x1 = some (rv, I9)) : Cm l yX7_pass cX7_pass 3 (some .int) 2 E B [.ref (B + 35), .int x1] lay I J (some (.int rv)) lay I9 J :=
  ax_met (by decide) (Nat.le_of_ble_eq_true rfl) (fun p e R s m args below meth c C => t_X7_pass_0 hL C _ _ h)
def f_X7_passRow_2 (k1 : Nat) (n1 : Nat) : Nat → ax_I → Int32 → Int32 → Option ax_I
  | 0, _, _, _ => none
  | n + 1, I, x2, x3 => if x2 ≤ x3 then some I else if ax_in x3 n1 = true then (F_X7_pass I (I k1 x3.toNatClampNeg)).bind (fun q13 => if ax_in x3 n1 = true then f_X7_passRow_2 k1 n1 n (ax_u q13.2 k1 x3.toNatClampNeg q13.1) x2 (x3 + 1) else none) else none
def F_X7_passRow (I : ax_I) (k1 : Nat) (n1 : Nat) (x2 : Int32) : Option ax_I :=
  f_X7_passRow_2 k1 n1 ax_N I x2 0
set_option maxRecDepth 100000 in
set_option maxHeartbeats 4000000 in
theorem t_X7_passRow_2 {lay : List ax_S} {k1 : Nat} {n1 : Nat} {J : ax_J} {I9 : ax_I} (hL : ax_LL B lay) (hPk1 : lay[k1]? = some (.inr (.inl (0, n1)))) (C : ax_C p R s m args meth c yX7_passRow cX7_passRow 4 none 4 E mc ms) : ∀ (n : Nat) (I : ax_I) (x2 : Int32) (x3 : Int32), f_X7_passRow_2 k1 n1 n I x2 x3 = some I9 → AM p l e R s m args below meth c E B lay.length (ax_z lay) 4 none lay I9 J lay I J 2 [(0, .ref (B + 35)), (1, .ref (B + k1)), (2, .int x2), (3, .int x3)] [] := by
  obtain ⟨hx, hb, hr, hml, hown, hts, hlocks, hK, hfr, hlo, hmc, hms, hnm⟩ := id C
  have hown : s.vm.findClass RX7 = some m.cls := hown
  intro n
  induction n with
  | zero => intro I x2 x3 h; cases h
  | succ n ih =>
    intro I x2 x3 h H locs cells slots ls hc hz hR hS hl
    rw [f_X7_passRow_2] at h
    refine lv_iload_n hx hb dX7_passRow_2 rfl (lv_at hl 3 rfl) ?_
    refine lv_iload_n hx hb dX7_passRow_3 rfl (lv_at hl 2 rfl) ?_
    refine lv_icmp_ge (tgt := 23) hx hb dX7_passRow_4 (by decide) (fun q => ?_) (fun q => ?_)
    · have h := ax_ip q h
      cases h
      exact ax_vret C hc hz hR hS dX7_passRow_23
    · have h := ax_iN q h
      refine lv_aload_n hx hb dX7_passRow_7 rfl (lv_at hl 1 rfl) ?_
      refine lv_iload_n hx hb dX7_passRow_8 rfl (lv_at hl 3 rfl) ?_
      refine lv_aload_n hx hb dX7_passRow_9 rfl (lv_at hl 0 rfl) ?_
      refine lv_aload_n hx hb dX7_passRow_10 rfl (lv_at hl 1 rfl) ?_
      refine lv_iload_n hx hb dX7_passRow_11 rfl (lv_at hl 3 rfl) ?_
      obtain ⟨hq, h⟩ := ax_ck h
      refine ax_iald hx hb hK hR hPk1 hq dX7_passRow_12 ?_
      obtain ⟨q13, hq, h⟩ := ax_bd h
      refine ax_cV (rest := [.int x3, .ref (B + k1)]) (st1 := [.int q13.1, .int x3, .ref (B + k1)]) C hc hz hS hR (M_X7_pass hL hq) yk_X7_pass in_X7_pass se_X7_pass ml_X7_313 (lk_35 hL) rfl rfl (by decide) rfl hl.1 (Nat.le_of_ble_eq_true rfl) rfl rfl dX7_passRow_13 (fun H locs hR hS => ?_)
      obtain ⟨hq, h⟩ := ax_ck h
      refine ax_iast hx hb hK hR hS hPk1 hq dX7_passRow_16 (fun H locs hR hS => ?_)
      refine lv_iinc (v := (x3 + 1)) (lv' := [(3, .int (x3 + 1)), (0, .ref (B + 35)), (1, .ref (B + k1)), (2, .int x2)]) hx hb dX7_passRow_17 hl (k := 3) rfl rfl (by decide) rfl (fun ls hl => ?_)
      refine lv_goto (tgt := 2) hx hb dX7_passRow_20 (by decide) ?_
      exact ih _ _ _ h H locs cells slots ls hc hz hR hS (lv_sub hl [1, 2, 3, 0] rfl)
set_option maxRecDepth 100000 in
set_option maxHeartbeats 4000000 in
theorem t_X7_passRow_0 {lay : List ax_S} {k1 : Nat} {n1 : Nat} {J : ax_J} {I9 : ax_I} (hL : ax_LL B lay) (hPk1 : lay[k1]? = some (.inr (.inl (0, n1)))) (C : ax_C p R s m args meth c yX7_passRow cX7_passRow 4 none 4 E mc ms) : ∀ (I : ax_I) (x2 : Int32), F_X7_passRow I k1 n1 x2 = some I9 → AM p l e R s m args below meth c E B lay.length (ax_z lay) 4 none lay I9 J lay I J 0 [(0, .ref (B + 35)), (1, .ref (B + k1)), (2, .int x2)] [] := by
  obtain ⟨hx, hb, hr, hml, hown, hts, hlocks, hK, hfr, hlo, hmc, hms, hnm⟩ := id C
  have hown : s.vm.findClass RX7 = some m.cls := hown
  intro I x2 h H locs cells slots ls hc hz hR hS hl
  unfold F_X7_passRow at h
  refine lv_iconst (v := 0) hx hb dX7_passRow_0 (by decide) ?_
  refine lv_istore_n (lv' := [(3, .int 0), (0, .ref (B + 35)), (1, .ref (B + k1)), (2, .int x2)]) hx hb dX7_passRow_1 rfl hl (by decide) rfl (fun ls hl => ?_)
  exact t_X7_passRow_2 hL hPk1 C  ax_N _ _ _ h H locs cells slots ls hc hz hR hS (lv_sub hl [1, 2, 3, 0] rfl)
theorem M_X7_passRow {l : Launch} {E : ax_E} {B : Nat} {lay : List ax_S} {I : ax_I} {J : ax_J} {k1 : Nat} {n1 : Nat} {x2 : Int32} {I9 : ax_I} (hL : ax_LL B lay) (hPk1 : lay[k1]? = some (.inr (.inl (0, n1)))) (h : F_X7_passRow I k1 n1 x2 = some I9) : Cm l yX7_passRow cX7_passRow 4 none 4 E B [.ref (B + 35), .ref (B + k1), .int x2] lay I J none lay I9 J :=
  ax_met (by decide) (Nat.le_of_ble_eq_true rfl) (fun p e R s m args below meth c C => t_X7_passRow_0 hL hPk1 C _ _ h)
def F_X7_passAll (I : ax_I) : Option ax_I :=
  (F_X7_pass I (I 35 0)).bind (fun q6 => (F_X7_pass (ax_u q6.2 35 0 q6.1) ((ax_u q6.2 35 0 q6.1) 35 1)).bind (fun q18 => (F_X7_pass (ax_u q18.2 35 1 q18.1) ((ax_u q18.2 35 1 q18.1) 35 16)).bind (fun q30 => (F_X7_passRow (ax_u q30.2 35 16 q30.1) 36 6 6).bind (fun q43 => (F_X7_passRow q43 37 6 6).bind (fun q53 => (F_X7_passRow q53 38 6 6).bind (fun q63 => (F_X7_passRow q63 39 6 6).bind (fun q73 => (F_X7_passRow q73 40 48 48).bind (fun q83 => (F_X7_passRow q83 41 6 6).bind (fun q93 => (F_X7_passRow q93 42 6 6).bind (fun q103 => (F_X7_passRow q103 43 6 6).bind (fun q113 => (F_X7_passRow q113 44 4 4).bind (fun q122 => (F_X7_passRow q122 45 3 3).bind (fun q131 => (F_X7_passRow q131 46 8 8).bind (fun q141 => (F_X7_passRow q141 47 8 8).bind (fun q151 => (F_X7_passRow q151 48 8 8).bind (fun q161 => (F_X7_passRow q161 49 8 8).bind (fun q171 => some q171)))))))))))))))))
set_option maxRecDepth 100000 in
set_option maxHeartbeats 4000000 in
theorem t_X7_passAll_0 {lay : List ax_S} {J : ax_J} {I9 : ax_I} (hL : ax_LL B lay) (C : ax_C p R s m args meth c yX7_passAll cX7_passAll 1 none 6 E mc ms) : ∀ (I : ax_I), F_X7_passAll I = some I9 → AM p l e R s m args below meth c E B lay.length (ax_z lay) 1 none lay I9 J lay I J 0 [(0, .ref (B + 35))] [] := by
  obtain ⟨hx, hb, hr, hml, hown, hts, hlocks, hK, hfr, hlo, hmc, hms, hnm⟩ := id C
  have hown : s.vm.findClass RX7 = some m.cls := hown
  intro I h H locs cells slots ls hc hz hR hS hl
  unfold F_X7_passAll at h
  refine lv_aload_n hx hb dX7_passAll_0 rfl (lv_at hl 0 rfl) ?_
  refine lv_aload_n hx hb dX7_passAll_1 rfl (lv_at hl 0 rfl) ?_
  refine lv_aload_n hx hb dX7_passAll_2 rfl (lv_at hl 0 rfl) ?_
  refine ax_getI hx hb hts hown hK hR fl_X7_97 (lk_35 hL) rfl dX7_passAll_3 ?_
  obtain ⟨q6, hq, h⟩ := ax_bd h
  refine ax_cV (rest := [.ref (B + 35)]) (st1 := [.int q6.1, .ref (B + 35)]) C hc hz hS hR (M_X7_pass hL hq) yk_X7_pass in_X7_pass se_X7_pass ml_X7_313 (lk_35 hL) rfl rfl (by decide) rfl hl.1 (Nat.le_of_ble_eq_true rfl) rfl rfl dX7_passAll_6 (fun H locs hR hS => ?_)
  refine ax_putI hx hb hts hown hK hR hS fp_X7_97 (lk_35 hL) rfl rfl rfl dX7_passAll_9 (fun H locs hR hS => ?_)
  refine lv_aload_n hx hb dX7_passAll_12 rfl (lv_at hl 0 rfl) ?_
  refine lv_aload_n hx hb dX7_passAll_13 rfl (lv_at hl 0 rfl) ?_
  refine lv_aload_n hx hb dX7_passAll_14 rfl (lv_at hl 0 rfl) ?_
  refine ax_getI hx hb hts hown hK hR fl_X7_173 (lk_35 hL) rfl dX7_passAll_15 ?_
  obtain ⟨q18, hq, h⟩ := ax_bd h
  refine ax_cV (rest := [.ref (B + 35)]) (st1 := [.int q18.1, .ref (B + 35)]) C hc hz hS hR (M_X7_pass hL hq) yk_X7_pass in_X7_pass se_X7_pass ml_X7_313 (lk_35 hL) rfl rfl (by decide) rfl hl.1 (Nat.le_of_ble_eq_true rfl) rfl rfl dX7_passAll_18 (fun H locs hR hS => ?_)
  refine ax_putI hx hb hts hown hK hR hS fp_X7_173 (lk_35 hL) rfl rfl rfl dX7_passAll_21 (fun H locs hR hS => ?_)
  refine lv_aload_n hx hb dX7_passAll_24 rfl (lv_at hl 0 rfl) ?_
  refine lv_aload_n hx hb dX7_passAll_25 rfl (lv_at hl 0 rfl) ?_
  refine lv_aload_n hx hb dX7_passAll_26 rfl (lv_at hl 0 rfl) ?_
  refine ax_getI hx hb hts hown hK hR fl_X7_285 (lk_35 hL) rfl dX7_passAll_27 ?_
  obtain ⟨q30, hq, h⟩ := ax_bd h
  refine ax_cV (rest := [.ref (B + 35)]) (st1 := [.int q30.1, .ref (B + 35)]) C hc hz hS hR (M_X7_pass hL hq) yk_X7_pass in_X7_pass se_X7_pass ml_X7_313 (lk_35 hL) rfl rfl (by decide) rfl hl.1 (Nat.le_of_ble_eq_true rfl) rfl rfl dX7_passAll_30 (fun H locs hR hS => ?_)
  refine ax_putI hx hb hts hown hK hR hS fp_X7_285 (lk_35 hL) rfl rfl rfl dX7_passAll_33 (fun H locs hR hS => ?_)
  refine lv_aload_n hx hb dX7_passAll_36 rfl (lv_at hl 0 rfl) ?_
  refine lv_aload_n hx hb dX7_passAll_37 rfl (lv_at hl 0 rfl) ?_
  refine ax_getV hx hb hts hown hK hR fl_X7_7 (lk_35 hL) rfl dX7_passAll_38 ?_
  refine lv_bipush (v := 6) hx hb dX7_passAll_41 (by decide) ?_
  obtain ⟨q43, hq, h⟩ := ax_bd h
  refine ax_cV (rest := []) (st1 := []) C hc hz hS hR (M_X7_passRow hL (lk_36 hL) hq) yk_X7_passRow in_X7_passRow se_X7_passRow ml_X7_316 (lk_35 hL) rfl rfl (by decide) rfl hl.1 (Nat.le_of_ble_eq_true rfl) rfl rfl dX7_passAll_43 (fun H locs hR hS => ?_)
  refine lv_aload_n hx hb dX7_passAll_46 rfl (lv_at hl 0 rfl) ?_
  refine lv_aload_n hx hb dX7_passAll_47 rfl (lv_at hl 0 rfl) ?_
  refine ax_getV hx hb hts hown hK hR fl_X7_13 (lk_35 hL) rfl dX7_passAll_48 ?_
  refine lv_bipush (v := 6) hx hb dX7_passAll_51 (by decide) ?_
  obtain ⟨q53, hq, h⟩ := ax_bd h
  refine ax_cV (rest := []) (st1 := []) C hc hz hS hR (M_X7_passRow hL (lk_37 hL) hq) yk_X7_passRow in_X7_passRow se_X7_passRow ml_X7_316 (lk_35 hL) rfl rfl (by decide) rfl hl.1 (Nat.le_of_ble_eq_true rfl) rfl rfl dX7_passAll_53 (fun H locs hR hS => ?_)
  refine lv_aload_n hx hb dX7_passAll_56 rfl (lv_at hl 0 rfl) ?_
  refine lv_aload_n hx hb dX7_passAll_57 rfl (lv_at hl 0 rfl) ?_
  refine ax_getV hx hb hts hown hK hR fl_X7_16 (lk_35 hL) rfl dX7_passAll_58 ?_
  refine lv_bipush (v := 6) hx hb dX7_passAll_61 (by decide) ?_
  obtain ⟨q63, hq, h⟩ := ax_bd h
  refine ax_cV (rest := []) (st1 := []) C hc hz hS hR (M_X7_passRow hL (lk_38 hL) hq) yk_X7_passRow in_X7_passRow se_X7_passRow ml_X7_316 (lk_35 hL) rfl rfl (by decide) rfl hl.1 (Nat.le_of_ble_eq_true rfl) rfl rfl dX7_passAll_63 (fun H locs hR hS => ?_)
  refine lv_aload_n hx hb dX7_passAll_66 rfl (lv_at hl 0 rfl) ?_
  refine lv_aload_n hx hb dX7_passAll_67 rfl (lv_at hl 0 rfl) ?_
  refine ax_getV hx hb hts hown hK hR fl_X7_19 (lk_35 hL) rfl dX7_passAll_68 ?_
  refine lv_bipush (v := 6) hx hb dX7_passAll_71 (by decide) ?_
  obtain ⟨q73, hq, h⟩ := ax_bd h
  refine ax_cV (rest := []) (st1 := []) C hc hz hS hR (M_X7_passRow hL (lk_39 hL) hq) yk_X7_passRow in_X7_passRow se_X7_passRow ml_X7_316 (lk_35 hL) rfl rfl (by decide) rfl hl.1 (Nat.le_of_ble_eq_true rfl) rfl rfl dX7_passAll_73 (fun H locs hR hS => ?_)
  refine lv_aload_n hx hb dX7_passAll_76 rfl (lv_at hl 0 rfl) ?_
  refine lv_aload_n hx hb dX7_passAll_77 rfl (lv_at hl 0 rfl) ?_
  refine ax_getV hx hb hts hown hK hR fl_X7_22 (lk_35 hL) rfl dX7_passAll_78 ?_
  refine lv_bipush (v := 48) hx hb dX7_passAll_81 (by decide) ?_
  obtain ⟨q83, hq, h⟩ := ax_bd h
  refine ax_cV (rest := []) (st1 := []) C hc hz hS hR (M_X7_passRow hL (lk_40 hL) hq) yk_X7_passRow in_X7_passRow se_X7_passRow ml_X7_316 (lk_35 hL) rfl rfl (by decide) rfl hl.1 (Nat.le_of_ble_eq_true rfl) rfl rfl dX7_passAll_83 (fun H locs hR hS => ?_)
  refine lv_aload_n hx hb dX7_passAll_86 rfl (lv_at hl 0 rfl) ?_
  refine lv_aload_n hx hb dX7_passAll_87 rfl (lv_at hl 0 rfl) ?_
  refine ax_getV hx hb hts hown hK hR fl_X7_25 (lk_35 hL) rfl dX7_passAll_88 ?_
  refine lv_bipush (v := 6) hx hb dX7_passAll_91 (by decide) ?_
  obtain ⟨q93, hq, h⟩ := ax_bd h
  refine ax_cV (rest := []) (st1 := []) C hc hz hS hR (M_X7_passRow hL (lk_41 hL) hq) yk_X7_passRow in_X7_passRow se_X7_passRow ml_X7_316 (lk_35 hL) rfl rfl (by decide) rfl hl.1 (Nat.le_of_ble_eq_true rfl) rfl rfl dX7_passAll_93 (fun H locs hR hS => ?_)
  refine lv_aload_n hx hb dX7_passAll_96 rfl (lv_at hl 0 rfl) ?_
  refine lv_aload_n hx hb dX7_passAll_97 rfl (lv_at hl 0 rfl) ?_
  refine ax_getV hx hb hts hown hK hR fl_X7_28 (lk_35 hL) rfl dX7_passAll_98 ?_
  refine lv_bipush (v := 6) hx hb dX7_passAll_101 (by decide) ?_
  obtain ⟨q103, hq, h⟩ := ax_bd h
  refine ax_cV (rest := []) (st1 := []) C hc hz hS hR (M_X7_passRow hL (lk_42 hL) hq) yk_X7_passRow in_X7_passRow se_X7_passRow ml_X7_316 (lk_35 hL) rfl rfl (by decide) rfl hl.1 (Nat.le_of_ble_eq_true rfl) rfl rfl dX7_passAll_103 (fun H locs hR hS => ?_)
  refine lv_aload_n hx hb dX7_passAll_106 rfl (lv_at hl 0 rfl) ?_
  refine lv_aload_n hx hb dX7_passAll_107 rfl (lv_at hl 0 rfl) ?_
  refine ax_getV hx hb hts hown hK hR fl_X7_31 (lk_35 hL) rfl dX7_passAll_108 ?_
  refine lv_bipush (v := 6) hx hb dX7_passAll_111 (by decide) ?_
  obtain ⟨q113, hq, h⟩ := ax_bd h
  refine ax_cV (rest := []) (st1 := []) C hc hz hS hR (M_X7_passRow hL (lk_43 hL) hq) yk_X7_passRow in_X7_passRow se_X7_passRow ml_X7_316 (lk_35 hL) rfl rfl (by decide) rfl hl.1 (Nat.le_of_ble_eq_true rfl) rfl rfl dX7_passAll_113 (fun H locs hR hS => ?_)
  refine lv_aload_n hx hb dX7_passAll_116 rfl (lv_at hl 0 rfl) ?_
  refine lv_aload_n hx hb dX7_passAll_117 rfl (lv_at hl 0 rfl) ?_
  refine ax_getV hx hb hts hown hK hR fl_X7_34 (lk_35 hL) rfl dX7_passAll_118 ?_
  refine lv_iconst (v := 4) hx hb dX7_passAll_121 (by decide) ?_
  obtain ⟨q122, hq, h⟩ := ax_bd h
  refine ax_cV (rest := []) (st1 := []) C hc hz hS hR (M_X7_passRow hL (lk_44 hL) hq) yk_X7_passRow in_X7_passRow se_X7_passRow ml_X7_316 (lk_35 hL) rfl rfl (by decide) rfl hl.1 (Nat.le_of_ble_eq_true rfl) rfl rfl dX7_passAll_122 (fun H locs hR hS => ?_)
  refine lv_aload_n hx hb dX7_passAll_125 rfl (lv_at hl 0 rfl) ?_
  refine lv_aload_n hx hb dX7_passAll_126 rfl (lv_at hl 0 rfl) ?_
  refine ax_getV hx hb hts hown hK hR fl_X7_37 (lk_35 hL) rfl dX7_passAll_127 ?_
  refine lv_iconst (v := 3) hx hb dX7_passAll_130 (by decide) ?_
  obtain ⟨q131, hq, h⟩ := ax_bd h
  refine ax_cV (rest := []) (st1 := []) C hc hz hS hR (M_X7_passRow hL (lk_45 hL) hq) yk_X7_passRow in_X7_passRow se_X7_passRow ml_X7_316 (lk_35 hL) rfl rfl (by decide) rfl hl.1 (Nat.le_of_ble_eq_true rfl) rfl rfl dX7_passAll_131 (fun H locs hR hS => ?_)
  refine lv_aload_n hx hb dX7_passAll_134 rfl (lv_at hl 0 rfl) ?_
  refine lv_aload_n hx hb dX7_passAll_135 rfl (lv_at hl 0 rfl) ?_
  refine ax_getV hx hb hts hown hK hR fl_X7_40 (lk_35 hL) rfl dX7_passAll_136 ?_
  refine lv_bipush (v := 8) hx hb dX7_passAll_139 (by decide) ?_
  obtain ⟨q141, hq, h⟩ := ax_bd h
  refine ax_cV (rest := []) (st1 := []) C hc hz hS hR (M_X7_passRow hL (lk_46 hL) hq) yk_X7_passRow in_X7_passRow se_X7_passRow ml_X7_316 (lk_35 hL) rfl rfl (by decide) rfl hl.1 (Nat.le_of_ble_eq_true rfl) rfl rfl dX7_passAll_141 (fun H locs hR hS => ?_)
  refine lv_aload_n hx hb dX7_passAll_144 rfl (lv_at hl 0 rfl) ?_
  refine lv_aload_n hx hb dX7_passAll_145 rfl (lv_at hl 0 rfl) ?_
  refine ax_getV hx hb hts hown hK hR fl_X7_43 (lk_35 hL) rfl dX7_passAll_146 ?_
  refine lv_bipush (v := 8) hx hb dX7_passAll_149 (by decide) ?_
  obtain ⟨q151, hq, h⟩ := ax_bd h
  refine ax_cV (rest := []) (st1 := []) C hc hz hS hR (M_X7_passRow hL (lk_47 hL) hq) yk_X7_passRow in_X7_passRow se_X7_passRow ml_X7_316 (lk_35 hL) rfl rfl (by decide) rfl hl.1 (Nat.le_of_ble_eq_true rfl) rfl rfl dX7_passAll_151 (fun H locs hR hS => ?_)
  refine lv_aload_n hx hb dX7_passAll_154 rfl (lv_at hl 0 rfl) ?_
  refine lv_aload_n hx hb dX7_passAll_155 rfl (lv_at hl 0 rfl) ?_
  refine ax_getV hx hb hts hown hK hR fl_X7_46 (lk_35 hL) rfl dX7_passAll_156 ?_
  refine lv_bipush (v := 8) hx hb dX7_passAll_159 (by decide) ?_
  obtain ⟨q161, hq, h⟩ := ax_bd h
  refine ax_cV (rest := []) (st1 := []) C hc hz hS hR (M_X7_passRow hL (lk_48 hL) hq) yk_X7_passRow in_X7_passRow se_X7_passRow ml_X7_316 (lk_35 hL) rfl rfl (by decide) rfl hl.1 (Nat.le_of_ble_eq_true rfl) rfl rfl dX7_passAll_161 (fun H locs hR hS => ?_)
  refine lv_aload_n hx hb dX7_passAll_164 rfl (lv_at hl 0 rfl) ?_
  refine lv_aload_n hx hb dX7_passAll_165 rfl (lv_at hl 0 rfl) ?_
  refine ax_getV hx hb hts hown hK hR fl_X7_49 (lk_35 hL) rfl dX7_passAll_166 ?_
  refine lv_bipush (v := 8) hx hb dX7_passAll_169 (by decide) ?_
  obtain ⟨q171, hq, h⟩ := ax_bd h
  refine ax_cV (rest := []) (st1 := []) C hc hz hS hR (M_X7_passRow hL (lk_49 hL) hq) yk_X7_passRow in_X7_passRow se_X7_passRow ml_X7_316 (lk_35 hL) rfl rfl (by decide) rfl hl.1 (Nat.le_of_ble_eq_true rfl) rfl rfl dX7_passAll_171 (fun H locs hR hS => ?_)
  cases h
  exact ax_vret C hc hz hR hS dX7_passAll_174
theorem M_X7_passAll {l : Launch} {E : ax_E} {B : Nat} {lay : List ax_S} {I : ax_I} {J : ax_J} {I9 : ax_I} (hL : ax_LL B lay) (h : F_X7_passAll I = some I9) : Cm l yX7_passAll cX7_passAll 1 none 6 E B [.ref (B + 35)] lay I J none lay I9 J :=
  ax_met (by decide) (Nat.le_of_ble_eq_true rfl) (fun p e R s m args below meth c C => t_X7_passAll_0 hL C _ h)
def F_X7_image (I : ax_I) (x1 : Int32) : Option (Int32 × ax_I) :=
  (F_X7_in I ((x1 : Int32).toInt64) 0 1).bind (fun q4 => if q4 = 0 then some ((-2), I) else (F_X7_passAll (ax_u (ax_u I 35 36 (160 * x1)) 35 37 1)).bind (fun q28 => if ax_in x1 2 = true then some (1, (ax_u q28 60 x1.toNatClampNeg (vp_nar .boolean 1))) else none))
set_option maxRecDepth 100000 in
set_option maxHeartbeats 4000000 in
theorem t_X7_image_0 {lay : List ax_S} {J : ax_J} {rv : Int32} {I9 : ax_I} (hL : ax_LL B lay) (C : ax_C p R s m args meth c yX7_image cX7_image 2 (some .int) 8 E mc ms) : ∀ (I : ax_I) (x1 : Int32), F_X7_image I x1 = some (rv, I9) → AM p l e R s m args below meth c E B lay.length (ax_z lay) 2 (some (.int rv)) lay I9 J lay I J 0 [(0, .ref (B + 35)), (1, .int x1)] [] := by
  obtain ⟨hx, hb, hr, hml, hown, hts, hlocks, hK, hfr, hlo, hmc, hms, hnm⟩ := id C
  have hown : s.vm.findClass RX7 = some m.cls := hown
  intro I x1 h H locs cells slots ls hc hz hR hS hl
  unfold F_X7_image at h
  refine lv_iload_n hx hb dX7_image_0 rfl (lv_at hl 1 rfl) ?_
  refine lv_i2l hx hb dX7_image_1 rfl ?_
  refine lv_lconst (v := 0) hx hb dX7_image_2 (by decide) ?_
  refine lv_lconst (v := 1) hx hb dX7_image_3 (by decide) ?_
  obtain ⟨q4, hq, h⟩ := ax_bd h
  refine ax_cS (rest := []) (st1 := [.int q4]) C hc hz hS hR (M_X7_in  hq) yk_X7_in st_X7_in ml_X7_89 (by decide) rfl hl.1 (Nat.le_of_ble_eq_true rfl) rfl rfl dX7_image_4 (fun H locs hR hS => ?_)
  refine lv_if_ne (tgt := 13) hx hb dX7_image_7 (by decide) (fun q => ?_) (fun q => ?_)
  · have h := ax_iN q h
    refine lv_aload_n hx hb dX7_image_13 rfl (lv_at hl 0 rfl) ?_
    refine lv_sipush (v := 160) hx hb dX7_image_14 (by decide) ?_
    refine lv_iload_n hx hb dX7_image_17 rfl (lv_at hl 1 rfl) ?_
    refine lv_imul hx hb dX7_image_18 ?_
    refine ax_putI hx hb hts hown hK hR hS fp_X7_310 (lk_35 hL) rfl rfl rfl dX7_image_19 (fun H locs hR hS => ?_)
    refine lv_aload_n hx hb dX7_image_22 rfl (lv_at hl 0 rfl) ?_
    refine lv_iconst (v := 1) hx hb dX7_image_23 (by decide) ?_
    refine ax_putI hx hb hts hown hK hR hS fp_X7_306 (lk_35 hL) rfl rfl rfl dX7_image_24 (fun H locs hR hS => ?_)
    refine lv_aload_n hx hb dX7_image_27 rfl (lv_at hl 0 rfl) ?_
    obtain ⟨q28, hq, h⟩ := ax_bd h
    refine ax_cV (rest := []) (st1 := []) C hc hz hS hR (M_X7_passAll hL hq) yk_X7_passAll in_X7_passAll se_X7_passAll ml_X7_320 (lk_35 hL) rfl rfl (by decide) rfl hl.1 (Nat.le_of_ble_eq_true rfl) rfl rfl dX7_image_28 (fun H locs hR hS => ?_)
    refine lv_aload_n hx hb dX7_image_31 rfl (lv_at hl 0 rfl) ?_
    refine ax_getV hx hb hts hown hK hR fl_X7_83 (lk_35 hL) rfl dX7_image_32 ?_
    refine lv_iload_n hx hb dX7_image_35 rfl (lv_at hl 1 rfl) ?_
    refine lv_iconst (v := 1) hx hb dX7_image_36 (by decide) ?_
    obtain ⟨hq, h⟩ := ax_ck h
    refine ax_zast hx hb hK hR hS (lk_60 hL) hq dX7_image_37 (fun H locs hR hS => ?_)
    refine lv_iconst (v := 1) hx hb dX7_image_38 (by decide) ?_
    cases h
    exact ax_iret C hc hz hR hS rfl rfl dX7_image_39
  · have h := ax_ip q h
    refine lv_bipush (v := (-2)) hx hb dX7_image_10 (by decide) ?_
    cases h
    exact ax_iret C hc hz hR hS rfl rfl dX7_image_12
theorem M_X7_image {l : Launch} {E : ax_E} {B : Nat} {lay : List ax_S} {I : ax_I} {J : ax_J} {x1 : Int32} {rv : Int32} {I9 : ax_I} (hL : ax_LL B lay) (h : F_X7_image I x1 = some (rv, I9)) : Cm l yX7_image cX7_image 2 (some .int) 8 E B [.ref (B + 35), .int x1] lay I J (some (.int rv)) lay I9 J :=
  ax_met (by decide) (Nat.le_of_ble_eq_true rfl) (fun p e R s m args below meth c C => t_X7_image_0 hL C _ _ h)
def F_X7_restore (I : ax_I) (x1 : Int32) : Option (Int32 × ax_I) :=
  (F_X7_in I ((x1 : Int32).toInt64) 0 1).bind (fun q4 => if q4 = 0 then some ((-2), I) else if ax_in x1 2 = true then if (I 60 x1.toNatClampNeg) = 0 then some ((-3), I) else (F_X7_passAll (ax_u (ax_u I 35 36 (160 * x1)) 35 37 0)).bind (fun q40 => some (1, q40)) else none)
set_option maxRecDepth 100000 in
set_option maxHeartbeats 4000000 in
theorem t_X7_restore_0 {lay : List ax_S} {J : ax_J} {rv : Int32} {I9 : ax_I} (hL : ax_LL B lay) (C : ax_C p R s m args meth c yX7_restore cX7_restore 2 (some .int) 8 E mc ms) : ∀ (I : ax_I) (x1 : Int32), F_X7_restore I x1 = some (rv, I9) → AM p l e R s m args below meth c E B lay.length (ax_z lay) 2 (some (.int rv)) lay I9 J lay I J 0 [(0, .ref (B + 35)), (1, .int x1)] [] := by
  obtain ⟨hx, hb, hr, hml, hown, hts, hlocks, hK, hfr, hlo, hmc, hms, hnm⟩ := id C
  have hown : s.vm.findClass RX7 = some m.cls := hown
  intro I x1 h H locs cells slots ls hc hz hR hS hl
  unfold F_X7_restore at h
  refine lv_iload_n hx hb dX7_restore_0 rfl (lv_at hl 1 rfl) ?_
  refine lv_i2l hx hb dX7_restore_1 rfl ?_
  refine lv_lconst (v := 0) hx hb dX7_restore_2 (by decide) ?_
  refine lv_lconst (v := 1) hx hb dX7_restore_3 (by decide) ?_
  obtain ⟨q4, hq, h⟩ := ax_bd h
  refine ax_cS (rest := []) (st1 := [.int q4]) C hc hz hS hR (M_X7_in  hq) yk_X7_in st_X7_in ml_X7_89 (by decide) rfl hl.1 (Nat.le_of_ble_eq_true rfl) rfl rfl dX7_restore_4 (fun H locs hR hS => ?_)
  refine lv_if_ne (tgt := 13) hx hb dX7_restore_7 (by decide) (fun q => ?_) (fun q => ?_)
  · have h := ax_iN q h
    refine lv_aload_n hx hb dX7_restore_13 rfl (lv_at hl 0 rfl) ?_
    refine ax_getV hx hb hts hown hK hR fl_X7_83 (lk_35 hL) rfl dX7_restore_14 ?_
    refine lv_iload_n hx hb dX7_restore_17 rfl (lv_at hl 1 rfl) ?_
    obtain ⟨hq, h⟩ := ax_ck h
    refine ax_zald hx hb hK hR (lk_60 hL) hq dX7_restore_18 ?_
    refine lv_if_ne (tgt := 25) hx hb dX7_restore_19 (by decide) (fun q => ?_) (fun q => ?_)
    · have h := ax_iN q h
      refine lv_aload_n hx hb dX7_restore_25 rfl (lv_at hl 0 rfl) ?_
      refine lv_sipush (v := 160) hx hb dX7_restore_26 (by decide) ?_
      refine lv_iload_n hx hb dX7_restore_29 rfl (lv_at hl 1 rfl) ?_
      refine lv_imul hx hb dX7_restore_30 ?_
      refine ax_putI hx hb hts hown hK hR hS fp_X7_310 (lk_35 hL) rfl rfl rfl dX7_restore_31 (fun H locs hR hS => ?_)
      refine lv_aload_n hx hb dX7_restore_34 rfl (lv_at hl 0 rfl) ?_
      refine lv_iconst (v := 0) hx hb dX7_restore_35 (by decide) ?_
      refine ax_putI hx hb hts hown hK hR hS fp_X7_306 (lk_35 hL) rfl rfl rfl dX7_restore_36 (fun H locs hR hS => ?_)
      refine lv_aload_n hx hb dX7_restore_39 rfl (lv_at hl 0 rfl) ?_
      obtain ⟨q40, hq, h⟩ := ax_bd h
      refine ax_cV (rest := []) (st1 := []) C hc hz hS hR (M_X7_passAll hL hq) yk_X7_passAll in_X7_passAll se_X7_passAll ml_X7_320 (lk_35 hL) rfl rfl (by decide) rfl hl.1 (Nat.le_of_ble_eq_true rfl) rfl rfl dX7_restore_40 (fun H locs hR hS => ?_)
      refine lv_iconst (v := 1) hx hb dX7_restore_43 (by decide) ?_
      cases h
      exact ax_iret C hc hz hR hS rfl rfl dX7_restore_44
    · have h := ax_ip q h
      refine lv_bipush (v := (-3)) hx hb dX7_restore_22 (by decide) ?_
      cases h
      exact ax_iret C hc hz hR hS rfl rfl dX7_restore_24
  · have h := ax_ip q h
    refine lv_bipush (v := (-2)) hx hb dX7_restore_10 (by decide) ?_
    cases h
    exact ax_iret C hc hz hR hS rfl rfl dX7_restore_12
theorem M_X7_restore {l : Launch} {E : ax_E} {B : Nat} {lay : List ax_S} {I : ax_I} {J : ax_J} {x1 : Int32} {rv : Int32} {I9 : ax_I} (hL : ax_LL B lay) (h : F_X7_restore I x1 = some (rv, I9)) : Cm l yX7_restore cX7_restore 2 (some .int) 8 E B [.ref (B + 35), .int x1] lay I J (some (.int rv)) lay I9 J :=
  ax_met (by decide) (Nat.le_of_ble_eq_true rfl) (fun p e R s m args below meth c C => t_X7_restore_0 hL C _ _ h)
def F_X7_toldOf (I : ax_I) (x1 : Int32) (x2 : Int32) : Option Int32 :=
  (F_X7_in I ((x2 : Int32).toInt64) 10 17).bind (fun q8 => if q8 = 0 then (if x2 = 0 then (if ax_in x1 6 = true then some (I 36 x1.toNatClampNeg) else none) else if x2 = 1 then (if ax_in x1 6 = true then some (I 37 x1.toNatClampNeg) else none) else if x2 = 2 then (if ax_in x1 6 = true then some (I 38 x1.toNatClampNeg) else none) else if x2 = 3 then (if ax_in x1 6 = true then some (I 39 x1.toNatClampNeg) else none) else if x2 = 4 then (if ax_in x1 6 = true then some (I 41 x1.toNatClampNeg) else none) else if x2 = 5 then (if ax_in x1 6 = true then some (I 42 x1.toNatClampNeg) else none) else if x2 = 6 then (if ax_in x1 6 = true then some (I 43 x1.toNatClampNeg) else none) else some (-2)) else if ax_in (((8 * x1) + x2) - 10) 48 = true then some (I 40 (((8 * x1) + x2) - 10).toNatClampNeg) else none)
set_option maxRecDepth 100000 in
set_option maxHeartbeats 4000000 in
theorem t_X7_toldOf_0 {lay : List ax_S} {J : ax_J} {rv : Int32} (hL : ax_LL B lay) (C : ax_C p R s m args meth c yX7_toldOf cX7_toldOf 3 (some .int) 4 E mc ms) : ∀ (I : ax_I) (x1 : Int32) (x2 : Int32), F_X7_toldOf I x1 x2 = some rv → AM p l e R s m args below meth c E B lay.length (ax_z lay) 3 (some (.int rv)) lay I J lay I J 0 [(0, .ref (B + 35)), (1, .int x1), (2, .int x2)] [] := by
  obtain ⟨hx, hb, hr, hml, hown, hts, hlocks, hK, hfr, hlo, hmc, hms, hnm⟩ := id C
  have hown : s.vm.findClass RX7 = some m.cls := hown
  intro I x1 x2 h H locs cells slots ls hc hz hR hS hl
  unfold F_X7_toldOf at h
  refine lv_iload_n hx hb dX7_toldOf_0 rfl (lv_at hl 2 rfl) ?_
  refine lv_i2l hx hb dX7_toldOf_1 rfl ?_
  refine lv_ldc2 hx hb hown (hts _ ct_X7_235) dX7_toldOf_2 ?_
  refine lv_ldc2 hx hb hown (hts _ ct_X7_323) dX7_toldOf_5 ?_
  obtain ⟨q8, hq, h⟩ := ax_bd h
  refine ax_cS (rest := []) (st1 := [.int q8]) C hc hz hS hR (M_X7_in  hq) yk_X7_in st_X7_in ml_X7_89 (by decide) rfl hl.1 (Nat.le_of_ble_eq_true rfl) rfl rfl dX7_toldOf_8 (fun H locs hR hS => ?_)
  refine lv_if_eq (tgt := 29) hx hb dX7_toldOf_11 (by decide) (fun q => ?_) (fun q => ?_)
  · have h := ax_ip q h
    refine lv_iload_n hx hb dX7_toldOf_29 rfl (lv_at hl 2 rfl) ?_
    by_cases q0 : x2 = 0
    · have h := ax_ip q0 h
      refine lv_tableIn (off := 42) (tgt := 72) hx hb dX7_toldOf_30 (by rw [q0]; decide) (by rw [q0]; decide) (by rw [q0]; rfl) (by decide) ?_
      refine lv_aload_n hx hb dX7_toldOf_72 rfl (lv_at hl 0 rfl) ?_
      refine ax_getV hx hb hts hown hK hR fl_X7_7 (lk_35 hL) rfl dX7_toldOf_73 ?_
      refine lv_iload_n hx hb dX7_toldOf_76 rfl (lv_at hl 1 rfl) ?_
      obtain ⟨hq, h⟩ := ax_ck h
      refine ax_iald hx hb hK hR (lk_36 hL) hq dX7_toldOf_77 ?_
      cases h
      exact ax_iret C hc hz hR hS rfl rfl dX7_toldOf_78
    · have h := ax_iN q0 h
      by_cases q1 : x2 = 1
      · have h := ax_ip q1 h
        refine lv_tableIn (off := 49) (tgt := 79) hx hb dX7_toldOf_30 (by rw [q1]; decide) (by rw [q1]; decide) (by rw [q1]; rfl) (by decide) ?_
        refine lv_aload_n hx hb dX7_toldOf_79 rfl (lv_at hl 0 rfl) ?_
        refine ax_getV hx hb hts hown hK hR fl_X7_13 (lk_35 hL) rfl dX7_toldOf_80 ?_
        refine lv_iload_n hx hb dX7_toldOf_83 rfl (lv_at hl 1 rfl) ?_
        obtain ⟨hq, h⟩ := ax_ck h
        refine ax_iald hx hb hK hR (lk_37 hL) hq dX7_toldOf_84 ?_
        cases h
        exact ax_iret C hc hz hR hS rfl rfl dX7_toldOf_85
      · have h := ax_iN q1 h
        by_cases q2 : x2 = 2
        · have h := ax_ip q2 h
          refine lv_tableIn (off := 56) (tgt := 86) hx hb dX7_toldOf_30 (by rw [q2]; decide) (by rw [q2]; decide) (by rw [q2]; rfl) (by decide) ?_
          refine lv_aload_n hx hb dX7_toldOf_86 rfl (lv_at hl 0 rfl) ?_
          refine ax_getV hx hb hts hown hK hR fl_X7_16 (lk_35 hL) rfl dX7_toldOf_87 ?_
          refine lv_iload_n hx hb dX7_toldOf_90 rfl (lv_at hl 1 rfl) ?_
          obtain ⟨hq, h⟩ := ax_ck h
          refine ax_iald hx hb hK hR (lk_38 hL) hq dX7_toldOf_91 ?_
          cases h
          exact ax_iret C hc hz hR hS rfl rfl dX7_toldOf_92
        · have h := ax_iN q2 h
          by_cases q3 : x2 = 3
          · have h := ax_ip q3 h
            refine lv_tableIn (off := 63) (tgt := 93) hx hb dX7_toldOf_30 (by rw [q3]; decide) (by rw [q3]; decide) (by rw [q3]; rfl) (by decide) ?_
            refine lv_aload_n hx hb dX7_toldOf_93 rfl (lv_at hl 0 rfl) ?_
            refine ax_getV hx hb hts hown hK hR fl_X7_19 (lk_35 hL) rfl dX7_toldOf_94 ?_
            refine lv_iload_n hx hb dX7_toldOf_97 rfl (lv_at hl 1 rfl) ?_
            obtain ⟨hq, h⟩ := ax_ck h
            refine ax_iald hx hb hK hR (lk_39 hL) hq dX7_toldOf_98 ?_
            cases h
            exact ax_iret C hc hz hR hS rfl rfl dX7_toldOf_99
          · have h := ax_iN q3 h
            by_cases q4 : x2 = 4
            · have h := ax_ip q4 h
              refine lv_tableIn (off := 70) (tgt := 100) hx hb dX7_toldOf_30 (by rw [q4]; decide) (by rw [q4]; decide) (by rw [q4]; rfl) (by decide) ?_
              refine lv_aload_n hx hb dX7_toldOf_100 rfl (lv_at hl 0 rfl) ?_
              refine ax_getV hx hb hts hown hK hR fl_X7_25 (lk_35 hL) rfl dX7_toldOf_101 ?_
              refine lv_iload_n hx hb dX7_toldOf_104 rfl (lv_at hl 1 rfl) ?_
              obtain ⟨hq, h⟩ := ax_ck h
              refine ax_iald hx hb hK hR (lk_41 hL) hq dX7_toldOf_105 ?_
              cases h
              exact ax_iret C hc hz hR hS rfl rfl dX7_toldOf_106
            · have h := ax_iN q4 h
              by_cases q5 : x2 = 5
              · have h := ax_ip q5 h
                refine lv_tableIn (off := 77) (tgt := 107) hx hb dX7_toldOf_30 (by rw [q5]; decide) (by rw [q5]; decide) (by rw [q5]; rfl) (by decide) ?_
                refine lv_aload_n hx hb dX7_toldOf_107 rfl (lv_at hl 0 rfl) ?_
                refine ax_getV hx hb hts hown hK hR fl_X7_28 (lk_35 hL) rfl dX7_toldOf_108 ?_
                refine lv_iload_n hx hb dX7_toldOf_111 rfl (lv_at hl 1 rfl) ?_
                obtain ⟨hq, h⟩ := ax_ck h
                refine ax_iald hx hb hK hR (lk_42 hL) hq dX7_toldOf_112 ?_
                cases h
                exact ax_iret C hc hz hR hS rfl rfl dX7_toldOf_113
              · have h := ax_iN q5 h
                by_cases q6 : x2 = 6
                · have h := ax_ip q6 h
                  refine lv_tableIn (off := 84) (tgt := 114) hx hb dX7_toldOf_30 (by rw [q6]; decide) (by rw [q6]; decide) (by rw [q6]; rfl) (by decide) ?_
                  refine lv_aload_n hx hb dX7_toldOf_114 rfl (lv_at hl 0 rfl) ?_
                  refine ax_getV hx hb hts hown hK hR fl_X7_31 (lk_35 hL) rfl dX7_toldOf_115 ?_
                  refine lv_iload_n hx hb dX7_toldOf_118 rfl (lv_at hl 1 rfl) ?_
                  obtain ⟨hq, h⟩ := ax_ck h
                  refine ax_iald hx hb hK hR (lk_43 hL) hq dX7_toldOf_119 ?_
                  cases h
                  exact ax_iret C hc hz hR hS rfl rfl dX7_toldOf_120
                · have h := ax_iN q6 h
                  have e0 := ax_nt (z := 0) q0 (by decide)
                  have e1 := ax_nt (z := 1) q1 (by decide)
                  have e2 := ax_nt (z := 2) q2 (by decide)
                  have e3 := ax_nt (z := 3) q3 (by decide)
                  have e4 := ax_nt (z := 4) q4 (by decide)
                  have e5 := ax_nt (z := 5) q5 (by decide)
                  have e6 := ax_nt (z := 6) q6 (by decide)
                  refine lv_tableOut (tgt := 121) hx hb dX7_toldOf_30 (by omega) (by decide) ?_
                  refine lv_bipush (v := (-2)) hx hb dX7_toldOf_121 (by decide) ?_
                  cases h
                  exact ax_iret C hc hz hR hS rfl rfl dX7_toldOf_123
  · have h := ax_iN q h
    refine lv_aload_n hx hb dX7_toldOf_14 rfl (lv_at hl 0 rfl) ?_
    refine ax_getV hx hb hts hown hK hR fl_X7_22 (lk_35 hL) rfl dX7_toldOf_15 ?_
    refine lv_bipush (v := 8) hx hb dX7_toldOf_18 (by decide) ?_
    refine lv_iload_n hx hb dX7_toldOf_20 rfl (lv_at hl 1 rfl) ?_
    refine lv_imul hx hb dX7_toldOf_21 ?_
    refine lv_iload_n hx hb dX7_toldOf_22 rfl (lv_at hl 2 rfl) ?_
    refine lv_iadd hx hb dX7_toldOf_23 ?_
    refine lv_bipush (v := 10) hx hb dX7_toldOf_24 (by decide) ?_
    refine lv_isub hx hb dX7_toldOf_26 ?_
    obtain ⟨hq, h⟩ := ax_ck h
    refine ax_iald hx hb hK hR (lk_40 hL) hq dX7_toldOf_27 ?_
    cases h
    exact ax_iret C hc hz hR hS rfl rfl dX7_toldOf_28
theorem M_X7_toldOf {l : Launch} {E : ax_E} {B : Nat} {lay : List ax_S} {I : ax_I} {J : ax_J} {x1 : Int32} {x2 : Int32} {rv : Int32} (hL : ax_LL B lay) (h : F_X7_toldOf I x1 x2 = some rv) : Cm l yX7_toldOf cX7_toldOf 3 (some .int) 4 E B [.ref (B + 35), .int x1, .int x2] lay I J (some (.int rv)) lay I J :=
  ax_met (by decide) (Nat.le_of_ble_eq_true rfl) (fun p e R s m args below meth c C => t_X7_toldOf_0 hL C _ _ _ h)
def F_X7_told (I : ax_I) (x1 : Int32) : Option Int32 :=
  (F_X7_in I ((x1 : Int32).toInt64) 50 349).bind (fun q8 => if q8 = 0 then (F_X7_in I ((x1 : Int32).toInt64) 20 27).bind (fun q52 => if q52 = 0 then (F_X7_in I ((x1 : Int32).toInt64) 10 13).bind (fun q76 => if q76 = 0 then (F_X7_in I ((x1 : Int32).toInt64) 2 4).bind (fun q100 => if q100 = 0 then (if x1 = 0 then some (I 35 18) else if x1 = 1 then some (I 35 0) else if x1 = 5 then some (I 35 1) else if x1 = 6 then some (I 35 16) else some (-2)) else if ax_in (x1 - 2) 3 = true then some (I 45 (x1 - 2).toNatClampNeg) else none) else if ax_in (x1 - 10) 4 = true then some (I 44 (x1 - 10).toNatClampNeg) else none) else if ax_in (x1 - 20) 8 = true then some (I 46 (x1 - 20).toNatClampNeg) else none) else (F_X7_isChild I ((x1 / 50) - 1)).bind (fun q23 => if q23 = 0 then some (-2) else (F_X7_toldOf I ((x1 / 50) - 1) (x1 - x1 / 50 * 50)).bind (fun q35 => some q35)))
set_option maxRecDepth 100000 in
set_option maxHeartbeats 4000000 in
theorem t_X7_told_0 {lay : List ax_S} {J : ax_J} {rv : Int32} (hL : ax_LL B lay) (C : ax_C p R s m args meth c yX7_told cX7_told 3 (some .int) 8 E mc ms) : ∀ (I : ax_I) (x1 : Int32), F_X7_told I x1 = some rv → AM p l e R s m args below meth c E B lay.length (ax_z lay) 3 (some (.int rv)) lay I J lay I J 0 [(0, .ref (B + 35)), (1, .int x1)] [] := by
  obtain ⟨hx, hb, hr, hml, hown, hts, hlocks, hK, hfr, hlo, hmc, hms, hnm⟩ := id C
  have hown : s.vm.findClass RX7 = some m.cls := hown
  intro I x1 h H locs cells slots ls hc hz hR hS hl
  unfold F_X7_told at h
  refine lv_iload_n hx hb dX7_told_0 rfl (lv_at hl 1 rfl) ?_
  refine lv_i2l hx hb dX7_told_1 rfl ?_
  refine lv_ldc2 hx hb hown (hts _ ct_X7_325) dX7_told_2 ?_
  refine lv_ldc2 hx hb hown (hts _ ct_X7_327) dX7_told_5 ?_
  obtain ⟨q8, hq, h⟩ := ax_bd h
  refine ax_cS (rest := []) (st1 := [.int q8]) C hc hz hS hR (M_X7_in  hq) yk_X7_in st_X7_in ml_X7_89 (by decide) rfl hl.1 (Nat.le_of_ble_eq_true rfl) rfl rfl dX7_told_8 (fun H locs hR hS => ?_)
  refine lv_if_eq (tgt := 44) hx hb dX7_told_11 (by decide) (fun q => ?_) (fun q => ?_)
  · have h := ax_ip q h
    refine lv_iload_n hx hb dX7_told_44 rfl (lv_at hl 1 rfl) ?_
    refine lv_i2l hx hb dX7_told_45 rfl ?_
    refine lv_ldc2 hx hb hown (hts _ ct_X7_332) dX7_told_46 ?_
    refine lv_ldc2 hx hb hown (hts _ ct_X7_334) dX7_told_49 ?_
    obtain ⟨q52, hq, h⟩ := ax_bd h
    refine ax_cS (rest := []) (st1 := [.int q52]) C hc hz hS hR (M_X7_in  hq) yk_X7_in st_X7_in ml_X7_89 (by decide) rfl hl.1 (Nat.le_of_ble_eq_true rfl) rfl rfl dX7_told_52 (fun H locs hR hS => ?_)
    refine lv_if_eq (tgt := 68) hx hb dX7_told_55 (by decide) (fun q => ?_) (fun q => ?_)
    · have h := ax_ip q h
      refine lv_iload_n hx hb dX7_told_68 rfl (lv_at hl 1 rfl) ?_
      refine lv_i2l hx hb dX7_told_69 rfl ?_
      refine lv_ldc2 hx hb hown (hts _ ct_X7_235) dX7_told_70 ?_
      refine lv_ldc2 hx hb hown (hts _ ct_X7_336) dX7_told_73 ?_
      obtain ⟨q76, hq, h⟩ := ax_bd h
      refine ax_cS (rest := []) (st1 := [.int q76]) C hc hz hS hR (M_X7_in  hq) yk_X7_in st_X7_in ml_X7_89 (by decide) rfl hl.1 (Nat.le_of_ble_eq_true rfl) rfl rfl dX7_told_76 (fun H locs hR hS => ?_)
      refine lv_if_eq (tgt := 92) hx hb dX7_told_79 (by decide) (fun q => ?_) (fun q => ?_)
      · have h := ax_ip q h
        refine lv_iload_n hx hb dX7_told_92 rfl (lv_at hl 1 rfl) ?_
        refine lv_i2l hx hb dX7_told_93 rfl ?_
        refine lv_ldc2 hx hb hown (hts _ ct_X7_116) dX7_told_94 ?_
        refine lv_ldc2 hx hb hown (hts _ ct_X7_230) dX7_told_97 ?_
        obtain ⟨q100, hq, h⟩ := ax_bd h
        refine ax_cS (rest := []) (st1 := [.int q100]) C hc hz hS hR (M_X7_in  hq) yk_X7_in st_X7_in ml_X7_89 (by decide) rfl hl.1 (Nat.le_of_ble_eq_true rfl) rfl rfl dX7_told_100 (fun H locs hR hS => ?_)
        refine lv_if_eq (tgt := 115) hx hb dX7_told_103 (by decide) (fun q => ?_) (fun q => ?_)
        · have h := ax_ip q h
          refine lv_iload_n hx hb dX7_told_115 rfl (lv_at hl 1 rfl) ?_
          refine lv_if_ne (tgt := 126) hx hb dX7_told_116 (by decide) (fun q => ?_) (fun q => ?_)
          · have h := ax_iN q h
            refine lv_iload_n hx hb dX7_told_126 rfl (lv_at hl 1 rfl) ?_
            refine lv_iconst (v := 1) hx hb dX7_told_127 (by decide) ?_
            refine lv_icmp_ne (tgt := 138) hx hb dX7_told_128 (by decide) (fun q => ?_) (fun q => ?_)
            · have h := ax_iN q h
              refine lv_iload_n hx hb dX7_told_138 rfl (lv_at hl 1 rfl) ?_
              refine lv_iconst (v := 5) hx hb dX7_told_139 (by decide) ?_
              refine lv_icmp_ne (tgt := 150) hx hb dX7_told_140 (by decide) (fun q => ?_) (fun q => ?_)
              · have h := ax_iN q h
                refine lv_iload_n hx hb dX7_told_150 rfl (lv_at hl 1 rfl) ?_
                refine lv_bipush (v := 6) hx hb dX7_told_151 (by decide) ?_
                refine lv_icmp_ne (tgt := 163) hx hb dX7_told_153 (by decide) (fun q => ?_) (fun q => ?_)
                · have h := ax_iN q h
                  refine lv_bipush (v := (-2)) hx hb dX7_told_163 (by decide) ?_
                  cases h
                  exact ax_iret C hc hz hR hS rfl rfl dX7_told_165
                · have h := ax_ip q h
                  refine lv_aload_n hx hb dX7_told_156 rfl (lv_at hl 0 rfl) ?_
                  refine ax_getI hx hb hts hown hK hR fl_X7_285 (lk_35 hL) rfl dX7_told_157 ?_
                  refine lv_goto (tgt := 165) hx hb dX7_told_160 (by decide) ?_
                  cases h
                  exact ax_iret C hc hz hR hS rfl rfl dX7_told_165
              · have h := ax_ip q h
                refine lv_aload_n hx hb dX7_told_143 rfl (lv_at hl 0 rfl) ?_
                refine ax_getI hx hb hts hown hK hR fl_X7_173 (lk_35 hL) rfl dX7_told_144 ?_
                refine lv_goto (tgt := 165) hx hb dX7_told_147 (by decide) ?_
                cases h
                exact ax_iret C hc hz hR hS rfl rfl dX7_told_165
            · have h := ax_ip q h
              refine lv_aload_n hx hb dX7_told_131 rfl (lv_at hl 0 rfl) ?_
              refine ax_getI hx hb hts hown hK hR fl_X7_97 (lk_35 hL) rfl dX7_told_132 ?_
              refine lv_goto (tgt := 165) hx hb dX7_told_135 (by decide) ?_
              cases h
              exact ax_iret C hc hz hR hS rfl rfl dX7_told_165
          · have h := ax_ip q h
            refine lv_aload_n hx hb dX7_told_119 rfl (lv_at hl 0 rfl) ?_
            refine ax_getI hx hb hts hown hK hR fl_X7_135 (lk_35 hL) rfl dX7_told_120 ?_
            refine lv_goto (tgt := 165) hx hb dX7_told_123 (by decide) ?_
            cases h
            exact ax_iret C hc hz hR hS rfl rfl dX7_told_165
        · have h := ax_iN q h
          refine lv_aload_n hx hb dX7_told_106 rfl (lv_at hl 0 rfl) ?_
          refine ax_getV hx hb hts hown hK hR fl_X7_37 (lk_35 hL) rfl dX7_told_107 ?_
          refine lv_iload_n hx hb dX7_told_110 rfl (lv_at hl 1 rfl) ?_
          refine lv_iconst (v := 2) hx hb dX7_told_111 (by decide) ?_
          refine lv_isub hx hb dX7_told_112 ?_
          obtain ⟨hq, h⟩ := ax_ck h
          refine ax_iald hx hb hK hR (lk_45 hL) hq dX7_told_113 ?_
          cases h
          exact ax_iret C hc hz hR hS rfl rfl dX7_told_114
      · have h := ax_iN q h
        refine lv_aload_n hx hb dX7_told_82 rfl (lv_at hl 0 rfl) ?_
        refine ax_getV hx hb hts hown hK hR fl_X7_34 (lk_35 hL) rfl dX7_told_83 ?_
        refine lv_iload_n hx hb dX7_told_86 rfl (lv_at hl 1 rfl) ?_
        refine lv_bipush (v := 10) hx hb dX7_told_87 (by decide) ?_
        refine lv_isub hx hb dX7_told_89 ?_
        obtain ⟨hq, h⟩ := ax_ck h
        refine ax_iald hx hb hK hR (lk_44 hL) hq dX7_told_90 ?_
        cases h
        exact ax_iret C hc hz hR hS rfl rfl dX7_told_91
    · have h := ax_iN q h
      refine lv_aload_n hx hb dX7_told_58 rfl (lv_at hl 0 rfl) ?_
      refine ax_getV hx hb hts hown hK hR fl_X7_40 (lk_35 hL) rfl dX7_told_59 ?_
      refine lv_iload_n hx hb dX7_told_62 rfl (lv_at hl 1 rfl) ?_
      refine lv_bipush (v := 20) hx hb dX7_told_63 (by decide) ?_
      refine lv_isub hx hb dX7_told_65 ?_
      obtain ⟨hq, h⟩ := ax_ck h
      refine ax_iald hx hb hK hR (lk_46 hL) hq dX7_told_66 ?_
      cases h
      exact ax_iret C hc hz hR hS rfl rfl dX7_told_67
  · have h := ax_iN q h
    refine lv_iload_n hx hb dX7_told_14 rfl (lv_at hl 1 rfl) ?_
    refine lv_bipush (v := 50) hx hb dX7_told_15 (by decide) ?_
    refine lv_idiv hx hb dX7_told_17 (by decide) ?_
    refine lv_iconst (v := 1) hx hb dX7_told_18 (by decide) ?_
    refine lv_isub hx hb dX7_told_19 ?_
    refine lv_istore_n (lv' := [(2, .int ((x1 / 50) - 1)), (0, .ref (B + 35)), (1, .int x1)]) hx hb dX7_told_20 rfl hl (by decide) rfl (fun ls hl => ?_)
    refine lv_aload_n hx hb dX7_told_21 rfl (lv_at hl 1 rfl) ?_
    refine lv_iload_n hx hb dX7_told_22 rfl (lv_at hl 0 rfl) ?_
    obtain ⟨q23, hq, h⟩ := ax_bd h
    refine ax_cV (rest := []) (st1 := [.int q23]) C hc hz hS hR (M_X7_isChild hL hq) yk_X7_isChild in_X7_isChild se_X7_isChild ml_X7_113 (lk_35 hL) rfl rfl (by decide) rfl hl.1 (Nat.le_of_ble_eq_true rfl) rfl rfl dX7_told_23 (fun H locs hR hS => ?_)
    refine lv_if_eq (tgt := 41) hx hb dX7_told_26 (by decide) (fun q => ?_) (fun q => ?_)
    · have h := ax_ip q h
      refine lv_bipush (v := (-2)) hx hb dX7_told_41 (by decide) ?_
      cases h
      exact ax_iret C hc hz hR hS rfl rfl dX7_told_43
    · have h := ax_iN q h
      refine lv_aload_n hx hb dX7_told_29 rfl (lv_at hl 1 rfl) ?_
      refine lv_iload_n hx hb dX7_told_30 rfl (lv_at hl 0 rfl) ?_
      refine lv_iload_n hx hb dX7_told_31 rfl (lv_at hl 2 rfl) ?_
      refine lv_bipush (v := 50) hx hb dX7_told_32 (by decide) ?_
      refine lv_irem hx hb dX7_told_34 (by decide) ?_
      obtain ⟨q35, hq, h⟩ := ax_bd h
      refine ax_cV (rest := []) (st1 := [.int q35]) C hc hz hS hR (M_X7_toldOf hL hq) yk_X7_toldOf in_X7_toldOf se_X7_toldOf ml_X7_329 (lk_35 hL) rfl rfl (by decide) rfl hl.1 (Nat.le_of_ble_eq_true rfl) rfl rfl dX7_told_35 (fun H locs hR hS => ?_)
      refine lv_goto (tgt := 43) hx hb dX7_told_38 (by decide) ?_
      cases h
      exact ax_iret C hc hz hR hS rfl rfl dX7_told_43
theorem M_X7_told {l : Launch} {E : ax_E} {B : Nat} {lay : List ax_S} {I : ax_I} {J : ax_J} {x1 : Int32} {rv : Int32} (hL : ax_LL B lay) (h : F_X7_told I x1 = some rv) : Cm l yX7_told cX7_told 3 (some .int) 8 E B [.ref (B + 35), .int x1] lay I J (some (.int rv)) lay I J :=
  ax_met (by decide) (Nat.le_of_ble_eq_true rfl) (fun p e R s m args below meth c C => t_X7_told_0 hL C _ _ h)
end GEN
