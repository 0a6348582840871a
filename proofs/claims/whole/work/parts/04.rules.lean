/-! ===== rows over the abstract world ===== -/
/-- what is known of each class of ours -/
def ax_CF (q : vw_C) : Prop := (∀ w ∈ u_ws q.1 q.2.1 q.2.2, w ∈ ax_g) ∧ ∃ ty0 : Nat → FieldType, (∀ k, k < q.2.2 → parseFieldDescriptor (q.2.1 k).2.2.1 = some (ty0 k)) ∧ (∀ a, a < q.2.2 → ∀ b, b < q.2.2 → a ≠ b → (q.2.1 a).2.1 ≠ (q.2.1 b).2.1)
def ax_FL (own : String) (idx ci j : Nat) : Prop := ∃ q : vw_C, ax_cl[ci]? = some q ∧ ax_CF q ∧ j < q.2.2 ∧ Cond.fieldLink own idx (q.2.1 j).1 (q.2.1 j).2.1 (q.2.1 j).2.2.1 ∈ ax_g
/-- .. that may be written, of type ty -/
def ax_FP (own : String) (idx ci j : Nat) (ty : FieldType) : Prop := ∃ q : vw_C, ax_cl[ci]? = some q ∧ ax_CF q ∧ j < q.2.2 ∧ Cond.fieldLink own idx (q.2.1 j).1 (q.2.1 j).2.1 (q.2.1 j).2.2.1 ∈ ax_g ∧ (q.2.1 j).2.2.2 = false ∧ parseFieldDescriptor (q.2.1 j).2.2.1 = some ty
/-- .. final, written in its own constructor -/
def ax_FF (own : String) (idx ci j : Nat) (ty : FieldType) : Prop := ∃ q : vw_C, ax_cl[ci]? = some q ∧ ax_CF q ∧ j < q.2.2 ∧ Cond.fieldLink own idx (q.2.1 j).1 (q.2.1 j).2.1 (q.2.1 j).2.2.1 ∈ ax_g ∧ (q.2.1 j).2.2.2 = true ∧ (q.2.1 j).1 = own ∧ parseFieldDescriptor (q.2.1 j).2.2.1 = some ty
theorem ax_Sput {B : Nat} {H0 H H1 : Heap} {locs : List Loc} {k j : Nat} (h : va_S (fun q => B ≤ q) H0 H locs) (z : H1.size = H.size) (oq : ∀ q : Nat, q ≠ B + k → H1[q]? = H[q]?) : va_S (fun q => B ≤ q) H0 H1 (locs ++ [⟨B + k, j⟩]) := h.put z oq (Nat.le_add_right B k)
section AXR
variable {p : Program} {l : Launch} {e : Env} {R : Room} {s : State} {m : MethodId} {args : Array Value} {below : List Frame} {meth : Method} {c : Code} {H : Heap} {locs : List Loc} {cells slots : Nat} {Q : State → Prop}
variable {cc : ByteArray} {pc : Nat} {ls : Array Slot} {rest : List Value} {E : ax_E} {B : Nat} {lay : List ax_S} {I : ax_I} {J : ax_J}
theorem ax_iald (hx : p.tables.exec = Jvm.exec) (hb : c.code = cc) (hK : ax_K E s) (hR : ax_R E B lay I J H) {k n : Nat} (hl : lay[k]? = some (.inr (.inl (0, n)))) {i : Int32} (hin : ax_in i n = true) (hdg : decode cc pc = .ok (.iaload, 1))
    (kk : W p l e R s m args below meth c H locs cells slots Q (F0 m (pc + 1) ls (.int (I k i.toNatClampNeg) :: rest))) : W p l e R s m args below meth c H locs cells slots Q (F0 m pc ls (.int i :: .ref (B + k) :: rest)) :=
  va_iald hx hb hK.1 hR.1 k 0 (ax_W_at hl) rfl (ax_in_vp hin) hdg kk
theorem ax_cald (hx : p.tables.exec = Jvm.exec) (hb : c.code = cc) (hK : ax_K E s) (hR : ax_R E B lay I J H) {k n : Nat} (hl : lay[k]? = some (.inr (.inl (1, n)))) {i : Int32} (hin : ax_in i n = true) (hdg : decode cc pc = .ok (.caload, 1))
    (kk : W p l e R s m args below meth c H locs cells slots Q (F0 m (pc + 1) ls (.int (I k i.toNatClampNeg) :: rest))) : W p l e R s m args below meth c H locs cells slots Q (F0 m pc ls (.int i :: .ref (B + k) :: rest)) :=
  va_cald hx hb hK.1 hR.1 k 1 (ax_W_at hl) rfl (ax_in_vp hin) hdg kk
theorem ax_zald (hx : p.tables.exec = Jvm.exec) (hb : c.code = cc) (hK : ax_K E s) (hR : ax_R E B lay I J H) {k n : Nat} (hl : lay[k]? = some (.inr (.inl (2, n)))) {i : Int32} (hin : ax_in i n = true) (hdg : decode cc pc = .ok (.baload, 1))
    (kk : W p l e R s m args below meth c H locs cells slots Q (F0 m (pc + 1) ls (.int (I k i.toNatClampNeg) :: rest))) : W p l e R s m args below meth c H locs cells slots Q (F0 m pc ls (.int i :: .ref (B + k) :: rest)) :=
  va_zald hx hb hK.1 hR.1 k 2 (ax_W_at hl) rfl (ax_in_vp hin) hdg kk
theorem ax_lald (hx : p.tables.exec = Jvm.exec) (hb : c.code = cc) (hK : ax_K E s) (hR : ax_R E B lay I J H) {k n : Nat} (hl : lay[k]? = some (.inr (.inl (3, n)))) {i : Int32} (hin : ax_in i n = true) (hdg : decode cc pc = .ok (.laload, 1))
    (kk : W p l e R s m args below meth c H locs cells slots Q (F0 m (pc + 1) ls (.long (J k i.toNatClampNeg) :: rest))) : W p l e R s m args below meth c H locs cells slots Q (F0 m pc ls (.int i :: .ref (B + k) :: rest)) :=
  va_lald hx hb hK.1 hR.1 k 3 (ax_W_at hl) rfl (ax_in_vp hin) hdg kk
theorem ax_qald (hx : p.tables.exec = Jvm.exec) (hb : c.code = cc) (hK : ax_K E s) (hR : ax_R E B lay I J H) {k n : Nat} {g : Nat → Option Nat} (hl : lay[k]? = some (.inr (.inr (n, g)))) {i : Int32} (hin : ax_in i n = true) (hdg : decode cc pc = .ok (.aaload, 1))
    (kk : W p l e R s m args below meth c H locs cells slots Q (F0 m (pc + 1) ls (va_rf (g i.toNatClampNeg) :: rest))) : W p l e R s m args below meth c H locs cells slots Q (F0 m pc ls (.int i :: .ref (B + k) :: rest)) :=
  va_aldq (C := RX2) hx hb hK.1 hR.1 k 4 (ax_W_at hl) rfl (ax_in_vp hin) hdg kk
theorem ax_alen (hx : p.tables.exec = Jvm.exec) (hb : c.code = cc) (hK : ax_K E s) (hR : ax_R E B lay I J H) {k n : Nat} (hl : lay[k]? = some (.inr (.inl (0, n)))) {v : Int32} (hv : Int32.ofNat n = v) (hdg : decode cc pc = .ok (.arraylength, 1))
    (kk : W p l e R s m args below meth c H locs cells slots Q (F0 m (pc + 1) ls (.int v :: rest))) : W p l e R s m args below meth c H locs cells slots Q (F0 m pc ls (.ref (B + k) :: rest)) :=
  va_alen hx hb hK.1 hR.1 k 0 (ax_W_at hl) (ty := .int) rfl hv hdg kk
/-- the world behind a change at one place -/
theorem ax_R_set {H1 : Heap} {k : Nat} {s0 s1 : ax_S} {I1 : ax_I} {J1 : ax_J} (hR : ax_R E B lay I J H) (hl : lay[k]? = some s0) (hI : ∀ q, q ≠ k → I1 q = I q) (hJ : ∀ q, q ≠ k → J1 q = J q)
    (he : va_at E.1 ax_cl (B + k, ax_e E.2 s1 (I1 k) (J1 k)) H1) (z : H1.size = H.size) (oq : ∀ q : Nat, q ≠ B + k → H1[q]? = H[q]?) : ax_R E B (lay.set k s1) I1 J1 H1 := by
  refine ⟨?_, by rw [z, hR.2, List.length_set]⟩
  rw [← ax_W_set hl hI hJ]
  exact hR.1.set (ax_W_D E.2 B lay I J) (ax_W_at hl) he oq
theorem ax_R_setI {H1 : Heap} {k : Nat} {s0 : ax_S} {I1 : ax_I} {J1 : ax_J} (hR : ax_R E B lay I J H) (hl : lay[k]? = some s0) (hI : ∀ q, q ≠ k → I1 q = I q) (hJ : ∀ q, q ≠ k → J1 q = J q)
    (he : va_at E.1 ax_cl (B + k, ax_e E.2 s0 (I1 k) (J1 k)) H1) (z : H1.size = H.size) (oq : ∀ q : Nat, q ≠ B + k → H1[q]? = H[q]?) : ax_R E B lay I1 J1 H1 := by
  have h := ax_R_set hR hl hI hJ he z oq
  rwa [ax_set_same hl] at h
theorem ax_iast (hx : p.tables.exec = Jvm.exec) (hb : c.code = cc) (hK : ax_K E s) (hR : ax_R E B lay I J H) (hS : va_S (fun q => B ≤ q) s.heap H locs) {k n : Nat} (hl : lay[k]? = some (.inr (.inl (0, n)))) {i x : Int32} (hin : ax_in i n = true) (hdg : decode cc pc = .ok (.iastore, 1))
    (kk : ∀ (H1 : Heap) (locs1 : List Loc), ax_R E B lay (ax_u I k i.toNatClampNeg x) J H1 → va_S (fun q => B ≤ q) s.heap H1 locs1 → W p l e R s m args below meth c H1 locs1 cells slots Q (F0 m (pc + 1) ls rest)) : W p l e R s m args below meth c H locs cells slots Q (F0 m pc ls (.int x :: .int i :: .ref (B + k) :: rest)) := by
  have ha := hR.1 k _ (ax_W_at hl)
  refine W.iast hx hb ha ((hK.1.2 0 _ rfl).1 n (fun j => .int (I k j))) (fun q => by cases q) (by show ¬ (i < 0 ∨ (arrV _ _ _).slots.size ≤ _); rw [arrV_size]; exact ax_in_vp hin) rfl rfl hdg fun H1 e z oq => ?_
  refine kk H1 _ (ax_R_setI hR hl (fun q h => ax_u_n h) (fun q _ => rfl) ?_ z oq) (ax_Sput hS z oq)
  rw [ax_u_s]
  show H1[B + k]? = some (vp_cell (E.2 0) (n, .inl (upd (I k) i.toNatClampNeg x)))
  rw [e, vp_cell_i]
  show some ((vp_cell (E.2 0) (n, .inl (I k))).setSlot _ _) = _
  rw [vp_cell_i, arrV_store]
  congr 2
  funext q
  by_cases hq : q = i.toNatClampNeg
  · subst hq; simp [updV, upd]
  · simp [updV, upd, hq]
theorem ax_cast (hx : p.tables.exec = Jvm.exec) (hb : c.code = cc) (hK : ax_K E s) (hR : ax_R E B lay I J H) (hS : va_S (fun q => B ≤ q) s.heap H locs) {k n : Nat} (hl : lay[k]? = some (.inr (.inl (1, n)))) {i x : Int32} (hin : ax_in i n = true) (hdg : decode cc pc = .ok (.castore, 1))
    (kk : ∀ (H1 : Heap) (locs1 : List Loc), ax_R E B lay (ax_u I k i.toNatClampNeg (vp_nar .char x)) J H1 → va_S (fun q => B ≤ q) s.heap H1 locs1 → W p l e R s m args below meth c H1 locs1 cells slots Q (F0 m (pc + 1) ls rest)) : W p l e R s m args below meth c H locs cells slots Q (F0 m pc ls (.int x :: .int i :: .ref (B + k) :: rest)) := by
  have ha := hR.1 k _ (ax_W_at hl)
  refine W.cast hx hb ha ((hK.1.2 1 _ rfl).1 n (fun j => .int (I k j))) (fun q => by cases q) (by show ¬ (i < 0 ∨ (arrV _ _ _).slots.size ≤ _); rw [arrV_size]; exact ax_in_vp hin) rfl rfl hdg fun H1 e z oq => ?_
  refine kk H1 _ (ax_R_setI hR hl (fun q h => ax_u_n h) (fun q _ => rfl) ?_ z oq) (ax_Sput hS z oq)
  rw [ax_u_s]
  show H1[B + k]? = some (vp_cell (E.2 1) (n, .inl (upd (I k) i.toNatClampNeg (vp_nar .char x))))
  rw [e, vp_cell_i]
  show some ((vp_cell (E.2 1) (n, .inl (I k))).setSlot _ _) = _
  rw [vp_cell_i, arrV_store]
  congr 2
  funext q
  by_cases hq : q = i.toNatClampNeg
  · subst hq; simp [updV, upd, vp_nar, narrow]
  · simp [updV, upd, hq]
theorem ax_zast (hx : p.tables.exec = Jvm.exec) (hb : c.code = cc) (hK : ax_K E s) (hR : ax_R E B lay I J H) (hS : va_S (fun q => B ≤ q) s.heap H locs) {k n : Nat} (hl : lay[k]? = some (.inr (.inl (2, n)))) {i x : Int32} (hin : ax_in i n = true) (hdg : decode cc pc = .ok (.bastore, 1))
    (kk : ∀ (H1 : Heap) (locs1 : List Loc), ax_R E B lay (ax_u I k i.toNatClampNeg (vp_nar .boolean x)) J H1 → va_S (fun q => B ≤ q) s.heap H1 locs1 → W p l e R s m args below meth c H1 locs1 cells slots Q (F0 m (pc + 1) ls rest)) : W p l e R s m args below meth c H locs cells slots Q (F0 m pc ls (.int x :: .int i :: .ref (B + k) :: rest)) := by
  have ha := hR.1 k _ (ax_W_at hl)
  refine W.zast hx hb ha ((hK.1.2 2 _ rfl).1 n (fun j => .int (I k j))) (fun q => by cases q) (by show ¬ (i < 0 ∨ (arrV _ _ _).slots.size ≤ _); rw [arrV_size]; exact ax_in_vp hin) rfl rfl hdg fun H1 e z oq => ?_
  refine kk H1 _ (ax_R_setI hR hl (fun q h => ax_u_n h) (fun q _ => rfl) ?_ z oq) (ax_Sput hS z oq)
  rw [ax_u_s]
  show H1[B + k]? = some (vp_cell (E.2 2) (n, .inl (upd (I k) i.toNatClampNeg (vp_nar .boolean x))))
  rw [e, vp_cell_i]
  show some ((vp_cell (E.2 2) (n, .inl (I k))).setSlot _ _) = _
  rw [vp_cell_i, arrV_store]
  congr 2
  funext q
  by_cases hq : q = i.toNatClampNeg
  · subst hq; simp [updV, upd, vp_nar, narrow]
  · simp [updV, upd, hq]
theorem ax_last (hx : p.tables.exec = Jvm.exec) (hb : c.code = cc) (hK : ax_K E s) (hR : ax_R E B lay I J H) (hS : va_S (fun q => B ≤ q) s.heap H locs) {k n : Nat} (hl : lay[k]? = some (.inr (.inl (3, n)))) {i : Int32} {x : Int64} (hin : ax_in i n = true) (hdg : decode cc pc = .ok (.lastore, 1))
    (kk : ∀ (H1 : Heap) (locs1 : List Loc), ax_R E B lay I (ax_v J k i.toNatClampNeg x) H1 → va_S (fun q => B ≤ q) s.heap H1 locs1 → W p l e R s m args below meth c H1 locs1 cells slots Q (F0 m (pc + 1) ls rest)) : W p l e R s m args below meth c H locs cells slots Q (F0 m pc ls (.long x :: .int i :: .ref (B + k) :: rest)) := by
  have ha := hR.1 k _ (ax_W_at hl)
  refine W.last hx hb ha ((hK.1.2 3 _ rfl).1 n (fun j => .long (J k j))) (fun q => by cases q) (by show ¬ (i < 0 ∨ (arrV _ _ _).slots.size ≤ _); rw [arrV_size]; exact ax_in_vp hin) rfl rfl hdg fun H1 e z oq => ?_
  refine kk H1 _ (ax_R_setI hR hl (fun q _ => rfl) (fun q h => ax_v_n h) ?_ z oq) (ax_Sput hS z oq)
  rw [ax_v_s]
  show H1[B + k]? = some (vp_cell (E.2 3) (n, .inr (.inl (vp_updL (J k) i.toNatClampNeg x))))
  rw [e, vp_cell_l]
  show some ((vp_cell (E.2 3) (n, .inr (.inl (J k)))).setSlot _ _) = _
  rw [vp_cell_l, arrV_store]
  congr 2
  funext q
  by_cases hq : q = i.toNatClampNeg
  · subst hq; simp [updV, vp_updL]
  · simp [updV, vp_updL, hq]
theorem ax_qast (hx : p.tables.exec = Jvm.exec) (hb : c.code = cc) (hK : ax_K E s) (hR : ax_R E B lay I J H) (hS : va_S (fun q => B ≤ q) s.heap H locs) {k n v : Nat} {g : Nat → Option Nat} {fs : List (Option Value)} (hl : lay[k]? = some (.inr (.inr (n, g)))) (hv : lay[v]? = some (.inl (2, fs))) {i : Int32} (hin : ax_in i n = true) (hdg : decode cc pc = .ok (.aastore, 1))
    (kk : ∀ (H1 : Heap) (locs1 : List Loc), ax_R E B (lay.set k (.inr (.inr (n, va_up g i.toNatClampNeg (some (B + v)))))) I J H1 → va_S (fun q => B ≤ q) s.heap H1 locs1 → W p l e R s m args below meth c H1 locs1 cells slots Q (F0 m (pc + 1) ls rest)) : W p l e R s m args below meth c H locs cells slots Q (F0 m pc ls (.ref (B + v) :: .int i :: .ref (B + k) :: rest)) := by
  have hin2 := ax_in_vp hin
  have hlt : i.toNatClampNeg < n := Nat.not_le.mp fun q => hin2 (Or.inr q)
  have h0 : ¬ i < 0 := fun q => hin2 (Or.inl q)
  have ha := hR.1 k _ (ax_W_at hl)
  obtain ⟨r', hr', cellV, g1, g2, g3, -⟩ := hR.1 v _ (ax_W_at hv)
  have hcls := (hK.1.1 2 (RX2, TX2, 16) rfl).2
  obtain ⟨kA, comp, k1, k2, k3, -⟩ := (hK.1.2 4 _ rfl).2
  have hcomp : comp = E.1.1 2 := Option.some.inj (k3.symm.trans hcls.1)
  subst hcomp
  obtain ⟨kC, hkC, -⟩ := hcls.2
  refine W.aast hx hb ha (fun q h => by cases h) (fun h => by cases h) k1 k2 rfl hkC ⟨h0, by show _ < (arrV _ _ _).slots.size; rw [arrV_size]; exact hlt⟩ g1 (fun q h => by rw [g3] at h; cases h) (by rw [g2]; exact hkC) (by rw [g2]; exact va_assign hcls) rfl rfl hdg fun H1 e z oq => ?_
  refine kk H1 _ (ax_R_set hR hl (fun q _ => rfl) (fun q _ => rfl) ?_ z oq) (ax_Sput hS z oq)
  show H1[B + k]? = some (vp_cell (E.2 4) (n, .inr (.inr (.inr (.inr (va_up g i.toNatClampNeg (some (B + v))))))))
  rw [e]
  show some ((vp_cell (E.2 4) (n, .inr (.inr (.inr (.inr g))))).setSlot i.toNatClampNeg (.ref (B + v))) = _
  rw [vp_cell_q, vp_cell_q, arrV_store]
  congr 2
  funext q
  by_cases hq : q = i.toNatClampNeg
  · subst hq; simp [updV, va_up, va_rf]
  · simp [updV, va_up, hq]
theorem ax_getI (hx : p.tables.exec = Jvm.exec) (hb : c.code = cc) {own : String} (hts : ∀ w ∈ ax_g, w.before args s = true) (hown : s.vm.findClass own = some m.cls) (hK : ax_K E s) (hR : ax_R E B lay I J H) {k ci j idx : Nat} {fs : List (Option Value)} (hL : ax_FL own idx ci j) (hl : lay[k]? = some (.inl (ci, fs))) (hv : fs[j]? = some none) (hdg : decode cc pc = .ok (.getfield idx, 3))
    (kk : W p l e R s m args below meth c H locs cells slots Q (F0 m (pc + 3) ls (.int (I k j) :: rest))) : W p l e R s m args below meth c H locs cells slots Q (F0 m pc ls (.ref (B + k) :: rest)) := by
  obtain ⟨⟨C, T, N⟩, hc, hF, hj, hlink⟩ := hL
  refine va_get (T := T) (v := .int (I k j)) hx hb hts hF.1 hown hK.1 hR.1 k (ax_W_at hl) hc j hj (hts _ hlink) (fun _ h => h) ?_ hdg kk
  rw [ax_f_get, hv, Nat.zero_add]
  rfl
theorem ax_getV (hx : p.tables.exec = Jvm.exec) (hb : c.code = cc) {own : String} (hts : ∀ w ∈ ax_g, w.before args s = true) (hown : s.vm.findClass own = some m.cls) (hK : ax_K E s) (hR : ax_R E B lay I J H) {k ci j idx : Nat} {fs : List (Option Value)} {v : Value} (hL : ax_FL own idx ci j) (hl : lay[k]? = some (.inl (ci, fs))) (hv : fs[j]? = some (some v)) (hdg : decode cc pc = .ok (.getfield idx, 3))
    (kk : W p l e R s m args below meth c H locs cells slots Q (F0 m (pc + 3) ls (v :: rest))) : W p l e R s m args below meth c H locs cells slots Q (F0 m pc ls (.ref (B + k) :: rest)) := by
  obtain ⟨⟨C, T, N⟩, hc, hF, hj, hlink⟩ := hL
  refine va_get (T := T) (v := v) hx hb hts hF.1 hown hK.1 hR.1 k (ax_W_at hl) hc j hj (hts _ hlink) (fun _ h => h) ?_ hdg kk
  rw [ax_f_get, hv]
  rfl
theorem ax_putW (hx : p.tables.exec = Jvm.exec) (hb : c.code = cc) {own : String} (hts : ∀ w ∈ ax_g, w.before args s = true) (hown : s.vm.findClass own = some m.cls) (hK : ax_K E s) (hR : ax_R E B lay I J H) {k ci j idx : Nat} {fs : List (Option Value)} {ty : FieldType} {v : Value} (hL : ax_FP own idx ci j ty) (hl : lay[k]? = some (.inl (ci, fs))) (hj9 : j < fs.length) (hn : narrow ty v = v) (hfit : fits ty v = true) (hdg : decode cc pc = .ok (.putfield idx, 3))
    (kk : ∀ (H1 : Heap) (j0 : Nat), va_at E.1 ax_cl (B + k, .inr (ci, (ax_f (I k) 0 fs).set j v)) H1 → H1.size = H.size → (∀ q : Nat, q ≠ B + k → H1[q]? = H[q]?) → W p l e R s m args below meth c H1 (locs ++ [⟨B + k, j0⟩]) cells slots Q (F0 m (pc + 3) ls rest)) : W p l e R s m args below meth c H locs cells slots Q (F0 m pc ls (v :: .ref (B + k) :: rest)) := by
  obtain ⟨⟨C, T, N⟩, hc, ⟨hin, ty0, hty, hnm⟩, hj, hlink, hfin, hd⟩ := hL
  have hap := va_apart (own := own) hts hin ty0 hty hnm hK.1 hc
  obtain ⟨r, h1, cell, q1, q2, q3, q4⟩ := hR.1 k _ (ax_W_at hl)
  have hr : r = (C, T, N) := Option.some.inj (h1.symm.trans hc)
  subst hr
  obtain ⟨hS, hfc, kC, hkC, hkind⟩ := hK.1.1 ci _ hc
  obtain ⟨cf, kf, fi, f, hi, hsl⟩ := hS j hj
  have hlay := hts _ (hin _ (u_in_lay hj))
  unfold u_lay at hlay
  rw [if_neg (by rw [hfin]; decide)] at hlay
  have hst := (u_facts hfc hkC (u_lays hts hin hj) hi).1
  have h6 := u_store hfc hkC hkind hlay hi hd hn hfit
  refine W.putK hx hb (f := f) ⟨hown, hts _ hlink, ⟨_, _, _, hi⟩, hst⟩ (by rw [q2]; exact h6) q1 q3 (by rw [hsl]; exact k2_hasslot (q4 j hj)) rfl rfl hdg fun H' e1 e2 e3 => ?_
  rw [hsl] at e1 ⊢
  exact kk H' _ ⟨_, hc, t_OB.to (V := updV (vp_V (ax_f (I k) 0 fs)) j v) ⟨_, e1, q2, q3, t_set q4 hap hj v⟩ (fun a _ => vp_updV_set (by rw [ax_f_len]; exact hj9) v a)⟩ e2 e3
theorem ax_f_set (i : Nat → Int32) (x : Int32) : ∀ (fs : List (Option Value)) (k j : Nat), fs[j]? = some none → (ax_f i k fs).set j (.int x) = ax_f (upd i (k + j) x) k fs := by
  intro fs k j h
  apply List.ext_getElem?
  intro n
  rw [ax_f_get]
  have hl : j < fs.length := (List.getElem?_eq_some_iff.mp h).1
  by_cases hn : n = j
  · subst hn
    rw [List.getElem?_set_self (by rw [ax_f_len]; exact hl), h]
    simp [upd]
  · rw [List.getElem?_set_ne (Ne.symm hn), ax_f_get]
    simp [upd, hn]
theorem ax_putI (hx : p.tables.exec = Jvm.exec) (hb : c.code = cc) {own : String} (hts : ∀ w ∈ ax_g, w.before args s = true) (hown : s.vm.findClass own = some m.cls) (hK : ax_K E s) (hR : ax_R E B lay I J H) (hS : va_S (fun q => B ≤ q) s.heap H locs) {k ci j idx : Nat} {fs : List (Option Value)} {ty : FieldType} {x : Int32} (hL : ax_FP own idx ci j ty) (hl : lay[k]? = some (.inl (ci, fs))) (hv : fs[j]? = some none) (hn : narrow ty (.int x) = .int x) (hfit : fits ty (.int x) = true) (hdg : decode cc pc = .ok (.putfield idx, 3))
    (kk : ∀ (H1 : Heap) (locs1 : List Loc), ax_R E B lay (ax_u I k j x) J H1 → va_S (fun q => B ≤ q) s.heap H1 locs1 → W p l e R s m args below meth c H1 locs1 cells slots Q (F0 m (pc + 3) ls rest)) : W p l e R s m args below meth c H locs cells slots Q (F0 m pc ls (.int x :: .ref (B + k) :: rest)) := by
  refine ax_putW hx hb hts hown hK hR hL hl (List.getElem?_eq_some_iff.mp hv).1 hn hfit hdg fun H1 j0 he z oq => ?_
  refine kk H1 _ (ax_R_setI hR hl (fun q h => ax_u_n h) (fun q _ => rfl) ?_ z oq) (ax_Sput hS z oq)
  rw [ax_u_s]
  show va_at E.1 ax_cl (B + k, .inr (ci, ax_f (upd (I k) j x) 0 fs)) H1
  have h9 := ax_f_set (I k) x fs 0 j hv
  rw [Nat.zero_add] at h9
  rw [← h9]
  exact he
theorem ax_f_setV (i : Nat → Int32) (v : Value) (fs : List (Option Value)) (k j : Nat) (hl : j < fs.length) : (ax_f i k fs).set j v = ax_f i k (fs.set j (some v)) := by
  apply List.ext_getElem?
  intro n
  rw [ax_f_get]
  by_cases hn : n = j
  · subst hn
    rw [List.getElem?_set_self (by rw [ax_f_len]; exact hl), List.getElem?_set_self hl]
    rfl
  · rw [List.getElem?_set_ne (Ne.symm hn), ax_f_get, List.getElem?_set_ne (Ne.symm hn)]
theorem ax_putF (hx : p.tables.exec = Jvm.exec) (hb : c.code = cc) {own : String} (hts : ∀ w ∈ ax_g, w.before args s = true) (hown : s.vm.findClass own = some m.cls) (hK : ax_K E s) (hR : ax_R E B lay I J H) (hS0 : va_S (fun q => B ≤ q) s.heap H locs) {k ci j idx : Nat} {fs : List (Option Value)} {ty : FieldType} {v : Value} (hL : ax_FF own idx ci j ty) (hl : lay[k]? = some (.inl (ci, fs))) (hj9 : j < fs.length) (hin2 : meth.name = "<init>") (hn : narrow ty v = v) (hfit : fits ty v = true) (hdg : decode cc pc = .ok (.putfield idx, 3))
    (kk : ∀ (H1 : Heap) (locs1 : List Loc), ax_R E B (lay.set k (.inl (ci, fs.set j (some v)))) I J H1 → va_S (fun q => B ≤ q) s.heap H1 locs1 → W p l e R s m args below meth c H1 locs1 cells slots Q (F0 m (pc + 3) ls rest)) : W p l e R s m args below meth c H locs cells slots Q (F0 m pc ls (v :: .ref (B + k) :: rest)) := by
  obtain ⟨⟨C, T, N⟩, hc, ⟨hin, ty0, hty, hnm⟩, hj, hlink, hfin, hdecl, hd⟩ := hL
  have hap := va_apart (own := own) hts hin ty0 hty hnm hK.1 hc
  obtain ⟨r, h1, cell, q1, q2, q3, q4⟩ := hR.1 k _ (ax_W_at hl)
  have hr : r = (C, T, N) := Option.some.inj (h1.symm.trans hc)
  subst hr
  obtain ⟨hS, hfc, kC, hkC, hkind⟩ := hK.1.1 ci _ hc
  obtain ⟨cf, kf, fi, f, hi, hsl⟩ := hS j hj
  have hlay := hts _ (hin _ (u_in_lay hj))
  unfold u_lay at hlay
  rw [if_pos hfin] at hlay
  have hst := (u_facts hfc hkC (u_lays hts hin hj) hi).1
  have hcf : m.cls = cf := by
    obtain ⟨_, _, c', _, _, _, -, -, hf', -, -, -, hown2, -⟩ := Cond.laysFinal_spec hlay
    have e1 : c' = cf := by have := hi.symm.trans hf'; simp at this; exact this.1.symm
    rw [show (T j).1 = own from hdecl] at hown2
    rw [← e1]; exact Option.some.inj (hown.symm.trans hown2)
  have h6 := u_fits hfc hkC hkind (Or.inr hlay) hi hd hn hfit
  refine W.putFinK hx hb hown (hts _ hlink) hi hst hcf hin2 (by rw [q2]; exact h6) q1 q3 (by rw [hsl]; exact k2_hasslot (q4 j hj)) rfl rfl hdg fun H' e1 e2 e3 => ?_
  rw [hsl] at e1 ⊢
  refine kk H' _ (ax_R_set hR hl (fun q _ => rfl) (fun q _ => rfl) ?_ e2 e3) (ax_Sput hS0 e2 e3)
  show va_at E.1 ax_cl (B + k, .inr (ci, ax_f (I k) 0 (fs.set j (some v)))) H'
  rw [← ax_f_setV (I k) v fs 0 j hj9]
  exact ⟨_, hc, t_OB.to (V := updV (vp_V (ax_f (I k) 0 fs)) j v) ⟨_, e1, q2, q3, t_set q4 hap hj v⟩ (fun a _ => vp_updV_set (by rw [ax_f_len]; exact hj9) v a)⟩
/-- the world with one cell more -/
theorem ax_R_push {H1 : Heap} {s1 : ax_S} {I1 : ax_I} {J1 : ax_J} (hR : ax_R E B lay I J H) (hI : ∀ q, q < lay.length → I1 q = I q) (hJ : ∀ q, q < lay.length → J1 q = J q)
    (he : va_at E.1 ax_cl (B + lay.length, ax_e E.2 s1 (I1 lay.length) (J1 lay.length)) H1) (z : H1.size = H.size + 1) (oq : ∀ q : Nat, q < H.size → H1[q]? = H[q]?) : ax_R E B (lay ++ [s1]) I1 J1 H1 := by
  refine ⟨?_, by rw [z, hR.2, List.length_append]; rfl⟩
  rw [← ax_W_push hI hJ]
  refine (hR.1.kept (fun k q hq => oq q.1 ((hR.1 k q hq).lt))).app (fun k q hq => ?_)
  have hz : k < 1 := (List.getElem?_eq_some_iff.mp hq).1
  rw [show k = 0 by omega] at hq
  cases hq
  exact he
theorem ax_Spush {H0 H1 : Heap} (h : va_S (fun q => B ≤ q) H0 H locs) (z : H1.size = H.size + 1) (oq : ∀ q : Nat, q < H.size → H1[q]? = H[q]?) : va_S (fun q => B ≤ q) H0 H1 locs :=
  ⟨Nat.le_trans h.1 (by omega), fun x h1 h2 => (oq x (Nat.lt_of_lt_of_le h1 h.1)).trans (h.2.1 x h1 h2), h.2.2⟩
theorem ax_new {own : String} (hx : p.tables.exec = Jvm.exec) (hb : c.code = cc) (hts : ∀ w ∈ ax_g, w.before args s = true) (hown : s.vm.findClass own = some m.cls) (hK : ax_K E s) (hR : ax_R E B lay I J H) (hS : va_S (fun q => B ≤ q) s.heap H locs) {ci idx N : Nat} {q : vw_C} {fs : List (Option Value)} (ty : Nat → FieldType) (hc : ax_cl[ci]? = some q) (hF : ∀ w ∈ u_ws q.1 q.2.1 q.2.2, w ∈ ax_g) (hty : ∀ k, k < q.2.2 → parseFieldDescriptor (q.2.1 k).2.2.1 = some (ty k)) (hN : q.2.2 = N)
    (hcl : Cond.classLink own idx q.1 ∈ ax_g) (hinst : Cond.instantiable q.1 q.2.2 ∈ ax_g) (hini : Cond.initialized q.1 ∈ ax_g) (hfs : ∀ j, j < q.2.2 → defaultValue (ty j) = vp_V (ax_f (fun _ => 0) 0 fs) j) (hcells : cells + 1 ≤ R.cells) (hslots : slots + N ≤ R.slots) (hdg : decode cc pc = .ok (.new idx, 3))
    (kk : ∀ (H1 : Heap), ax_R E B (lay ++ [.inl (ci, fs)]) (ax_r I lay.length (fun _ => 0)) J H1 → va_S (fun q => B ≤ q) s.heap H1 locs → W p l e R s m args below meth c H1 locs (cells + 1) (slots + N) Q (F0 m (pc + 3) ls (.ref (B + lay.length) :: rest))) : W p l e R s m args below meth c H locs cells slots Q (F0 m pc ls rest) := by
  obtain ⟨C, T, N'⟩ := q
  cases hN
  have hKn := hK.1.1 ci _ hc
  refine W.newcK hx hb hown (hts _ hcl) (hts _ hinst) (hts _ hini) rfl hdg hcells hslots hKn.2.1 rfl fun H1 kC hkC e1 z1 o1 => ?_
  have hsz := hR.2
  refine W.eq (g2 := F0 m (pc + 3) ls (.ref (B + lay.length) :: rest)) (by rw [hsz]) (kk H1 (ax_R_push hR (fun q h => ax_r_n (by omega)) (fun q _ => rfl) ?_ z1 o1) (ax_Spush hS z1 o1))
  rw [ax_r_s]
  exact ⟨_, hc, (u_born ty hts hF hKn hkC (by rw [← hsz]; exact e1) hty).to hfs⟩
theorem ax_newa (hx : p.tables.exec = Jvm.exec) (hb : c.code = cc) (hts : ∀ w ∈ ax_g, w.before args s = true) (hK : ax_K E s) (hR : ax_R E B lay I J H) (hS : va_S (fun q => B ≤ q) s.heap H locs) {atype : ArrayType} {kd : Nat} (harr : Cond.arrayClass (newarray.typeOf atype) ∈ ax_g) (hkd : (ax_tys E.2)[kd]? = some (E.2 kd, newarray.typeOf atype)) (h4 : kd < 4)
    {n : Int32} {N : Nat} (hdef : ∀ cA : ClassId, vp_cell cA (N, if kd = 3 then .inr (.inl (fun _ => 0)) else .inl (fun _ => 0)) = arrV cA N (fun _ => defaultValue (newarray.typeOf atype))) (hn : ¬ n < 0) (hN : n.toNatClampNeg = N) (hbytes : N * componentBytes (newarray.typeOf atype) ≤ 536870912) (hcells : cells + 1 ≤ R.cells) (hslots : slots + N ≤ R.slots) (hdg : decode cc pc = .ok (.newarray atype, 2))
    (kk : ∀ (H1 : Heap), ax_R E B (lay ++ [.inr (.inl (kd, N))]) (ax_r I lay.length (fun _ => 0)) (ax_rJ J lay.length (fun _ => 0)) H1 → va_S (fun q => B ≤ q) s.heap H1 locs → W p l e R s m args below meth c H1 locs (cells + 1) (slots + N) Q (F0 m (pc + 2) ls (.ref (B + lay.length) :: rest))) : W p l e R s m args below meth c H locs cells slots Q (F0 m pc ls (.int n :: rest)) := by
  refine va_newaK hx hb (hts _ harr) rfl hdg rfl hn hN hbytes hcells hslots rfl fun H1 cA e1 z1 o1 hAr hNm => ?_
  have hsz := hR.2
  have hcA : E.2 kd = cA := by
    have h9 := (hK.1.2 kd _ hkd).2
    have h8 : s.vm.findClass ("[" ++ (newarray.typeOf atype).toString) = some (E.2 kd) := by cases atype <;> exact h9
    exact Option.some.inj (h8.symm.trans hNm)
  refine W.eq (g2 := F0 m (pc + 2) ls (.ref (B + lay.length) :: rest)) (by rw [hsz]) (kk H1 (ax_R_push hR (fun q h => ax_r_n (by omega)) (fun q h => ax_rJ_n (by omega)) ?_ z1 o1) (ax_Spush hS z1 o1))
  rw [ax_r_s, ax_rJ_s]
  show H1[B + lay.length]? = some (vp_cell _ _)
  show H1[B + lay.length]? = some (vp_cell (E.2 kd) (N, if kd = 3 then .inr (.inl (fun _ => 0)) else .inl (fun _ => 0)))
  rw [hdef, ← hsz, hcA]
  exact e1
theorem ax_newq {own : String} (hx : p.tables.exec = Jvm.exec) (hb : c.code = cc) (hts : ∀ w ∈ ax_g, w.before args s = true) (hown : s.vm.findClass own = some m.cls) (hK : ax_K E s) (hR : ax_R E B lay I J H) (hS : va_S (fun q => B ≤ q) s.heap H locs) {idx : Nat} (hcl : Cond.classLink own idx RX2 ∈ ax_g)
    {n : Int32} {N : Nat} (hn : ¬ n < 0) (hN : n.toNatClampNeg = N) (hbytes : N * 4 ≤ 536870912) (hcells : cells + 1 ≤ R.cells) (hslots : slots + N ≤ R.slots) (hdg : decode cc pc = .ok (.anewarray idx, 3))
    (kk : ∀ (H1 : Heap), ax_R E B (lay ++ [.inr (.inr (N, fun _ => none))]) I J H1 → va_S (fun q => B ≤ q) s.heap H1 locs → W p l e R s m args below meth c H1 locs (cells + 1) (slots + N) Q (F0 m (pc + 3) ls (.ref (B + lay.length) :: rest))) : W p l e R s m args below meth c H locs cells slots Q (F0 m pc ls (.int n :: rest)) := by
  subst hN
  refine W.anew hx hb hown (hts _ hcl) (va_AO.use hK.2.2) rfl hdg rfl hn hbytes hcells hslots fun cA kA comp f1 f2 f3 f4 => ?_
  generalize hH1 : H.push ({ cls := cA, slots := Array.replicate n.toNatClampNeg .null, vm := .none } : Cell) = H1
  have z1 : H1.size = H.size + 1 := by rw [← hH1, Array.size_push]
  have e1 : H1[H.size]? = some (arrV cA n.toNatClampNeg (fun _ => .null)) := by rw [← hH1, Array.getElem?_push_size, ← arrV_new]
  have o1 : ∀ q : Nat, q < H.size → H1[q]? = H[q]? := fun q hq => by rw [← hH1, Array.getElem?_push, if_neg (Nat.ne_of_lt hq)]
  have hsz := hR.2
  have hcA : E.2 4 = cA := by
    obtain ⟨_, _, _, _, _, h9⟩ := (hK.1.2 4 _ rfl).2
    exact Option.some.inj (h9.symm.trans f1)
  refine W.eq (g2 := F0 m (pc + 3) ls (.ref (B + lay.length) :: rest)) (by rw [hsz]) (kk H1 (ax_R_push hR (fun q _ => rfl) (fun q _ => rfl) ?_ z1 o1) (ax_Spush hS z1 o1))
  show H1[B + lay.length]? = some (vp_cell (E.2 4) (n.toNatClampNeg, .inr (.inr (.inr (.inr (fun _ => none))))))
  rw [vp_cell_q, ← hsz, hcA]
  exact e1
theorem ax_copy {own : String} (hx : p.tables.exec = Jvm.exec) (hb : c.code = cc) (hts : ∀ w ∈ ax_g, w.before args s = true) (hml : c.maxLocals = ls.size) (hown : s.vm.findClass own = some m.cls) (hK : ax_K E s) (hR : ax_R E B lay I J H) (hS : va_S (fun q => B ≤ q) s.heap H locs) {idx : Nat} (hlink : Cond.methodLink own idx arraycopyName ∈ ax_g) (hnat : Cond.native arraycopyName ∈ ax_g) (hstat : Cond.static arraycopyName ∈ ax_g) (hini : Cond.initialized "java/lang/System" ∈ ax_g)
    {k0 k1 n0 : Nat} {n : Int32} (hl0 : lay[k0]? = some (.inr (.inl (0, n0)))) (hl1 : lay[k1]? = some (.inr (.inl (0, n0)))) (hn : n = Int32.ofNat n0) (hn0 : n0 < 2 ^ 31) (hframes : 1 ≤ R.frames) (hlocals : 40 ≤ R.locals) (hrest : rest = []) (hdg : decode cc pc = .ok (.invokestatic idx, 3))
    (kk : ∀ (H1 : Heap) (locs1 : List Loc), ax_R E B lay (ax_r I k1 (va_cpy (I k0) (I k1) 0 0 n0)) J H1 → va_S (fun q => B ≤ q) s.heap H1 locs1 → W p l e R s m args below meth c H1 locs1 cells slots Q (F0 m (pc + 3) ls [])) : W p l e R s m args below meth c H locs cells slots Q (F0 m pc ls (.int n :: .int 0 :: .ref (B + k1) :: .int 0 :: .ref (B + k0) :: rest)) := by
  subst hrest
  have hnn : n.toInt = (n0 : Int) := by rw [hn]; exact nI_toInt hn0
  have hnc : n.toNatClampNeg = n0 := by rw [hn]; exact nI_clamp hn0
  have h3 : ¬ n < 0 := by rw [hn]; exact nI_pos hn0
  intro T hT X
  have hc0 : H[B + k0]? = some (vp_cell (E.2 0) (n0, .inl (I k0))) := hR.1 k0 _ (ax_W_at hl0)
  have hc1 : H[B + k1]? = some (vp_cell (E.2 0) (n0, .inl (I k1))) := hR.1 k1 _ (ax_W_at hl1)
  obtain ⟨-, k0', hk0, cm0, hkk0⟩ := (hK.1.2 0 _ rfl).1 n0 (fun j => .int (I k0 j))
  obtain ⟨-, k1', hk1, cm1, hkk1⟩ := (hK.1.2 0 _ rfl).1 n0 (fun j => .int (I k1 j))
  obtain ⟨vm', X', step⟩ := X.arraycopy hx hown (hts _ hlink) (hts _ hnat) (hts _ hstat) (hts _ hini) (src := B + k0) (dst := B + k1) (cs := vp_cell (E.2 0) (n0, .inl (I k0))) (cd := vp_cell (E.2 0) (n0, .inl (I k1))) (srcPos := 0) (destPos := 0) (n := n) (by rw [hT]; exact hc0) (by rw [hT]; exact hc1)
    (fun _ h => by cases h) (fun _ h => by cases h) (fun h => by cases h) (fun h => by cases h) hk0 hk1 hkk0 hkk1 (by simp [refKind]) (by decide) (by decide) h3
    (by rw [hnn]; show ¬ _ > ((arrV (E.2 0) n0 (fun j => .int (I k0 j))).slots.size : Int); rw [arrV_size]; simp)
    (by rw [hnn]; show ¬ _ > ((arrV (E.2 0) n0 (fun j => .int (I k1 j))).slots.size : Int); rw [arrV_size]; simp)
    (fun vm₁ _ i hi => by
      have hi' : i < n0 := by rw [← hnc]; exact hi
      have e : (vp_cell (E.2 0) (n0, .inl (I k0))).slots.getD ((0 : Int32).toNatClampNeg + i) .null = .int (I k0 ((0 : Int32).toNatClampNeg + i)) := by
        show (arrV (E.2 0) n0 (fun j => .int (I k0 j))).slots.getD _ _ = _
        rw [Array.getD_eq_getD_getElem?, arrV_read _ _ (by show 0 + i < n0; omega)]
        rfl
      refine ⟨?_, ?_⟩
      · rw [e]; rfl
      · rw [e]; exact trivial)
    (g := F0 m pc ls (.int n :: .int 0 :: .ref (B + k1) :: .int 0 :: .ref (B + k0) :: [])) rfl (by rw [hml]) (rest := []) rfl (by rw [hb]; exact hdg) hframes (by
      have h9 : nativeFrameWords "java/lang/System" "arraycopy" 5 + 11 ≤ 40 := by decide
      show 2 * 0 + 0 + _ ≤ _; omega)
  have e1 : copied (vp_cell (E.2 0) (n0, .inl (I k0))) (vp_cell (E.2 0) (n0, .inl (I k1))) 0 0 n = vp_cell (E.2 0) (n0, .inl (va_cpy (I k0) (I k1) 0 0 n0)) := by
    rw [← hnc]
    exact va_copied (fun z => .int z) (E.2 0) (E.2 0) (I k0) (I k1) (by show 0 + n.toNatClampNeg ≤ _; omega)
  rw [e1] at X' step
  have hl : B + k1 < H.size := (Array.getElem?_eq_some_iff.mp hc1).1
  have oq : ∀ q : Nat, q ≠ B + k1 → (H.setIfInBounds (B + k1) (vp_cell (E.2 0) (n0, .inl (va_cpy (I k0) (I k1) 0 0 n0))))[q]? = H[q]? := fun q hq => by simp [Array.getElem?_setIfInBounds, Ne.symm hq]
  have hz : (H.setIfInBounds (B + k1) (vp_cell (E.2 0) (n0, .inl (va_cpy (I k0) (I k1) 0 0 n0)))).size = H.size := by simp
  have hheap : ((T.setVm vm').setCell (B + k1) (vp_cell (E.2 0) (n0, .inl (va_cpy (I k0) (I k1) 0 0 n0)))).heap = H.setIfInBounds (B + k1) (vp_cell (E.2 0) (n0, .inl (va_cpy (I k0) (I k1) 0 0 n0))) := by rw [← hT]; rfl
  obtain ⟨t, a1, b1⟩ := kk _ _ (ax_R_setI hR hl1 (fun q h => ax_r_n h) (fun q _ => rfl) (by rw [ax_r_s]; show (H.setIfInBounds (B + k1) _)[B + k1]? = some (vp_cell _ _); simp [Array.getElem?_setIfInBounds, hl]) hz oq) ⟨by rw [hz]; exact hS.1, fun q g1 g2 => by
      rw [oq q (fun e => g2 (by rw [e]; exact Nat.le_add_right B k1))]
      exact hS.2.1 q g1 g2, fun q hq => by
      rcases List.mem_append.mp hq with h | h
      · exact hS.2.2 q h
      · obtain ⟨z, -, hz⟩ := List.mem_map.mp h
        rw [← hz]
        exact Nat.le_add_right B k1⟩ _ hheap X'
  exact ⟨t, step t a1, b1⟩
end AXR
