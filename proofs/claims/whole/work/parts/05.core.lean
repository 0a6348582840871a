/-! ===== contracts over the abstract world ===== -/
def ax_rm (d mc ms : Nat) : Room := { frames := d, cells := mc, slots := ms, locals := 40 * d }
def ax_Q (E : ax_E) (B : Nat) (rv : Option Value) (lay : List ax_S) (I : ax_I) (J : ax_J) : Array Value → State → Outcome → State → Prop := fun _ st o t => o = .returned rv ∧ ax_R E B lay I J t.heap ∧ va_F (fun q => B ≤ q) st t
def ax_P (E : ax_E) (B : Nat) (av : List Value) (lay : List ax_S) (I : ax_I) (J : ax_J) : Array Value → State → Prop := fun v U => v = av.toArray ∧ ax_R E B lay I J U.heap ∧ ax_K E U
def ax_C (p : Program) (R : Room) (s : State) (m : MethodId) (args : Array Value) (meth : Method) (c : Code) (y : MethodName) (cc : ByteArray) (mL : Nat) (rt : Option FieldType) (d : Nat) (E : ax_E) (mc ms : Nat) : Prop :=
  p.tables.exec = Jvm.exec ∧ c.code = cc ∧ meth.sig.returnType = rt ∧ c.maxLocals = mL ∧ s.vm.findClass y.cls = some m.cls ∧ (∀ w ∈ ax_g, w.before args s = true) ∧ meth.locks = false ∧ ax_K E s ∧ d ≤ R.frames ∧ 40 * d ≤ R.locals ∧ mc ≤ R.cells ∧ ms ≤ R.slots ∧ meth.name = y.name
def AX (p : Program) (l : Launch) (e : Env) (R : Room) (s : State) (m : MethodId) (args : Array Value) (below : List Frame) (meth : Method) (c : Code) (E : ax_E) (B n0 z0 nL : Nat) (Q : State → Prop) (lay : List ax_S) (I : ax_I) (J : ax_J) (pc : Nat) (lv : List (Nat × Value)) (st : List Value) : Prop :=
  ∀ (H : Heap) (locs : List Loc) (cells slots : Nat) (ls : Array Slot), cells + n0 = lay.length → slots + z0 = ax_z lay → ax_R E B lay I J H → va_S (fun q => B ≤ q) s.heap H locs → lv_has ls nL lv → W p l e R s m args below meth c H locs cells slots Q (F0 m pc ls st)
/-- a run of a method's body that ends with rv and the world lay', I', J' -/
def AM (p : Program) (l : Launch) (e : Env) (R : Room) (s : State) (m : MethodId) (args : Array Value) (below : List Frame) (meth : Method) (c : Code) (E : ax_E) (B n0 z0 nL : Nat) (rv : Option Value) (lay' : List ax_S) (I' : ax_I) (J' : ax_J) (lay : List ax_S) (I : ax_I) (J : ax_J) (pc : Nat) (lv : List (Nat × Value)) (st : List Value) : Prop :=
  AX p l e R s m args below meth c E B n0 z0 nL (MQ below (ax_Q E B rv lay' I' J') args s (lay'.length - n0) (ax_z lay' - z0) (fun q => B ≤ q)) lay I J pc lv st
/-- a method's contract: from the world lay, I, J with these arguments it returns rv and leaves lay', I', J' -/
def Cm (l : Launch) (y : MethodName) (cc : ByteArray) (mL : Nat) (rt : Option FieldType) (d : Nat) (E : ax_E) (B : Nat) (av : List Value) (lay : List ax_S) (I : ax_I) (J : ax_J) (rv : Option Value) (lay' : List ax_S) (I' : ax_I) (J' : ax_J) : Prop :=
  Met l y (.code y cc mL rt :: ax_g) (ax_rm d (lay'.length - lay.length) (ax_z lay' - ax_z lay)) (ax_P E B av lay I J) (ax_Q E B rv lay' I' J') (lay'.length - lay.length) (ax_z lay' - ax_z lay) (fun q => B ≤ q)
theorem ax_met {l : Launch} {y : MethodName} {cc : ByteArray} {mL : Nat} {rt : Option FieldType} {d : Nat} {E : ax_E} {B : Nat} {av : List Value} {lay : List ax_S} {I : ax_I} {J : ax_J} {rv : Option Value} {lay' : List ax_S} {I' : ax_I} {J' : ax_J} (hy : plainName y.cls = true) (hav : (lg_sl av).length ≤ mL)
    (body : ∀ (p : Program) (e : Env) (R : Room) (s : State) (m : MethodId) (args : Array Value) (below : List Frame) (meth : Method) (c : Code), ax_C p R s m args meth c y cc mL rt d E (lay'.length - lay.length) (ax_z lay' - ax_z lay) → AM p l e R s m args below meth c E B lay.length (ax_z lay) mL rv lay' I' J' lay I J 0 (lv_args 0 av) []) : Cm l y cc mL rt d E B av lay I J rv lay' I' J' := by
  refine Met.ofW (cc := cc) (maxL := mL) (ret := rt) hy rfl ?_
  intro p e s m args below meth c s₁ Bd hml hv
  obtain ⟨rfl, hR, hK⟩ := hv
  have hts := atoms_spec (ws := .code y cc mL rt :: ax_g) Bd.pre
  have hC : ax_C p (ax_rm d (lay'.length - lay.length) (ax_z lay' - ax_z lay)) s m av.toArray meth c y cc mL rt d E (lay'.length - lay.length) (ax_z lay' - ax_z lay) :=
    ⟨Bd.exec, Bd.bytes, Bd.returns, hml, findClass_of_methodNamed Bd.named, fun w hw => hts w (List.mem_cons_of_mem _ hw), Bd.notSynchronized, hK, Nat.le_refl _, Nat.le_refl _, Nat.le_refl _, Nat.le_refl _, (name_of_methodNamed Bd.named Bd.method).1⟩
  have hl := lv_entry av (n := mL) hav
  rw [lg_entry_eq]
  exact body p e _ s m av.toArray below meth c hC s.heap [] 0 0 _ (Nat.zero_add _) (Nat.zero_add _) hR va_S.rf hl
theorem ax_blind {E : ax_E} {B : Nat} {av : List Value} {lay : List ax_S} {I : ax_I} {J : ax_J} : FrameBlind (ax_P E B av lay I J) := by
  intro a U g mk h
  exact ⟨h.1, h.2.1, ax_K_same (u := U) (U := U.calling g mk a) rfl h.2.2⟩
/-- what a call needs of the method that it calls -/
def ax_Y (y : MethodName) (cc : ByteArray) (mL : Nat) (rt : Option FieldType) (n : Nat) : Prop := Cond.code y cc mL rt ∈ ax_g ∧ Cond.initialized y.cls ∈ ax_g ∧ (y.cls ≠ "java/lang/invoke/MethodHandle" ∧ y.cls ≠ "java/lang/invoke/VarHandle" ∧ (parseMethodDescriptor y.desc).map (fun d => d.parameters.length) = some n) ∧ mL ≤ 21
section AXC
variable {p : Program} {l : Launch} {e : Env} {R : Room} {s : State} {m : MethodId} {args : Array Value} {below : List Frame} {meth : Method} {c : Code} {H : Heap} {locs : List Loc} {cells slots : Nat} {Q : State → Prop}
variable {cc : ByteArray} {pc : Nat} {ls : Array Slot} {rest : List Value} {E : ax_E} {B : Nat} {lay lay' : List ax_S} {I I' : ax_I} {J J' : ax_J} {y y' : MethodName} {cc' : ByteArray} {mL mL' : Nat} {rt rt' : Option FieldType} {d d' mc ms n idx : Nat} {av : List Value} {rv : Option Value} {n0 z0 : Nat} {own : String}
theorem ax_go {st0 : List Value} {a : Array Value} {mc ms : Nat} (hr : va_Run p l e R s m args below meth c H locs cells slots mc ms (F0 m pc ls st0) rest (ax_Q E B rv lay' I' J' a) (fun q => B ≤ q)) (hS : va_S (fun q => B ≤ q) s.heap H locs)
    (kk : ∀ (H1 : Heap) (locs1 : List Loc), ax_R E B lay' I' J' H1 → va_S (fun q => B ≤ q) s.heap H1 locs1 → W p l e R s m args below meth c H1 locs1 (cells + mc) (slots + ms) Q (F0 m (pc + 3) ls (rv.toList ++ rest))) : W p l e R s m args below meth c H locs cells slots Q (F0 m pc ls st0) := by
  intro T hT X
  obtain ⟨v, st₀, t, T', L, h0, X', hL, e1, e2, ⟨hv, hR1, hz, hk⟩, st⟩ := hr T hT X
  cases hv
  rw [h0] at hz hk
  obtain ⟨t2, a1, b1⟩ := kk T'.heap (locs ++ L) (by rw [e1]; exact hR1) ⟨Nat.le_trans hS.1 (by rw [e1]; exact hz), fun q h1 h2 => by rw [e1, hk q (Nat.lt_of_lt_of_le h1 hS.1) h2]; exact hS.2.1 q h1 h2, fun q hq => by
      rcases List.mem_append.mp hq with h | h
      · exact hS.2.2 q h
      · exact hL q h⟩ T' rfl X'
  exact ⟨t2, st t2 a1, b1⟩
theorem ax_pre (hK : ax_K E s) (hR : ax_R E B lay I J H) : ∀ U : State, U.heap = H → s.WarmedH U.vm → ax_P E B av lay I J av.toArray U := fun U hU hW => ⟨rfl, by rw [hU]; exact hR, ax_K_warm hW hK⟩
theorem ax_cb (hts : ∀ w ∈ ax_g, w.before args s = true) (hY : ax_Y y' cc' mL' rt' n) (hlk : Cond.methodLink own idx y' ∈ ax_g) (hd : d' + 1 ≤ d) (hfr : d ≤ R.frames) (hlo : 40 * d ≤ R.locals) : CallB R s args own idx y' cc' mL' rt' (.code y' cc' mL' rt' :: ax_g) (ax_rm d' mc ms) mc ms n :=
  callB_of n hts (ax_goodc hY.1) rfl rfl rfl (hts _ hY.2.1) (hts _ hlk) hY.2.2.1 ⟨by show d' + 1 ≤ _; omega, by have := hY.2.2.2; show 8 + (mL' + 11) + 40 * d' ≤ _; omega⟩
theorem ax_callS (C : ax_C p R s m args meth c y cc mL rt d E mc ms) (hS : va_S (fun q => B ≤ q) s.heap H locs) (hR : ax_R E B lay I J H) (hM : Cm l y' cc' mL' rt' d' E B av lay I J rv lay' I' J') (hY : ax_Y y' cc' mL' rt' n) (hst : Cond.static y' ∈ ax_g) (hlk : Cond.methodLink y.cls idx y' ∈ ax_g) (hd : d' + 1 ≤ d) (hn : av.length = n) (hsz : ls.size = mL) (hW : (rest.map fun v => v.category).sum ≤ 8) {st0 : List Value} (hst0 : st0 = av.reverse ++ rest) (hf : cells + (lay'.length - lay.length) ≤ R.cells ∧ slots + (ax_z lay' - ax_z lay) ≤ R.slots) (hdg : decode cc pc = .ok (.invokestatic idx, 3))
    (kk : ∀ (H1 : Heap) (locs1 : List Loc), ax_R E B lay' I' J' H1 → va_S (fun q => B ≤ q) s.heap H1 locs1 → W p l e R s m args below meth c H1 locs1 (cells + (lay'.length - lay.length)) (slots + (ax_z lay' - ax_z lay)) Q (F0 m (pc + 3) ls (rv.toList ++ rest))) : W p l e R s m args below meth c H locs cells slots Q (F0 m pc ls st0) := by
  obtain ⟨hx, hb, hr, hml, hown, hts, hlocks, hK, hfr, hlo, -⟩ := C
  exact ax_go (va_runS (As := av) (rest := rest) ⟨hx, hb, hml, hown, hts⟩ hM ⟨ax_cb hts hY hlk hd hfr hlo, hts _ hst⟩ ⟨ax_blind, ax_pre hK hR⟩ rfl hn hsz hst0 (lv_room hW) hdg hf) hS kk
theorem ax_callSN (C : ax_C p R s m args meth c y cc mL rt d E mc ms) (hS : va_S (fun q => B ≤ q) s.heap H locs) (hR : ax_R E B lay I J H) (hM : Cm l y' cc' mL' rt' d' E B av lay I J rv lay' I' J') (hY : ax_Y y' cc' mL' rt' n) (hst : Cond.static y' ∈ ax_g) (hlk : Cond.methodLinkNest y.cls idx y' RX6 ∈ ax_nw) (hd : d' + 1 ≤ d) (hn : av.length = n) (hsz : ls.size = mL) (hW : (rest.map fun v => v.category).sum ≤ 8) {st0 : List Value} (hst0 : st0 = av.reverse ++ rest) (hf : cells + (lay'.length - lay.length) ≤ R.cells ∧ slots + (ax_z lay' - ax_z lay) ≤ R.slots) (hdg : decode cc pc = .ok (.invokestatic idx, 3))
    (kk : ∀ (H1 : Heap) (locs1 : List Loc), ax_R E B lay' I' J' H1 → va_S (fun q => B ≤ q) s.heap H1 locs1 → W p l e R s m args below meth c H1 locs1 (cells + (lay'.length - lay.length)) (slots + (ax_z lay' - ax_z lay)) Q (F0 m (pc + 3) ls (rv.toList ++ rest))) : W p l e R s m args below meth c H locs cells slots Q (F0 m pc ls st0) := by
  obtain ⟨hx, hb, hr, hml, hown, hts, hlocks, hK, hfr, hlo, -⟩ := C
  have hcn := va_cnB (R := R) (mc := lay'.length - lay.length) (ms := ax_z lay' - ax_z lay) (rm := ax_rm d' (lay'.length - lay.length) (ax_z lay' - ax_z lay)) n hts (ax_goodc hY.1) rfl rfl rfl (hK.2.1 _ hlk) (hts _ hY.2.1) hY.2.2.1 ⟨by show d' + 1 ≤ _; omega, by have := hY.2.2.2; show 8 + (mL' + 11) + 40 * d' ≤ _; omega⟩
  exact ax_go (va_runSN (As := av) (rest := rest) ⟨hx, hb, hml, hown, hts⟩ hM ⟨hcn, hts _ hst, trivial⟩ ⟨ax_blind, ax_pre hK hR⟩ rfl hn hsz hst0 (lv_room hW) hdg hf) hS kk
theorem ax_callV {k ci : Nat} {fs : List (Option Value)} {q : vw_C} (C : ax_C p R s m args meth c y cc mL rt d E mc ms) (hS : va_S (fun q => B ≤ q) s.heap H locs) (hR : ax_R E B lay I J H) (hM : Cm l y' cc' mL' rt' d' E B (.ref (B + k) :: av) lay I J rv lay' I' J') (hY : ax_Y y' cc' mL' rt' n) (hin : Cond.instanceMethod y' ∈ ax_g) (hse : Cond.selects y'.cls y' y' ∈ ax_g) (hlk : Cond.methodLink y.cls idx y' ∈ ax_g) (hk : lay[k]? = some (.inl (ci, fs))) (hci : ax_cl[ci]? = some q) (hcq : q.1 = y'.cls) (hd : d' + 1 ≤ d) (hn : av.length = n) (hsz : ls.size = mL) (hW : (rest.map fun v => v.category).sum ≤ 8) {st0 : List Value} (hst0 : st0 = av.reverse ++ .ref (B + k) :: rest) (hf : cells + (lay'.length - lay.length) ≤ R.cells ∧ slots + (ax_z lay' - ax_z lay) ≤ R.slots) (hdg : decode cc pc = .ok (.invokevirtual idx, 3))
    (kk : ∀ (H1 : Heap) (locs1 : List Loc), ax_R E B lay' I' J' H1 → va_S (fun q => B ≤ q) s.heap H1 locs1 → W p l e R s m args below meth c H1 locs1 (cells + (lay'.length - lay.length)) (slots + (ax_z lay' - ax_z lay)) Q (F0 m (pc + 3) ls (rv.toList ++ rest))) : W p l e R s m args below meth c H locs cells slots Q (F0 m pc ls st0) := by
  obtain ⟨hx, hb, hr, hml, hown, hts, hlocks, hK, hfr, hlo, -⟩ := C
  have hrc := va_recv hK.1 hR.1 hci (q0 := k) (ax_W_at hk)
  rw [hcq] at hrc
  exact ax_go (va_runV (As := av) (rest := rest) ⟨hx, hb, hml, hown, hts⟩ hM ⟨ax_cb hts hY hlk hd hfr hlo, hts _ hin, hts _ hse⟩ ⟨ax_blind, hrc, ax_pre hK hR⟩ rfl hn hsz hst0 (lv_room hW) hdg hf) hS kk
theorem ax_callI {k : Nat} (C : ax_C p R s m args meth c y cc mL rt d E mc ms) (hS : va_S (fun q => B ≤ q) s.heap H locs) (hR : ax_R E B lay I J H) (hM : Cm l y' cc' mL' none d' E B (.ref (B + k) :: av) lay I J none lay' I' J') (hY : ax_Y y' cc' mL' none n) (hin : Cond.instanceMethod y' ∈ ax_g) (hnm : y'.name = "<init>") (hlk : Cond.methodLink y.cls idx y' ∈ ax_g) (hd : d' + 1 ≤ d) (hn : av.length = n) (hsz : ls.size = mL) (hW : (rest.map fun v => v.category).sum ≤ 8) {st0 : List Value} (hst0 : st0 = av.reverse ++ .ref (B + k) :: rest) (hf : cells + (lay'.length - lay.length) ≤ R.cells ∧ slots + (ax_z lay' - ax_z lay) ≤ R.slots) (hdg : decode cc pc = .ok (.invokespecial idx, 3))
    (kk : ∀ (H1 : Heap) (locs1 : List Loc), ax_R E B lay' I' J' H1 → va_S (fun q => B ≤ q) s.heap H1 locs1 → W p l e R s m args below meth c H1 locs1 (cells + (lay'.length - lay.length)) (slots + (ax_z lay' - ax_z lay)) Q (F0 m (pc + 3) ls rest)) : W p l e R s m args below meth c H locs cells slots Q (F0 m pc ls st0) := by
  obtain ⟨hx, hb, hr, hml, hown, hts, hlocks, hK, hfr, hlo, -⟩ := C
  exact ax_go (rv := none) (va_runI (As := av) (rest := rest) ⟨hx, hb, hml, hown, hts⟩ hM ⟨ax_cb hts hY hlk hd hfr hlo, hnm, hts _ hin⟩ ⟨ax_blind, ax_pre hK hR⟩ rfl hn hsz hst0 (lv_room hW) hdg hf) hS kk
theorem ax_callIN {k : Nat} (C : ax_C p R s m args meth c y cc mL rt d E mc ms) (hS : va_S (fun q => B ≤ q) s.heap H locs) (hR : ax_R E B lay I J H) (hM : Cm l y' cc' mL' none d' E B (.ref (B + k) :: av) lay I J none lay' I' J') (hY : ax_Y y' cc' mL' none n) (hin : Cond.instanceMethod y' ∈ ax_g) (hnm : y'.name = "<init>") (hlk : Cond.methodLinkNest y.cls idx y' RX6 ∈ ax_nw) (hd : d' + 1 ≤ d) (hn : av.length = n) (hsz : ls.size = mL) (hW : (rest.map fun v => v.category).sum ≤ 8) {st0 : List Value} (hst0 : st0 = av.reverse ++ .ref (B + k) :: rest) (hf : cells + (lay'.length - lay.length) ≤ R.cells ∧ slots + (ax_z lay' - ax_z lay) ≤ R.slots) (hdg : decode cc pc = .ok (.invokespecial idx, 3))
    (kk : ∀ (H1 : Heap) (locs1 : List Loc), ax_R E B lay' I' J' H1 → va_S (fun q => B ≤ q) s.heap H1 locs1 → W p l e R s m args below meth c H1 locs1 (cells + (lay'.length - lay.length)) (slots + (ax_z lay' - ax_z lay)) Q (F0 m (pc + 3) ls rest)) : W p l e R s m args below meth c H locs cells slots Q (F0 m pc ls st0) := by
  obtain ⟨hx, hb, hr, hml, hown, hts, hlocks, hK, hfr, hlo, -⟩ := C
  have hcn := va_cnB (R := R) (mc := lay'.length - lay.length) (ms := ax_z lay' - ax_z lay) (rm := ax_rm d' (lay'.length - lay.length) (ax_z lay' - ax_z lay)) n hts (ax_goodc hY.1) rfl rfl rfl (hK.2.1 _ hlk) (hts _ hY.2.1) hY.2.2.1 ⟨by show d' + 1 ≤ _; omega, by have := hY.2.2.2; show 8 + (mL' + 11) + 40 * d' ≤ _; omega⟩
  exact ax_go (rv := none) (va_runIN (As := av) (rest := rest) ⟨hx, hb, hml, hown, hts⟩ hM ⟨hcn, hnm, hts _ hin⟩ ⟨ax_blind, ax_pre hK hR⟩ rfl hn hsz hst0 (lv_room hW) hdg hf) hS kk
theorem ax_iret (C : ax_C p R s m args meth c y cc mL rt d E mc ms) (hc : cells + n0 = lay.length) (hz : slots + z0 = ax_z lay) (hR : ax_R E B lay I J H) (hS : va_S (fun q => B ≤ q) s.heap H locs) {ty : FieldType} {v : Int32} (hrt : rt = some ty) (hn : narrow ty (.int v) = .int v) (hdg : decode cc pc = .ok (.ireturn, 1)) : W p l e R s m args below meth c H locs cells slots (MQ below (ax_Q E B (some (.int v)) lay I J) args s (lay.length - n0) (ax_z lay - z0) (fun q => B ≤ q)) (F0 m pc ls [.int v]) := by
  obtain ⟨hx, hb, hr, hml, hown, hts, hlocks, hK, hfr, hlo, -⟩ := C
  rw [show lay.length - n0 = cells by omega, show ax_z lay - z0 = slots by omega]
  exact W.zret hx hb (hr.trans hrt) hn (fun t ht hW => ⟨rfl, by rw [ht]; exact hR, hS.F ht⟩) hS.2.2 hdg
theorem ax_lret (C : ax_C p R s m args meth c y cc mL (some .long) d E mc ms) (hc : cells + n0 = lay.length) (hz : slots + z0 = ax_z lay) (hR : ax_R E B lay I J H) (hS : va_S (fun q => B ≤ q) s.heap H locs) {v : Int64} (hdg : decode cc pc = .ok (.lreturn, 1)) : W p l e R s m args below meth c H locs cells slots (MQ below (ax_Q E B (some (.long v)) lay I J) args s (lay.length - n0) (ax_z lay - z0) (fun q => B ≤ q)) (F0 m pc ls [.long v]) := by
  obtain ⟨hx, hb, hr, hml, hown, hts, hlocks, hK, hfr, hlo, -⟩ := C
  rw [show lay.length - n0 = cells by omega, show ax_z lay - z0 = slots by omega]
  exact W.lret hx hb hr (fun t ht hW => ⟨rfl, by rw [ht]; exact hR, hS.F ht⟩) hS.2.2 hdg
theorem ax_vret (C : ax_C p R s m args meth c y cc mL none d E mc ms) (hc : cells + n0 = lay.length) (hz : slots + z0 = ax_z lay) (hR : ax_R E B lay I J H) (hS : va_S (fun q => B ≤ q) s.heap H locs) (hdg : decode cc pc = .ok (.return_, 1)) : W p l e R s m args below meth c H locs cells slots (MQ below (ax_Q E B none lay I J) args s (lay.length - n0) (ax_z lay - z0) (fun q => B ≤ q)) (F0 m pc ls []) := by
  obtain ⟨hx, hb, hr, hml, hown, hts, hlocks, hK, hfr, hlo, -⟩ := C
  rw [show lay.length - n0 = cells by omega, show ax_z lay - z0 = slots by omega]
  exact W.vret hx hb hr (fun t ht hW => ⟨rfl, by rw [ht]; exact hR, hS.F ht⟩) hS.2.2 hdg
theorem ax_obj (C : ax_C p R s m args meth c y cc mL rt d E mc ms) (hlk : Cond.methodLink y.cls idx objectInit ∈ ax_g) (hin : Cond.instanceMethod objectInit ∈ ax_g) (hco : Cond.code objectInit ⟨#[0xb1]⟩ 1 none ∈ ax_g) (hd : 1 ≤ d) (hsz : ls.size = mL) {a : Nat} (hW : (rest.map fun v => v.category).sum ≤ 8) (hdg : decode cc pc = .ok (.invokespecial idx, 3))
    (kk : W p l e R s m args below meth c H locs cells slots Q (F0 m (pc + 3) ls rest)) : W p l e R s m args below meth c H locs cells slots Q (F0 m pc ls (.ref a :: rest)) := by
  obtain ⟨hx, hb, hr, hml, hown, hts, hlocks, hK, hfr, hlo, -⟩ := C
  exact W.objInit hx hb hown (hts _ hlk) (hts _ hin) (hts _ hco) rfl (by rw [hml]; exact hsz) rfl hdg (by omega) (by show 2 * 0 + _ + 12 ≤ _; omega) kk
end AXC
/-! ===== out of a value that is there ===== -/
theorem ax_ip {α : Type} {q : Prop} [Decidable q] {a b : Option α} {t : α} (hq : q) (h : (if q then a else b) = some t) : a = some t := by rw [if_pos hq] at h; exact h
theorem ax_iN {α : Type} {q : Prop} [Decidable q] {a b : Option α} {t : α} (hq : ¬ q) (h : (if q then a else b) = some t) : b = some t := by rw [if_neg hq] at h; exact h
theorem ax_ck {α : Type} {q : Prop} [Decidable q] {a : Option α} {t : α} (h : (if q then a else none) = some t) : q ∧ a = some t := by
  by_cases hq : q
  · rw [if_pos hq] at h; exact ⟨hq, h⟩
  · rw [if_neg hq] at h; cases h
theorem ax_bd {α β : Type} {x : Option α} {f : α → Option β} {t : β} (h : x.bind f = some t) : ∃ y, x = some y ∧ f y = some t := by
  cases x with
  | none => cases h
  | some y => exact ⟨y, rfl, h⟩
def ax_bool (v : Int32) : Bool := decide (v = 0) || decide (v = 1)
theorem ax_bool_n {v : Int32} (h : ax_bool v = true) : narrow .boolean (.int v) = .int v := by
  unfold ax_bool at h
  simp only [Bool.or_eq_true, decide_eq_true_eq] at h
  rcases h with rfl | rfl <;> rfl
theorem ax_bool_n0 : narrow .boolean (.int 0) = .int 0 := rfl
theorem ax_bool_n1 : narrow .boolean (.int 1) = .int 1 := rfl
def ax_char (v : Int32) : Bool := decide (vp_nar .char v = v)
theorem ax_char_n {v : Int32} (h : ax_char v = true) : narrow .char (.int v) = .int v := by
  unfold ax_char at h
  simp only [decide_eq_true_eq] at h
  have h2 : narrow .char (.int v) = .int (vp_nar .char v) := rfl
  rw [h2, h]
