/-! ===== constructors: cells made behind a list of cells that stays ===== -/
def AP (p : Program) (l : Launch) (e : Env) (R : Room) (s : State) (m : MethodId) (args : Array Value) (below : List Frame) (meth : Method) (c : Code) (E : ax_E) (B nL : Nat) (Q : State → Prop) (kc ks : Nat) (lay : List ax_S) (I : ax_I) (J : ax_J) (pc : Nat) (lv : List (Nat × Value)) (st : List Value) : Prop :=
  ∀ (H : Heap) (locs : List Loc) (ls : Array Slot), ax_R E B lay I J H → va_S (fun q => B ≤ q) s.heap H locs → lv_has ls nL lv → W p l e R s m args below meth c H locs kc ks Q (F0 m pc ls st)
def Cn (l : Launch) (y : MethodName) (cc : ByteArray) (mL : Nat) (rt : Option FieldType) (d : Nat) (E : ax_E) (B : Nat) (av : List Value) (lay : List ax_S) (I : ax_I) (J : ax_J) (rv : Option Value) (lay' : List ax_S) (I' : ax_I) (J' : ax_J) (mc ms : Nat) : Prop :=
  Met l y (.code y cc mL rt :: ax_g) (ax_rm d mc ms) (ax_P E B av lay I J) (ax_Q E B rv lay' I' J') mc ms (fun q => B ≤ q)
theorem ax_metN {l : Launch} {y : MethodName} {cc : ByteArray} {mL : Nat} {rt : Option FieldType} {d : Nat} {E : ax_E} {B : Nat} {av : List Value} {lay : List ax_S} {I : ax_I} {J : ax_J} {rv : Option Value} {lay' : List ax_S} {I' : ax_I} {J' : ax_J} {mc ms : Nat} (hy : plainName y.cls = true) (hav : (lg_sl av).length ≤ mL)
    (body : ∀ (p : Program) (e : Env) (R : Room) (s : State) (m : MethodId) (args : Array Value) (below : List Frame) (meth : Method) (c : Code), ax_C p R s m args meth c y cc mL rt d E mc ms → AP p l e R s m args below meth c E B mL (MQ below (ax_Q E B rv lay' I' J') args s mc ms (fun q => B ≤ q)) 0 0 lay I J 0 (lv_args 0 av) []) : Cn l y cc mL rt d E B av lay I J rv lay' I' J' mc ms := by
  refine Met.ofW (cc := cc) (maxL := mL) (ret := rt) hy rfl ?_
  intro p e s m args below meth c s₁ Bd hml hv
  obtain ⟨rfl, hR, hK⟩ := hv
  have hts := atoms_spec (ws := .code y cc mL rt :: ax_g) Bd.pre
  have hC : ax_C p (ax_rm d mc ms) s m av.toArray meth c y cc mL rt d E mc ms :=
    ⟨Bd.exec, Bd.bytes, Bd.returns, hml, findClass_of_methodNamed Bd.named, fun w hw => hts w (List.mem_cons_of_mem _ hw), Bd.notSynchronized, hK, Nat.le_refl _, Nat.le_refl _, Nat.le_refl _, Nat.le_refl _, (name_of_methodNamed Bd.named Bd.method).1⟩
  have hl := lv_entry av (n := mL) hav
  rw [lg_entry_eq]
  exact body p e _ s m av.toArray below meth c hC s.heap [] _ hR va_S.rf hl
theorem ax_pg {pre L : List ax_S} {b : Nat} {s : ax_S} (hb : pre.length = b) (k : Nat) (h : L[k]? = some s) : (pre ++ L)[b + k]? = some s := by
  rw [List.getElem?_append_right (by omega), show b + k - pre.length = k by omega]
  exact h
theorem ax_ps {pre L : List ax_S} {b : Nat} (hb : pre.length = b) (k : Nat) (s : ax_S) : (pre ++ L).set (b + k) s = pre ++ L.set k s := by
  rw [List.set_append_right _ _ (by omega), show b + k - pre.length = k by omega]
section AXN
variable {p : Program} {l : Launch} {e : Env} {R : Room} {s : State} {m : MethodId} {args : Array Value} {below : List Frame} {meth : Method} {c : Code} {H : Heap} {locs : List Loc} {cells slots : Nat} {Q : State → Prop}
variable {cc : ByteArray} {pc : Nat} {ls : Array Slot} {rest : List Value} {E : ax_E} {B : Nat} {I I' : ax_I} {J J' : ax_J} {y y' : MethodName} {cc' : ByteArray} {mL mL' : Nat} {rt rt' : Option FieldType} {d d' mc ms n idx : Nat} {av : List Value} {pre L L' : List ax_S} {b nn : Nat} {own : String} {kc ks : Nat}
theorem ax_newP (hx : p.tables.exec = Jvm.exec) (hb : c.code = cc) (hts : ∀ w ∈ ax_g, w.before args s = true) (hown : s.vm.findClass own = some m.cls) (hK : ax_K E s) (hpre : pre.length = b) (hR : ax_R E B (pre ++ L) I J H) (hS : va_S (fun q => B ≤ q) s.heap H locs) {ci N : Nat} {q : vw_C} {fs : List (Option Value)} (ty : Nat → FieldType) (hc : ax_cl[ci]? = some q) (hF : ∀ w ∈ u_ws q.1 q.2.1 q.2.2, w ∈ ax_g) (hty : ∀ k, k < q.2.2 → parseFieldDescriptor (q.2.1 k).2.2.1 = some (ty k)) (hN : q.2.2 = N)
    (hcl : Cond.classLink own idx q.1 ∈ ax_g) (hinst : Cond.instantiable q.1 q.2.2 ∈ ax_g) (hini : Cond.initialized q.1 ∈ ax_g) (hfs : ∀ j, j < q.2.2 → defaultValue (ty j) = vp_V (ax_f (fun _ => 0) 0 fs) j) (hkc : cells + 1 = kc) (hks : slots + N = ks) (hcells : kc ≤ R.cells) (hslots : ks ≤ R.slots) (hn : L.length = nn) (hL : L ++ [.inl (ci, fs)] = L') (hdg : decode cc pc = .ok (.new idx, 3))
    (kk : ∀ (H1 : Heap), ax_R E B (pre ++ L') (ax_r I (b + nn) (fun _ => 0)) J H1 → va_S (fun q => B ≤ q) s.heap H1 locs → W p l e R s m args below meth c H1 locs kc ks Q (F0 m (pc + 3) ls (.ref (B + (b + nn)) :: rest))) : W p l e R s m args below meth c H locs cells slots Q (F0 m pc ls rest) := by
  subst hkc hks hL
  have hlen : (pre ++ L).length = b + nn := by rw [List.length_append, hpre, hn]
  refine ax_new hx hb hts hown hK hR hS ty hc hF hty hN hcl hinst hini hfs hcells hslots hdg ?_
  rw [hlen, List.append_assoc]
  exact kk
theorem ax_newaP (hx : p.tables.exec = Jvm.exec) (hb : c.code = cc) (hts : ∀ w ∈ ax_g, w.before args s = true) (hK : ax_K E s) (hpre : pre.length = b) (hR : ax_R E B (pre ++ L) I J H) (hS : va_S (fun q => B ≤ q) s.heap H locs) {atype : ArrayType} {kd : Nat} (harr : Cond.arrayClass (newarray.typeOf atype) ∈ ax_g) (hkd : (ax_tys E.2)[kd]? = some (E.2 kd, newarray.typeOf atype)) (h4 : kd < 4)
    {z : Int32} {N : Nat} (hdef : ∀ cA : ClassId, vp_cell cA (N, if kd = 3 then .inr (.inl (fun _ => 0)) else .inl (fun _ => 0)) = arrV cA N (fun _ => defaultValue (newarray.typeOf atype))) (hz0 : ¬ z < 0) (hN : z.toNatClampNeg = N) (hbytes : N * componentBytes (newarray.typeOf atype) ≤ 536870912) (hkc : cells + 1 = kc) (hks : slots + N = ks) (hcells : kc ≤ R.cells) (hslots : ks ≤ R.slots) (hn : L.length = nn) (hL : L ++ [.inr (.inl (kd, N))] = L') (hdg : decode cc pc = .ok (.newarray atype, 2))
    (kk : ∀ (H1 : Heap), ax_R E B (pre ++ L') (ax_r I (b + nn) (fun _ => 0)) (ax_rJ J (b + nn) (fun _ => 0)) H1 → va_S (fun q => B ≤ q) s.heap H1 locs → W p l e R s m args below meth c H1 locs kc ks Q (F0 m (pc + 2) ls (.ref (B + (b + nn)) :: rest))) : W p l e R s m args below meth c H locs cells slots Q (F0 m pc ls (.int z :: rest)) := by
  subst hkc hks hL
  have hlen : (pre ++ L).length = b + nn := by rw [List.length_append, hpre, hn]
  refine ax_newa hx hb hts hK hR hS harr hkd h4 hdef hz0 hN hbytes hcells hslots hdg ?_
  rw [hlen, List.append_assoc]
  exact kk
theorem ax_newqP (hx : p.tables.exec = Jvm.exec) (hb : c.code = cc) (hts : ∀ w ∈ ax_g, w.before args s = true) (hown : s.vm.findClass own = some m.cls) (hK : ax_K E s) (hpre : pre.length = b) (hR : ax_R E B (pre ++ L) I J H) (hS : va_S (fun q => B ≤ q) s.heap H locs) (hcl : Cond.classLink own idx RX2 ∈ ax_g)
    {z : Int32} {N : Nat} (hz0 : ¬ z < 0) (hN : z.toNatClampNeg = N) (hbytes : N * 4 ≤ 536870912) (hkc : cells + 1 = kc) (hks : slots + N = ks) (hcells : kc ≤ R.cells) (hslots : ks ≤ R.slots) (hn : L.length = nn) (hL : L ++ [.inr (.inr (N, fun _ => none))] = L') (hdg : decode cc pc = .ok (.anewarray idx, 3))
    (kk : ∀ (H1 : Heap), ax_R E B (pre ++ L') I J H1 → va_S (fun q => B ≤ q) s.heap H1 locs → W p l e R s m args below meth c H1 locs kc ks Q (F0 m (pc + 3) ls (.ref (B + (b + nn)) :: rest))) : W p l e R s m args below meth c H locs cells slots Q (F0 m pc ls (.int z :: rest)) := by
  subst hkc hks hL
  have hlen : (pre ++ L).length = b + nn := by rw [List.length_append, hpre, hn]
  refine ax_newq hx hb hts hown hK hR hS hcl hz0 hN hbytes hcells hslots hdg ?_
  rw [hlen, List.append_assoc]
  exact kk
theorem ax_putFP (hx : p.tables.exec = Jvm.exec) (hb : c.code = cc) (hts : ∀ w ∈ ax_g, w.before args s = true) (hown : s.vm.findClass own = some m.cls) (hK : ax_K E s) (hpre : pre.length = b) (hR : ax_R E B (pre ++ L) I J H) (hS : va_S (fun q => B ≤ q) s.heap H locs) {k ci j : Nat} {fs : List (Option Value)} {ty : FieldType} {v : Value} (hF : ax_FF own idx ci j ty) (hl : L[k]? = some (.inl (ci, fs))) (hj : j < fs.length) (hin : meth.name = "<init>") (hn : narrow ty v = v) (hfit : fits ty v = true) (hL : L.set k (.inl (ci, fs.set j (some v))) = L') (hdg : decode cc pc = .ok (.putfield idx, 3))
    (kk : ∀ (H1 : Heap) (locs1 : List Loc), ax_R E B (pre ++ L') I J H1 → va_S (fun q => B ≤ q) s.heap H1 locs1 → W p l e R s m args below meth c H1 locs1 cells slots Q (F0 m (pc + 3) ls rest)) : W p l e R s m args below meth c H locs cells slots Q (F0 m pc ls (v :: .ref (B + (b + k)) :: rest)) := by
  subst hL
  refine ax_putF hx hb hts hown hK hR hS hF (ax_pg hpre k hl) hj hin hn hfit hdg ?_
  rw [ax_ps hpre]
  exact kk
theorem ax_cIP {k : Nat} {Lk L0 L1 : List ax_S} (C : ax_C p R s m args meth c y cc mL rt d E mc ms) (hS : va_S (fun q => B ≤ q) s.heap H locs) (hR : ax_R E B (pre ++ L) I J H) {mc' ms' : Nat} (hM : Cn l y' cc' mL' none d' E B [.ref (B + (b + k))] ((pre ++ Lk) ++ L0) I J none ((pre ++ Lk) ++ L1) I' J' mc' ms') (hA : L = Lk ++ L0) (hB : Lk ++ L1 = L') (hY : ax_Y y' cc' mL' none 0) (hin : Cond.instanceMethod y' ∈ ax_g) (hnm : y'.name = "<init>") (hlk : Cond.methodLink y.cls idx y' ∈ ax_g ∨ Cond.methodLinkNest y.cls idx y' RX6 ∈ ax_nw) (hd : d' + 1 ≤ d) (hsz : ls.size = mL) (hW : (rest.map fun v => v.category).sum ≤ 8) (hkc : cells + mc' = kc) (hks : slots + ms' = ks) (hcells : kc ≤ R.cells) (hslots : ks ≤ R.slots) (hdg : decode cc pc = .ok (.invokespecial idx, 3))
    (kk : ∀ (H1 : Heap) (locs1 : List Loc), ax_R E B (pre ++ L') I' J' H1 → va_S (fun q => B ≤ q) s.heap H1 locs1 → W p l e R s m args below meth c H1 locs1 kc ks Q (F0 m (pc + 3) ls rest)) : W p l e R s m args below meth c H locs cells slots Q (F0 m pc ls (.ref (B + (b + k)) :: rest)) := by
  subst hkc hks hA hB
  obtain ⟨hx, hb, hr, hml, hown, hts, hlocks, hK, hfr, hlo, -⟩ := C
  rw [← List.append_assoc] at hR
  rw [← List.append_assoc] at kk
  rcases hlk with hlk | hlk
  · exact ax_go (rv := none) (va_runI (As := []) (rest := rest) ⟨hx, hb, hml, hown, hts⟩ hM ⟨ax_cb hts hY hlk hd hfr hlo, hnm, hts _ hin⟩ ⟨ax_blind, ax_pre hK hR⟩ rfl rfl hsz rfl (lv_room hW) hdg ⟨hcells, hslots⟩) hS kk
  · have hcn := va_cnB (R := R) (mc := mc') (ms := ms') (rm := ax_rm d' mc' ms') 0 hts (ax_goodc hY.1) rfl rfl rfl (hK.2.1 _ hlk) (hts _ hY.2.1) hY.2.2.1 ⟨by show d' + 1 ≤ _; omega, by have := hY.2.2.2; show 8 + (mL' + 11) + 40 * d' ≤ _; omega⟩
    exact ax_go (rv := none) (va_runIN (As := []) (rest := rest) ⟨hx, hb, hml, hown, hts⟩ hM ⟨hcn, hnm, hts _ hin⟩ ⟨ax_blind, ax_pre hK hR⟩ rfl rfl hsz rfl (lv_room hW) hdg ⟨hcells, hslots⟩) hS kk
theorem ax_vretN (C : ax_C p R s m args meth c y cc mL none d E mc ms) {lay : List ax_S} (hR : ax_R E B lay I J H) (hS : va_S (fun q => B ≤ q) s.heap H locs) (hdg : decode cc pc = .ok (.return_, 1)) : W p l e R s m args below meth c H locs cells slots (MQ below (ax_Q E B none lay I J) args s cells slots (fun q => B ≤ q)) (F0 m pc ls []) := by
  obtain ⟨hx, hb, hr, hml, hown, hts, hlocks, hK, hfr, hlo, -⟩ := C
  exact W.vret hx hb hr (fun t ht hW => ⟨rfl, by rw [ht]; exact hR, hS.F ht⟩) hS.2.2 hdg
end AXN
