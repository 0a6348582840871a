/-! ===== calls that make no cell ===== -/
section AXD
variable {p : Program} {l : Launch} {e : Env} {R : Room} {s : State} {m : MethodId} {args : Array Value} {below : List Frame} {meth : Method} {c : Code} {H : Heap} {locs : List Loc} {cells slots : Nat} {Q : State → Prop}
variable {cc : ByteArray} {pc : Nat} {ls : Array Slot} {rest : List Value} {E : ax_E} {B : Nat} {lay : List ax_S} {I I' : ax_I} {J J' : ax_J} {y y' : MethodName} {cc' : ByteArray} {mL mL' : Nat} {rt rt' : Option FieldType} {d d' mc ms n idx : Nat} {av : List Value} {rv : Option Value}
theorem ax_cS (C : ax_C p R s m args meth c y cc mL rt d E mc ms) (hc : cells + lay.length = lay.length) (hz : slots + ax_z lay = ax_z lay) (hS : va_S (fun q => B ≤ q) s.heap H locs) (hR : ax_R E B lay I J H) (hM : Cm l y' cc' mL' rt' d' E B av lay I J rv lay I' J') (hY : ax_Y y' cc' mL' rt' n) (hst : Cond.static y' ∈ ax_g) (hlk : Cond.methodLink y.cls idx y' ∈ ax_g) (hd : d' + 1 ≤ d) (hn : av.length = n) (hsz : ls.size = mL) (hW : (rest.map fun v => v.category).sum ≤ 8) {st0 st1 : List Value} (hst0 : st0 = av.reverse ++ rest) (hst1 : rv.toList ++ rest = st1) (hdg : decode cc pc = .ok (.invokestatic idx, 3))
    (kk : ∀ (H1 : Heap) (locs1 : List Loc), ax_R E B lay I' J' H1 → va_S (fun q => B ≤ q) s.heap H1 locs1 → W p l e R s m args below meth c H1 locs1 cells slots Q (F0 m (pc + 3) ls st1)) : W p l e R s m args below meth c H locs cells slots Q (F0 m pc ls st0) := by
  subst hst1
  refine ax_callS C hS hR hM hY hst hlk hd hn hsz hW hst0 ⟨by omega, by omega⟩ hdg ?_
  rw [Nat.sub_self, Nat.sub_self]
  exact kk
theorem ax_cN (C : ax_C p R s m args meth c y cc mL rt d E mc ms) (hc : cells + lay.length = lay.length) (hz : slots + ax_z lay = ax_z lay) (hS : va_S (fun q => B ≤ q) s.heap H locs) (hR : ax_R E B lay I J H) (hM : Cm l y' cc' mL' rt' d' E B av lay I J rv lay I' J') (hY : ax_Y y' cc' mL' rt' n) (hst : Cond.static y' ∈ ax_g) (hlk : Cond.methodLinkNest y.cls idx y' RX6 ∈ ax_nw) (hd : d' + 1 ≤ d) (hn : av.length = n) (hsz : ls.size = mL) (hW : (rest.map fun v => v.category).sum ≤ 8) {st0 st1 : List Value} (hst0 : st0 = av.reverse ++ rest) (hst1 : rv.toList ++ rest = st1) (hdg : decode cc pc = .ok (.invokestatic idx, 3))
    (kk : ∀ (H1 : Heap) (locs1 : List Loc), ax_R E B lay I' J' H1 → va_S (fun q => B ≤ q) s.heap H1 locs1 → W p l e R s m args below meth c H1 locs1 cells slots Q (F0 m (pc + 3) ls st1)) : W p l e R s m args below meth c H locs cells slots Q (F0 m pc ls st0) := by
  subst hst1
  refine ax_callSN C hS hR hM hY hst hlk hd hn hsz hW hst0 ⟨by omega, by omega⟩ hdg ?_
  rw [Nat.sub_self, Nat.sub_self]
  exact kk
theorem ax_cV {k ci : Nat} {fs : List (Option Value)} {q : vw_C} (C : ax_C p R s m args meth c y cc mL rt d E mc ms) (hc : cells + lay.length = lay.length) (hz : slots + ax_z lay = ax_z lay) (hS : va_S (fun q => B ≤ q) s.heap H locs) (hR : ax_R E B lay I J H) (hM : Cm l y' cc' mL' rt' d' E B (.ref (B + k) :: av) lay I J rv lay I' J') (hY : ax_Y y' cc' mL' rt' n) (hin : Cond.instanceMethod y' ∈ ax_g) (hse : Cond.selects y'.cls y' y' ∈ ax_g) (hlk : Cond.methodLink y.cls idx y' ∈ ax_g) (hk : lay[k]? = some (.inl (ci, fs))) (hci : ax_cl[ci]? = some q) (hcq : q.1 = y'.cls) (hd : d' + 1 ≤ d) (hn : av.length = n) (hsz : ls.size = mL) (hW : (rest.map fun v => v.category).sum ≤ 8) {st0 st1 : List Value} (hst0 : st0 = av.reverse ++ .ref (B + k) :: rest) (hst1 : rv.toList ++ rest = st1) (hdg : decode cc pc = .ok (.invokevirtual idx, 3))
    (kk : ∀ (H1 : Heap) (locs1 : List Loc), ax_R E B lay I' J' H1 → va_S (fun q => B ≤ q) s.heap H1 locs1 → W p l e R s m args below meth c H1 locs1 cells slots Q (F0 m (pc + 3) ls st1)) : W p l e R s m args below meth c H locs cells slots Q (F0 m pc ls st0) := by
  subst hst1
  refine ax_callV C hS hR hM hY hin hse hlk hk hci hcq hd hn hsz hW hst0 ⟨by omega, by omega⟩ hdg ?_
  rw [Nat.sub_self, Nat.sub_self]
  exact kk
end AXD
theorem ax_nt {x k : Int32} {z : Int} (h : ¬ x = k) (hz : k.toInt = z) : x.toInt ≠ z := fun e => h (Int32.toInt_inj.mp (e.trans hz.symm))
