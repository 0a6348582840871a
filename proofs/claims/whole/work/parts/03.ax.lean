/-! ===== the abstract world: cells at B, B + 1, ..; a cell's shape; ints by (place, slot), longs likewise ===== -/
abbrev ax_S : Type := (Nat × List (Option Value)) ⊕ ((Nat × Nat) ⊕ (Nat × (Nat → Option Nat)))
abbrev ax_I : Type := Nat → Nat → Int32
abbrev ax_J : Type := Nat → Nat → Int64
abbrev ax_E : Type := va_G × (Nat → ClassId)
def ax_f (i : Nat → Int32) : Nat → List (Option Value) → List Value
  | _, [] => []
  | k, none :: r => .int (i k) :: ax_f i (k + 1) r
  | k, some v :: r => v :: ax_f i (k + 1) r
theorem ax_f_get (i : Nat → Int32) : ∀ (fs : List (Option Value)) (k j : Nat), (ax_f i k fs)[j]? = (fs[j]?).map (fun o => o.getD (.int (i (k + j))))
  | [], k, j => by simp [ax_f]
  | none :: r, k, 0 => by simp [ax_f]
  | some v :: r, k, 0 => by simp [ax_f]
  | none :: r, k, j + 1 => by
    have h := ax_f_get i r (k + 1) j
    simp only [ax_f, List.getElem?_cons_succ]
    rw [h, show k + 1 + j = k + (j + 1) by omega]
  | some v :: r, k, j + 1 => by
    have h := ax_f_get i r (k + 1) j
    simp only [ax_f, List.getElem?_cons_succ]
    rw [h, show k + 1 + j = k + (j + 1) by omega]
theorem ax_f_len (i : Nat → Int32) : ∀ (fs : List (Option Value)) (k : Nat), (ax_f i k fs).length = fs.length
  | [], k => rfl
  | none :: r, k => by simp [ax_f, ax_f_len i r (k + 1)]
  | some v :: r, k => by simp [ax_f, ax_f_len i r (k + 1)]
def ax_e (cA : Nat → ClassId) (s : ax_S) (i : Nat → Int32) (j : Nat → Int64) : va_E := match s with
  | .inl o => .inr (o.1, ax_f i 0 o.2)
  | .inr (.inl a) => .inl (cA a.1, a.2, if a.1 = 3 then .inr (.inl j) else .inl i)
  | .inr (.inr a) => .inl (cA 4, a.1, .inr (.inr (.inr (.inr a.2))))
def ax_w (cA : Nat → ClassId) (B : Nat) (I : ax_I) (J : ax_J) : Nat → List ax_S → va_W
  | _, [] => []
  | k, s :: r => (B + k, ax_e cA s (I k) (J k)) :: ax_w cA B I J (k + 1) r
theorem ax_w_get (cA : Nat → ClassId) (B : Nat) (I : ax_I) (J : ax_J) : ∀ (lay : List ax_S) (k n : Nat), (ax_w cA B I J k lay)[n]? = (lay[n]?).map (fun s => (B + (k + n), ax_e cA s (I (k + n)) (J (k + n))))
  | [], k, n => by simp [ax_w]
  | s :: r, k, 0 => by simp [ax_w]
  | s :: r, k, n + 1 => by
    have h := ax_w_get cA B I J r (k + 1) n
    simp only [ax_w, List.getElem?_cons_succ]
    rw [h, show k + 1 + n = k + (n + 1) by omega]
def ax_W (cA : Nat → ClassId) (B : Nat) (lay : List ax_S) (I : ax_I) (J : ax_J) : va_W := ax_w cA B I J 0 lay
theorem ax_W_get (cA : Nat → ClassId) (B : Nat) (lay : List ax_S) (I : ax_I) (J : ax_J) (n : Nat) : (ax_W cA B lay I J)[n]? = (lay[n]?).map (fun s => (B + n, ax_e cA s (I n) (J n))) := by
  unfold ax_W
  rw [ax_w_get, Nat.zero_add]
theorem ax_W_at {cA : Nat → ClassId} {B : Nat} {lay : List ax_S} {I : ax_I} {J : ax_J} {n : Nat} {s : ax_S} (h : lay[n]? = some s) : (ax_W cA B lay I J)[n]? = some (B + n, ax_e cA s (I n) (J n)) := by
  rw [ax_W_get, h]; rfl
theorem ax_W_D (cA : Nat → ClassId) (B : Nat) (lay : List ax_S) (I : ax_I) (J : ax_J) : va_D (fun q => B ≤ q) (ax_W cA B lay I J) := by
  have key : ∀ (k : Nat) (q : Nat × va_E), (ax_W cA B lay I J)[k]? = some q → q.1 = B + k := by
    intro k q h
    rw [ax_W_get] at h
    cases hs : lay[k]? with
    | none => rw [hs] at h; cases h
    | some s => rw [hs] at h; cases h; rfl
  refine ⟨fun i j p q hi hj e => ?_, fun k q h => ?_⟩
  · have h1 := key i p hi
    have h2 := key j q hj
    omega
  · have h1 := key k q h
    show B ≤ q.1
    omega
theorem ax_W_set {cA : Nat → ClassId} {B : Nat} {lay : List ax_S} {I I' : ax_I} {J J' : ax_J} {k : Nat} {s s' : ax_S} (h : lay[k]? = some s) (hI : ∀ q, q ≠ k → I' q = I q) (hJ : ∀ q, q ≠ k → J' q = J q) :
    (ax_W cA B lay I J).set k (B + k, ax_e cA s' (I' k) (J' k)) = ax_W cA B (lay.set k s') I' J' := by
  apply List.ext_getElem?
  intro n
  by_cases hn : n = k
  · subst hn
    have hl : n < lay.length := (List.getElem?_eq_some_iff.mp h).1
    have hl2 : n < (ax_W cA B lay I J).length := (List.getElem?_eq_some_iff.mp (ax_W_at h)).1
    rw [List.getElem?_set_self hl2, ax_W_get, List.getElem?_set_self hl]
    rfl
  · rw [List.getElem?_set_ne (Ne.symm hn), ax_W_get, ax_W_get, List.getElem?_set_ne (Ne.symm hn), hI n hn, hJ n hn]
theorem ax_set_same {lay : List ax_S} {k : Nat} {s : ax_S} (h : lay[k]? = some s) : lay.set k s = lay := by
  apply List.ext_getElem?
  intro n
  by_cases hn : n = k
  · subst hn
    rw [List.getElem?_set_self (List.getElem?_eq_some_iff.mp h).1, h]
  · rw [List.getElem?_set_ne (Ne.symm hn)]
theorem ax_W_push {cA : Nat → ClassId} {B : Nat} {lay : List ax_S} {I I' : ax_I} {J J' : ax_J} {s : ax_S} (hI : ∀ q, q < lay.length → I' q = I q) (hJ : ∀ q, q < lay.length → J' q = J q) :
    ax_W cA B lay I J ++ [(B + lay.length, ax_e cA s (I' lay.length) (J' lay.length))] = ax_W cA B (lay ++ [s]) I' J' := by
  have hlen : (ax_W cA B lay I J).length = lay.length := by
    rcases Nat.lt_trichotomy (ax_W cA B lay I J).length lay.length with h | h | h
    · have h1 := ax_W_get cA B lay I J (ax_W cA B lay I J).length
      rw [List.getElem?_eq_none (Nat.le_refl _), List.getElem?_eq_getElem h] at h1
      cases h1
    · exact h
    · have h1 := ax_W_get cA B lay I J lay.length
      rw [List.getElem?_eq_none (l := lay) (Nat.le_refl _), List.getElem?_eq_getElem h] at h1
      cases h1
  apply List.ext_getElem?
  intro n
  rw [ax_W_get]
  rcases Nat.lt_trichotomy n lay.length with h | h | h
  · rw [List.getElem?_append_left (by rw [hlen]; exact h), List.getElem?_append_left h, ax_W_get, hI n h, hJ n h]
  · subst h
    rw [List.getElem?_append_right (by rw [hlen]; exact Nat.le_refl _), List.getElem?_append_right (Nat.le_refl _), hlen]
    simp
  · rw [List.getElem?_eq_none (by simp [hlen]; omega), List.getElem?_eq_none (by simp; omega)]
    rfl
/-- one int, one long, one row anew -/
def ax_u (I : ax_I) (k j : Nat) (x : Int32) : ax_I := fun q => if q = k then upd (I k) j x else I q
def ax_v (J : ax_J) (k j : Nat) (x : Int64) : ax_J := fun q => if q = k then vp_updL (J k) j x else J q
def ax_r (I : ax_I) (k : Nat) (f : Nat → Int32) : ax_I := fun q => if q = k then f else I q
def ax_rJ (J : ax_J) (k : Nat) (f : Nat → Int64) : ax_J := fun q => if q = k then f else J q
theorem ax_u_s (I : ax_I) (k j : Nat) (x : Int32) : ax_u I k j x k = upd (I k) j x := by simp [ax_u]
theorem ax_u_n {I : ax_I} {k j : Nat} {x : Int32} {q : Nat} (h : q ≠ k) : ax_u I k j x q = I q := by simp [ax_u, h]
theorem ax_v_s (J : ax_J) (k j : Nat) (x : Int64) : ax_v J k j x k = vp_updL (J k) j x := by simp [ax_v]
theorem ax_v_n {J : ax_J} {k j : Nat} {x : Int64} {q : Nat} (h : q ≠ k) : ax_v J k j x q = J q := by simp [ax_v, h]
theorem ax_r_s (I : ax_I) (k : Nat) (f : Nat → Int32) : ax_r I k f k = f := by simp [ax_r]
theorem ax_r_n {I : ax_I} {k : Nat} {f : Nat → Int32} {q : Nat} (h : q ≠ k) : ax_r I k f q = I q := by simp [ax_r, h]
theorem ax_rJ_s (J : ax_J) (k : Nat) (f : Nat → Int64) : ax_rJ J k f k = f := by simp [ax_rJ]
theorem ax_rJ_n {J : ax_J} {k : Nat} {f : Nat → Int64} {q : Nat} (h : q ≠ k) : ax_rJ J k f q = J q := by simp [ax_rJ, h]
def ax_in (i : Int32) (n : Nat) : Bool := decide (¬ (i < 0)) && decide (i.toNatClampNeg < n)
theorem ax_in_vp {i : Int32} {n : Nat} (h : ax_in i n = true) : vp_in i n := by
  unfold ax_in at h
  simp only [Bool.and_eq_true, decide_eq_true_eq] at h
  intro q
  rcases q with q | q
  · exact h.1 q
  · omega
/-! ===== the classes, the tables ===== -/
def ax_cl : List vw_C := [(RX0, TX0, 4), (RX1, TX1, 1), (RX2, TX2, 16), (RX3, TX3, 2), (RX4, TX4, 2), (RX5, TX5, 7), (RX6, TX6, 8), (RX7, TX7, 38)]
def ax_tys (cA : Nat → ClassId) : List (ClassId × FieldType) := [(cA 0, .int), (cA 1, .char), (cA 2, .boolean), (cA 3, .long), (cA 4, .object RX2)]
def ax_g : List Cond := lw_tbl.filter goodWord
theorem ax_gm {w : Cond} (i : Nat) (h : lw_tbl[i]? = some w) (hg : goodWord w = true) : w ∈ ax_g := List.mem_filter.mpr ⟨List.mem_of_getElem? h, hg⟩
theorem ax_gd {w : Cond} (h : w ∈ lw_tbl) (hg : goodWord w = true) : w ∈ ax_g := List.mem_filter.mpr ⟨h, hg⟩
theorem ax_good {w : Cond} (h : w ∈ ax_g) : GoodIn ax_g [w] := fun v hv => by
  rw [List.mem_singleton] at hv
  subst hv
  exact ⟨h, good_of_word (List.mem_filter.mp h).2⟩
theorem ax_goodc {y : MethodName} {cc : ByteArray} {n : Nat} {r : Option FieldType} (h : Cond.code y cc n r ∈ ax_g) : GoodIn ax_g (Cond.code y cc n r :: ax_g) := fun v hv => by
  rcases List.mem_cons.mp hv with hv | hv
  · subst hv
    exact ⟨h, good_of_word (List.mem_filter.mp h).2⟩
  · exact ⟨hv, good_of_word (List.mem_filter.mp hv).2⟩
def ax_nw : List Cond := [.methodLinkNest RX6 25 yX4_init RX6, .methodLinkNest RX6 32 yX5_init RX6, .methodLinkNest RX5 11 yX0_init RX6, .methodLinkNest RX6 39 yX0_init RX6, .methodLinkNest RX6 46 yX1_init RX6, .methodLinkNest RX6 53 yX3_init RX6, .methodLinkNest RX2 67 yX6_within RX6, .methodLinkNest RX4 31 yX6_within RX6]
def ax_K (E : ax_E) (U : State) : Prop := va_K E.1 ax_cl (ax_tys E.2) U ∧ (∀ w ∈ ax_nw, va_Nw w U) ∧ va_AO RX2 U
theorem ax_K_same {E : ax_E} {u U : State} (h : u.vm = U.vm) (hK : ax_K E u) : ax_K E U := by
  refine ⟨va_K.moved (by rw [h]; exact Vm.Alike.refl _) hK.1, fun w hw => va_Nw.same ?_ h (hK.2.1 w hw), va_AO.moved (by rw [h]; exact Vm.Alike.refl _) hK.2.2⟩
  have hall : ∀ w ∈ ax_nw, w.onTables = true := by
    intro w hw
    simp only [ax_nw, List.mem_cons, List.not_mem_nil, or_false] at hw
    rcases hw with rfl | rfl | rfl | rfl | rfl | rfl | rfl | rfl <;> rfl
  exact hall w hw
theorem ax_K_warm {E : ax_E} {s U : State} (hW : s.WarmedH U.vm) (hK : ax_K E s) : ax_K E U := by
  refine ⟨va_K.moved hW.alike hK.1, ?_, va_AO.moved hW.alike hK.2.2⟩
  intro w hw
  have h := hK.2.1 w hw
  simp only [ax_nw, List.mem_cons, List.not_mem_nil, or_false] at hw
  rcases hw with rfl | rfl | rfl | rfl | rfl | rfl | rfl | rfl <;> exact va_Nw.warmM hW h
def ax_R (E : ax_E) (B : Nat) (lay : List ax_S) (I : ax_I) (J : ax_J) (H : Heap) : Prop := va_P E.1 ax_cl (ax_W E.2 B lay I J) H ∧ H.size = B + lay.length
/-- the slots of a shape, of a layout -/
def ax_sz (s : ax_S) : Nat := match s with
  | .inl o => o.2.length
  | .inr (.inl a) => a.2
  | .inr (.inr a) => a.1
def ax_z (lay : List ax_S) : Nat := (lay.map ax_sz).sum
theorem ax_z_push (lay : List ax_S) (s : ax_S) : ax_z (lay ++ [s]) = ax_z lay + ax_sz s := by simp [ax_z]
theorem ax_z_app (a b : List ax_S) : ax_z (a ++ b) = ax_z a + ax_z b := by simp [ax_z]
