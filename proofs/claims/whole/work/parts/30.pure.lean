/-! ===== what the worlds mean: one table of numbers D, the pad, the images ===== -/
abbrev pD : Type := Nat → Nat → Nat
def hv (n : Nat) : Int32 := if n = 0 then (-6) else nI (n - 1)
/-- a Diocese at b shows D -/
def CR (I : ax_I) (b : Nat) (D : pD) : Prop :=
  I b 0 = nI (D 0 0) ∧ I b 1 = nI (D 0 3) ∧ I b 2 = nI (D 0 1) ∧ I b 3 = nI (D 0 2) ∧ I b 4 = nI (D 0 4) ∧
  (∀ j, j < 6 → I (b + 1) j = nI (D 1 j)) ∧ (∀ j, j < 6 → I (b + 2) j = nI (D 2 j)) ∧ (∀ j, j < 6 → I (b + 3) j = nI (D 3 j)) ∧ (∀ j, j < 48 → I (b + 4) j = hv (D 5 j)) ∧
  (∀ j, j < 6 → I (b + 5) j = nI (D 6 j)) ∧ (∀ j, j < 6 → I (b + 6) j = nI (D 7 j)) ∧ (∀ j, j < 6 → I (b + 7) j = nI (D 8 j)) ∧ (∀ j, j < 4 → I (b + 8) j = nI (D 9 j)) ∧ (∀ j, j < 3 → I (b + 9) j = nI (D 10 j)) ∧ (∀ j, j < 8 → I (b + 10) j = nI (D 11 j)) ∧
  (∀ j, j < D 0 2 → I (b + 11) j = nI (10 * D 12 j + D 13 j))
/-- the model's rows show D -/
def MV (x0 x1 x2 : Int32) (M : Nat → Nat → Int32) (D : pD) : Prop :=
  x0 = nI (D 0 0) ∧ x1 = nI (D 0 1) ∧ x2 = nI (D 0 2) ∧
  (∀ j, j < 6 → M 1 j = nI (D 1 j)) ∧ (∀ j, j < 6 → M 2 j = nI (D 2 j)) ∧ (∀ j, j < 6 → M 3 j = nI (D 3 j)) ∧ (∀ j, j < 6 → M 4 j = nI (D 0 3 / 2 ^ j % 2)) ∧ (∀ j, j < 48 → M 5 j = hv (D 5 j)) ∧
  (∀ j, j < 6 → M 6 j = nI (D 6 j)) ∧ (∀ j, j < 6 → M 7 j = nI (D 7 j)) ∧ (∀ j, j < 6 → M 8 j = nI (D 8 j)) ∧ (∀ j, j < 4 → M 9 j = nI (D 9 j)) ∧ (∀ j, j < 3 → M 10 j = nI (D 10 j)) ∧ (∀ j, j < 8 → M 11 j = nI (D 11 j)) ∧
  (∀ j, j < D 0 2 → M 12 j = nI (D 12 j)) ∧ (∀ j, j < D 0 2 → M 13 j = nI (D 13 j)) ∧ (∀ j, j < D 0 2 → M 14 j = nI (D 0 4 / 2 ^ j % 2))
def MR (I : ax_I) (D : pD) : Prop := MV (I 35 0) (I 35 1) (I 35 16) (fun r => I (35 + r)) D
/-- where a row begins in a kept image -/
def ko (r : Nat) : Nat := match r with
  | 1 => 3
  | 2 => 9
  | 3 => 15
  | 4 => 21
  | 5 => 27
  | 6 => 75
  | 7 => 81
  | 8 => 87
  | 9 => 93
  | 10 => 97
  | 11 => 100
  | 12 => 108
  | 13 => 116
  | _ => 124
def KR (I : ax_I) (k : Nat) (D : pD) : Prop := MV (I 59 (160 * k)) (I 59 (160 * k + 1)) (I 59 (160 * k + 2)) (fun r j => I 59 (160 * k + ko r + j)) D
def WF (D : pD) : Prop :=
  D 0 0 < 64 ∧ D 0 1 ≤ 99 ∧ D 0 2 ≤ 8 ∧ D 0 3 < 64 ∧ D 0 4 < 256 ∧
  (∀ j, j < 6 → D 1 j ≤ 99) ∧ (∀ j, j < 6 → D 2 j ≤ 99) ∧ (∀ j, j < 6 → D 3 j ≤ 99) ∧ (∀ j, j < 48 → D 5 j ≤ 4) ∧
  (∀ j, j < 6 → D 6 j ≤ 99) ∧ (∀ j, j < 6 → D 7 j ≤ 999) ∧ (∀ j, j < 6 → D 8 j ≤ 4095) ∧ (∀ j, j < 4 → D 9 j ≤ 999) ∧ (∀ j, j < 3 → D 10 j ≤ 9) ∧ (∀ j, j < 8 → D 11 j ≤ 1023) ∧
  (∀ j, j < D 0 2 → D 12 j ≤ 9) ∧ (∀ j, j < D 0 2 → D 13 j ≤ 9)
/-- the pad: n signs -/
def PR (I : ax_I) (n : Nat) (S : Nat → Nat) : Prop := I 26 1 = nI n ∧ I 35 18 = nI n ∧ n ≤ 60 ∧ (∀ j, j < n → I 27 j = nI (S j)) ∧ (∀ j, j < n → I 50 j = nI (S j)) ∧ (∀ j, j < n → 33 ≤ S j ∧ S j ≤ 126)
def Im (B : Nat) (lay : List ax_S) (g : Nat → Option Nat) (I : ax_I) : Prop :=
  (∀ k, k < 2 → (g k = none ∧ I 60 k = 0) ∨ ∃ (b : Nat) (D : pD), g k = some (B + b) ∧ 61 ≤ b ∧ b + 12 ≤ lay.length ∧ ax_Dio B lay b ∧ CR I b D ∧ KR I k D ∧ WF D ∧ I 60 k = 1) ∧
  ∀ b0 b1, g 0 = some (B + b0) → g 1 = some (B + b1) → b0 + 12 ≤ b1 ∨ b1 + 12 ≤ b0
def gc (g : Nat → Option Nat) : Nat := (if g 0 = none then 0 else 1) + (if g 1 = none then 0 else 1)
def Inv (B : Nat) (lay : List ax_S) (I : ax_I) (_ : ax_J) : Prop :=
  ∃ (g : Nat → Option Nat) (ext : List ax_S) (D : pD) (n : Nat) (S : Nat → Nat), lay = ax_L B g ++ ext ∧ ext.length = 12 * gc g ∧ ax_z ext = 123 * gc g ∧ CR I 1 D ∧ MR I D ∧ WF D ∧ PR I n S ∧ Im B lay g I
/-! ===== numbers ===== -/
theorem p_lt (a b : Int32) : a < b ↔ a.toInt < b.toInt := Int32.lt_iff_toInt_lt
theorem p_le (a b : Int32) : a ≤ b ↔ a.toInt ≤ b.toInt := Int32.le_iff_toInt_le
theorem p_in {i n : Nat} (h : i < n) (hn : n < 2 ^ 31) : ax_in (nI i) n = true := by
  unfold ax_in
  rw [nI_clamp (by omega)]
  simp only [Bool.and_eq_true, decide_eq_true_eq]
  exact ⟨nI_pos (by omega), h⟩
theorem p_cl {i : Nat} (h : i < 2 ^ 31) : (nI i).toNatClampNeg = i := nI_clamp h
theorem p_within (I : ax_I) (x lo hi : Int32) : F_X6_within I x lo hi = some (if lo ≤ x ∧ x ≤ hi then 1 else 0) := by
  unfold F_X6_within
  simp only [p_lt, p_le]
  by_cases h1 : x.toInt < lo.toInt
  · rw [if_pos h1, if_neg (by omega)]
  · rw [if_neg h1]
    by_cases h2 : hi.toInt < x.toInt
    · rw [if_pos h2, if_neg (by omega)]
    · rw [if_neg h2, if_pos (by omega)]
theorem p_cmp_lt (a b : Int64) : lg_cmp a b < 0 ↔ a < b := by
  unfold lg_cmp
  by_cases h1 : a > b
  · rw [if_pos h1]
    have h2 : b.toInt < a.toInt := Int64.lt_iff_toInt_lt.mp h1
    rw [Int64.lt_iff_toInt_lt]
    constructor
    · intro h; exact absurd h (by decide)
    · intro h; omega
  · rw [if_neg h1]
    have h2 : ¬ b.toInt < a.toInt := fun h => h1 (Int64.lt_iff_toInt_lt.mpr h)
    by_cases h3 : a = b
    · rw [if_pos h3, h3]
      constructor
      · intro h; exact absurd h (by decide)
      · intro h; exact absurd (Int64.lt_iff_toInt_lt.mp h) (by omega)
    · rw [if_neg h3]
      have h4 : a.toInt ≠ b.toInt := fun h => h3 (Int64.toInt_inj.mp h)
      rw [Int64.lt_iff_toInt_lt]
      constructor
      · intro _; omega
      · intro _; decide
theorem p_cmp_gt (a b : Int64) : 0 < lg_cmp a b ↔ b < a := by
  unfold lg_cmp
  by_cases h1 : a > b
  · rw [if_pos h1]
    exact ⟨fun _ => h1, fun _ => by decide⟩
  · rw [if_neg h1]
    refine ⟨fun h => ?_, fun h => absurd h h1⟩
    by_cases h3 : a = b
    · rw [if_pos h3] at h; exact absurd h (by decide)
    · rw [if_neg h3] at h; exact absurd h (by decide)
theorem p_wlt (a b : Int32) : a.toInt64 < b.toInt64 ↔ a < b := by
  rw [Int64.lt_iff_toInt_lt, Int32.lt_iff_toInt_lt, Int32.toInt_toInt64, Int32.toInt_toInt64]
theorem p_min (I : ax_I) (x lo hi : Int32) {lo' hi' : Int64} (h1 : lo' = lo.toInt64) (h2 : hi' = hi.toInt64) : F_X7_in I x.toInt64 lo' hi' = some (if lo ≤ x ∧ x ≤ hi then 1 else 0) := by
  unfold F_X7_in
  subst h1 h2
  simp only [p_cmp_lt, p_cmp_gt, p_wlt]
  simp only [p_lt, p_le]
  by_cases h1 : x.toInt < lo.toInt
  · rw [if_pos h1, if_neg (by omega)]
  · rw [if_neg h1]
    by_cases h2 : hi.toInt < x.toInt
    · rw [if_pos h2, if_neg (by omega)]
    · rw [if_neg h2, if_pos (by omega)]
theorem p_ite01 {c : Prop} [Decidable c] : ((if c then (1 : Int32) else 0) = 0) ↔ ¬ c := by
  by_cases h : c
  · simp [h]
  · simp [h]
theorem p_rng (x : Int32) (n : Nat) (hn : n < 2 ^ 31) : (∃ i, i ≤ n ∧ x = nI i) ∨ ¬ (0 ≤ x ∧ x ≤ nI n) := by
  by_cases h : 0 ≤ x ∧ x ≤ nI n
  · left
    rw [p_le, p_le, nI_toInt hn] at h
    have h0 : (0 : Int32).toInt = 0 := by decide
    refine ⟨x.toInt.toNat, by omega, ?_⟩
    apply Int32.toInt_inj.mp
    rw [nI_toInt (by omega)]
    omega
  · exact Or.inr h
theorem p_rngT {i n : Nat} (h : i ≤ n) (hn : n < 2 ^ 31) : 0 ≤ nI i ∧ nI i ≤ nI n := ⟨nI_pos' (by omega), nI_le h hn⟩
theorem p_some {α : Type} (a : α) {β : Type} (f : α → Option β) : (some a).bind f = f a := rfl
/-- every row that is not touched -/
theorem Im_hi {B : Nat} {lay : List ax_S} {g : Nat → Option Nat} {I I' : ax_I} (h : Im B lay g I) (hi : ∀ r j, 59 ≤ r → I' r j = I r j) : Im B lay g I' := by
  refine ⟨fun k hk => ?_, h.2⟩
  rcases h.1 k hk with ⟨h1, h2⟩ | ⟨b, D, h1, h2, h3, h4, h5, h6, h7, h8⟩
  · exact Or.inl ⟨h1, by rw [hi 60 k (by omega)]; exact h2⟩
  · refine Or.inr ⟨b, D, h1, h2, h3, h4, ?_, ?_, h7, by rw [hi 60 k (by omega)]; exact h8⟩
    · unfold CR at h5 ⊢
      have e : ∀ r j, I' (b + r) j = I (b + r) j := fun r j => hi _ _ (by omega)
      have e0 : ∀ j, I' b j = I b j := fun j => hi _ _ (by omega)
      simp only [e, e0]
      exact h5
    · unfold KR at h6 ⊢
      have e : ∀ j, I' 59 j = I 59 j := fun j => hi _ _ (by omega)
      simp only [e]
      exact h6
theorem p_wT {I : ax_I} {x lo hi : Int32} (h : lo ≤ x ∧ x ≤ hi) : F_X6_within I x lo hi = some 1 := by rw [p_within, if_pos h]
theorem p_wF {I : ax_I} {x lo hi : Int32} (h : ¬ (lo ≤ x ∧ x ≤ hi)) : F_X6_within I x lo hi = some 0 := by rw [p_within, if_neg h]
theorem p_mT {I : ax_I} {x : Int32} (lo hi : Int32) {lo' hi' : Int64} (h : lo ≤ x ∧ x ≤ hi) (h1 : lo' = lo.toInt64) (h2 : hi' = hi.toInt64) : F_X7_in I x.toInt64 lo' hi' = some 1 := by rw [p_min I x lo hi h1 h2, if_pos h]
theorem p_mF {I : ax_I} {x : Int32} (lo hi : Int32) {lo' hi' : Int64} (h : ¬ (lo ≤ x ∧ x ≤ hi)) (h1 : lo' = lo.toInt64) (h2 : hi' = hi.toInt64) : F_X7_in I x.toInt64 lo' hi' = some 0 := by rw [p_min I x lo hi h1 h2, if_neg h]
theorem p10 : ((1 : Int32) = 0) = False := eq_false (by decide)
theorem p_bool1 : ax_bool 1 = true := by decide
theorem p_bool0 : ax_bool 0 = true := by decide
/-! ===== the end of an operation that makes no cell ===== -/
theorem inv_sz {B : Nat} {lay : List ax_S} {I : ax_I} {J : ax_J} (h : Inv B lay I J) : lay.length ≤ 200 ∧ ax_z lay ≤ 100000 ∧ ax_LL B lay := by
  obtain ⟨g, ext, D, n, S, hlay, hext, hez, -⟩ := h
  have hg : gc g ≤ 2 := by unfold gc; split <;> split <;> omega
  refine ⟨?_, ?_, g, ext, hlay⟩
  · rw [hlay, List.length_append, lw_len]; omega
  · rw [hlay, ax_z_app, lw_zz]; omega
theorem op_i {l : Launch} {E : ax_E} {B : Nat} {lay : List ax_S} {I : ax_I} {J : ax_J} {yx : MethodName} {cx : ByteArray} {mx : Nat} {ym : MethodName} {cm : ByteArray} {mm : Nat} {av : List Value} {r : Int32} {d1 d2 : Nat} {I1 I2 : ax_I} {J1 J2 : ax_J} (h1 : Cm l yx cx mx (some .int) d1 E B (.ref (B + 0) :: av) lay I J (some (.int r)) lay I1 J1) (h2 : Cm l ym cm mm (some .int) d2 E B (.ref (B + 35) :: av) lay I1 J1 (some (.int r)) lay I2 J2) (hd1 : d1 ≤ 90) (hd2 : d2 ≤ 90) (hI : Inv B lay I2 J2) :
    ∃ (r : Value) (d1 d2 : Nat) (lay1 : List ax_S) (I1 : ax_I) (J1 : ax_J) (lay2 : List ax_S) (I2 : ax_I) (J2 : ax_J), isI r ∧ d1 ≤ 90 ∧ d2 ≤ 90 ∧ Cm l yx cx mx (some .int) d1 E B (.ref (B + 0) :: av) lay I J (some r) lay1 I1 J1 ∧ Cm l ym cm mm (some .int) d2 E B (.ref (B + 35) :: av) lay1 I1 J1 (some r) lay2 I2 J2 ∧ (lay.length ≤ lay1.length ∧ ax_z lay ≤ ax_z lay1 ∧ lay1.length ≤ 200 ∧ ax_z lay1 ≤ 100000 ∧ ax_LL B lay1) ∧ (lay1.length ≤ lay2.length ∧ ax_z lay1 ≤ ax_z lay2 ∧ lay2.length ≤ 200 ∧ ax_z lay2 ≤ 100000) ∧ Inv B lay2 I2 J2 := by
  obtain ⟨q1, q2, q3⟩ := inv_sz hI
  exact ⟨.int r, d1, d2, lay, I1, J1, lay, I2, J2, ⟨r, rfl⟩, hd1, hd2, h1, h2, ⟨Nat.le_refl _, Nat.le_refl _, q1, q2, q3⟩, ⟨Nat.le_refl _, Nat.le_refl _, q1, q2⟩, hI⟩
