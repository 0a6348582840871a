/-! ===== rivals ===== -/
def iI (v : Int) : Int32 := Int32.ofInt v
theorem iI_n (n : Nat) : iI (n : Int) = nI n := by
  apply Int32.toBitVec_inj.mp
  show BitVec.ofInt 32 n = BitVec.ofNat 32 n
  simp
theorem iI_add (a b : Int) : iI a + iI b = iI (a + b) := by
  apply Int32.toBitVec_inj.mp
  show BitVec.ofInt 32 a + BitVec.ofInt 32 b = BitVec.ofInt 32 (a + b)
  rw [BitVec.ofInt_add]
theorem iI_sub (a b : Int) : iI a - iI b = iI (a - b) := by
  apply Int32.toBitVec_inj.mp
  show BitVec.ofInt 32 a - BitVec.ofInt 32 b = BitVec.ofInt 32 (a - b)
  rw [Int.sub_eq_add_neg, BitVec.ofInt_add, BitVec.ofInt_neg, BitVec.sub_eq_add_neg]
theorem iI_t {v : Int} (h1 : -(2 ^ 30) < v) (h2 : v < 2 ^ 30) : (iI v).toInt = v := by
  show (BitVec.ofInt 32 v).toInt = v
  rw [BitVec.toInt_ofInt]
  apply Int.bmod_eq_of_le <;> omega
theorem iI_le {a b : Int} (h1 : -(2 ^ 30) < a) (h2 : a < 2 ^ 30) (h3 : -(2 ^ 30) < b) (h4 : b < 2 ^ 30) : (iI a ≤ iI b) ↔ a ≤ b := by rw [p_le, iI_t h1 h2, iI_t h3 h4]
theorem iI_lt {a b : Int} (h1 : -(2 ^ 30) < a) (h2 : a < 2 ^ 30) (h3 : -(2 ^ 30) < b) (h4 : b < 2 ^ 30) : (iI a < iI b) ↔ a < b := by rw [p_lt, iI_t h1 h2, iI_t h3 h4]
def wv (D : pD) (c p q : Nat) : Int := (D 1 c : Int) + p - q
def sv (D : pD) (c t p q : Nat) : Int := (D 2 c : Int) - (((t + 1) / 2 : Nat) - (p : Int)) + ((t / 2 : Nat) - (q : Int))
/-- does the turn t (n - d) with p and q end well -/
def V (D : pD) (c n : Nat) : Nat → Nat → Nat → Bool
  | 0, p, q => decide (D 10 2 ≤ D 3 c) && decide ((D 10 0 : Int) ≤ wv D c p q) && decide (sv D c n p q ≤ D 10 1)
  | d + 1, p, q => if (n - (d + 1)) % 2 = 0 then (decide (p < 6) && V D c n d (p + 1) q) || (decide (0 < sv D c (n - (d + 1)) p q) && V D c n d p q)
    else V D c n d p q && (decide (wv D c p q ≤ 0) || decide (6 ≤ q) || V D c n d p (q + 1))
def b01 (b : Bool) : Int32 := if b then 1 else 0
theorem m_wv {I : ax_I} {D : pD} (hM : MR I D) {c p q : Nat} (hc : c ≤ 5) : F_X7_wondersAt I (nI c) (nI p) (nI q) = some (iI (wv D c p q)) := by
  have hi : ax_in (nI c) 6 = true := p_in (by omega) (by decide)
  have hcl : (nI c).toNatClampNeg = c := p_cl (by omega)
  rw [F_X7_wondersAt, if_pos hi, hcl, MR_won hM (by omega), ← iI_n, ← iI_n, ← iI_n, iI_add, iI_sub]; rfl
theorem m_sv {I : ax_I} {D : pD} (hM : MR I D) {c t p q : Nat} (hc : c ≤ 5) (ht : t < 100) : F_X7_sinsAt I (nI c) (nI t) (nI p) (nI q) = some (iI (sv D c t p q)) := by
  have hi : ax_in (nI c) 6 = true := p_in (by omega) (by decide)
  have hcl : (nI c).toNatClampNeg = c := p_cl (by omega)
  have d1 : nI (t + 1) / 2 = nI ((t + 1) / 2) := pk_div (d := 2) (by omega) (by decide) (by decide)
  have d2 : nI t / 2 = nI (t / 2) := pk_div (d := 2) (by omega) (by decide) (by decide)
  rw [F_X7_sinsAt, if_pos hi, hcl, MR_sin hM (by omega), nI_1, d1, d2, ← iI_n, ← iI_n, ← iI_n, ← iI_n, ← iI_n, iI_sub, iI_sub, iI_sub, iI_add]; rfl
theorem m_at {I : ax_I} {t p q : Nat} : F_X7_at I (nI t) (nI p) (nI q) = some (nI (49 * t + 7 * p + q)) := by
  rw [F_X7_at, show 49 * nI t = nI (49 * t) from pk_mul 49 t, show 7 * nI p = nI (7 * p) from pk_mul 7 p, nI_add, nI_add]
/-- the table of ends, done down to (t, p, q) -/
def TI (D : pD) (c n : Nat) (I0 I : ax_I) (t p q : Nat) : Prop := (∀ r j, r ≠ 58 → I r j = I0 r j) ∧ ∀ t' p' q', t' ≤ n → p' < 7 → q' < 7 → (t < t' ∨ (t' = t ∧ (p' < p ∨ (p' = p ∧ q' < q)))) → I 58 (49 * t' + 7 * p' + q') = b01 (V D c n (n - t') p' q')
theorem wv_b {D : pD} (hW : WF D) {c p q : Nat} (hc : c ≤ 5) (hp : p < 8) (hq : q < 8) : -20 < wv D c p q ∧ wv D c p q < 200 := by
  have := WF_won hW (j := c) (by omega)
  unfold wv; omega
theorem sv_b {D : pD} (hW : WF D) {c t p q : Nat} (hc : c ≤ 5) (ht : t ≤ 12) (hp : p < 8) (hq : q < 8) : -20 < sv D c t p q ∧ sv D c t p q < 200 := by
  have := WF_sin hW (j := c) (by omega)
  unfold sv; omega
theorem m_endOf {I0 I : ax_I} {D : pD} (hM : MR I D) (hW : WF D) {c n t p q : Nat} (hc : c ≤ 5) (hn : n ≤ 12) (ht : t < n) (hp : p < 7) (hq : q < 7) (hT : TI D c n I0 I t p q) : F_X7_endOf I (nI c) (nI t) (nI p) (nI q) = some (b01 (V D c n (n - t) p q)) := by
  have hs := sv_b hW hc (t := t) (by omega) (p := p) (q := q) (by omega) (by omega)
  have hw := wv_b hW hc (p := p) (q := q) (by omega) (by omega)
  have r2 : nI t - nI t / 2 * 2 = nI (t % 2) := pk_rem (d := 2) (by omega) (by decide) (by decide)
  obtain ⟨d, hd⟩ : ∃ d, d + 1 = n - t := ⟨n - t - 1, by omega⟩
  have ed : n - (t + 1) = d := by omega
  have et : n - (d + 1) = t := by omega
  have a1 := hT.2 (t + 1) p q (by omega) hp hq (.inl (by omega))
  rw [ed] at a1
  have i1 : ax_in (nI (49 * (t + 1) + 7 * p + q)) 637 = true := p_in (by omega) (by decide)
  have c1 : (nI (49 * (t + 1) + 7 * p + q)).toNatClampNeg = 49 * (t + 1) + 7 * p + q := p_cl (by omega)
  have z0 : (0 : Int32) = iI 0 := rfl
  have ls : (iI (sv D c t p q) ≤ 0) ↔ (sv D c t p q ≤ 0) := iI_le (b := 0) (by omega) (by omega) (by omega) (by omega)
  have lw : (iI (wv D c p q) ≤ 0) ↔ (wv D c p q ≤ 0) := iI_le (b := 0) (by omega) (by omega) (by omega) (by omega)
  rw [F_X7_endOf, m_wv hM hc, p_some, m_sv hM hc (by omega), p_some, r2, ← hd, V, et]
  by_cases he : t % 2 = 0
  · rw [if_pos he, he, if_pos nI_0]
    have key : ∀ b : Bool, f_X7_endOf_53 I (nI t) (nI p) (nI q) (iI (sv D c t p q)) (b01 b) = some (b01 (b || (decide (0 < sv D c t p q) && V D c n d p q))) := by
      intro b
      rw [f_X7_endOf_53, nI_1, m_at, p_some, if_pos i1, c1, a1]
      by_cases h0 : sv D c t p q ≤ 0
      · rw [if_pos (ls.mpr h0), show decide (0 < sv D c t p q) = false from decide_eq_false (by omega), f_X7_endOf_78]
        cases b <;> cases V D c n d p q <;> decide
      · rw [if_neg (fun h => h0 (ls.mp h)), show decide (0 < sv D c t p q) = true from decide_eq_true (by omega), f_X7_endOf_78]
        cases b <;> cases V D c n d p q <;> decide
    by_cases hp6 : p < 6
    · have a2 := hT.2 (t + 1) (p + 1) q (by omega) (by omega) hq (.inl (by omega))
      rw [ed] at a2
      have i2 : ax_in (nI (49 * (t + 1) + 7 * (p + 1) + q)) 637 = true := p_in (by omega) (by decide)
      have c2 : (nI (49 * (t + 1) + 7 * (p + 1) + q)).toNatClampNeg = 49 * (t + 1) + 7 * (p + 1) + q := p_cl (by omega)
      rw [if_neg (show ¬ (6 : Int32) ≤ nI p from nI_ge (a := p) (b := 6) hp6 (by decide)), nI_1, nI_1, m_at, p_some, if_pos i2, c2, a2, key, decide_eq_true hp6, Bool.true_and]
    · rw [if_pos (show (6 : Int32) ≤ nI p from nI_le (a := 6) (b := p) (by omega) (by omega)), show (0 : Int32) = b01 false from rfl, key, decide_eq_false hp6, Bool.false_and]
  · rw [if_neg he, show t % 2 = 1 by omega, if_neg (show ¬ nI 1 = 0 from by decide), nI_1, m_at, p_some, if_pos i1, c1, a1]
    have k1 : f_X7_endOf_142 I (b01 (V D c n d p q)) = some (b01 (V D c n d p q)) := by
      rw [f_X7_endOf_142, f_X7_endOf_143]
      cases V D c n d p q <;> decide
    by_cases h0 : wv D c p q ≤ 0
    · rw [if_pos (lw.mpr h0), k1, decide_eq_true h0, Bool.true_or, Bool.true_or, Bool.and_true]
    · rw [if_neg (fun h => h0 (lw.mp h)), decide_eq_false h0, Bool.false_or]
      by_cases hq6 : q < 6
      · have a2 := hT.2 (t + 1) p (q + 1) (by omega) hp (by omega) (.inl (by omega))
        rw [ed] at a2
        have i2 : ax_in (nI (49 * (t + 1) + 7 * p + (q + 1))) 637 = true := p_in (by omega) (by decide)
        have c2 : (nI (49 * (t + 1) + 7 * p + (q + 1))).toNatClampNeg = 49 * (t + 1) + 7 * p + (q + 1) := p_cl (by omega)
        rw [if_neg (show ¬ (6 : Int32) ≤ nI q from nI_ge (a := q) (b := 6) hq6 (by decide)), nI_1, m_at, p_some, if_pos i2, c2, a2, f_X7_endOf_143, decide_eq_false (show ¬ 6 ≤ q by omega), Bool.false_or]
        cases V D c n d p q <;> cases V D c n d p (q + 1) <;> decide
      · rw [if_pos (show (6 : Int32) ≤ nI q from nI_le (a := 6) (b := q) (by omega) (by omega)), k1, decide_eq_true (show 6 ≤ q by omega), Bool.true_or, Bool.and_true]
