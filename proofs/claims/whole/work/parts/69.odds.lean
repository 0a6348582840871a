/-! ===== odds: the lowest terms ===== -/
theorem two_mod {b r : Nat} (h0 : 0 < r) (h : r < b) : 2 * (b % r) < b := by
  have h1 := Nat.div_add_mod b r
  have h2 : 0 < b / r := Nat.div_pos (Nat.le_of_lt h) h0
  have h3 : r * 1 ≤ r * (b / r) := Nat.mul_le_mul_left r h2
  have h4 := Nat.mod_lt b h0
  omega
theorem p_cmp_eq (a b : Int64) : lg_cmp a b = 0 ↔ a = b := by
  unfold lg_cmp
  by_cases h1 : a > b
  · rw [if_pos h1]
    have h2 : b.toInt < a.toInt := Int64.lt_iff_toInt_lt.mp h1
    constructor
    · intro h; exact absurd h (by decide)
    · intro h; rw [h] at h2; omega
  · rw [if_neg h1]
    by_cases h3 : a = b
    · rw [if_pos h3]; exact ⟨fun _ => h3, fun _ => rfl⟩
    · rw [if_neg h3]
      exact ⟨fun h => absurd h (by decide), fun h => absurd h h3⟩
theorem l_z {b : Nat} (hb : b < 2 ^ 62) : (lg_cmp (lN b) 0 = 0) ↔ b = 0 := by
  rw [p_cmp_eq]
  exact pk_lEQ (b := 0) (by omega) (by decide)
theorem l_nz {b : Nat} (hb : b < 2 ^ 62) (h : ¬ b = 0) : ¬ lN b = 0 := fun q => h ((pk_lEQ (b := 0) (by omega) (by decide)).mp q)
theorem gcd_s (a b : Nat) : Nat.gcd a b = Nat.gcd b (a % b) := by
  rw [Nat.gcd_comm a b, Nat.gcd_rec, Nat.gcd_comm]
theorem x_gcd (I : ax_I) : ∀ (p f i a b : Nat), b < 2 ^ p → p ≤ 40 → 2 * p < f → i + 2 * p ≤ 100 → a < 2 ^ 62 → b < 2 ^ 62 → f_X6_commonDivisor_9 f I (lN a) (lN b) (nI i) = f_X6_commonDivisor_44 I (lN (Nat.gcd a b))
  | p, 0, i, a, b, _, _, h, _, _, _ => by omega
  | 0, f + 1, i, a, b, hb, hp, h, hi, ha, hb2 => by
    have e : b = 0 := by rw [Nat.pow_zero] at hb; omega
    subst e
    rw [f_X6_commonDivisor_9, Nat.gcd_zero_right]
    by_cases h1 : (100 : Int32) ≤ nI i
    · rw [if_pos h1]
    · rw [if_neg h1, if_pos ((l_z (by decide)).mpr rfl)]
  | p + 1, f + 1, i, a, b, hb, hp, h, hi, ha, hb2 => by
    have ni : ¬ (100 : Int32) ≤ nI i := nI_ge (a := i) (b := 100) (by omega) (by decide)
    rw [f_X6_commonDivisor_9, if_neg ni]
    by_cases e : b = 0
    · subst e
      rw [if_pos ((l_z (by decide)).mpr rfl), Nat.gcd_zero_right]
    · rw [if_neg (fun q => e ((l_z hb2).mp q)), if_pos (l_nz hb2 e), pk_lRem (by omega) (by omega) (by omega), nI_1]
      obtain ⟨f', rfl⟩ : ∃ f', f = f' + 1 := ⟨f - 1, by omega⟩
      have hr := Nat.mod_lt a (show 0 < b by omega)
      have ni2 : ¬ (100 : Int32) ≤ nI (i + 1) := nI_ge (a := i + 1) (b := 100) (by omega) (by decide)
      rw [f_X6_commonDivisor_9, if_neg ni2, gcd_s a b]
      by_cases e2 : a % b = 0
      · rw [e2, if_pos ((l_z (by decide)).mpr rfl), Nat.gcd_zero_right]
      · rw [if_neg (fun q => e2 ((l_z (by omega)).mp q)), if_pos (l_nz (by omega) e2), pk_lRem (by omega) (by omega) (by omega), nI_1, gcd_s b (a % b)]
        have h2 := two_mod (b := b) (r := a % b) (by omega) hr
        rw [Nat.pow_succ] at hb
        exact x_gcd I p f' (i + 1 + 1) (a % b) (b % (a % b)) (by omega) (by omega) (by omega) (by omega) (by omega) (by omega)
def lowE (x0 x2 : Int64) (x4 : Int32) (z : Int64) : Option Int64 := if x4 = 0 then (if ¬ (z = 0) then some (x0 / z) else none) else if ¬ (z = 0) then some (x2 / z) else none
theorem m_gcd (I : ax_I) (x0 x2 : Int64) (x4 : Int32) : ∀ (p f a b : Nat), b < 2 ^ p → p ≤ 40 → 2 * p < f → a < 2 ^ 62 → b < 2 ^ 62 → f_X7_lowest_6 f I x0 x2 x4 (lN a) (lN b) = lowE x0 x2 x4 (lN (Nat.gcd a b))
  | p, 0, a, b, _, _, h, _, _ => by omega
  | 0, f + 1, a, b, hb, hp, h, ha, hb2 => by
    have e : b = 0 := by rw [Nat.pow_zero] at hb; omega
    subst e
    rw [f_X7_lowest_6, Nat.gcd_zero_right, if_pos ((l_z (by decide)).mpr rfl)]
    rfl
  | p + 1, f + 1, a, b, hb, hp, h, ha, hb2 => by
    rw [f_X7_lowest_6]
    by_cases e : b = 0
    · subst e
      rw [if_pos ((l_z (by decide)).mpr rfl), Nat.gcd_zero_right]
      rfl
    · rw [if_neg (fun q => e ((l_z hb2).mp q)), if_pos (l_nz hb2 e), pk_lRem (by omega) (by omega) (by omega)]
      obtain ⟨f', rfl⟩ : ∃ f', f = f' + 1 := ⟨f - 1, by omega⟩
      have hr := Nat.mod_lt a (show 0 < b by omega)
      rw [f_X7_lowest_6, gcd_s a b]
      by_cases e2 : a % b = 0
      · rw [e2, if_pos ((l_z (by decide)).mpr rfl), Nat.gcd_zero_right]
        rfl
      · rw [if_neg (fun q => e2 ((l_z (by omega)).mp q)), if_pos (l_nz (by omega) e2), pk_lRem (by omega) (by omega) (by omega), gcd_s b (a % b)]
        have h2 := two_mod (b := b) (r := a % b) (by omega) hr
        rw [Nat.pow_succ] at hb
        exact m_gcd I x0 x2 x4 p f' (a % b) (b % (a % b)) (by omega) (by omega) (by omega) (by omega) (by omega)
/-- what both tell: U ways of L -/
def odA (U L : Nat) (x6 : Int32) : Int64 := if x6 = 0 then lN U / lN (Nat.gcd U L) else lN L / lN (Nat.gcd U L)
theorem x_low {I : ax_I} {J : ax_J} {U L : Nat} (hU : U < 2 ^ 33) (hL : L < 2 ^ 27) (hL0 : 0 < L) (x6 : Int32) : (F_X6_commonDivisor I (lN U) (lN L)).bind (fun q132 => if x6 = 0 then f_X6_odds_149 I J q132 (lN U) else f_X6_odds_149 I J q132 (lN L)) = some (odA U L x6, J) := by
  have h : f_X6_commonDivisor_9 ax_N I (lN U) (lN L) 0 = f_X6_commonDivisor_44 I (lN (Nat.gcd U L)) := x_gcd I 27 ax_N 0 U L hL (by decide) (by decide) (by decide) (by omega) (by omega)
  have hg : 0 < Nat.gcd U L := Nat.gcd_pos_of_pos_right _ hL0
  have hgl : Nat.gcd U L ≤ L := Nat.le_of_dvd hL0 (Nat.gcd_dvd_right _ _)
  have n1 : ¬ lN (Nat.gcd U L) < 1 := fun q => by
    have := (pk_lLT (b := 1) (by omega) (by decide)).mp q
    omega
  rw [F_X6_commonDivisor, h, f_X6_commonDivisor_44, if_neg n1, p_some, f_X6_odds_149, f_X6_odds_149, if_pos (l_nz (by omega) (by omega)), if_pos (l_nz (by omega) (by omega))]
  unfold odA
  split <;> rfl
theorem m_low {I : ax_I} {U L : Nat} (hU : U < 2 ^ 33) (hL : L < 2 ^ 27) (hL0 : 0 < L) (x6 : Int32) : F_X7_lowest I (lN U) (lN L) x6 = some (odA U L x6) := by
  have h := m_gcd I (lN U) (lN L) x6 33 ax_N L U hU (by decide) (by decide) (by omega) (by omega)
  have hg : 0 < Nat.gcd U L := Nat.gcd_pos_of_pos_right _ hL0
  have hgl : Nat.gcd U L ≤ L := Nat.le_of_dvd hL0 (Nat.gcd_dvd_right _ _)
  rw [F_X7_lowest, h, Nat.gcd_comm]
  unfold lowE odA
  rw [if_pos (l_nz (by omega) (by omega)), if_pos (l_nz (by omega) (by omega))]
  split <;> rfl
/-! the model's loops -/
theorem m_211 {I : ax_I} {J : ax_J} {D : pD} (hM : MR I D) (hW : WF D) {c : Nat} (hcc : c ≤ 5) (hb : bb (D 0 0) c = 1) {F : Nat → Nat} (hJ : JV J 57 F) (x6 : Int32) (x8 : Int64) : ∀ (f m : Nat), m ≤ 81 → m < f → f_X7_odds_211 f I J (nI c) x6 x8 (if bb (D 0 3) c = 0 ∧ D 10 2 ≤ D 3 c then 1 else 0) (lN (os D c F (81 - m))) (nI (81 - m)) = (F_X7_lowest I (lN (os D c F 81)) x8 x6).bind (fun q305 => some (q305, J))
  | 0, m, _, h => by omega
  | f + 1, 0, _, h => by
    rw [f_X7_odds_211, if_pos (by decide)]
  | f + 1, m + 1, hm, h => by
    have e5 : 81 - (m + 1) + 1 = 81 - m := by omega
    have hlt : 81 - (m + 1) < 81 := by omega
    obtain ⟨k, hk⟩ : ∃ k, k = 81 - (m + 1) := ⟨_, rfl⟩
    rw [← hk] at hlt e5 ⊢
    have hi6 : ax_in (nI c) 6 = true := p_in (by omega) (by decide)
    have hcl : (nI c).toNatClampNeg = c := p_cl (by omega)
    have z0 : (0 : Int32).toNatClampNeg = 0 := by decide
    have z1 : (1 : Int32).toNatClampNeg = 1 := by decide
    have b1 := WF_won hW (j := c) (by omega)
    have b2 := WF_sin hW (j := c) (by omega)
    have r0 := WF_rule hW (j := 0) (by decide)
    have r1 := WF_rule hW (j := 1) (by decide)
    have ed : nI k / 9 = nI (k / 9) := pk_div (d := 9) (by omega) (by decide) (by decide)
    have em : nI k - nI k / 9 * 9 = nI (k % 9) := pk_rem (d := 9) (by omega) (by decide) (by decide)
    have ih := m_211 hM hW hcc hb hJ x6 x8 f m (by omega) (by omega)
    have es : os D c F (81 - m) = os D c F k + if wS D c (D 1 c + k / 9) (D 2 c + k % 9) = true then F k else 0 := by rw [← e5, os]
    have c1 : (nI (D 1 c + k / 9) < nI (D 10 0)) = (D 1 c + k / 9 < D 10 0) := e_lt (by omega) (by omega)
    have c2 : (nI (D 10 1) < nI (D 2 c + k % 9)) = (D 10 1 < D 2 c + k % 9) := e_lt (by omega) (by omega)
    obtain ⟨X, hX⟩ : ∃ X : Int32, X = if bb (D 0 3) c = 0 ∧ D 10 2 ≤ D 3 c then 1 else 0 := ⟨_, rfl⟩
    rw [← hX] at ih ⊢
    have no : wS D c (D 1 c + k / 9) (D 2 c + k % 9) = false → f_X7_odds_269 (f_X7_odds_211 f) I J (nI c) x6 x8 X (lN (os D c F k)) (nI k) = (F_X7_lowest I (lN (os D c F 81)) x8 x6).bind (fun q305 => some (q305, J)) := by
      intro hS
      rw [hS, if_neg (by decide), Nat.add_zero] at es
      rw [f_X7_odds_269, f_X7_odds_270, if_pos rfl, f_X7_odds_290, show lN (os D c F k) + 0 = lN (os D c F k) from lN_add _ 0, nI_1, e5, ← es]
      exact ih
    rw [f_X7_odds_211, if_neg (show ¬ (81 : Int32) ≤ nI k from nI_ge (a := k) (b := 81) hlt (by decide)), em, ed, hcl, z0, z1, MR_won hM (j := c) (by omega), MR_sin hM (j := c) (by omega), MR_rule hM (j := 0) (by decide), MR_rule hM (j := 1) (by decide), nI_add, nI_add, if_pos hi6, if_pos hi6]
    by_cases hmay : bb (D 0 3) c = 0 ∧ D 10 2 ≤ D 3 c
    · rw [if_pos hmay] at hX
      rw [if_neg (by rw [hX]; decide)]
      by_cases q1 : D 1 c + k / 9 < D 10 0
      · rw [if_pos (by rw [c1]; exact q1)]
        apply no
        unfold wS
        simp [Nat.not_le.mpr q1]
      · rw [if_neg (by rw [c1]; exact q1)]
        by_cases q2 : D 10 1 < D 2 c + k % 9
        · rw [if_pos (by rw [c2]; exact q2)]
          apply no
          unfold wS
          simp [Nat.not_le.mpr q2]
        · rw [if_neg (by rw [c2]; exact q2)]
          have hS : wS D c (D 1 c + k / 9) (D 2 c + k % 9) = true := by
            unfold wS
            simp [hb, hmay.1, hmay.2, Nat.not_lt.mp q1, Nat.not_lt.mp q2]
          rw [hS, if_pos rfl] at es
          rw [f_X7_odds_270, if_neg (by decide), if_pos (p_in hlt (by decide)), p_cl (by omega), hJ k hlt, f_X7_odds_290, lN_add, nI_1, e5, ← es]
          exact ih
    · rw [if_neg hmay] at hX
      rw [if_pos hX]
      apply no
      unfold wS
      by_cases q1 : bb (D 0 3) c = 0
      · have q2 : ¬ D 10 2 ≤ D 3 c := fun q => hmay ⟨q1, q⟩
        simp [q2]
      · simp [q1]
theorem m_136 {I : ax_I} {D : pD} (hM : MR I D) (hW : WF D) {c : Nat} (hcc : c ≤ 5) (hb : bb (D 0 0) c = 1) {t u g M : Nat} (h10 : t + u ≤ 10) (hM8 : M ≤ 8) (hg : g ≤ 8) (x6 : Int32) : ∀ (f m : Nat) (J : ax_J) (F : Nat → Nat), m ≤ M → m < f → JV J 57 F → ∃ J', f_X7_odds_136 f I J (nI c) (nI M) (nI t) (nI u) (nI g) x6 (lN (10 ^ (M - m))) (nI (M - m)) = (F_X7_lowest I (lN (os D c (oR t u g m (M - m) F) 81)) (lN (10 ^ M)) x6).bind (fun q305 => some (q305, J'))
  | 0, m, J, F, _, h, _ => by omega
  | f + 1, 0, J, F, _, h, hJ => by
    have hi6 : ax_in (nI c) 6 = true := p_in (by omega) (by decide)
    have hcl : (nI c).toNatClampNeg = c := p_cl (by omega)
    have z2 : (2 : Int32).toNatClampNeg = 2 := by decide
    have b3 := WF_eye hW (j := c) (by omega)
    have r2 := WF_rule hW (j := 2) (by decide)
    have t3 : (nI (D 0 3 / 2 ^ c % 2) = 0) = (bb (D 0 3) c = 0) := propext (p_eq0 (bb_lt _ _))
    have c1 : (nI (D 3 c) < nI (D 10 2)) = (D 3 c < D 10 2) := e_lt (by omega) (by omega)
    have h211 := m_211 hM hW hcc hb hJ x6 (lN (10 ^ M)) ax_N 81 (by decide) (by decide)
    refine ⟨J, ?_⟩
    rw [f_X7_odds_136, if_pos (nI_le (a := M) (b := M - 0) (by omega) (by omega)), if_pos hi6, if_pos hi6, hcl, z2, MR_fal hM (j := c) (by omega), MR_eye hM (j := c) (by omega), MR_rule hM (j := 2) (by decide), f_X7_odds_202, f_X7_odds_203, f_X7_odds_203]
    refine Eq.trans ?_ h211
    by_cases q1 : bb (D 0 3) c = 0
    · rw [if_pos (by rw [t3]; exact q1)]
      by_cases q2 : D 3 c < D 10 2
      · rw [if_pos (by rw [c1]; exact q2), if_neg (fun q => by omega)]; rfl
      · rw [if_neg (by rw [c1]; exact q2), if_pos ⟨q1, by omega⟩]; rfl
    · rw [if_neg (by rw [t3]; exact q1), if_neg (fun q => q1 q.1)]; rfl
  | f + 1, m + 1, J, F, hm, h, hJ => by
    have e5 : M - (m + 1) + 1 = M - m := by omega
    have hlt : M - (m + 1) < M := by omega
    obtain ⟨k, hk⟩ : ∃ k, k = M - (m + 1) := ⟨_, rfl⟩
    rw [← hk] at hlt e5 ⊢
    have ep : lN (10 ^ k) * 10 = lN (10 ^ (M - m)) := by
      rw [show lN (10 ^ k) * 10 = lN (10 ^ k * 10) from lN_mul _ 10, ← Nat.pow_succ, ← e5]
    rw [f_X7_odds_136, if_neg (nI_ge (a := k) (b := M) hlt (by omega)), f_X7_odds_157, f_X7_odds_157, oR, ep, nI_1, e5]
    by_cases hkg : k < g
    · obtain ⟨J1, i1, i2, -⟩ := m_yr (I := I) (J := J) (F := F) (t := t) (u := 0) (by omega) hJ
      rw [nI_0] at i1
      obtain ⟨J', k1⟩ := m_136 hM hW hcc hb h10 hM8 hg x6 f m J1 _ (by omega) (by omega) i2
      rw [if_neg (nI_ge (a := k) (b := g) hkg (by omega)), i1, p_some, if_pos hkg]
      exact ⟨J', k1⟩
    · obtain ⟨J1, i1, i2, -⟩ := m_yr (I := I) (J := J) (F := F) (t := t) (u := u) (by omega) hJ
      obtain ⟨J', k1⟩ := m_136 hM hW hcc hb h10 hM8 hg x6 f m J1 _ (by omega) (by omega) i2
      rw [if_pos (nI_le (a := g) (b := k) (by omega) (by omega)), i1, p_some, if_neg hkg]
      exact ⟨J', k1⟩
theorem m_100 {I : ax_I} {x1 x2 x3 x4 x5 x6 : Int32} : ∀ (f m : Nat) (J : ax_J), m ≤ 81 → m < f → (∀ j, j < 81 - m → J 57 j = lN (o0 j)) → ∃ J', f_X7_odds_100 f I J x1 x2 x3 x4 x5 x6 (nI (81 - m)) = f_X7_odds_136 ax_N I J' x1 x2 x3 x4 x5 x6 1 0 ∧ JV J' 57 o0
  | 0, m, J, _, h, _ => by omega
  | f + 1, 0, J, _, h, hJ => by
    refine ⟨J, ?_, hJ⟩
    rw [f_X7_odds_100, if_pos (by decide)]
  | f + 1, m + 1, J, hm, h, hJ => by
    have e5 : 81 - (m + 1) + 1 = 81 - m := by omega
    have hlt : 81 - (m + 1) < 81 := by omega
    obtain ⟨k, hk⟩ : ∃ k, k = 81 - (m + 1) := ⟨_, rfl⟩
    rw [← hk] at hlt e5 hJ ⊢
    obtain ⟨J', i1, i2⟩ := m_100 (I := I) (x1 := x1) (x2 := x2) (x3 := x3) (x4 := x4) (x5 := x5) (x6 := x6) f m (ax_v J 57 k (lN (o0 k))) (by omega) (by omega) (fun j hj => by
      by_cases e : j = k
      · rw [e, ax_v_ss]
      · rw [ax_v_nj e]; exact hJ j (by omega))
    refine ⟨J', ?_, i2⟩
    have ek : (nI k = 0) = (k = 0) := e_eq (b := 0) (by omega) (by decide)
    rw [f_X7_odds_100, if_neg (show ¬ (81 : Int32) ≤ nI k from nI_ge (a := k) (b := 81) hlt (by decide)), f_X7_odds_123, f_X7_odds_123, if_pos (p_in hlt (by decide)), p_cl (by omega), nI_1, e5]
    by_cases h0 : k = 0
    · rw [if_pos (by rw [ek]; exact h0)]
      have eo : lN (o0 k) = 1 := by unfold o0; rw [if_pos h0]; rfl
      rw [eo] at i1
      exact i1
    · rw [if_neg (by rw [ek]; exact h0), if_pos (p_in hlt (by decide))]
      have eo : lN (o0 k) = 0 := by unfold o0; rw [if_neg h0]; rfl
      rw [eo] at i1
      exact i1
theorem op_l {l : Launch} {E : ax_E} {B : Nat} {lay : List ax_S} {I : ax_I} {J : ax_J} {yx : MethodName} {cx : ByteArray} {mx : Nat} {ym : MethodName} {cm : ByteArray} {mm : Nat} {av : List Value} {r : Int64} {d1 d2 : Nat} {I1 I2 : ax_I} {J1 J2 : ax_J} (h1 : Cm l yx cx mx (some .long) d1 E B (.ref (B + 0) :: av) lay I J (some (.long r)) lay I1 J1) (h2 : Cm l ym cm mm (some .long) d2 E B (.ref (B + 35) :: av) lay I1 J1 (some (.long r)) lay I2 J2) (hd1 : d1 ≤ 90) (hd2 : d2 ≤ 90) (hI : Inv B lay I2 J2) :
    ∃ (r : Value) (d1 d2 : Nat) (lay1 : List ax_S) (I1 : ax_I) (J1 : ax_J) (lay2 : List ax_S) (I2 : ax_I) (J2 : ax_J), isL r ∧ d1 ≤ 90 ∧ d2 ≤ 90 ∧ Cm l yx cx mx (some .long) d1 E B (.ref (B + 0) :: av) lay I J (some r) lay1 I1 J1 ∧ Cm l ym cm mm (some .long) d2 E B (.ref (B + 35) :: av) lay1 I1 J1 (some r) lay2 I2 J2 ∧ (lay.length ≤ lay1.length ∧ ax_z lay ≤ ax_z lay1 ∧ lay1.length ≤ 200 ∧ ax_z lay1 ≤ 100000 ∧ ax_LL B lay1) ∧ (lay1.length ≤ lay2.length ∧ ax_z lay1 ≤ ax_z lay2 ∧ lay2.length ≤ 200 ∧ ax_z lay2 ≤ 100000) ∧ Inv B lay2 I2 J2 := by
  obtain ⟨q1, q2, q3⟩ := inv_sz hI
  exact ⟨.long r, d1, d2, lay, I1, J1, lay, I2, J2, ⟨r, rfl⟩, hd1, hd2, h1, h2, ⟨Nat.le_refl _, Nat.le_refl _, q1, q2, q3⟩, ⟨Nat.le_refl _, Nat.le_refl _, q1, q2⟩, hI⟩
theorem odds_in {I : ax_I} {J : ax_J} {D : pD} (hC : CR I 1 D) (hM : MR I D) (hW : WF D) {c : Nat} (hcc : c ≤ 5) (hb : bb (D 0 0) c = 1) (x2 x3 x4 x5 x6 s : Int32) (hs : s = 0 ∨ (s = 1 ∧ ∃ t u, t + u ≤ 10 ∧ x3 = nI t ∧ x4 = nI u)) : ∃ r J1 J2, f_X6_odds_50 I J (nI c) x2 x3 x4 x5 x6 s = some (r, J1) ∧ f_X7_odds_51 I J1 (nI c) x2 x3 x4 x5 x6 s = some (r, J2) := by
  have n1 : ¬ (1 : Int32) = 0 := by decide
  rcases p_rng x2 8 (by decide) with ⟨M, hM8, rfl⟩ | h2
  · have hR : (0 : Int32) ≤ nI M ∧ nI M ≤ 8 := p_rngT hM8 (by decide)
    have m2 : F_X7_in I (nI M).toInt64 0 8 = some 1 := p_mT 0 8 hR rfl rfl
    rcases hs with rfl | ⟨rfl, t, u, h10, rfl, rfl⟩
    · refine ⟨-1000000000000000002, J, J, ?_, ?_⟩
      · rw [f_X6_odds_50, p_wT hR, p_some, if_neg n1, if_pos rfl, f_X6_odds_87]
      · rw [f_X7_odds_51, m2, p_some, if_neg n1, if_pos rfl, f_X7_odds_93]
    · rcases p_rng x5 M (by omega) with ⟨g, hg, rfl⟩ | h5
      · have hG : (0 : Int32) ≤ nI g ∧ nI g ≤ nI M := p_rngT hg (by omega)
        have m5 : F_X7_in I (nI g).toInt64 0 (nI M).toInt64 = some 1 := p_mT 0 (nI M) hG rfl rfl
        by_cases h6 : (0 : Int32) ≤ x6 ∧ x6 ≤ 1
        · have m6 : F_X7_in I x6.toInt64 0 1 = some 1 := p_mT 0 1 h6 rfl rfl
          obtain ⟨J1, s1, s2, -⟩ := x_sp (I := I) (J := J) h10 hM8 (g := g) (by omega)
          obtain ⟨J2, t1, t2⟩ := m_100 (I := I) (x1 := nI c) (x2 := nI M) (x3 := nI t) (x4 := nI u) (x5 := nI g) (x6 := x6) ax_N 81 J1 (by decide) (by decide) (fun j hj => by omega)
          obtain ⟨J3, u1⟩ := m_136 hM hW hcc hb h10 hM8 (g := g) (by omega) x6 ax_N M J2 o0 (Nat.le_refl _) (by unfold ax_N; omega) t2
          rw [Nat.sub_self] at u1
          have hF : ∀ j, oR t u g M 0 o0 j ≤ 10 ^ M * 1 := oR_le h10 M 0 1 o0 o0_le
          have hp : 10 ^ M ≤ 10 ^ 8 := Nat.pow_le_pow_right (by decide) hM8
          have hp0 : 0 < 10 ^ M := Nat.pow_pos (by decide)
          have hU : os D c (oR t u g M 0 o0) 81 ≤ 81 * (10 ^ M * 1) := os_le D c hF 81
          have e8 : (10 : Nat) ^ 8 = 100000000 := by decide
          obtain ⟨U, hUU⟩ : ∃ U, U = os D c (oR t u g M 0 o0) 81 := ⟨_, rfl⟩
          obtain ⟨L, hLL⟩ : ∃ L, L = 10 ^ M := ⟨_, rfl⟩
          rw [← hUU, ← hLL] at hU
          rw [← hLL] at hp hp0
          have hU2 : U < 2 ^ 33 := by omega
          have hL2 : L < 2 ^ 27 := by omega
          refine ⟨odA U L x6, J1, J3, ?_, ?_⟩
          · rw [f_X6_odds_50, p_wT hR, p_some, if_neg n1, if_neg n1, p_wT hG, p_some, if_neg n1, p_wT h6, p_some, if_neg n1, s1, p_some, x_ways hC hW hcc s2, p_some, x_aw hM8, p_some, ← hUU, ← hLL]
            exact x_low hU2 hL2 hp0 x6
          · rw [f_X7_odds_51, m2, p_some, if_neg n1, if_neg n1, m5, p_some, if_neg n1, m6, p_some, if_neg n1]
            refine t1.trans ?_
            refine Eq.trans ?_ (u1.trans ?_)
            · rfl
            · rw [← hUU, ← hLL, m_low hU2 hL2 hp0 x6, p_some]
        · have m6 : F_X7_in I x6.toInt64 0 1 = some 0 := p_mF 0 1 h6 rfl rfl
          refine ⟨-1000000000000000002, J, J, ?_, ?_⟩
          · rw [f_X6_odds_50, p_wT hR, p_some, if_neg n1, if_neg n1, p_wT hG, p_some, if_neg n1, p_wF h6, p_some, if_pos rfl, f_X6_odds_87]
          · rw [f_X7_odds_51, m2, p_some, if_neg n1, if_neg n1, m5, p_some, if_neg n1, m6, p_some, if_pos rfl, f_X7_odds_93]
      · have m5 : F_X7_in I x5.toInt64 0 (nI M).toInt64 = some 0 := p_mF 0 (nI M) h5 rfl rfl
        refine ⟨-1000000000000000002, J, J, ?_, ?_⟩
        · rw [f_X6_odds_50, p_wT hR, p_some, if_neg n1, if_neg n1, p_wF h5, p_some, if_pos rfl, f_X6_odds_87]
        · rw [f_X7_odds_51, m2, p_some, if_neg n1, if_neg n1, m5, p_some, if_pos rfl, f_X7_odds_93]
  · have h2 : ¬ ((0 : Int32) ≤ x2 ∧ x2 ≤ 8) := h2
    have m2 : F_X7_in I x2.toInt64 0 8 = some 0 := p_mF 0 8 h2 rfl rfl
    refine ⟨-1000000000000000002, J, J, ?_, ?_⟩
    · rw [f_X6_odds_50, p_wF h2, p_some, if_pos rfl, f_X6_odds_87]
    · rw [f_X7_odds_51, m2, p_some, if_pos rfl, f_X7_odds_93]
theorem op16 : lw_op16 Inv := by
  intro a1 a2 a3 a4 a5 a6 l E B lay I J hI
  have hLL := (inv_sz hI).2.2
  have hI0 : ∀ J2, Inv B lay I J2 := fun _ => hI
  obtain ⟨g, ext, D, n, S, hlay, hext, hez, hC, hM, hW, hP, hIm⟩ := hI
  have n1 : ¬ (1 : Int32) = 0 := by decide
  rcases p_rng a1 5 (by decide) with ⟨c, hc, rfl⟩ | h1
  · by_cases hb : bb (D 0 0) c = 0
    · have e1 : F_X6_odds I J (nI c) a2 a3 a4 a5 a6 = some (-1000000000000000001, J) := by rw [F_X6_odds, x_there hC hW hc, p_some, hb, if_pos (by decide)]
      have e2 : F_X7_odds I J (nI c) a2 a3 a4 a5 a6 = some (-1000000000000000001, J) := by rw [F_X7_odds, m_there hM hW hc, p_some, hb, if_pos (by decide)]
      exact op_l (M_X6_odds hLL e1) (M_X7_odds hLL e2) (by decide) (by decide) (hI0 J)
    · have hb1 : bb (D 0 0) c = 1 := by have := bb_lt (D 0 0) c; omega
      have tX : F_X2_isThere I 1 (nI c) = some 1 := by rw [x_there hC hW hc, hb1]; rfl
      have tM : F_X7_isChild I (nI c) = some 1 := by rw [m_there hM hW hc, hb1]; rfl
      have key : ∃ s, (s = 0 ∨ (s = 1 ∧ ∃ t u, t + u ≤ 10 ∧ a3 = nI t ∧ a4 = nI u)) ∧ (∀ J, F_X6_odds I J (nI c) a2 a3 a4 a5 a6 = f_X6_odds_50 I J (nI c) a2 a3 a4 a5 a6 s) ∧ ∀ J, F_X7_odds I J (nI c) a2 a3 a4 a5 a6 = f_X7_odds_51 I J (nI c) a2 a3 a4 a5 a6 s := by
        rcases p_rng a3 10 (by decide) with ⟨t, ht, rfl⟩ | h3
        · have hT : (0 : Int32) ≤ nI t ∧ nI t ≤ 10 := p_rngT ht (by decide)
          have m3 : F_X7_in I (nI t).toInt64 0 10 = some 1 := p_mT 0 10 hT rfl rfl
          rcases p_rng a4 10 (by decide) with ⟨u, hu, rfl⟩ | h4
          · have hU : (0 : Int32) ≤ nI u ∧ nI u ≤ 10 := p_rngT hu (by decide)
            have m4 : F_X7_in I (nI u).toInt64 0 10 = some 1 := p_mT 0 10 hU rfl rfl
            have ec : ((10 : Int32) < nI t + nI u) = (10 < t + u) := by rw [nI_add]; exact e_lt (a := 10) (by decide) (by omega)
            by_cases h10 : 10 < t + u
            · refine ⟨0, Or.inl rfl, fun J => ?_, fun J => ?_⟩
              · rw [F_X6_odds, tX, p_some, if_neg n1, p_wT hT, p_some, if_neg n1, p_wT hU, p_some, if_neg n1, if_pos (by rw [ec]; exact h10), f_X6_odds_49]
              · rw [F_X7_odds, tM, p_some, if_neg n1, m3, p_some, if_neg n1, m4, p_some, if_neg n1, if_pos (by rw [ec]; exact h10), f_X7_odds_50]
            · refine ⟨1, Or.inr ⟨rfl, t, u, by omega, rfl, rfl⟩, fun J => ?_, fun J => ?_⟩
              · rw [F_X6_odds, tX, p_some, if_neg n1, p_wT hT, p_some, if_neg n1, p_wT hU, p_some, if_neg n1, if_neg (by rw [ec]; exact h10)]
              · rw [F_X7_odds, tM, p_some, if_neg n1, m3, p_some, if_neg n1, m4, p_some, if_neg n1, if_neg (by rw [ec]; exact h10)]
          · have h4 : ¬ ((0 : Int32) ≤ a4 ∧ a4 ≤ 10) := h4
            have m4 : F_X7_in I a4.toInt64 0 10 = some 0 := p_mF 0 10 h4 rfl rfl
            refine ⟨0, Or.inl rfl, fun J => ?_, fun J => ?_⟩
            · rw [F_X6_odds, tX, p_some, if_neg n1, p_wT hT, p_some, if_neg n1, p_wF h4, p_some, if_pos rfl, f_X6_odds_49]
            · rw [F_X7_odds, tM, p_some, if_neg n1, m3, p_some, if_neg n1, m4, p_some, if_pos rfl, f_X7_odds_50]
        · have h3 : ¬ ((0 : Int32) ≤ a3 ∧ a3 ≤ 10) := h3
          have m3 : F_X7_in I a3.toInt64 0 10 = some 0 := p_mF 0 10 h3 rfl rfl
          refine ⟨0, Or.inl rfl, fun J => ?_, fun J => ?_⟩
          · rw [F_X6_odds, tX, p_some, if_neg n1, p_wF h3, p_some, if_pos rfl, f_X6_odds_49]
          · rw [F_X7_odds, tM, p_some, if_neg n1, m3, p_some, if_pos rfl, f_X7_odds_50]
      obtain ⟨s, hs, k1, k2⟩ := key
      obtain ⟨r, J1, J2, e1, e2⟩ := odds_in (J := J) hC hM hW hc hb1 a2 a3 a4 a5 a6 s hs
      exact op_l (M_X6_odds hLL ((k1 J).trans e1)) (M_X7_odds hLL ((k2 J1).trans e2)) (by decide) (by decide) (hI0 J2)
  · have h1 : ¬ ((0 : Int32) ≤ a1 ∧ a1 ≤ 5) := h1
    have e1 : F_X6_odds I J a1 a2 a3 a4 a5 a6 = some (-1000000000000000001, J) := by rw [F_X6_odds, x_thereF h1, p_some, if_pos rfl]
    have e2 : F_X7_odds I J a1 a2 a3 a4 a5 a6 = some (-1000000000000000001, J) := by rw [F_X7_odds, m_thereF h1, p_some, if_pos rfl]
    exact op_l (M_X6_odds hLL e1) (M_X7_odds hLL e2) (by decide) (by decide) (hI0 J)
