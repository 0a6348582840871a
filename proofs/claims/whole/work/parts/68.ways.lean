/-! ===== odds: the ways ===== -/
def oY (t u : Nat) (f : Nat → Nat) (k : Nat) : Nat := f k * (10 - t - u) + (if 9 ≤ k then f (k - 9) * t else 0) + (if 0 < k % 9 then f (k - 1) * u else 0)
/-- a row of 81 longs, from p on already of the next year -/
def JP (J : ax_J) (r : Nat) (f : Nat → Nat) (t u p : Nat) : Prop := (∀ j, p ≤ j → j < 81 → J r j = lN (oY t u f j)) ∧ ∀ j, j < p → J r j = lN (f j)
def FO (r : Nat) (J J' : ax_J) : Prop := ∀ q, q ≠ r → J' q = J q
theorem FO_tr {r : Nat} {J J1 J2 : ax_J} (h1 : FO r J J1) (h2 : FO r J1 J2) : FO r J J2 := fun q hq => (h2 q hq).trans (h1 q hq)
theorem ax_v_ss (J : ax_J) (k j : Nat) (x : Int64) : ax_v J k j x k j = x := by rw [ax_v_s]; exact pk_uLs
theorem ax_v_nj {J : ax_J} {k j : Nat} {x : Int64} {j' : Nat} (h : j' ≠ j) : ax_v J k j x k j' = J k j' := by rw [ax_v_s]; exact pk_uLn h
theorem ax_v_FO (J : ax_J) (k j : Nat) (x : Int64) : FO k J (ax_v J k j x) := fun q hq => ax_v_n hq
theorem JP_s {J : ax_J} {r : Nat} {f : Nat → Nat} {t u p : Nat} (h : JP J r f t u (p + 1)) : JP (ax_v J r p (lN (oY t u f p))) r f t u p := by
  refine ⟨fun j h1 h2 => ?_, fun j h1 => ?_⟩
  · by_cases e : j = p
    · rw [e, ax_v_ss]
    · rw [ax_v_nj e]; exact h.1 j (by omega) h2
  · rw [ax_v_nj (by omega)]; exact h.2 j (by omega)
theorem l0 : (0 : Int64) = lN 0 := rfl
theorem x_yr20 {I : ax_I} {F : Nat → Nat} {t u w : Nat} (ht : t ≤ 10) (hu : u ≤ 10) (hw : w ≤ 8) (r11 : ax_I → ax_J → Int32 → Int32 → Int32 → Int32 → Option ax_J) : ∀ (f m : Nat) (J : ax_J), m ≤ 9 → m < f → JP J 32 F t u (9 * w + m) → ∃ J', f_X1_addYear_20 r11 f I J (nI t) (nI u) (nI (10 - t - u)) (nI w) (nI m + (-1)) = r11 I J' (nI t) (nI u) (nI (10 - t - u)) (nI w + (-1)) ∧ JP J' 32 F t u (9 * w) ∧ FO 32 J J'
  | 0, m, J, _, h, _ => by omega
  | f + 1, 0, J, _, h, hJ => by
    refine ⟨J, ?_, hJ, fun _ _ => rfl⟩
    rw [f_X1_addYear_20, if_pos (by decide)]
  | f + 1, m + 1, J, hm, h, hJ => by
    have hk : 9 * w + m < 81 := by omega
    have ix : nI w * 9 + nI m = nI (9 * w + m) := by
      rw [show nI w * 9 = nI (w * 9) from pk_mul w 9, nI_add, Nat.mul_comm]
    have hin : ax_in (nI (9 * w + m)) 81 = true := p_in (by omega) (by decide)
    have hcl : (nI (9 * w + m)).toNatClampNeg = 9 * w + m := p_cl (by omega)
    have v0 : J 32 (9 * w + m) = lN (F (9 * w + m)) := hJ.2 _ (by omega)
    have hJ2 := JP_s (p := 9 * w + m) hJ
    obtain ⟨J', i1, i2, i3⟩ := x_yr20 (I := I) ht hu hw r11 f m _ (by omega) (by omega) hJ2
    refine ⟨J', ?_, i2, FO_tr (ax_v_FO _ _ _ _) i3⟩
    rw [pk_m1, f_X1_addYear_20, if_neg (nI_pos (by omega)), ix, if_pos hin, hcl, v0, nI_l (by omega), lN_mul]
    have e99 : ∀ x : Int64, x = lN (oY t u F (9 * w + m)) → f_X1_addYear_99 r11 (f_X1_addYear_20 r11 f) I J (nI t) (nI u) (nI (10 - t - u)) (nI w) (nI m) x = r11 I J' (nI t) (nI u) (nI (10 - t - u)) (nI w + (-1)) := by
      intro x hx
      rw [f_X1_addYear_99, ix, if_pos hin, hcl, hx]
      exact i1
    have e71 : ∀ y : Nat, y + (if 0 < (9 * w + m) % 9 then F (9 * w + m - 1) * u else 0) = oY t u F (9 * w + m) → f_X1_addYear_71 r11 (f_X1_addYear_20 r11 f) I J (nI t) (nI u) (nI (10 - t - u)) (nI w) (nI m) (lN y) = r11 I J' (nI t) (nI u) (nI (10 - t - u)) (nI w + (-1)) := by
      intro y hy
      rw [f_X1_addYear_71]
      by_cases h0 : m = 0
      · rw [if_pos (by rw [h0]; decide)]
        apply e99
        rw [if_neg (by omega)] at hy
        rw [← hy]; rfl
      · have ix2 : nI w * 9 + nI m - 1 = nI (9 * w + m - 1) := by rw [ix]; exact pk_sub (b := 1) (by omega)
        rw [if_neg (nI_nle (by omega) (by omega)), ix2, if_pos (p_in (by omega) (by decide)), p_cl (by omega), hJ.2 (9 * w + m - 1) (by omega), nI_l (by omega), lN_mul, lN_add]
        apply e99
        rw [if_pos (by omega)] at hy
        rw [hy]
    rw [f_X1_addYear_43]
    by_cases h0 : w = 0
    · rw [if_pos (by rw [h0]; decide)]
      apply e71
      unfold oY
      rw [if_neg (show ¬ 9 ≤ 9 * w + m by omega)]
      rfl
    · have ix3 : (nI w - 1) * 9 + nI m = nI (9 * w + m - 9) := by
        rw [show nI w - 1 = nI (w - 1) from pk_sub (b := 1) (by omega), show nI (w - 1) * 9 = nI ((w - 1) * 9) from pk_mul (w - 1) 9, nI_add]
        congr 1; omega
      rw [if_neg (nI_nle (by omega) (by omega)), ix3, if_pos (p_in (by omega) (by decide)), p_cl (by omega), hJ.2 (9 * w + m - 9) (by omega), nI_l (by omega), lN_mul, lN_add]
      apply e71
      unfold oY
      rw [if_pos (show 9 ≤ 9 * w + m by omega)]
theorem x_yr11 {I : ax_I} {F : Nat → Nat} {t u : Nat} (ht : t ≤ 10) (hu : u ≤ 10) : ∀ (f m : Nat) (J : ax_J), m ≤ 9 → m < f → JP J 32 F t u (9 * m) → ∃ J', f_X1_addYear_11 f I J (nI t) (nI u) (nI (10 - t - u)) (nI m + (-1)) = some J' ∧ JP J' 32 F t u 0 ∧ FO 32 J J'
  | 0, m, J, _, h, _ => by omega
  | f + 1, 0, J, _, h, hJ => by
    refine ⟨J, ?_, hJ, fun _ _ => rfl⟩
    rw [f_X1_addYear_11, if_pos (by decide)]
  | f + 1, m + 1, J, hm, h, hJ => by
    obtain ⟨J1, i1, i2, i3⟩ := x_yr20 (I := I) ht hu (w := m) (by omega) (f_X1_addYear_11 f) ax_N 9 J (by decide) (by decide) (by rw [show 9 * m + 9 = 9 * (m + 1) by omega]; exact hJ)
    obtain ⟨J', k1, k2, k3⟩ := x_yr11 (I := I) ht hu f m J1 (by omega) (by omega) i2
    refine ⟨J', ?_, k2, FO_tr i3 k3⟩
    rw [pk_m1, f_X1_addYear_11, if_neg (nI_pos (by omega))]
    exact i1.trans k1
theorem i_idle {t u : Nat} (h : t + u ≤ 10) : (10 - nI t) - nI u = nI (10 - t - u) := by
  rw [show (10 : Int32) - nI t = nI (10 - t) from pk_sub (a := 10) (by omega)]
  exact pk_sub (by omega)
theorem l_idle {t u : Nat} (h : t + u ≤ 10) : (10 - lN t) - lN u = lN (10 - t - u) := by
  rw [show (10 : Int64) - lN t = lN (10 - t) from lN_sub (a := 10) (by omega)]
  exact lN_sub (by omega)
def JV (J : ax_J) (r : Nat) (f : Nat → Nat) : Prop := ∀ j, j < 81 → J r j = lN (f j)
theorem x_yr {I : ax_I} {J : ax_J} {F : Nat → Nat} {t u : Nat} (h : t + u ≤ 10) (hJ : JV J 32 F) : ∃ J', F_X1_addYear I J (nI t) (nI u) = some J' ∧ JV J' 32 (oY t u F) ∧ FO 32 J J' := by
  obtain ⟨J', i1, i2, i3⟩ := x_yr11 (I := I) (J := J) (F := F) (t := t) (u := u) (by omega) (by omega) ax_N 9 (by decide) (by decide) ⟨fun j h1 h2 => by omega, fun j h1 => hJ j (by omega)⟩
  refine ⟨J', ?_, fun j hj => i2.1 j (Nat.zero_le _) hj, i3⟩
  rw [F_X1_addYear, i_idle h]
  exact i1
theorem m_yr3 {I : ax_I} {F : Nat → Nat} {t u : Nat} (h10 : t + u ≤ 10) : ∀ (f m : Nat) (J : ax_J), m ≤ 81 → m < f → JP J 57 F t u m → ∃ J', f_X7_yearOdds_3 f I J (nI t) (nI u) (nI m + (-1)) = some J' ∧ JP J' 57 F t u 0 ∧ FO 57 J J'
  | 0, m, J, _, h, _ => by omega
  | f + 1, 0, J, _, h, hJ => by
    refine ⟨J, ?_, hJ, fun _ _ => rfl⟩
    rw [f_X7_yearOdds_3, if_pos (by decide)]
  | f + 1, m + 1, J, hm, h, hJ => by
    have hin : ax_in (nI m) 81 = true := p_in (by omega) (by decide)
    have hcl : (nI m).toNatClampNeg = m := p_cl (by omega)
    have v0 : J 57 m = lN (F m) := hJ.2 _ (by omega)
    obtain ⟨J', i1, i2, i3⟩ := m_yr3 (I := I) h10 f m _ (by omega) (by omega) (JP_s hJ)
    refine ⟨J', ?_, i2, FO_tr (ax_v_FO _ _ _ _) i3⟩
    have e53 : ∀ a b : Nat, F m * (10 - t - u) + a + b = oY t u F m → f_X7_yearOdds_53 (f_X7_yearOdds_3 f) I J (nI t) (nI u) (nI m) (lN a) (lN b) = some J' := by
      intro a b hab
      rw [f_X7_yearOdds_53, if_pos hin, if_pos hin, hcl, v0, nI_l (by omega), nI_l (by omega), l_idle h10, lN_mul, lN_add, lN_add, Nat.mul_comm (10 - t - u), hab, f_X7_yearOdds_83]
      exact i1
    have e29 : ∀ a : Nat, F m * (10 - t - u) + a + (if 0 < m % 9 then F (m - 1) * u else 0) = oY t u F m → f_X7_yearOdds_29 (f_X7_yearOdds_3 f) I J (nI t) (nI u) (nI m) (lN a) = some J' := by
      intro a ha
      have er : nI m - nI m / 9 * 9 = nI (m % 9) := pk_rem (d := 9) (by omega) (by decide) (by decide)
      have hlt : m % 9 < 9 := Nat.mod_lt _ (by decide)
      rw [f_X7_yearOdds_29, er]
      by_cases h0 : m % 9 = 0
      · rw [if_pos (by rw [h0]; decide), l0]
        rw [if_neg (by omega)] at ha
        exact e53 a 0 ha
      · have ix : nI m - 1 = nI (m - 1) := pk_sub (b := 1) (by omega)
        rw [if_neg (nI_nle (by omega) (by omega)), ix, if_pos (p_in (by omega) (by decide)), p_cl (by omega), hJ.2 (m - 1) (by omega), nI_l (by omega), lN_mul, Nat.mul_comm u]
        rw [if_pos (by omega)] at ha
        exact e53 a _ ha
    rw [pk_m1, f_X7_yearOdds_3, if_neg (nI_pos (by omega))]
    by_cases h9 : m < 9
    · rw [if_pos (show nI m < 9 from nI_lt (b := 9) h9 (by decide)), l0]
      apply e29
      unfold oY
      rw [if_neg (show ¬ 9 ≤ m by omega)]
    · have ix : nI m - 9 = nI (m - 9) := pk_sub (b := 9) (by omega)
      rw [if_neg (show ¬ nI m < 9 from nI_nlt (b := 9) (by omega) (by omega)), ix, if_pos (p_in (by omega) (by decide)), p_cl (by omega), hJ.2 (m - 9) (by omega), nI_l (by omega), lN_mul, Nat.mul_comm t]
      apply e29
      unfold oY
      rw [if_pos (show 9 ≤ m by omega)]
theorem m_yr {I : ax_I} {J : ax_J} {F : Nat → Nat} {t u : Nat} (h : t + u ≤ 10) (hJ : JV J 57 F) : ∃ J', F_X7_yearOdds I J (nI t) (nI u) = some J' ∧ JV J' 57 (oY t u F) ∧ FO 57 J J' := by
  obtain ⟨J', i1, i2, i3⟩ := m_yr3 (I := I) (J := J) (F := F) h ax_N 81 (by decide) (by decide) ⟨fun j h1 h2 => by omega, fun j h1 => hJ j h1⟩
  exact ⟨J', i1, fun j hj => i2.1 j (Nat.zero_le _) hj, i3⟩
def o0 (k : Nat) : Nat := if k = 0 then 1 else 0
/-- m years from y on -/
def oR (t u g : Nat) : Nat → Nat → (Nat → Nat) → (Nat → Nat)
  | 0, _, F => F
  | m + 1, y, F => oR t u g m (y + 1) (oY t (if y < g then 0 else u) F)
theorem x_sp34 {I : ax_I} {t u g M : Nat} (h10 : t + u ≤ 10) (hM : M ≤ 8) (hg : g ≤ 8) : ∀ (f m : Nat) (J : ax_J) (F : Nat → Nat), m ≤ M → m < f → JV J 32 F → ∃ J', f_X1_spread_34 f I J (nI M) (nI t) (nI u) (nI g) (nI (M - m)) = some J' ∧ JV J' 32 (oR t u g m (M - m) F) ∧ FO 32 J J'
  | 0, m, J, F, _, h, _ => by omega
  | f + 1, 0, J, F, _, h, hJ => by
    refine ⟨J, ?_, hJ, fun _ _ => rfl⟩
    rw [f_X1_spread_34, if_pos (nI_le (a := M) (b := M - 0) (by omega) (by omega))]
  | f + 1, m + 1, J, F, hm, h, hJ => by
    have e5 : M - (m + 1) + 1 = M - m := by omega
    have hlt : M - (m + 1) < M := by omega
    obtain ⟨k, hk⟩ : ∃ k, k = M - (m + 1) := ⟨_, rfl⟩
    rw [← hk] at hlt e5 ⊢
    rw [f_X1_spread_34, if_neg (nI_ge (a := k) (b := M) hlt (by omega)), f_X1_spread_54, f_X1_spread_54, oR]
    by_cases hkg : k < g
    · obtain ⟨J1, i1, i2, i3⟩ := x_yr (I := I) (J := J) (F := F) (t := t) (u := 0) (by omega) hJ
      rw [nI_0] at i1
      obtain ⟨J', k1, k2, k3⟩ := x_sp34 (I := I) h10 hM hg f m J1 _ (by omega) (by omega) i2
      rw [if_neg (nI_ge (a := k) (b := g) hkg (by omega)), i1, p_some, nI_1, e5, if_pos hkg]
      exact ⟨J', k1, k2, FO_tr i3 k3⟩
    · obtain ⟨J1, i1, i2, i3⟩ := x_yr (I := I) (J := J) (F := F) (t := t) (u := u) (by omega) hJ
      obtain ⟨J', k1, k2, k3⟩ := x_sp34 (I := I) h10 hM hg f m J1 _ (by omega) (by omega) i2
      rw [if_pos (nI_le (a := g) (b := k) (by omega) (by omega)), i1, p_some, nI_1, e5, if_neg hkg]
      exact ⟨J', k1, k2, FO_tr i3 k3⟩
theorem x_sp3 {I : ax_I} {x1 x2 x3 x4 : Int32} : ∀ (f m : Nat) (J : ax_J), m ≤ 81 → m < f → (∀ j, j < 81 - m → J 32 j = 0) → ∃ J', f_X1_spread_3 f I J x1 x2 x3 x4 (nI (81 - m)) = f_X1_spread_34 ax_N I J' x1 x2 x3 x4 0 ∧ JV J' 32 o0 ∧ FO 32 J J'
  | 0, m, J, _, h, _ => by omega
  | f + 1, 0, J, _, h, hJ => by
    have z0 : (0 : Int32).toNatClampNeg = 0 := by decide
    refine ⟨ax_v J 32 0 1, ?_, fun j hj => ?_, ax_v_FO _ _ _ _⟩
    · rw [f_X1_spread_3, if_pos (by decide), z0]
    · by_cases e : j = 0
      · rw [e, ax_v_ss]; rfl
      · rw [ax_v_nj e, hJ j (by omega)]
        unfold o0
        rw [if_neg e]; rfl
  | f + 1, m + 1, J, hm, h, hJ => by
    have e5 : 81 - (m + 1) + 1 = 81 - m := by omega
    have hlt : 81 - (m + 1) < 81 := by omega
    obtain ⟨k, hk⟩ : ∃ k, k = 81 - (m + 1) := ⟨_, rfl⟩
    rw [← hk] at hlt e5 hJ ⊢
    obtain ⟨J', i1, i2, i3⟩ := x_sp3 (I := I) (x1 := x1) (x2 := x2) (x3 := x3) (x4 := x4) f m (ax_v J 32 k 0) (by omega) (by omega) (fun j hj => by
      by_cases e : j = k
      · rw [e, ax_v_ss]
      · rw [ax_v_nj e]; exact hJ j (by omega))
    refine ⟨J', ?_, i2, FO_tr (ax_v_FO _ _ _ _) i3⟩
    rw [f_X1_spread_3, if_neg (show ¬ (81 : Int32) ≤ nI k from nI_ge (a := k) (b := 81) hlt (by decide)), if_pos (p_in hlt (by decide)), p_cl (by omega), nI_1, e5]
    exact i1
theorem x_sp {I : ax_I} {J : ax_J} {t u g M : Nat} (h10 : t + u ≤ 10) (hM : M ≤ 8) (hg : g ≤ 8) : ∃ J', F_X1_spread I J (nI M) (nI t) (nI u) (nI g) = some J' ∧ JV J' 32 (oR t u g M 0 o0) ∧ FO 32 J J' := by
  obtain ⟨J1, i1, i2, i3⟩ := x_sp3 (I := I) (x1 := nI M) (x2 := nI t) (x3 := nI u) (x4 := nI g) ax_N 81 J (by decide) (by decide) (fun j hj => by omega)
  obtain ⟨J', k1, k2, k3⟩ := x_sp34 (I := I) h10 hM hg ax_N M J1 o0 (Nat.le_refl _) (by unfold ax_N; omega) i2
  rw [Nat.sub_self] at k1 k2
  exact ⟨J', i1.trans k1, k2, FO_tr i3 k3⟩
/-! bounds -/
theorem oY_le {t u B : Nat} {F : Nat → Nat} (h : t + u ≤ 10) (hF : ∀ j, F j ≤ B) (j : Nat) : oY t u F j ≤ 10 * B := by
  unfold oY
  have h1 : F j * (10 - t - u) ≤ B * (10 - t - u) := Nat.mul_le_mul_right _ (hF j)
  have h2 : F (j - 9) * t ≤ B * t := Nat.mul_le_mul_right _ (hF _)
  have h3 : F (j - 1) * u ≤ B * u := Nat.mul_le_mul_right _ (hF _)
  have e : B * (10 - t - u) + B * t + B * u = 10 * B := by
    rw [← Nat.mul_add, ← Nat.mul_add, Nat.mul_comm]
    congr 1; omega
  split
  · split <;> omega
  · split <;> omega
theorem oR_le {t u g : Nat} (h : t + u ≤ 10) : ∀ (m y B : Nat) (F : Nat → Nat), (∀ j, F j ≤ B) → ∀ j, oR t u g m y F j ≤ 10 ^ m * B
  | 0, y, B, F, hF, j => by
    show F j ≤ 1 * B
    have := hF j; omega
  | m + 1, y, B, F, hF, j => by
    have h1 := oR_le (t := t) (u := u) (g := g) h m (y + 1) (10 * B) _ (oY_le (t := t) (u := if y < g then 0 else u) (by split <;> omega) hF) j
    have e : 10 ^ m * (10 * B) = 10 ^ (m + 1) * B := by rw [Nat.pow_succ, Nat.mul_assoc]
    rw [oR, ← e]; exact h1
theorem o0_le (j : Nat) : o0 j ≤ 1 := by unfold o0; split <;> omega
/-! the ways to a saint -/
def os (D : pD) (c : Nat) (F : Nat → Nat) : Nat → Nat
  | 0 => 0
  | k + 1 => os D c F k + if wS D c (D 1 c + k / 9) (D 2 c + k % 9) = true then F k else 0
theorem os_le (D : pD) (c : Nat) {F : Nat → Nat} {B : Nat} (hF : ∀ j, F j ≤ B) : ∀ k, os D c F k ≤ k * B
  | 0 => Nat.zero_le _
  | k + 1 => by
    have h1 := os_le D c hF k
    have h2 := hF k
    rw [os, Nat.succ_mul]
    split <;> omega
theorem x_w15 {I : ax_I} {J : ax_J} {D : pD} (hC : CR I 1 D) (hW : WF D) {c : Nat} (hcc : c ≤ 5) {F : Nat → Nat} (hJ : JV J 32 F) {w : Nat} (hw : w ≤ 8) (r5 : ax_I → ax_J → Int32 → Int64 → Int32 → Option Int64) : ∀ (f m : Nat), m ≤ 9 → m < f → f_X1_waysToSaint_15 1 r5 f I J (nI c) (lN (os D c F (9 * w + (9 - m)))) (nI w) (nI (9 - m)) = r5 I J (nI c) (lN (os D c F (9 * (w + 1)))) (nI (w + 1))
  | 0, m, _, h => by omega
  | f + 1, 0, _, h => by
    rw [f_X1_waysToSaint_15, if_pos (by decide), nI_1]
    rfl
  | f + 1, m + 1, hm, h => by
    have e5 : 9 - (m + 1) + 1 = 9 - m := by omega
    have hlt : 9 - (m + 1) < 9 := by omega
    obtain ⟨k, hk⟩ : ∃ k, k = 9 - (m + 1) := ⟨_, rfl⟩
    rw [← hk] at hlt e5 ⊢
    have hi6 : ax_in (nI c) 6 = true := p_in (by omega) (by decide)
    have hcl : (nI c).toNatClampNeg = c := p_cl (by omega)
    have b1 := WF_won hW (j := c) (by omega)
    have b2 := WF_sin hW (j := c) (by omega)
    have ix : nI w * 9 + nI k = nI (9 * w + k) := by
      rw [show nI w * 9 = nI (w * 9) from pk_mul w 9, nI_add, Nat.mul_comm]
    have d1 : (9 * w + k) / 9 = w := by omega
    have d2 : (9 * w + k) % 9 = k := by omega
    have ih := x_w15 hC hW hcc hJ hw r5 f m (by omega) (by omega)
    have es : os D c F (9 * w + (9 - m)) = os D c F (9 * w + k) + if wS D c (D 1 c + w) (D 2 c + k) = true then F (9 * w + k) else 0 := by
      rw [← e5, show 9 * w + (k + 1) = (9 * w + k) + 1 from rfl, os, d1, d2]
    have c1 : I (1 + 1) c = nI (D 1 c) := CR_won hC (by omega)
    have c2 : I (1 + 2) c = nI (D 2 c) := CR_sin hC (by omega)
    rw [f_X1_waysToSaint_15, if_neg (show ¬ (9 : Int32) ≤ nI k from nI_ge (a := k) (b := 9) hlt (by decide)), if_pos hi6, if_pos hi6, hcl, c1, c2, nI_add, nI_add, x_would hC hW hcc (by omega) (by omega), p_some, f_X1_waysToSaint_64, f_X1_waysToSaint_64, ix, if_pos (p_in (by omega) (by decide)), p_cl (by omega), hJ (9 * w + k) (by omega), lN_add, nI_1, e5]
    rw [es] at ih
    cases hS : wS D c (D 1 c + w) (D 2 c + k)
    · rw [hS, if_neg (by decide), Nat.add_zero] at ih
      rw [show (if (false : Bool) = true then (1 : Int32) else 0) = 0 from rfl, if_pos rfl]
      exact ih
    · rw [hS, if_pos rfl] at ih
      rw [show (if (true : Bool) = true then (1 : Int32) else 0) = 1 from rfl, if_neg (by decide)]
      exact ih
theorem x_w5 {I : ax_I} {J : ax_J} {D : pD} (hC : CR I 1 D) (hW : WF D) {c : Nat} (hcc : c ≤ 5) {F : Nat → Nat} (hJ : JV J 32 F) : ∀ (f m : Nat), m ≤ 9 → m < f → f_X1_waysToSaint_5 1 f I J (nI c) (lN (os D c F (9 * (9 - m)))) (nI (9 - m)) = some (lN (os D c F 81))
  | 0, m, _, h => by omega
  | f + 1, 0, _, h => by
    rw [f_X1_waysToSaint_5, if_pos (by decide)]
  | f + 1, m + 1, hm, h => by
    have e5 : 9 - (m + 1) + 1 = 9 - m := by omega
    have hlt : 9 - (m + 1) < 9 := by omega
    obtain ⟨k, hk⟩ : ∃ k, k = 9 - (m + 1) := ⟨_, rfl⟩
    rw [← hk] at hlt e5 ⊢
    have ih := x_w5 hC hW hcc hJ f m (by omega) (by omega)
    have i1 := x_w15 hC hW hcc hJ (w := k) (by omega) (f_X1_waysToSaint_5 1 f) ax_N 9 (by decide) (by decide)
    rw [f_X1_waysToSaint_5, if_neg (show ¬ (9 : Int32) ≤ nI k from nI_ge (a := k) (b := 9) hlt (by decide))]
    refine i1.trans ?_
    rw [e5]
    exact ih
theorem x_ways {I : ax_I} {J : ax_J} {D : pD} (hC : CR I 1 D) (hW : WF D) {c : Nat} (hcc : c ≤ 5) {F : Nat → Nat} (hJ : JV J 32 F) : F_X1_waysToSaint I J 1 (nI c) = some (lN (os D c F 81)) := x_w5 hC hW hcc hJ ax_N 9 (by decide) (by decide)
theorem x_all {I : ax_I} {M : Nat} (hM : M ≤ 8) : ∀ (f m : Nat), m ≤ M → m < f → f_X1_allWays_5 f I (nI M) (lN (10 ^ (M - m))) (nI (M - m)) = some (lN (10 ^ M))
  | 0, m, _, h => by omega
  | f + 1, 0, _, h => by
    rw [f_X1_allWays_5, if_pos (nI_le (a := M) (b := M - 0) (by omega) (by omega))]; rfl
  | f + 1, m + 1, hm, h => by
    have e5 : M - (m + 1) + 1 = M - m := by omega
    have hlt : M - (m + 1) < M := by omega
    obtain ⟨k, hk⟩ : ∃ k, k = M - (m + 1) := ⟨_, rfl⟩
    rw [← hk] at hlt e5 ⊢
    have ih := x_all (I := I) hM f m (by omega) (by omega)
    rw [f_X1_allWays_5, if_neg (nI_ge (a := k) (b := M) hlt (by omega)), show lN (10 ^ k) * 10 = lN (10 ^ k * 10) from lN_mul _ 10, ← Nat.pow_succ, nI_1]
    rw [← e5] at ih
    exact ih
theorem x_aw {I : ax_I} {M : Nat} (hM : M ≤ 8) : F_X1_allWays I (nI M) = some (lN (10 ^ M)) := by
  have h := x_all (I := I) hM ax_N M (Nat.le_refl _) (by unfold ax_N; omega)
  rw [Nat.sub_self] at h
  exact h
