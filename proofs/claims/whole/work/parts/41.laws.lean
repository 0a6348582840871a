/-! ===== what does not matter ===== -/
theorem Inv_fr {B : Nat} {lay : List ax_S} {I I2 : ax_I} {J J2 : ax_J} (h : Inv B lay I J) (e : ∀ r j, (r ≤ 12 ∨ r = 26 ∨ r = 27 ∨ (36 ≤ r ∧ r ≤ 50) ∨ 59 ≤ r) → I2 r j = I r j) (e0 : I2 35 0 = I 35 0) (e1 : I2 35 1 = I 35 1) (e2 : I2 35 16 = I 35 16) (e3 : I2 35 18 = I 35 18) : Inv B lay I2 J2 := by
  obtain ⟨g, ext, D, n, S, hlay, hext, hez, hC, hM, hW, hP, hIm⟩ := h
  exact ⟨g, ext, D, n, S, hlay, hext, hez, CR_eq hC (fun q j hq => e _ j (by omega)), MR_eq hM (fun r j h1 h2 => e r j (by omega)) e0 e1 e2, hW, PR_eq hP (e 26 1 (by omega)) e3 (fun j => e 27 j (by omega)) (fun j => e 50 j (by omega)), Im_hi hIm (fun r j hr => e r j (by omega))⟩
/-! ===== laws that fit ===== -/
/-- the pair p makes a SAINT of w wonders, s sins -/
def mk (p w s : Nat) : Bool := decide (p / 10 ≤ w) && decide (s ≤ p % 10)
def ftk (D : pD) (p : Nat) : Nat → Bool
  | 0 => true
  | m + 1 => (mk p (D 12 (D 0 2 - (m + 1))) (D 13 (D 0 2 - (m + 1))) == decide (bb (D 0 4) (D 0 2 - (m + 1)) = 1)) && ftk D p m
def ft (D : pD) (p : Nat) : Bool := ftk D p (D 0 2)
theorem p_dm {p : Nat} (h : p < 1000) : nI p / 10 = nI (p / 10) ∧ nI p - nI p / 10 * 10 = nI (p % 10) := ⟨pk_div (d := 10) (by omega) (by decide) (by decide), pk_rem (d := 10) (by omega) (by decide) (by decide)⟩
theorem x_mk {I : ax_I} {p w s : Nat} (hp : p < 1000) (hw : w < 1000) (hs : s < 1000) : F_X3_makesSaint I (nI p) (nI w) (nI s) = some (if mk p w s then 1 else 0) := by
  obtain ⟨d1, d2⟩ := p_dm hp
  rw [F_X3_makesSaint, d2, d1]
  simp only [nI_ltI (a := w) (b := p / 10) (by omega) (by omega), nI_ltI (a := p % 10) (b := s) (by omega) (by omega)]
  unfold mk
  by_cases h1 : w < p / 10
  · simp [h1, Nat.not_le.mpr h1]
  · by_cases h2 : p % 10 < s
    · simp [h1, h2, Nat.not_le.mpr h2]
    · simp [h1, h2, Nat.not_lt.mp h1, Nat.not_lt.mp h2]
theorem m_mk {I : ax_I} {p w s : Nat} (hp : p < 1000) (hw : w < 1000) (hs : s < 1000) : F_X7_makes I (nI p) (nI w) (nI s) = some (if mk p w s then 1 else 0) := x_mk (I := I) hp hw hs
theorem x_ftk {b : Nat} {I : ax_I} {D : pD} (hC : CR I b D) (hW : WF D) {p : Nat} (hp : p < 100) : ∀ (n m : Nat), m ≤ D 0 2 → m < n → f_X3_fits_2 b n I (nI p) (nI (D 0 2 - m)) = some (if ftk D p m then 1 else 0)
  | 0, m, _, h => by omega
  | n + 1, 0, _, h => by
    have h8 := hW.2.2.1
    have c3 : I b 3 = nI (D 0 2) := hC.2.2.2.1
    rw [f_X3_fits_2, c3, if_pos (nI_le (by omega) (by omega))]; rfl
  | n + 1, m + 1, hm, h => by
    have h8 := hW.2.2.1
    have h4 := hW.2.2.2.2.1
    have c3 : I b 3 = nI (D 0 2) := hC.2.2.2.1
    have c4 : I b 4 = nI (D 0 4) := hC.2.2.2.2.1
    have e5 : D 0 2 - (m + 1) + 1 = D 0 2 - m := by omega
    rw [ftk]
    obtain ⟨k, hk⟩ : ∃ k, k = D 0 2 - (m + 1) := ⟨_, rfl⟩
    rw [← hk] at e5 ⊢
    have w1 := hW.2.2.2.2.2.2.2.2.2.2.2.2.2.2.2.1 k (by omega)
    have w2 := hW.2.2.2.2.2.2.2.2.2.2.2.2.2.2.2.2 k (by omega)
    have hi : ax_in (nI k) 8 = true := p_in (by omega) (by decide)
    have hcl : (nI k).toNatClampNeg = k := p_cl (by omega)
    obtain ⟨d1, d2⟩ := p_dm (p := 10 * D 12 k + D 13 k) (by omega)
    rw [show (10 * D 12 k + D 13 k) / 10 = D 12 k from by omega] at d1
    rw [show (10 * D 12 k + D 13 k) % 10 = D 13 k from by omega] at d2
    have ih := x_ftk hC hW hp n m (by omega) (by omega)
    rw [f_X3_fits_2, c3, if_neg (nI_ge (by omega) (by omega)), if_pos hi, hcl, c4, p_bit (by omega) (by omega), CR_life hC (by omega)]
    simp only [f_X3_fits_33, d2]
    simp only [d1, x_mk (I := I) (p := p) (w := D 12 k) (s := D 13 k) (by omega) (by omega) (by omega), p_some, nI_1, e5, ih]
    show (if nI (bb (D 0 4) k) = 0 then _ else _) = _
    have hb := bb_lt (D 0 4) k
    rcases (show bb (D 0 4) k = 0 ∨ bb (D 0 4) k = 1 by omega) with h0 | h0
    · rw [h0, if_pos nI_0]
      cases mk p (D 12 k) (D 13 k) <;> simp
    · rw [h0, if_neg (show ¬ nI 1 = 0 from by decide)]
      cases mk p (D 12 k) (D 13 k) <;> simp
theorem m_ft0 {I : ax_I} {D : pD} (hM : MR I D) (hW : WF D) (x : Int32) : ∀ (n m : Nat), m ≤ D 0 2 → m < n → f_X7_fits_4 n I x 0 (nI (D 0 2 - m)) = some 0
  | 0, m, _, h => by omega
  | n + 1, 0, _, h => by
    have h8 := hW.2.2.1
    have c3 : I 35 16 = nI (D 0 2) := hM.2.2.1
    rw [f_X7_fits_4, c3, if_pos (nI_le (by omega) (by omega))]; rfl
  | n + 1, m + 1, hm, h => by
    have h8 := hW.2.2.1
    have c3 : I 35 16 = nI (D 0 2) := hM.2.2.1
    have e5 : D 0 2 - (m + 1) + 1 = D 0 2 - m := by omega
    rw [f_X7_fits_4, c3, if_neg (nI_ge (by omega) (by omega)), if_pos rfl, f_X7_fits_54, f_X7_fits_55, nI_1, e5]
    exact m_ft0 hM hW x n m (by omega) (by omega)
theorem m_ftk {I : ax_I} {D : pD} (hM : MR I D) (hW : WF D) {p : Nat} (hp : p < 100) : ∀ (n m : Nat), m ≤ D 0 2 → m < n → f_X7_fits_4 n I (nI p) 1 (nI (D 0 2 - m)) = some (if ftk D p m then 1 else 0)
  | 0, m, _, h => by omega
  | n + 1, 0, _, h => by
    have h8 := hW.2.2.1
    have c3 : I 35 16 = nI (D 0 2) := hM.2.2.1
    rw [f_X7_fits_4, c3, if_pos (nI_le (by omega) (by omega)), if_pos p_bool1]; rfl
  | n + 1, m + 1, hm, h => by
    have h8 := hW.2.2.1
    have c3 : I 35 16 = nI (D 0 2) := hM.2.2.1
    have e5 : D 0 2 - (m + 1) + 1 = D 0 2 - m := by omega
    rw [ftk]
    obtain ⟨k, hk⟩ : ∃ k, k = D 0 2 - (m + 1) := ⟨_, rfl⟩
    rw [← hk] at e5 ⊢
    have w1 := hW.2.2.2.2.2.2.2.2.2.2.2.2.2.2.2.1 k (by omega)
    have w2 := hW.2.2.2.2.2.2.2.2.2.2.2.2.2.2.2.2 k (by omega)
    have hi : ax_in (nI k) 8 = true := p_in (by omega) (by decide)
    have hcl : (nI k).toNatClampNeg = k := p_cl (by omega)
    have ih := m_ftk hM hW hp n m (by omega) (by omega)
    have i0 := m_ft0 hM hW (nI p) n m (by omega) (by omega)
    have c14 : I 49 k = nI (bb (D 0 4) k) := MR_st hM (by omega)
    rw [f_X7_fits_4, c3, if_neg (nI_ge (by omega) (by omega)), if_neg (show ¬ (1 : Int32) = 0 from by decide), if_pos hi, if_pos hi, hcl, MR_sw hM (by omega), MR_ss hM (by omega), m_mk (I := I) (p := p) (w := D 12 k) (s := D 13 k) (by omega) (by omega) (by omega), p_some, if_pos hi, c14]
    simp only [f_X7_fits_47, f_X7_fits_54, f_X7_fits_55, nI_1, e5, ih, i0]
    have hb := bb_lt (D 0 4) k
    rcases (show bb (D 0 4) k = 0 ∨ bb (D 0 4) k = 1 by omega) with h0 | h0
    · rw [h0, if_neg (show ¬ nI 0 = 1 from by decide)]
      cases mk p (D 12 k) (D 13 k) <;> simp
    · rw [h0, if_pos (show nI 1 = 1 from by decide)]
      cases mk p (D 12 k) (D 13 k) <;> simp
theorem x_ft {b : Nat} {I : ax_I} {D : pD} (hC : CR I b D) (hW : WF D) {p : Nat} (hp : p < 100) : F_X3_fits I (nI p) b = some (if ft D p then 1 else 0) := by
  have h8 := hW.2.2.1
  have h := x_ftk hC hW hp ax_N (D 0 2) (Nat.le_refl _) (by unfold ax_N; omega)
  rw [Nat.sub_self, nI_0] at h
  exact h
theorem m_ft {I : ax_I} {D : pD} (hM : MR I D) (hW : WF D) {p : Nat} (hp : p < 100) : F_X7_fits I (nI p) = some (if ft D p then 1 else 0) := by
  have h8 := hW.2.2.1
  have h := m_ftk hM hW hp ax_N (D 0 2) (Nat.le_refl _) (by unfold ax_N; omega)
  rw [Nat.sub_self, nI_0] at h
  exact h
/-- how many below k fit -/
def cf (D : pD) : Nat → Nat
  | 0 => 0
  | k + 1 => cf D k + if ft D k then 1 else 0
theorem cf_le (D : pD) : ∀ k, cf D k ≤ k
  | 0 => Nat.le_refl _
  | k + 1 => by have := cf_le D k; rw [cf]; split <;> omega
theorem cf_mono (D : pD) : ∀ a b, a ≤ b → cf D a ≤ cf D b
  | a, 0, h => by rw [show a = 0 by omega]; exact Nat.le_refl _
  | a, b + 1, h => by
    by_cases h1 : a = b + 1
    · rw [h1]; exact Nat.le_refl _
    · have := cf_mono D a b (by omega); rw [cf]; omega
