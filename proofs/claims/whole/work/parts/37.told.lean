/-! ===== told ===== -/
theorem p_wN (I : ax_I) {w lo hi : Nat} (hw : w < 2 ^ 31) (hl : lo < 2 ^ 31) (hh : hi < 2 ^ 31) : F_X6_within I (nI w) (nI lo) (nI hi) = some (if lo ≤ w ∧ w ≤ hi then 1 else 0) := by
  rw [p_within]
  simp only [nI_leI hl hw, nI_leI hw hh]
theorem p_mN (I : ax_I) {w lo hi : Nat} {lo' hi' : Int64} (hw : w < 2 ^ 31) (hl : lo < 2 ^ 31) (hh : hi < 2 ^ 31) (h1 : lo' = (nI lo).toInt64) (h2 : hi' = (nI hi).toInt64) : F_X7_in I (nI w).toInt64 lo' hi' = some (if lo ≤ w ∧ w ≤ hi then 1 else 0) := by
  rw [p_min I (nI w) (nI lo) (nI hi) h1 h2]
  simp only [nI_leI hl hw, nI_leI hw hh]
theorem p_eqN {w k : Nat} (hw : w < 2 ^ 31) (hk : k < 2 ^ 31) : (nI w = nI k) = (w = k) := propext (nI_eq hw hk)
theorem p_subN {a b : Nat} (h : b ≤ a) : nI a - nI b = nI (a - b) := pk_sub h
theorem x_toldC {I : ax_I} {D : pD} (hC : CR I 1 D) (hW : WF D) {c k : Nat} (hc : c ≤ 5) (hk : k < 50) (hb : bb (D 0 0) c = 1) : F_X6_toldOfChild I (nI c) (nI k) = some (if 10 ≤ k ∧ k ≤ 17 then hv (D 5 (8 * c + (k - 10))) else if k = 0 then nI (D 1 c) else if k = 1 then nI (D 2 c) else if k = 2 then nI (D 3 c) else if k = 3 then nI (bb (D 0 3) c) else if k = 4 then nI (D 6 c) else if k = 5 then nI (D 7 c) else if k = 6 then nI (D 8 c) else (-2)) := by
  have tC := x_there hC hW hc
  have fC := x_fallen hC hW hc
  rw [hb] at tC fC
  have q1 : (nI 1 = 0) = False := eq_false (by decide)
  have hi : ax_in (nI c) 6 = true := p_in (by omega) (by decide)
  have hcl : (nI c).toNatClampNeg = c := p_cl (by omega)
  have wk : F_X6_within I (nI k) 10 17 = some (if 10 ≤ k ∧ k ≤ 17 then 1 else 0) := p_wN I (lo := 10) (hi := 17) (by omega) (by decide) (by decide)
  simp only [F_X6_toldOfChild, tC, p_some, q1, if_false, wk]
  by_cases h : 10 ≤ k ∧ k ≤ 17
  · have e : nI k - 10 = nI (k - 10) := p_subN (b := 10) (by omega)
    have e2 : nI c * 8 + nI (k - 10) = nI (8 * c + (k - 10)) := p_ix c (k - 10)
    simp only [if_pos h, p10, if_false, F_X2_holderOf, e, e2, p_in (show 8 * c + (k - 10) < 48 by omega) (by decide), if_true, p_cl (show 8 * c + (k - 10) < 2 ^ 31 by omega), p_some]
    exact congrArg some (CR_hold hC (by omega))
  · have k0 : (nI k = 0) = (k = 0) := p_eqN (k := 0) (by omega) (by decide)
    have k1 : (nI k = 1) = (k = 1) := p_eqN (k := 1) (by omega) (by decide)
    have k2 : (nI k = 2) = (k = 2) := p_eqN (k := 2) (by omega) (by decide)
    have k3 : (nI k = 3) = (k = 3) := p_eqN (k := 3) (by omega) (by decide)
    have k4 : (nI k = 4) = (k = 4) := p_eqN (k := 4) (by omega) (by decide)
    have k5 : (nI k = 5) = (k = 5) := p_eqN (k := 5) (by omega) (by decide)
    have k6 : (nI k = 6) = (k = 6) := p_eqN (k := 6) (by omega) (by decide)
    simp only [if_neg h, if_true, k0, k1, k2, k3, k4, k5, k6, hi, hcl, fC, p_some, Nat.one_mul]
    rw [show I 2 c = nI (D 1 c) from CR_won hC (by omega), show I 3 c = nI (D 2 c) from CR_sin hC (by omega), show I 4 c = nI (D 3 c) from CR_eye hC (by omega), show I 6 c = nI (D 6 c) from CR_cost hC (by omega), show I 7 c = nI (D 7 c) from CR_worth hC (by omega), show I 8 c = nI (D 8 c) from CR_days hC (by omega)]
    have hf := bb_lt (D 0 3) c
    have ef : (if nI (bb (D 0 3) c) = 0 then some (0 : Int32) else some 1) = some (nI (bb (D 0 3) c)) := by
      rcases (show bb (D 0 3) c = 0 ∨ bb (D 0 3) c = 1 by omega) with h | h <;> rw [h] <;> rfl
    rw [ef]
    split
    · rfl
    · split
      · rfl
      · split
        · rfl
        · split
          · rfl
          · split
            · rfl
            · split
              · rfl
              · split
                · rfl
                · rfl
theorem m_toldC {I : ax_I} {D : pD} (hM : MR I D) {c k : Nat} (hc : c ≤ 5) (hk : k < 50) : F_X7_toldOf I (nI c) (nI k) = some (if 10 ≤ k ∧ k ≤ 17 then hv (D 5 (8 * c + (k - 10))) else if k = 0 then nI (D 1 c) else if k = 1 then nI (D 2 c) else if k = 2 then nI (D 3 c) else if k = 3 then nI (bb (D 0 3) c) else if k = 4 then nI (D 6 c) else if k = 5 then nI (D 7 c) else if k = 6 then nI (D 8 c) else (-2)) := by
  have hi : ax_in (nI c) 6 = true := p_in (by omega) (by decide)
  have hcl : (nI c).toNatClampNeg = c := p_cl (by omega)
  have wk : F_X7_in I (nI k).toInt64 10 17 = some (if 10 ≤ k ∧ k ≤ 17 then 1 else 0) := p_mN I (lo := 10) (hi := 17) (by omega) (by decide) (by decide) rfl rfl
  simp only [F_X7_toldOf, p_some, wk]
  by_cases h : 10 ≤ k ∧ k ≤ 17
  · have e2 : (8 : Int32) * nI c + nI k - 10 = nI (8 * c + (k - 10)) := by
      rw [p_ix2 c k, show (10 : Int32) = nI 10 from rfl, p_subN (by omega)]
      congr 1
      omega
    simp only [if_pos h, p10, if_false, e2, p_in (show 8 * c + (k - 10) < 48 by omega) (by decide), if_true, p_cl (show 8 * c + (k - 10) < 2 ^ 31 by omega)]
    exact congrArg some (MR_hold hM (by omega))
  · have k0 : (nI k = 0) = (k = 0) := p_eqN (k := 0) (by omega) (by decide)
    have k1 : (nI k = 1) = (k = 1) := p_eqN (k := 1) (by omega) (by decide)
    have k2 : (nI k = 2) = (k = 2) := p_eqN (k := 2) (by omega) (by decide)
    have k3 : (nI k = 3) = (k = 3) := p_eqN (k := 3) (by omega) (by decide)
    have k4 : (nI k = 4) = (k = 4) := p_eqN (k := 4) (by omega) (by decide)
    have k5 : (nI k = 5) = (k = 5) := p_eqN (k := 5) (by omega) (by decide)
    have k6 : (nI k = 6) = (k = 6) := p_eqN (k := 6) (by omega) (by decide)
    simp only [if_neg h, if_true, k0, k1, k2, k3, k4, k5, k6, hi, hcl]
    rw [MR_won hM (j := c) (by omega), MR_sin hM (j := c) (by omega), MR_eye hM (j := c) (by omega), MR_fal hM (j := c) (by omega), MR_cost hM (j := c) (by omega), MR_worth hM (j := c) (by omega), MR_days hM (j := c) (by omega)]
    rw [show D 0 3 / 2 ^ c % 2 = bb (D 0 3) c from rfl]
    split
    · rfl
    · split
      · rfl
      · split
        · rfl
        · split
          · rfl
          · split
            · rfl
            · split
              · rfl
              · split
                · rfl
                · rfl
theorem told_x {B : Nat} {lay : List ax_S} {I : ax_I} {J : ax_J} (hI : Inv B lay I J) (x : Int32) : ∃ r, F_X6_told I x = some r ∧ F_X7_told I x = some r := by
  obtain ⟨g, ext, D, n, S, hlay, hext, hez, hC, hM, hW, hP, hIm⟩ := hI
  rcases p_rng x 349 (by decide) with ⟨w, hw, rfl⟩ | h1
  · have w1 : F_X6_within I (nI w) 50 349 = some (if 50 ≤ w ∧ w ≤ 349 then 1 else 0) := p_wN I (lo := 50) (hi := 349) (by omega) (by decide) (by decide)
    have w2 : F_X6_within I (nI w) 10 13 = some (if 10 ≤ w ∧ w ≤ 13 then 1 else 0) := p_wN I (lo := 10) (hi := 13) (by omega) (by decide) (by decide)
    have w3 : F_X6_within I (nI w) 20 27 = some (if 20 ≤ w ∧ w ≤ 27 then 1 else 0) := p_wN I (lo := 20) (hi := 27) (by omega) (by decide) (by decide)
    have v1 : F_X7_in I (nI w).toInt64 50 349 = some (if 50 ≤ w ∧ w ≤ 349 then 1 else 0) := p_mN I (lo := 50) (hi := 349) (by omega) (by decide) (by decide) rfl rfl
    have v2 : F_X7_in I (nI w).toInt64 10 13 = some (if 10 ≤ w ∧ w ≤ 13 then 1 else 0) := p_mN I (lo := 10) (hi := 13) (by omega) (by decide) (by decide) rfl rfl
    have v3 : F_X7_in I (nI w).toInt64 20 27 = some (if 20 ≤ w ∧ w ≤ 27 then 1 else 0) := p_mN I (lo := 20) (hi := 27) (by omega) (by decide) (by decide) rfl rfl
    have v4 : F_X7_in I (nI w).toInt64 2 4 = some (if 2 ≤ w ∧ w ≤ 4 then 1 else 0) := p_mN I (lo := 2) (hi := 4) (by omega) (by decide) (by decide) rfl rfl
    rcases Nat.lt_or_ge w 50 with h50 | h50
    · have c1 : ¬ (50 ≤ w ∧ w ≤ 349) := by omega
      by_cases h10 : 10 ≤ w ∧ w ≤ 13
      · have c3 : ¬ (20 ≤ w ∧ w ≤ 27) := by omega
        have e : nI w - 10 = nI (w - 10) := p_subN (b := 10) (by omega)
        have hi : ax_in (nI (w - 10)) 4 = true := p_in (by omega) (by decide)
        have hcl : (nI (w - 10)).toNatClampNeg = w - 10 := p_cl (by omega)
        refine ⟨nI (D 9 (w - 10)), ?_, ?_⟩
        · simp only [F_X6_told, w1, w2, p_some, if_neg c1, if_pos h10, if_true, p10, if_false, e, hi, hcl]
          exact congrArg some (CR_purse hC (by omega))
        · simp only [F_X7_told, v1, v2, v3, p_some, if_neg c1, if_neg c3, if_pos h10, if_true, p10, if_false, e, hi, hcl]
          exact congrArg some (MR_purse hM (by omega))
      · by_cases h20 : 20 ≤ w ∧ w ≤ 27
        · have e : nI w - 20 = nI (w - 20) := p_subN (b := 20) (by omega)
          have hi : ax_in (nI (w - 20)) 8 = true := p_in (by omega) (by decide)
          have hcl : (nI (w - 20)).toNatClampNeg = w - 20 := p_cl (by omega)
          refine ⟨nI (D 11 (w - 20)), ?_, ?_⟩
          · simp only [F_X6_told, w1, w2, w3, p_some, if_neg c1, if_neg h10, if_pos h20, if_true, p10, if_false, e, hi, hcl]
            exact congrArg some (CR_saw hC (by omega))
          · simp only [F_X7_told, v1, v3, p_some, if_neg c1, if_pos h20, if_true, p10, if_false, e, hi, hcl]
            exact congrArg some (MR_saw hM (by omega))
        · have k0 : (nI w = 0) = (w = 0) := p_eqN (k := 0) (by omega) (by decide)
          have k1 : (nI w = 1) = (w = 1) := p_eqN (k := 1) (by omega) (by decide)
          have k2 : (nI w = 2) = (w = 2) := p_eqN (k := 2) (by omega) (by decide)
          have k3 : (nI w = 3) = (w = 3) := p_eqN (k := 3) (by omega) (by decide)
          have k4 : (nI w = 4) = (w = 4) := p_eqN (k := 4) (by omega) (by decide)
          have k5 : (nI w = 5) = (w = 5) := p_eqN (k := 5) (by omega) (by decide)
          have k6 : (nI w = 6) = (w = 6) := p_eqN (k := 6) (by omega) (by decide)
          have z0 : (0 : Int32).toNatClampNeg = 0 := by decide
          have z1 : (1 : Int32).toNatClampNeg = 1 := by decide
          have z2 : (2 : Int32).toNatClampNeg = 2 := by decide
          have a0 : I 26 1 = nI n := hP.1
          have a1 : I 1 0 = nI (D 0 0) := hC.1
          have a2 : I 10 0 = nI (D 10 0) := CR_rule hC (by decide)
          have a3 : I 10 1 = nI (D 10 1) := CR_rule hC (by decide)
          have a4 : I 10 2 = nI (D 10 2) := CR_rule hC (by decide)
          have a5 : I 1 2 = nI (D 0 1) := hC.2.2.1
          have a6 : I 1 3 = nI (D 0 2) := hC.2.2.2.1
          have b0 : I 35 18 = nI n := hP.2.1
          have b1 : I 35 0 = nI (D 0 0) := hM.1
          have b5 : I 35 1 = nI (D 0 1) := hM.2.1
          have b6 : I 35 16 = nI (D 0 2) := hM.2.2.1
          refine ⟨if w = 0 then nI n else if w = 1 then nI (D 0 0) else if w = 2 then nI (D 10 0) else if w = 3 then nI (D 10 1) else if w = 4 then nI (D 10 2) else if w = 5 then nI (D 0 1) else if w = 6 then nI (D 0 2) else (-2), ?_, ?_⟩
          · simp only [F_X6_told, w1, w2, w3, p_some, if_neg c1, if_neg h10, if_neg h20, if_true, k0, k1, k2, k3, k4, k5, k6, z0, z1, z2, a0, a1, a2, a3, a4, a5, a6]
            split
            · rfl
            · split
              · rfl
              · split
                · rfl
                · split
                  · rfl
                  · split
                    · rfl
                    · split
                      · rfl
                      · split
                        · rfl
                        · rfl
          · simp only [F_X7_told, v1, v2, v3, v4, p_some, if_neg c1, if_neg h10, if_neg h20, if_true, k0, k1, k5, k6, b0, b1, b5, b6]
            by_cases h2 : 2 ≤ w ∧ w ≤ 4
            · have e : nI w - 2 = nI (w - 2) := p_subN (b := 2) (by omega)
              have hi : ax_in (nI (w - 2)) 3 = true := p_in (by omega) (by decide)
              have hcl : (nI (w - 2)).toNatClampNeg = w - 2 := p_cl (by omega)
              simp only [if_pos h2, p10, if_false, e, hi, if_true, hcl]
              rw [MR_rule hM (j := w - 2) (by omega)]
              rcases (show w = 2 ∨ w = 3 ∨ w = 4 by omega) with rfl | rfl | rfl <;> rfl
            · simp only [if_neg h2, if_true]
              by_cases e0 : w = 0
              · simp [e0]
              · by_cases e1 : w = 1
                · simp [e1]
                · have e2 : w ≠ 2 := by omega
                  have e3 : w ≠ 3 := by omega
                  have e4 : w ≠ 4 := by omega
                  simp only [if_neg e0, if_neg e1, if_neg e2, if_neg e3, if_neg e4]
                  split
                  · rfl
                  · split
                    · rfl
                    · rfl
    · have c1 : 50 ≤ w ∧ w ≤ 349 := ⟨h50, hw⟩
      have d1 : nI w / 50 = nI (w / 50) := pk_div (d := 50) (by omega) (by decide) (by decide)
      have d2 : nI w - nI (w / 50) * 50 = nI (w % 50) := by
        have h := pk_rem (a := w) (d := 50) (by omega) (by decide) (by decide)
        rw [show nI w / nI 50 = nI (w / 50) from d1] at h
        exact h
      have d3 : nI (w / 50) - 1 = nI (w / 50 - 1) := p_subN (b := 1) (by omega)
      have hc : w / 50 - 1 ≤ 5 := by omega
      have tC := x_there hC hW hc
      have tM := m_there hM hW hc
      have hb := bb_lt (D 0 0) (w / 50 - 1)
      rcases (show bb (D 0 0) (w / 50 - 1) = 0 ∨ bb (D 0 0) (w / 50 - 1) = 1 by omega) with h | h
      · rw [h] at tC tM
        refine ⟨-2, ?_, ?_⟩
        · simp only [F_X6_told, w1, p_some, if_pos c1, p10, if_false, d1, d2, d3, F_X6_toldOfChild, tC, nI_0, if_true]
        · simp only [F_X7_told, v1, p_some, if_pos c1, p10, if_false, d1, d3, tM, nI_0, if_true]
      · have q1 : (nI 1 = 0) = False := eq_false (by decide)
        have r1 := x_toldC hC hW hc (k := w % 50) (Nat.mod_lt _ (by decide)) h
        have r2 := m_toldC hM hc (k := w % 50) (Nat.mod_lt _ (by decide))
        rw [h] at tM
        have s1 : F_X6_told I (nI w) = F_X6_toldOfChild I (nI (w / 50 - 1)) (nI (w % 50)) := by
          simp only [F_X6_told, w1, p_some, if_pos c1, p10, if_false, d1, d2, d3]
          rw [r1]; rfl
        have s2 : F_X7_told I (nI w) = F_X7_toldOf I (nI (w / 50 - 1)) (nI (w % 50)) := by
          simp only [F_X7_told, v1, p_some, if_pos c1, p10, q1, if_false, d1, d2, d3, tM]
          rw [r2]; rfl
        exact ⟨_, s1.trans r1, s2.trans r2⟩
  · rw [p_le, p_le, nI_toInt (by decide)] at h1
    have z0 : (0 : Int32).toInt = 0 := by decide
    have ne : ∀ (lo hi : Nat), lo ≤ hi → hi ≤ 349 → ¬ (nI lo ≤ x ∧ x ≤ nI hi) := by
      intro lo hi h2 h3
      rw [p_le, p_le, nI_toInt (by omega), nI_toInt (by omega)]
      omega
    have nk : ∀ k : Nat, k ≤ 349 → (x = nI k) = False := by
      intro k hk
      apply eq_false
      intro e
      rw [e, nI_toInt (by omega)] at h1
      omega
    have w1 : F_X6_within I x 50 349 = some 0 := p_wF (ne 50 349 (by decide) (by decide))
    have w2 : F_X6_within I x 10 13 = some 0 := p_wF (ne 10 13 (by decide) (by decide))
    have w3 : F_X6_within I x 20 27 = some 0 := p_wF (ne 20 27 (by decide) (by decide))
    have v1 : F_X7_in I x.toInt64 50 349 = some 0 := p_mF 50 349 (ne 50 349 (by decide) (by decide)) rfl rfl
    have v2 : F_X7_in I x.toInt64 10 13 = some 0 := p_mF 10 13 (ne 10 13 (by decide) (by decide)) rfl rfl
    have v3 : F_X7_in I x.toInt64 20 27 = some 0 := p_mF 20 27 (ne 20 27 (by decide) (by decide)) rfl rfl
    have v4 : F_X7_in I x.toInt64 2 4 = some 0 := p_mF 2 4 (ne 2 4 (by decide) (by decide)) rfl rfl
    have k0 : (x = 0) = False := nk 0 (by decide)
    have k1 : (x = 1) = False := nk 1 (by decide)
    have k2 : (x = 2) = False := nk 2 (by decide)
    have k3 : (x = 3) = False := nk 3 (by decide)
    have k4 : (x = 4) = False := nk 4 (by decide)
    have k5 : (x = 5) = False := nk 5 (by decide)
    have k6 : (x = 6) = False := nk 6 (by decide)
    refine ⟨-2, ?_, ?_⟩
    · simp only [F_X6_told, w1, w2, w3, p_some, if_true, k0, k1, k2, k3, k4, k5, k6, if_false]
    · simp only [F_X7_told, v1, v2, v3, v4, p_some, if_true, k0, k1, k5, k6, if_false]
theorem op29 : lw_op29 Inv := by
  intro a1 l E B lay I J hI
  have hLL := (inv_sz hI).2.2
  obtain ⟨r, e1, e2⟩ := told_x hI a1
  exact op_i (M_X6_told hLL e1) (M_X7_told (J := J) hLL e2) (by decide) (by decide) hI
