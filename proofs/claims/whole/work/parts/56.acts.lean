/-! ===== acts: why one can not be, and what it does ===== -/
/-- what w, child c, parish p, part q -/
def pWhy (D : pD) (w c p q : Nat) : Nat :=
  if w = 7 then (if D 0 1 < 99 then 0 else 7)
  else if bb (D 0 0) c = 0 then 1
  else if bb (D 0 3) c = 1 then 2
  else if w = 0 then (if D 1 c < 99 then 0 else 3)
  else if w = 1 then (if D 2 c < 99 then 0 else 3)
  else if w = 2 then (if 0 < D 2 c then 0 else 3)
  else if w = 3 then (if D 3 c < 99 then 0 else 3)
  else if w = 4 then 0
  else if w = 5 then (if D 5 (8 * c + q) = 0 then (if 10 ≤ D 9 p then 0 else 5) else 4)
  else (if pB D c (nI p) = 0 then 6 else 0)
theorem pWhy_le (D : pD) (w c p q : Nat) : pWhy D w c p q ≤ 7 := by
  unfold pWhy
  repeat' split
  all_goals omega
theorem hv_m6 : ∀ d, d < 5 → ((hv d = -6) ↔ d = 0) := by decide +kernel
theorem hv_neg : ∀ d, d < 5 → ((hv d < 0) ↔ d = 0) := by decide +kernel
theorem hv_s (p : Nat) : hv (p + 1) = nI p := by unfold hv; rw [if_neg (by omega)]; rfl
theorem e_eq {a b : Nat} (ha : a < 2 ^ 31) (hb : b < 2 ^ 31) : (nI a = nI b) = (a = b) := propext (nI_eq ha hb)
theorem e_lt {a b : Nat} (ha : a < 2 ^ 31) (hb : b < 2 ^ 31) : (nI a < nI b) = (a < b) := propext (nI_ltI ha hb)
theorem e_le {a b : Nat} (ha : a < 2 ^ 31) (hb : b < 2 ^ 31) : (nI a ≤ nI b) = (a ≤ b) := propext (nI_leI ha hb)
theorem x_why {I : ax_I} {b a : Nat} {D : pD} (hC : CR I b D) (hW : WF D) {w c p q : Nat} (hw : w ≤ 7) (hcc : c ≤ 5) (hp : p ≤ 3) (hq : q ≤ 7) (a0 : I a 0 = nI w) (a1 : I a 1 = nI c) (a2 : I a 2 = nI q) (a3 : I a 3 = nI p) : F_X2_reasonAgainst I b a = some (nI (pWhy D w c p q)) := by
  have hi6 : ax_in (nI c) 6 = true := p_in (by omega) (by decide)
  have hi48 : ax_in (nI (8 * c + q)) 48 = true := p_in (by omega) (by decide)
  have hi4 : ax_in (nI p) 4 = true := p_in (by omega) (by decide)
  have k6 : (nI c).toNatClampNeg = c := p_cl (by omega)
  have k48 : (nI (8 * c + q)).toNatClampNeg = 8 * c + q := p_cl (by omega)
  have k4 : (nI p).toNatClampNeg = p := p_cl (by omega)
  have b1 := WF_won hW (j := c) (by omega)
  have b2 := WF_sin hW (j := c) (by omega)
  have b3 := WF_eye hW (j := c) (by omega)
  have b5 := WF_hold hW (j := 8 * c + q) (by omega)
  have b9 := WF_purse hW (j := p) (by omega)
  have by' := hW.2.1
  have c2 : I b 2 = nI (D 0 1) := hC.2.2.1
  have e0 : (nI w = 0) = (w = 0) := e_eq (a := w) (b := 0) (by omega) (by decide)
  have e1 : (nI w = 1) = (w = 1) := e_eq (a := w) (b := 1) (by omega) (by decide)
  have e2 : (nI w = 2) = (w = 2) := e_eq (a := w) (b := 2) (by omega) (by decide)
  have e3 : (nI w = 3) = (w = 3) := e_eq (a := w) (b := 3) (by omega) (by decide)
  have e4 : (nI w = 4) = (w = 4) := e_eq (a := w) (b := 4) (by omega) (by decide)
  have e5 : (nI w = 5) = (w = 5) := e_eq (a := w) (b := 5) (by omega) (by decide)
  have e6 : (nI w = 6) = (w = 6) := e_eq (a := w) (b := 6) (by omega) (by decide)
  have e7 : (nI w = 7) = (w = 7) := e_eq (a := w) (b := 7) (by omega) (by decide)
  have r1 : (nI (D 0 1) < 99) = (D 0 1 < 99) := e_lt (b := 99) (by omega) (by decide)
  have r2 : (nI (D 1 c) < 99) = (D 1 c < 99) := e_lt (b := 99) (by omega) (by decide)
  have r3 : (nI (D 2 c) < 99) = (D 2 c < 99) := e_lt (b := 99) (by omega) (by decide)
  have r4 : (nI (D 3 c) < 99) = (D 3 c < 99) := e_lt (b := 99) (by omega) (by decide)
  have r5 : (0 < nI (D 2 c)) = (0 < D 2 c) := e_lt (a := 0) (by decide) (by omega)
  have r6 : (10 ≤ nI (D 9 p)) = (10 ≤ D 9 p) := e_le (a := 10) (by decide) (by omega)
  have r7 : (nI (pB D c (nI p)) = 0) = (pB D c (nI p) = 0) := e_eq (b := 0) (by have := pB_lt D c (nI p); omega) (by decide)
  have r8 : (hv (D 5 (8 * c + q)) = -6) = (D 5 (8 * c + q) = 0) := propext (hv_m6 _ (by omega))
  have t0 : (nI (bb (D 0 0) c) = 0) = (bb (D 0 0) c = 0) := propext (p_eq0 (bb_lt _ _))
  have l0 := bb_lt (D 0 0) c
  have l3 := bb_lt (D 0 3) c
  simp only [F_X2_reasonAgainst, F_X2_reasonAgainstLetting, F_X2_holderOf, a0, a1, a2, a3, e0, e1, e2, e3, e4, e5, e6, e7, x_there hC hW hcc, x_fallen hC hW hcc, x_pB hC hcc (nI p), p_some, p_ix, hi6, hi48, hi4, k6, k48, k4, if_true, c2, CR_won hC (j := c) (by omega), CR_sin hC (j := c) (by omega), CR_eye hC (j := c) (by omega), CR_hold hC (j := 8 * c + q) (by omega), CR_purse hC (j := p) (by omega), r1, r2, r3, r4, r5, r6, r7, r8, t0]
  unfold pWhy
  by_cases h7 : w = 7
  · simp only [if_pos h7]; split <;> rfl
  · simp only [if_neg h7]
    by_cases z0 : bb (D 0 0) c = 0
    · simp only [if_pos z0]; rfl
    · simp only [if_neg z0]
      have z1 : bb (D 0 0) c = 1 := by omega
      by_cases z3 : bb (D 0 3) c = 1
      · simp only [if_pos z3, z1, z3]; rfl
      · have z4 : bb (D 0 3) c = 0 := by omega
        simp only [if_neg z3, z1, z4, Nat.mul_zero, nI_0, if_true]
        by_cases h0 : w = 0
        · simp only [if_pos h0]; split <;> rfl
        · simp only [if_neg h0]
          by_cases h1 : w = 1
          · simp only [if_pos h1]; split <;> rfl
          · simp only [if_neg h1]
            by_cases h2 : w = 2
            · simp only [if_pos h2]; split <;> rfl
            · simp only [if_neg h2]
              by_cases h3 : w = 3
              · simp only [if_pos h3]; split <;> rfl
              · simp only [if_neg h3]
                by_cases h4 : w = 4
                · simp only [if_pos h4]; rfl
                · simp only [if_neg h4]
                  by_cases h5 : w = 5
                  · simp only [if_pos h5]
                    split
                    · split <;> rfl
                    · rfl
                  · simp only [if_neg h5, if_pos (show w = 6 by omega)]
                    split <;> rfl
theorem m_why {I : ax_I} {D : pD} (hM : MR I D) (hW : WF D) {w c p q : Nat} (hw : w ≤ 7) (hcc : c ≤ 5) (hp : p ≤ 3) (hq : q ≤ 7) : F_X7_whyNot I (nI w) (nI c) (nI p) (nI q) = some (nI (pWhy D w c p q)) := by
  have hi6 : ax_in (nI c) 6 = true := p_in (by omega) (by decide)
  have hi48 : ax_in (nI (8 * c + q)) 48 = true := p_in (by omega) (by decide)
  have hi4 : ax_in (nI p) 4 = true := p_in (by omega) (by decide)
  have k6 : (nI c).toNatClampNeg = c := p_cl (by omega)
  have k48 : (nI (8 * c + q)).toNatClampNeg = 8 * c + q := p_cl (by omega)
  have k4 : (nI p).toNatClampNeg = p := p_cl (by omega)
  have b1 := WF_won hW (j := c) (by omega)
  have b2 := WF_sin hW (j := c) (by omega)
  have b3 := WF_eye hW (j := c) (by omega)
  have b5 := WF_hold hW (j := 8 * c + q) (by omega)
  have b9 := WF_purse hW (j := p) (by omega)
  have by' := hW.2.1
  have c2 : I 35 1 = nI (D 0 1) := hM.2.1
  have e0 : (nI w = 0) = (w = 0) := e_eq (a := w) (b := 0) (by omega) (by decide)
  have e1 : (nI w = 1) = (w = 1) := e_eq (a := w) (b := 1) (by omega) (by decide)
  have e2 : (nI w = 2) = (w = 2) := e_eq (a := w) (b := 2) (by omega) (by decide)
  have e3 : (nI w = 3) = (w = 3) := e_eq (a := w) (b := 3) (by omega) (by decide)
  have e4 : (nI w = 4) = (w = 4) := e_eq (a := w) (b := 4) (by omega) (by decide)
  have e5 : (nI w = 5) = (w = 5) := e_eq (a := w) (b := 5) (by omega) (by decide)
  have e6 : (nI w = 6) = (w = 6) := e_eq (a := w) (b := 6) (by omega) (by decide)
  have e7 : (nI w = 7) = (w = 7) := e_eq (a := w) (b := 7) (by omega) (by decide)
  have r1 : (nI (D 0 1) = 99) = (D 0 1 = 99) := e_eq (b := 99) (by omega) (by decide)
  have r2 : (nI (D 1 c) = 99) = (D 1 c = 99) := e_eq (b := 99) (by omega) (by decide)
  have r3 : (nI (D 2 c) = 99) = (D 2 c = 99) := e_eq (b := 99) (by omega) (by decide)
  have r4 : (nI (D 3 c) = 99) = (D 3 c = 99) := e_eq (b := 99) (by omega) (by decide)
  have r5 : (nI (D 2 c) = 0) = (D 2 c = 0) := e_eq (b := 0) (by omega) (by decide)
  have r6 : (10 ≤ nI (D 9 p)) = (10 ≤ D 9 p) := e_le (a := 10) (by decide) (by omega)
  have r7 : (nI (pB D c (nI p)) = 0) = (pB D c (nI p) = 0) := e_eq (b := 0) (by have := pB_lt D c (nI p); omega) (by decide)
  have r8 : (hv (D 5 (8 * c + q)) < 0) = (D 5 (8 * c + q) = 0) := propext (hv_neg _ (by omega))
  have t0 : (nI (bb (D 0 0) c) = 0) = (bb (D 0 0) c = 0) := propext (p_eq0 (bb_lt _ _))
  have t3 : (nI (D 0 3 / 2 ^ c % 2) = 1) = (bb (D 0 3) c = 1) := propext (p_eq1 (bb_lt _ _))
  have l0 := bb_lt (D 0 0) c
  have l3 := bb_lt (D 0 3) c
  simp only [F_X7_whyNot, e0, e1, e2, e3, e4, e5, e6, e7, m_there hM hW hcc, m_pB hM hcc (nI p), p_some, p_ix2, hi6, hi48, hi4, k6, k48, k4, if_true, c2, MR_won hM (j := c) (by omega), MR_sin hM (j := c) (by omega), MR_eye hM (j := c) (by omega), MR_fal hM (j := c) (by omega), MR_hold hM (j := 8 * c + q) (by omega), MR_purse hM (j := p) (by omega), r1, r2, r3, r4, r5, r6, r7, r8, t0, t3]
  unfold pWhy
  by_cases h7 : w = 7
  · simp only [if_pos h7]
    by_cases h : D 0 1 < 99
    · rw [if_pos h, if_neg (by omega)]; rfl
    · rw [if_neg h, if_pos (by omega)]; rfl
  · simp only [if_neg h7]
    by_cases z0 : bb (D 0 0) c = 0
    · simp only [if_pos z0]; rfl
    · simp only [if_neg z0]
      by_cases z3 : bb (D 0 3) c = 1
      · simp only [if_pos z3]; rfl
      · simp only [if_neg z3]
        by_cases h0 : w = 0
        · simp only [if_pos h0]
          by_cases h : D 1 c < 99
          · rw [if_pos h, if_neg (by omega)]; rfl
          · rw [if_neg h, if_pos (by omega)]; rfl
        · simp only [if_neg h0]
          by_cases h1 : w = 1
          · simp only [if_pos h1]
            by_cases h : D 2 c < 99
            · rw [if_pos h, if_neg (by omega)]; rfl
            · rw [if_neg h, if_pos (by omega)]; rfl
          · simp only [if_neg h1]
            by_cases h2 : w = 2
            · simp only [if_pos h2]
              by_cases h : 0 < D 2 c
              · rw [if_pos h, if_neg (by omega)]; rfl
              · rw [if_neg h, if_pos (by omega)]; rfl
            · simp only [if_neg h2]
              by_cases h3 : w = 3
              · simp only [if_pos h3]
                by_cases h : D 3 c < 99
                · rw [if_pos h, if_neg (by omega)]; rfl
                · rw [if_neg h, if_pos (by omega)]; rfl
              · simp only [if_neg h3]
                by_cases h4 : w = 4
                · simp only [if_pos h4]; rfl
                · simp only [if_neg h4]
                  by_cases h5 : w = 5
                  · simp only [if_pos h5]
                    split
                    · split <;> rfl
                    · rfl
                  · simp only [if_neg h5, if_pos (show w = 6 by omega)]
                    split <;> rfl
