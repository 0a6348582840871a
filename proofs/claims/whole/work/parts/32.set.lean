/-! ===== law, purse, offer, witness, wipe ===== -/
theorem CR_rule {I : ax_I} {b : Nat} {D : pD} (h : CR I b D) {j : Nat} (hj : j < 3) : I (b + 9) j = nI (D 10 j) := h.2.2.2.2.2.2.2.2.2.2.2.2.2.1 j hj
theorem CR_purse {I : ax_I} {b : Nat} {D : pD} (h : CR I b D) {j : Nat} (hj : j < 4) : I (b + 8) j = nI (D 9 j) := h.2.2.2.2.2.2.2.2.2.2.2.2.1 j hj
theorem CR_days {I : ax_I} {b : Nat} {D : pD} (h : CR I b D) {j : Nat} (hj : j < 6) : I (b + 7) j = nI (D 8 j) := h.2.2.2.2.2.2.2.2.2.2.2.1 j hj
theorem CR_worth {I : ax_I} {b : Nat} {D : pD} (h : CR I b D) {j : Nat} (hj : j < 6) : I (b + 6) j = nI (D 7 j) := h.2.2.2.2.2.2.2.2.2.2.1 j hj
theorem CR_cost {I : ax_I} {b : Nat} {D : pD} (h : CR I b D) {j : Nat} (hj : j < 6) : I (b + 5) j = nI (D 6 j) := h.2.2.2.2.2.2.2.2.2.1 j hj
theorem CR_hold {I : ax_I} {b : Nat} {D : pD} (h : CR I b D) {j : Nat} (hj : j < 48) : I (b + 4) j = hv (D 5 j) := h.2.2.2.2.2.2.2.2.1 j hj
theorem CR_eye {I : ax_I} {b : Nat} {D : pD} (h : CR I b D) {j : Nat} (hj : j < 6) : I (b + 3) j = nI (D 3 j) := h.2.2.2.2.2.2.2.1 j hj
theorem CR_sin {I : ax_I} {b : Nat} {D : pD} (h : CR I b D) {j : Nat} (hj : j < 6) : I (b + 2) j = nI (D 2 j) := h.2.2.2.2.2.2.1 j hj
theorem CR_won {I : ax_I} {b : Nat} {D : pD} (h : CR I b D) {j : Nat} (hj : j < 6) : I (b + 1) j = nI (D 1 j) := h.2.2.2.2.2.1 j hj
theorem CR_saw {I : ax_I} {b : Nat} {D : pD} (h : CR I b D) {j : Nat} (hj : j < 8) : I (b + 10) j = nI (D 11 j) := h.2.2.2.2.2.2.2.2.2.2.2.2.2.2.1 j hj
theorem CR_life {I : ax_I} {b : Nat} {D : pD} (h : CR I b D) {j : Nat} (hj : j < D 0 2) : I (b + 11) j = nI (10 * D 12 j + D 13 j) := h.2.2.2.2.2.2.2.2.2.2.2.2.2.2.2 j hj
theorem MR_won {I : ax_I} {D : pD} (h : MR I D) {j : Nat} (hj : j < 6) : I 36 j = nI (D 1 j) := h.2.2.2.1 j hj
theorem MR_sin {I : ax_I} {D : pD} (h : MR I D) {j : Nat} (hj : j < 6) : I 37 j = nI (D 2 j) := h.2.2.2.2.1 j hj
theorem MR_eye {I : ax_I} {D : pD} (h : MR I D) {j : Nat} (hj : j < 6) : I 38 j = nI (D 3 j) := h.2.2.2.2.2.1 j hj
theorem MR_fal {I : ax_I} {D : pD} (h : MR I D) {j : Nat} (hj : j < 6) : I 39 j = nI (D 0 3 / 2 ^ j % 2) := h.2.2.2.2.2.2.1 j hj
theorem MR_hold {I : ax_I} {D : pD} (h : MR I D) {j : Nat} (hj : j < 48) : I 40 j = hv (D 5 j) := h.2.2.2.2.2.2.2.1 j hj
theorem MR_cost {I : ax_I} {D : pD} (h : MR I D) {j : Nat} (hj : j < 6) : I 41 j = nI (D 6 j) := h.2.2.2.2.2.2.2.2.1 j hj
theorem MR_worth {I : ax_I} {D : pD} (h : MR I D) {j : Nat} (hj : j < 6) : I 42 j = nI (D 7 j) := h.2.2.2.2.2.2.2.2.2.1 j hj
theorem MR_days {I : ax_I} {D : pD} (h : MR I D) {j : Nat} (hj : j < 6) : I 43 j = nI (D 8 j) := h.2.2.2.2.2.2.2.2.2.2.1 j hj
theorem MR_purse {I : ax_I} {D : pD} (h : MR I D) {j : Nat} (hj : j < 4) : I 44 j = nI (D 9 j) := h.2.2.2.2.2.2.2.2.2.2.2.1 j hj
theorem MR_rule {I : ax_I} {D : pD} (h : MR I D) {j : Nat} (hj : j < 3) : I 45 j = nI (D 10 j) := h.2.2.2.2.2.2.2.2.2.2.2.2.1 j hj
theorem MR_saw {I : ax_I} {D : pD} (h : MR I D) {j : Nat} (hj : j < 8) : I 46 j = nI (D 11 j) := h.2.2.2.2.2.2.2.2.2.2.2.2.2.1 j hj
theorem MR_sw {I : ax_I} {D : pD} (h : MR I D) {j : Nat} (hj : j < D 0 2) : I 47 j = nI (D 12 j) := h.2.2.2.2.2.2.2.2.2.2.2.2.2.2.1 j hj
theorem MR_ss {I : ax_I} {D : pD} (h : MR I D) {j : Nat} (hj : j < D 0 2) : I 48 j = nI (D 13 j) := h.2.2.2.2.2.2.2.2.2.2.2.2.2.2.2.1 j hj
theorem MR_st {I : ax_I} {D : pD} (h : MR I D) {j : Nat} (hj : j < D 0 2) : I 49 j = nI (D 0 4 / 2 ^ j % 2) := h.2.2.2.2.2.2.2.2.2.2.2.2.2.2.2.2 j hj
theorem WF_won {D : pD} (h : WF D) {j : Nat} (hj : j < 6) : D 1 j ≤ 99 := h.2.2.2.2.2.1 j hj
theorem WF_sin {D : pD} (h : WF D) {j : Nat} (hj : j < 6) : D 2 j ≤ 99 := h.2.2.2.2.2.2.1 j hj
theorem WF_eye {D : pD} (h : WF D) {j : Nat} (hj : j < 6) : D 3 j ≤ 99 := h.2.2.2.2.2.2.2.1 j hj
theorem WF_hold {D : pD} (h : WF D) {j : Nat} (hj : j < 48) : D 5 j ≤ 4 := h.2.2.2.2.2.2.2.2.1 j hj
theorem WF_cost {D : pD} (h : WF D) {j : Nat} (hj : j < 6) : D 6 j ≤ 99 := h.2.2.2.2.2.2.2.2.2.1 j hj
theorem WF_worth {D : pD} (h : WF D) {j : Nat} (hj : j < 6) : D 7 j ≤ 999 := h.2.2.2.2.2.2.2.2.2.2.1 j hj
theorem WF_days {D : pD} (h : WF D) {j : Nat} (hj : j < 6) : D 8 j ≤ 4095 := h.2.2.2.2.2.2.2.2.2.2.2.1 j hj
theorem WF_purse {D : pD} (h : WF D) {j : Nat} (hj : j < 4) : D 9 j ≤ 999 := h.2.2.2.2.2.2.2.2.2.2.2.2.1 j hj
theorem WF_rule {D : pD} (h : WF D) {j : Nat} (hj : j < 3) : D 10 j ≤ 9 := h.2.2.2.2.2.2.2.2.2.2.2.2.2.1 j hj
theorem WF_saw {D : pD} (h : WF D) {j : Nat} (hj : j < 8) : D 11 j ≤ 1023 := h.2.2.2.2.2.2.2.2.2.2.2.2.2.2.1 j hj
theorem op2 : lw_op2 Inv := by
  intro a1 a2 l E B lay I J hI
  have hLL := (inv_sz hI).2.2
  rcases p_rng a1 2 (by decide) with ⟨c, hc, rfl⟩ | h1
  · have hA : (0 : Int32) ≤ nI c ∧ nI c ≤ 2 := p_rngT hc (by decide)
    have mA : ∀ I, F_X7_in I (nI c).toInt64 0 2 = some 1 := fun I => p_mT 0 2 hA rfl rfl
    rcases p_rng a2 9 (by decide) with ⟨v, hv, rfl⟩ | h2
    · have hB : (0 : Int32) ≤ nI v ∧ nI v ≤ 9 := p_rngT hv (by decide)
      have mB : ∀ I, F_X7_in I (nI v).toInt64 0 9 = some 1 := fun I => p_mT 0 9 hB rfl rfl
      have hi : ax_in (nI c) 3 = true := p_in (by omega) (by decide)
      have hcl : (nI c).toNatClampNeg = c := p_cl (by omega)
      obtain ⟨g, ext, D, n, S, hlay, hext, hez, hC, hM, hW, hP, hIm⟩ := hI
      have r1 : I 10 c = nI (D 10 c) := CR_rule hC (by omega)
      have r2 : I 45 c = nI (D 10 c) := MR_rule hM (by omega)
      have e1 : F_X6_law I (nI c) (nI v) = some (nI (D 10 c), ax_u I 10 c (nI v)) := by simp only [F_X6_law, p_wT hA, p_wT hB, p_some, p10, if_false, hi, if_true, hcl, r1]
      have e2 : F_X7_law (ax_u I 10 c (nI v)) (nI c) (nI v) = some (nI (D 10 c), ax_u (ax_u I 10 c (nI v)) 45 c (nI v)) := by
        simp only [F_X7_law, mA, mB, p_some, p10, if_false, hi, if_true, hcl]
        rw [ax_u_n (by decide), r2]
      exact op_i (M_X6_law hLL e1) (M_X7_law (J := J) hLL e2) (by decide) (by decide) ⟨g, ext, pU D 10 c v, n, S, hlay, hext, hez, CR_off (CRs_9 hC) (by omega), MRs_10 (MR_off hM (by omega)), WFs_10 hW hv, PR_off (PR_off hP (by omega)) (by omega), Im_off (Im_off hIm (by omega)) (by omega)⟩
    · have h2 : ¬ ((0 : Int32) ≤ a2 ∧ a2 ≤ 9) := h2
      have mB : ∀ I, F_X7_in I a2.toInt64 0 9 = some 0 := fun I => p_mF 0 9 h2 rfl rfl
      have e1 : F_X6_law I (nI c) a2 = some (-2, I) := by simp only [F_X6_law, p_wT hA, p_wF h2, p_some, p10, if_false, if_true]
      have e2 : F_X7_law I (nI c) a2 = some (-2, I) := by simp only [F_X7_law, mA, mB, p_some, p10, if_false, if_true]
      exact op_i (M_X6_law hLL e1) (M_X7_law (J := J) hLL e2) (by decide) (by decide) hI
  · have h1 : ¬ ((0 : Int32) ≤ a1 ∧ a1 ≤ 2) := h1
    have mA : ∀ I, F_X7_in I a1.toInt64 0 2 = some 0 := fun I => p_mF 0 2 h1 rfl rfl
    have e1 : F_X6_law I a1 a2 = some (-2, I) := by simp only [F_X6_law, p_wF h1, p_some, if_true]
    have e2 : F_X7_law I a1 a2 = some (-2, I) := by simp only [F_X7_law, mA, p_some, if_true]
    exact op_i (M_X6_law hLL e1) (M_X7_law (J := J) hLL e2) (by decide) (by decide) hI
theorem op3 : lw_op3 Inv := by
  intro a1 a2 l E B lay I J hI
  have hLL := (inv_sz hI).2.2
  rcases p_rng a1 3 (by decide) with ⟨c, hc, rfl⟩ | h1
  · have hA : (0 : Int32) ≤ nI c ∧ nI c ≤ 3 := p_rngT hc (by decide)
    have mA : ∀ I, F_X7_isParish I (nI c) = some 1 := fun I => by simp only [F_X7_isParish, show F_X7_in I (nI c).toInt64 0 3 = some 1 from p_mT 0 3 hA rfl rfl, p_some, p_bool1, if_true]
    rcases p_rng a2 999 (by decide) with ⟨v, hv, rfl⟩ | h2
    · have hB : (0 : Int32) ≤ nI v ∧ nI v ≤ 999 := p_rngT hv (by decide)
      have mB : ∀ I, F_X7_in I (nI v).toInt64 0 999 = some 1 := fun I => p_mT 0 999 hB rfl rfl
      have hi : ax_in (nI c) 4 = true := p_in (by omega) (by decide)
      have hcl : (nI c).toNatClampNeg = c := p_cl (by omega)
      obtain ⟨g, ext, D, n, S, hlay, hext, hez, hC, hM, hW, hP, hIm⟩ := hI
      have r1 : I 9 c = nI (D 9 c) := CR_purse hC (by omega)
      have r2 : I 44 c = nI (D 9 c) := MR_purse hM (by omega)
      have e1 : F_X6_purse I (nI c) (nI v) = some (nI (D 9 c), ax_u I 9 c (nI v)) := by simp only [F_X6_purse, p_wT hA, p_wT hB, p_some, p10, if_false, hi, if_true, hcl, r1]
      have e2 : F_X7_purse (ax_u I 9 c (nI v)) (nI c) (nI v) = some (nI (D 9 c), ax_u (ax_u I 9 c (nI v)) 44 c (nI v)) := by
        simp only [F_X7_purse, mA, mB, p_some, p10, if_false, hi, if_true, hcl]
        rw [ax_u_n (by decide), r2]
      exact op_i (M_X6_purse hLL e1) (M_X7_purse (J := J) hLL e2) (by decide) (by decide) ⟨g, ext, pU D 9 c v, n, S, hlay, hext, hez, CR_off (CRs_8 hC) (by omega), MRs_9 (MR_off hM (by omega)), WFs_9 hW hv, PR_off (PR_off hP (by omega)) (by omega), Im_off (Im_off hIm (by omega)) (by omega)⟩
    · have h2 : ¬ ((0 : Int32) ≤ a2 ∧ a2 ≤ 999) := h2
      have mB : ∀ I, F_X7_in I a2.toInt64 0 999 = some 0 := fun I => p_mF 0 999 h2 rfl rfl
      have e1 : F_X6_purse I (nI c) a2 = some (-2, I) := by simp only [F_X6_purse, p_wT hA, p_wF h2, p_some, p10, if_false, if_true]
      have e2 : F_X7_purse I (nI c) a2 = some (-2, I) := by simp only [F_X7_purse, mA, mB, p_some, p10, if_false, if_true]
      exact op_i (M_X6_purse hLL e1) (M_X7_purse (J := J) hLL e2) (by decide) (by decide) hI
  · have h1 : ¬ ((0 : Int32) ≤ a1 ∧ a1 ≤ 3) := h1
    have mA : ∀ I, F_X7_isParish I a1 = some 0 := fun I => by simp only [F_X7_isParish, show F_X7_in I a1.toInt64 0 3 = some 0 from p_mF 0 3 h1 rfl rfl, p_some, p_bool0, if_true]
    have e1 : F_X6_purse I a1 a2 = some (-1, I) := by simp only [F_X6_purse, p_wF h1, p_some, if_true]
    have e2 : F_X7_purse I a1 a2 = some (-1, I) := by simp only [F_X7_purse, mA, p_some, if_true]
    exact op_i (M_X6_purse hLL e1) (M_X7_purse (J := J) hLL e2) (by decide) (by decide) hI
theorem op5 : lw_op5 Inv := by
  intro a1 a2 l E B lay I J hI
  have hLL := (inv_sz hI).2.2
  rcases p_rng a1 7 (by decide) with ⟨c, hc, rfl⟩ | h1
  · have hA : (0 : Int32) ≤ nI c ∧ nI c ≤ 7 := p_rngT hc (by decide)
    have mA : ∀ I, F_X7_in I (nI c).toInt64 0 7 = some 1 := fun I => p_mT 0 7 hA rfl rfl
    rcases p_rng a2 1023 (by decide) with ⟨v, hv, rfl⟩ | h2
    · have hB : (0 : Int32) ≤ nI v ∧ nI v ≤ 1023 := p_rngT hv (by decide)
      have mB : ∀ I, F_X7_in I (nI v).toInt64 0 1023 = some 1 := fun I => p_mT 0 1023 hB rfl rfl
      have hi : ax_in (nI c) 8 = true := p_in (by omega) (by decide)
      have hcl : (nI c).toNatClampNeg = c := p_cl (by omega)
      obtain ⟨g, ext, D, n, S, hlay, hext, hez, hC, hM, hW, hP, hIm⟩ := hI
      have r1 : I 11 c = nI (D 11 c) := CR_saw hC (by omega)
      have r2 : I 46 c = nI (D 11 c) := MR_saw hM (by omega)
      have e1 : F_X6_witness I (nI c) (nI v) = some (nI (D 11 c), ax_u I 11 c (nI v)) := by simp only [F_X6_witness, p_wT hA, p_wT hB, p_some, p10, if_false, hi, if_true, hcl, r1]
      have e2 : F_X7_witness (ax_u I 11 c (nI v)) (nI c) (nI v) = some (nI (D 11 c), ax_u (ax_u I 11 c (nI v)) 46 c (nI v)) := by
        simp only [F_X7_witness, mA, mB, p_some, p10, if_false, hi, if_true, hcl]
        rw [ax_u_n (by decide), r2]
      exact op_i (M_X6_witness hLL e1) (M_X7_witness (J := J) hLL e2) (by decide) (by decide) ⟨g, ext, pU D 11 c v, n, S, hlay, hext, hez, CR_off (CRs_10 hC) (by omega), MRs_11 (MR_off hM (by omega)), WFs_11 hW hv, PR_off (PR_off hP (by omega)) (by omega), Im_off (Im_off hIm (by omega)) (by omega)⟩
    · have h2 : ¬ ((0 : Int32) ≤ a2 ∧ a2 ≤ 1023) := h2
      have mB : ∀ I, F_X7_in I a2.toInt64 0 1023 = some 0 := fun I => p_mF 0 1023 h2 rfl rfl
      have e1 : F_X6_witness I (nI c) a2 = some (-2, I) := by simp only [F_X6_witness, p_wT hA, p_wF h2, p_some, p10, if_false, if_true]
      have e2 : F_X7_witness I (nI c) a2 = some (-2, I) := by simp only [F_X7_witness, mA, mB, p_some, p10, if_false, if_true]
      exact op_i (M_X6_witness hLL e1) (M_X7_witness (J := J) hLL e2) (by decide) (by decide) hI
  · have h1 : ¬ ((0 : Int32) ≤ a1 ∧ a1 ≤ 7) := h1
    have mA : ∀ I, F_X7_in I a1.toInt64 0 7 = some 0 := fun I => p_mF 0 7 h1 rfl rfl
    have e1 : F_X6_witness I a1 a2 = some (-1, I) := by simp only [F_X6_witness, p_wF h1, p_some, if_true]
    have e2 : F_X7_witness I a1 a2 = some (-1, I) := by simp only [F_X7_witness, mA, p_some, if_true]
    exact op_i (M_X6_witness hLL e1) (M_X7_witness (J := J) hLL e2) (by decide) (by decide) hI
theorem p_num1 {I : ax_I} {c : Nat} (hc : c ≤ 5) : F_X7_isNumber I (nI c) = some 1 := by
  have hA : (0 : Int32) ≤ nI c ∧ nI c ≤ 5 := p_rngT hc (by decide)
  simp only [F_X7_isNumber, show F_X7_in I (nI c).toInt64 0 5 = some 1 from p_mT 0 5 hA rfl rfl, p_some, p_bool1, if_true]
theorem p_num0 {I : ax_I} {x : Int32} (h : ¬ ((0 : Int32) ≤ x ∧ x ≤ 5)) : F_X7_isNumber I x = some 0 := by
  simp only [F_X7_isNumber, show F_X7_in I x.toInt64 0 5 = some 0 from p_mF 0 5 h rfl rfl, p_some, p_bool0, if_true]
theorem op4 : lw_op4 Inv := by
  intro a1 a2 a3 a4 l E B lay I J hI
  have hLL := (inv_sz hI).2.2
  rcases p_rng a1 5 (by decide) with ⟨c, hc, rfl⟩ | h1
  · have hA : (0 : Int32) ≤ nI c ∧ nI c ≤ 5 := p_rngT hc (by decide)
    have mA : ∀ I, F_X7_isNumber I (nI c) = some 1 := fun I => p_num1 hc
    rcases p_rng a2 99 (by decide) with ⟨v, hv, rfl⟩ | h2
    · have hB : (0 : Int32) ≤ nI v ∧ nI v ≤ 99 := p_rngT hv (by decide)
      have mB : ∀ I, F_X7_in I (nI v).toInt64 0 99 = some 1 := fun I => p_mT 0 99 hB rfl rfl
      rcases p_rng a3 999 (by decide) with ⟨w, hw, rfl⟩ | h3
      · have hC2 : (0 : Int32) ≤ nI w ∧ nI w ≤ 999 := p_rngT hw (by decide)
        have mC : ∀ I, F_X7_in I (nI w).toInt64 0 999 = some 1 := fun I => p_mT 0 999 hC2 rfl rfl
        rcases p_rng a4 4095 (by decide) with ⟨z, hz, rfl⟩ | h4
        · have hD2 : (0 : Int32) ≤ nI z ∧ nI z ≤ 4095 := p_rngT hz (by decide)
          have mD : ∀ I, F_X7_in I (nI z).toInt64 0 4095 = some 1 := fun I => p_mT 0 4095 hD2 rfl rfl
          have hi : ax_in (nI c) 6 = true := p_in (by omega) (by decide)
          have hcl : (nI c).toNatClampNeg = c := p_cl (by omega)
          obtain ⟨g, ext, D, n, S, hlay, hext, hez, hC, hM, hW, hP, hIm⟩ := hI
          have r1 : I 8 c = nI (D 8 c) := CR_days hC (by omega)
          have r2 : I 43 c = nI (D 8 c) := MR_days hM (by omega)
          have e1 : F_X6_offer I (nI c) (nI v) (nI w) (nI z) = some (nI (D 8 c), ax_u (ax_u (ax_u I 6 c (nI v)) 7 c (nI w)) 8 c (nI z)) := by simp only [F_X6_offer, p_wT hA, p_wT hB, p_wT hC2, p_wT hD2, p_some, p10, if_false, hi, if_true, hcl, r1]
          have e2 : F_X7_offer (ax_u (ax_u (ax_u I 6 c (nI v)) 7 c (nI w)) 8 c (nI z)) (nI c) (nI v) (nI w) (nI z) = some (nI (D 8 c), ax_u (ax_u (ax_u (ax_u (ax_u (ax_u I 6 c (nI v)) 7 c (nI w)) 8 c (nI z)) 41 c (nI v)) 42 c (nI w)) 43 c (nI z)) := by
            simp only [F_X7_offer, mA, mB, mC, mD, p_some, p10, if_false, hi, if_true, hcl]
            rw [ax_u_n (by decide), ax_u_n (by decide), ax_u_n (by decide), r2]
          refine op_i (M_X6_offer hLL e1) (M_X7_offer (J := J) hLL e2) (by decide) (by decide) ⟨g, ext, pU (pU (pU D 6 c v) 7 c w) 8 c z, n, S, hlay, hext, hez, ?_, ?_, WFs_8 (WFs_7 (WFs_6 hW hv) hw) hz, ?_, ?_⟩
          · exact CR_off (CR_off (CR_off (CRs_7 (CRs_6 (CRs_5 hC))) (by omega)) (by omega)) (by omega)
          · exact MRs_8 (MRs_7 (MRs_6 (MR_off (MR_off (MR_off hM (by omega)) (by omega)) (by omega))))
          · exact PR_off (PR_off (PR_off (PR_off (PR_off (PR_off hP (by omega)) (by omega)) (by omega)) (by omega)) (by omega)) (by omega)
          · exact Im_off (Im_off (Im_off (Im_off (Im_off (Im_off hIm (by omega)) (by omega)) (by omega)) (by omega)) (by omega)) (by omega)
        · have h4 : ¬ ((0 : Int32) ≤ a4 ∧ a4 ≤ 4095) := h4
          have mD : ∀ I, F_X7_in I a4.toInt64 0 4095 = some 0 := fun I => p_mF 0 4095 h4 rfl rfl
          have e1 : F_X6_offer I (nI c) (nI v) (nI w) a4 = some (-2, I) := by simp only [F_X6_offer, p_wT hA, p_wT hB, p_wT hC2, p_wF h4, p_some, p10, if_false, if_true]
          have e2 : F_X7_offer I (nI c) (nI v) (nI w) a4 = some (-2, I) := by simp only [F_X7_offer, mA, mB, mC, mD, p_some, p10, if_false, if_true]
          exact op_i (M_X6_offer hLL e1) (M_X7_offer (J := J) hLL e2) (by decide) (by decide) hI
      · have h3 : ¬ ((0 : Int32) ≤ a3 ∧ a3 ≤ 999) := h3
        have mC : ∀ I, F_X7_in I a3.toInt64 0 999 = some 0 := fun I => p_mF 0 999 h3 rfl rfl
        have e1 : F_X6_offer I (nI c) (nI v) a3 a4 = some (-2, I) := by simp only [F_X6_offer, p_wT hA, p_wT hB, p_wF h3, p_some, p10, if_false, if_true]
        have e2 : F_X7_offer I (nI c) (nI v) a3 a4 = some (-2, I) := by simp only [F_X7_offer, mA, mB, mC, p_some, p10, if_false, if_true]
        exact op_i (M_X6_offer hLL e1) (M_X7_offer (J := J) hLL e2) (by decide) (by decide) hI
    · have h2 : ¬ ((0 : Int32) ≤ a2 ∧ a2 ≤ 99) := h2
      have mB : ∀ I, F_X7_in I a2.toInt64 0 99 = some 0 := fun I => p_mF 0 99 h2 rfl rfl
      have e1 : F_X6_offer I (nI c) a2 a3 a4 = some (-2, I) := by simp only [F_X6_offer, p_wT hA, p_wF h2, p_some, p10, if_false, if_true]
      have e2 : F_X7_offer I (nI c) a2 a3 a4 = some (-2, I) := by simp only [F_X7_offer, mA, mB, p_some, p10, if_false, if_true]
      exact op_i (M_X6_offer hLL e1) (M_X7_offer (J := J) hLL e2) (by decide) (by decide) hI
  · have h1 : ¬ ((0 : Int32) ≤ a1 ∧ a1 ≤ 5) := h1
    have mA : ∀ I, F_X7_isNumber I a1 = some 0 := fun I => p_num0 h1
    have e1 : F_X6_offer I a1 a2 a3 a4 = some (-1, I) := by simp only [F_X6_offer, p_wF h1, p_some, if_true]
    have e2 : F_X7_offer I a1 a2 a3 a4 = some (-1, I) := by simp only [F_X7_offer, mA, p_some, if_true]
    exact op_i (M_X6_offer hLL e1) (M_X7_offer (J := J) hLL e2) (by decide) (by decide) hI
theorem op7 : lw_op7 Inv := by
  intro l E B lay I J hI
  have hLL := (inv_sz hI).2.2
  obtain ⟨g, ext, D, n, S, hlay, hext, hez, hC, hM, hW, hP, hIm⟩ := hI
  have e1 : F_X6_wipe I = some (nI n, ax_u I 26 1 0) := by simp only [F_X6_wipe, hP.1]
  have e2 : F_X7_wipe (ax_u I 26 1 0) = some (nI n, ax_u (ax_u I 26 1 0) 35 18 0) := by
    simp only [F_X7_wipe]
    rw [ax_u_n (by decide), hP.2.1]
  refine op_i (M_X6_wipe hLL e1) (M_X7_wipe (J := J) hLL e2) (by decide) (by decide) ⟨g, ext, D, 0, S, hlay, hext, hez, CR_off (CR_off hC (by omega)) (by omega), MR_off (MR_off hM (by omega)) (by omega), hW, ?_, Im_off (Im_off hIm (by omega)) (by omega)⟩
  refine ⟨?_, ?_, Nat.zero_le _, fun j hj => absurd hj (by omega), fun j hj => absurd hj (by omega), fun j hj => absurd hj (by omega)⟩
  · rw [ax_u_n (by decide), ax_u_ss]; rfl
  · rw [ax_u_ss]; rfl
