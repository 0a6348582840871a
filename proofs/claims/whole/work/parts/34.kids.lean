/-! ===== child, leave, saints, lacks, say, forget ===== -/
theorem p_ix (c k : Nat) : nI c * 8 + nI k = nI (8 * c + k) := by
  show nI c * nI 8 + nI k = _
  rw [pk_mul, nI_add, Nat.mul_comm]
theorem p_ix2 (c k : Nat) : (8 : Int32) * nI c + nI k = nI (8 * c + k) := by
  show nI 8 * nI c + nI k = _
  rw [pk_mul, nI_add]
def clrk (I : ax_I) (r c k : Nat) : ax_I := fun r' j => if r' = r ∧ 8 * c + k ≤ j ∧ j < 8 * c + 8 then (-6) else I r' j
theorem clrk_step (I : ax_I) (r c k : Nat) (hk : k < 8) : clrk (ax_u I r (8 * c + k) (-6)) r c (k + 1) = clrk I r c k := by
  funext r' j
  unfold clrk
  rw [ax_u_at]
  by_cases h : r' = r
  · subst h
    by_cases hj : j = 8 * c + k
    · subst hj
      rw [if_neg (by omega), if_pos ⟨rfl, rfl⟩, if_pos (by omega)]
    · by_cases h2 : 8 * c + k ≤ j ∧ j < 8 * c + 8
      · rw [if_pos (by omega), if_pos (by omega)]
      · rw [if_neg (by omega), if_neg (by omega), if_neg (by omega)]
  · rw [if_neg (by omega), if_neg (by omega), if_neg (by omega)]
theorem clrk_8 (I : ax_I) (r c : Nat) : clrk I r c 8 = I := by
  funext r' j
  unfold clrk
  rw [if_neg (by omega)]
theorem p_le8 {k : Nat} (h : k < 2 ^ 31) : ((8 : Int32) ≤ nI k) ↔ 8 ≤ k := nI_leI (a := 8) (by decide) h
theorem x_free {b c : Nat} (hc : c ≤ 5) : ∀ (n : Nat) (I : ax_I) (k : Nat), k ≤ 8 → 8 - k < n → f_X2_freeParts_2 b n I (nI c) (nI k) = some (clrk I (b + 4) c k)
  | 0, I, k, _, h => by omega
  | n + 1, I, k, hk, h => by
    rw [f_X2_freeParts_2]
    rcases Nat.lt_or_ge k 8 with h8 | h8
    · rw [if_neg (by rw [p_le8 (by omega)]; omega), p_ix, p_in (by omega) (by decide), if_pos rfl, p_cl (by omega)]
      rw [show nI k + 1 = nI (k + 1) from nI_1 k, x_free hc n _ (k + 1) (by omega) (by omega), clrk_step I (b + 4) c k h8]
    · have : k = 8 := by omega
      subst this
      rw [if_pos (by decide), clrk_8]
theorem m_free {c : Nat} (hc : c ≤ 5) : ∀ (n : Nat) (I : ax_I) (k : Nat), k ≤ 8 → 8 - k < n → f_X7_clearParts_2 n I (nI c) (nI k) = some (clrk I 40 c k)
  | 0, I, k, _, h => by omega
  | n + 1, I, k, hk, h => by
    rw [f_X7_clearParts_2]
    rcases Nat.lt_or_ge k 8 with h8 | h8
    · rw [if_neg (by rw [p_le8 (by omega)]; omega), p_ix2, p_in (by omega) (by decide), if_pos rfl, p_cl (by omega)]
      rw [show nI k + 1 = nI (k + 1) from nI_1 k, m_free hc n _ (k + 1) (by omega) (by omega), clrk_step I 40 c k h8]
    · have : k = 8 := by omega
      subst this
      rw [if_pos (by decide), clrk_8]
def pClr (D : pD) (c : Nat) : pD := fun r j => if r = 5 ∧ 8 * c ≤ j ∧ j < 8 * c + 8 then 0 else D r j
theorem pClr_n {D : pD} {c r j : Nat} (h : r ≠ 5) : pClr D c r j = D r j := by simp [pClr, h]
theorem clrk_n {I : ax_I} {r c k r' j : Nat} (h : r' ≠ r) : clrk I r c k r' j = I r' j := by simp [clrk, h]
theorem CR_clr {I : ax_I} {b c : Nat} {D : pD} (h : CR I b D) : CR (clrk I (b + 4) c 0) b (pClr D c) := by
  obtain ⟨h0, h1, h2, h3, h4, h5, h6, h7, h8, h9, h10, h11, h12, h13, h14, h15⟩ := h
  refine ⟨?_, ?_, ?_, ?_, ?_, ?_, ?_, ?_, ?_, ?_, ?_, ?_, ?_, ?_, ?_, ?_⟩
  · rw [clrk_n (by omega), pClr_n (by decide)]; exact h0
  · rw [clrk_n (by omega), pClr_n (by decide)]; exact h1
  · rw [clrk_n (by omega), pClr_n (by decide)]; exact h2
  · rw [clrk_n (by omega), pClr_n (by decide)]; exact h3
  · rw [clrk_n (by omega), pClr_n (by decide)]; exact h4
  · intro j hj; rw [clrk_n (by omega), pClr_n (by decide)]; exact h5 j hj
  · intro j hj; rw [clrk_n (by omega), pClr_n (by decide)]; exact h6 j hj
  · intro j hj; rw [clrk_n (by omega), pClr_n (by decide)]; exact h7 j hj
  · intro j hj
    unfold clrk pClr
    by_cases e : 8 * c ≤ j ∧ j < 8 * c + 8
    · rw [if_pos ⟨rfl, by omega⟩, if_pos ⟨rfl, e⟩]; rfl
    · rw [if_neg (by omega), if_neg (by omega)]; exact h8 j hj
  · intro j hj; rw [clrk_n (by omega), pClr_n (by decide)]; exact h9 j hj
  · intro j hj; rw [clrk_n (by omega), pClr_n (by decide)]; exact h10 j hj
  · intro j hj; rw [clrk_n (by omega), pClr_n (by decide)]; exact h11 j hj
  · intro j hj; rw [clrk_n (by omega), pClr_n (by decide)]; exact h12 j hj
  · intro j hj; rw [clrk_n (by omega), pClr_n (by decide)]; exact h13 j hj
  · intro j hj; rw [clrk_n (by omega), pClr_n (by decide)]; exact h14 j hj
  · intro j hj; rw [pClr_n (by decide)] at hj; rw [clrk_n (by omega), pClr_n (by decide), pClr_n (by decide)]; exact h15 j hj
theorem MR_clr {I : ax_I} {c : Nat} {D : pD} (h : MR I D) : MR (clrk I 40 c 0) (pClr D c) := by
  obtain ⟨h0, h1, h2, h3, h4, h5, h6, h7, h8, h9, h10, h11, h12, h13, h14, h15, h16⟩ := h
  refine ⟨?_, ?_, ?_, ?_, ?_, ?_, ?_, ?_, ?_, ?_, ?_, ?_, ?_, ?_, ?_, ?_, ?_⟩
  · rw [clrk_n (by decide), pClr_n (by decide)]; exact h0
  · rw [clrk_n (by decide), pClr_n (by decide)]; exact h1
  · rw [clrk_n (by decide), pClr_n (by decide)]; exact h2
  · intro j hj; show clrk I 40 c 0 36 j = _; rw [clrk_n (by decide), pClr_n (by decide)]; exact h3 j hj
  · intro j hj; show clrk I 40 c 0 37 j = _; rw [clrk_n (by decide), pClr_n (by decide)]; exact h4 j hj
  · intro j hj; show clrk I 40 c 0 38 j = _; rw [clrk_n (by decide), pClr_n (by decide)]; exact h5 j hj
  · intro j hj; show clrk I 40 c 0 39 j = _; rw [clrk_n (by decide), pClr_n (by decide)]; exact h6 j hj
  · intro j hj
    show clrk I 40 c 0 40 j = _
    unfold clrk pClr
    by_cases e : 8 * c ≤ j ∧ j < 8 * c + 8
    · rw [if_pos ⟨rfl, by omega⟩, if_pos ⟨rfl, e⟩]; rfl
    · rw [if_neg (by omega), if_neg (by omega)]; exact h7 j hj
  · intro j hj; show clrk I 40 c 0 41 j = _; rw [clrk_n (by decide), pClr_n (by decide)]; exact h8 j hj
  · intro j hj; show clrk I 40 c 0 42 j = _; rw [clrk_n (by decide), pClr_n (by decide)]; exact h9 j hj
  · intro j hj; show clrk I 40 c 0 43 j = _; rw [clrk_n (by decide), pClr_n (by decide)]; exact h10 j hj
  · intro j hj; show clrk I 40 c 0 44 j = _; rw [clrk_n (by decide), pClr_n (by decide)]; exact h11 j hj
  · intro j hj; show clrk I 40 c 0 45 j = _; rw [clrk_n (by decide), pClr_n (by decide)]; exact h12 j hj
  · intro j hj; show clrk I 40 c 0 46 j = _; rw [clrk_n (by decide), pClr_n (by decide)]; exact h13 j hj
  · intro j hj; rw [pClr_n (by decide)] at hj; show clrk I 40 c 0 47 j = _; rw [clrk_n (by decide), pClr_n (by decide)]; exact h14 j hj
  · intro j hj; rw [pClr_n (by decide)] at hj; show clrk I 40 c 0 48 j = _; rw [clrk_n (by decide), pClr_n (by decide)]; exact h15 j hj
  · intro j hj; rw [pClr_n (by decide)] at hj; show clrk I 40 c 0 49 j = _; rw [clrk_n (by decide), pClr_n (by decide)]; exact h16 j hj
theorem WF_clr {c : Nat} {D : pD} (h : WF D) : WF (pClr D c) := by
  obtain ⟨h0, h1, h2, h3, h4, h5, h6, h7, h8, h9, h10, h11, h12, h13, h14, h15, h16⟩ := h
  refine ⟨?_, ?_, ?_, ?_, ?_, ?_, ?_, ?_, ?_, ?_, ?_, ?_, ?_, ?_, ?_, ?_, ?_⟩
  · rw [pClr_n (by decide)]; exact h0
  · rw [pClr_n (by decide)]; exact h1
  · rw [pClr_n (by decide)]; exact h2
  · rw [pClr_n (by decide)]; exact h3
  · rw [pClr_n (by decide)]; exact h4
  · intro j hj; rw [pClr_n (by decide)]; exact h5 j hj
  · intro j hj; rw [pClr_n (by decide)]; exact h6 j hj
  · intro j hj; rw [pClr_n (by decide)]; exact h7 j hj
  · intro j hj
    unfold pClr
    split
    · omega
    · exact h8 j hj
  · intro j hj; rw [pClr_n (by decide)]; exact h9 j hj
  · intro j hj; rw [pClr_n (by decide)]; exact h10 j hj
  · intro j hj; rw [pClr_n (by decide)]; exact h11 j hj
  · intro j hj; rw [pClr_n (by decide)]; exact h12 j hj
  · intro j hj; rw [pClr_n (by decide)]; exact h13 j hj
  · intro j hj; rw [pClr_n (by decide)]; exact h14 j hj
  · intro j hj; rw [pClr_n (by decide)] at hj; rw [pClr_n (by decide)]; exact h15 j hj
  · intro j hj; rw [pClr_n (by decide)] at hj; rw [pClr_n (by decide)]; exact h16 j hj
theorem CR_clr_off {I : ax_I} {b r c : Nat} {D : pD} (h : CR I b D) (hr : r < b ∨ b + 11 < r) : CR (clrk I r c 0) b D := CR_eq h (fun q j hq => clrk_n (by omega))
theorem MR_clr_off {I : ax_I} {r c : Nat} {D : pD} (h : MR I D) (hr : r < 35 ∨ 49 < r) : MR (clrk I r c 0) D := MR_eq h (fun q j h1 h2 => clrk_n (by omega)) (clrk_n (by omega)) (clrk_n (by omega)) (clrk_n (by omega))
theorem PR_clr_off {I : ax_I} {r c n : Nat} {S : Nat → Nat} (h : PR I n S) (hr : r ≠ 26 ∧ r ≠ 27 ∧ r ≠ 35 ∧ r ≠ 50) : PR (clrk I r c 0) n S := PR_eq h (clrk_n (by omega)) (clrk_n (by omega)) (fun j => clrk_n (by omega)) (fun j => clrk_n (by omega))
theorem Im_clr_off {B : Nat} {lay : List ax_S} {g : Nat → Option Nat} {I : ax_I} {r c : Nat} (h : Im B lay g I) (hr : r < 59) : Im B lay g (clrk I r c 0) := Im_hi h (fun q j hq => clrk_n (by omega))
/-- the model's fallen row, one bit anew in the mask -/
theorem MR_fal_set {I : ax_I} {D : pD} {c f : Nat} {x : Int32} (h : MR I D) (hf : ∀ j, j < 6 → nI (f / 2 ^ j % 2) = if j = c then x else nI (D 0 3 / 2 ^ j % 2)) : MR (ax_u I 39 c x) (pU D 0 3 f) := by
  obtain ⟨h0, h1, h2, h3, h4, h5, h6, h7, h8, h9, h10, h11, h12, h13, h14, h15, h16⟩ := h
  refine ⟨?_, ?_, ?_, ?_, ?_, ?_, ?_, ?_, ?_, ?_, ?_, ?_, ?_, ?_, ?_, ?_, ?_⟩
  · rw [ax_u_n (by decide), pU_c (by decide)]; exact h0
  · rw [ax_u_n (by decide), pU_c (by decide)]; exact h1
  · rw [ax_u_n (by decide), pU_c (by decide)]; exact h2
  · intro j hj; show ax_u I 39 c x 36 j = _; rw [ax_u_n (by decide), pU_r (by decide)]; exact h3 j hj
  · intro j hj; show ax_u I 39 c x 37 j = _; rw [ax_u_n (by decide), pU_r (by decide)]; exact h4 j hj
  · intro j hj; show ax_u I 39 c x 38 j = _; rw [ax_u_n (by decide), pU_r (by decide)]; exact h5 j hj
  · intro j hj
    show ax_u I 39 c x 39 j = _
    rw [pU_s, hf j hj]
    by_cases e : j = c
    · subst e; rw [ax_u_ss, if_pos rfl]
    · rw [ax_u_nj e, if_neg e]; exact h6 j hj
  · intro j hj; show ax_u I 39 c x 40 j = _; rw [ax_u_n (by decide), pU_r (by decide)]; exact h7 j hj
  · intro j hj; show ax_u I 39 c x 41 j = _; rw [ax_u_n (by decide), pU_r (by decide)]; exact h8 j hj
  · intro j hj; show ax_u I 39 c x 42 j = _; rw [ax_u_n (by decide), pU_r (by decide)]; exact h9 j hj
  · intro j hj; show ax_u I 39 c x 43 j = _; rw [ax_u_n (by decide), pU_r (by decide)]; exact h10 j hj
  · intro j hj; show ax_u I 39 c x 44 j = _; rw [ax_u_n (by decide), pU_r (by decide)]; exact h11 j hj
  · intro j hj; show ax_u I 39 c x 45 j = _; rw [ax_u_n (by decide), pU_r (by decide)]; exact h12 j hj
  · intro j hj; show ax_u I 39 c x 46 j = _; rw [ax_u_n (by decide), pU_r (by decide)]; exact h13 j hj
  · intro j hj; rw [pU_c (by decide)] at hj; show ax_u I 39 c x 47 j = _; rw [ax_u_n (by decide), pU_r (by decide)]; exact h14 j hj
  · intro j hj; rw [pU_c (by decide)] at hj; show ax_u I 39 c x 48 j = _; rw [ax_u_n (by decide), pU_r (by decide)]; exact h15 j hj
  · intro j hj; rw [pU_c (by decide)] at hj; show ax_u I 39 c x 49 j = _; rw [ax_u_n (by decide), pU_c (by decide)]; exact h16 j hj
theorem op1 : lw_op1 Inv := by
  intro a1 l E B lay I J hI
  have hLL := (inv_sz hI).2.2
  rcases p_rng a1 5 (by decide) with ⟨c, hc, rfl⟩ | h1
  · have hI0 := hI
    obtain ⟨g, ext, D, n, S, hlay, hext, hez, hC, hM, hW, hP, hIm⟩ := hI
    have tC := x_there hC hW hc
    have tM := m_there hM hW hc
    have hb := bb_lt (D 0 0) c
    rcases (show bb (D 0 0) c = 0 ∨ bb (D 0 0) c = 1 by omega) with h | h
    · rw [h] at tC tM
      have e1 : F_X6_leave I (nI c) = some (-1, I) := by simp only [F_X6_leave, tC, p_some, nI_0, if_true]
      have e2 : F_X7_leave I (nI c) = some (-1, I) := by simp only [F_X7_leave, tM, p_some, nI_0, if_true]
      exact op_i (M_X6_leave hLL e1) (M_X7_leave (J := J) hLL e2) (by decide) (by decide) hI0
    · rw [h] at tC tM
      have q1 : (nI 1 = 0) = False := eq_false (by decide)
      have ht := hW.1
      have hcb := clb_ok (D 0 0) ht c (by omega)
      have hcl := clb_lt (D 0 0) ht c (by omega)
      have a0 : I 1 0 = nI (D 0 0) := hC.1
      have m0 : I 35 0 = nI (D 0 0) := hM.1
      have f1 : ∀ I, F_X2_freeParts I 1 (nI c) = some (clrk I 5 c 0) := fun I => x_free hc ax_N I 0 (by decide) (by decide)
      have f2 : ∀ I, F_X7_clearParts I (nI c) = some (clrk I 40 c 0) := fun I => m_free hc ax_N I 0 (by decide) (by decide)
      obtain ⟨I1, hI1⟩ : ∃ I1, I1 = clrk (ax_u I 1 0 (nI (clb (D 0 0) c))) 5 c 0 := ⟨_, rfl⟩
      obtain ⟨I2, hI2⟩ : ∃ I2, I2 = clrk (ax_u I1 35 0 (nI (clb (D 0 0) c))) 40 c 0 := ⟨_, rfl⟩
      have g1 : I1 1 0 = nI (clb (D 0 0) c) := by rw [hI1, clrk_n (by decide), ax_u_ss]
      have g2 : I1 35 0 = nI (D 0 0) := by rw [hI1, clrk_n (by decide), ax_u_n (by decide), m0]
      have g3 : I2 35 0 = nI (clb (D 0 0) c) := by rw [hI2, clrk_n (by decide), ax_u_ss]
      have e1 : F_X6_leave I (nI c) = some (nI (pcn (clb (D 0 0) c)), I1) := by
        simp only [F_X6_leave, tC, p_some, q1, if_false, F_X2_remove, a0, hcb, f1]
        rw [← hI1, g1, bc_ok I1 (by omega)]
        rfl
      have hM1 : MR I1 D := by rw [hI1]; exact MR_clr_off (MR_off hM (by omega)) (by omega)
      have tM1 := m_there hM1 hW hc
      rw [h] at tM1
      have e2 : F_X7_leave I1 (nI c) = some (nI (pcn (clb (D 0 0) c)), I2) := by
        simp only [F_X7_leave, tM1, p_some, q1, if_false, g2, hcb, f2]
        rw [← hI2, g3, on_ok I2 (by omega)]
        rfl
      refine op_i (M_X6_leave hLL e1) (M_X7_leave (J := J) hLL e2) (by decide) (by decide) ⟨g, ext, pClr (pU D 0 0 (clb (D 0 0) c)) c, n, S, hlay, hext, hez, ?_, ?_, WF_clr (WFb_0 hW hcl), ?_, ?_⟩
      · rw [hI2]
        refine CR_clr_off (CR_off ?_ (by omega)) (by omega)
        rw [hI1]
        exact CR_clr (CRb_0 hC)
      · rw [hI2]
        exact MR_clr (MRb_0 hM1)
      · rw [hI2, hI1]
        exact PR_clr_off (PR_off (PR_clr_off (PR_off hP (by omega)) (by omega)) (by omega)) (by omega)
      · rw [hI2, hI1]
        exact Im_clr_off (Im_off (Im_clr_off (Im_off hIm (by omega)) (by omega)) (by omega)) (by omega)
  · have h1 : ¬ ((0 : Int32) ≤ a1 ∧ a1 ≤ 5) := h1
    have e1 : F_X6_leave I a1 = some (-1, I) := by simp only [F_X6_leave, x_thereF h1, p_some, if_true]
    have e2 : F_X7_leave I a1 = some (-1, I) := by simp only [F_X7_leave, m_thereF h1, p_some, if_true]
    exact op_i (M_X6_leave hLL e1) (M_X7_leave (J := J) hLL e2) (by decide) (by decide) hI
theorem op0 : lw_op0 Inv := by
  intro a1 a2 a3 a4 l E B lay I J hI
  have hLL := (inv_sz hI).2.2
  rcases p_rng a1 5 (by decide) with ⟨c, hc, rfl⟩ | h1
  · have hA : (0 : Int32) ≤ nI c ∧ nI c ≤ 5 := p_rngT hc (by decide)
    have mA : ∀ I, F_X7_isNumber I (nI c) = some 1 := fun I => p_num1 hc
    rcases p_rng a2 99 (by decide) with ⟨v, hv, rfl⟩ | h2
    · have hB : (0 : Int32) ≤ nI v ∧ nI v ≤ 99 := p_rngT hv (by decide)
      have mB : ∀ I, F_X7_in I (nI v).toInt64 0 99 = some 1 := fun I => p_mT 0 99 hB rfl rfl
      rcases p_rng a3 99 (by decide) with ⟨w, hw, rfl⟩ | h3
      · have hC2 : (0 : Int32) ≤ nI w ∧ nI w ≤ 99 := p_rngT hw (by decide)
        have mC : ∀ I, F_X7_in I (nI w).toInt64 0 99 = some 1 := fun I => p_mT 0 99 hC2 rfl rfl
        rcases p_rng a4 99 (by decide) with ⟨z, hz, rfl⟩ | h4
        · have hD2 : (0 : Int32) ≤ nI z ∧ nI z ≤ 99 := p_rngT hz (by decide)
          have mD : ∀ I, F_X7_in I (nI z).toInt64 0 99 = some 1 := fun I => p_mT 0 99 hD2 rfl rfl
          have hi : ax_in (nI c) 6 = true := p_in (by omega) (by decide)
          have hcl : (nI c).toNatClampNeg = c := p_cl (by omega)
          obtain ⟨g, ext, D, n, S, hlay, hext, hez, hC, hM, hW, hP, hIm⟩ := hI
          have ht := hW.1
          have hf := hW.2.2.2.1
          have a0 : I 1 0 = nI (D 0 0) := hC.1
          have a1 : I 1 1 = nI (D 0 3) := hC.2.1
          have m0 : I 35 0 = nI (D 0 0) := hM.1
          have sh := p_shl (k := c) (by omega)
          have hst := stb_lt (D 0 0) ht c (by omega)
          have hcb := clb_ok (D 0 3) hf c (by omega)
          have f1 : ∀ I, F_X2_freeParts I 1 (nI c) = some (clrk I 5 c 0) := fun I => x_free hc ax_N I 0 (by decide) (by decide)
          have f2 : ∀ I, F_X7_clearParts I (nI c) = some (clrk I 40 c 0) := fun I => m_free hc ax_N I 0 (by decide) (by decide)
          obtain ⟨t, htt⟩ : ∃ t, t = D 0 0 ||| 2 ^ c := ⟨_, rfl⟩
          obtain ⟨I1, hI1⟩ : ∃ I1, I1 = clrk (ax_u (ax_u (ax_u (ax_u (ax_u I 1 0 (nI t)) 1 1 (nI (clb (D 0 3) c))) 2 c (nI v)) 3 c (nI w)) 4 c (nI z)) 5 c 0 := ⟨_, rfl⟩
          have g1 : I1 1 0 = nI t := by rw [hI1, clrk_n (by decide), ax_u_n (by decide), ax_u_n (by decide), ax_u_n (by decide), ax_u_nj (by decide), ax_u_ss]
          have e1 : F_X6_child I (nI c) (nI v) (nI w) (nI z) = some (nI (pcn t), I1) := by
            simp only [F_X6_child, p_wT hA, p_wT hB, p_wT hC2, p_wT hD2, p_some, p10, if_false, F_X2_enter, f_X2_enter_26, hi, if_true, hcl, f1]
            rw [ax_u_nj (by decide), a1, hcb, a0, sh, p_or, ← htt]
            show ((F_J6_bitCount_0f7a4 (clrk (ax_u (ax_u (ax_u (ax_u (ax_u I 1 0 (nI t)) 1 1 (nI (clb (D 0 3) c))) 2 c (nI v)) 3 c (nI w)) 4 c (nI z)) 5 c 0) _).bind _) = _
            rw [← hI1, g1, bc_ok I1 (by omega)]
            rfl
          have hM1 : MR I1 D := by rw [hI1]; exact MR_clr_off (MR_off (MR_off (MR_off (MR_off (MR_off hM (by omega)) (by omega)) (by omega)) (by omega)) (by omega)) (by omega)
          obtain ⟨I2, hI2⟩ : ∃ I2, I2 = clrk (ax_u (ax_u (ax_u (ax_u (ax_u I1 35 0 (nI t)) 36 c (nI v)) 37 c (nI w)) 38 c (nI z)) 39 c 0) 40 c 0 := ⟨_, rfl⟩
          have g3 : I2 35 0 = nI t := by rw [hI2, clrk_n (by decide), ax_u_n (by decide), ax_u_n (by decide), ax_u_n (by decide), ax_u_n (by decide), ax_u_ss]
          have e2 : F_X7_child I1 (nI c) (nI v) (nI w) (nI z) = some (nI (pcn t), I2) := by
            simp only [F_X7_child, f_X7_child_75, mA, mB, mC, mD, p_some, p10, if_false, hi, if_true, hcl, f2]
            rw [hM1.1, sh, p_or, ← htt]
            show ((F_X7_ones (clrk (ax_u (ax_u (ax_u (ax_u (ax_u I1 35 0 (nI t)) 36 c (nI v)) 37 c (nI w)) 38 c (nI z)) 39 c 0) 40 c 0) _).bind _) = _
            rw [← hI2, g3, on_ok I2 (by omega)]
            rfl
          refine op_i (M_X6_child hLL e1) (M_X7_child (J := J) hLL e2) (by decide) (by decide) ⟨g, ext, pClr (pU (pU (pU (pU (pU D 0 0 t) 1 c v) 2 c w) 3 c z) 0 3 (clb (D 0 3) c)) c, n, S, hlay, hext, hez, ?_, ?_, ?_, ?_, ?_⟩
          · rw [hI2]
            refine CR_clr_off (CR_off (CR_off (CR_off (CR_off (CR_off ?_ (by omega)) (by omega)) (by omega)) (by omega)) (by omega)) (by omega)
            rw [hI1]
            have hx : pU (pU (pU (pU (pU D 0 0 t) 1 c v) 2 c w) 3 c z) 0 3 (clb (D 0 3) c) = pU (pU (pU (pU (pU D 0 0 t) 0 3 (clb (D 0 3) c)) 1 c v) 2 c w) 3 c z := by
              funext r j
              simp only [pU]
              by_cases e0 : r = 0
              · subst e0; simp
              · simp [e0]
            rw [hx]
            exact CR_clr (CRs_3 (CRs_2 (CRs_1 (CRb_1 (CRb_0 hC)))))
          · rw [hI2]
            refine MR_clr (MR_fal_set (MRs_3 (MRs_2 (MRs_1 (MRb_0 hM1)))) (fun j hj => ?_))
            rw [clb_bit (D 0 3) hf c (by omega) j hj]
            simp only [pU]
            by_cases e : j = c
            · simp [e, nI_0]
            · simp [e]
          · exact WF_clr (WFb_3 (WFs_3 (WFs_2 (WFs_1 (WFb_0 hW (by omega)) hv) hw) hz) (clb_lt (D 0 3) hf c (by omega)))
          · rw [hI2, hI1]
            exact PR_clr_off (PR_off (PR_off (PR_off (PR_off (PR_off (PR_clr_off (PR_off (PR_off (PR_off (PR_off (PR_off hP (by omega)) (by omega)) (by omega)) (by omega)) (by omega)) (by omega)) (by omega)) (by omega)) (by omega)) (by omega)) (by omega)) (by omega)
          · rw [hI2, hI1]
            exact Im_clr_off (Im_off (Im_off (Im_off (Im_off (Im_off (Im_clr_off (Im_off (Im_off (Im_off (Im_off (Im_off hIm (by omega)) (by omega)) (by omega)) (by omega)) (by omega)) (by omega)) (by omega)) (by omega)) (by omega)) (by omega)) (by omega)) (by omega)
        · have h4 : ¬ ((0 : Int32) ≤ a4 ∧ a4 ≤ 99) := h4
          have mD : ∀ I, F_X7_in I a4.toInt64 0 99 = some 0 := fun I => p_mF 0 99 h4 rfl rfl
          have e1 : F_X6_child I (nI c) (nI v) (nI w) a4 = some (-2, I) := by simp only [F_X6_child, p_wT hA, p_wT hB, p_wT hC2, p_wF h4, p_some, p10, if_false, if_true]
          have e2 : F_X7_child I (nI c) (nI v) (nI w) a4 = some (-2, I) := by simp only [F_X7_child, mA, mB, mC, mD, p_some, p10, if_false, if_true]
          exact op_i (M_X6_child hLL e1) (M_X7_child (J := J) hLL e2) (by decide) (by decide) hI
      · have h3 : ¬ ((0 : Int32) ≤ a3 ∧ a3 ≤ 99) := h3
        have mC : ∀ I, F_X7_in I a3.toInt64 0 99 = some 0 := fun I => p_mF 0 99 h3 rfl rfl
        have e1 : F_X6_child I (nI c) (nI v) a3 a4 = some (-2, I) := by simp only [F_X6_child, p_wT hA, p_wT hB, p_wF h3, p_some, p10, if_false, if_true]
        have e2 : F_X7_child I (nI c) (nI v) a3 a4 = some (-2, I) := by simp only [F_X7_child, mA, mB, mC, p_some, p10, if_false, if_true]
        exact op_i (M_X6_child hLL e1) (M_X7_child (J := J) hLL e2) (by decide) (by decide) hI
    · have h2 : ¬ ((0 : Int32) ≤ a2 ∧ a2 ≤ 99) := h2
      have mB : ∀ I, F_X7_in I a2.toInt64 0 99 = some 0 := fun I => p_mF 0 99 h2 rfl rfl
      have e1 : F_X6_child I (nI c) a2 a3 a4 = some (-2, I) := by simp only [F_X6_child, p_wT hA, p_wF h2, p_some, p10, if_false, if_true]
      have e2 : F_X7_child I (nI c) a2 a3 a4 = some (-2, I) := by simp only [F_X7_child, mA, mB, p_some, p10, if_false, if_true]
      exact op_i (M_X6_child hLL e1) (M_X7_child (J := J) hLL e2) (by decide) (by decide) hI
  · have h1 : ¬ ((0 : Int32) ≤ a1 ∧ a1 ≤ 5) := h1
    have mA : ∀ I, F_X7_isNumber I a1 = some 0 := fun I => p_num0 h1
    have e1 : F_X6_child I a1 a2 a3 a4 = some (-1, I) := by simp only [F_X6_child, p_wF h1, p_some, if_true]
    have e2 : F_X7_child I a1 a2 a3 a4 = some (-1, I) := by simp only [F_X7_child, mA, p_some, if_true]
    exact op_i (M_X6_child hLL e1) (M_X7_child (J := J) hLL e2) (by decide) (by decide) hI
