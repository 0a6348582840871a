/-! ===== say, saints, lacks, forget ===== -/
theorem p_chr {v : Nat} (h : v < 65536) : ((nI v).toUInt32 % 65536).toInt32 = nI v := by
  rw [pk_char, pk_tn (by omega), Nat.mod_eq_of_lt h]
theorem p_nar {v : Nat} (h : v < 65536) : vp_nar .char (nI v) = nI v := by
  have h1 := (pk_charN h).1
  have h2 : narrow .char (.int (nI v)) = .int (vp_nar .char (nI v)) := rfl
  rw [h2] at h1
  exact Value.int.inj h1
/-- the pad with a sign more -/
def sgn (S : Nat → Nat) (n v : Nat) : Nat → Nat := fun j => if j = n then v else S j
theorem sgn_s (S : Nat → Nat) (n v : Nat) : sgn S n v n = v := by simp [sgn]
theorem sgn_n {S : Nat → Nat} {n v j : Nat} (h : ¬ j = n) : sgn S n v j = S j := by simp [sgn, h]
theorem op6 : lw_op6 Inv := by
  intro a1 l E B lay I J hI
  have hLL := (inv_sz hI).2.2
  by_cases h1 : (33 : Int32) ≤ a1 ∧ a1 ≤ 126
  · have hI0 := hI
    obtain ⟨g, ext, D, n, S, hlay, hext, hez, hC, hM, hW, hP, hIm⟩ := hI
    obtain ⟨v, hv1, hv2, rfl⟩ : ∃ v : Nat, 33 ≤ v ∧ v ≤ 126 ∧ a1 = nI v := by
      rw [p_le, p_le] at h1
      have z1 : (33 : Int32).toInt = 33 := by decide
      have z2 : (126 : Int32).toInt = 126 := by decide
      refine ⟨a1.toInt.toNat, by omega, by omega, ?_⟩
      apply Int32.toInt_inj.mp
      rw [nI_toInt (by omega)]
      omega
    have mA : ∀ I, F_X7_in I (nI v).toInt64 33 126 = some 1 := fun I => p_mT 33 126 h1 rfl rfl
    have p0 := hP.1
    have p1 := hP.2.1
    have p2 := hP.2.2.1
    rcases Nat.lt_or_ge n 60 with hn | hn
    · have c1 : (nI n < 60) = True := eq_true ((nI_ltI (b := 60) (by omega) (by decide)).mpr hn)
      have c2 : ((60 : Int32) ≤ nI n) = False := eq_false (fun h => by have := (nI_leI (a := 60) (by decide) (by omega)).mp h; omega)
      have c3 : (nI n = 60) = False := eq_false (fun h => by have := (nI_eq (b := 60) (by omega) (by decide)).mp h; omega)
      have hi : ax_in (nI n) 60 = true := p_in hn (by decide)
      have hcl : (nI n).toNatClampNeg = n := p_cl (by omega)
      have s1 : nI n + 1 = nI (n + 1) := nI_1 n
      obtain ⟨I1, hI1⟩ : ∃ I1, I1 = ax_u (ax_u I 27 n (nI v)) 26 1 (nI (n + 1)) := ⟨_, rfl⟩
      have e1 : F_X6_say I (nI v) = some (nI (n + 1), I1) := by
        simp only [F_X6_say, p_wT h1, p_some, p10, if_false, p0, c1, if_true, F_X4_write, c2, hi, f_X4_write_29, p_chr (show v < 65536 by omega), p_nar (show v < 65536 by omega), hcl]
        rw [ax_u_ss, ax_u_n (by decide), p0, s1, hI1]
      have q1 : I1 35 18 = nI n := by rw [hI1, ax_u_n (by decide), ax_u_n (by decide), p1]
      obtain ⟨I2, hI2⟩ : ∃ I2, I2 = ax_u (ax_u I1 50 n (nI v)) 35 18 (nI (n + 1)) := ⟨_, rfl⟩
      have e2 : F_X7_say I1 (nI v) = some (nI (n + 1), I2) := by
        simp only [F_X7_say, mA, p_some, p10, if_false, q1, c3, hi, if_true, hcl]
        rw [ax_u_ss, ax_u_n (by decide), q1, s1, hI2]
      refine op_i (M_X6_say hLL e1) (M_X7_say (J := J) hLL e2) (by decide) (by decide) ⟨g, ext, D, n + 1, sgn S n v, hlay, hext, hez, ?_, ?_, hW, ?_, ?_⟩
      · rw [hI2, hI1]; exact CR_off (CR_off (CR_off (CR_off hC (by omega)) (by omega)) (by omega)) (by omega)
      · rw [hI2, hI1]; exact MR_off (MR_off (MR_off (MR_off hM (by omega)) (by omega)) (by omega)) (by omega)
      · refine ⟨?_, ?_, by omega, ?_, ?_, ?_⟩
        · rw [hI2, hI1, ax_u_n (by decide), ax_u_n (by decide), ax_u_ss]
        · rw [hI2, ax_u_ss]
        · intro j hj
          rw [hI2, hI1, ax_u_n (by decide), ax_u_n (by decide), ax_u_n (by decide)]
          by_cases e : j = n
          · subst e; rw [ax_u_ss, sgn_s]
          · rw [ax_u_nj e, sgn_n e]; exact hP.2.2.2.1 j (by omega)
        · intro j hj
          rw [hI2, ax_u_n (by decide)]
          by_cases e : j = n
          · subst e; rw [ax_u_ss, sgn_s]
          · rw [ax_u_nj e, sgn_n e, hI1, ax_u_n (by decide), ax_u_n (by decide)]; exact hP.2.2.2.2.1 j (by omega)
        · intro j hj
          by_cases e : j = n
          · subst e; rw [sgn_s]; omega
          · rw [sgn_n e]; exact hP.2.2.2.2.2 j (by omega)
      · rw [hI2, hI1]; exact Im_off (Im_off (Im_off (Im_off hIm (by omega)) (by omega)) (by omega)) (by omega)
    · have hn' : n = 60 := by omega
      subst hn'
      have c1 : (nI 60 < 60) = False := eq_false (by decide)
      have c3 : (nI 60 = 60) = True := eq_true (by decide)
      have e1 : F_X6_say I (nI v) = some (-4, I) := by simp only [F_X6_say, p_wT h1, p_some, p10, if_false, p0, c1]
      have e2 : F_X7_say I (nI v) = some (-4, I) := by simp only [F_X7_say, mA, p_some, p10, if_false, p1, c3, if_true]
      exact op_i (M_X6_say hLL e1) (M_X7_say (J := J) hLL e2) (by decide) (by decide) hI0
  · have mA : ∀ I, F_X7_in I a1.toInt64 33 126 = some 0 := fun I => p_mF 33 126 h1 rfl rfl
    have e1 : F_X6_say I a1 = some (-2, I) := by simp only [F_X6_say, p_wF h1, p_some, if_true]
    have e2 : F_X7_say I a1 = some (-2, I) := by simp only [F_X7_say, mA, p_some, if_true]
    exact op_i (M_X6_say hLL e1) (M_X7_say (J := J) hLL e2) (by decide) (by decide) hI
/-- the saints' bits: m children to go -/
def sbk (D : pD) : Nat → Nat → Nat
  | 0, a => a
  | m + 1, a => sbk D m (if sS D (5 - m) then a ||| 2 ^ (5 - m) else a)
theorem p_le6 {k : Nat} (h : k < 2 ^ 31) : ((6 : Int32) ≤ nI k) ↔ 6 ≤ k := nI_leI (a := 6) (by decide) h
theorem x_sbits {b : Nat} {I : ax_I} {D : pD} (hC : CR I b D) (hW : WF D) : ∀ (n m a : Nat), m ≤ 6 → m < n → f_X2_saintBits_4 b n I (nI a) (nI (6 - m)) = some (nI (sbk D m a))
  | 0, m, a, _, h => by omega
  | n + 1, 0, a, _, h => by
    rw [f_X2_saintBits_4, if_pos (by decide)]; rfl
  | n + 1, m + 1, a, hm, h => by
    have e6 : 6 - (m + 1) = 5 - m := by omega
    have e5 : 5 - m + 1 = 6 - m := by omega
    rw [f_X2_saintBits_4, e6, if_neg (by rw [p_le6 (by omega)]; omega), x_saint hC hW (by omega), p_some, p_shl (by omega), p_or]
    simp only [f_X2_saintBits_24, show nI (5 - m) + 1 = nI (6 - m) from by rw [nI_1, e5]]
    rw [x_sbits hC hW n m a (by omega) (by omega), x_sbits hC hW n m (a ||| 2 ^ (5 - m)) (by omega) (by omega)]
    rw [sbk]
    cases sS D (5 - m) <;> simp
theorem m_sbits {I : ax_I} {D : pD} (hM : MR I D) (hW : WF D) : ∀ (n m a : Nat), m ≤ 6 → m < n → f_X7_saints_4 n I (nI a) (nI (6 - m)) = some (nI (sbk D m a))
  | 0, m, a, _, h => by omega
  | n + 1, 0, a, _, h => by
    rw [f_X7_saints_4, if_pos (by decide)]; rfl
  | n + 1, m + 1, a, hm, h => by
    have e6 : 6 - (m + 1) = 5 - m := by omega
    have e5 : 5 - m + 1 = 6 - m := by omega
    rw [f_X7_saints_4, e6, if_neg (by rw [p_le6 (by omega)]; omega), m_saint hM hW (by omega), p_some, p_shl (by omega)]
    simp only [f_X7_saints_26, show nI (5 - m) + 1 = nI (6 - m) from by rw [nI_1, e5]]
    rw [p_or, show nI a ||| (0 : Int32) = nI (a ||| 0) from p_or a 0, Nat.or_zero]
    rw [m_sbits hM hW n m a (by omega) (by omega), m_sbits hM hW n m (a ||| 2 ^ (5 - m)) (by omega) (by omega)]
    rw [sbk]
    cases sS D (5 - m) <;> simp
def sB (D : pD) : Nat := sbk D 6 0
theorem x_sB {b : Nat} {I : ax_I} {D : pD} (hC : CR I b D) (hW : WF D) : F_X2_saintBits I b = some (nI (sB D)) := x_sbits hC hW ax_N 6 0 (by decide) (by decide)
theorem m_sB {I : ax_I} {D : pD} (hM : MR I D) (hW : WF D) : F_X7_saints I = some (nI (sB D)) := m_sbits hM hW ax_N 6 0 (by decide) (by decide)
theorem op14 : lw_op14 Inv := by
  intro l E B lay I J hI
  have hLL := (inv_sz hI).2.2
  have hI0 := hI
  obtain ⟨g, ext, D, n, S, hlay, hext, hez, hC, hM, hW, hP, hIm⟩ := hI
  have e1 : F_X6_saints I = some (nI (sB D)) := by simp only [F_X6_saints, x_sB hC hW, p_some]
  exact op_i (M_X6_saints hLL e1) (M_X7_saints (J := J) hLL (m_sB hM hW)) (by decide) (by decide) hI0
theorem p_sub (a b : Nat) (ha : a < 2 ^ 30) (hb : b < 2 ^ 30) : (nI a - nI b ≤ 0) ↔ a ≤ b := by
  rw [p_le, pk_sub_toInt ha hb]
  have h0 : (0 : Int32).toInt = 0 := by decide
  omega
theorem p_sub2 (a b : Nat) (ha : a < 2 ^ 30) (hb : b < 2 ^ 30) : (0 < nI a - nI b) ↔ b < a := by
  rw [p_lt, pk_sub_toInt ha hb]
  have h0 : (0 : Int32).toInt = 0 := by decide
  omega
theorem p_over (I : ax_I) (a b : Nat) (ha : a < 2 ^ 30) (hb : b < 2 ^ 30) : F_X7_over I (nI a - nI b) = some (nI (a - b)) := by
  unfold F_X7_over
  rcases Nat.lt_or_ge b a with h | h
  · rw [if_neg (by rw [p_sub a b ha hb]; omega), pk_sub (by omega)]
  · rw [if_pos (by rw [p_sub a b ha hb]; omega), Nat.sub_eq_zero_of_le h]; rfl
theorem p_max0 (a b : Nat) (ha : a < 2 ^ 30) (hb : b < 2 ^ 30) : (if 0 < nI a - nI b then nI a - nI b else 0) = nI (a - b) := by
  rcases Nat.lt_or_ge b a with h | h
  · rw [if_pos (by rw [p_sub2 a b ha hb]; omega), pk_sub (by omega)]
  · rw [if_neg (by rw [p_sub2 a b ha hb]; omega), Nat.sub_eq_zero_of_le h]; rfl
theorem op15 : lw_op15 Inv := by
  intro a1 l E B lay I J hI
  have hLL := (inv_sz hI).2.2
  rcases p_rng a1 5 (by decide) with ⟨c, hc, rfl⟩ | h1
  · have hI0 := hI
    obtain ⟨g, ext, D, n, S, hlay, hext, hez, hC, hM, hW, hP, hIm⟩ := hI
    have tC := x_there hC hW hc
    have tM := m_there hM hW hc
    have fC := x_fallen hC hW hc
    have hb := bb_lt (D 0 0) c
    have hb3 := bb_lt (D 0 3) c
    have q1 : (nI 1 = 0) = False := eq_false (by decide)
    have q2 : (nI 0 = 1) = False := eq_false (by decide)
    have q3 : (nI 1 = 1) = True := eq_true (by decide)
    have hi : ax_in (nI c) 6 = true := p_in (by omega) (by decide)
    have hcl : (nI c).toNatClampNeg = c := p_cl (by omega)
    have z0 : (0 : Int32).toNatClampNeg = 0 := by decide
    have z1 : (1 : Int32).toNatClampNeg = 1 := by decide
    have z2 : (2 : Int32).toNatClampNeg = 2 := by decide
    rcases (show bb (D 0 0) c = 0 ∨ bb (D 0 0) c = 1 by omega) with h | h
    · rw [h] at tC tM
      have e1 : F_X6_lacks I (nI c) = some (-1) := by simp only [F_X6_lacks, tC, p_some, nI_0, if_true]
      have e2 : F_X7_lacks I (nI c) = some (-1) := by simp only [F_X7_lacks, tM, p_some, nI_0, if_true]
      exact op_i (M_X6_lacks hLL e1) (M_X7_lacks (J := J) hLL e2) (by decide) (by decide) hI0
    · rw [h] at tC tM fC
      have fM : I 39 c = nI (bb (D 0 3) c) := MR_fal hM (by omega)
      rcases (show bb (D 0 3) c = 0 ∨ bb (D 0 3) c = 1 by omega) with h' | h'
      · rw [h'] at fC fM
        have b0 := WF_rule hW (j := 0) (by decide)
        have b1 := WF_rule hW (j := 1) (by decide)
        have b2 := WF_rule hW (j := 2) (by decide)
        have c1 := WF_won hW (j := c) (by omega)
        have c2 := WF_sin hW (j := c) (by omega)
        have c3 := WF_eye hW (j := c) (by omega)
        have e1 : F_X6_lacks I (nI c) = some (nI ((D 10 0 - D 1 c) + (D 2 c - D 10 1) + (D 10 2 - D 3 c))) := by
          simp only [F_X6_lacks, tC, fC, p_some, q1, if_false, Nat.mul_zero, nI_0, if_true, hi, hcl, z0, z1, z2]
          rw [show I 10 0 = nI (D 10 0) from CR_rule hC (by decide), show I 10 1 = nI (D 10 1) from CR_rule hC (by decide), show I 10 2 = nI (D 10 2) from CR_rule hC (by decide), show I 2 c = nI (D 1 c) from CR_won hC (by omega), show I 3 c = nI (D 2 c) from CR_sin hC (by omega), show I 4 c = nI (D 3 c) from CR_eye hC (by omega)]
          rw [p_max0 _ _ (by omega) (by omega), p_max0 _ _ (by omega) (by omega), p_max0 _ _ (by omega) (by omega), nI_add, nI_add]
        have e2 : F_X7_lacks I (nI c) = some (nI ((D 10 0 - D 1 c) + (D 2 c - D 10 1) + (D 10 2 - D 3 c))) := by
          simp only [F_X7_lacks, tM, p_some, q1, if_false, fM, q2, if_true, hi, hcl, z0, z1, z2]
          rw [MR_rule hM (j := 0) (by decide), MR_rule hM (j := 1) (by decide), MR_rule hM (j := 2) (by decide), MR_won hM (j := c) (by omega), MR_sin hM (j := c) (by omega), MR_eye hM (j := c) (by omega)]
          rw [p_over I _ _ (by omega) (by omega), p_over I _ _ (by omega) (by omega), p_over I _ _ (by omega) (by omega)]
          simp only [p_some, nI_add]
        exact op_i (M_X6_lacks hLL e1) (M_X7_lacks (J := J) hLL e2) (by decide) (by decide) hI0
      · rw [h'] at fC fM
        have e1 : F_X6_lacks I (nI c) = some (-3) := by simp only [F_X6_lacks, tC, fC, p_some, q1, if_false, Nat.mul_one]
        have e2 : F_X7_lacks I (nI c) = some (-3) := by simp only [F_X7_lacks, tM, p_some, q1, if_false, hi, if_true, hcl, fM, q3]
        exact op_i (M_X6_lacks hLL e1) (M_X7_lacks (J := J) hLL e2) (by decide) (by decide) hI0
  · have h1 : ¬ ((0 : Int32) ≤ a1 ∧ a1 ≤ 5) := h1
    have e1 : F_X6_lacks I a1 = some (-1) := by simp only [F_X6_lacks, x_thereF h1, p_some, if_true]
    have e2 : F_X7_lacks I a1 = some (-1) := by simp only [F_X7_lacks, m_thereF h1, p_some, if_true]
    exact op_i (M_X6_lacks hLL e1) (M_X7_lacks (J := J) hLL e2) (by decide) (by decide) hI
/-! ===== sights ===== -/
/-- the class's sights anew: count v, below it as told -/
theorem CR_cnt {I : ax_I} {b : Nat} {D : pD} {v : Nat} (h : CR I b D) (hl : ∀ j, j < v → I (b + 11) j = nI (10 * D 12 j + D 13 j)) : CR (ax_u I b 3 (nI v)) b (pU D 0 2 v) := by
  obtain ⟨h0, h1, h2, h3, h4, h5, h6, h7, h8, h9, h10, h11, h12, h13, h14, h15⟩ := h
  refine ⟨?_, ?_, ?_, ?_, ?_, ?_, ?_, ?_, ?_, ?_, ?_, ?_, ?_, ?_, ?_, ?_⟩
  · rw [ax_u_nj (by decide), pU_c (by decide)]; exact h0
  · rw [ax_u_nj (by decide), pU_c (by decide)]; exact h1
  · rw [ax_u_nj (by decide), pU_c (by decide)]; exact h2
  · rw [ax_u_ss, pU_s]
  · rw [ax_u_nj (by decide), pU_c (by decide)]; exact h4
  · intro j hj; rw [ax_u_n (by omega), pU_r (by decide)]; exact h5 j hj
  · intro j hj; rw [ax_u_n (by omega), pU_r (by decide)]; exact h6 j hj
  · intro j hj; rw [ax_u_n (by omega), pU_r (by decide)]; exact h7 j hj
  · intro j hj; rw [ax_u_n (by omega), pU_r (by decide)]; exact h8 j hj
  · intro j hj; rw [ax_u_n (by omega), pU_r (by decide)]; exact h9 j hj
  · intro j hj; rw [ax_u_n (by omega), pU_r (by decide)]; exact h10 j hj
  · intro j hj; rw [ax_u_n (by omega), pU_r (by decide)]; exact h11 j hj
  · intro j hj; rw [ax_u_n (by omega), pU_r (by decide)]; exact h12 j hj
  · intro j hj; rw [ax_u_n (by omega), pU_r (by decide)]; exact h13 j hj
  · intro j hj; rw [ax_u_n (by omega), pU_r (by decide)]; exact h14 j hj
  · intro j hj; rw [pU_s] at hj; rw [ax_u_n (by omega), pU_r (by decide), pU_r (by decide)]; exact hl j hj
theorem MR_cnt {I : ax_I} {D : pD} {v : Nat} (h : MR I D) (hl : ∀ j, j < v → I 47 j = nI (D 12 j) ∧ I 48 j = nI (D 13 j) ∧ I 49 j = nI (D 0 4 / 2 ^ j % 2)) : MR (ax_u I 35 16 (nI v)) (pU D 0 2 v) := by
  obtain ⟨h0, h1, h2, h3, h4, h5, h6, h7, h8, h9, h10, h11, h12, h13, h14, h15, h16⟩ := h
  refine ⟨?_, ?_, ?_, ?_, ?_, ?_, ?_, ?_, ?_, ?_, ?_, ?_, ?_, ?_, ?_, ?_, ?_⟩
  · rw [ax_u_nj (by decide), pU_c (by decide)]; exact h0
  · rw [ax_u_nj (by decide), pU_c (by decide)]; exact h1
  · rw [ax_u_ss, pU_s]
  · intro j hj; show ax_u I 35 16 _ 36 j = _; rw [ax_u_n (by decide), pU_r (by decide)]; exact h3 j hj
  · intro j hj; show ax_u I 35 16 _ 37 j = _; rw [ax_u_n (by decide), pU_r (by decide)]; exact h4 j hj
  · intro j hj; show ax_u I 35 16 _ 38 j = _; rw [ax_u_n (by decide), pU_r (by decide)]; exact h5 j hj
  · intro j hj; show ax_u I 35 16 _ 39 j = _; rw [ax_u_n (by decide), pU_c (by decide)]; exact h6 j hj
  · intro j hj; show ax_u I 35 16 _ 40 j = _; rw [ax_u_n (by decide), pU_r (by decide)]; exact h7 j hj
  · intro j hj; show ax_u I 35 16 _ 41 j = _; rw [ax_u_n (by decide), pU_r (by decide)]; exact h8 j hj
  · intro j hj; show ax_u I 35 16 _ 42 j = _; rw [ax_u_n (by decide), pU_r (by decide)]; exact h9 j hj
  · intro j hj; show ax_u I 35 16 _ 43 j = _; rw [ax_u_n (by decide), pU_r (by decide)]; exact h10 j hj
  · intro j hj; show ax_u I 35 16 _ 44 j = _; rw [ax_u_n (by decide), pU_r (by decide)]; exact h11 j hj
  · intro j hj; show ax_u I 35 16 _ 45 j = _; rw [ax_u_n (by decide), pU_r (by decide)]; exact h12 j hj
  · intro j hj; show ax_u I 35 16 _ 46 j = _; rw [ax_u_n (by decide), pU_r (by decide)]; exact h13 j hj
  · intro j hj; rw [pU_s] at hj; show ax_u I 35 16 _ 47 j = _; rw [ax_u_n (by decide), pU_r (by decide)]; exact (hl j hj).1
  · intro j hj; rw [pU_s] at hj; show ax_u I 35 16 _ 48 j = _; rw [ax_u_n (by decide), pU_r (by decide)]; exact (hl j hj).2.1
  · intro j hj; rw [pU_s] at hj; show ax_u I 35 16 _ 49 j = _; rw [ax_u_n (by decide), pU_c (by decide)]; exact (hl j hj).2.2
theorem WF_cnt {D : pD} {v : Nat} (h : WF D) (hv : v ≤ 8) (hl : ∀ j, j < v → D 12 j ≤ 9 ∧ D 13 j ≤ 9) : WF (pU D 0 2 v) := by
  obtain ⟨h0, h1, h2, h3, h4, h5, h6, h7, h8, h9, h10, h11, h12, h13, h14, h15, h16⟩ := h
  refine ⟨?_, ?_, ?_, ?_, ?_, ?_, ?_, ?_, ?_, ?_, ?_, ?_, ?_, ?_, ?_, ?_, ?_⟩
  · rw [pU_c (by decide)]; exact h0
  · rw [pU_c (by decide)]; exact h1
  · rw [pU_s]; exact hv
  · rw [pU_c (by decide)]; exact h3
  · rw [pU_c (by decide)]; exact h4
  · intro j hj; rw [pU_r (by decide)]; exact h5 j hj
  · intro j hj; rw [pU_r (by decide)]; exact h6 j hj
  · intro j hj; rw [pU_r (by decide)]; exact h7 j hj
  · intro j hj; rw [pU_r (by decide)]; exact h8 j hj
  · intro j hj; rw [pU_r (by decide)]; exact h9 j hj
  · intro j hj; rw [pU_r (by decide)]; exact h10 j hj
  · intro j hj; rw [pU_r (by decide)]; exact h11 j hj
  · intro j hj; rw [pU_r (by decide)]; exact h12 j hj
  · intro j hj; rw [pU_r (by decide)]; exact h13 j hj
  · intro j hj; rw [pU_r (by decide)]; exact h14 j hj
  · intro j hj; rw [pU_s] at hj; rw [pU_r (by decide)]; exact (hl j hj).1
  · intro j hj; rw [pU_s] at hj; rw [pU_r (by decide)]; exact (hl j hj).2
theorem op23 : lw_op23 Inv := by
  intro l E B lay I J hI
  have hLL := (inv_sz hI).2.2
  obtain ⟨g, ext, D, n, S, hlay, hext, hez, hC, hM, hW, hP, hIm⟩ := hI
  have e1 : F_X6_forget I = some (nI (D 0 2), ax_u I 1 3 (nI 0)) := by
    simp only [F_X6_forget]
    rw [show I 1 3 = nI (D 0 2) from hC.2.2.2.1]; rfl
  have hM1 : MR (ax_u I 1 3 (nI 0)) D := MR_off hM (by omega)
  have e2 : F_X7_forget (ax_u I 1 3 (nI 0)) = some (nI (D 0 2), ax_u (ax_u I 1 3 (nI 0)) 35 16 (nI 0)) := by
    simp only [F_X7_forget]
    rw [hM1.2.2.1]; rfl
  exact op_i (M_X6_forget hLL e1) (M_X7_forget (J := J) hLL e2) (by decide) (by decide) ⟨g, ext, pU D 0 2 0, n, S, hlay, hext, hez, CR_off (CR_cnt hC (fun j hj => absurd hj (by omega))) (by omega), MR_cnt hM1 (fun j hj => absurd hj (by omega)), WF_cnt hW (by omega) (fun j hj => absurd hj (by omega)), PR_off (PR_off hP (by omega)) (by omega), Im_off (Im_off hIm (by omega)) (by omega)⟩
