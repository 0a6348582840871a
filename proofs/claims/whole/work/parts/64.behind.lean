theorem pDo_00 (D : pD) (w c p q : Nat) : pDo D w c p q 0 0 = D 0 0 := by
  unfold pDo
  by_cases h0 : w = 0
  · rw [if_pos h0, pU_r (by decide)]
  rw [if_neg h0]
  by_cases h1 : w = 1
  · rw [if_pos h1, pU_r (by decide)]
  rw [if_neg h1]
  by_cases h2 : w = 2
  · rw [if_pos h2, pU_r (by decide)]
  rw [if_neg h2]
  by_cases h3 : w = 3
  · rw [if_pos h3, pU_r (by decide)]
  rw [if_neg h3]
  by_cases h4 : w = 4
  · rw [if_pos h4]; unfold pFl; rw [pClr_n (by decide), pU_c (by decide), pFp_n (by decide)]
  rw [if_neg h4]
  by_cases h5 : w = 5
  · rw [if_pos h5, pU_r (by decide), pU_r (by decide)]
  rw [if_neg h5]
  by_cases h6 : w = 6
  · rw [if_pos h6]
  rw [if_neg h6, pU_c (by decide)]
theorem yD_00 (S : Nat → Nat) (n : Nat) (D : pD) : ∀ k, yD S n D k 0 0 = D 0 0
  | 0 => rfl
  | k + 1 => (pDo_00 _ _ _ _ _).trans (yD_00 S n D k)
theorem op10 : lw_op10 Inv := by
  intro a1 a2 l E B lay I J hI
  have hLL := (inv_sz hI).2.2
  have hI0 := hI
  obtain ⟨g, ext, D, n, S, hlay, hext, hez, hC, hM, hW, hP, hIm⟩ := hI
  have n1 : ¬ (1 : Int32) = 0 := by decide
  rcases p_rng a1 5 (by decide) with ⟨c, hc, rfl⟩ | h1
  · by_cases hb : bb (D 0 0) c = 0
    · have e1 : F_X6_behind I (nI c) a2 = some (-1, I) := by rw [F_X6_behind, x_there hC hW hc, p_some, hb, if_pos (by decide)]
      have e2 : F_X7_behind I (nI c) a2 = some (-1, I) := by rw [F_X7_behind, m_there hM hW hc, p_some, hb, if_pos (by decide)]
      exact op_i (M_X6_behind hLL e1) (M_X7_behind (J := J) hLL e2) (by decide) (by decide) hI0
    · have hb1 : bb (D 0 0) c = 1 := by have := bb_lt (D 0 0) c; omega
      have tX : F_X2_isThere I 1 (nI c) = some 1 := by rw [x_there hC hW hc, hb1]; rfl
      rcases p_rng a2 4 (by decide) with ⟨w, hw, rfl⟩ | h2
      · have hR : (0 : Int32) ≤ nI w ∧ nI w ≤ 4 := p_rngT hw (by decide)
        have m1 : ∀ I, F_X7_in I (nI w).toInt64 0 4 = some 1 := fun I => p_mT 0 4 hR rfl rfl
        rcases both hP hC hM hW with ⟨I2, x1, x2, x3, x4⟩ | ⟨a, K, I1, I2, I3, kf, kp, k1, k2, k3, k0, x1, x2, x3, x4, x5, y1, y2, y3, y4, y5, y6, y7, y8, y9, y10, y11, y12, y13⟩
        · have tM : F_X7_isChild I (nI c) = some 1 := by rw [m_there hM hW hc, hb1]; rfl
          have e1 : F_X6_behind I (nI c) (nI w) = some (-5, I) := by rw [F_X6_behind, tX, p_some, if_neg n1, p_wT hR, p_some, if_neg n1, x1, p_some, if_neg (show ¬ (-5 : Int32) = 0 by decide)]
          have e2 : F_X7_behind I (nI c) (nI w) = some (-5, I2) := by rw [F_X7_behind, tM, p_some, if_neg n1, m1, p_some, if_neg n1, x2, p_some, if_neg (show ¬ (-5 : Int32) = -6 by decide)]
          obtain ⟨z1, z2⟩ := FZ_i x4
          exact op_i (M_X6_behind hLL e1) (M_X7_behind (J := J) hLL e2) (by decide) (by decide) (Inv_z hlay hext hez hC hW hP hIm x3 z1 z2)
        · obtain ⟨z1, z2⟩ := FZ_f x5 y3
          have hInv : Inv B lay I2 J := Inv_z hlay hext hez hC hW hP hIm y2 z1 z2
          have hM1 : MR I1 D := MR_eq hM (fun r j q1 q2 => x5 r j (by omega)) (x5 35 0 (by omega)) (x5 35 1 (by omega)) (x5 35 16 (by omega))
          have tM : F_X7_isChild I1 (nI c) = some 1 := by rw [m_there hM1 hW hc, hb1]; rfl
          have h : ∃ r, F_X6_behind I (nI c) (nI w) = some (r, I1) ∧ F_X7_behind I1 (nI c) (nI w) = some (r, I2) := by
            rw [F_X6_behind, tX, p_some, if_neg n1, p_wT hR, p_some, if_neg n1, x1, p_some, F_X7_behind, tM, p_some, if_neg n1, m1, p_some, if_neg n1, y1, p_some]
            dsimp only
            by_cases hka : K < a
            · rw [if_pos hka, if_pos hka, if_neg (show ¬ (-3 : Int32) = 0 by decide), if_neg (show ¬ (-3 : Int32) = -6 by decide)]
              exact ⟨_, rfl, rfl⟩
            · rw [if_neg hka, if_neg hka, if_pos (show (0 : Int32) = 0 from rfl), if_pos (show (-6 : Int32) = -6 from rfl)]
              have hi6 : ax_in (nI c) 6 = true := p_in (by omega) (by decide)
              have hcl : (nI c).toNatClampNeg = c := p_cl (by omega)
              have w1 : I1 14 c = nI (yD S n D K 1 c) := CR_won x2.1 (by omega)
              have w2 : I1 15 c = nI (yD S n D K 2 c) := CR_sin x2.1 (by omega)
              have w3 : I1 16 c = nI (yD S n D K 3 c) := CR_eye x2.1 (by omega)
              have fl := x_fallen x2.1 k3 hc
              rw [yD_00, hb1, Nat.one_mul] at fl
              rw [if_pos hi6, if_pos hi6, if_pos hi6, hcl, w1, w2, w3, x_saint x2.1 k3 hc, fl, p_some, p_some]
              rcases (show w = 0 ∨ w = 1 ∨ w = 2 ∨ w = 3 ∨ w = 4 by omega) with rfl | rfl | rfl | rfl | rfl
              · have ix : (6 : Int32) * nI 0 + nI c = nI (0 + c) := nI_add 0 c
                rw [if_pos (by decide), if_neg (by decide), ix, if_pos (p_in (by omega) (by decide)), p_cl (by omega), Nat.zero_add, y12 c (by omega)]
                refine ⟨_, rfl, ?_⟩
                unfold svI
                rw [if_pos (by omega), MR_won y11 (by omega)]
              · have ix : (6 : Int32) * nI 1 + nI c = nI (6 + c) := nI_add 6 c
                rw [if_neg (by decide), if_pos (by decide), if_neg (by decide), ix, if_pos (p_in (by omega) (by decide)), p_cl (by omega), y12 (6 + c) (by omega)]
                refine ⟨_, rfl, ?_⟩
                unfold svI
                rw [if_neg (by omega), if_pos (by omega), show 6 + c - 6 = c by omega, MR_sin y11 (by omega)]
              · have ix : (6 : Int32) * nI 2 + nI c = nI (12 + c) := nI_add 12 c
                rw [if_neg (by decide), if_neg (by decide), if_pos (by decide), if_neg (by decide), ix, if_pos (p_in (by omega) (by decide)), p_cl (by omega), y12 (12 + c) (by omega)]
                refine ⟨_, rfl, ?_⟩
                unfold svI
                rw [if_neg (by omega), if_neg (by omega), if_pos (by omega), show 12 + c - 12 = c by omega, MR_eye y11 (by omega)]
              · have ix : (77 : Int32) + nI c = nI (77 + c) := nI_add 77 c
                rw [if_neg (show ¬ nI 3 = 0 by decide), if_neg (show ¬ nI 3 = 1 by decide), if_neg (show ¬ nI 3 = 2 by decide), if_pos (show nI 3 = 3 by decide), if_pos (show (3 : Int32) ≤ nI 3 by decide), if_pos (show nI 3 = 3 by decide), f_X7_behind_75, ix, if_pos (p_in (by omega) (by decide)), p_cl (by omega), y13 c (by omega)]
                cases sS (yD S n D K) c
                · exact ⟨_, rfl, rfl⟩
                · exact ⟨_, rfl, rfl⟩
              · have ix : (18 : Int32) + nI c = nI (18 + c) := nI_add 18 c
                rw [if_neg (show ¬ nI 4 = 0 by decide), if_neg (show ¬ nI 4 = 1 by decide), if_neg (show ¬ nI 4 = 2 by decide), if_neg (show ¬ nI 4 = 3 by decide), if_pos (show (3 : Int32) ≤ nI 4 by decide), if_neg (show ¬ nI 4 = 3 by decide), f_X7_behind_75, ix, if_pos (p_in (by omega) (by decide)), p_cl (by omega), y12 (18 + c) (by omega)]
                have es : svI I3 (18 + c) = nI (bb (yD S n D K 0 3) c) := by
                  unfold svI
                  rw [if_neg (by omega), if_neg (by omega), if_neg (by omega), if_pos (by omega), show 18 + c - 18 = c by omega, MR_fal y11 (by omega)]
                  rfl
                rw [es]
                rcases (show bb (yD S n D K 0 3) c = 0 ∨ bb (yD S n D K 0 3) c = 1 by have := bb_lt (yD S n D K 0 3) c; omega) with q | q
                · rw [q]; exact ⟨_, rfl, rfl⟩
                · rw [q]; exact ⟨_, rfl, rfl⟩
          obtain ⟨r, e1, e2⟩ := h
          exact op_i (M_X6_behind hLL e1) (M_X7_behind (J := J) hLL e2) (by decide) (by decide) hInv
      · have h2 : ¬ ((0 : Int32) ≤ a2 ∧ a2 ≤ 4) := h2
        have m1 : F_X7_in I a2.toInt64 0 4 = some 0 := p_mF 0 4 h2 rfl rfl
        have tM : F_X7_isChild I (nI c) = some 1 := by rw [m_there hM hW hc, hb1]; rfl
        have e1 : F_X6_behind I (nI c) a2 = some (-2, I) := by rw [F_X6_behind, tX, p_some, if_neg n1, p_wF h2, p_some, if_pos rfl]
        have e2 : F_X7_behind I (nI c) a2 = some (-2, I) := by rw [F_X7_behind, tM, p_some, if_neg n1, m1, p_some, if_pos rfl]
        exact op_i (M_X6_behind hLL e1) (M_X7_behind (J := J) hLL e2) (by decide) (by decide) hI0
  · have h1 : ¬ ((0 : Int32) ≤ a1 ∧ a1 ≤ 5) := h1
    have e1 : F_X6_behind I a1 a2 = some (-1, I) := by rw [F_X6_behind, x_thereF h1, p_some, if_pos rfl]
    have e2 : F_X7_behind I a1 a2 = some (-1, I) := by rw [F_X7_behind, m_thereF h1, p_some, if_pos rfl]
    exact op_i (M_X6_behind hLL e1) (M_X7_behind (J := J) hLL e2) (by decide) (by decide) hI0
theorem m_holds {I I3 : ax_I} {D : pD} (hM : MR I3 D) (h56 : ∀ j, j < 77 → I 56 j = svI I3 j) {c : Nat} (hcc : c ≤ 5) (v : Int32) : ∀ (n m a : Nat), m ≤ 8 → m < n → f_X7_holds_56 n I v (nI c) (nI a) (nI (8 - m)) = some (nI (pbk (hc D c) v m a), I)
  | 0, m, a, _, h => by omega
  | n + 1, 0, a, _, h => by
    rw [f_X7_holds_56, if_pos (by decide)]; rfl
  | n + 1, m + 1, a, hm, h => by
    have e6 : 8 - (m + 1) = 7 - m := by omega
    have e5 : 7 - m + 1 = 8 - m := by omega
    have ix : (24 + 8 * nI c) + nI (7 - m) = nI (24 + (8 * c + (7 - m))) := by
      rw [show 8 * nI c = nI (8 * c) from pk_mul 8 c, show (24 : Int32) + nI (8 * c) = nI (24 + 8 * c) from nI_add 24 _, nI_add, Nat.add_assoc]
    have hi : ax_in (nI (24 + (8 * c + (7 - m)))) 83 = true := p_in (by omega) (by decide)
    have hcl : (nI (24 + (8 * c + (7 - m)))).toNatClampNeg = 24 + (8 * c + (7 - m)) := p_cl (by omega)
    have es : I 56 (24 + (8 * c + (7 - m))) = hv (D 5 (8 * c + (7 - m))) := by
      rw [h56 _ (by omega)]
      unfold svI
      rw [if_neg (by omega), if_neg (by omega), if_neg (by omega), if_neg (by omega), if_pos (by omega), show 24 + (8 * c + (7 - m)) - 24 = 8 * c + (7 - m) by omega, MR_hold hM (by omega)]
    rw [f_X7_holds_56, e6, if_neg (p_ge8 (by omega)), ix, if_pos hi, hcl, es, p_shl (by omega)]
    simp only [f_X7_holds_92, nI_1, e5]
    rw [p_or, show nI a ||| (0 : Int32) = nI (a ||| 0) from p_or a 0, Nat.or_zero]
    rw [m_holds hM h56 hcc v n m a (by omega) (by omega), m_holds hM h56 hcc v n m (a ||| 2 ^ (7 - m)) (by omega) (by omega), pbk]
    show (if hc D c (7 - m) = v then _ else _) = _
    split <;> rfl
theorem p_par1 {I : ax_I} {p : Nat} (hp : p ≤ 3) : F_X7_isParish I (nI p) = some 1 := by
  have hA : (0 : Int32) ≤ nI p ∧ nI p ≤ 3 := p_rngT hp (by decide)
  have m1 : F_X7_in I (nI p).toInt64 0 3 = some 1 := p_mT 0 3 hA rfl rfl
  rw [F_X7_isParish, m1, p_some, if_pos (by decide)]
theorem p_par0 {I : ax_I} {x : Int32} (h : ¬ ((0 : Int32) ≤ x ∧ x ≤ 3)) : F_X7_isParish I x = some 0 := by
  have m1 : F_X7_in I x.toInt64 0 3 = some 0 := p_mF 0 3 h rfl rfl
  rw [F_X7_isParish, m1, p_some, if_pos (by decide)]
/-- the answers of holds behind its guards -/
theorem holds_in {I : ax_I} {n : Nat} {S : Nat → Nat} {D : pD} (hP : PR I n S) (hC : CR I 1 D) (hM : MR I D) (hW : WF D) {p : Nat} (hp : p ≤ 3) {x : Int32} (hx : x = -1 ∨ ∃ c, c ≤ 5 ∧ x = nI c) : ∃ r I1 I2, f_X6_holds_27 I (nI p) x = some (r, I1) ∧ f_X7_holds_22 I1 (nI p) x = some (r, I2) ∧ MR I2 D ∧ MR I1 D ∧ (∀ r j, (r < 13 ∨ r = 26 ∨ r = 27 ∨ r = 50 ∨ 59 ≤ r) → I2 r j = I r j) ∧ I2 35 18 = I 35 18 := by
  rcases both hP hC hM hW with ⟨I2, x1, x2, x3, x4⟩ | ⟨a, K, I1, I2, I3, kf, kp, k1, k2, k3, k0, x1, x2, x3, x4, x5, y1, y2, y3, y4, y5, y6, y7, y8, y9, y10, y11, y12, y13⟩
  · refine ⟨-5, I, I2, ?_, ?_, x3, hM, FZ_i x4⟩
    · rw [f_X6_holds_27, x1, p_some, if_neg (show ¬ (-5 : Int32) = 0 by decide)]
    · rw [f_X7_holds_22, x2, p_some, if_neg (show ¬ (-5 : Int32) = -6 by decide)]
  · have hM1 : MR I1 D := MR_eq hM (fun r j q1 q2 => x5 r j (by omega)) (x5 35 0 (by omega)) (x5 35 1 (by omega)) (x5 35 16 (by omega))
    rw [f_X6_holds_27, x1, p_some]
    dsimp only
    by_cases hka : K < a
    · rw [if_pos hka] at y1 ⊢
      rw [if_neg (show ¬ (-3 : Int32) = 0 by decide)]
      refine ⟨-3, I1, I2, rfl, ?_, y2, hM1, FZ_f x5 y3⟩
      rw [f_X7_holds_22, y1, p_some, if_neg (show ¬ (-3 : Int32) = -6 by decide)]
    · rw [if_neg hka] at y1 ⊢
      rw [if_pos (show (0 : Int32) = 0 from rfl)]
      rcases hx with rfl | ⟨c, hcc, rfl⟩
      · have hcl : (nI p).toNatClampNeg = p := p_cl (by omega)
        have w1 : I1 21 p = nI (yD S n D K 9 p) := CR_purse x2.1 (by omega)
        rw [if_pos rfl, if_pos (p_in (by omega) (by decide)), hcl, w1]
        refine ⟨_, I1, I2, rfl, ?_, y2, hM1, FZ_f x5 y3⟩
        have ix : (72 : Int32) + nI p = nI (72 + p) := nI_add 72 p
        rw [f_X7_holds_22, y1, p_some, if_pos (show (-6 : Int32) = -6 from rfl), if_pos rfl]
        dsimp only
        rw [ix, if_pos (p_in (by omega) (by decide)), p_cl (by omega), y12 (72 + p) (by omega)]
        unfold svI
        rw [if_neg (by omega), if_neg (by omega), if_neg (by omega), if_neg (by omega), if_neg (by omega), if_pos (by omega), show 72 + p - 72 = p by omega, MR_purse y11 (by omega)]
      · have hne : ∀ c, c < 6 → ¬ nI c = -1 := by decide
        rw [if_neg (hne c (by omega)), x_pB x2.1 hcc (nI p), p_some]
        refine ⟨_, I1, I2, rfl, ?_, y2, hM1, FZ_f x5 y3⟩
        rw [f_X7_holds_22, y1, p_some, if_pos (show (-6 : Int32) = -6 from rfl), if_neg (hne c (by omega))]
        exact m_holds y11 y12 hcc (nI p) ax_N 8 0 (by decide) (by decide)
theorem op11 : lw_op11 Inv := by
  intro a1 a2 l E B lay I J hI
  have hLL := (inv_sz hI).2.2
  have hI0 := hI
  obtain ⟨g, ext, D, n, S, hlay, hext, hez, hC, hM, hW, hP, hIm⟩ := hI
  have n1 : ¬ (1 : Int32) = 0 := by decide
  rcases p_rng a1 3 (by decide) with ⟨p, hp, rfl⟩ | h1
  · have hR : (0 : Int32) ≤ nI p ∧ nI p ≤ 3 := p_rngT hp (by decide)
    by_cases hm : a2 = -1
    · subst hm
      obtain ⟨r, I1, I2, e1, e2, e3, e4, e5, e6⟩ := holds_in hP hC hM hW hp (x := -1) (Or.inl rfl)
      have f1 : F_X6_holds I (nI p) (-1) = some (r, I1) := by rw [F_X6_holds, p_wT hR, p_some, if_neg n1, if_pos rfl, e1]
      have f2 : F_X7_holds I1 (nI p) (-1) = some (r, I2) := by rw [F_X7_holds, p_par1 hp, p_some, if_neg n1, if_pos rfl, e2]
      exact op_i (M_X6_holds hLL f1) (M_X7_holds (J := J) hLL f2) (by decide) (by decide) (Inv_z hlay hext hez hC hW hP hIm e3 e5 e6)
    · rcases p_rng a2 5 (by decide) with ⟨c, hc, rfl⟩ | h2
      · by_cases hb : bb (D 0 0) c = 0
        · have e1 : F_X6_holds I (nI p) (nI c) = some (-1, I) := by rw [F_X6_holds, p_wT hR, p_some, if_neg n1, if_neg hm, x_there hC hW hc, p_some, hb, if_pos (by decide)]
          have e2 : F_X7_holds I (nI p) (nI c) = some (-1, I) := by rw [F_X7_holds, p_par1 hp, p_some, if_neg n1, if_neg hm, m_there hM hW hc, p_some, hb, if_pos (by decide)]
          exact op_i (M_X6_holds hLL e1) (M_X7_holds (J := J) hLL e2) (by decide) (by decide) hI0
        · have hb1 : bb (D 0 0) c = 1 := by have := bb_lt (D 0 0) c; omega
          obtain ⟨r, I1, I2, e1, e2, e3, e4, e5, e6⟩ := holds_in hP hC hM hW hp (x := nI c) (Or.inr ⟨c, hc, rfl⟩)
          have f1 : F_X6_holds I (nI p) (nI c) = some (r, I1) := by rw [F_X6_holds, p_wT hR, p_some, if_neg n1, if_neg hm, x_there hC hW hc, p_some, hb1, if_neg (show ¬ nI 1 = 0 by decide), e1]
          have f2 : F_X7_holds I1 (nI p) (nI c) = some (r, I2) := by rw [F_X7_holds, p_par1 hp, p_some, if_neg n1, if_neg hm, m_there e4 hW hc, p_some, hb1, if_neg (show ¬ nI 1 = 0 by decide), e2]
          exact op_i (M_X6_holds hLL f1) (M_X7_holds (J := J) hLL f2) (by decide) (by decide) (Inv_z hlay hext hez hC hW hP hIm e3 e5 e6)
      · have h2 : ¬ ((0 : Int32) ≤ a2 ∧ a2 ≤ 5) := h2
        have e1 : F_X6_holds I (nI p) a2 = some (-1, I) := by rw [F_X6_holds, p_wT hR, p_some, if_neg n1, if_neg hm, x_thereF h2, p_some, if_pos rfl]
        have e2 : F_X7_holds I (nI p) a2 = some (-1, I) := by rw [F_X7_holds, p_par1 hp, p_some, if_neg n1, if_neg hm, m_thereF h2, p_some, if_pos rfl]
        exact op_i (M_X6_holds hLL e1) (M_X7_holds (J := J) hLL e2) (by decide) (by decide) hI0
  · have h1 : ¬ ((0 : Int32) ≤ a1 ∧ a1 ≤ 3) := h1
    have e1 : F_X6_holds I a1 a2 = some (-1, I) := by rw [F_X6_holds, p_wF h1, p_some, if_pos rfl]
    have e2 : F_X7_holds I a1 a2 = some (-1, I) := by rw [F_X7_holds, p_par0 h1, p_some, if_pos rfl]
    exact op_i (M_X6_holds hLL e1) (M_X7_holds (J := J) hLL e2) (by decide) (by decide) hI0
