/-! ===== judge, behind, holds, wrong, done ===== -/
theorem yS_un {S : Nat → Nat} {n : Nat} {D : pD} {K K' m : Nat} (h : yS S n D K m) (h' : yS S n D K' m) : K = K' := by
  rcases Nat.lt_trichotomy K K' with q | q | q
  · exact absurd (h'.1 K q) (h.2.2 (by have := h'.2.1; omega))
  · exact q
  · exact absurd (h.1 K' q) (h'.2.2 (by have := h.2.1; omega))
theorem pos_un {S : Nat → Nat} {n a a' : Nat} (h : pos S n a = n) (h' : pos S n a' = n) : a = a' := by
  rcases Nat.lt_trichotomy a a' with q | q | q
  · have := pos_mono S n a' q; omega
  · exact q
  · have := pos_mono S n a q; omega
theorem x_ref_no {I : ax_I} {n v : Nat} {S : Nat → Nat} (hP : PR I n S) (hv : v ≤ 60) (h : ffk S n n 0 = nI v) : F_X6_refusalOfYears I = some (-5, I) := by
  have hne : ∀ v, v < 61 → ¬ nI v = -6 := by decide
  rw [F_X6_refusalOfYears, x_ff hP, p_some, h, if_neg (hne v (by omega))]
theorem bA_m6 {K a : Nat} (hK : K < 100) : (bA K a = -6) ↔ ¬ K < a := by
  unfold bA
  by_cases hka : K < a
  · have hne : ∀ v, v < 100 → ¬ nI v = -6 := by decide +kernel
    rw [if_pos hka]; exact ⟨fun q => absurd q (hne K hK), fun q => absurd hka q⟩
  · rw [if_neg hka]; exact ⟨fun _ => hka, fun _ => rfl⟩
theorem x_ref_yes {I : ax_I} {n : Nat} {S : Nat → Nat} {D : pD} (hP : PR I n S) (hC : CR I 1 D) (hW : WF D) (h : ffk S n n 0 = -6) {K a : Nat} (ha : a ≤ 60) (hpn : pos S n a = n) (hG : ∀ j, j < a → AG S n (pos S n j)) (hK : yS S n D K a) : ∃ I2, F_X6_refusalOfYears I = some (if K < a then -3 else 0, I2) ∧ YX I2 S n D K ∧ I2 28 2 = bA K a ∧ I2 28 3 = bW S n D K a ∧ FC I I2 := by
  obtain ⟨I1, c1, c2, c3⟩ := copy_ok (b := 13) (b2 := 1) (I := I) (D := D) (by omega) hW hC
  have f1 : FC I I1 := fun r j hr => c3 r j (by omega)
  obtain ⟨I2, y1, y2, y3, y4, y5⟩ := x_years hW hK hG hpn (PR_FC hP f1) c2
  refine ⟨I2, ?_, y2, y3, y4, FC_tr f1 y5⟩
  rw [F_X6_refusalOfYears, x_ff hP, p_some, h, if_pos rfl, c1, p_some, y1, p_some, y3]
  have hm := bA_m6 (K := K) (a := a) (by have := hK.2.1; omega)
  by_cases hka : K < a
  · rw [if_neg (fun q => hm.mp q hka), if_pos hka]
  · rw [if_pos (hm.mpr hka), if_neg hka]
/-- both sides live the years -/
theorem both {I : ax_I} {n : Nat} {S : Nat → Nat} {D : pD} (hP : PR I n S) (hC : CR I 1 D) (hM : MR I D) (hW : WF D) :
    (∃ I2, F_X6_refusalOfYears I = some (-5, I) ∧ F_X7_refusal I = some (-5, I2) ∧ MR I2 D ∧ FZ I I2) ∨
    (∃ a K I1 I2 I3, ffk S n n 0 = -6 ∧ pos S n a = n ∧ K ≤ a ∧ a ≤ 60 ∧ WF (yD S n D K) ∧ yS S n D K a ∧ F_X6_refusalOfYears I = some (if K < a then -3 else 0, I1) ∧ YX I1 S n D K ∧ I1 28 2 = bA K a ∧ I1 28 3 = bW S n D K a ∧ FC I I1 ∧ F_X7_refusal I1 = some (if K < a then -3 else -6, I2) ∧ MR I2 D ∧ FZ I1 I2 ∧ I2 35 23 = nI a ∧ APs I2 S n a ∧ I2 35 30 = bA K a ∧ I2 35 31 = bW S n D K a ∧ I2 35 24 = nI (yF S n K) ∧ I2 35 25 = hv (yw S n D K) ∧ I2 35 26 = nI (yC S n D K) ∧ MR I3 (yD S n D K) ∧ (∀ j, j < 77 → I2 56 j = svI I3 j) ∧ ∀ c, c < 6 → I2 56 (77 + c) = if sS (yD S n D K) c = true then 1 else 0) := by
  rcases m_ref (PR_PM hP) hM hW with ⟨v, I2, h1, h2, h3, h4, h5⟩ | ⟨h1, a, K, h2, h3, h4, h5, -⟩
  · exact Or.inl ⟨I2, x_ref_no hP h1 h2, h3, h4, h5⟩
  · right
    obtain ⟨I1, x1, x2, x3, x4, x5⟩ := x_ref_yes hP hC hW h1 h2 h3 h4 h5
    have hM1 : MR I1 D := MR_eq hM (fun r j q1 q2 => x5 r j (by omega)) (x5 35 0 (by omega)) (x5 35 1 (by omega)) (x5 35 16 (by omega))
    rcases m_ref (PR_PM (PR_FC hP x5)) hM1 hW with ⟨v, I2, g1, g2, -⟩ | ⟨-, a', K', g2, g3, g4, g5, I2, I3, g6, g7, g8, g9, g10, g11, g12, g13, g14, g15, g16, g17, g18⟩
    · exfalso
      have hne : ∀ v, v < 61 → ¬ nI v = -6 := by decide
      exact hne v (by omega) (g2.symm.trans h1)
    · have ea : a' = a := pos_un g3 h3
      subst ea
      have eK : K' = K := yS_un g5 h5
      subst eK
      exact ⟨a', K', I1, I2, I3, h1, h3, h5.2.1, h2, WF_y hW h5 h4 K' (Nat.le_refl _), h5, x1, x2, x3, x4, x5, g6, g7, g8, g9, g10, g11, g12, g13, g14, g15, g16, g17, g18⟩
theorem Inv_z {B : Nat} {lay : List ax_S} {I I2 : ax_I} {J : ax_J} {g : Nat → Option Nat} {ext : List ax_S} {D : pD} {n : Nat} {S : Nat → Nat} (hlay : lay = ax_L B g ++ ext) (hext : ext.length = 12 * gc g) (hez : ax_z ext = 123 * gc g) (hC : CR I 1 D) (hW : WF D) (hP : PR I n S) (hIm : Im B lay g I) (hM2 : MR I2 D) (f : ∀ r j, (r < 13 ∨ r = 26 ∨ r = 27 ∨ r = 50 ∨ 59 ≤ r) → I2 r j = I r j) (e18 : I2 35 18 = I 35 18) : Inv B lay I2 J :=
  ⟨g, ext, D, n, S, hlay, hext, hez, CR_eq hC (fun q j hq => f _ _ (by omega)), hM2, hW, PR_eq hP (f 26 1 (by omega)) e18 (fun j => f 27 j (by omega)) (fun j => f 50 j (by omega)), Im_hi hIm (fun r j hr => f r j (by omega))⟩
theorem FZ_f {I I1 I2 : ax_I} (h1 : FC I I1) (h2 : FZ I1 I2) : (∀ r j, (r < 13 ∨ r = 26 ∨ r = 27 ∨ r = 50 ∨ 59 ≤ r) → I2 r j = I r j) ∧ I2 35 18 = I 35 18 :=
  ⟨fun r j hr => (h2.1 r j (by omega)).trans (h1 r j (by omega)), h2.2.trans (h1 35 18 (by omega))⟩
theorem FZ_i {I I2 : ax_I} (h2 : FZ I I2) : (∀ r j, (r < 13 ∨ r = 26 ∨ r = 27 ∨ r = 50 ∨ 59 ≤ r) → I2 r j = I r j) ∧ I2 35 18 = I 35 18 :=
  ⟨fun r j hr => h2.1 r j (by omega), h2.2⟩
theorem op9 : lw_op9 Inv := by
  intro a1 l E B lay I J hI
  have hLL := (inv_sz hI).2.2
  have hI0 := hI
  obtain ⟨g, ext, D, n, S, hlay, hext, hez, hC, hM, hW, hP, hIm⟩ := hI
  have n1 : ¬ (1 : Int32) = 0 := by decide
  rcases p_rng a1 2 (by decide) with ⟨c, hc, rfl⟩ | h1
  · have hR : (0 : Int32) ≤ nI c ∧ nI c ≤ 2 := p_rngT hc (by decide)
    have m1 : ∀ I, F_X7_in I (nI c).toInt64 0 2 = some 1 := fun I => p_mT 0 2 hR rfl rfl
    rcases both hP hC hM hW with ⟨I2, x1, x2, x3, x4⟩ | ⟨a, K, I1, I2, I3, kf, kp, k1, k2, k3, k0, x1, x2, x3, x4, x5, y1, y2, y3, y4, y5, y6, y7, y8, y9, y10, y11, y12, y13⟩
    · have e1 : F_X6_judge I (nI c) = some (-5, I) := by rw [F_X6_judge, p_wT hR, p_some, if_neg n1, x1, p_some, if_pos rfl]
      have e2 : F_X7_judge I (nI c) = some (-5, I2) := by rw [F_X7_judge, m1, p_some, if_neg n1, x2, p_some, if_pos rfl]
      obtain ⟨z1, z2⟩ := FZ_i x4
      exact op_i (M_X6_judge hLL e1) (M_X7_judge (J := J) hLL e2) (by decide) (by decide) (Inv_z hlay hext hez hC hW hP hIm x3 z1 z2)
    · obtain ⟨z1, z2⟩ := FZ_f x5 y3
      have hInv : Inv B lay I2 J := Inv_z hlay hext hez hC hW hP hIm y2 z1 z2
      have h : ∃ r, F_X6_judge I (nI c) = some (r, I1) ∧ F_X7_judge I1 (nI c) = some (r, I2) := by
        rw [F_X6_judge, p_wT hR, p_some, if_neg n1, x1, p_some, F_X7_judge, m1, p_some, if_neg n1, y1, p_some, f_X6_judge_36, f_X7_judge_39]
        dsimp only
        rw [x3, x4, x2.2.2.1, y6, y7, y8]
        by_cases hka : K < a
        · simp only [if_pos hka]
          rcases (show c = 0 ∨ c = 1 ∨ c = 2 by omega) with rfl | rfl | rfl
          · exact ⟨_, rfl, rfl⟩
          · exact ⟨_, rfl, rfl⟩
          · exact ⟨_, rfl, rfl⟩
        · simp only [if_neg hka]
          rcases (show c = 0 ∨ c = 1 ∨ c = 2 by omega) with rfl | rfl | rfl
          · exact ⟨_, rfl, rfl⟩
          · exact ⟨_, rfl, rfl⟩
          · exact ⟨_, rfl, rfl⟩
      obtain ⟨r, e1, e2⟩ := h
      exact op_i (M_X6_judge hLL e1) (M_X7_judge (J := J) hLL e2) (by decide) (by decide) hInv
  · have h1 : ¬ ((0 : Int32) ≤ a1 ∧ a1 ≤ 2) := h1
    have m1 : F_X7_in I a1.toInt64 0 2 = some 0 := p_mF 0 2 h1 rfl rfl
    have e1 : F_X6_judge I a1 = some (-2, I) := by rw [F_X6_judge, p_wF h1, p_some, if_pos rfl]
    have e2 : F_X7_judge I a1 = some (-2, I) := by rw [F_X7_judge, m1, p_some, if_pos rfl]
    exact op_i (M_X6_judge hLL e1) (M_X7_judge (J := J) hLL e2) (by decide) (by decide) hI0
theorem op12 : lw_op12 Inv := by
  intro a1 l E B lay I J hI
  have hLL := (inv_sz hI).2.2
  have hI0 := hI
  obtain ⟨g, ext, D, n, S, hlay, hext, hez, hC, hM, hW, hP, hIm⟩ := hI
  have n1 : ¬ (1 : Int32) = 0 := by decide
  rcases p_rng a1 1 (by decide) with ⟨c, hc, rfl⟩ | h1
  · have hR : (0 : Int32) ≤ nI c ∧ nI c ≤ 1 := p_rngT hc (by decide)
    have m1 : ∀ I, F_X7_in I (nI c).toInt64 0 1 = some 1 := fun I => p_mT 0 1 hR rfl rfl
    rcases both hP hC hM hW with ⟨I2, x1, x2, x3, x4⟩ | ⟨a, K, I1, I2, I3, kf, kp, k1, k2, k3, k0, x1, x2, x3, x4, x5, y1, y2, y3, y4, y5, y6, y7, y8, y9, y10, y11, y12, y13⟩
    · have e1 : F_X6_wrong I (nI c) = some (-5, I) := by rw [F_X6_wrong, p_wT hR, p_some, if_neg n1, x1, p_some, if_neg (show ¬ (-5 : Int32) = 0 by decide)]
      have e2 : F_X7_wrong I (nI c) = some (-5, I2) := by rw [F_X7_wrong, m1, p_some, if_neg n1, x2, p_some, if_neg (show ¬ (-5 : Int32) = -6 by decide)]
      obtain ⟨z1, z2⟩ := FZ_i x4
      exact op_i (M_X6_wrong hLL e1) (M_X7_wrong (J := J) hLL e2) (by decide) (by decide) (Inv_z hlay hext hez hC hW hP hIm x3 z1 z2)
    · obtain ⟨z1, z2⟩ := FZ_f x5 y3
      have hInv : Inv B lay I2 J := Inv_z hlay hext hez hC hW hP hIm y2 z1 z2
      have h : ∃ r, F_X6_wrong I (nI c) = some (r, I1) ∧ F_X7_wrong I1 (nI c) = some (r, I2) := by
        rw [F_X6_wrong, p_wT hR, p_some, if_neg n1, x1, p_some, F_X7_wrong, m1, p_some, if_neg n1, y1, p_some]
        dsimp only
        rw [x2.2.2.2.1, x2.2.2.2.2, y9, y10]
        by_cases hka : K < a
        · simp only [if_pos hka]
          exact ⟨_, rfl, rfl⟩
        · simp only [if_neg hka]
          rcases (show c = 0 ∨ c = 1 by omega) with rfl | rfl
          · exact ⟨_, rfl, rfl⟩
          · exact ⟨_, rfl, rfl⟩
      obtain ⟨r, e1, e2⟩ := h
      exact op_i (M_X6_wrong hLL e1) (M_X7_wrong (J := J) hLL e2) (by decide) (by decide) hInv
  · have h1 : ¬ ((0 : Int32) ≤ a1 ∧ a1 ≤ 1) := h1
    have m1 : F_X7_in I a1.toInt64 0 1 = some 0 := p_mF 0 1 h1 rfl rfl
    have e1 : F_X6_wrong I a1 = some (-2, I) := by rw [F_X6_wrong, p_wF h1, p_some, if_pos rfl]
    have e2 : F_X7_wrong I a1 = some (-2, I) := by rw [F_X7_wrong, m1, p_some, if_pos rfl]
    exact op_i (M_X6_wrong hLL e1) (M_X7_wrong (J := J) hLL e2) (by decide) (by decide) hI0
theorem op13 : lw_op13 Inv := by
  intro l E B lay I J hI
  have hLL := (inv_sz hI).2.2
  have hI0 := hI
  obtain ⟨g, ext, D, n, S, hlay, hext, hez, hC, hM, hW, hP, hIm⟩ := hI
  rcases both hP hC hM hW with ⟨I2, x1, x2, x3, x4⟩ | ⟨a, K, I1, I2, I3, kf, kp, k1, k2, k3, k0, x1, x2, x3, x4, x5, y1, y2, y3, y4, y5, y6, y7, y8, y9, y10, y11, y12, y13⟩
  · have e1 : F_X6_done I = some (-5, I) := by rw [F_X6_done, x1, p_some, if_neg (show ¬ (-5 : Int32) = 0 by decide)]
    have e2 : F_X7_done I = some (-5, I2) := by rw [F_X7_done, x2, p_some, if_neg (show ¬ (-5 : Int32) = -6 by decide)]
    obtain ⟨z1, z2⟩ := FZ_i x4
    exact op_i (M_X6_done hLL e1) (M_X7_done (J := J) hLL e2) (by decide) (by decide) (Inv_z hlay hext hez hC hW hP hIm x3 z1 z2)
  · by_cases hka : K < a
    · obtain ⟨z1, z2⟩ := FZ_f x5 y3
      have hInv : Inv B lay I2 J := Inv_z hlay hext hez hC hW hP hIm y2 z1 z2
      rw [if_pos hka] at x1 y1
      have e1 : F_X6_done I = some (-3, I1) := by rw [F_X6_done, x1, p_some, if_neg (show ¬ (-3 : Int32) = 0 by decide)]
      have e2 : F_X7_done I1 = some (-3, I2) := by rw [F_X7_done, y1, p_some, if_neg (show ¬ (-3 : Int32) = -6 by decide)]
      exact op_i (M_X6_done hLL e1) (M_X7_done (J := J) hLL e2) (by decide) (by decide) hInv
    · rw [if_neg hka] at x1 y1
      have eK : K = a := by omega
      obtain ⟨I4, c1, c2, c3⟩ := copy_ok (b := 1) (b2 := 13) (I := I1) (D := yD S n D K) (by omega) k3 x2.1
      obtain ⟨I5, hI5⟩ : ∃ I5, I5 = ax_u I4 26 1 0 := ⟨_, rfl⟩
      have a28 : I5 28 1 = nI a := by rw [hI5, ax_u_n (by decide), c3 28 1 (by omega), x2.2.1, eK]
      have e1 : F_X6_done I = some (nI a, I5) := by rw [F_X6_done, x1, p_some, if_pos rfl, c1, p_some, ← hI5, a28]
      have f5 : ∀ r j, 12 < r → ¬ (r = 26 ∧ j = 1) → I5 r j = I1 r j := fun r j h1 h2 => by rw [hI5, ax_u_at, if_neg h2]; exact c3 r j (by omega)
      have g5 : ∀ r j, (26 < r ∧ r ≠ 28 ∧ r ≠ 29) → I5 r j = I r j := fun r j h1 => (f5 r j (by omega) (by omega)).trans (x5 r j (by omega))
      have hM5 : MR I5 D := MR_eq hM (fun r j q1 q2 => g5 r j (by omega)) (g5 35 0 (by omega)) (g5 35 1 (by omega)) (g5 35 16 (by omega))
      rcases m_ref (PM_eq (PR_PM hP) (g5 35 18 (by omega)) (fun j => g5 50 j (by omega))) hM5 hW with ⟨v, I6, u1, u2, -⟩ | ⟨-, a', K', u2, u3, u4, u5, I6, I9, u6, u7, u8, u9, u10, -⟩
      · exfalso
        have hne : ∀ v, v < 61 → ¬ nI v = -6 := by decide
        exact hne v (by omega) (u2.symm.trans kf)
      · have ea : a' = a := pos_un u3 kp
        subst ea
        have eK2 : K' = K := yS_un u5 k0
        subst eK2
        rw [if_neg hka] at u6
        obtain ⟨I7, t1, t2, t3, t4, t5, t6⟩ := m_years hW k0 k2 u10 u9 u7
        obtain ⟨I8, hI8⟩ : ∃ I8, I8 = ax_u I7 35 18 0 := ⟨_, rfl⟩
        have a23 : I8 35 23 = nI a' := by rw [hI8, ax_u_nj (by decide), t6 23 (by decide) (by decide) (by decide) (by decide) (by decide) (by decide) (by decide)]; exact u9
        have e2 : F_X7_done I5 = some (nI a', I8) := by rw [F_X7_done, u6, p_some, if_pos rfl, t1, p_some, ← hI8, a23]
        have f8 : ∀ r j, (r < 35 ∨ 59 ≤ r) → I8 r j = I5 r j := fun r j hr => by
          rw [hI8, ax_u_n (by omega), t5 r j (by omega) (by omega) (by omega) (by omega) (by omega) (by omega) (by omega)]
          exact u8.1 r j (by omega)
        refine op_i (M_X6_done hLL e1) (M_X7_done (J := J) hLL e2) (by decide) (by decide) ⟨g, ext, yD S n D K', 0, S, hlay, hext, hez, ?_, ?_, k3, ?_, ?_⟩
        · refine CR_eq c2 (fun q j hq => ?_)
          rw [f8 _ _ (by omega), hI5, ax_u_n (by omega)]
        · rw [hI8]; exact MR_off t2.1 (by omega)
        · refine ⟨?_, ?_, Nat.zero_le _, fun j hj => absurd hj (by omega), fun j hj => absurd hj (by omega), fun j hj => absurd hj (by omega)⟩
          · rw [f8 26 1 (by omega), hI5, ax_u_ss]; rfl
          · rw [hI8, ax_u_ss]; rfl
        · exact Im_hi hIm (fun r j hr => (f8 r j (by omega)).trans (g5 r j (by omega)))
