/-! ===== the years in the model ===== -/
theorem m_feast {I : ax_I} {D : pD} {c k f w cc : Nat} (hM : MR I D) (hW : WF D) (hcc : c ≤ 5) (x3 x4 : Int32) (h24 : I 35 24 = nI f) (h25 : I 35 25 = hv w) (h26 : I 35 26 = nI cc) (h27 : I 35 27 = nI k) (hw : w < 100) : ∃ I', F_X7_happen I (nI 6) (nI c) x3 x4 = some I' ∧ MR I' D ∧ (∀ r j, r ≠ 35 → I' r j = I r j) ∧ (∀ j, j ≠ 24 → j ≠ 25 → j ≠ 26 → I' 35 j = I 35 j) ∧ I' 35 24 = nI (f + 1) ∧ I' 35 25 = hv (if sS D c = false ∧ w = 0 then k + 1 else w) ∧ I' 35 26 = nI (cc + if sS D c = false then 1 else 0) := by
  obtain ⟨I1, hI1⟩ : ∃ I1, I1 = ax_u I 35 24 (nI (f + 1)) := ⟨_, rfl⟩
  have hM1 : MR I1 D := by rw [hI1]; exact MR_off hM (by omega)
  have a25 : I1 35 25 = hv w := by rw [hI1, ax_u_nj (by decide)]; exact h25
  have a26 : I1 35 26 = nI cc := by rw [hI1, ax_u_nj (by decide)]; exact h26
  have a27 : I1 35 27 = nI k := by rw [hI1, ax_u_nj (by decide)]; exact h27
  have a24 : I1 35 24 = nI (f + 1) := by rw [hI1, ax_u_ss]
  have co : ∀ r j, r ≠ 35 → I1 r j = I r j := fun r j hr => by rw [hI1, ax_u_n hr]
  have cj : ∀ j, j ≠ 24 → I1 35 j = I 35 j := fun j hj => by rw [hI1, ax_u_nj hj]
  have e : F_X7_happen I (nI 6) (nI c) x3 x4 = (if (if sS D c = true then (1 : Int32) else 0) = 0 then (if 0 ≤ hv w then f_X7_feast_37 I1 (hv w) else f_X7_feast_37 I1 (nI k)) else some I1).bind (fun q133 => some q133) := by
    rw [F_X7_happen, if_neg (by decide), if_neg (by decide), if_neg (by decide), if_neg (by decide), if_neg (by decide), if_neg (by decide), if_pos (by decide), F_X7_feast, h24, nI_1, ← hI1, m_saint hM1 hW hcc, p_some, a25, a27]
  have wr : ∀ v : Int32, (f_X7_feast_37 I1 v) = some (ax_u (ax_u I1 35 25 v) 35 26 (nI (cc + 1))) := by
    intro v
    rw [f_X7_feast_37, ax_u_nj (by decide), a26, nI_1]
  have mr : ∀ v : Int32, MR (ax_u (ax_u I1 35 25 v) 35 26 (nI (cc + 1))) D := fun v => MR_off (MR_off hM1 (by omega)) (by omega)
  cases hs : sS D c
  · rw [hs, show (if (false : Bool) = true then (1 : Int32) else 0) = 0 from rfl, if_pos rfl, wr, wr] at e
    by_cases hw0 : w = 0
    · rw [if_neg (fun q => (hvn hw).mp q hw0), p_some] at e
      refine ⟨_, e, mr _, fun r j hr => ?_, fun j g1 g2 g3 => ?_, ?_, ?_, ?_⟩
      · rw [ax_u_n hr, ax_u_n hr]; exact co r j hr
      · rw [ax_u_nj g3, ax_u_nj g2]; exact cj j g1
      · rw [ax_u_nj (by decide), ax_u_nj (by decide)]; exact a24
      · rw [ax_u_nj (by decide), ax_u_ss, if_pos ⟨rfl, hw0⟩, hv_s]
      · rw [ax_u_ss, if_pos rfl]
    · rw [if_pos ((hvn hw).mpr hw0), p_some] at e
      refine ⟨_, e, mr _, fun r j hr => ?_, fun j g1 g2 g3 => ?_, ?_, ?_, ?_⟩
      · rw [ax_u_n hr, ax_u_n hr]; exact co r j hr
      · rw [ax_u_nj g3, ax_u_nj g2]; exact cj j g1
      · rw [ax_u_nj (by decide), ax_u_nj (by decide)]; exact a24
      · rw [ax_u_nj (by decide), ax_u_ss, if_neg (fun q => hw0 q.2)]
      · rw [ax_u_ss, if_pos rfl]
  · rw [hs, show (if (true : Bool) = true then (1 : Int32) else 0) = 1 from rfl, if_neg (by decide), p_some] at e
    refine ⟨_, e, hM1, co, fun j g1 g2 g3 => cj j g1, a24, ?_, ?_⟩
    · rw [if_neg (fun q => by cases q.1)]; exact a25
    · rw [if_neg (by decide)]; exact a26
def YM (I : ax_I) (S : Nat → Nat) (n : Nat) (D : pD) (k : Nat) : Prop := MR I (yD S n D k) ∧ I 35 24 = nI (yF S n k) ∧ I 35 25 = hv (yw S n D k) ∧ I 35 26 = nI (yC S n D k)
def FR (I I' : ax_I) : Prop := ∀ r j, r ≠ 35 → r ≠ 36 → r ≠ 37 → r ≠ 38 → r ≠ 39 → r ≠ 40 → r ≠ 44 → I' r j = I r j
theorem FR_tr {I I1 I2 : ax_I} (h1 : FR I I1) (h2 : FR I1 I2) : FR I I2 := fun r j g1 g2 g3 g4 g5 g6 g7 => (h2 r j g1 g2 g3 g4 g5 g6 g7).trans (h1 r j g1 g2 g3 g4 g5 g6 g7)
theorem m_one {I : ax_I} {S : Nat → Nat} {n : Nat} {D : pD} {k : Nat} (hY : YM I S n D k) (hW : WF (yD S n D k)) (hG : AG S n (pos S n k)) (h0 : yWhy S n (yD S n D k) k = 0) (h27 : I 35 27 = nI k) (hk : k < 99) : ∃ I', F_X7_happen I (nI (aW S n (pos S n k))) (nI (aC S n (pos S n k))) (nI (aP S n (pos S n k))) (nI (aQ S n (pos S n k))) = some I' ∧ YM I' S n D (k + 1) ∧ FR I I' ∧ ∀ j, j ≠ 1 → j ≠ 24 → j ≠ 25 → j ≠ 26 → I' 35 j = I 35 j := by
  obtain ⟨hM, h24, h25, h26⟩ := hY
  obtain ⟨g1, g2, g3, g4⟩ := AB hG
  have wl := yw_le S n D k
  by_cases h : aW S n (pos S n k) = 6
  · obtain ⟨I', f1, f2, f3, f4, f5, f6, f7⟩ := m_feast hM hW g2 (nI (aP S n (pos S n k))) (nI (aQ S n (pos S n k))) h24 h25 h26 h27 (by omega)
    have eD : yD S n D (k + 1) = yD S n D k := by
      show yDo S n (yD S n D k) k = _
      unfold yDo pDo
      rw [h]
      rfl
    have eb : yb S n D k = !(sS (yD S n D k) (aC S n (pos S n k))) := by unfold yb; rw [h]; rfl
    refine ⟨I', by rw [h]; exact f1, ⟨?_, ?_, ?_, ?_⟩, fun r j q1 _ _ _ _ _ _ => f3 r j q1, fun j _ q2 q3 q4 => f4 j q2 q3 q4⟩
    · rw [eD]; exact f2
    · rw [f5, yF, if_pos h]
    · rw [f6, yw, eb]
      cases sS (yD S n D k) (aC S n (pos S n k)) <;> simp
    · rw [f7, yC, eb]
      cases sS (yD S n D k) (aC S n (pos S n k)) <;> simp
  · obtain ⟨I', f1, f2, f3, f4⟩ := m_do hM hW g1 h g2 g3 g4 h0
    have eb : yb S n D k = false := by unfold yb; rw [decide_eq_false h]; rfl
    refine ⟨I', f1, ⟨f2, ?_, ?_, ?_⟩, f3, fun j q1 _ _ _ => f4 j q1⟩
    · rw [f4 24 (by decide), h24, yF, if_neg h]; rfl
    · rw [f4 25 (by decide), h25, yw, eb, if_neg (fun q => by cases q.1)]
    · rw [f4 26 (by decide), h26, yC, eb, if_neg (by decide)]; rfl
def FJ (I I' : ax_I) : Prop := ∀ j, j ≠ 1 → j ≠ 24 → j ≠ 25 → j ≠ 26 → j ≠ 27 → j ≠ 30 → j ≠ 31 → I' 35 j = I 35 j
theorem FJ_tr {I I1 I2 : ax_I} (h1 : FJ I I1) (h2 : FJ I1 I2) : FJ I I2 := fun j g1 g2 g3 g4 g5 g6 g7 => (h2 j g1 g2 g3 g4 g5 g6 g7).trans (h1 j g1 g2 g3 g4 g5 g6 g7)
theorem APs_FR {I I' : ax_I} {S : Nat → Nat} {n a : Nat} (h : APs I S n a) (f : FR I I') : APs I' S n a := AP_k h (fun r j h1 h2 _ => f r j (by omega) (by omega) (by omega) (by omega) (by omega) (by omega) (by omega))
theorem m_years_l {S : Nat → Nat} {n : Nat} {D : pD} (hW : WF D) {K a : Nat} (hK : yS S n D K a) (ha : a ≤ 60) : ∀ (f m k : Nat) (I : ax_I), k + m = K → m + 1 < f → APs I S n a → I 35 23 = nI a → YM I S n D k → I 35 30 = -6 → I 35 31 = -6 → ∃ I', f_X7_goYears_30 f I (nI k) = some I' ∧ YM I' S n D K ∧ I' 35 30 = bA K a ∧ I' 35 31 = bW S n D K a ∧ FR I I' ∧ FJ I I'
  | 0, m, k, I, _, h, _, _, _, _, _ => by omega
  | f + 1, m + 1, k, I, hk, h, hA, h23, hY, h30, h31 => by
    have hka : k < a := by have := hK.2.1; omega
    obtain ⟨gG, r1, r2, r3, r4⟩ := hA k hka
    obtain ⟨g1, g2, g3, g4⟩ := AB gG
    have hWk := WF_y hW hK (fun j hj => (hA j hj).1) k (by omega)
    have hin : ax_in (nI k) 60 = true := p_in (by omega) (by decide)
    have hcl : (nI k).toNatClampNeg = k := p_cl (by omega)
    have h0 := hK.1 k (by omega)
    obtain ⟨I1, hI1⟩ : ∃ I1, I1 = ax_u I 35 27 (nI k) := ⟨_, rfl⟩
    have hM1 : MR I1 (yD S n D k) := by rw [hI1]; exact MR_off hY.1 (by omega)
    have b1 : I1 51 k = nI (aW S n (pos S n k)) := by rw [hI1, ax_u_n (by decide)]; exact r1
    have b2 : I1 52 k = nI (aC S n (pos S n k)) := by rw [hI1, ax_u_n (by decide)]; exact r2
    have b3 : I1 53 k = nI (aP S n (pos S n k)) := by rw [hI1, ax_u_n (by decide)]; exact r3
    have b4 : I1 54 k = nI (aQ S n (pos S n k)) := by rw [hI1, ax_u_n (by decide)]; exact r4
    have hy := m_why hM1 hWk g1 g2 g3 g4
    have h0' : pWhy (yD S n D k) (aW S n (pos S n k)) (aC S n (pos S n k)) (aP S n (pos S n k)) (aQ S n (pos S n k)) = 0 := h0
    rw [h0'] at hy
    obtain ⟨I3, hI3⟩ : ∃ I3, I3 = ax_u (ax_u I1 35 30 (-6)) 35 31 (-6) := ⟨_, rfl⟩
    have c3 : ∀ r j, r ≠ 35 → I3 r j = I r j := fun r j hr => by rw [hI3, ax_u_n hr, ax_u_n hr, hI1, ax_u_n hr]
    have d3 : ∀ j, j ≠ 27 → j ≠ 30 → j ≠ 31 → I3 35 j = I 35 j := fun j q1 q2 q3 => by rw [hI3, ax_u_nj q3, ax_u_nj q2, hI1, ax_u_nj q1]
    have hY3 : YM I3 S n D k := ⟨MR_eq hY.1 (fun r j q1 q2 => c3 r j (by omega)) (d3 0 (by decide) (by decide) (by decide)) (d3 1 (by decide) (by decide) (by decide)) (d3 16 (by decide) (by decide) (by decide)), (d3 24 (by decide) (by decide) (by decide)).trans hY.2.1, (d3 25 (by decide) (by decide) (by decide)).trans hY.2.2.1, (d3 26 (by decide) (by decide) (by decide)).trans hY.2.2.2⟩
    have h27 : I3 35 27 = nI k := by rw [hI3, ax_u_nj (by decide), ax_u_nj (by decide), hI1, ax_u_ss]
    obtain ⟨I4, i1, i2, i3, i4⟩ := m_one hY3 hWk gG h0 h27 (by omega)
    have k30 : I4 35 30 = -6 := by rw [i4 30 (by decide) (by decide) (by decide) (by decide), hI3, ax_u_nj (by decide), ax_u_ss]
    have k31 : I4 35 31 = -6 := by rw [i4 31 (by decide) (by decide) (by decide) (by decide), hI3, ax_u_ss]
    have k23 : I4 35 23 = nI a := by rw [i4 23 (by decide) (by decide) (by decide) (by decide), d3 23 (by decide) (by decide) (by decide)]; exact h23
    have f4 : FR I I4 := FR_tr (fun r j q1 _ _ _ _ _ _ => c3 r j q1) i3
    have j4 : FJ I I4 := fun j q1 q2 q3 q4 q5 q6 q7 => (i4 j q1 q2 q3 q4).trans (d3 j q5 q6 q7)
    obtain ⟨I', t1, t2, t3, t4, t5, t6⟩ := m_years_l hW hK ha f m (k + 1) I4 (by omega) (by omega) (APs_FR hA f4) k23 i2 k30 k31
    refine ⟨I', ?_, t2, t3, t4, FR_tr f4 t5, FJ_tr j4 t6⟩
    rw [f_X7_goYears_30, h23, if_neg (nI_ge (a := k) (b := a) hka (by omega)), h30, if_neg (by decide), if_pos hin, if_pos hin, if_pos hin, if_pos hin, hcl, ← hI1, b1, b2, b3, b4, hy, p_some, nI_0, if_pos (by decide), f_X7_goYears_90, if_pos (by decide), f_X7_goYears_104, if_pos rfl, if_pos hin, if_pos hin, if_pos hin, if_pos hin, ← hI3, hcl, c3 51 k (by decide), c3 52 k (by decide), c3 53 k (by decide), c3 54 k (by decide), r1, r2, r3, r4, i1, p_some, f_X7_goYears_139, nI_1]
    exact t1
  | f + 1, 0, k, I, hk, h, hA, h23, hY, h30, h31 => by
    have hkK : k = K := by omega
    subst hkK
    unfold bA bW
    by_cases hka : k < a
    · obtain ⟨gG, r1, r2, r3, r4⟩ := hA k hka
      obtain ⟨g1, g2, g3, g4⟩ := AB gG
      have hWk := WF_y hW hK (fun j hj => (hA j hj).1) k (Nat.le_refl _)
      have hin : ax_in (nI k) 60 = true := p_in (by omega) (by decide)
      have hcl : (nI k).toNatClampNeg = k := p_cl (by omega)
      have hne := hK.2.2 hka
      have hle : yWhy S n (yD S n D k) k ≤ 7 := pWhy_le _ _ _ _ _
      obtain ⟨I1, hI1⟩ : ∃ I1, I1 = ax_u I 35 27 (nI k) := ⟨_, rfl⟩
      have hM1 : MR I1 (yD S n D k) := by rw [hI1]; exact MR_off hY.1 (by omega)
      have b1 : I1 51 k = nI (aW S n (pos S n k)) := by rw [hI1, ax_u_n (by decide)]; exact r1
      have b2 : I1 52 k = nI (aC S n (pos S n k)) := by rw [hI1, ax_u_n (by decide)]; exact r2
      have b3 : I1 53 k = nI (aP S n (pos S n k)) := by rw [hI1, ax_u_n (by decide)]; exact r3
      have b4 : I1 54 k = nI (aQ S n (pos S n k)) := by rw [hI1, ax_u_n (by decide)]; exact r4
      have hy : F_X7_whyNot I1 (nI (aW S n (pos S n k))) (nI (aC S n (pos S n k))) (nI (aP S n (pos S n k))) (nI (aQ S n (pos S n k))) = some (nI (yWhy S n (yD S n D k) k)) := m_why hM1 hWk g1 g2 g3 g4
      have nle : ¬ nI (yWhy S n (yD S n D k) k) ≤ 0 := nI_nle (by omega) (by omega)
      have nz : ¬ nI (yWhy S n (yD S n D k) k) = 0 := nI_ne0 (by omega) (by omega)
      obtain ⟨I3, hI3⟩ : ∃ I3, I3 = ax_u (ax_u I1 35 30 (nI k)) 35 31 (nI (yWhy S n (yD S n D k) k)) := ⟨_, rfl⟩
      have c3 : ∀ r j, r ≠ 35 → I3 r j = I r j := fun r j hr => by rw [hI3, ax_u_n hr, ax_u_n hr, hI1, ax_u_n hr]
      have d3 : ∀ j, j ≠ 27 → j ≠ 30 → j ≠ 31 → I3 35 j = I 35 j := fun j q1 q2 q3 => by rw [hI3, ax_u_nj q3, ax_u_nj q2, hI1, ax_u_nj q1]
      have hY3 : YM I3 S n D k := ⟨MR_eq hY.1 (fun r j q1 q2 => c3 r j (by omega)) (d3 0 (by decide) (by decide) (by decide)) (d3 1 (by decide) (by decide) (by decide)) (d3 16 (by decide) (by decide) (by decide)), (d3 24 (by decide) (by decide) (by decide)).trans hY.2.1, (d3 25 (by decide) (by decide) (by decide)).trans hY.2.2.1, (d3 26 (by decide) (by decide) (by decide)).trans hY.2.2.2⟩
      have k30 : I3 35 30 = nI k := by rw [hI3, ax_u_nj (by decide), ax_u_ss]
      have k31 : I3 35 31 = nI (yWhy S n (yD S n D k) k) := by rw [hI3, ax_u_ss]
      rw [if_pos hka, if_pos hka]
      refine ⟨I3, ?_, hY3, k30, k31, fun r j q1 _ _ _ _ _ _ => c3 r j q1, fun j _ _ _ _ q5 q6 q7 => d3 j q5 q6 q7⟩
      rw [f_X7_goYears_30, h23, if_neg (nI_ge (a := k) (b := a) hka (by omega)), h30, if_neg (by decide), if_pos hin, if_pos hin, if_pos hin, if_pos hin, hcl, ← hI1, b1, b2, b3, b4, hy, p_some, if_neg nle, f_X7_goYears_90, if_neg nle, f_X7_goYears_104, if_neg nz, ← hI3, f_X7_goYears_139]
      obtain ⟨f', rfl⟩ : ∃ f', f = f' + 1 := ⟨f - 1, by omega⟩
      rw [f_X7_goYears_30, k30, if_pos (show (0 : Int32) ≤ nI k from nI_pos' (by omega))]
      split <;> rfl
    · have ea : k = a := by have := hK.2.1; omega
      rw [if_neg hka, if_neg hka]
      refine ⟨I, ?_, hY, h30, h31, fun _ _ _ _ _ _ _ _ _ => rfl, fun _ _ _ _ _ _ _ _ => rfl⟩
      rw [f_X7_goYears_30, h23, ea, if_pos (nI_le (Nat.le_refl a) (by omega))]
theorem m_years {S : Nat → Nat} {n : Nat} {D : pD} (hW : WF D) {K a : Nat} (hK : yS S n D K a) (ha : a ≤ 60) {I : ax_I} (hA : APs I S n a) (h23 : I 35 23 = nI a) (hM : MR I D) : ∃ I', F_X7_goYears I = some I' ∧ YM I' S n D K ∧ I' 35 30 = bA K a ∧ I' 35 31 = bW S n D K a ∧ FR I I' ∧ FJ I I' := by
  obtain ⟨I1, hI1⟩ : ∃ I1, I1 = ax_u (ax_u (ax_u (ax_u (ax_u I 35 30 (-6)) 35 31 (-6)) 35 24 0) 35 25 (-6)) 35 26 0 := ⟨_, rfl⟩
  have co : ∀ r j, r ≠ 35 → I1 r j = I r j := fun r j hr => by rw [hI1, ax_u_n hr, ax_u_n hr, ax_u_n hr, ax_u_n hr, ax_u_n hr]
  have cj : ∀ j, j ≠ 24 → j ≠ 25 → j ≠ 26 → j ≠ 30 → j ≠ 31 → I1 35 j = I 35 j := fun j q1 q2 q3 q4 q5 => by rw [hI1, ax_u_nj q3, ax_u_nj q2, ax_u_nj q1, ax_u_nj q5, ax_u_nj q4]
  have f0 : FR I I1 := fun r j q1 _ _ _ _ _ _ => co r j q1
  have j0 : FJ I I1 := fun j _ q2 q3 q4 _ q6 q7 => cj j q2 q3 q4 q6 q7
  have y0 : YM I1 S n D 0 := by
    refine ⟨MR_eq hM (fun r j q1 q2 => co r j (by omega)) (cj 0 (by decide) (by decide) (by decide) (by decide) (by decide)) (cj 1 (by decide) (by decide) (by decide) (by decide) (by decide)) (cj 16 (by decide) (by decide) (by decide) (by decide) (by decide)), ?_, ?_, ?_⟩
    · rw [hI1, ax_u_nj (by decide), ax_u_nj (by decide), ax_u_ss]; rfl
    · rw [hI1, ax_u_nj (by decide), ax_u_ss]; rfl
    · rw [hI1, ax_u_ss]; rfl
  have h30 : I1 35 30 = -6 := by rw [hI1, ax_u_nj (by decide), ax_u_nj (by decide), ax_u_nj (by decide), ax_u_nj (by decide), ax_u_ss]
  have h31 : I1 35 31 = -6 := by rw [hI1, ax_u_nj (by decide), ax_u_nj (by decide), ax_u_nj (by decide), ax_u_ss]
  obtain ⟨I', t1, t2, t3, t4, t5, t6⟩ := m_years_l hW hK ha ax_N K 0 I1 (by omega) (by have := hK.2.1; unfold ax_N; omega) (APs_FR hA f0) ((cj 23 (by decide) (by decide) (by decide) (by decide) (by decide)).trans h23) y0 h30 h31
  refine ⟨I', ?_, t2, t3, t4, FR_tr f0 t5, FJ_tr j0 t6⟩
  rw [F_X7_goYears, ← hI1]
  exact t1
/-! ===== refusal ===== -/
theorem m_ref_l {D : pD} (hW : WF D) : ∀ (f m : Nat) (I : ax_I), m ≤ 6 → m < f → MR I D → ∃ I', f_X7_refusal_32 f I (nI (6 - m)) = (F_X7_lay I' 55 77).bind (fun q71 => if (q71 35 30) < 0 then some ((-6), q71) else some ((-3), q71)) ∧ (∀ r j, r ≠ 56 → I' r j = I r j) ∧ (∀ j, j < 77 + (6 - m) → I' 56 j = I 56 j) ∧ (∀ c, 6 - m ≤ c → c < 6 → I' 56 (77 + c) = if sS D c = true then 1 else 0)
  | 0, m, I, _, h, _ => by omega
  | f + 1, 0, I, _, h, hM => by
    refine ⟨I, ?_, fun _ _ _ => rfl, fun _ _ => rfl, fun c h1 h2 => by omega⟩
    rw [f_X7_refusal_32, if_pos (by decide)]
  | f + 1, m + 1, I, hm, h, hM => by
    have e5 : 6 - (m + 1) + 1 = 6 - m := by omega
    have hlt : 6 - (m + 1) < 6 := by omega
    obtain ⟨k, hk2⟩ : ∃ k, k = 6 - (m + 1) := ⟨_, rfl⟩
    rw [← hk2] at hlt e5 ⊢
    have ng : ¬ (6 : Int32) ≤ nI k := nI_ge (a := k) (b := 6) hlt (by decide)
    have ea : (77 : Int32) + nI k = nI (77 + k) := nI_add 77 k
    have hi : ax_in (nI (77 + k)) 83 = true := p_in (by omega) (by decide)
    have hcl : (nI (77 + k)).toNatClampNeg = 77 + k := p_cl (by omega)
    have e : f_X7_refusal_32 (f + 1) I (nI k) = f_X7_refusal_32 f (ax_u I 56 (77 + k) (if sS D k = true then 1 else 0)) (nI (6 - m)) := by
      rw [f_X7_refusal_32, if_neg ng, m_saint hM hW (by omega), p_some, f_X7_refusal_59, f_X7_refusal_59, ea, if_pos hi, if_pos hi, hcl, nI_1, e5]
      cases sS D k
      · rfl
      · rfl
    obtain ⟨I', i1, i2, i3, i4⟩ := m_ref_l hW f m (ax_u I 56 (77 + k) (if sS D k = true then 1 else 0)) (by omega) (by omega) (MR_off hM (by omega))
    refine ⟨I', e.trans i1, fun r j hr => (i2 r j hr).trans (by rw [ax_u_n hr]), fun j hj => (i3 j (by omega)).trans (by rw [ax_u_nj (by omega)]), fun c h1 h2 => ?_⟩
    by_cases ec : c = k
    · rw [ec, i3 (77 + k) (by omega), ax_u_ss]
    · exact i4 c (by omega) h2
def FZ (I I' : ax_I) : Prop := (∀ r j, (r < 35 ∨ (r = 50) ∨ 57 ≤ r) → I' r j = I r j) ∧ I' 35 18 = I 35 18
theorem m_ref {I : ax_I} {n : Nat} {S : Nat → Nat} {D : pD} (hP : PM I n S) (hM : MR I D) (hW : WF D) : (∃ v I', v ≤ 60 ∧ ffk S n n 0 = nI v ∧ F_X7_refusal I = some (-5, I') ∧ MR I' D ∧ FZ I I') ∨ (ffk S n n 0 = -6 ∧ ∃ a K, a ≤ 60 ∧ pos S n a = n ∧ (∀ j, j < a → AG S n (pos S n j)) ∧ yS S n D K a ∧ ∃ I' I3, F_X7_refusal I = some (if K < a then -3 else -6, I') ∧ MR I' D ∧ FZ I I' ∧ I' 35 23 = nI a ∧ APs I' S n a ∧ I' 35 30 = bA K a ∧ I' 35 31 = bW S n D K a ∧ I' 35 24 = nI (yF S n K) ∧ I' 35 25 = hv (yw S n D K) ∧ I' 35 26 = nI (yC S n D K) ∧ MR I3 (yD S n D K) ∧ (∀ j, j < 77 → I' 56 j = svI I3 j) ∧ ∀ c, c < 6 → I' 56 (77 + c) = if sS (yD S n D K) c = true then 1 else 0) := by
  have hn := hP.2.1
  obtain ⟨I1, h1, h2, h3⟩ := m_ff hP
  have fz1 : FZ I I1 := ⟨fun r j hr => h2 r j (by omega) (by omega) (by omega) (by omega) (by omega), h2 35 18 (by decide) (by decide) (by decide) (by decide) (by decide)⟩
  have hM1 : MR I1 D := MR_eq hM (fun r j q1 q2 => h2 r j (by omega) (by omega) (by omega) (by omega) (by omega)) (h2 35 0 (by decide) (by decide) (by decide) (by decide) (by decide)) (h2 35 1 (by decide) (by decide) (by decide) (by decide) (by decide)) (h2 35 16 (by decide) (by decide) (by decide) (by decide) (by decide))
  rcases h3 with ⟨h3, a, h23, hA, hT⟩ | ⟨v, hv1, hv2⟩
  · right
    refine ⟨h3, ?_⟩
    have hpn : pos S n a = n := by
      rcases hT with q | q | q | q | q
      · exact q.2
      · exact absurd q.1 (by decide)
      · exact absurd q.1 (by decide)
      · exact absurd q.1 (by decide)
      · exact absurd q.1 (by decide)
    have ha : a ≤ 60 := by have := pos_ge S n a; omega
    have hG : ∀ j, j < a → AG S n (pos S n j) := fun j hj => (hA j hj).1
    obtain ⟨K, hK⟩ := yS_ex S n D a
    refine ⟨a, K, ha, hpn, hG, hK, ?_⟩
    obtain ⟨I2, s1, s2, s3⟩ := m_store (I := I1) (k1 := 55) (n1 := 77) (by decide) (by decide) (by decide)
    have hM2 : MR I2 D := MR_eq hM1 (fun r j q1 q2 => s2 r j (by omega)) (s2 35 0 (by decide)) (s2 35 1 (by decide)) (s2 35 16 (by decide))
    have hA2 : APs I2 S n a := AP_k hA (fun r j q1 q2 _ => s2 r j (by omega))
    obtain ⟨I3, y1, ⟨y2, y24, y25, y26⟩, y3, y4, y5, y6⟩ := m_years hW hK ha hA2 ((s2 35 23 (by decide)).trans h23) hM2
    obtain ⟨I4, t1, t2, t3⟩ := m_store (I := I3) (k1 := 56) (n1 := 83) (by decide) (by decide) (by decide)
    have hM4 : MR I4 (yD S n D K) := MR_eq y2 (fun r j q1 q2 => t2 r j (by omega)) (t2 35 0 (by decide)) (t2 35 1 (by decide)) (t2 35 16 (by decide))
    obtain ⟨I5, u1, u2, u3, u4⟩ := m_ref_l (WF_y hW hK hG K (Nat.le_refl _)) ax_N 6 I4 (by decide) (by decide) hM4
    obtain ⟨I6, l1, l2, l3⟩ := m_lay I5
    have z5 : ∀ r j, r ≠ 56 → I5 r j = I3 r j := fun r j hr => (u2 r j hr).trans (t2 r j hr)
    have q35 : ∀ j, j ≠ 1 → I6 35 j = I3 35 j := fun j hj => (l2.1 35 j (by decide) (by decide) (by decide) (by decide) (by decide) (by decide) (by omega)).trans (z5 35 j (by decide))
    have k30 : I6 35 30 = bA K a := (q35 30 (by decide)).trans y3
    have lt30 : (bA K a < 0) ↔ ¬ K < a := by
      unfold bA
      by_cases hka : K < a
      · rw [if_pos hka]; exact ⟨fun q => absurd q (nI_pos (by omega)), fun q => absurd hka q⟩
      · rw [if_neg hka]; exact ⟨fun _ => hka, fun _ => by decide⟩
    have hb55 : ∀ j, j < 77 → I5 55 j = svI I1 j := fun j hj => ((z5 55 j (by decide)).trans (y5 55 j (by decide) (by decide) (by decide) (by decide) (by decide) (by decide) (by decide))).trans (s3 j hj)
    have hfr : ∀ r j, r ≠ 35 → r ≠ 36 → r ≠ 37 → r ≠ 38 → r ≠ 39 → r ≠ 40 → r ≠ 44 → r ≠ 55 → r ≠ 56 → I5 r j = I1 r j := fun r j g1 g2 g3 g4 g5 g6 g7 g8 g9 => ((z5 r j g9).trans (y5 r j g1 g2 g3 g4 g5 g6 g7)).trans (s2 r j g8)
    have hj35 : ∀ j, j ≠ 1 → j ≠ 24 → j ≠ 25 → j ≠ 26 → j ≠ 27 → j ≠ 30 → j ≠ 31 → I6 35 j = I1 35 j := fun j g1 g2 g3 g4 g5 g6 g7 => ((q35 j g1).trans (y6 j g1 g2 g3 g4 g5 g6 g7)).trans (s2 35 j (by decide))
    have hM6 : MR I6 D := MR_lay hM1 hb55 l2 l3 (fun r j hr => hfr r j (by omega) (by omega) (by omega) (by omega) (by omega) (by omega) (by omega) (by omega) (by omega)) (((z5 35 0 (by decide)).trans (y6 0 (by decide) (by decide) (by decide) (by decide) (by decide) (by decide) (by decide))).trans (s2 35 0 (by decide))) (((z5 35 16 (by decide)).trans (y6 16 (by decide) (by decide) (by decide) (by decide) (by decide) (by decide) (by decide))).trans (s2 35 16 (by decide)))
    have hr6 : ∀ r j, r ≠ 35 → r ≠ 36 → r ≠ 37 → r ≠ 38 → r ≠ 39 → r ≠ 40 → r ≠ 44 → r ≠ 55 → r ≠ 56 → I6 r j = I1 r j := fun r j g1 g2 g3 g4 g5 g6 g7 g8 g9 => (l2.1 r j g2 g3 g4 g5 g6 g7 (by omega)).trans (hfr r j g1 g2 g3 g4 g5 g6 g7 g8 g9)
    have h56 : ∀ j, I6 56 j = I5 56 j := fun j => l2.1 56 j (by decide) (by decide) (by decide) (by decide) (by decide) (by decide) (by omega)
    refine ⟨I6, I3, ?_, hM6, ⟨?_, ?_⟩, ?_, ?_, k30, ?_, ?_, ?_, ?_, y2, ?_, ?_⟩
    · rw [F_X7_refusal, h1, p_some, h3, if_pos (show (-6 : Int32) < 0 by decide), s1, p_some, y1, p_some, t1, p_some]
      refine u1.trans ?_
      rw [l1, p_some, k30]
      by_cases hka : K < a
      · rw [if_neg (fun q => lt30.mp q hka), if_pos hka]
      · rw [if_pos (lt30.mpr hka), if_neg hka]
    · intro r j hr
      exact (hr6 r j (by omega) (by omega) (by omega) (by omega) (by omega) (by omega) (by omega) (by omega) (by omega)).trans (fz1.1 r j hr)
    · exact (hj35 18 (by decide) (by decide) (by decide) (by decide) (by decide) (by decide) (by decide)).trans fz1.2
    · exact (hj35 23 (by decide) (by decide) (by decide) (by decide) (by decide) (by decide) (by decide)).trans h23
    · exact AP_k hA (fun r j q1 q2 _ => hr6 r j (by omega) (by omega) (by omega) (by omega) (by omega) (by omega) (by omega) (by omega) (by omega))
    · exact (q35 31 (by decide)).trans y4
    · exact (q35 24 (by decide)).trans y24
    · exact (q35 25 (by decide)).trans y25
    · exact (q35 26 (by decide)).trans y26
    · intro j hj
      exact ((h56 j).trans (u3 j (by omega))).trans (t3 j hj)
    · intro c hc
      exact (h56 _).trans (u4 c (by omega) hc)
  · left
    refine ⟨v, I1, hv1, hv2, ?_, hM1, fz1⟩
    rw [F_X7_refusal, h1, p_some, hv2, if_neg (nI_pos (by omega))]
