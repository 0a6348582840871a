/-! ===== find ===== -/
def FI (D : pD) (I0 I : ax_I) (k : Nat) : Prop := (∀ r j, r ≠ 33 → r ≠ 34 → I r j = I0 r j) ∧ I 33 1 = nI (cf D k) ∧ ∀ q, q < k → ft D q = true → I 34 (cf D q) = nI q
theorem p_ge100 {k : Nat} (h : k < 100) : ¬ (100 : Int32) ≤ nI k := nI_ge (a := k) (b := 100) h (by decide)
theorem find_l {I0 : ax_I} {D : pD} (hC : CR I0 1 D) (hW : WF D) : ∀ (n m : Nat) (I : ax_I), m ≤ 100 → m < n → FI D I0 I (100 - m) → ∃ I', f_X3_find_7 1 n I (nI (100 - m)) = some I' ∧ FI D I0 I' 100
  | 0, m, I, _, h, _ => by omega
  | n + 1, 0, I, _, h, hF => by
    refine ⟨I, ?_, hF⟩
    rw [f_X3_find_7, if_pos (by decide)]
  | n + 1, m + 1, I, hm, h, hF => by
    have e5 : 100 - (m + 1) + 1 = 100 - m := by omega
    have hlt : 100 - (m + 1) < 100 := by omega
    obtain ⟨k, hk⟩ : ∃ k, k = 100 - (m + 1) := ⟨_, rfl⟩
    rw [← hk] at hF hlt e5 ⊢
    obtain ⟨f1, f2, f3⟩ := hF
    have hC1 : CR I 1 D := CR_eq hC (fun q j hq => f1 _ _ (by omega) (by omega))
    have hcf := cf_le D k
    have hi : ax_in (nI (cf D k)) 100 = true := p_in (by omega) (by decide)
    have hcl : (nI (cf D k)).toNatClampNeg = cf D k := p_cl (by omega)
    rw [f_X3_find_7, if_neg (p_ge100 hlt), x_ft hC1 hW hlt, p_some]
    by_cases hf : ft D k = true
    · rw [if_pos hf, if_neg (show ¬ (1 : Int32) = 0 from by decide), f2, if_pos hi, hcl, f_X3_find_41, nI_1, e5]
      apply find_l hC hW n m _ (by omega) (by omega)
      rw [← e5]
      have g1 : (ax_u I 34 (cf D k) (nI k)) 33 1 = nI (cf D k) := by rw [ax_u_n (by decide)]; exact f2
      rw [g1, nI_1]
      refine ⟨?_, ?_, ?_⟩
      · intro r j h1 h2
        rw [ax_u_n h1, ax_u_n h2]; exact f1 r j h1 h2
      · rw [ax_u_ss, cf, if_pos hf]
      · intro q hq hfq
        rw [ax_u_n (by decide)]
        by_cases hqk : q = k
        · rw [hqk, ax_u_ss]
        · have h1 := f3 q (by omega) hfq
          have h2 : cf D (q + 1) ≤ cf D k := cf_mono D _ _ (by omega)
          rw [cf, if_pos hfq] at h2
          rw [ax_u_nj (by omega)]; exact h1
    · rw [if_neg hf, if_pos rfl, f_X3_find_41, nI_1, e5]
      apply find_l hC hW n m _ (by omega) (by omega)
      rw [← e5]
      refine ⟨f1, ?_, ?_⟩
      · rw [f2, cf, if_neg hf]; rfl
      · intro q hq hfq
        by_cases hqk : q = k
        · rw [hqk] at hfq; exact absurd hfq hf
        · exact f3 q (by omega) hfq
theorem find_s {I : ax_I} {D : pD} (hC : CR I 1 D) (hW : WF D) : ∃ I', F_X3_find I 1 = some I' ∧ FI D I I' 100 := by
  have hC1 : CR I 1 D := hC
  have h := find_l hC hW ax_N 100 (ax_u I 33 1 0) (by decide) (by decide) ⟨fun r j h1 h2 => by rw [ax_u_n h1], by rw [ax_u_ss]; rfl, fun q hq => by omega⟩
  rw [Nat.sub_self, nI_0] at h
  exact h
theorem FI_inv {B : Nat} {lay : List ax_S} {I I2 : ax_I} {J : ax_J} {D : pD} (h : Inv B lay I J) (hF : FI D I I2 100) : Inv B lay I2 J := Inv_fr h (fun r j hr => hF.1 r j (by omega) (by omega)) (hF.1 _ _ (by omega) (by omega)) (hF.1 _ _ (by omega) (by omega)) (hF.1 _ _ (by omega) (by omega)) (hF.1 _ _ (by omega) (by omega))
/-! ===== laws ===== -/
theorem laws_at {I : ax_I} {D : pD} (hM : MR I D) (hW : WF D) {i : Nat} (hi : i < cf D 100) : ∀ (n m : Nat), m ≤ 100 → m < n → cf D (100 - m) ≤ i → ∃ q, q < 100 ∧ ft D q = true ∧ cf D q = i ∧ f_X7_laws_4 n I (nI i) (nI (cf D (100 - m))) (nI (100 - m)) = some (nI q)
  | 0, m, _, h, _ => by omega
  | n + 1, 0, _, h, hc => by
    rw [Nat.sub_zero] at hc; omega
  | n + 1, m + 1, hm, h, hc => by
    have e5 : 100 - (m + 1) + 1 = 100 - m := by omega
    have hlt : 100 - (m + 1) < 100 := by omega
    obtain ⟨k, hk⟩ : ∃ k, k = 100 - (m + 1) := ⟨_, rfl⟩
    rw [← hk] at hc hlt e5 ⊢
    have h100 := cf_le D 100
    have hcf := cf_le D k
    have ih := laws_at hM hW hi n m (by omega) (by omega)
    rw [← e5] at ih
    by_cases hf : ft D k = true
    · rw [cf, if_pos hf] at ih
      by_cases he : cf D k = i
      · refine ⟨k, hlt, hf, he, ?_⟩
        rw [f_X7_laws_4, if_neg (p_ge100 hlt), m_ft hM hW hlt, p_some, if_pos hf, if_neg (show ¬ (1 : Int32) = 0 from by decide), he, if_pos rfl]
      · obtain ⟨q, q1, q2, q3, q4⟩ := ih (by omega)
        refine ⟨q, q1, q2, q3, ?_⟩
        rw [f_X7_laws_4, if_neg (p_ge100 hlt), m_ft hM hW hlt, p_some, if_pos hf, if_neg (show ¬ (1 : Int32) = 0 from by decide), if_neg (fun e => he ((nI_eq (by omega) (by omega)).mp e)), f_X7_laws_28, nI_1, nI_1]
        exact q4
    · rw [cf, if_neg hf, Nat.add_zero] at ih
      obtain ⟨q, q1, q2, q3, q4⟩ := ih hc
      refine ⟨q, q1, q2, q3, ?_⟩
      rw [f_X7_laws_4, if_neg (p_ge100 hlt), m_ft hM hW hlt, p_some, if_neg hf, if_pos rfl, f_X7_laws_28, nI_1]
      exact q4
theorem laws_no {I : ax_I} {D : pD} (hM : MR I D) (hW : WF D) {x : Int32} (hx : ∀ i, i < cf D 100 → x ≠ nI i) : ∀ (n m : Nat), m ≤ 100 → m < n → f_X7_laws_4 n I x (nI (cf D (100 - m))) (nI (100 - m)) = if x = (-1) then some (nI (cf D 100)) else some (-6)
  | 0, m, _, h => by omega
  | n + 1, 0, _, h => by
    rw [f_X7_laws_4, if_pos (show (100 : Int32) ≤ nI (100 - 0) from by decide)]
  | n + 1, m + 1, hm, h => by
    have e5 : 100 - (m + 1) + 1 = 100 - m := by omega
    have hlt : 100 - (m + 1) < 100 := by omega
    obtain ⟨k, hk⟩ : ∃ k, k = 100 - (m + 1) := ⟨_, rfl⟩
    rw [← hk] at hlt e5 ⊢
    have ih := laws_no hM hW hx n m (by omega) (by omega)
    rw [← e5] at ih
    by_cases hf : ft D k = true
    · rw [cf, if_pos hf] at ih
      have h2 : cf D (k + 1) ≤ cf D 100 := cf_mono D _ _ (by omega)
      rw [cf, if_pos hf] at h2
      rw [f_X7_laws_4, if_neg (p_ge100 hlt), m_ft hM hW hlt, p_some, if_pos hf, if_neg (show ¬ (1 : Int32) = 0 from by decide), if_neg (fun e => hx (cf D k) (by omega) e.symm), f_X7_laws_28, nI_1, nI_1]
      exact ih
    · rw [cf, if_neg hf, Nat.add_zero] at ih
      rw [f_X7_laws_4, if_neg (p_ge100 hlt), m_ft hM hW hlt, p_some, if_neg hf, if_pos rfl, f_X7_laws_28, nI_1]
      exact ih
theorem op24 : lw_op24 Inv := by
  intro a1 l E B lay I J hI
  have hLL := (inv_sz hI).2.2
  have hI0 := hI
  obtain ⟨g, ext, D, n, S, hlay, hext, hez, hC, hM, hW, hP', hIm⟩ := hI
  obtain ⟨I1, hfd, hF⟩ := find_s hC hW
  have hI1 := FI_inv hI0 hF
  have hM1 : MR I1 D := MR_eq hM (fun r j _ _ => hF.1 r j (by omega) (by omega)) (hF.1 _ _ (by omega) (by omega)) (hF.1 _ _ (by omega) (by omega)) (hF.1 _ _ (by omega) (by omega))
  obtain ⟨f1, f2, f3⟩ := hF
  have h100 := cf_le D 100
  have h : ∃ r, F_X6_laws I a1 = some (r, I1) ∧ F_X7_laws I1 a1 = some r := by
    by_cases hx : ∀ i, i < cf D 100 → a1 ≠ nI i
    · have e := laws_no hM1 hW hx ax_N 100 (by decide) (by decide)
      rw [Nat.sub_self, nI_0] at e
      by_cases hm1 : a1 = (-1)
      · rw [if_pos hm1] at e
        refine ⟨nI (cf D 100), ?_, e⟩
        rw [F_X6_laws, hfd, p_some, if_pos hm1, f2]
      · rw [if_neg hm1] at e
        refine ⟨-6, ?_, e⟩
        have hw : ¬ ((0 : Int32) ≤ a1 ∧ a1 ≤ nI (cf D 100) - 1) := by
          rintro ⟨h0, h1⟩
          obtain ⟨j, hj, rfl⟩ := nI_of (x := a1) (fun h => by
            rw [p_lt] at h; rw [p_le] at h0; omega)
          rw [p_le, show nI (cf D 100) - 1 = nI (cf D 100) - nI 1 from rfl, pk_sub_toInt (by omega) (by decide), nI_toInt hj] at h1
          exact hx j (by omega) rfl
        rw [F_X6_laws, hfd, p_some, if_neg hm1, f2, p_wF hw, p_some, if_pos rfl]
    · have hx : ∃ i, i < cf D 100 ∧ a1 = nI i := by
        apply Classical.byContradiction
        intro hn
        exact hx (fun i hi e => hn ⟨i, hi, e⟩)
      obtain ⟨i, hi, rfl⟩ := hx
      obtain ⟨q, q1, q2, q3, q4⟩ := laws_at hM1 hW hi ax_N 100 (by decide) (by decide) (by rw [Nat.sub_self]; exact Nat.zero_le _)
      rw [Nat.sub_self] at q4
      have q4 : f_X7_laws_4 ax_N I1 (nI i) 0 0 = some (nI q) := q4
      refine ⟨nI q, ?_, q4⟩
      have hm1 : ¬ nI i = (-1) := by
        intro e
        have e := congrArg Int32.toInt e
        rw [nI_toInt (by omega), show ((-1 : Int32)).toInt = -1 from by decide] at e
        omega
      have hw : (0 : Int32) ≤ nI i ∧ nI i ≤ nI (cf D 100) - 1 := by
        refine ⟨nI_pos' (by omega), ?_⟩
        rw [show nI (cf D 100) - 1 = nI (cf D 100 - 1) from pk_sub (b := 1) (by omega)]
        exact nI_le (by omega) (by omega)
      have hin : ax_in (nI i) 100 = true := p_in (by omega) (by decide)
      have hcl : (nI i).toNatClampNeg = i := p_cl (by omega)
      rw [F_X6_laws, hfd, p_some, if_neg hm1, f2, p_wT hw, p_some, if_neg (show ¬ (1 : Int32) = 0 from by decide), if_pos hin, hcl, ← q3, f3 q q1 q2]
  obtain ⟨r, e1, e2⟩ := h
  exact op_i (M_X6_laws hLL e1) (M_X7_laws (J := J) hLL e2) (by decide) (by decide) hI1
