theorem few_s {I : ax_I} {D : pD} (hC : CR I 1 D) (hM : MR I D) (x1 x2 : Int32) (hx : x2 = 0 ∨ x2 = 1) : ∃ r, f_X6_fewest_32 ax_N I x1 x2 9 0 0 = some r ∧ f_X7_fewest_31 ax_N I x1 x2 (-6) 0 = some r := by
  have hf := few_l hC hM x1 x2 hx 256 ax_N 9 0 (-6) (by decide) (by decide) (.inl ⟨rfl, rfl⟩)
  rw [Nat.sub_self, nI_0] at hf
  exact hf
theorem few_r {I : ax_I} {D : pD} (hC : CR I 1 D) (hM : MR I D) (a1 a2 : Int32) (h1 : (0 : Int32) ≤ a1 ∧ a1 ≤ 1023) : ∃ r, F_X6_fewest I a1 a2 = some r ∧ F_X7_fewest I a1 a2 = some r := by
  have m1 : F_X7_in I a1.toInt64 0 1023 = some 1 := p_mT 0 1023 h1 rfl rfl
  by_cases h2 : (0 : Int32) ≤ a2 ∧ a2 ≤ 1
  · have m2 : F_X7_in I a2.toInt64 0 1 = some 1 := p_mT 0 1 h2 rfl rfl
    have hx : a2 = 0 ∨ a2 = 1 := by
      rcases p_rng a2 1 (by decide) with ⟨w, hw, rfl⟩ | h3
      · rcases (show w = 0 ∨ w = 1 by omega) with rfl | rfl
        · exact .inl nI_0
        · exact .inr (by decide)
      · exact absurd h2 h3
    obtain ⟨r, p, q⟩ := few_s hC hM a1 a2 hx
    refine ⟨r, ?_, ?_⟩
    · rw [F_X6_fewest, p_wT h1, p_some, if_neg (by decide), p_wT h2, p_some, if_neg (by decide)]; exact p
    · rw [F_X7_fewest, m1, p_some, if_neg (by decide), m2, p_some, if_neg (by decide)]; exact q
  · have m2 : F_X7_in I a2.toInt64 0 1 = some 0 := p_mF 0 1 h2 rfl rfl
    have e1 : F_X6_fewest I a1 a2 = some (-2) := by simp only [F_X6_fewest, p_wT h1, p_wF h2, p_some, p10, if_false, if_true]
    have e2 : F_X7_fewest I a1 a2 = some (-2) := by simp only [F_X7_fewest, m1, m2, p_some, p10, if_false, if_true]
    exact ⟨_, e1, e2⟩
theorem op18 : lw_op18 Inv := by
  intro a1 a2 l E B lay I J hI
  have hLL := (inv_sz hI).2.2
  have hI0 := hI
  obtain ⟨g, ext, D, n, S, hlay, hext, hez, hC, hM, hW, hP, hIm⟩ := hI
  have h : ∃ r, F_X6_fewest I a1 a2 = some r ∧ F_X7_fewest I a1 a2 = some r := by
    by_cases h1 : (0 : Int32) ≤ a1 ∧ a1 ≤ 1023
    · exact few_r hC hM a1 a2 h1
    · have m1 : F_X7_in I a1.toInt64 0 1023 = some 0 := p_mF 0 1023 h1 rfl rfl
      have e1 : F_X6_fewest I a1 a2 = some (-2) := by simp only [F_X6_fewest, p_wF h1, p_some, if_true]
      have e2 : F_X7_fewest I a1 a2 = some (-2) := by simp only [F_X7_fewest, m1, p_some, if_true]
      exact ⟨_, e1, e2⟩
  obtain ⟨r, e1, e2⟩ := h
  exact op_i (M_X6_fewest hLL e1) (M_X7_fewest (J := J) hLL e2) (by decide) (by decide) hI0
