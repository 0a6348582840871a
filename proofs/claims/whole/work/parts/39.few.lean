theorem few_s {I : ax_I} {D : pD} (hC : CR I 1 D) (hM : MR I D) (x1 x2 : Int32) (hx : x2 = 0 ∨ x2 = 1) : ∃ r, f_X6_fewest_32 ax_N I x1 x2 9 0 0 = some r ∧ f_X7_fewest_31 ax_N I x1 x2 (-6) 0 = some r := by
  have hf := few_l hC hM x1 x2 hx 256 ax_N 9 0 (-6) (by decide) (by decide) (.inl ⟨rfl, rfl⟩)
  rw [Nat.sub_self, nI_0] at hf
  exact hf
