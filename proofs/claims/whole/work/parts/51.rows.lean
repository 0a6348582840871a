theorem m_row {I : ax_I} {k1 n1 a : Nat} (wr : Bool) (hk : k1 ≠ 35 ∧ k1 ≠ 59) (hw : I 35 37 = b01 wr) (ha : I 35 36 = nI a) (hl : a + n1 ≤ 320) (hn : n1 ≤ 48) : ∃ I', F_X7_passRow I k1 n1 (nI n1) = some I' ∧ PW wr I I' k1 a n1 := by
  have h := m_row_l (I0 := I) wr hk hw hl ax_N n1 I (Nat.le_refl _) (by unfold ax_N; omega) (by
    rw [Nat.sub_self]
    exact ⟨fun _ _ _ _ _ => rfl, ha, fun j hj => absurd hj (by omega), fun _ _ => rfl, fun _ _ => rfl⟩)
  rw [Nat.sub_self, nI_0] at h
  exact h
/-- a row written to the images -/
theorem row_w {I : ax_I} {k1 n1 a : Nat} (hk : k1 ≠ 35 ∧ k1 ≠ 59) (hw : I 35 37 = 1) (ha : I 35 36 = nI a) (hl : a + n1 ≤ 320) (hn : n1 ≤ 48) : ∃ I', F_X7_passRow I k1 n1 (nI n1) = some I' ∧ (∀ r j, r ≠ 59 → ¬ (r = 35 ∧ j = 36) → I' r j = I r j) ∧ I' 35 36 = nI (a + n1) ∧ (∀ j, j < n1 → I' 59 (a + j) = I k1 j) ∧ (∀ j, (j < a ∨ a + n1 ≤ j) → I' 59 j = I 59 j) := by
  obtain ⟨I', h, p1, p2, p3, p4, p5⟩ := m_row true hk hw ha hl hn
  refine ⟨I', h, ?_, p2, fun j hj => (p3 j hj).1, p4⟩
  intro r j h1 h2
  by_cases e : r = k1
  · rw [e]
    by_cases hj : j < n1
    · exact (p3 j hj).2
    · exact p5 j (by omega)
  · exact p1 r j h1 e (fun h3 h4 => h2 ⟨h3, h4⟩)
/-- a row read from the images -/
theorem row_r {I : ax_I} {k1 n1 a : Nat} (hk : k1 ≠ 35 ∧ k1 ≠ 59) (hw : I 35 37 = 0) (ha : I 35 36 = nI a) (hl : a + n1 ≤ 320) (hn : n1 ≤ 48) : ∃ I', F_X7_passRow I k1 n1 (nI n1) = some I' ∧ (∀ r j, r ≠ k1 → ¬ (r = 35 ∧ j = 36) → I' r j = I r j) ∧ I' 35 36 = nI (a + n1) ∧ (∀ j, j < n1 → I' k1 j = I 59 (a + j)) ∧ (∀ j, n1 ≤ j → I' k1 j = I k1 j) := by
  obtain ⟨I', h, p1, p2, p3, p4, p5⟩ := m_row false hk hw ha hl hn
  refine ⟨I', h, ?_, p2, fun j hj => (p3 j hj).2, p5⟩
  intro r j h1 h2
  by_cases e : r = 59
  · rw [e]
    by_cases hj : a ≤ j ∧ j < a + n1
    · have g := (p3 (j - a) (by omega)).1
      rw [show a + (j - a) = j by omega] at g
      exact g
    · exact p4 j (by omega)
  · exact p1 r j e h1 (fun h3 h4 => h2 ⟨h3, h4⟩)
