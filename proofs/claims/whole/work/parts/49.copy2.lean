def cpT : Nat → Nat → Prop := (fun q j => ((((((((((((((((False ∨ (q = 0 ∧ j = 0)) ∨ (q = 0 ∧ j = 1)) ∨ (q = 0 ∧ j = 2)) ∨ (q = 0 ∧ j = 3)) ∨ (q = 0 ∧ j = 4)) ∨ (q = 1 ∧ j < 6)) ∨ (q = 2 ∧ j < 6)) ∨ (q = 3 ∧ j < 6)) ∨ (q = 4 ∧ j < 48)) ∨ (q = 5 ∧ j < 6)) ∨ (q = 6 ∧ j < 6)) ∨ (q = 7 ∧ j < 6)) ∨ (q = 8 ∧ j < 4)) ∨ (q = 9 ∧ j < 3)) ∨ (q = 10 ∧ j < 8)) ∨ (q = 11 ∧ j < 8)))
theorem cs173 {b b2 : Nat} {I0 : ax_I} (hd : b + 12 ≤ b2 ∨ b2 + 12 ≤ b) (I : ax_I) (h : CP b b2 I0 I (fun q j => ((((((((((((((False ∨ (q = 0 ∧ j = 0)) ∨ (q = 0 ∧ j = 1)) ∨ (q = 0 ∧ j = 2)) ∨ (q = 0 ∧ j = 3)) ∨ (q = 0 ∧ j = 4)) ∨ (q = 1 ∧ j < 6)) ∨ (q = 2 ∧ j < 6)) ∨ (q = 3 ∧ j < 6)) ∨ (q = 4 ∧ j < 48)) ∨ (q = 5 ∧ j < 6)) ∨ (q = 6 ∧ j < 6)) ∨ (q = 7 ∧ j < 6)) ∨ (q = 8 ∧ j < 4)) ∨ (q = 9 ∧ j < 3)))) : ∃ I2, f_X2_copyFrom_173 b b2 I = some I2 ∧ CP b b2 I0 I2 cpT := ⟨_, rfl, (cp_r hd 11 8 (by decide) (cp_r hd 10 8 (by decide) h))⟩
theorem cs145 {b b2 : Nat} {I0 : ax_I} (hd : b + 12 ≤ b2 ∨ b2 + 12 ≤ b) (I : ax_I) (h : CP b b2 I0 I (fun q j => ((((((((((((False ∨ (q = 0 ∧ j = 0)) ∨ (q = 0 ∧ j = 1)) ∨ (q = 0 ∧ j = 2)) ∨ (q = 0 ∧ j = 3)) ∨ (q = 0 ∧ j = 4)) ∨ (q = 1 ∧ j < 6)) ∨ (q = 2 ∧ j < 6)) ∨ (q = 3 ∧ j < 6)) ∨ (q = 4 ∧ j < 48)) ∨ (q = 5 ∧ j < 6)) ∨ (q = 6 ∧ j < 6)) ∨ (q = 7 ∧ j < 6)))) : ∃ I2, f_X2_copyFrom_145 b b2 I = some I2 ∧ CP b b2 I0 I2 cpT := cs173 hd _ (cp_r hd 9 3 (by decide) (cp_r hd 8 4 (by decide) h))
theorem cs115 {b b2 : Nat} {I0 : ax_I} (hd : b + 12 ≤ b2 ∨ b2 + 12 ≤ b) (I : ax_I) (h : CP b b2 I0 I (fun q j => ((((((((((False ∨ (q = 0 ∧ j = 0)) ∨ (q = 0 ∧ j = 1)) ∨ (q = 0 ∧ j = 2)) ∨ (q = 0 ∧ j = 3)) ∨ (q = 0 ∧ j = 4)) ∨ (q = 1 ∧ j < 6)) ∨ (q = 2 ∧ j < 6)) ∨ (q = 3 ∧ j < 6)) ∨ (q = 4 ∧ j < 48)) ∨ (q = 5 ∧ j < 6)))) : ∃ I2, f_X2_copyFrom_115 b b2 I = some I2 ∧ CP b b2 I0 I2 cpT := cs145 hd _ (cp_r hd 7 6 (by decide) (cp_r hd 6 6 (by decide) h))
theorem cs85 {b b2 : Nat} {I0 : ax_I} (hd : b + 12 ≤ b2 ∨ b2 + 12 ≤ b) (I : ax_I) (h : CP b b2 I0 I (fun q j => ((((((((False ∨ (q = 0 ∧ j = 0)) ∨ (q = 0 ∧ j = 1)) ∨ (q = 0 ∧ j = 2)) ∨ (q = 0 ∧ j = 3)) ∨ (q = 0 ∧ j = 4)) ∨ (q = 1 ∧ j < 6)) ∨ (q = 2 ∧ j < 6)) ∨ (q = 3 ∧ j < 6)))) : ∃ I2, f_X2_copyFrom_85 b b2 I = some I2 ∧ CP b b2 I0 I2 cpT := cs115 hd _ (cp_r hd 5 6 (by decide) (cp_r hd 4 48 (by decide) h))
theorem cs55 {b b2 : Nat} {I0 : ax_I} (hd : b + 12 ≤ b2 ∨ b2 + 12 ≤ b) (I : ax_I) (h : CP b b2 I0 I (fun q j => ((((((False ∨ (q = 0 ∧ j = 0)) ∨ (q = 0 ∧ j = 1)) ∨ (q = 0 ∧ j = 2)) ∨ (q = 0 ∧ j = 3)) ∨ (q = 0 ∧ j = 4)) ∨ (q = 1 ∧ j < 6)))) : ∃ I2, f_X2_copyFrom_55 b b2 I = some I2 ∧ CP b b2 I0 I2 cpT := cs85 hd _ (cp_r hd 3 6 (by decide) (cp_r hd 2 6 (by decide) h))
theorem cs24 {b b2 : Nat} {I0 : ax_I} (hd : b + 12 ≤ b2 ∨ b2 + 12 ≤ b) (I : ax_I) (h : CP b b2 I0 I (fun q j => (((False ∨ (q = 0 ∧ j = 0)) ∨ (q = 0 ∧ j = 1)) ∨ (q = 0 ∧ j = 2)))) : ∃ I2, f_X2_copyFrom_24 b b2 I = some I2 ∧ CP b b2 I0 I2 cpT := cs55 hd _ (cp_r hd 1 6 (by decide) (cp_u hd (cp_u hd h 3) 4))
theorem copy_s {b b2 : Nat} (hd : b + 12 ≤ b2 ∨ b2 + 12 ≤ b) (I : ax_I) : ∃ I2, F_X2_copyFrom I b b2 = some I2 ∧ CP b b2 I I2 cpT := cs24 hd _ (cp_u hd (cp_u hd (cp_u hd ⟨fun _ _ _ => rfl, fun _ _ _ h => h.elim⟩ 0) 1) 2)
theorem copy_ok {b b2 : Nat} {I : ax_I} {D : pD} (hd : b + 12 ≤ b2 ∨ b2 + 12 ≤ b) (hW : WF D) (hC : CR I b2 D) : ∃ I2, F_X2_copyFrom I b b2 = some I2 ∧ CR I2 b D ∧ ∀ r j, (r < b ∨ b + 12 ≤ r) → I2 r j = I r j := by
  obtain ⟨I2, h1, h2, h3⟩ := copy_s hd I
  have h8 := hW.2.2.1
  have g : ∀ q j, q ≤ 11 → cpT q j → I2 (b + q) j = I (b2 + q) j := h3
  refine ⟨I2, h1, ?_, h2⟩
  refine ⟨(g 0 0 (by omega) (by unfold cpT; omega)).trans hC.1, (g 0 1 (by omega) (by unfold cpT; omega)).trans hC.2.1, (g 0 2 (by omega) (by unfold cpT; omega)).trans hC.2.2.1, (g 0 3 (by omega) (by unfold cpT; omega)).trans hC.2.2.2.1, (g 0 4 (by omega) (by unfold cpT; omega)).trans hC.2.2.2.2.1, ?_, ?_, ?_, ?_, ?_, ?_, ?_, ?_, ?_, ?_, ?_⟩
  · exact fun j hj => (g 1 j (by omega) (by unfold cpT; omega)).trans (CR_won hC hj)
  · exact fun j hj => (g 2 j (by omega) (by unfold cpT; omega)).trans (CR_sin hC hj)
  · exact fun j hj => (g 3 j (by omega) (by unfold cpT; omega)).trans (CR_eye hC hj)
  · exact fun j hj => (g 4 j (by omega) (by unfold cpT; omega)).trans (CR_hold hC hj)
  · exact fun j hj => (g 5 j (by omega) (by unfold cpT; omega)).trans (CR_cost hC hj)
  · exact fun j hj => (g 6 j (by omega) (by unfold cpT; omega)).trans (CR_worth hC hj)
  · exact fun j hj => (g 7 j (by omega) (by unfold cpT; omega)).trans (CR_days hC hj)
  · exact fun j hj => (g 8 j (by omega) (by unfold cpT; omega)).trans (CR_purse hC hj)
  · exact fun j hj => (g 9 j (by omega) (by unfold cpT; omega)).trans (CR_rule hC hj)
  · exact fun j hj => (g 10 j (by omega) (by unfold cpT; omega)).trans (CR_saw hC hj)
  · exact fun j hj => (g 11 j (by omega) (by unfold cpT; omega)).trans (CR_life hC hj)
