theorem KR_w {I0 I2 : ax_I} {D : pD} {k : Nat} (h : WS I0 I2 (160 * k) 132) (hM : MR I0 D) (hW : WF D) : KR I2 k D := by
  have h8 := hW.2.2.1
  have g : ∀ (r o n : Nat), (∀ j, j < n → kr (o + j) = r ∧ kj (o + j) = j) → o + n ≤ 132 → ∀ j, j < n → I2 59 (160 * k + o + j) = I0 r j := by
    intro r o n hc ho j hj
    obtain ⟨c1, c2⟩ := hc j hj
    have q := h.2.2.1 (o + j) (by omega)
    rw [kv, c1, c2] at q
    rw [Nat.add_assoc]; exact q
  refine ⟨(h.2.2.1 0 (by decide)).trans hM.1, (h.2.2.1 1 (by decide)).trans hM.2.1, (h.2.2.1 2 (by decide)).trans hM.2.2.1, ?_, ?_, ?_, ?_, ?_, ?_, ?_, ?_, ?_, ?_, ?_, ?_, ?_, ?_⟩
  · exact fun j hj => (g 36 3 6 kc_36.1 (by decide) j (by omega)).trans (MR_won hM hj)
  · exact fun j hj => (g 37 9 6 kc_37.1 (by decide) j (by omega)).trans (MR_sin hM hj)
  · exact fun j hj => (g 38 15 6 kc_38.1 (by decide) j (by omega)).trans (MR_eye hM hj)
  · exact fun j hj => (g 39 21 6 kc_39.1 (by decide) j (by omega)).trans (MR_fal hM hj)
  · exact fun j hj => (g 40 27 48 kc_40.1 (by decide) j (by omega)).trans (MR_hold hM hj)
  · exact fun j hj => (g 41 75 6 kc_41.1 (by decide) j (by omega)).trans (MR_cost hM hj)
  · exact fun j hj => (g 42 81 6 kc_42.1 (by decide) j (by omega)).trans (MR_worth hM hj)
  · exact fun j hj => (g 43 87 6 kc_43.1 (by decide) j (by omega)).trans (MR_days hM hj)
  · exact fun j hj => (g 44 93 4 kc_44.1 (by decide) j (by omega)).trans (MR_purse hM hj)
  · exact fun j hj => (g 45 97 3 kc_45.1 (by decide) j (by omega)).trans (MR_rule hM hj)
  · exact fun j hj => (g 46 100 8 kc_46.1 (by decide) j (by omega)).trans (MR_saw hM hj)
  · exact fun j hj => (g 47 108 8 kc_47.1 (by decide) j (by omega)).trans (MR_sw hM hj)
  · exact fun j hj => (g 48 116 8 kc_48.1 (by decide) j (by omega)).trans (MR_ss hM hj)
  · exact fun j hj => (g 49 124 8 kc_49.1 (by decide) j (by omega)).trans (MR_st hM hj)
theorem MR_r {I0 I2 : ax_I} {D : pD} {k : Nat} (h : RS I0 I2 (160 * k) 132) (hK : KR I0 k D) (hW : WF D) : MR I2 D := by
  have h8 := hW.2.2.1
  have g : ∀ (r o n : Nat), (∀ j, j < n → kr (o + j) = r ∧ kj (o + j) = j) → o + n ≤ 132 → ∀ j, j < n → I2 r j = I0 59 (160 * k + o + j) := by
    intro r o n hc ho j hj
    obtain ⟨c1, c2⟩ := hc j hj
    have q := h.2.2.2 (o + j) (by omega)
    rw [kv, c1, c2] at q
    rw [Nat.add_assoc]; exact q
  obtain ⟨k0, k1, k2, m1, m2, m3, m4, m5, m6, m7, m8, m9, m10, m11, m12, m13, m14⟩ := hK
  refine ⟨(h.2.2.2 0 (by decide)).trans k0, (h.2.2.2 1 (by decide)).trans k1, (h.2.2.2 2 (by decide)).trans k2, ?_, ?_, ?_, ?_, ?_, ?_, ?_, ?_, ?_, ?_, ?_, ?_, ?_, ?_⟩
  · exact fun j hj => (g 36 3 6 kc_36.1 (by decide) j (by omega)).trans (m1 j hj)
  · exact fun j hj => (g 37 9 6 kc_37.1 (by decide) j (by omega)).trans (m2 j hj)
  · exact fun j hj => (g 38 15 6 kc_38.1 (by decide) j (by omega)).trans (m3 j hj)
  · exact fun j hj => (g 39 21 6 kc_39.1 (by decide) j (by omega)).trans (m4 j hj)
  · exact fun j hj => (g 40 27 48 kc_40.1 (by decide) j (by omega)).trans (m5 j hj)
  · exact fun j hj => (g 41 75 6 kc_41.1 (by decide) j (by omega)).trans (m6 j hj)
  · exact fun j hj => (g 42 81 6 kc_42.1 (by decide) j (by omega)).trans (m7 j hj)
  · exact fun j hj => (g 43 87 6 kc_43.1 (by decide) j (by omega)).trans (m8 j hj)
  · exact fun j hj => (g 44 93 4 kc_44.1 (by decide) j (by omega)).trans (m9 j hj)
  · exact fun j hj => (g 45 97 3 kc_45.1 (by decide) j (by omega)).trans (m10 j hj)
  · exact fun j hj => (g 46 100 8 kc_46.1 (by decide) j (by omega)).trans (m11 j hj)
  · exact fun j hj => (g 47 108 8 kc_47.1 (by decide) j (by omega)).trans (m12 j hj)
  · exact fun j hj => (g 48 116 8 kc_48.1 (by decide) j (by omega)).trans (m13 j hj)
  · exact fun j hj => (g 49 124 8 kc_49.1 (by decide) j (by omega)).trans (m14 j hj)
