/-! ===== the model's kept images ===== -/
/-- a row passed as far as i: written to the images (wr), or read from them -/
def PW (wr : Bool) (I0 I : ax_I) (k1 a i : Nat) : Prop :=
  (∀ r j, r ≠ 59 → r ≠ k1 → (r = 35 → j ≠ 36) → I r j = I0 r j) ∧ I 35 36 = nI (a + i) ∧
  (∀ j, j < i → I 59 (a + j) = (if wr then I0 k1 j else I0 59 (a + j)) ∧ I k1 j = (if wr then I0 k1 j else I0 59 (a + j))) ∧
  (∀ j, (j < a ∨ a + i ≤ j) → I 59 j = I0 59 j) ∧ (∀ j, i ≤ j → I k1 j = I0 k1 j)
theorem m_pass {I : ax_I} {x : Int32} {a : Nat} (wr : Bool) (hw : I 35 37 = b01 wr) (ha : I 35 36 = nI a) (hl : a < 320) : F_X7_pass I x = some (if wr then x else I 59 a, ax_u (ax_u I 59 a (if wr then x else I 59 a)) 35 36 (nI (a + 1))) := by
  have hi : ax_in (nI a) 320 = true := p_in (by omega) (by decide)
  have hcl : (nI a).toNatClampNeg = a := p_cl (by omega)
  have e : ∀ v, (ax_u I 59 a v) 35 36 = nI a := fun v => by rw [ax_u_n (by decide)]; exact ha
  have e2 : ∀ v, f_X7_pass_20 I v = some (v, ax_u (ax_u I 59 a v) 35 36 (nI (a + 1))) := by
    intro v
    rw [f_X7_pass_20, ha, if_pos hi, hcl, e, nI_1]
  rw [F_X7_pass, hw, ha, if_pos hi, hcl, e2, e2]
  cases wr
  · rw [if_pos (show b01 false = 0 from rfl)]; rfl
  · rw [if_neg (show ¬ b01 true = 0 from by decide)]; rfl
theorem m_row_l {I0 : ax_I} {k1 n1 a : Nat} (wr : Bool) (hk : k1 ≠ 35 ∧ k1 ≠ 59) (hw : I0 35 37 = b01 wr) (hl : a + n1 ≤ 320) : ∀ (f m : Nat) (I : ax_I), m ≤ n1 → m < f → PW wr I0 I k1 a (n1 - m) → ∃ I', f_X7_passRow_2 k1 n1 f I (nI n1) (nI (n1 - m)) = some I' ∧ PW wr I0 I' k1 a n1
  | 0, m, I, _, h, _ => by omega
  | f + 1, 0, I, _, h, hP => by
    refine ⟨I, ?_, hP⟩
    rw [f_X7_passRow_2, if_pos (nI_le (by omega) (by omega))]
  | f + 1, m + 1, I, hm, h, hP => by
    have e5 : n1 - (m + 1) + 1 = n1 - m := by omega
    obtain ⟨i, hi'⟩ : ∃ i, i = n1 - (m + 1) := ⟨_, rfl⟩
    rw [← hi'] at e5 hP ⊢
    obtain ⟨p1, p2, p3, p4, p5⟩ := hP
    have hi : ax_in (nI i) n1 = true := p_in (by omega) (by omega)
    have hcl : (nI i).toNatClampNeg = i := p_cl (by omega)
    have hw1 : I 35 37 = b01 wr := (p1 35 37 (by decide) (fun h => hk.1 h.symm) (by omega)).trans hw
    rw [f_X7_passRow_2, if_neg (nI_ge (by omega) (by omega)), if_pos hi, hcl, m_pass wr hw1 p2 (by omega), p_some, if_pos hi, nI_1, e5]
    obtain ⟨v, hv⟩ : ∃ v, v = (if wr then I k1 i else I 59 (a + i)) := ⟨_, rfl⟩
    have hv0 : v = (if wr then I0 k1 i else I0 59 (a + i)) := by rw [hv, p5 i (Nat.le_refl _), p4 (a + i) (by omega)]
    simp only [← hv]
    apply m_row_l wr hk hw hl f m _ (by omega) (by omega)
    rw [← e5]
    refine ⟨?_, ?_, ?_, ?_, ?_⟩
    · intro r j h1 h2 h3
      rw [ax_u_n h2, ax_u_at, if_neg (by omega), ax_u_n h1]
      exact p1 r j h1 h2 h3
    · rw [ax_u_n (fun h => hk.1 h.symm), ax_u_ss]; rfl
    · intro j hj
      by_cases e : j = i
      · rw [e, ax_u_ss, ax_u_n (fun h => hk.2 h.symm), ax_u_n (by decide), ax_u_ss]
        exact ⟨hv0, hv0⟩
      · obtain ⟨g1, g2⟩ := p3 j (by omega)
        rw [ax_u_n (fun h => hk.2 h.symm), ax_u_n (by decide), ax_u_nj (by omega), ax_u_nj e, ax_u_n hk.1, ax_u_n hk.2]
        exact ⟨g1, g2⟩
    · intro j hj
      rw [ax_u_n (fun h => hk.2 h.symm), ax_u_n (by decide), ax_u_nj (by omega)]
      exact p4 j (by omega)
    · intro j hj
      rw [ax_u_nj (by omega), ax_u_n hk.1, ax_u_n hk.2]
      exact p5 j (by omega)
