theorem op28 : lw_op28 Inv := by
  intro a1 l E B lay I J hI
  have hLL := (inv_sz hI).2.2
  have hI0 := hI
  obtain ⟨g, ext, D, n, S, hlay, hext, hez, hC, hM, hW, hP, hIm⟩ := hI
  have n1 : ¬ (1 : Int32) = 0 := by decide
  rcases p_rng a1 1 (by decide) with ⟨k, hk, rfl⟩ | h1
  · have hK : (0 : Int32) ≤ nI k ∧ nI k ≤ 1 := p_rngT hk (by decide)
    have hin : ax_in (nI k) 2 = true := p_in (by omega) (by decide)
    have hcl : (nI k).toNatClampNeg = k := p_cl (by omega)
    rcases hIm.1 k (by omega) with ⟨g1, g2⟩ | ⟨b, Dk, g1, g2, g3, g4, g5, g6, g7, g8⟩
    · have m1 : F_X7_in I (nI k).toInt64 0 1 = some 1 := p_mT 0 1 hK rfl rfl
      have e2 : F_X7_restore I (nI k) = some (-3, I) := by rw [F_X7_restore, m1, p_some, if_neg n1, if_pos hin, hcl, if_pos g2]
      have e1 := M_X6_restore_no (l := l) (E := E) (B := B) (g := g) (ext := ext) (I := I) (J := J) (x1 := nI k) (p_wT hK) hin (by rw [hcl]; exact g1)
      rw [← hlay] at e1
      exact op_i e1 (M_X7_restore (J := J) hLL e2) (by decide) (by decide) hI0
    · obtain ⟨I9, hcp, hC9, h9⟩ := copy_ok (b := 1) (b2 := b) (I := I) (D := Dk) (by omega) g7 g5
      have e1 := M_X6_restore_yes (l := l) (E := E) (B := B) (g := g) (ext := ext) (I := I) (I9 := I9) (J := J) (x1 := nI k) (b := b) (p_wT hK) hin (by rw [hcl]; exact g1) (by rw [← hlay]; exact g4) hcp
      rw [← hlay] at e1
      have m1 : F_X7_in I9 (nI k).toInt64 0 1 = some 1 := p_mT 0 1 hK rfl rfl
      obtain ⟨I3, hI3⟩ : ∃ I3, I3 = ax_u (ax_u I9 35 36 (nI (160 * k))) 35 37 0 := ⟨_, rfl⟩
      have w0 : I3 35 37 = 0 := by rw [hI3, ax_u_ss]
      have w1 : I3 35 36 = nI (160 * k) := by rw [hI3, ax_u_nj (by decide), ax_u_ss]
      have w2 : ∀ r j, r ≠ 35 → I3 r j = I9 r j := fun r j h => by rw [hI3, ax_u_n h, ax_u_n h]
      obtain ⟨I4, hA, hR⟩ := all_r w0 w1 (by omega)
      have e2 : F_X7_restore I9 (nI k) = some (1, I4) := by
        rw [F_X7_restore, m1, p_some, if_neg n1, if_pos hin, hcl, h9 60 k (by omega), g8, if_neg n1, show 160 * nI k = nI (160 * k) from pk_mul 160 k, ← hI3, hA, p_some]
      have u1 : ∀ r j, (r < 35 ∨ 49 < r) → I4 r j = I9 r j := fun r j h => (hR.1 r j h).trans (w2 r j (by omega))
      have kr3 : KR I3 k Dk := by
        have e : ∀ j, I3 59 j = I 59 j := fun j => (w2 59 j (by decide)).trans (h9 59 j (by omega))
        unfold KR at g6 ⊢
        simp only [e]
        exact g6
      have p18 : I4 35 18 = I 35 18 := by
        rw [hR.2.1 18 (by decide) (by decide) (by decide) (by decide), hI3, ax_u_nj (by decide), ax_u_nj (by decide)]
        exact h9 35 18 (by omega)
      exact op_i e1 (M_X7_restore (J := J) hLL e2) (by decide) (by decide) ⟨g, ext, Dk, n, S, hlay, hext, hez, CR_eq hC9 (fun q j hq => u1 _ _ (by omega)), MR_r hR kr3 g7, g7, PR_eq hP ((u1 26 1 (by omega)).trans (h9 26 1 (by omega))) p18 (fun j => (u1 27 j (by omega)).trans (h9 27 j (by omega))) (fun j => (u1 50 j (by omega)).trans (h9 50 j (by omega))), Im_hi hIm (fun r j hr => (u1 r j (by omega)).trans (h9 r j (by omega)))⟩
  · have h1 : ¬ ((0 : Int32) ≤ a1 ∧ a1 ≤ 1) := h1
    have m1 : F_X7_in I a1.toInt64 0 1 = some 0 := p_mF 0 1 h1 rfl rfl
    have e2 : F_X7_restore I a1 = some (-2, I) := by rw [F_X7_restore, m1, p_some, if_pos rfl]
    exact op_i (M_X6_restore_out (p_wF h1)) (M_X7_restore (J := J) hLL e2) (by decide) (by decide) hI0
