theorem TI_inv {B : Nat} {lay : List ax_S} {I I2 : ax_I} {J : ax_J} {D : pD} {c n t p q : Nat} (h : Inv B lay I J) (hT : TI D c n I I2 t p q) : Inv B lay I2 J := Inv_fr h (fun r j hr => hT.1 r j (by omega)) (hT.1 _ _ (by omega)) (hT.1 _ _ (by omega)) (hT.1 _ _ (by omega)) (hT.1 _ _ (by omega))
theorem b01_0 (b : Bool) : (b01 b = 0) ↔ b = false := by cases b <;> decide
theorem riv_e {I : ax_I} {D : pD} (hC : CR I 1 D) (hM : MR I D) (hW : WF D) {c n k : Nat} (hc : c ≤ 5) (hn : n ≤ 12) (hk : k ≤ 1) (h1 : bb (D 0 0) c = 1) (h2 : bb (D 0 3) c = 0) : ∃ r I2, F_X6_rivals I (nI c) (nI n) (nI k) = some r ∧ F_X7_rivals I (nI c) (nI n) (nI k) = some (r, I2) ∧ TI D c n I I2 0 7 0 := by
  obtain ⟨I2, hT, hE⟩ := m_ends hM hW hc hn
  have tC := x_there hC hW hc
  have tM := m_there hM hW hc
  have fC := x_fallen hC hW hc
  rw [h1] at tC tM fC
  rw [h2, Nat.mul_zero] at fC
  have fM : I 39 c = nI (bb (D 0 3) c) := MR_fal hM (by omega)
  rw [h2] at fM
  have q1 : ¬ nI 1 = 0 := by decide
  have n1 : ¬ (1 : Int32) = 0 := by decide
  have hN : (0 : Int32) ≤ nI n ∧ nI n ≤ 12 := p_rngT hn (by decide)
  have hK : (0 : Int32) ≤ nI k ∧ nI k ≤ 1 := p_rngT hk (by decide)
  have mN : F_X7_in I (nI n).toInt64 0 12 = some 1 := p_mT 0 12 hN rfl rfl
  have mK : F_X7_in I (nI k).toInt64 0 1 = some 1 := p_mT 0 1 hK rfl rfl
  have hi : ax_in (nI c) 6 = true := p_in (by omega) (by decide)
  have hcl : (nI c).toNatClampNeg = c := p_cl (by omega)
  have z0 : (0 : Int32).toNatClampNeg = 0 := by decide
  have cw : I 2 c = nI (D 1 c) := CR_won hC (by omega)
  have cs : I 3 c = nI (D 2 c) := CR_sin hC (by omega)
  have ms : I2 37 c = nI (D 2 c) := by rw [hT.1 37 c (by decide)]; exact MR_sin hM (by omega)
  have bw := WF_won hW (j := c) (by omega)
  have bs := WF_sin hW (j := c) (by omega)
  have wE : ∀ d f p q w s : Nat, d ≤ n → d < f → p ≤ (n - d + 1) / 2 → q ≤ (n - d) / 2 → (w : Int) = wv D c p q → (s : Int) = sv D c (n - d) p q → F_X6_endsAsSaint f I 1 (nI c) (nI w) (nI s) (nI d) (if (n - d) % 2 = 0 then 1 else 0) = some (b01 (V D c n d p q)) := x_end hC hW hc hn h1 h2
  have sM : F_X7_rivals I (nI c) (nI n) (nI k) = (if nI k = 0 then some (I2 58 0, I2) else if nI n ≤ 0 then f_X7_rivals_84 I2 (nI c) (nI n) 0 else (F_X7_at I2 1 1 0).bind (fun q76 => if ax_in q76 637 = true then f_X7_rivals_84 I2 (nI c) (nI n) (I2 58 q76.toNatClampNeg) else none)) := by
    rw [F_X7_rivals, tM, p_some, if_neg q1, mN, p_some, if_neg n1, mK, p_some, if_neg n1, if_pos hi, hcl, fM, if_neg (show ¬ nI 0 = 1 from by decide), hE, p_some, z0]
  have sX : F_X6_rivals I (nI c) (nI n) (nI k) = (if nI k = 0 then (F_X6_endsAsSaint ax_D I 1 (nI c) (nI (D 1 c)) (nI (D 2 c)) (nI n) 1).bind (fun q86 => if q86 = 0 then some 0 else some 1) else if nI n = 0 then some 0 else (F_X6_endsAsSaint ax_D I 1 (nI c) (nI (D 1 c) + 1) (nI (D 2 c)) (nI n - 1) 0).bind (fun q119 => if q119 = 0 then f_X6_rivals_130 I (nI c) (nI n) (nI (D 1 c)) (nI (D 2 c)) 0 else f_X6_rivals_130 I (nI c) (nI n) (nI (D 1 c)) (nI (D 2 c)) 1)) := by
    rw [F_X6_rivals, tC, p_some, if_neg q1, p_wT hN, p_some, if_neg n1, p_wT hK, p_some, if_neg n1, fC, p_some, if_pos nI_0, if_pos hi, if_pos hi, hcl, cw, cs]
  rcases (show k = 0 ∨ k = 1 by omega) with rfl | rfl
  · have a0 := hT.2 0 0 0 (by omega) (by decide) (by decide) (by omega)
    rw [Nat.sub_zero] at a0
    have a0 : I2 58 0 = b01 (V D c n n 0 0) := a0
    have e := wE n ax_D 0 0 (D 1 c) (D 2 c) (Nat.le_refl _) (by unfold ax_D; omega) (by omega) (by omega) (by unfold wv; omega) (by rw [Nat.sub_self]; unfold sv; omega)
    rw [Nat.sub_self, if_pos rfl] at e
    refine ⟨b01 (V D c n n 0 0), I2, ?_, ?_, hT⟩
    · rw [sX, if_pos nI_0, e, p_some]
      cases V D c n n 0 0 <;> rfl
    · rw [sM, if_pos nI_0, a0]
  · rw [if_neg q1] at sX sM
    by_cases n0 : n = 0
    · refine ⟨0, I2, ?_, ?_, hT⟩
      · rw [sX, if_pos (by rw [n0]; rfl)]
      · have l0 : nI n ≤ 0 := by rw [n0]; decide
        rw [sM, if_pos l0, f_X7_rivals_84, if_pos l0, f_X7_rivals_113, f_X7_rivals_114]; rfl
    · obtain ⟨d, hd⟩ : ∃ d, d + 1 = n := ⟨n - 1, by omega⟩
      have nd : n - d = 1 := by omega
      have nn : nI n - 1 = nI d := by rw [← hd]; exact nI_pred d
      have l0 : ¬ nI n ≤ 0 := nI_nle (by omega) (by omega)
      have e1 := wE d ax_D 1 0 (D 1 c + 1) (D 2 c) (by omega) (by unfold ax_D; omega) (by omega) (by omega) (by unfold wv; omega) (by rw [nd]; unfold sv; omega)
      rw [nd, if_neg (by decide)] at e1
      have a1 := hT.2 1 1 0 (by omega) (by decide) (by decide) (by omega)
      have a2 := hT.2 1 0 0 (by omega) (by decide) (by decide) (by omega)
      rw [show n - 1 = d by omega] at a1 a2
      have a1 : I2 58 56 = b01 (V D c n d 1 0) := a1
      have a2 : I2 58 49 = b01 (V D c n d 0 0) := a2
      have t1 : F_X7_at I2 1 1 0 = some (nI 56) := m_at (t := 1) (p := 1) (q := 0)
      have t2 : F_X7_at I2 1 0 0 = some (nI 49) := m_at (t := 1) (p := 0) (q := 0)
      have i1 : ax_in (nI 56) 637 = true := p_in (by decide) (by decide)
      have i2 : ax_in (nI 49) 637 = true := p_in (by decide) (by decide)
      have c1 : (nI 56).toNatClampNeg = 56 := p_cl (by decide)
      have c2 : (nI 49).toNatClampNeg = 49 := p_cl (by decide)
      rw [if_neg l0, t1, p_some, if_pos i1, c1, a1, f_X7_rivals_84, if_neg l0, if_pos hi, hcl, ms] at sM
      rw [if_neg (nI_ne0 (by omega) (by omega)), nI_1, nn, e1, p_some] at sX
      by_cases s0 : D 2 c = 0
      · have ls : nI (D 2 c) ≤ 0 := by rw [s0]; decide
        refine ⟨b01 (V D c n d 1 0) + 0, I2, ?_, ?_, hT⟩
        · rw [sX, f_X6_rivals_130, f_X6_rivals_130, if_pos ls, if_pos ls]
          cases V D c n d 1 0 <;> rfl
        · rw [sM, if_pos ls, f_X7_rivals_113, f_X7_rivals_114]
      · have ls : ¬ nI (D 2 c) ≤ 0 := nI_nle (by omega) (by omega)
        have e2 := wE d ax_D 0 0 (D 1 c) (D 2 c - 1) (by omega) (by unfold ax_D; omega) (by omega) (by omega) (by unfold wv; omega) (by rw [nd]; unfold sv; omega)
        rw [nd, if_neg (by decide)] at e2
        refine ⟨b01 (V D c n d 1 0) + b01 (V D c n d 0 0), I2, ?_, ?_, hT⟩
        · rw [sX, f_X6_rivals_130, f_X6_rivals_130, if_neg ls, if_neg ls, nn, show nI (D 2 c) - 1 = nI (D 2 c - 1) from pk_sub (b := 1) (by omega), e2, p_some, p_some]
          cases V D c n d 1 0 <;> cases V D c n d 0 0 <;> rfl
        · rw [sM, if_neg ls, t2, p_some, if_pos i2, c2, a2, f_X7_rivals_114]
theorem op20 : lw_op20 Inv := by
  intro a1 a2 a3 l E B lay I J hI
  have hLL := (inv_sz hI).2.2
  have hI0 := hI
  obtain ⟨g, ext, D, n, S, hlay, hext, hez, hC, hM, hW, hP', hIm⟩ := hI
  have q1 : ¬ nI 1 = 0 := by decide
  have n1 : ¬ (1 : Int32) = 0 := by decide
  have h : ∃ r I2, F_X6_rivals I a1 a2 a3 = some r ∧ F_X7_rivals I a1 a2 a3 = some (r, I2) ∧ Inv B lay I2 J := by
    rcases p_rng a1 5 (by decide) with ⟨c, hc, rfl⟩ | h1
    · have tC := x_there hC hW hc
      have tM := m_there hM hW hc
      have fC := x_fallen hC hW hc
      have fM : I 39 c = nI (bb (D 0 3) c) := MR_fal hM (by omega)
      have hb := bb_lt (D 0 0) c
      have hb3 := bb_lt (D 0 3) c
      rcases (show bb (D 0 0) c = 0 ∨ bb (D 0 0) c = 1 by omega) with h | h
      · rw [h] at tC tM
        exact ⟨-1, I, by rw [F_X6_rivals, tC, p_some, if_pos nI_0], by rw [F_X7_rivals, tM, p_some, if_pos nI_0], hI0⟩
      · rcases p_rng a2 12 (by decide) with ⟨m, hm, rfl⟩ | h2
        · have hN : (0 : Int32) ≤ nI m ∧ nI m ≤ 12 := p_rngT hm (by decide)
          have mN : F_X7_in I (nI m).toInt64 0 12 = some 1 := p_mT 0 12 hN rfl rfl
          rcases p_rng a3 1 (by decide) with ⟨k, hk, rfl⟩ | h3
          · have hK : (0 : Int32) ≤ nI k ∧ nI k ≤ 1 := p_rngT hk (by decide)
            have mK : F_X7_in I (nI k).toInt64 0 1 = some 1 := p_mT 0 1 hK rfl rfl
            rcases (show bb (D 0 3) c = 0 ∨ bb (D 0 3) c = 1 by omega) with h' | h'
            · obtain ⟨r, I2, e1, e2, hT⟩ := riv_e hC hM hW hc hm hk h h'
              exact ⟨r, I2, e1, e2, TI_inv hI0 hT⟩
            · rw [h] at tC tM fC
              rw [h', Nat.mul_one] at fC
              rw [h'] at fM
              have hi : ax_in (nI c) 6 = true := p_in (by omega) (by decide)
              have hcl : (nI c).toNatClampNeg = c := p_cl (by omega)
              exact ⟨-3, I, by rw [F_X6_rivals, tC, p_some, if_neg q1, p_wT hN, p_some, if_neg n1, p_wT hK, p_some, if_neg n1, fC, p_some, if_neg q1], by rw [F_X7_rivals, tM, p_some, if_neg q1, mN, p_some, if_neg n1, mK, p_some, if_neg n1, if_pos hi, hcl, fM, if_pos (show nI 1 = 1 from by decide)], hI0⟩
          · have h3 : ¬ ((0 : Int32) ≤ a3 ∧ a3 ≤ 1) := h3
            have mK : F_X7_in I a3.toInt64 0 1 = some 0 := p_mF 0 1 h3 rfl rfl
            rw [h] at tC tM
            exact ⟨-2, I, by rw [F_X6_rivals, tC, p_some, if_neg q1, p_wT hN, p_some, if_neg n1, p_wF h3, p_some, if_pos rfl], by rw [F_X7_rivals, tM, p_some, if_neg q1, mN, p_some, if_neg n1, mK, p_some, if_pos rfl], hI0⟩
        · have h2 : ¬ ((0 : Int32) ≤ a2 ∧ a2 ≤ 12) := h2
          have mN : F_X7_in I a2.toInt64 0 12 = some 0 := p_mF 0 12 h2 rfl rfl
          rw [h] at tC tM
          exact ⟨-2, I, by rw [F_X6_rivals, tC, p_some, if_neg q1, p_wF h2, p_some, if_pos rfl], by rw [F_X7_rivals, tM, p_some, if_neg q1, mN, p_some, if_pos rfl], hI0⟩
    · have h1 : ¬ ((0 : Int32) ≤ a1 ∧ a1 ≤ 5) := h1
      exact ⟨-1, I, by rw [F_X6_rivals, x_thereF h1, p_some, if_pos rfl], by rw [F_X7_rivals, m_thereF h1, p_some, if_pos rfl], hI0⟩
  obtain ⟨r, I2, e1, e2, h2⟩ := h
  exact op_i (M_X6_rivals hLL e1) (M_X7_rivals (J := J) hLL e2) (by decide) (by decide) h2
