/-! ===== seen ===== -/
theorem clb8_ok : ∀ t, t < 256 → ∀ c, c < 8 → nI t &&& (((1 : Int32) <<< (nI c &&& 31)) ^^^ (-1)) = nI (clb t c) := by decide +kernel
theorem clb8_lt : ∀ t, t < 256 → ∀ c, c < 8 → clb t c < 256 := by decide +kernel
theorem clb8_bit : ∀ t, t < 256 → ∀ c, c < 8 → ∀ j, j < 8 → clb t c / 2 ^ j % 2 = if j = c then 0 else t / 2 ^ j % 2 := by decide +kernel
theorem stb8_lt : ∀ t, t < 256 → ∀ c, c < 8 → t ||| 2 ^ c < 256 := by decide +kernel
theorem stb8_bit : ∀ t, t < 256 → ∀ c, c < 8 → ∀ j, j < 8 → (t ||| 2 ^ c) / 2 ^ j % 2 = if j = c then 1 else t / 2 ^ j % 2 := by decide +kernel
/-- D with a sight more: w wonders, s sins, mask f -/
def pSi (D : pD) (k w s f : Nat) : pD := fun r j => if r = 12 ∧ j = k then w else if r = 13 ∧ j = k then s else if r = 0 ∧ j = 4 then f else D r j
theorem pSi_n {D : pD} {k w s f r j : Nat} (h1 : r ≠ 12) (h2 : r ≠ 13) (h3 : r ≠ 0 ∨ j ≠ 4) : pSi D k w s f r j = D r j := by
  unfold pSi
  rw [if_neg (by omega), if_neg (by omega), if_neg (by omega)]
theorem CR_sight {I : ax_I} {b : Nat} {D : pD} {k w s f : Nat} {x : Int32} (h : CR I b D) (hk : k = D 0 2) : CR (ax_u (ax_u I (b + 11) k x) b 4 (nI f)) b (pSi D k w s f) := by
  obtain ⟨h0, h1, h2, h3, h4, h5, h6, h7, h8, h9, h10, h11, h12, h13, h14, h15⟩ := h
  refine ⟨?_, ?_, ?_, ?_, ?_, ?_, ?_, ?_, ?_, ?_, ?_, ?_, ?_, ?_, ?_, ?_⟩
  · rw [ax_u_nj (by decide), ax_u_n (by omega), pSi_n (by decide) (by decide) (by omega)]; exact h0
  · rw [ax_u_nj (by decide), ax_u_n (by omega), pSi_n (by decide) (by decide) (by omega)]; exact h1
  · rw [ax_u_nj (by decide), ax_u_n (by omega), pSi_n (by decide) (by decide) (by omega)]; exact h2
  · rw [ax_u_nj (by decide), ax_u_n (by omega), pSi_n (by decide) (by decide) (by omega)]; exact h3
  · rw [ax_u_ss]; rfl
  · intro j hj; rw [ax_u_n (by omega), ax_u_n (by omega), pSi_n (by decide) (by decide) (by omega)]; exact h5 j hj
  · intro j hj; rw [ax_u_n (by omega), ax_u_n (by omega), pSi_n (by decide) (by decide) (by omega)]; exact h6 j hj
  · intro j hj; rw [ax_u_n (by omega), ax_u_n (by omega), pSi_n (by decide) (by decide) (by omega)]; exact h7 j hj
  · intro j hj; rw [ax_u_n (by omega), ax_u_n (by omega), pSi_n (by decide) (by decide) (by omega)]; exact h8 j hj
  · intro j hj; rw [ax_u_n (by omega), ax_u_n (by omega), pSi_n (by decide) (by decide) (by omega)]; exact h9 j hj
  · intro j hj; rw [ax_u_n (by omega), ax_u_n (by omega), pSi_n (by decide) (by decide) (by omega)]; exact h10 j hj
  · intro j hj; rw [ax_u_n (by omega), ax_u_n (by omega), pSi_n (by decide) (by decide) (by omega)]; exact h11 j hj
  · intro j hj; rw [ax_u_n (by omega), ax_u_n (by omega), pSi_n (by decide) (by decide) (by omega)]; exact h12 j hj
  · intro j hj; rw [ax_u_n (by omega), ax_u_n (by omega), pSi_n (by decide) (by decide) (by omega)]; exact h13 j hj
  · intro j hj; rw [ax_u_n (by omega), ax_u_n (by omega), pSi_n (by decide) (by decide) (by omega)]; exact h14 j hj
  · intro j hj
    rw [pSi_n (by decide) (by decide) (by omega)] at hj
    have e : j ≠ k := by omega
    rw [ax_u_n (by omega), ax_u_nj e]
    have e1 : pSi D k w s f 12 j = D 12 j := by simp [pSi, e]
    have e2 : pSi D k w s f 13 j = D 13 j := by simp [pSi, e]
    rw [e1, e2]
    exact h15 j hj
theorem MR_sight {I : ax_I} {D : pD} {k w s f : Nat} {x y z : Int32} (h : MR I D) (hk : k = D 0 2) (h8 : k < 8) (hf : ∀ j, j < 8 → j ≠ k → f / 2 ^ j % 2 = D 0 4 / 2 ^ j % 2) : MR (ax_u (ax_u (ax_u I 47 k x) 48 k y) 49 k z) (pSi D k w s f) := by
  obtain ⟨h0, h1, h2, h3, h4, h5, h6, h7, h8', h9, h10, h11, h12, h13, h14, h15, h16⟩ := h
  refine ⟨?_, ?_, ?_, ?_, ?_, ?_, ?_, ?_, ?_, ?_, ?_, ?_, ?_, ?_, ?_, ?_, ?_⟩
  · rw [ax_u_n (by decide), ax_u_n (by decide), ax_u_n (by decide), pSi_n (by decide) (by decide) (by omega)]; exact h0
  · rw [ax_u_n (by decide), ax_u_n (by decide), ax_u_n (by decide), pSi_n (by decide) (by decide) (by omega)]; exact h1
  · rw [ax_u_n (by decide), ax_u_n (by decide), ax_u_n (by decide), pSi_n (by decide) (by decide) (by omega)]; exact h2
  · intro j hj; show ax_u _ 49 k z 36 j = _; rw [ax_u_n (by decide), ax_u_n (by decide), ax_u_n (by decide), pSi_n (by decide) (by decide) (by omega)]; exact h3 j hj
  · intro j hj; show ax_u _ 49 k z 37 j = _; rw [ax_u_n (by decide), ax_u_n (by decide), ax_u_n (by decide), pSi_n (by decide) (by decide) (by omega)]; exact h4 j hj
  · intro j hj; show ax_u _ 49 k z 38 j = _; rw [ax_u_n (by decide), ax_u_n (by decide), ax_u_n (by decide), pSi_n (by decide) (by decide) (by omega)]; exact h5 j hj
  · intro j hj; show ax_u _ 49 k z 39 j = _; rw [ax_u_n (by decide), ax_u_n (by decide), ax_u_n (by decide), pSi_n (by decide) (by decide) (by omega)]; exact h6 j hj
  · intro j hj; show ax_u _ 49 k z 40 j = _; rw [ax_u_n (by decide), ax_u_n (by decide), ax_u_n (by decide), pSi_n (by decide) (by decide) (by omega)]; exact h7 j hj
  · intro j hj; show ax_u _ 49 k z 41 j = _; rw [ax_u_n (by decide), ax_u_n (by decide), ax_u_n (by decide), pSi_n (by decide) (by decide) (by omega)]; exact h8' j hj
  · intro j hj; show ax_u _ 49 k z 42 j = _; rw [ax_u_n (by decide), ax_u_n (by decide), ax_u_n (by decide), pSi_n (by decide) (by decide) (by omega)]; exact h9 j hj
  · intro j hj; show ax_u _ 49 k z 43 j = _; rw [ax_u_n (by decide), ax_u_n (by decide), ax_u_n (by decide), pSi_n (by decide) (by decide) (by omega)]; exact h10 j hj
  · intro j hj; show ax_u _ 49 k z 44 j = _; rw [ax_u_n (by decide), ax_u_n (by decide), ax_u_n (by decide), pSi_n (by decide) (by decide) (by omega)]; exact h11 j hj
  · intro j hj; show ax_u _ 49 k z 45 j = _; rw [ax_u_n (by decide), ax_u_n (by decide), ax_u_n (by decide), pSi_n (by decide) (by decide) (by omega)]; exact h12 j hj
  · intro j hj; show ax_u _ 49 k z 46 j = _; rw [ax_u_n (by decide), ax_u_n (by decide), ax_u_n (by decide), pSi_n (by decide) (by decide) (by omega)]; exact h13 j hj
  · intro j hj
    rw [pSi_n (by decide) (by decide) (by omega)] at hj
    have e : j ≠ k := by omega
    show ax_u _ 49 k z 47 j = _
    rw [ax_u_n (by decide), ax_u_n (by decide), ax_u_nj e, show pSi D k w s f 12 j = D 12 j by simp [pSi, e]]; exact h14 j hj
  · intro j hj
    rw [pSi_n (by decide) (by decide) (by omega)] at hj
    have e : j ≠ k := by omega
    show ax_u _ 49 k z 48 j = _
    rw [ax_u_n (by decide), ax_u_nj e, ax_u_n (by decide), show pSi D k w s f 13 j = D 13 j by simp [pSi, e]]; exact h15 j hj
  · intro j hj
    rw [pSi_n (by decide) (by decide) (by omega)] at hj
    have e : j ≠ k := by omega
    show ax_u _ 49 k z 49 j = _
    rw [ax_u_nj e, ax_u_n (by decide), ax_u_n (by decide), show pSi D k w s f 0 4 = f from rfl, hf j (by omega) e]; exact h16 j hj
theorem WF_sight {D : pD} {k w s f : Nat} (h : WF D) (hk : k = D 0 2) (hf : f < 256) : WF (pSi D k w s f) := by
  obtain ⟨h0, h1, h2, h3, h4, h5, h6, h7, h8, h9, h10, h11, h12, h13, h14, h15, h16⟩ := h
  refine ⟨?_, ?_, ?_, ?_, ?_, ?_, ?_, ?_, ?_, ?_, ?_, ?_, ?_, ?_, ?_, ?_, ?_⟩
  · rw [pSi_n (by decide) (by decide) (by omega)]; exact h0
  · rw [pSi_n (by decide) (by decide) (by omega)]; exact h1
  · rw [pSi_n (by decide) (by decide) (by omega)]; exact h2
  · rw [pSi_n (by decide) (by decide) (by omega)]; exact h3
  · exact hf
  · intro j hj; rw [pSi_n (by decide) (by decide) (by omega)]; exact h5 j hj
  · intro j hj; rw [pSi_n (by decide) (by decide) (by omega)]; exact h6 j hj
  · intro j hj; rw [pSi_n (by decide) (by decide) (by omega)]; exact h7 j hj
  · intro j hj; rw [pSi_n (by decide) (by decide) (by omega)]; exact h8 j hj
  · intro j hj; rw [pSi_n (by decide) (by decide) (by omega)]; exact h9 j hj
  · intro j hj; rw [pSi_n (by decide) (by decide) (by omega)]; exact h10 j hj
  · intro j hj; rw [pSi_n (by decide) (by decide) (by omega)]; exact h11 j hj
  · intro j hj; rw [pSi_n (by decide) (by decide) (by omega)]; exact h12 j hj
  · intro j hj; rw [pSi_n (by decide) (by decide) (by omega)]; exact h13 j hj
  · intro j hj; rw [pSi_n (by decide) (by decide) (by omega)]; exact h14 j hj
  · intro j hj
    rw [pSi_n (by decide) (by decide) (by omega)] at hj
    have e : j ≠ k := by omega
    rw [show pSi D k w s f 12 j = D 12 j by simp [pSi, e]]; exact h15 j hj
  · intro j hj
    rw [pSi_n (by decide) (by decide) (by omega)] at hj
    have e : j ≠ k := by omega
    rw [show pSi D k w s f 13 j = D 13 j by simp [pSi, e]]; exact h16 j hj
theorem seen_go {B : Nat} {lay : List ax_S} {I : ax_I} {J : ax_J} {g : Nat → Option Nat} {ext : List ax_S} {D : pD} {n : Nat} {S : Nat → Nat} {k w s f v : Nat} (hlay : lay = ax_L B g ++ ext) (hext : ext.length = 12 * gc g) (hez : ax_z ext = 123 * gc g) (hC : CR I 1 D) (hM : MR I D) (hW : WF D) (hP : PR I n S) (hIm : Im B lay g I) (hk : k = D 0 2) (h8 : k < 8) (hw : w ≤ 9) (hs : s ≤ 9) (hf : f < 256) (hfb : ∀ j, j < 8 → f / 2 ^ j % 2 = if j = k then v else D 0 4 / 2 ^ j % 2) :
    Inv B lay (ax_u (ax_u (ax_u (ax_u (ax_u (ax_u (ax_u I 12 k (nI (10 * w + s))) 1 4 (nI f)) 1 3 (nI (k + 1))) 47 k (nI w)) 48 k (nI s)) 49 k (nI v)) 35 16 (nI (k + 1))) J := by
  have hC1 : CR (ax_u (ax_u I 12 k (nI (10 * w + s))) 1 4 (nI f)) 1 (pSi D k w s f) := CR_sight hC hk
  have hM1 : MR (ax_u (ax_u (ax_u I 12 k (nI (10 * w + s))) 1 4 (nI f)) 1 3 (nI (k + 1))) D := MR_off (MR_off (MR_off hM (by omega)) (by omega)) (by omega)
  have hM2 := MR_sight (w := w) (s := s) (f := f) (x := nI w) (y := nI s) (z := nI v) hM1 hk h8 (fun j hj e => by rw [hfb j hj, if_neg e])
  have e12 : pSi D k w s f 12 k = w := by simp [pSi]
  have e13 : pSi D k w s f 13 k = s := by simp [pSi]
  refine ⟨g, ext, pU (pSi D k w s f) 0 2 (k + 1), n, S, hlay, hext, hez, ?_, ?_, ?_, ?_, ?_⟩
  · refine CR_off (CR_off (CR_off (CR_off (CR_cnt hC1 ?_) (by omega)) (by omega)) (by omega)) (by omega)
    intro j hj
    by_cases e : j = k
    · subst e
      rw [ax_u_n (by decide), ax_u_ss, e12, e13]
    · have h9 := CR_life hC1 (j := j) (by rw [pSi_n (by decide) (by decide) (by omega)]; omega)
      exact h9
  · refine MR_cnt hM2 ?_
    intro j hj
    by_cases e : j = k
    · subst e
      refine ⟨?_, ?_, ?_⟩
      · rw [ax_u_n (by decide), ax_u_n (by decide), ax_u_ss, e12]
      · rw [ax_u_n (by decide), ax_u_ss, e13]
      · rw [ax_u_ss, show pSi D j w s f 0 4 = f from rfl, hfb j h8, if_pos rfl]
    · have hj2 : j < pSi D k w s f 0 2 := by rw [pSi_n (by decide) (by decide) (by omega)]; omega
      exact ⟨MR_sw hM2 hj2, MR_ss hM2 hj2, MR_st hM2 hj2⟩
  · refine WF_cnt (WF_sight hW hk hf) (by omega) ?_
    intro j hj
    by_cases e : j = k
    · subst e; rw [e12, e13]; exact ⟨hw, hs⟩
    · rw [show pSi D k w s f 12 j = D 12 j by simp [pSi, e], show pSi D k w s f 13 j = D 13 j by simp [pSi, e]]
      exact ⟨hW.2.2.2.2.2.2.2.2.2.2.2.2.2.2.2.1 j (by omega), hW.2.2.2.2.2.2.2.2.2.2.2.2.2.2.2.2 j (by omega)⟩
  · exact PR_off (PR_off (PR_off (PR_off (PR_off (PR_off (PR_off hP (by omega)) (by omega)) (by omega)) (by omega)) (by omega)) (by omega)) (by omega)
  · exact Im_off (Im_off (Im_off (Im_off (Im_off (Im_off (Im_off hIm (by omega)) (by omega)) (by omega)) (by omega)) (by omega)) (by omega)) (by omega)
theorem op22 : lw_op22 Inv := by
  intro a1 a2 v hv l E B lay I J hI
  have hLL := (inv_sz hI).2.2
  rcases p_rng a1 9 (by decide) with ⟨w, hw, rfl⟩ | h1
  · have hA : (0 : Int32) ≤ nI w ∧ nI w ≤ 9 := p_rngT hw (by decide)
    have mA : ∀ I, F_X7_in I (nI w).toInt64 0 9 = some 1 := fun I => p_mT 0 9 hA rfl rfl
    rcases p_rng a2 9 (by decide) with ⟨s, hs, rfl⟩ | h2
    · have hB : (0 : Int32) ≤ nI s ∧ nI s ≤ 9 := p_rngT hs (by decide)
      have mB : ∀ I, F_X7_in I (nI s).toInt64 0 9 = some 1 := fun I => p_mT 0 9 hB rfl rfl
      have hI0 := hI
      obtain ⟨g, ext, D, n, S, hlay, hext, hez, hC, hM, hW, hP, hIm⟩ := hI
      have k1 : I 1 3 = nI (D 0 2) := hC.2.2.2.1
      have k2 : I 35 16 = nI (D 0 2) := hM.2.2.1
      have k3 := hW.2.2.1
      have m1 : I 1 4 = nI (D 0 4) := hC.2.2.2.2.1
      have hm := hW.2.2.2.2.1
      obtain ⟨k, hk⟩ : ∃ k, k = D 0 2 := ⟨_, rfl⟩
      rw [← hk] at k1 k2 k3
      rcases Nat.lt_or_ge k 8 with h8 | h8
      · have c1 : (nI k < 8) = True := eq_true ((nI_ltI (b := 8) (by omega) (by decide)).mpr h8)
        have c2 : ((8 : Int32) ≤ nI k) = False := eq_false (fun h => by have := (p_le8 (by omega)).mp h; omega)
        have c3 : (nI k = 8) = False := eq_false (fun h => by have := (nI_eq (b := 8) (by omega) (by decide)).mp h; omega)
        have hi : ax_in (nI k) 8 = true := p_in h8 (by decide)
        have hcl : (nI k).toNatClampNeg = k := p_cl (by omega)
        have s1 : nI k + 1 = nI (k + 1) := nI_1 k
        have lf : (10 : Int32) * nI w + nI s = nI (10 * w + s) := by show nI 10 * nI w + nI s = _; rw [pk_mul, nI_add]
        have sh := p_shl (k := k) (by omega)
        rcases hv with rfl | rfl
        · have hcb := clb8_ok (D 0 4) hm k h8
          obtain ⟨I1, hI1⟩ : ∃ I1, I1 = ax_u (ax_u (ax_u I 12 k (nI (10 * w + s))) 1 4 (nI (clb (D 0 4) k))) 1 3 (nI (k + 1)) := ⟨_, rfl⟩
          have e1 : F_X6_seen I (nI w) (nI s) 0 = some (nI (k + 1), I1) := by
            simp only [F_X6_seen, p_wT hA, p_wT hB, p_some, p10, if_false, k1, c1, if_true, F_X2_addSight, c2, hi, hcl, f_X2_addSight_56]
            rw [ax_u_ss, ax_u_nj (by decide), ax_u_n (by decide), k1, m1, hcb, s1, lf, hI1]
          have q1 : I1 35 16 = nI k := by rw [hI1, ax_u_n (by decide), ax_u_n (by decide), ax_u_n (by decide), k2]
          have e2 : F_X7_seen I1 (nI w) (nI s) 0 = some (nI (k + 1), ax_u (ax_u (ax_u (ax_u I1 47 k (nI w)) 48 k (nI s)) 49 k (nI 0)) 35 16 (nI (k + 1))) := by
            simp only [F_X7_seen, f_X7_seen_59, f_X7_seen_76, mA, mB, p_some, p10, if_false, if_true, q1, c3, hi, hcl, ax_u_n (show (35 : Nat) ≠ 47 by decide), ax_u_n (show (35 : Nat) ≠ 48 by decide), ax_u_n (show (35 : Nat) ≠ 49 by decide), ax_u_ss, s1]
            rfl
          have hfin := seen_go (J := J) (v := 0) hlay hext hez hC hM hW hP hIm hk h8 hw hs (clb8_lt (D 0 4) hm k h8) (fun j hj => clb8_bit (D 0 4) hm k h8 j hj)
          rw [← hI1] at hfin
          exact op_i (M_X6_seen hLL e1) (M_X7_seen (J := J) hLL e2) (by decide) (by decide) hfin
        · obtain ⟨I1, hI1⟩ : ∃ I1, I1 = ax_u (ax_u (ax_u I 12 k (nI (10 * w + s))) 1 4 (nI (D 0 4 ||| 2 ^ k))) 1 3 (nI (k + 1)) := ⟨_, rfl⟩
          have e1 : F_X6_seen I (nI w) (nI s) 1 = some (nI (k + 1), I1) := by
            simp only [F_X6_seen, p_wT hA, p_wT hB, p_some, p10, if_false, k1, c1, if_true, F_X2_addSight, c2, hi, hcl, f_X2_addSight_56]
            rw [ax_u_ss, ax_u_nj (by decide), ax_u_n (by decide), k1, m1, sh, p_or, s1, lf, hI1]
          have q1 : I1 35 16 = nI k := by rw [hI1, ax_u_n (by decide), ax_u_n (by decide), ax_u_n (by decide), k2]
          have e2 : F_X7_seen I1 (nI w) (nI s) 1 = some (nI (k + 1), ax_u (ax_u (ax_u (ax_u I1 47 k (nI w)) 48 k (nI s)) 49 k (nI 1)) 35 16 (nI (k + 1))) := by
            simp only [F_X7_seen, f_X7_seen_59, f_X7_seen_76, mA, mB, p_some, p10, if_false, if_true, q1, c3, hi, hcl, ax_u_n (show (35 : Nat) ≠ 47 by decide), ax_u_n (show (35 : Nat) ≠ 48 by decide), ax_u_n (show (35 : Nat) ≠ 49 by decide), ax_u_ss, s1]
            rfl
          have hfin := seen_go (J := J) (v := 1) hlay hext hez hC hM hW hP hIm hk h8 hw hs (stb8_lt (D 0 4) hm k h8) (fun j hj => stb8_bit (D 0 4) hm k h8 j hj)
          rw [← hI1] at hfin
          exact op_i (M_X6_seen hLL e1) (M_X7_seen (J := J) hLL e2) (by decide) (by decide) hfin
      · have k8 : k = 8 := by omega
        rw [k8] at k1 k2
        have c1 : (nI 8 < 8) = False := eq_false (by decide)
        have c3 : (nI 8 = 8) = True := eq_true (by decide)
        have e1 : F_X6_seen I (nI w) (nI s) v = some (-4, I) := by simp only [F_X6_seen, p_wT hA, p_wT hB, p_some, p10, if_false, k1, c1]
        have e2 : F_X7_seen I (nI w) (nI s) v = some (-4, I) := by simp only [F_X7_seen, mA, mB, p_some, p10, if_false, k2, c3, if_true]
        exact op_i (M_X6_seen hLL e1) (M_X7_seen (J := J) hLL e2) (by decide) (by decide) hI0
    · have h2 : ¬ ((0 : Int32) ≤ a2 ∧ a2 ≤ 9) := h2
      have mB : ∀ I, F_X7_in I a2.toInt64 0 9 = some 0 := fun I => p_mF 0 9 h2 rfl rfl
      have e1 : F_X6_seen I (nI w) a2 v = some (-2, I) := by simp only [F_X6_seen, p_wT hA, p_wF h2, p_some, p10, if_false, if_true]
      have e2 : F_X7_seen I (nI w) a2 v = some (-2, I) := by simp only [F_X7_seen, mA, mB, p_some, p10, if_false, if_true]
      exact op_i (M_X6_seen hLL e1) (M_X7_seen (J := J) hLL e2) (by decide) (by decide) hI
  · have h1 : ¬ ((0 : Int32) ≤ a1 ∧ a1 ≤ 9) := h1
    have mA : ∀ I, F_X7_in I a1.toInt64 0 9 = some 0 := fun I => p_mF 0 9 h1 rfl rfl
    have e1 : F_X6_seen I a1 a2 v = some (-2, I) := by simp only [F_X6_seen, p_wF h1, p_some, if_true]
    have e2 : F_X7_seen I a1 a2 v = some (-2, I) := by simp only [F_X7_seen, mA, p_some, if_true]
    exact op_i (M_X6_seen hLL e1) (M_X7_seen (J := J) hLL e2) (by decide) (by decide) hI
