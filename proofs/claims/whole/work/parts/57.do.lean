/-! ===== what an act does ===== -/
/-- a purse behind a fall -/
def fpv (D : pD) (c j : Nat) : Nat := if D 9 j + 10 * cB D c (nI j) < 999 then D 9 j + 10 * cB D c (nI j) else 999
/-- a fall, p purses done -/
def pFp (D : pD) (c p : Nat) : pD := fun r j => if r = 9 ∧ j < p then fpv D c j else D r j
def pFl (D : pD) (c : Nat) : pD := pClr (pU (pFp D c 4) 0 3 (D 0 3 ||| 2 ^ c)) c
def pDo (D : pD) (w c p q : Nat) : pD :=
  if w = 0 then pU D 1 c (D 1 c + 1)
  else if w = 1 then pU D 2 c (D 2 c + 1)
  else if w = 2 then pU D 2 c (D 2 c - 1)
  else if w = 3 then pU D 3 c (D 3 c + 1)
  else if w = 4 then pFl D c
  else if w = 5 then pU (pU D 5 (8 * c + q) (p + 1)) 9 p (D 9 p - 10)
  else if w = 6 then D
  else pU D 0 1 (D 0 1 + 1)
theorem pFp_n {D : pD} {c p r j : Nat} (h : r ≠ 9) : pFp D c p r j = D r j := by unfold pFp; rw [if_neg (by omega)]
theorem pFp_0 (D : pD) (c : Nat) : pFp D c 0 = D := by funext r j; unfold pFp; rw [if_neg (by omega)]
theorem pFp_s (D : pD) (c p : Nat) : pU (pFp D c p) 9 p (fpv D c p) = pFp D c (p + 1) := by
  funext r j
  unfold pU pFp
  by_cases h : r = 9 ∧ j = p
  · rw [if_pos h, if_pos (by omega), h.2]
  · rw [if_neg h]
    by_cases h2 : r = 9 ∧ j < p
    · rw [if_pos h2, if_pos (by omega)]
    · rw [if_neg h2, if_neg (by omega)]
theorem pFp_hc (D : pD) (c p k : Nat) : hc (pFp D c p) k = hc D k := by
  funext j
  unfold hc
  rw [pFp_n (by decide)]
theorem pFp_cB (D : pD) (c p k : Nat) (v : Int32) : cB (pFp D c p) k v = cB D k v := by
  unfold cB pB
  rw [pFp_hc]
theorem pFp_pB (D : pD) (c p k : Nat) (v : Int32) : pB (pFp D c p) k v = pB D k v := by
  unfold pB
  rw [pFp_hc]
theorem WF_fp {D : pD} (hW : WF D) (c p : Nat) : WF (pFp D c p) := by
  refine ⟨?_, ?_, ?_, ?_, ?_, ?_, ?_, ?_, ?_, ?_, ?_, ?_, ?_, ?_, ?_, ?_, ?_⟩
  · rw [pFp_n (by decide)]; exact hW.1
  · rw [pFp_n (by decide)]; exact hW.2.1
  · rw [pFp_n (by decide)]; exact hW.2.2.1
  · rw [pFp_n (by decide)]; exact hW.2.2.2.1
  · rw [pFp_n (by decide)]; exact hW.2.2.2.2.1
  · intro j hj; rw [pFp_n (by decide)]; exact WF_won hW hj
  · intro j hj; rw [pFp_n (by decide)]; exact WF_sin hW hj
  · intro j hj; rw [pFp_n (by decide)]; exact WF_eye hW hj
  · intro j hj; rw [pFp_n (by decide)]; exact WF_hold hW hj
  · intro j hj; rw [pFp_n (by decide)]; exact WF_cost hW hj
  · intro j hj; rw [pFp_n (by decide)]; exact WF_worth hW hj
  · intro j hj; rw [pFp_n (by decide)]; exact WF_days hW hj
  · intro j hj
    have := WF_purse hW hj
    unfold pFp
    split
    · unfold fpv
      split <;> omega
    · exact this
  · intro j hj; rw [pFp_n (by decide)]; exact WF_rule hW hj
  · intro j hj; rw [pFp_n (by decide)]; exact WF_saw hW hj
  · intro j hj; rw [pFp_n (by decide)] at hj ⊢; exact hW.2.2.2.2.2.2.2.2.2.2.2.2.2.2.2.1 j hj
  · intro j hj; rw [pFp_n (by decide)] at hj ⊢; exact hW.2.2.2.2.2.2.2.2.2.2.2.2.2.2.2.2 j hj
theorem cB_le (D : pD) (c : Nat) (v : Int32) : cB D c v ≤ 8 := pcn_le (pB_lt D c v)
/-- rows beyond b .. b+11 stay -/
def FX (b : Nat) (I I' : ax_I) : Prop := ∀ r j, (r < b ∨ b + 11 < r) → I' r j = I r j
theorem x_fall_l {b : Nat} {D : pD} {c : Nat} (hcc : c ≤ 5) (hW : WF D) : ∀ (n m : Nat) (I : ax_I), m ≤ 4 → m < n → CR I b (pFp D c (4 - m)) → ∃ I', f_X2_fall_2 b n I (nI c) (nI (4 - m)) = some I' ∧ CR I' b (pFl D c) ∧ FX b I I'
  | 0, m, I, _, h, _ => by omega
  | n + 1, 0, I, _, h, hC => by
    have h3 : I b 1 = nI (D 0 3) := by
      have := hC.2.1
      rw [pFp_n (by decide)] at this
      exact this
    rw [f_X2_fall_2, if_pos (by decide), h3, p_shl (show c < 31 by omega), p_or]
    have hf := x_free (b := b) hcc ax_N (ax_u I b 1 (nI (D 0 3 ||| 2 ^ c))) 0 (by decide) (by decide)
    have hf2 : F_X2_freeParts (ax_u I b 1 (nI (D 0 3 ||| 2 ^ c))) b (nI c) = some (clrk (ax_u I b 1 (nI (D 0 3 ||| 2 ^ c))) (b + 4) c 0) := hf
    rw [hf2, p_some]
    refine ⟨_, rfl, CR_clr (CRb_1 hC), ?_⟩
    intro r j hr
    rw [clrk_n (by omega), ax_u_n (by omega)]
  | n + 1, m + 1, I, hm, h, hC => by
    have e5 : 4 - (m + 1) + 1 = 4 - m := by omega
    have hlt : 4 - (m + 1) < 4 := by omega
    obtain ⟨k, hk⟩ : ∃ k, k = 4 - (m + 1) := ⟨_, rfl⟩
    rw [← hk] at hlt e5 hC ⊢
    have ng : ¬ (4 : Int32) ≤ nI k := nI_ge (a := k) (b := 4) hlt (by decide)
    have hi : ax_in (nI k) 4 = true := p_in hlt (by decide)
    have hcl : (nI k).toNatClampNeg = k := p_cl (by omega)
    have xp := x_pB hC hcc (nI k)
    rw [pFp_pB] at xp
    have hp9 : I (b + 8) k = nI (D 9 k) := by
      have := CR_purse hC hlt
      have e : pFp D c k 9 k = D 9 k := by unfold pFp; rw [if_neg (by omega)]
      rw [e] at this
      exact this
    have b9 := WF_purse hW hlt
    have bc := cB_le D c (nI k)
    have em : nI (D 9 k) + 10 * nI (cB D c (nI k)) = nI (D 9 k + 10 * cB D c (nI k)) := by
      rw [show (10 : Int32) * nI (cB D c (nI k)) = nI (10 * cB D c (nI k)) from pk_mul 10 _, nI_add]
    have el : (nI (D 9 k + 10 * cB D c (nI k)) < 999) = (D 9 k + 10 * cB D c (nI k) < 999) := e_lt (b := 999) (by omega) (by decide)
    have ev : (if nI (D 9 k + 10 * cB D c (nI k)) < 999 then nI (D 9 k + 10 * cB D c (nI k)) else 999) = nI (fpv D c k) := by
      unfold fpv
      by_cases q : D 9 k + 10 * cB D c (nI k) < 999
      · rw [if_pos q, if_pos (by rw [el]; exact q)]
      · rw [if_neg q, if_neg (by rw [el]; exact q)]; rfl
    have hC2 : CR (ax_u I (b + 8) k (nI (fpv D c k))) b (pFp D c (4 - m)) := by
      rw [← e5, ← pFp_s]
      exact CRs_8 hC
    obtain ⟨I', h1, h2, h3⟩ := x_fall_l hcc hW n m _ (by omega) (by omega) hC2
    refine ⟨I', ?_, h2, fun r j hr => (h3 r j hr).trans (by rw [ax_u_n (by omega)])⟩
    rw [f_X2_fall_2, if_neg ng, xp, p_some, x_cB, p_some, if_pos hi, if_pos hi, hcl, hp9, em, ev, f_X2_fall_40, nI_1, e5]
    exact h1
theorem x_fall {I : ax_I} {b : Nat} {D : pD} (hC : CR I b D) (hW : WF D) {c : Nat} (hcc : c ≤ 5) : ∃ I', F_X2_fall I b (nI c) = some I' ∧ CR I' b (pFl D c) ∧ FX b I I' := x_fall_l hcc hW ax_N 4 I (by decide) (by decide) (by rw [Nat.sub_self, pFp_0]; exact hC)
/-- what an act of the model leaves -/
def FM (I I' : ax_I) : Prop := (∀ r j, r ≠ 35 → r ≠ 36 → r ≠ 37 → r ≠ 38 → r ≠ 39 → r ≠ 40 → r ≠ 44 → I' r j = I r j) ∧ ∀ j, j ≠ 1 → I' 35 j = I 35 j
theorem m_fall_l {D : pD} {c : Nat} (hcc : c ≤ 5) (hW : WF D) : ∀ (n m : Nat) (I : ax_I), m ≤ 4 → m < n → MR I (pU (pFp D c (4 - m)) 0 3 (D 0 3 ||| 2 ^ c)) → ∃ I', f_X7_fall_9 n I (nI c) (nI (4 - m)) = some I' ∧ MR I' (pFl D c) ∧ FM I I'
  | 0, m, I, _, h, _ => by omega
  | n + 1, 0, I, _, h, hM => by
    have hf : F_X7_clearParts I (nI c) = some (clrk I 40 c 0) := m_free hcc ax_N I 0 (by decide) (by decide)
    rw [f_X7_fall_9, if_pos (by decide), hf, p_some]
    refine ⟨_, rfl, MR_clr hM, ?_, ?_⟩
    · intro r j _ _ _ _ _ h _
      rw [clrk_n h]
    · intro j _
      rw [clrk_n (by decide)]
  | n + 1, m + 1, I, hm, h, hM => by
    have e5 : 4 - (m + 1) + 1 = 4 - m := by omega
    have hlt : 4 - (m + 1) < 4 := by omega
    obtain ⟨k, hk⟩ : ∃ k, k = 4 - (m + 1) := ⟨_, rfl⟩
    rw [← hk] at hlt e5 hM ⊢
    have ng : ¬ (4 : Int32) ≤ nI k := nI_ge (a := k) (b := 4) hlt (by decide)
    have hi : ax_in (nI k) 4 = true := p_in hlt (by decide)
    have hcl : (nI k).toNatClampNeg = k := p_cl (by omega)
    have xp := m_pB hM hcc (nI k)
    have eh : pB (pU (pFp D c k) 0 3 (D 0 3 ||| 2 ^ c)) c (nI k) = pB D c (nI k) := by
      unfold pB
      have : hc (pU (pFp D c k) 0 3 (D 0 3 ||| 2 ^ c)) c = hc D c := by
        funext j
        unfold hc
        rw [pU_r (by decide), pFp_n (by decide)]
      rw [this]
    rw [eh] at xp
    have hp9 : I 44 k = nI (D 9 k) := by
      have := MR_purse hM hlt
      have e : pFp D c k 9 k = D 9 k := by unfold pFp; rw [if_neg (by omega)]
      rw [pU_r (by decide), e] at this
      exact this
    have b9 := WF_purse hW hlt
    have bc := cB_le D c (nI k)
    have em : nI (D 9 k) + 10 * nI (cB D c (nI k)) = nI (D 9 k + 10 * cB D c (nI k)) := by
      rw [show (10 : Int32) * nI (cB D c (nI k)) = nI (10 * cB D c (nI k)) from pk_mul 10 _, nI_add]
    have el : (nI (D 9 k + 10 * cB D c (nI k)) ≤ 999) = (D 9 k + 10 * cB D c (nI k) ≤ 999) := e_le (b := 999) (by omega) (by decide)
    have hM2 : MR (ax_u I 44 k (nI (fpv D c k))) (pU (pFp D c (4 - m)) 0 3 (D 0 3 ||| 2 ^ c)) := by
      have q := MRs_9 (c := k) (v := fpv D c k) hM
      have eq : pU (pU (pFp D c k) 0 3 (D 0 3 ||| 2 ^ c)) 9 k (fpv D c k) = pU (pFp D c (4 - m)) 0 3 (D 0 3 ||| 2 ^ c) := by
        rw [← e5, ← pFp_s]
        funext r j
        unfold pU
        by_cases u1 : r = 9 ∧ j = k
        · rw [if_pos u1, if_neg (by omega), if_pos u1]
        · rw [if_neg u1, if_neg u1]
      rw [eq] at q
      exact q
    obtain ⟨I', h1, h2, h3⟩ := m_fall_l hcc hW n m _ (by omega) (by omega) hM2
    refine ⟨I', ?_, h2, fun r j g1 g2 g3 g4 g5 g6 g7 => (h3.1 r j g1 g2 g3 g4 g5 g6 g7).trans (by rw [ax_u_n g7]), fun j hj => (h3.2 j hj).trans (by rw [ax_u_n (by decide)])⟩
    unfold fpv at h1
    rw [f_X7_fall_9, if_neg ng, if_pos hi, xp, p_some, m_cB, p_some, hcl, hp9, em, f_X7_fall_53, f_X7_fall_53, if_pos hi, if_pos hi, hcl, nI_1, e5]
    by_cases q : D 9 k + 10 * cB D c (nI k) < 999
    · rw [if_pos q] at h1
      rw [if_pos (by rw [el]; omega)]
      exact h1
    · rw [if_neg q] at h1
      by_cases q2 : D 9 k + 10 * cB D c (nI k) = 999
      · rw [if_pos (by rw [el]; omega), q2]; exact h1
      · rw [if_neg (by rw [el]; omega)]; exact h1
theorem m_fall {I : ax_I} {D : pD} (hM : MR I D) (hW : WF D) {c : Nat} (hcc : c ≤ 5) : ∃ I', F_X7_fall I (nI c) = some I' ∧ MR I' (pFl D c) ∧ FM I I' := by
  have hi : ax_in (nI c) 6 = true := p_in (by omega) (by decide)
  have hcl : (nI c).toNatClampNeg = c := p_cl (by omega)
  have hM2 : MR (ax_u I 39 c 1) (pU (pFp D c (4 - 4)) 0 3 (D 0 3 ||| 2 ^ c)) := by
    rw [Nat.sub_self, pFp_0]
    refine MR_fal_set hM ?_
    intro j hj
    rw [stb_bit (D 0 3) hW.2.2.2.1 c (by omega) j hj]
    split <;> rfl
  obtain ⟨I', h1, h2, h3⟩ := m_fall_l hcc hW ax_N 4 _ (by decide) (by decide) hM2
  refine ⟨I', ?_, h2, fun r j g1 g2 g3 g4 g5 g6 g7 => (h3.1 r j g1 g2 g3 g4 g5 g6 g7).trans (by rw [ax_u_n g5]), fun j hj => (h3.2 j hj).trans (by rw [ax_u_n (by decide)])⟩
  rw [F_X7_fall, if_pos hi, hcl]
  exact h1
theorem WF_do {D : pD} (hW : WF D) {w c p q : Nat} (hw : w ≤ 7) (hcc : c ≤ 5) (hp : p ≤ 3) (hy : pWhy D w c p q = 0) : WF (pDo D w c p q) := by
  unfold pWhy at hy
  unfold pDo
  by_cases h7 : w = 7
  · rw [if_pos h7] at hy
    rw [if_neg (by omega), if_neg (by omega), if_neg (by omega), if_neg (by omega), if_neg (by omega), if_neg (by omega), if_neg (by omega)]
    refine WFb_1 hW ?_
    split at hy <;> omega
  · rw [if_neg h7] at hy
    have hb : ¬ bb (D 0 0) c = 0 := by
      intro h; rw [if_pos h] at hy; omega
    rw [if_neg hb] at hy
    have hb3 : ¬ bb (D 0 3) c = 1 := by
      intro h; rw [if_pos h] at hy; omega
    rw [if_neg hb3] at hy
    by_cases h0 : w = 0
    · rw [if_pos h0] at hy ⊢
      refine WFs_1 hW ?_
      split at hy <;> omega
    · rw [if_neg h0] at hy ⊢
      by_cases h1 : w = 1
      · rw [if_pos h1] at hy ⊢
        refine WFs_2 hW ?_
        split at hy <;> omega
      · rw [if_neg h1] at hy ⊢
        by_cases h2 : w = 2
        · rw [if_pos h2] at hy ⊢
          have := WF_sin hW (j := c) (by omega)
          exact WFs_2 hW (by omega)
        · rw [if_neg h2] at hy ⊢
          by_cases h3 : w = 3
          · rw [if_pos h3] at hy ⊢
            refine WFs_3 hW ?_
            split at hy <;> omega
          · rw [if_neg h3] at hy ⊢
            by_cases h4 : w = 4
            · rw [if_pos h4]
              exact WF_clr (WFb_3 (WF_fp hW c 4) (stb_lt _ hW.2.2.2.1 c (by omega)))
            · rw [if_neg h4]
              by_cases h5 : w = 5
              · rw [if_pos h5]
                have := WF_purse hW (j := p) (by omega)
                exact WFs_9 (WFs_5 hW (by omega)) (by omega)
              · rw [if_neg h5, if_pos (by omega)]
                exact hW
theorem x_do {I : ax_I} {b a : Nat} {D : pD} (hC : CR I b D) (hW : WF D) (ha : a < b ∨ b + 11 < a) {w c p q : Nat} (hw : w ≤ 7) (hcc : c ≤ 5) (hp : p ≤ 3) (hq : q ≤ 7) (a0 : I a 0 = nI w) (a1 : I a 1 = nI c) (a2 : I a 2 = nI q) (a3 : I a 3 = nI p) (hy : pWhy D w c p q = 0) : ∃ I', F_X2_live I b a = some I' ∧ CR I' b (pDo D w c p q) ∧ FX b I I' := by
  have hi6 : ax_in (nI c) 6 = true := p_in (by omega) (by decide)
  have hi48 : ax_in (nI (8 * c + q)) 48 = true := p_in (by omega) (by decide)
  have hi4 : ax_in (nI p) 4 = true := p_in (by omega) (by decide)
  have k6 : (nI c).toNatClampNeg = c := p_cl (by omega)
  have k48 : (nI (8 * c + q)).toNatClampNeg = 8 * c + q := p_cl (by omega)
  have k4 : (nI p).toNatClampNeg = p := p_cl (by omega)
  have c2 : I b 2 = nI (D 0 1) := hC.2.2.1
  have fr : ∀ (r j : Nat) (x : Int32), b ≤ r → r ≤ b + 11 → FX b I (ax_u I r j x) := fun r j x h1 h2 r' j' h => by rw [ax_u_n (by omega)]
  unfold pWhy at hy
  rcases (show w = 0 ∨ w = 1 ∨ w = 2 ∨ w = 3 ∨ w = 4 ∨ w = 5 ∨ w = 6 ∨ w = 7 by omega) with rfl | rfl | rfl | rfl | rfl | rfl | rfl | rfl
  · refine ⟨ax_u I (b + 1) c (nI (D 1 c + 1)), ?_, CRs_1 hC, fr _ _ _ (by omega) (by omega)⟩
    rw [F_X2_live, a0, if_pos (by decide), a1, if_pos hi6, if_pos hi6, k6, CR_won hC (j := c) (by omega), nI_1]
  · refine ⟨ax_u I (b + 2) c (nI (D 2 c + 1)), ?_, CRs_2 hC, fr _ _ _ (by omega) (by omega)⟩
    rw [F_X2_live, a0, if_neg (by decide), if_pos (by decide), a1, if_pos hi6, if_pos hi6, k6, CR_sin hC (j := c) (by omega), nI_1]
  · have hs : 0 < D 2 c := by
      rcases Nat.eq_zero_or_pos (D 2 c) with h | h
      · exfalso
        rw [h] at hy
        repeat' split at hy
        all_goals omega
      · exact h
    refine ⟨ax_u I (b + 2) c (nI (D 2 c - 1)), ?_, CRs_2 hC, fr _ _ _ (by omega) (by omega)⟩
    rw [F_X2_live, a0, if_neg (by decide), if_neg (by decide), if_pos (by decide), a1, if_pos hi6, if_pos hi6, k6, CR_sin hC (j := c) (by omega), show nI (D 2 c) - 1 = nI (D 2 c - 1) from pk_sub (b := 1) hs]
  · refine ⟨ax_u I (b + 3) c (nI (D 3 c + 1)), ?_, CRs_3 hC, fr _ _ _ (by omega) (by omega)⟩
    rw [F_X2_live, a0, if_neg (by decide), if_neg (by decide), if_neg (by decide), if_pos (by decide), a1, if_pos hi6, if_pos hi6, k6, CR_eye hC (j := c) (by omega), nI_1]
  · obtain ⟨I', h1, h2, h3⟩ := x_fall hC hW hcc
    refine ⟨I', ?_, h2, h3⟩
    rw [F_X2_live, a0, if_neg (by decide), if_neg (by decide), if_neg (by decide), if_neg (by decide), if_pos (by decide), a1, h1, p_some]
  · have hs : 10 ≤ D 9 p := by
      rcases Nat.lt_or_ge (D 9 p) 10 with h | h
      · exfalso
        repeat' split at hy
        all_goals omega
      · exact h
    have u3 : (ax_u I (b + 4) (8 * c + q) (nI p)) a 3 = nI p := by rw [ax_u_n (by omega)]; exact a3
    have u9 : (ax_u I (b + 4) (8 * c + q) (nI p)) (b + 8) p = nI (D 9 p) := by rw [ax_u_n (by omega)]; exact CR_purse hC (by omega)
    refine ⟨ax_u (ax_u I (b + 4) (8 * c + q) (nI p)) (b + 8) p (nI (D 9 p - 10)), ?_, ?_, ?_⟩
    · rw [F_X2_live, a0, if_neg (by decide), if_neg (by decide), if_neg (by decide), if_neg (by decide), if_neg (by decide), if_pos (by decide), a1, a2, a3, p_ix, if_pos hi48, k48, u3, if_pos hi4, if_pos hi4, k4, u9, f_X2_live_162, show nI (D 9 p) - 10 = nI (D 9 p - 10) from pk_sub (b := 10) hs]
    · have q1 := CRs_8 (c := p) (v := D 9 p - 10) (CRs_4 (c := 8 * c + q) (v := p + 1) hC)
      rw [hv_s] at q1
      exact q1
    · intro r j hr
      rw [ax_u_n (by omega), ax_u_n (by omega)]
  · refine ⟨I, ?_, hC, fun r j _ => rfl⟩
    rw [F_X2_live, a0, if_neg (by decide), if_neg (by decide), if_neg (by decide), if_neg (by decide), if_neg (by decide), if_neg (by decide), if_pos (by decide)]
  · refine ⟨ax_u I b 2 (nI (D 0 1 + 1)), ?_, CRb_2 hC, fr _ _ _ (by omega) (by omega)⟩
    rw [F_X2_live, a0, if_neg (by decide), if_neg (by decide), if_neg (by decide), if_neg (by decide), if_neg (by decide), if_neg (by decide), if_neg (by decide), if_pos (by decide), c2, nI_1]
theorem m_do {I : ax_I} {D : pD} (hM : MR I D) (hW : WF D) {w c p q : Nat} (hw : w ≤ 7) (hw6 : w ≠ 6) (hcc : c ≤ 5) (hp : p ≤ 3) (hq : q ≤ 7) (hy : pWhy D w c p q = 0) : ∃ I', F_X7_happen I (nI w) (nI c) (nI p) (nI q) = some I' ∧ MR I' (pDo D w c p q) ∧ FM I I' := by
  have hi6 : ax_in (nI c) 6 = true := p_in (by omega) (by decide)
  have hi48 : ax_in (nI (8 * c + q)) 48 = true := p_in (by omega) (by decide)
  have hi4 : ax_in (nI p) 4 = true := p_in (by omega) (by decide)
  have k6 : (nI c).toNatClampNeg = c := p_cl (by omega)
  have k48 : (nI (8 * c + q)).toNatClampNeg = 8 * c + q := p_cl (by omega)
  have k4 : (nI p).toNatClampNeg = p := p_cl (by omega)
  have c2 : I 35 1 = nI (D 0 1) := hM.2.1
  have fr : ∀ (r j : Nat) (x : Int32), (r = 36 ∨ r = 37 ∨ r = 38) → FM I (ax_u I r j x) := fun r j x h1 => ⟨fun r' j' g1 g2 g3 g4 g5 g6 g7 => by rw [ax_u_n (by omega)], fun j' _ => by rw [ax_u_n (by omega)]⟩
  unfold pWhy at hy
  rcases (show w = 0 ∨ w = 1 ∨ w = 2 ∨ w = 3 ∨ w = 4 ∨ w = 5 ∨ w = 7 by omega) with rfl | rfl | rfl | rfl | rfl | rfl | rfl
  · refine ⟨ax_u I 36 c (nI (D 1 c + 1)), ?_, MRs_1 hM, fr _ _ _ (by omega)⟩
    rw [F_X7_happen, if_pos (by decide), if_pos hi6, if_pos hi6, k6, MR_won hM (j := c) (by omega), nI_1]
  · refine ⟨ax_u I 37 c (nI (D 2 c + 1)), ?_, MRs_2 hM, fr _ _ _ (by omega)⟩
    rw [F_X7_happen, if_neg (by decide), if_pos (by decide), if_pos hi6, if_pos hi6, k6, MR_sin hM (j := c) (by omega), nI_1]
  · have hs : 0 < D 2 c := by
      rcases Nat.eq_zero_or_pos (D 2 c) with h | h
      · exfalso
        rw [h] at hy
        repeat' split at hy
        all_goals omega
      · exact h
    refine ⟨ax_u I 37 c (nI (D 2 c - 1)), ?_, MRs_2 hM, fr _ _ _ (by omega)⟩
    rw [F_X7_happen, if_neg (by decide), if_neg (by decide), if_pos (by decide), if_pos hi6, if_pos hi6, k6, MR_sin hM (j := c) (by omega), show nI (D 2 c) - 1 = nI (D 2 c - 1) from pk_sub (b := 1) hs]
  · refine ⟨ax_u I 38 c (nI (D 3 c + 1)), ?_, MRs_3 hM, fr _ _ _ (by omega)⟩
    rw [F_X7_happen, if_neg (by decide), if_neg (by decide), if_neg (by decide), if_pos (by decide), if_pos hi6, if_pos hi6, k6, MR_eye hM (j := c) (by omega), nI_1]
  · obtain ⟨I', h1, h2, h3⟩ := m_fall hM hW hcc
    refine ⟨I', ?_, h2, h3⟩
    rw [F_X7_happen, if_neg (by decide), if_neg (by decide), if_neg (by decide), if_neg (by decide), if_pos (by decide), h1, p_some]
  · have hs : 10 ≤ D 9 p := by
      rcases Nat.lt_or_ge (D 9 p) 10 with h | h
      · exfalso
        repeat' split at hy
        all_goals omega
      · exact h
    have u9 : (ax_u I 40 (8 * c + q) (nI p)) 44 p = nI (D 9 p) := by rw [ax_u_n (by omega)]; exact MR_purse hM (by omega)
    refine ⟨ax_u (ax_u I 40 (8 * c + q) (nI p)) 44 p (nI (D 9 p - 10)), ?_, ?_, ?_, ?_⟩
    · rw [F_X7_happen, if_neg (by decide), if_neg (by decide), if_neg (by decide), if_neg (by decide), if_neg (by decide), if_pos (by decide), p_ix2, if_pos hi48, if_pos hi4, if_pos hi4, k48, k4, u9, f_X7_happen_128, show nI (D 9 p) - 10 = nI (D 9 p - 10) from pk_sub (b := 10) hs]
    · have q1 := MRs_9 (c := p) (v := D 9 p - 10) (MRs_5 (c := 8 * c + q) (v := p + 1) hM)
      rw [hv_s] at q1
      exact q1
    · intro r j g1 g2 g3 g4 g5 g6 g7
      rw [ax_u_n g7, ax_u_n g6]
    · intro j _
      rw [ax_u_n (by decide), ax_u_n (by decide)]
  · refine ⟨ax_u I 35 1 (nI (D 0 1 + 1)), ?_, MRb_1 hM, fun r' j' g1 g2 g3 g4 g5 g6 g7 => by rw [ax_u_n g1], fun j' hj => by rw [ax_u_nj hj]⟩
    rw [F_X7_happen, if_neg (by decide), if_neg (by decide), if_neg (by decide), if_neg (by decide), if_neg (by decide), if_neg (by decide), if_neg (by decide), c2, nI_1]
