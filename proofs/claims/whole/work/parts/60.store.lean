/-! ===== the model stores its rows, and lays them back ===== -/
def svI (I : ax_I) (j : Nat) : Int32 := if j < 6 then I 36 j else if j < 12 then I 37 (j - 6) else if j < 18 then I 38 (j - 12) else if j < 24 then I 39 (j - 18) else if j < 72 then I 40 (j - 24) else if j < 76 then I 44 (j - 72) else I 35 1
def SP (I0 I : ax_I) (k1 : Nat) (P : Nat → Prop) : Prop := (∀ r j, r ≠ k1 → I r j = I0 r j) ∧ ∀ j, P j → I k1 j = svI I0 j
theorem sp_u {I0 I : ax_I} {k1 : Nat} {P : Nat → Prop} (h : SP I0 I k1 P) {j0 : Nat} {x : Int32} (hx : x = svI I0 j0) : SP I0 (ax_u I k1 j0 x) k1 (fun j => P j ∨ j = j0) := by
  refine ⟨fun r j hr => by rw [ax_u_n hr]; exact h.1 r j hr, ?_⟩
  intro j hj
  by_cases e : j = j0
  · rw [e, ax_u_ss]; exact hx
  · rw [ax_u_nj e]
    rcases hj with hj | hj
    · exact h.2 j hj
    · exact absurd hj e
theorem sp_w {I0 I : ax_I} {k1 : Nat} {P Q : Nat → Prop} (h : SP I0 I k1 P) (hq : ∀ j, Q j → P j) : SP I0 I k1 Q := ⟨h.1, fun j hj => h.2 j (hq j hj)⟩
theorem st87 {I0 : ax_I} {k1 n1 : Nat} (hk : 50 < k1) (hn : 77 ≤ n1) (hn2 : n1 ≤ 83) : ∀ (f m : Nat) (I : ax_I), m ≤ 4 → m < f → SP I0 I k1 (fun j => j < 72 + (4 - m)) → ∃ I', f_X7_store_87 k1 n1 f I (nI (4 - m)) = some I' ∧ SP I0 I' k1 (fun j => j < 77)
  | 0, m, I, _, h, _ => by omega
  | f + 1, 0, I, _, h, hS => by
    have hi : ax_in 76 n1 = true := p_in (i := 76) (by omega) (by omega)
    have hc : (76 : Int32).toNatClampNeg = 76 := by decide
    rw [f_X7_store_87, if_pos (by decide), if_pos hi, hc]
    refine ⟨_, rfl, sp_w (sp_u hS (j0 := 76) ?_) (fun j hj => by omega)⟩
    rw [hS.1 35 1 (by omega)]
    rfl
  | f + 1, m + 1, I, hm, h, hS => by
    have e5 : 4 - (m + 1) + 1 = 4 - m := by omega
    have hlt : 4 - (m + 1) < 4 := by omega
    obtain ⟨k, hk2⟩ : ∃ k, k = 4 - (m + 1) := ⟨_, rfl⟩
    rw [← hk2] at hlt e5 hS ⊢
    have ng : ¬ (4 : Int32) ≤ nI k := nI_ge (a := k) (b := 4) hlt (by decide)
    have hi : ax_in (nI k) 4 = true := p_in hlt (by decide)
    have hcl : (nI k).toNatClampNeg = k := p_cl (by omega)
    have ea : (72 : Int32) + nI k = nI (72 + k) := nI_add 72 k
    have hi2 : ax_in (nI (72 + k)) n1 = true := p_in (by omega) (by omega)
    have hcl2 : (nI (72 + k)).toNatClampNeg = 72 + k := p_cl (by omega)
    have hv : I 44 k = svI I0 (72 + k) := by
      unfold svI
      rw [if_neg (by omega), if_neg (by omega), if_neg (by omega), if_neg (by omega), if_neg (by omega), if_pos (by omega), hS.1 44 k (by omega)]
      congr 1; omega
    obtain ⟨I', h1, h2⟩ := st87 hk hn hn2 f m (ax_u I k1 (72 + k) (I 44 k)) (by omega) (by omega) (sp_w (sp_u hS hv) (fun j hj => by omega))
    refine ⟨I', ?_, h2⟩
    rw [f_X7_store_87, if_neg ng, if_pos hi, ea, if_pos hi2, hcl, hcl2, nI_1, e5]
    exact h1
theorem st61 {I0 : ax_I} {k1 n1 : Nat} (hk : 50 < k1) (hn : 77 ≤ n1) (hn2 : n1 ≤ 83) : ∀ (f m : Nat) (I : ax_I), m ≤ 48 → m < f → SP I0 I k1 (fun j => j < 24 + (48 - m)) → ∃ I', f_X7_store_61 k1 n1 f I (nI (48 - m)) = some I' ∧ SP I0 I' k1 (fun j => j < 77)
  | 0, m, I, _, h, _ => by omega
  | f + 1, 0, I, _, h, hS => by
    rw [f_X7_store_61, if_pos (by decide)]
    exact st87 hk hn hn2 ax_N 4 I (by decide) (by decide) (sp_w hS (fun j hj => by omega))
  | f + 1, m + 1, I, hm, h, hS => by
    have e5 : 48 - (m + 1) + 1 = 48 - m := by omega
    have hlt : 48 - (m + 1) < 48 := by omega
    obtain ⟨k, hk2⟩ : ∃ k, k = 48 - (m + 1) := ⟨_, rfl⟩
    rw [← hk2] at hlt e5 hS ⊢
    have ng : ¬ (48 : Int32) ≤ nI k := nI_ge (a := k) (b := 48) hlt (by decide)
    have hi : ax_in (nI k) 48 = true := p_in hlt (by decide)
    have hcl : (nI k).toNatClampNeg = k := p_cl (by omega)
    have ea : (24 : Int32) + nI k = nI (24 + k) := nI_add 24 k
    have hi2 : ax_in (nI (24 + k)) n1 = true := p_in (by omega) (by omega)
    have hcl2 : (nI (24 + k)).toNatClampNeg = 24 + k := p_cl (by omega)
    have hv : I 40 k = svI I0 (24 + k) := by
      unfold svI
      rw [if_neg (by omega), if_neg (by omega), if_neg (by omega), if_neg (by omega), if_pos (by omega), hS.1 40 k (by omega)]
      congr 1; omega
    obtain ⟨I', h1, h2⟩ := st61 hk hn hn2 f m (ax_u I k1 (24 + k) (I 40 k)) (by omega) (by omega) (sp_w (sp_u hS hv) (fun j hj => by omega))
    refine ⟨I', ?_, h2⟩
    rw [f_X7_store_61, if_neg ng, if_pos hi, ea, if_pos hi2, hcl, hcl2, nI_1, e5]
    exact h1
def P6 (c j : Nat) : Prop := j < c ∨ (6 ≤ j ∧ j < 6 + c) ∨ (12 ≤ j ∧ j < 12 + c) ∨ (18 ≤ j ∧ j < 18 + c)
theorem st2 {I0 : ax_I} {k1 n1 : Nat} (hk : 50 < k1) (hn : 77 ≤ n1) (hn2 : n1 ≤ 83) : ∀ (f m : Nat) (I : ax_I), m ≤ 6 → m < f → SP I0 I k1 (P6 (6 - m)) → ∃ I', f_X7_store_2 k1 n1 f I (nI (6 - m)) = some I' ∧ SP I0 I' k1 (fun j => j < 77)
  | 0, m, I, _, h, _ => by omega
  | f + 1, 0, I, _, h, hS => by
    rw [f_X7_store_2, if_pos (by decide)]
    exact st61 hk hn hn2 ax_N 48 I (by decide) (by decide) (sp_w hS (fun j hj => by unfold P6; omega))
  | f + 1, m + 1, I, hm, h, hS => by
    have e5 : 6 - (m + 1) + 1 = 6 - m := by omega
    have hlt : 6 - (m + 1) < 6 := by omega
    obtain ⟨k, hk2⟩ : ∃ k, k = 6 - (m + 1) := ⟨_, rfl⟩
    rw [← hk2] at hlt e5 hS ⊢
    have ng : ¬ (6 : Int32) ≤ nI k := nI_ge (a := k) (b := 6) hlt (by decide)
    have hi : ax_in (nI k) 6 = true := p_in hlt (by decide)
    have hin : ax_in (nI k) n1 = true := p_in (by omega) (by omega)
    have hcl : (nI k).toNatClampNeg = k := p_cl (by omega)
    have ea : (6 : Int32) + nI k = nI (6 + k) := nI_add 6 k
    have eb : (12 : Int32) + nI k = nI (12 + k) := nI_add 12 k
    have ec : (18 : Int32) + nI k = nI (18 + k) := nI_add 18 k
    have ia : ax_in (nI (6 + k)) n1 = true := p_in (by omega) (by omega)
    have ib : ax_in (nI (12 + k)) n1 = true := p_in (by omega) (by omega)
    have ic : ax_in (nI (18 + k)) n1 = true := p_in (by omega) (by omega)
    have ca : (nI (6 + k)).toNatClampNeg = 6 + k := p_cl (by omega)
    have cb : (nI (12 + k)).toNatClampNeg = 12 + k := p_cl (by omega)
    have cc : (nI (18 + k)).toNatClampNeg = 18 + k := p_cl (by omega)
    have v1 : I 36 k = svI I0 k := by unfold svI; rw [if_pos (by omega), hS.1 36 k (by omega)]
    have S1 := sp_u hS v1
    have v2 : (ax_u I k1 k (I 36 k)) 37 k = svI I0 (6 + k) := by
      unfold svI; rw [if_neg (by omega), if_pos (by omega), S1.1 37 k (by omega)]; congr 1; omega
    have S2 := sp_u S1 v2
    have v3 : (ax_u (ax_u I k1 k (I 36 k)) k1 (6 + k) ((ax_u I k1 k (I 36 k)) 37 k)) 38 k = svI I0 (12 + k) := by
      unfold svI; rw [if_neg (by omega), if_neg (by omega), if_pos (by omega), S2.1 38 k (by omega)]; congr 1; omega
    have S3 := sp_u S2 v3
    have v4 : (ax_u (ax_u (ax_u I k1 k (I 36 k)) k1 (6 + k) ((ax_u I k1 k (I 36 k)) 37 k)) k1 (12 + k) ((ax_u (ax_u I k1 k (I 36 k)) k1 (6 + k) ((ax_u I k1 k (I 36 k)) 37 k)) 38 k)) 39 k = svI I0 (18 + k) := by
      unfold svI; rw [if_neg (by omega), if_neg (by omega), if_neg (by omega), if_pos (by omega), S3.1 39 k (by omega)]; congr 1; omega
    have S4 := sp_u S3 v4
    obtain ⟨I', h1, h2⟩ := st2 hk hn hn2 f m _ (by omega) (by omega) (sp_w S4 (fun j hj => by unfold P6 at hj ⊢; omega))
    refine ⟨I', ?_, h2⟩
    rw [f_X7_store_2, if_neg ng, if_pos hi, if_pos hin, if_pos hi, ea, if_pos ia, hcl, ca, f_X7_store_29, if_pos hi, eb, if_pos ib, if_pos hi, ec, if_pos ic, hcl, cb, cc, f_X7_store_53, nI_1, e5]
    exact h1
theorem m_store {I : ax_I} {k1 n1 : Nat} (hk : 50 < k1) (hn : 77 ≤ n1) (hn2 : n1 ≤ 83) : ∃ I', F_X7_store I k1 n1 = some I' ∧ SP I I' k1 (fun j => j < 77) := st2 hk hn hn2 ax_N 6 I (by decide) (by decide) ⟨fun _ _ _ => rfl, fun j hj => by unfold P6 at hj; omega⟩
def loR (r : Nat) : Nat := if r = 36 then 0 else if r = 37 then 6 else if r = 38 then 12 else if r = 39 then 18 else if r = 40 then 24 else 72
def LF (I0 I : ax_I) : Prop := ∀ r j, r ≠ 36 → r ≠ 37 → r ≠ 38 → r ≠ 39 → r ≠ 40 → r ≠ 44 → ¬ (r = 35 ∧ j = 1) → I r j = I0 r j
def LPl (I0 I : ax_I) (P : Nat → Nat → Prop) : Prop := LF I0 I ∧ ∀ r j, P r j → I r j = I0 55 (loR r + j)
theorem lp_u {I0 I : ax_I} {P : Nat → Nat → Prop} (h : LPl I0 I P) {r0 j0 : Nat} {x : Int32} (hr : r0 = 36 ∨ r0 = 37 ∨ r0 = 38 ∨ r0 = 39 ∨ r0 = 40 ∨ r0 = 44) (hx : x = I0 55 (loR r0 + j0)) : LPl I0 (ax_u I r0 j0 x) (fun r j => P r j ∨ (r = r0 ∧ j = j0)) := by
  refine ⟨fun r j g1 g2 g3 g4 g5 g6 g7 => by rw [ax_u_n (by omega)]; exact h.1 r j g1 g2 g3 g4 g5 g6 g7, ?_⟩
  intro r j hj
  rw [ax_u_at]
  by_cases e : r = r0 ∧ j = j0
  · rw [if_pos e, e.1, e.2]; exact hx
  · rw [if_neg e]
    rcases hj with hj | hj
    · exact h.2 r j hj
    · exact absurd hj e
theorem lp_w {I0 I : ax_I} {P Q : Nat → Nat → Prop} (h : LPl I0 I P) (hq : ∀ r j, Q r j → P r j) : LPl I0 I Q := ⟨h.1, fun r j hj => h.2 r j (hq r j hj)⟩
theorem LF55 {I0 I : ax_I} (h : LF I0 I) (j : Nat) : I 55 j = I0 55 j := h 55 j (by decide) (by decide) (by decide) (by decide) (by decide) (by decide) (by omega)
def QA (r j : Nat) : Prop := (36 ≤ r ∧ r ≤ 39 ∧ j < 6) ∨ (r = 40 ∧ j < 48) ∨ (r = 44 ∧ j < 4)
theorem ly87 {I0 : ax_I} : ∀ (f m : Nat) (I : ax_I), m ≤ 4 → m < f → LPl I0 I (fun r j => (36 ≤ r ∧ r ≤ 39 ∧ j < 6) ∨ (r = 40 ∧ j < 48) ∨ (r = 44 ∧ j < 4 - m)) → ∃ I', f_X7_lay_87 55 77 f I (nI (4 - m)) = some I' ∧ LPl I0 I' QA ∧ I' 35 1 = I0 55 76
  | 0, m, I, _, h, _ => by omega
  | f + 1, 0, I, _, h, hS => by
    have hi : ax_in 76 77 = true := by decide
    have hc : (76 : Int32).toNatClampNeg = 76 := by decide
    rw [f_X7_lay_87, if_pos (by decide), if_pos hi, hc]
    refine ⟨_, rfl, ⟨fun r j g1 g2 g3 g4 g5 g6 g7 => ?_, fun r j hj => ?_⟩, ?_⟩
    · rw [ax_u_at, if_neg g7]; exact hS.1 r j g1 g2 g3 g4 g5 g6 g7
    · rw [ax_u_n (by unfold QA at hj; omega)]; exact hS.2 r j hj
    · rw [ax_u_ss]; exact LF55 hS.1 76
  | f + 1, m + 1, I, hm, h, hS => by
    have e5 : 4 - (m + 1) + 1 = 4 - m := by omega
    have hlt : 4 - (m + 1) < 4 := by omega
    obtain ⟨k, hk2⟩ : ∃ k, k = 4 - (m + 1) := ⟨_, rfl⟩
    rw [← hk2] at hlt e5 hS ⊢
    have ng : ¬ (4 : Int32) ≤ nI k := nI_ge (a := k) (b := 4) hlt (by decide)
    have hi : ax_in (nI k) 4 = true := p_in hlt (by decide)
    have hcl : (nI k).toNatClampNeg = k := p_cl (by omega)
    have ea : (72 : Int32) + nI k = nI (72 + k) := nI_add 72 k
    have hi2 : ax_in (nI (72 + k)) 77 = true := p_in (by omega) (by decide)
    have hcl2 : (nI (72 + k)).toNatClampNeg = 72 + k := p_cl (by omega)
    have hv : I 55 (72 + k) = I0 55 (loR 44 + k) := LF55 hS.1 _
    obtain ⟨I', h1, h2⟩ := ly87 f m (ax_u I 44 k (I 55 (72 + k))) (by omega) (by omega) (lp_w (lp_u hS (by omega) hv) (fun r j hj => by omega))
    refine ⟨I', ?_, h2⟩
    rw [f_X7_lay_87, if_neg ng, ea, if_pos hi2, if_pos hi, hcl, hcl2, nI_1, e5]
    exact h1
theorem ly61 {I0 : ax_I} : ∀ (f m : Nat) (I : ax_I), m ≤ 48 → m < f → LPl I0 I (fun r j => (36 ≤ r ∧ r ≤ 39 ∧ j < 6) ∨ (r = 40 ∧ j < 48 - m)) → ∃ I', f_X7_lay_61 55 77 f I (nI (48 - m)) = some I' ∧ LPl I0 I' QA ∧ I' 35 1 = I0 55 76
  | 0, m, I, _, h, _ => by omega
  | f + 1, 0, I, _, h, hS => by
    rw [f_X7_lay_61, if_pos (by decide)]
    exact ly87 ax_N 4 I (by decide) (by decide) (lp_w hS (fun r j hj => by omega))
  | f + 1, m + 1, I, hm, h, hS => by
    have e5 : 48 - (m + 1) + 1 = 48 - m := by omega
    have hlt : 48 - (m + 1) < 48 := by omega
    obtain ⟨k, hk2⟩ : ∃ k, k = 48 - (m + 1) := ⟨_, rfl⟩
    rw [← hk2] at hlt e5 hS ⊢
    have ng : ¬ (48 : Int32) ≤ nI k := nI_ge (a := k) (b := 48) hlt (by decide)
    have hi : ax_in (nI k) 48 = true := p_in hlt (by decide)
    have hcl : (nI k).toNatClampNeg = k := p_cl (by omega)
    have ea : (24 : Int32) + nI k = nI (24 + k) := nI_add 24 k
    have hi2 : ax_in (nI (24 + k)) 77 = true := p_in (by omega) (by decide)
    have hcl2 : (nI (24 + k)).toNatClampNeg = 24 + k := p_cl (by omega)
    have hv : I 55 (24 + k) = I0 55 (loR 40 + k) := LF55 hS.1 _
    obtain ⟨I', h1, h2⟩ := ly61 f m (ax_u I 40 k (I 55 (24 + k))) (by omega) (by omega) (lp_w (lp_u hS (by omega) hv) (fun r j hj => by omega))
    refine ⟨I', ?_, h2⟩
    rw [f_X7_lay_61, if_neg ng, ea, if_pos hi2, if_pos hi, hcl, hcl2, nI_1, e5]
    exact h1
theorem ly2 {I0 : ax_I} : ∀ (f m : Nat) (I : ax_I), m ≤ 6 → m < f → LPl I0 I (fun r j => 36 ≤ r ∧ r ≤ 39 ∧ j < 6 - m) → ∃ I', f_X7_lay_2 55 77 f I (nI (6 - m)) = some I' ∧ LPl I0 I' QA ∧ I' 35 1 = I0 55 76
  | 0, m, I, _, h, _ => by omega
  | f + 1, 0, I, _, h, hS => by
    rw [f_X7_lay_2, if_pos (by decide)]
    exact ly61 ax_N 48 I (by decide) (by decide) (lp_w hS (fun r j hj => by omega))
  | f + 1, m + 1, I, hm, h, hS => by
    have e5 : 6 - (m + 1) + 1 = 6 - m := by omega
    have hlt : 6 - (m + 1) < 6 := by omega
    obtain ⟨k, hk2⟩ : ∃ k, k = 6 - (m + 1) := ⟨_, rfl⟩
    rw [← hk2] at hlt e5 hS ⊢
    have ng : ¬ (6 : Int32) ≤ nI k := nI_ge (a := k) (b := 6) hlt (by decide)
    have hi : ax_in (nI k) 6 = true := p_in hlt (by decide)
    have hin : ax_in (nI k) 77 = true := p_in (by omega) (by decide)
    have hcl : (nI k).toNatClampNeg = k := p_cl (by omega)
    have ea : (6 : Int32) + nI k = nI (6 + k) := nI_add 6 k
    have eb : (12 : Int32) + nI k = nI (12 + k) := nI_add 12 k
    have ec : (18 : Int32) + nI k = nI (18 + k) := nI_add 18 k
    have ia : ax_in (nI (6 + k)) 77 = true := p_in (by omega) (by decide)
    have ib : ax_in (nI (12 + k)) 77 = true := p_in (by omega) (by decide)
    have ic : ax_in (nI (18 + k)) 77 = true := p_in (by omega) (by decide)
    have ca : (nI (6 + k)).toNatClampNeg = 6 + k := p_cl (by omega)
    have cb : (nI (12 + k)).toNatClampNeg = 12 + k := p_cl (by omega)
    have cc : (nI (18 + k)).toNatClampNeg = 18 + k := p_cl (by omega)
    have v1 : I 55 k = I0 55 (loR 36 + k) := by rw [show loR 36 + k = k from Nat.zero_add k]; exact LF55 hS.1 _
    have S1 := lp_u hS (r0 := 36) (by omega) v1
    have v2 : (ax_u I 36 k (I 55 k)) 55 (6 + k) = I0 55 (loR 37 + k) := LF55 S1.1 _
    have S2 := lp_u S1 (r0 := 37) (by omega) v2
    have v3 : (ax_u (ax_u I 36 k (I 55 k)) 37 k ((ax_u I 36 k (I 55 k)) 55 (6 + k))) 55 (12 + k) = I0 55 (loR 38 + k) := LF55 S2.1 _
    have S3 := lp_u S2 (r0 := 38) (by omega) v3
    have v4 : (ax_u (ax_u (ax_u I 36 k (I 55 k)) 37 k ((ax_u I 36 k (I 55 k)) 55 (6 + k))) 38 k ((ax_u (ax_u I 36 k (I 55 k)) 37 k ((ax_u I 36 k (I 55 k)) 55 (6 + k))) 55 (12 + k))) 55 (18 + k) = I0 55 (loR 39 + k) := LF55 S3.1 _
    have S4 := lp_u S3 (r0 := 39) (by omega) v4
    obtain ⟨I', h1, h2⟩ := ly2 f m _ (by omega) (by omega) (lp_w S4 (fun r j hj => by omega))
    refine ⟨I', ?_, h2⟩
    rw [f_X7_lay_2, if_neg ng, if_pos hin, if_pos hi, ea, if_pos ia, if_pos hi, hcl, ca, f_X7_lay_29, eb, if_pos ib, if_pos hi, ec, if_pos ic, if_pos hi, hcl, cb, cc, f_X7_lay_53, nI_1, e5]
    exact h1
theorem m_lay (I : ax_I) : ∃ I', F_X7_lay I 55 77 = some I' ∧ LPl I I' QA ∧ I' 35 1 = I 55 76 := ly2 ax_N 6 I (by decide) (by decide) ⟨fun _ _ _ _ _ _ _ _ _ => rfl, fun r j hj => by omega⟩
/-- what was stored at 55 from a world that shows D, laid back over one that keeps the other rows, shows D -/
theorem MR_lay {Ia Ib Ic : ax_I} {D : pD} (hM : MR Ia D) (h55 : ∀ j, j < 77 → Ib 55 j = svI Ia j) (hL : LPl Ib Ic QA) (h1 : Ic 35 1 = Ib 55 76) (hr : ∀ r j, ((41 ≤ r ∧ r ≤ 43) ∨ (45 ≤ r ∧ r ≤ 49)) → Ib r j = Ia r j) (h0 : Ib 35 0 = Ia 35 0) (h16 : Ib 35 16 = Ia 35 16) : MR Ic D := by
  have g : ∀ r j, QA r j → Ic r j = svI Ia (loR r + j) := by
    intro r j q
    refine (hL.2 r j q).trans (h55 _ ?_)
    unfold QA at q
    unfold loR
    repeat' split
    all_goals omega
  have o : ∀ r j, ((41 ≤ r ∧ r ≤ 43) ∨ (45 ≤ r ∧ r ≤ 49)) → Ic r j = Ia r j := fun r j h => (hL.1 r j (by omega) (by omega) (by omega) (by omega) (by omega) (by omega) (by omega)).trans (hr r j h)
  refine ⟨?_, ?_, ?_, ?_, ?_, ?_, ?_, ?_, ?_, ?_, ?_, ?_, ?_, ?_, ?_, ?_, ?_⟩
  · exact ((hL.1 35 0 (by decide) (by decide) (by decide) (by decide) (by decide) (by decide) (by decide)).trans h0).trans hM.1
  · exact (h1.trans (h55 76 (by decide))).trans hM.2.1
  · exact ((hL.1 35 16 (by decide) (by decide) (by decide) (by decide) (by decide) (by decide) (by decide)).trans h16).trans hM.2.2.1
  · intro j hj
    refine (g 36 j (by unfold QA; omega)).trans ?_
    rw [show loR 36 + j = j from Nat.zero_add j]; unfold svI; rw [if_pos hj]; exact MR_won hM hj
  · intro j hj
    refine (g 37 j (by unfold QA; omega)).trans ?_
    rw [show loR 37 + j = 6 + j from rfl]; unfold svI; rw [if_neg (by omega), if_pos (by omega), show 6 + j - 6 = j by omega]; exact MR_sin hM hj
  · intro j hj
    refine (g 38 j (by unfold QA; omega)).trans ?_
    rw [show loR 38 + j = 12 + j from rfl]; unfold svI; rw [if_neg (by omega), if_neg (by omega), if_pos (by omega), show 12 + j - 12 = j by omega]; exact MR_eye hM hj
  · intro j hj
    refine (g 39 j (by unfold QA; omega)).trans ?_
    rw [show loR 39 + j = 18 + j from rfl]; unfold svI; rw [if_neg (by omega), if_neg (by omega), if_neg (by omega), if_pos (by omega), show 18 + j - 18 = j by omega]; exact MR_fal hM hj
  · intro j hj
    refine (g 40 j (by unfold QA; omega)).trans ?_
    rw [show loR 40 + j = 24 + j from rfl]; unfold svI; rw [if_neg (by omega), if_neg (by omega), if_neg (by omega), if_neg (by omega), if_pos (by omega), show 24 + j - 24 = j by omega]; exact MR_hold hM hj
  · intro j hj; exact (o 41 j (by omega)).trans (MR_cost hM hj)
  · intro j hj; exact (o 42 j (by omega)).trans (MR_worth hM hj)
  · intro j hj; exact (o 43 j (by omega)).trans (MR_days hM hj)
  · intro j hj
    refine (g 44 j (by unfold QA; omega)).trans ?_
    rw [show loR 44 + j = 72 + j from rfl]; unfold svI; rw [if_neg (by omega), if_neg (by omega), if_neg (by omega), if_neg (by omega), if_neg (by omega), if_pos (by omega), show 72 + j - 72 = j by omega]; exact MR_purse hM hj
  · intro j hj; exact (o 45 j (by omega)).trans (MR_rule hM hj)
  · intro j hj; exact (o 46 j (by omega)).trans (MR_saw hM hj)
  · intro j hj; exact (o 47 j (by omega)).trans (MR_sw hM hj)
  · intro j hj; exact (o 48 j (by omega)).trans (MR_ss hM hj)
  · intro j hj; exact (o 49 j (by omega)).trans (MR_st hM hj)
