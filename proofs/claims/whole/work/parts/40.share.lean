/-! ===== who holds what ===== -/
def pbk (h : Nat → Int32) (v : Int32) : Nat → Nat → Nat
  | 0, a => a
  | m + 1, a => pbk h v m (if h (7 - m) = v then a ||| 2 ^ (7 - m) else a)
/-- the holders of child c's parts -/
def hc (D : pD) (c : Nat) : Nat → Int32 := fun j => hv (D 5 (8 * c + j))
def pB (D : pD) (c : Nat) (v : Int32) : Nat := pbk (hc D c) v 8 0
theorem p_ge8 {k : Nat} (h : k < 8) : ¬ (8 : Int32) ≤ nI k := nI_ge (a := k) (b := 8) h (by decide)
theorem x_pbk {b : Nat} {I : ax_I} {D : pD} (hC : CR I b D) {c : Nat} (hcc : c ≤ 5) (v : Int32) : ∀ (n m a : Nat), m ≤ 8 → m < n → f_X2_partBits_5 b n I (nI c) v (nI a) (nI (8 - m)) = some (nI (pbk (hc D c) v m a))
  | 0, m, a, _, h => by omega
  | n + 1, 0, a, _, h => by
    rw [f_X2_partBits_5, if_pos (by decide)]; rfl
  | n + 1, m + 1, a, hm, h => by
    have e6 : 8 - (m + 1) = 7 - m := by omega
    have e5 : 7 - m + 1 = 8 - m := by omega
    have ix : nI c * 8 + nI (7 - m) = nI (8 * c + (7 - m)) := by
      rw [show nI c * 8 = nI (c * 8) from pk_mul c 8, nI_add, Nat.mul_comm]
    have hi : ax_in (nI (8 * c + (7 - m))) 48 = true := p_in (by omega) (by decide)
    have hcl : (nI (8 * c + (7 - m))).toNatClampNeg = 8 * c + (7 - m) := p_cl (by omega)
    rw [f_X2_partBits_5, e6, if_neg (p_ge8 (by omega)), F_X2_holderOf, ix, if_pos hi, hcl, p_some, CR_hold hC (j := 8 * c + (7 - m)) (by omega), p_shl (by omega), p_or]
    simp only [f_X2_partBits_30, nI_1, e5]
    rw [x_pbk hC hcc v n m a (by omega) (by omega), x_pbk hC hcc v n m (a ||| 2 ^ (7 - m)) (by omega) (by omega), pbk]
    show (if hc D c (7 - m) = v then _ else _) = _
    split <;> rfl
theorem m_pbk {I : ax_I} {D : pD} (hM : MR I D) {c : Nat} (hcc : c ≤ 5) (v : Int32) : ∀ (n m a : Nat), m ≤ 8 → m < n → f_X7_heldBy_5 n I v (nI c) (nI a) (nI (8 - m)) = some (nI (pbk (hc D c) v m a))
  | 0, m, a, _, h => by omega
  | n + 1, 0, a, _, h => by
    rw [f_X7_heldBy_5, if_pos (by decide)]; rfl
  | n + 1, m + 1, a, hm, h => by
    have e6 : 8 - (m + 1) = 7 - m := by omega
    have e5 : 7 - m + 1 = 8 - m := by omega
    have ix : 8 * nI c + nI (7 - m) = nI (8 * c + (7 - m)) := by
      rw [show 8 * nI c = nI (8 * c) from pk_mul 8 c, nI_add]
    have hi : ax_in (nI (8 * c + (7 - m))) 48 = true := p_in (by omega) (by decide)
    have hcl : (nI (8 * c + (7 - m))).toNatClampNeg = 8 * c + (7 - m) := p_cl (by omega)
    rw [f_X7_heldBy_5, e6, if_neg (p_ge8 (by omega)), ix, if_pos hi, hcl, MR_hold hM (j := 8 * c + (7 - m)) (by omega), p_shl (by omega)]
    simp only [f_X7_heldBy_37, nI_1, e5]
    rw [p_or, show nI a ||| (0 : Int32) = nI (a ||| 0) from p_or a 0, Nat.or_zero]
    rw [m_pbk hM hcc v n m a (by omega) (by omega), m_pbk hM hcc v n m (a ||| 2 ^ (7 - m)) (by omega) (by omega), pbk]
    show (if hc D c (7 - m) = v then _ else _) = _
    split <;> rfl
theorem x_pB {b : Nat} {I : ax_I} {D : pD} (hC : CR I b D) {c : Nat} (hcc : c ≤ 5) (v : Int32) : F_X2_partBits I b (nI c) v = some (nI (pB D c v)) := x_pbk hC hcc v ax_N 8 0 (by decide) (by decide)
theorem m_pB {I : ax_I} {D : pD} (hM : MR I D) {c : Nat} (hcc : c ≤ 5) (v : Int32) : F_X7_heldBy I v (nI c) = some (nI (pB D c v)) := m_pbk hM hcc v ax_N 8 0 (by decide) (by decide)
def i01 (p : Bool) : Nat := if p then 1 else 0
def bs8 (b0 b1 b2 b3 b4 b5 b6 b7 : Bool) : Nat :=
  let a := if b0 then 0 ||| 1 else 0
  let a := if b1 then a ||| 2 else a
  let a := if b2 then a ||| 4 else a
  let a := if b3 then a ||| 8 else a
  let a := if b4 then a ||| 16 else a
  let a := if b5 then a ||| 32 else a
  let a := if b6 then a ||| 64 else a
  if b7 then a ||| 128 else a
theorem bs8_ok : ∀ b0 b1 b2 b3 b4 b5 b6 b7 : Bool, bs8 b0 b1 b2 b3 b4 b5 b6 b7 < 256 ∧ pcn (bs8 b0 b1 b2 b3 b4 b5 b6 b7) = i01 b0 + i01 b1 + i01 b2 + i01 b3 + i01 b4 + i01 b5 + i01 b6 + i01 b7 := by decide +kernel
/-- one where part j is held by v -/
def i1 (D : pD) (c : Nat) (v : Int32) (j : Nat) : Nat := i01 (decide (hc D c j = v))
theorem pB_bs (D : pD) (c : Nat) (v : Int32) : pB D c v = bs8 (decide (hc D c 0 = v)) (decide (hc D c 1 = v)) (decide (hc D c 2 = v)) (decide (hc D c 3 = v)) (decide (hc D c 4 = v)) (decide (hc D c 5 = v)) (decide (hc D c 6 = v)) (decide (hc D c 7 = v)) := by
  simp only [pB, pbk, bs8, decide_eq_true_eq]
theorem pB_lt (D : pD) (c : Nat) (v : Int32) : pB D c v < 256 := by rw [pB_bs]; exact (bs8_ok _ _ _ _ _ _ _ _).1
def cB (D : pD) (c : Nat) (v : Int32) : Nat := pcn (pB D c v)
theorem cB_eq (D : pD) (c : Nat) (v : Int32) : cB D c v = i1 D c v 0 + i1 D c v 1 + i1 D c v 2 + i1 D c v 3 + i1 D c v 4 + i1 D c v 5 + i1 D c v 6 + i1 D c v 7 := by
  unfold cB; rw [pB_bs]; exact (bs8_ok _ _ _ _ _ _ _ _).2
theorem hv_one : ∀ d, d < 5 → i01 (decide (hv d = -6)) + i01 (decide (hv d = nI 0)) + i01 (decide (hv d = nI 1)) + i01 (decide (hv d = nI 2)) + i01 (decide (hv d = nI 3)) = 1 := by decide +kernel
theorem i1_one {D : pD} (hW : WF D) {c : Nat} (hcc : c ≤ 5) {j : Nat} (hj : j < 8) : i1 D c (-6) j + i1 D c (nI 0) j + i1 D c (nI 1) j + i1 D c (nI 2) j + i1 D c (nI 3) j = 1 := by
  have := WF_hold hW (j := 8 * c + j) (by omega)
  exact hv_one _ (by omega)
/-- a child's held parts -/
def hP (D : pD) (c : Nat) : Nat := cB D c (nI 0) + cB D c (nI 1) + cB D c (nI 2) + cB D c (nI 3)
theorem hP_eq {D : pD} (hW : WF D) {c : Nat} (hcc : c ≤ 5) : cB D c (-6) + hP D c = 8 := by
  have h0 := i1_one hW hcc (j := 0) (by decide)
  have h1 := i1_one hW hcc (j := 1) (by decide)
  have h2 := i1_one hW hcc (j := 2) (by decide)
  have h3 := i1_one hW hcc (j := 3) (by decide)
  have h4 := i1_one hW hcc (j := 4) (by decide)
  have h5 := i1_one hW hcc (j := 5) (by decide)
  have h6 := i1_one hW hcc (j := 6) (by decide)
  have h7 := i1_one hW hcc (j := 7) (by decide)
  unfold hP
  rw [cB_eq, cB_eq, cB_eq, cB_eq, cB_eq]
  omega
theorem x_cB {I : ax_I} (D : pD) (c : Nat) (v : Int32) : F_J6_bitCount_0f7a4 I (nI (pB D c v)) = some (nI (cB D c v)) := bc_ok I (by have := pB_lt D c v; omega)
theorem m_cB {I : ax_I} (D : pD) (c : Nat) (v : Int32) : F_X7_ones I (nI (pB D c v)) = some (nI (cB D c v)) := on_ok I (by have := pB_lt D c v; omega)
theorem x_held {b : Nat} {I : ax_I} {D : pD} (hC : CR I b D) (hW : WF D) {c : Nat} (hcc : c ≤ 5) : F_X2_heldParts I b (nI c) = some (nI (hP D c)) := by
  have h := hP_eq hW hcc
  rw [F_X2_heldParts, x_pB hC hcc, p_some, x_cB, p_some, show (8 : Int32) - nI (cB D c (-6)) = nI (8 - cB D c (-6)) from pk_sub (a := 8) (by omega), show 8 - cB D c (-6) = hP D c from by omega]
/-! ===== share ===== -/
theorem share_l {I : ax_I} {D : pD} (hC : CR I 1 D) (hM : MR I D) {c : Nat} (hcc : c ≤ 5) (x2 x3 x4 x5 : Int32) (h4 : ¬ x4 = 0) : ∀ (n m : Nat) (x6 x7 : Int32), m ≤ 4 → m < n → ∃ r, f_X6_share_76 n I (nI c) x2 x3 x4 x5 x6 x7 (nI (4 - m)) = some r ∧ f_X7_share_92 n I (nI c) x2 x3 x4 x5 x6 x7 (nI (4 - m)) = some r
  | 0, m, x6, x7, _, h => by omega
  | n + 1, 0, x6, x7, _, h => by
    have g1 : (4 : Int32) ≤ nI (4 - 0) := by decide
    refine ⟨if x6 ≤ x7 then x2 * x5 / x4 + 0 else x2 * x5 / x4 + 1, ?_, ?_⟩
    · rw [f_X6_share_76, if_pos g1, if_pos h4, f_X6_share_157, f_X6_share_157]; split <;> rfl
    · rw [f_X7_share_92, if_pos g1, if_pos h4, f_X7_share_177, f_X7_share_177]; split <;> rfl
  | n + 1, m + 1, x6, x7, hm, h => by
    have e5 : 4 - (m + 1) + 1 = 4 - m := by omega
    have g1 : ¬ (4 : Int32) ≤ nI (4 - (m + 1)) := nI_ge (a := 4 - (m + 1)) (b := 4) (by omega) (by decide)
    obtain ⟨k, hk⟩ : ∃ k, k = 4 - (m + 1) := ⟨_, rfl⟩
    rw [← hk] at g1 e5 ⊢
    obtain ⟨y, hy⟩ : ∃ y, y = x6 - x2 * nI (cB D c (nI k)) / x4 := ⟨_, rfl⟩
    obtain ⟨r0, p0, q0⟩ := share_l hC hM hcc x2 x3 x4 x5 h4 n m y x7 (by omega) (by omega)
    obtain ⟨r1, p1, q1⟩ := share_l hC hM hcc x2 x3 x4 x5 h4 n m y (x7 + 1) (by omega) (by omega)
    have z : x7 + 0 = x7 := by simp
    have e1 : f_X6_share_76 (n + 1) I (nI c) x2 x3 x4 x5 x6 x7 (nI k) = if x5 < nI (cB D c (nI k)) then some r1 else if nI (cB D c (nI k)) = x5 then (if x3 ≤ nI k then some r0 else some r1) else some r0 := by
      rw [f_X6_share_76, if_neg g1, x_pB hC hcc, p_some, x_cB, p_some, if_pos h4]
      simp only [f_X6_share_129, f_X6_share_132, ← hy, nI_1, e5, p0, p1]
    have e2 : f_X7_share_92 (n + 1) I (nI c) x2 x3 x4 x5 x6 x7 (nI k) = if x5 < nI (cB D c (nI k)) then some r1 else if nI (cB D c (nI k)) = x5 then (if x3 ≤ nI k then some r0 else some r1) else some r0 := by
      rw [f_X7_share_92, if_neg g1, m_pB hM hcc, p_some, m_cB, p_some, if_pos h4]
      simp only [f_X7_share_144, f_X7_share_148, f_X7_share_149, ← hy, nI_1, e5, z, q0, q1]
    rw [e1, e2]
    by_cases c1 : x5 < nI (cB D c (nI k))
    · exact ⟨r1, if_pos c1, if_pos c1⟩
    · rw [if_neg c1]
      by_cases c2 : nI (cB D c (nI k)) = x5
      · rw [if_pos c2]
        by_cases c3 : x3 ≤ nI k
        · exact ⟨r0, if_pos c3, if_pos c3⟩
        · exact ⟨r1, if_neg c3, if_neg c3⟩
      · exact ⟨r0, if_neg c2, if_neg c2⟩
theorem hP_le {D : pD} (hW : WF D) {c : Nat} (hcc : c ≤ 5) : hP D c ≤ 8 := by have := hP_eq hW hcc; omega
theorem m_held {I : ax_I} {D : pD} (hM : MR I D) {c : Nat} (hcc : c ≤ 5) (x2 x3 : Int32) (n : Nat) : f_X7_share_38 (n + 4) I (nI c) x2 x3 0 0 = f_X7_share_38 n I (nI c) x2 x3 (nI (hP D c)) 4 := by
  have s : ∀ (n a k : Nat), k < 4 → f_X7_share_38 (n + 1) I (nI c) x2 x3 (nI a) (nI k) = f_X7_share_38 n I (nI c) x2 x3 (nI (a + cB D c (nI k))) (nI (k + 1)) := by
    intro n a k hk
    rw [f_X7_share_38, if_neg (show ¬ (4 : Int32) ≤ nI k from nI_ge (a := k) (b := 4) hk (by decide)), m_pB hM hcc, p_some, m_cB, p_some, nI_add, nI_1]
  have h0 := s (n + 3) 0 0 (by decide)
  have h1 := s (n + 2) (0 + cB D c (nI 0)) 1 (by decide)
  have h2 := s (n + 1) (0 + cB D c (nI 0) + cB D c (nI 1)) 2 (by decide)
  have h3 := s n (0 + cB D c (nI 0) + cB D c (nI 1) + cB D c (nI 2)) 3 (by decide)
  have h := h0.trans (h1.trans (h2.trans h3))
  rw [Nat.zero_add, nI_0] at h
  exact h
theorem op21 : lw_op21 Inv := by
  intro a1 a2 a3 l E B lay I J hI
  have hLL := (inv_sz hI).2.2
  have hI0 := hI
  obtain ⟨g, ext, D, n, S, hlay, hext, hez, hC, hM, hW, hP', hIm⟩ := hI
  have h : ∃ r, F_X6_share I a1 a2 a3 = some r ∧ F_X7_share I a1 a2 a3 = some r := by
    have q1 : ¬ nI 1 = 0 := by decide
    rcases p_rng a1 5 (by decide) with ⟨c, hcc, rfl⟩ | h1
    · have tC := x_there hC hW hcc
      have tM := m_there hM hW hcc
      have hb := bb_lt (D 0 0) c
      rcases (show bb (D 0 0) c = 0 ∨ bb (D 0 0) c = 1 by omega) with h | h
      · rw [h] at tC tM
        exact ⟨-1, by rw [F_X6_share, tC, p_some, if_pos nI_0], by rw [F_X7_share, tM, p_some, if_pos nI_0]⟩
      · rw [h] at tC tM
        by_cases h3 : (0 : Int32) ≤ a3 ∧ a3 ≤ 3
        · have m3 : F_X7_isParish I a3 = some 1 := by
            have m3 : F_X7_in I a3.toInt64 0 3 = some 1 := p_mT 0 3 h3 rfl rfl
            rw [F_X7_isParish, m3, p_some, if_pos p_bool1]
          by_cases h2 : (0 : Int32) ≤ a2 ∧ a2 ≤ 999
          · have m2 : F_X7_in I a2.toInt64 0 999 = some 1 := p_mT 0 999 h2 rfl rfl
            have n1 : ¬ (1 : Int32) = 0 := by decide
            have s1 : F_X6_share I (nI c) a2 a3 = if nI (hP D c) = 0 then some 0 else f_X6_share_76 ax_N I (nI c) a2 a3 (nI (hP D c)) (nI (cB D c a3)) a2 0 0 := by
              rw [F_X6_share, tC, p_some, if_neg q1, p_wT h3, p_some, if_neg n1, p_wT h2, p_some, if_neg n1, x_held hC hW hcc, p_some, x_pB hC hcc, p_some, x_cB, p_some]
            have s2 : F_X7_share I (nI c) a2 a3 = if nI (hP D c) = 0 then some 0 else f_X7_share_92 ax_N I (nI c) a2 a3 (nI (hP D c)) (nI (cB D c a3)) a2 0 0 := by
              rw [F_X7_share, tM, p_some, if_neg q1, m3, p_some, if_neg n1, m2, p_some, if_neg n1]
              have e := m_held hM hcc a2 a3 296
              refine e.trans ?_
              obtain ⟨k, hk⟩ : ∃ k, k = 295 := ⟨_, rfl⟩
              rw [show 296 = k + 1 from by omega, f_X7_share_38, if_pos (show (4 : Int32) ≤ 4 from by decide), m_pB hM hcc, p_some, m_cB, p_some]
            rw [s1, s2]
            by_cases z : nI (hP D c) = 0
            · exact ⟨0, if_pos z, if_pos z⟩
            · rw [if_neg z, if_neg z]
              have e := share_l hC hM hcc a2 a3 (nI (hP D c)) (nI (cB D c a3)) z ax_N 4 a2 0 (by decide) (by decide)
              rw [Nat.sub_self, nI_0] at e
              exact e
          · have m2 : F_X7_in I a2.toInt64 0 999 = some 0 := p_mF 0 999 h2 rfl rfl
            have n1 : ¬ (1 : Int32) = 0 := by decide
            exact ⟨-2, by rw [F_X6_share, tC, p_some, if_neg q1, p_wT h3, p_some, if_neg n1, p_wF h2, p_some, if_pos rfl], by rw [F_X7_share, tM, p_some, if_neg q1, m3, p_some, if_neg n1, m2, p_some, if_pos rfl]⟩
        · have m3 : F_X7_isParish I a3 = some 0 := by
            have m3 : F_X7_in I a3.toInt64 0 3 = some 0 := p_mF 0 3 h3 rfl rfl
            rw [F_X7_isParish, m3, p_some, if_pos p_bool0]
          exact ⟨-1, by rw [F_X6_share, tC, p_some, if_neg q1, p_wF h3, p_some, if_pos rfl], by rw [F_X7_share, tM, p_some, if_neg q1, m3, p_some, if_pos rfl]⟩
    · have h1 : ¬ ((0 : Int32) ≤ a1 ∧ a1 ≤ 5) := h1
      exact ⟨-1, by rw [F_X6_share, x_thereF h1, p_some, if_pos rfl], by rw [F_X7_share, m_thereF h1, p_some, if_pos rfl]⟩
  obtain ⟨r, e1, e2⟩ := h
  exact op_i (M_X6_share hLL e1) (M_X7_share (J := J) hLL e2) (by decide) (by decide) hI0
