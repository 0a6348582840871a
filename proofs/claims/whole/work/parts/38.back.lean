/-! ===== sums and unions over a mask ===== -/
/-- the sum of f over the bits N-m .. N-1 of t, onto a -/
def smk (f : Nat → Nat) (t N : Nat) : Nat → Nat → Nat
  | 0, a => a
  | m + 1, a => smk f t N m (if bb t (N - (m + 1)) = 0 then a else a + f (N - (m + 1)))
def smO (f : Nat → Nat) (t N : Nat) : Nat → Nat → Nat
  | 0, a => a
  | m + 1, a => smO f t N m (if bb t (N - (m + 1)) = 0 then a else a ||| f (N - (m + 1)))
theorem x_sumk {I : ax_I} {f : Nat → Nat} {k1 N t : Nat} (hN : N < 31) (ht : t < 2 ^ 31) (hf : ∀ j, j < N → I k1 j = nI (f j)) : ∀ (n m a : Nat), m ≤ N → m < n → f_X6_sumOver_4 k1 N n I (nI t) (nI a) (nI (N - m)) = some (nI (smk f t N m a))
  | 0, m, a, _, h => by omega
  | n + 1, 0, a, _, h => by
    rw [f_X6_sumOver_4, if_pos (show Int32.ofNat N ≤ nI (N - 0) from nI_le (a := N) (b := N - 0) (by omega) (by omega))]; rfl
  | n + 1, m + 1, a, hm, h => by
    have e5 : N - (m + 1) + 1 = N - m := by omega
    have hi : ax_in (nI (N - (m + 1))) N = true := p_in (by omega) (by omega)
    have hcl : (nI (N - (m + 1))).toNatClampNeg = N - (m + 1) := p_cl (by omega)
    rw [f_X6_sumOver_4, if_neg (show ¬ Int32.ofNat N ≤ nI (N - (m + 1)) from nI_ge (a := N - (m + 1)) (b := N) (by omega) (by omega)), p_bit ht (by omega)]
    simp only [f_X6_sumOver_24, hi, if_true, hcl, hf (N - (m + 1)) (by omega), nI_add, nI_1, e5]
    rw [x_sumk hN ht hf n m a (by omega) (by omega), x_sumk hN ht hf n m (a + f (N - (m + 1))) (by omega) (by omega), smk]
    show (if nI (bb t (N - (m + 1))) = 0 then _ else _) = _
    by_cases h0 : bb t (N - (m + 1)) = 0
    · rw [if_pos ((p_eq0 (bb_lt _ _)).mpr h0), if_pos h0]
    · rw [if_neg (fun h' => h0 ((p_eq0 (bb_lt _ _)).mp h')), if_neg h0]
theorem x_unik {I : ax_I} {f : Nat → Nat} {k1 N t : Nat} (hN : N < 31) (ht : t < 2 ^ 31) (hf : ∀ j, j < N → I k1 j = nI (f j)) : ∀ (n m a : Nat), m ≤ N → m < n → f_X6_unionOver_4 k1 N n I (nI t) (nI a) (nI (N - m)) = some (nI (smO f t N m a))
  | 0, m, a, _, h => by omega
  | n + 1, 0, a, _, h => by
    rw [f_X6_unionOver_4, if_pos (show Int32.ofNat N ≤ nI (N - 0) from nI_le (a := N) (b := N - 0) (by omega) (by omega))]; rfl
  | n + 1, m + 1, a, hm, h => by
    have e5 : N - (m + 1) + 1 = N - m := by omega
    have hi : ax_in (nI (N - (m + 1))) N = true := p_in (by omega) (by omega)
    have hcl : (nI (N - (m + 1))).toNatClampNeg = N - (m + 1) := p_cl (by omega)
    rw [f_X6_unionOver_4, if_neg (show ¬ Int32.ofNat N ≤ nI (N - (m + 1)) from nI_ge (a := N - (m + 1)) (b := N) (by omega) (by omega)), p_bit ht (by omega)]
    simp only [f_X6_unionOver_24, hi, if_true, hcl, hf (N - (m + 1)) (by omega), p_or, nI_1, e5]
    rw [x_unik hN ht hf n m a (by omega) (by omega), x_unik hN ht hf n m (a ||| f (N - (m + 1))) (by omega) (by omega), smO]
    show (if nI (bb t (N - (m + 1))) = 0 then _ else _) = _
    by_cases h0 : bb t (N - (m + 1)) = 0
    · rw [if_pos ((p_eq0 (bb_lt _ _)).mpr h0), if_pos h0]
    · rw [if_neg (fun h' => h0 ((p_eq0 (bb_lt _ _)).mp h')), if_neg h0]
theorem p_bb1 {t c : Nat} : (nI (bb t c) = 1) = (¬ bb t c = 0) := by
  apply propext
  rw [p_eq1 (bb_lt t c)]
  have := bb_lt t c
  omega
theorem m_sumk {I : ax_I} {f : Nat → Nat} {k1 t : Nat} (ht : t < 2 ^ 31) (hf : ∀ j, j < 6 → I k1 j = nI (f j)) : ∀ (n m a : Nat), m ≤ 6 → m < n → f_X7_sumOf_5 k1 6 n I (nI t) (nI a) (nI (6 - m)) = some (nI (smk f t 6 m a))
  | 0, m, a, _, h => by omega
  | n + 1, 0, a, _, h => by
    rw [f_X7_sumOf_5, if_pos (by decide)]; rfl
  | n + 1, m + 1, a, hm, h => by
    have e5 : 6 - (m + 1) + 1 = 6 - m := by omega
    have hi : ax_in (nI (6 - (m + 1))) 6 = true := p_in (by omega) (by omega)
    have hcl : (nI (6 - (m + 1))).toNatClampNeg = 6 - (m + 1) := p_cl (by omega)
    rw [f_X7_sumOf_5, if_neg (show ¬ (6 : Int32) ≤ nI (6 - (m + 1)) from nI_ge (a := 6 - (m + 1)) (b := 6) (by omega) (by omega)), p_bit ht (by omega)]
    simp only [f_X7_sumOf_31, hi, if_true, hcl, hf (6 - (m + 1)) (by omega), nI_add, nI_1, e5, show nI a + 0 = nI a from by rw [← nI_0, nI_add]; rfl]
    rw [m_sumk ht hf n m a (by omega) (by omega), m_sumk ht hf n m (a + f (6 - (m + 1))) (by omega) (by omega), smk]
    show (if nI (bb t (6 - (m + 1))) = 1 then _ else _) = _
    simp only [p_bb1]
    by_cases h0 : bb t (6 - (m + 1)) = 0
    · rw [if_neg (fun h' => h' h0), if_pos h0]
    · rw [if_pos h0, if_neg h0]
theorem m_unik {I : ax_I} {f : Nat → Nat} {t : Nat} (ht : t < 2 ^ 31) (hf : ∀ j, j < 8 → I 46 j = nI (f j)) : ∀ (n m a : Nat), m ≤ 8 → m < n → f_X7_seenBy_4 n I (nI t) (nI a) (nI (8 - m)) = some (nI (smO f t 8 m a))
  | 0, m, a, _, h => by omega
  | n + 1, 0, a, _, h => by
    rw [f_X7_seenBy_4, if_pos (by decide)]; rfl
  | n + 1, m + 1, a, hm, h => by
    have e5 : 8 - (m + 1) + 1 = 8 - m := by omega
    have hi : ax_in (nI (8 - (m + 1))) 8 = true := p_in (by omega) (by omega)
    have hcl : (nI (8 - (m + 1))).toNatClampNeg = 8 - (m + 1) := p_cl (by omega)
    rw [f_X7_seenBy_4, if_neg (show ¬ (8 : Int32) ≤ nI (8 - (m + 1)) from nI_ge (a := 8 - (m + 1)) (b := 8) (by omega) (by omega)), p_bit ht (by omega)]
    simp only [f_X7_seenBy_30, hi, if_true, hcl, hf (8 - (m + 1)) (by omega), p_or, nI_1, e5, show nI a ||| (0 : Int32) = nI a from (p_or a 0).trans (by rw [Nat.or_zero])]
    rw [m_unik ht hf n m a (by omega) (by omega), m_unik ht hf n m (a ||| f (8 - (m + 1))) (by omega) (by omega), smO]
    show (if nI (bb t (8 - (m + 1))) = 1 then _ else _) = _
    simp only [p_bb1]
    by_cases h0 : bb t (8 - (m + 1)) = 0
    · rw [if_neg (fun h' => h' h0), if_pos h0]
    · rw [if_pos h0, if_neg h0]
def sm6 (f : Nat → Nat) (t : Nat) : Nat := smk f t 6 6 0
theorem x_sum {I : ax_I} {f : Nat → Nat} {k1 t : Nat} (ht : t < 2 ^ 31) (hf : ∀ j, j < 6 → I k1 j = nI (f j)) : F_X6_sumOver I (nI t) k1 6 = some (nI (sm6 f t)) := x_sumk (by decide) ht hf ax_N 6 0 (by decide) (by decide)
theorem m_sum {I : ax_I} {f : Nat → Nat} {k1 t : Nat} (ht : t < 2 ^ 31) (hf : ∀ j, j < 6 → I k1 j = nI (f j)) : F_X7_sumOf I k1 6 (nI t) = some (nI (sm6 f t)) := m_sumk ht hf ax_N 6 0 (by decide) (by decide)
theorem x_uni {I : ax_I} {f : Nat → Nat} {k1 N t : Nat} (hN : N < 31) (ht : t < 2 ^ 31) (hf : ∀ j, j < N → I k1 j = nI (f j)) : F_X6_unionOver I (nI t) k1 N = some (nI (smO f t N N 0)) := by
  have h := x_unik hN ht hf ax_N N 0 (Nat.le_refl _) (by unfold ax_N; omega)
  rw [Nat.sub_self] at h
  exact h
theorem m_uni {I : ax_I} {f : Nat → Nat} {t : Nat} (ht : t < 2 ^ 31) (hf : ∀ j, j < 8 → I 46 j = nI (f j)) : F_X7_seenBy I (nI t) = some (nI (smO f t 8 8 0)) := m_unik ht hf ax_N 8 0 (by decide) (by decide)
/-! ===== back ===== -/
theorem back_l {I : ax_I} {D : pD} (hC : CR I 1 D) (hM : MR I D) (x1 x2 : Int32) : ∀ (m n n' t : Nat), m ≤ 64 → m < n → m < n' → t < 64 → ∃ r, f_X6_back_31 n I x1 x2 (nI (sm6 (D 7) t)) (nI t) (nI (64 - m)) = some r ∧ f_X7_back_30 n' I x1 x2 (nI t) (nI (64 - m)) = some r
  | m, 0, n', t, _, h, _, _ => by omega
  | m, n + 1, 0, t, _, h, h', _ => by omega
  | 0, n + 1, n' + 1, t, _, h, h', ht => by
    have hw := m_sum (I := I) (f := D 7) (k1 := 42) (t := t) (by omega) (fun j hj => MR_worth hM hj)
    refine ⟨if x2 = 0 then nI (sm6 (D 7) t) else nI t, ?_, ?_⟩
    · rw [f_X6_back_31, if_pos (by decide)]
      split <;> rfl
    · rw [f_X7_back_30, if_pos (by decide), hw]
      split <;> rfl
  | m + 1, n + 1, n' + 1, t, hm, h, h', ht => by
    have e5 : 64 - (m + 1) + 1 = 64 - m := by omega
    have hlt : 64 - (m + 1) < 64 := by omega
    obtain ⟨k, hk⟩ : ∃ k, k = 64 - (m + 1) := ⟨_, rfl⟩
    rw [← hk] at hlt e5 ⊢
    have a1 : I 1 0 = nI (D 0 0) := hC.1
    have b1 : I 35 0 = nI (D 0 0) := hM.1
    have hw := m_sum (I := I) (f := D 7) (k1 := 42) (t := t) (by omega) (fun j hj => MR_worth hM hj)
    have hwk := m_sum (I := I) (f := D 7) (k1 := 42) (t := k) (by omega) (fun j hj => MR_worth hM hj)
    have hck := m_sum (I := I) (f := D 6) (k1 := 41) (t := k) (by omega) (fun j hj => MR_cost hM hj)
    have xwk := x_sum (I := I) (f := D 7) (k1 := 7) (t := k) (by omega) (fun j hj => CR_worth hC hj)
    have xck := x_sum (I := I) (f := D 6) (k1 := 6) (t := k) (by omega) (fun j hj => CR_cost hC hj)
    obtain ⟨r0, p0, q0⟩ := back_l hC hM x1 x2 m n n' t (by omega) (by omega) (by omega) ht
    obtain ⟨r1, p1, q1⟩ := back_l hC hM x1 x2 m n n' k (by omega) (by omega) (by omega) hlt
    have ng : ¬ (64 : Int32) ≤ nI k := nI_ge (a := k) (b := 64) hlt (by decide)
    simp only [f_X6_back_31, f_X7_back_30, if_neg ng, a1, b1, f_X6_back_73, f_X6_back_74, f_X6_back_108, f_X7_back_67, f_X7_back_68, f_X7_back_102, f_X7_back_103, xwk, xck, hwk, hck, hw, p_some, if_true, p10, if_false, nI_1, e5, p0, q0, p1, q1]
    by_cases c1 : nI k &&& (nI (D 0 0) ^^^ (-1)) = 0
    · simp only [if_pos c1]
      by_cases c2 : x1 < nI (sm6 (D 6) k)
      · simp only [if_pos c2]; exact ⟨r0, rfl, rfl⟩
      · simp only [if_neg c2]
        by_cases c3 : nI (sm6 (D 7) k) ≤ nI (sm6 (D 7) t)
        · simp only [if_pos c3]; exact ⟨r0, rfl, rfl⟩
        · simp only [if_neg c3]; exact ⟨r1, rfl, rfl⟩
    · simp only [if_neg c1]; exact ⟨r0, rfl, rfl⟩
theorem sm6_0 (f : Nat → Nat) : sm6 f 0 = 0 := rfl
theorem back_s {I : ax_I} {D : pD} (hC : CR I 1 D) (hM : MR I D) (x1 x2 : Int32) : ∃ r, f_X6_back_31 ax_N I x1 x2 0 0 0 = some r ∧ f_X7_back_30 ax_N I x1 x2 0 1 = some r := by
  obtain ⟨r, p, q⟩ := back_l hC hM x1 x2 63 299 300 0 (by decide) (by decide) (by decide) (by decide)
  have xwk := x_sum (I := I) (f := D 7) (k1 := 7) (t := 0) (by omega) (fun j hj => CR_worth hC hj)
  have xck := x_sum (I := I) (f := D 6) (k1 := 6) (t := 0) (by omega) (fun j hj => CR_cost hC hj)
  rw [nI_0] at xwk xck
  have hu : f_X6_back_31 (299 + 1) I x1 x2 0 0 0 = f_X6_back_31 299 I x1 x2 0 0 1 := by
    obtain ⟨n, hn⟩ : ∃ n, n = 299 := ⟨_, rfl⟩
    rw [← hn]
    have ng : ¬ (64 : Int32) ≤ 0 := by decide
    have z : (0 : Int32) + 1 = 1 := by decide
    have z3 : (nI 0 : Int32) ≤ 0 := by decide
    rw [f_X6_back_31]
    simp only [if_neg ng, f_X6_back_73, f_X6_back_74, f_X6_back_108, xwk, xck, p_some, if_true, p10, if_false, sm6_0, z, if_pos z3]
    split
    · split <;> rfl
    · rfl
  exact ⟨r, hu.trans p, q⟩
theorem op17 : lw_op17 Inv := by
  intro a1 a2 l E B lay I J hI
  have hLL := (inv_sz hI).2.2
  have hI0 := hI
  obtain ⟨g, ext, D, n, S, hlay, hext, hez, hC, hM, hW, hP, hIm⟩ := hI
  have h : ∃ r, F_X6_back I a1 a2 = some r ∧ F_X7_back I a1 a2 = some r := by
    by_cases h1 : (0 : Int32) ≤ a1 ∧ a1 ≤ 999
    · have m1 : F_X7_in I a1.toInt64 0 999 = some 1 := p_mT 0 999 h1 rfl rfl
      by_cases h2 : (0 : Int32) ≤ a2 ∧ a2 ≤ 1
      · have m2 : F_X7_in I a2.toInt64 0 1 = some 1 := p_mT 0 1 h2 rfl rfl
        simp only [F_X6_back, F_X7_back, p_wT h1, p_wT h2, m1, m2, p_some, p10, if_false]
        exact back_s hC hM a1 a2
      · have m2 : F_X7_in I a2.toInt64 0 1 = some 0 := p_mF 0 1 h2 rfl rfl
        simp only [F_X6_back, F_X7_back, p_wT h1, p_wF h2, m1, m2, p_some, p10, if_false, if_true]
        exact ⟨_, rfl, rfl⟩
    · have m1 : F_X7_in I a1.toInt64 0 999 = some 0 := p_mF 0 999 h1 rfl rfl
      simp only [F_X6_back, F_X7_back, p_wF h1, m1, p_some, if_true]
      exact ⟨_, rfl, rfl⟩
  obtain ⟨r, e1, e2⟩ := h
  exact op_i (M_X6_back hLL e1) (M_X7_back (J := J) hLL e2) (by decide) (by decide) hI0
/-! ===== fewest ===== -/
theorem pcn_all : chk 256 (fun t => decide (pcn t ≤ 8)) = true := by decide +kernel
theorem pcn_le {t : Nat} (h : t < 256) : pcn t ≤ 8 := of_decide_eq_true (chk_at pcn_all h)
/-- the best so far: none, or the mask t -/
def fwR (a b c : Int32) : Prop := (a = 9 ∧ c = -6) ∨ ∃ t, t < 256 ∧ a = nI (pcn t) ∧ b = nI t ∧ c = nI t
theorem few_l {I : ax_I} {D : pD} (hC : CR I 1 D) (hM : MR I D) (x1 x2 : Int32) (hx : x2 = 0 ∨ x2 = 1) : ∀ (m n : Nat) (a b c : Int32), m ≤ 256 → m < n → fwR a b c → ∃ r, f_X6_fewest_32 n I x1 x2 a b (nI (256 - m)) = some r ∧ f_X7_fewest_31 n I x1 x2 c (nI (256 - m)) = some r
  | m, 0, a, b, c, _, h, _ => by omega
  | 0, n + 1, a, b, c, _, h, hR => by
    have g1 : (256 : Int32) ≤ nI (256 - 0) := by decide
    simp only [f_X6_fewest_32, f_X7_fewest_31, if_pos g1]
    rcases hR with ⟨rfl, rfl⟩ | ⟨t, ht, rfl, rfl, rfl⟩
    · rw [if_neg (show ¬ (9 : Int32) ≤ 8 from by decide), if_pos (show (-6 : Int32) < 0 from by decide)]; exact ⟨-6, rfl, rfl⟩
    · have h8 : nI (pcn t) ≤ 8 := nI_le (a := pcn t) (b := 8) (pcn_le ht) (by decide)
      rw [if_pos h8, if_neg (nI_pos (n := t) (by omega)), on_ok I (by omega)]
      rcases hx with rfl | rfl
      · exact ⟨nI (pcn t), rfl, rfl⟩
      · exact ⟨nI t, rfl, rfl⟩
  | m + 1, n + 1, a, b, c, hm, h, hR => by
    have e5 : 256 - (m + 1) + 1 = 256 - m := by omega
    have hlt : 256 - (m + 1) < 256 := by omega
    obtain ⟨k, hk⟩ : ∃ k, k = 256 - (m + 1) := ⟨_, rfl⟩
    rw [← hk] at hlt e5 ⊢
    have xu := x_uni (I := I) (f := D 11) (k1 := 11) (N := 8) (t := k) (by decide) (by omega) (fun j hj => CR_saw hC hj)
    have mu := m_uni (I := I) (f := D 11) (t := k) (by omega) (fun j hj => MR_saw hM hj)
    obtain ⟨r0, p0, q0⟩ := few_l hC hM x1 x2 hx m n a b c (by omega) (by omega) hR
    obtain ⟨r1, p1, q1⟩ := few_l hC hM x1 x2 hx m n (nI (pcn k)) (nI k) (nI k) (by omega) (by omega) (.inr ⟨k, hlt, rfl, rfl, rfl⟩)
    have ng : ¬ (256 : Int32) ≤ nI k := nI_ge (a := k) (b := 256) hlt (by decide)
    simp only [f_X6_fewest_32, f_X7_fewest_31, if_neg ng, f_X6_fewest_79, f_X7_fewest_55, f_X7_fewest_60, f_X7_fewest_85, f_X7_fewest_86, xu, mu, bc_ok I (t := k) (by omega), on_ok I (t := k) (by omega), p_some, if_true, p10, if_false, nI_1, e5, p0, q0, p1, q1]
    rcases hR with ⟨rfl, rfl⟩ | ⟨t, ht, rfl, rfl, rfl⟩
    · have h9 : ¬ (9 : Int32) ≤ nI (pcn k) := nI_ge (a := pcn k) (b := 9) (by have := pcn_le hlt; omega) (by decide)
      simp only [if_neg h9, if_pos (show (-6 : Int32) < 0 from by decide)]
      split
      · exact ⟨r1, rfl, rfl⟩
      · exact ⟨r0, rfl, rfl⟩
    · simp only [if_neg (nI_pos (n := t) (by omega)), on_ok I (t := t) (by omega), p_some]
      by_cases c1 : nI (pcn t) ≤ nI (pcn k)
      · simp only [if_pos c1]; exact ⟨r0, rfl, rfl⟩
      · simp only [if_neg c1]
        split
        · exact ⟨r1, rfl, rfl⟩
        · exact ⟨r0, rfl, rfl⟩
