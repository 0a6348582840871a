/-! ===== one sign more ===== -/
theorem let_all : chk 127 (fun x => decide (F_X7_isLetter zI (nI x) = some (if 65 ≤ x ∧ x ≤ 70 then 1 else 0))) = true := by decide +kernel
theorem m_let (I : ax_I) {x : Nat} (hx : x < 127) : F_X7_isLetter I (nI x) = some (if 65 ≤ x ∧ x ≤ 70 then 1 else 0) := of_decide_eq_true (chk_at let_all hx)
theorem par_all : chk 127 (fun x => decide (F_X7_isParishLetter zI (nI x) = some (if 97 ≤ x ∧ x ≤ 100 then 1 else 0))) = true := by decide +kernel
theorem m_par (I : ax_I) {x : Nat} (hx : x < 127) : F_X7_isParishLetter I (nI x) = some (if 97 ≤ x ∧ x ≤ 100 then 1 else 0) := of_decide_eq_true (chk_at par_all hx)
def bg (I : ax_I) (k : Nat) (s0 s1 : Int32) : ax_I := ax_u (ax_u (ax_u (ax_u I 52 k s0) 53 k 0) 54 k 0) 51 k s1
theorem bg_FA (I : ax_I) (k : Nat) (s0 s1 : Int32) : FA I (bg I k s0 s1) := by
  intro r j h1 h2 h3 h4 _
  unfold bg
  rw [ax_u_n h1, ax_u_n h4, ax_u_n h3, ax_u_n h2]
theorem bg_lt {I : ax_I} {k : Nat} {s0 s1 : Int32} {r j : Nat} (h : j < k) : bg I k s0 s1 r j = I r j := by
  unfold bg
  rw [ax_u_at, if_neg (by omega), ax_u_at, if_neg (by omega), ax_u_at, if_neg (by omega), ax_u_at, if_neg (by omega)]
theorem bg_51 (I : ax_I) (k : Nat) (s0 s1 : Int32) : bg I k s0 s1 51 k = s1 := by unfold bg; rw [ax_u_ss]
theorem bg_52 (I : ax_I) (k : Nat) (s0 s1 : Int32) : bg I k s0 s1 52 k = s0 := by unfold bg; rw [ax_u_n (by decide), ax_u_n (by decide), ax_u_n (by decide), ax_u_ss]
theorem bg_53 (I : ax_I) (k : Nat) (s0 s1 : Int32) : bg I k s0 s1 53 k = 0 := by unfold bg; rw [ax_u_n (by decide), ax_u_n (by decide), ax_u_ss]
theorem bg_54 (I : ax_I) (k : Nat) (s0 s1 : Int32) : bg I k s0 s1 54 k = 0 := by unfold bg; rw [ax_u_n (by decide), ax_u_ss]
theorem bg_35 (I : ax_I) (k : Nat) (s0 s1 : Int32) (j : Nat) : bg I k s0 s1 35 j = I 35 j := by unfold bg; rw [ax_u_n (by decide), ax_u_n (by decide), ax_u_n (by decide), ax_u_n (by decide)]
theorem m_bg {I : ax_I} {k x : Nat} (hk : k < 60) (e23 : I 35 23 = nI k) (hx : x < 127) : F_X7_begin I (nI x) = f_X7_begin_65 (ax_u (ax_u (ax_u I 52 k (if 65 ≤ x ∧ x ≤ 70 then nI x - 65 else 0)) 53 k 0) 54 k 0) (nI x) (if x = 46 then 7 else 6) (nI k) := by
  have hin : ax_in (nI k) 60 = true := p_in (by omega) (by decide)
  have hcl : (nI k).toNatClampNeg = k := p_cl (by omega)
  have u1 : ∀ v, (ax_u I 52 k v) 35 23 = nI k := fun v => by rw [ax_u_n (by decide)]; exact e23
  have u2 : ∀ v, (ax_u (ax_u I 52 k v) 53 k 0) 35 23 = nI k := fun v => by rw [ax_u_n (by decide)]; exact u1 v
  have u3 : ∀ v, (ax_u (ax_u (ax_u I 52 k v) 53 k 0) 54 k 0) 35 23 = nI k := fun v => by rw [ax_u_n (by decide)]; exact u2 v
  have h23 : ∀ v, f_X7_begin_23 I (nI x) v (nI k) = f_X7_begin_65 (ax_u (ax_u (ax_u I 52 k v) 53 k 0) 54 k 0) (nI x) (if x = 46 then 7 else 6) (nI k) := by
    intro v
    rw [f_X7_begin_23, if_pos hin, hcl, u1, if_pos hin, hcl, u2, if_pos hin, hcl, f_X7_begin_44, u3]
    have e46 : (nI x = 46) = (x = 46) := e_eq (a := x) (b := 46) (by omega) (by decide)
    by_cases h : x = 46
    · rw [if_pos h, if_pos (by rw [e46]; exact h)]
    · rw [if_neg h, if_neg (by rw [e46]; exact h)]
  rw [F_X7_begin, m_let I hx, p_some, e23]
  by_cases h : 65 ≤ x ∧ x ≤ 70
  · rw [if_pos h, if_neg (by decide), if_pos h, h23]
  · rw [if_neg h, if_pos rfl, if_neg h, h23]
theorem m_bg2 {I : ax_I} {k x : Nat} (hk : k < 60) (hx : x < 127) (s1 : Int32) : f_X7_begin_65 I (nI x) s1 (nI k) = some (if 65 ≤ x ∧ x ≤ 70 then 1 else if x = 102 then 2 else if x = 46 then 0 else -6, if x = 46 then ax_u (ax_u I 51 k s1) 35 23 ((ax_u I 51 k s1) 35 23 + 1) else ax_u I 51 k s1) := by
  have hin : ax_in (nI k) 60 = true := p_in (by omega) (by decide)
  have hcl : (nI k).toNatClampNeg = k := p_cl (by omega)
  have e46 : (nI x = 46) = (x = 46) := e_eq (a := x) (b := 46) (by omega) (by decide)
  have e102 : (nI x = 102) = (x = 102) := e_eq (a := x) (b := 102) (by omega) (by decide)
  rw [f_X7_begin_65, if_pos hin, hcl, m_let _ hx, p_some]
  by_cases h : 65 ≤ x ∧ x ≤ 70
  · rw [if_pos h, if_neg (by decide), if_pos h, if_neg (by omega)]
  · rw [if_neg h, if_pos rfl, if_neg h]
    by_cases h1 : x = 102
    · rw [if_pos h1, if_pos (by rw [e102]; exact h1), if_neg (by omega)]
    · rw [if_neg h1, if_neg (by rw [e102]; exact h1)]
      by_cases h2 : x = 46
      · rw [if_pos h2, if_pos h2, if_pos (by rw [e46]; exact h2), F_X7_close, p_some]
      · rw [if_neg h2, if_neg h2, if_neg (by rw [e46]; exact h2)]
theorem step0 {I : ax_I} {S : Nat → Nat} {n i k : Nat} (e23 : I 35 23 = nI k) (hA : APs I S n k) (hp : pos S n k = i) (hi : i < n) (hn : n ≤ 60) (hx : S i ≤ 126) : ∃ r I', F_X7_readOn I (du 0) (nI (S i)) = some (r, I') ∧ FA I I' ∧ ((wn 0 (S i) = 5 ∧ r = -6) ∨ (wn 0 (S i) < 5 ∧ r = du (wn 0 (S i)) ∧ ∃ k', AS I' S n (i + 1) (wn 0 (S i)) k')) := by
  have hk : k < 60 := by have := pos_ge S n k; omega
  have e : F_X7_readOn I (du 0) (nI (S i)) = some (if 65 ≤ S i ∧ S i ≤ 70 then 1 else if S i = 102 then 2 else if S i = 46 then 0 else -6, if S i = 46 then ax_u (bg I k (if 65 ≤ S i ∧ S i ≤ 70 then nI (S i) - 65 else 0) (if S i = 46 then 7 else 6)) 35 23 ((bg I k (if 65 ≤ S i ∧ S i ≤ 70 then nI (S i) - 65 else 0) (if S i = 46 then 7 else 6)) 35 23 + 1) else bg I k (if 65 ≤ S i ∧ S i ≤ 70 then nI (S i) - 65 else 0) (if S i = 46 then 7 else 6)) := by
    rw [F_X7_readOn, if_pos (by decide), m_bg hk e23 (by omega), m_bg2 hk (by omega), p_some]
    rfl
  have e1 : i + 1 - 1 = i := by omega
  have hs := sgT (S := S) hi
  by_cases h : 65 ≤ S i ∧ S i ≤ 70
  · have w1 : wn 0 (S i) = 1 := by unfold wn; rw [if_pos rfl, if_neg (by omega), if_neg (by omega), if_pos h]
    rw [if_pos h, if_pos h, if_neg (by omega), if_neg (by omega)] at e
    refine ⟨_, _, e, bg_FA I k _ 6, Or.inr ⟨by omega, by rw [w1]; rfl, k, ?_, ?_, ?_⟩⟩
    · exact (bg_35 I k _ 6 23).trans e23
    · exact AP_k hA (fun r j _ _ hj => bg_lt hj)
    · refine Or.inr (Or.inl ⟨w1, by omega, by rw [e1]; exact h.1, by rw [e1]; exact h.2, ?_, bg_53 I k _ 6, bg_54 I k _ 6⟩)
      rw [e1]
      exact (bg_52 I k _ 6).trans (pk_sub (b := 65) h.1)
  · rw [if_neg h, if_neg h] at e
    by_cases h1 : S i = 102
    · have w1 : wn 0 (S i) = 3 := by unfold wn; rw [if_pos rfl, if_neg (by omega), if_pos h1]
      rw [if_pos h1, if_neg (by omega), if_neg (by omega)] at e
      refine ⟨_, _, e, bg_FA I k _ 6, Or.inr ⟨by omega, by rw [w1]; rfl, k, ?_, ?_, ?_⟩⟩
      · exact (bg_35 I k _ 6 23).trans e23
      · exact AP_k hA (fun r j _ _ hj => bg_lt hj)
      · exact Or.inr (Or.inr (Or.inr (Or.inl ⟨w1, by omega, by rw [e1]; exact h1, bg_51 I k _ 6, bg_54 I k _ 6⟩)))
    · rw [if_neg h1] at e
      by_cases h2 : S i = 46
      · have w1 : wn 0 (S i) = 0 := by unfold wn; rw [if_pos rfl, if_pos h2]
        rw [if_pos h2, if_pos h2, if_pos h2] at e
        have hs46 : sg S n (pos S n k) = 46 := by rw [hp, hs]; exact h2
        have q23 : (bg I k 0 7) 35 23 + 1 = nI (k + 1) := by rw [bg_35, e23, nI_1]
        refine ⟨_, _, e, ?_, Or.inr ⟨by omega, by rw [w1]; rfl, k + 1, ?_, ?_, ?_⟩⟩
        · intro r j g1 g2 g3 g4 g5
          show (ax_u (bg I k 0 7) 35 23 ((bg I k 0 7) 35 23 + 1)) r j = I r j
          rw [ax_u_at, if_neg g5]
          exact bg_FA I k 0 7 r j g1 g2 g3 g4 g5
        · show (ax_u (bg I k 0 7) 35 23 ((bg I k 0 7) 35 23 + 1)) 35 23 = _
          rw [ax_u_ss]; exact q23
        · show APs (ax_u (bg I k 0 7) 35 23 ((bg I k 0 7) 35 23 + 1)) S n (k + 1)
          refine AP_s (AP_k hA (fun r j _ _ hj => ?_)) (Or.inl hs46) ⟨?_, ?_, ?_, ?_⟩
          · rw [ax_u_n (by omega)]; exact bg_lt hj
          · rw [ax_u_n (by decide), bg_51]; unfold aW; rw [if_pos hs46]; rfl
          · rw [ax_u_n (by decide), bg_52]; unfold aC; rw [if_pos hs46]; rfl
          · rw [ax_u_n (by decide), bg_53]; unfold aP; rw [if_pos hs46]; rfl
          · rw [ax_u_n (by decide), bg_54]; unfold aQ; rw [if_pos hs46]; rfl
        · refine Or.inl ⟨w1, ?_⟩
          show pos S n k + aL S n (pos S n k) = i + 1
          unfold aL
          rw [if_pos hs46, hp]
      · have w1 : wn 0 (S i) = 5 := by unfold wn; rw [if_pos rfl, if_neg h2, if_neg h1, if_neg h]
        rw [if_neg h2, if_neg h2, if_neg h2] at e
        exact ⟨_, _, e, bg_FA I k _ 6, Or.inl ⟨w1, rfl⟩⟩
theorem deed_all : chk 127 (fun x => decide ((if x = 119 then (0 : Int32) else if x = 115 then 1 else if x = 112 then 2 else if x = 101 then 3 else if x = 120 then 4 else -6) = if dk x = 9 then -6 else nI (dk x))) = true := by decide +kernel
theorem m_deed {I : ax_I} {k x : Nat} (hk : k < 60) (e23 : I 35 23 = nI k) (hx : x < 127) : F_X7_deed I (nI x) = if 48 ≤ x ∧ x ≤ 55 then some (4, ax_u (ax_u I 51 k 5) 54 k (nI x - 48)) else if dk x = 9 then some (-6, ax_u I 51 k (-6)) else some (0, ax_u (ax_u I 51 k (nI (dk x))) 35 23 (nI (k + 1))) := by
  have hin : ax_in (nI k) 60 = true := p_in (by omega) (by decide)
  have hcl : (nI k).toNatClampNeg = k := p_cl (by omega)
  have u1 : ∀ v, (ax_u I 51 k v) 35 23 = nI k := fun v => by rw [ax_u_n (by decide)]; exact e23
  rw [F_X7_deed]
  by_cases h : 48 ≤ x ∧ x ≤ 55
  · have m1 : F_X7_in I (nI x).toInt64 48 55 = some 1 := p_mT 48 55 ⟨nI_le (a := 48) h.1 (by omega), nI_le (b := 55) h.2 (by decide)⟩ rfl rfl
    rw [m1, p_some, if_neg (by decide), if_pos h, e23, if_pos hin, hcl, u1, if_pos hin, hcl, f_X7_deed_37]
  · have m1 : F_X7_in I (nI x).toInt64 48 55 = some 0 := p_mF 48 55 (fun q => h ⟨(nI_leI (a := 48) (b := x) (by decide) (by omega)).mp q.1, (nI_leI (a := x) (b := 55) (by omega) (by decide)).mp q.2⟩) rfl rfl
    have ed := of_decide_eq_true (chk_at deed_all hx)
    have c1 : (nI x = 119) = (x = 119) := e_eq (b := 119) (by omega) (by decide)
    have c2 : (nI x = 115) = (x = 115) := e_eq (b := 115) (by omega) (by decide)
    have c3 : (nI x = 112) = (x = 112) := e_eq (b := 112) (by omega) (by decide)
    have c4 : (nI x = 101) = (x = 101) := e_eq (b := 101) (by omega) (by decide)
    have c5 : (nI x = 120) = (x = 120) := e_eq (b := 120) (by omega) (by decide)
    rw [m1, p_some, if_pos rfl, if_neg h]
    have e1 : (if nI x = 119 then f_X7_deed_91 I 0 else if nI x = 115 then f_X7_deed_91 I 1 else if nI x = 112 then f_X7_deed_91 I 2 else if nI x = 101 then f_X7_deed_91 I 3 else if nI x = 120 then f_X7_deed_91 I 4 else f_X7_deed_91 I (-6)) = f_X7_deed_91 I (if dk x = 9 then -6 else nI (dk x)) := by
      rw [← ed]
      by_cases d1 : x = 119
      · rw [if_pos d1, if_pos (by rw [c1]; exact d1)]
      · rw [if_neg d1, if_neg (by rw [c1]; exact d1)]
        by_cases d2 : x = 115
        · rw [if_pos d2, if_pos (by rw [c2]; exact d2)]
        · rw [if_neg d2, if_neg (by rw [c2]; exact d2)]
          by_cases d3 : x = 112
          · rw [if_pos d3, if_pos (by rw [c3]; exact d3)]
          · rw [if_neg d3, if_neg (by rw [c3]; exact d3)]
            by_cases d4 : x = 101
            · rw [if_pos d4, if_pos (by rw [c4]; exact d4)]
            · rw [if_neg d4, if_neg (by rw [c4]; exact d4)]
              by_cases d5 : x = 120
              · rw [if_pos d5, if_pos (by rw [c5]; exact d5)]
              · rw [if_neg d5, if_neg (by rw [c5]; exact d5)]
    rw [e1, f_X7_deed_91, e23, if_pos hin, hcl]
    have := dk_le x
    by_cases h9 : dk x = 9
    · rw [if_pos h9, if_pos h9, if_neg (by decide)]
    · rw [if_neg h9, if_neg h9, if_pos (nI_pos' (by omega)), F_X7_close, p_some, u1, nI_1]
theorem step1 {I : ax_I} {S : Nat → Nat} {n i k : Nat} (e23 : I 35 23 = nI k) (hA : APs I S n k) (hp : pos S n k + 1 = i) (l1 : 65 ≤ S (i - 1)) (l2 : S (i - 1) ≤ 70) (r52 : I 52 k = nI (S (i - 1) - 65)) (r53 : I 53 k = 0) (r54 : I 54 k = 0) (hi : i < n) (hn : n ≤ 60) (hx : S i ≤ 126) : ∃ r I', F_X7_readOn I (du 1) (nI (S i)) = some (r, I') ∧ FA I I' ∧ ((wn 1 (S i) = 5 ∧ r = -6) ∨ (wn 1 (S i) < 5 ∧ r = du (wn 1 (S i)) ∧ ∃ k', AS I' S n (i + 1) (wn 1 (S i)) k')) := by
  have hk : k < 60 := by have := pos_ge S n k; omega
  have e1 : i + 1 - 1 = i := by omega
  have e2 : i + 1 - 2 = i - 1 := by omega
  have hs := sgT (S := S) hi
  have hs0 : sg S n (pos S n k) = S (i - 1) := by rw [sgT (by omega)]; congr 1; omega
  have hs1 : sg S n (pos S n k + 1) = S i := by rw [hp]; exact hs
  have e : F_X7_readOn I (du 1) (nI (S i)) = (F_X7_deed I (nI (S i))).bind (fun q17 => some (q17.1, q17.2)) := by
    rw [F_X7_readOn, if_neg (by decide), if_pos (by decide)]
  rw [m_deed hk e23 (by omega)] at e
  by_cases h : 48 ≤ S i ∧ S i ≤ 55
  · have w1 : wn 1 (S i) = 2 := by unfold wn; rw [if_neg (by decide), if_pos rfl, if_pos h]
    rw [if_pos h, p_some] at e
    refine ⟨_, _, e, ?_, Or.inr ⟨by omega, by rw [w1]; rfl, k, ?_, ?_, ?_⟩⟩
    · intro r j g1 g2 g3 g4 g5
      show (ax_u (ax_u I 51 k 5) 54 k (nI (S i) - 48)) r j = I r j
      rw [ax_u_n g4, ax_u_n g1]
    · show (ax_u (ax_u I 51 k 5) 54 k (nI (S i) - 48)) 35 23 = _
      rw [ax_u_n (by decide), ax_u_n (by decide)]; exact e23
    · exact AP_k hA (fun r j _ _ hj => by
        show (ax_u (ax_u I 51 k 5) 54 k (nI (S i) - 48)) r j = I r j
        rw [ax_u_at, if_neg (by omega), ax_u_at, if_neg (by omega)])
    · refine Or.inr (Or.inr (Or.inl ⟨w1, by omega, by rw [e2]; exact l1, by rw [e2]; exact l2, by rw [e1]; exact h.1, by rw [e1]; exact h.2, ?_, ?_, ?_⟩))
      · show (ax_u (ax_u I 51 k 5) 54 k (nI (S i) - 48)) 51 k = _
        rw [ax_u_n (by decide), ax_u_ss]
      · show (ax_u (ax_u I 51 k 5) 54 k (nI (S i) - 48)) 52 k = _
        rw [ax_u_n (by decide), ax_u_n (by decide), e2]; exact r52
      · show (ax_u (ax_u I 51 k 5) 54 k (nI (S i) - 48)) 54 k = _
        rw [ax_u_ss, e1]; exact pk_sub (b := 48) h.1
  · rw [if_neg h] at e
    by_cases h9 : dk (S i) = 9
    · have w1 : wn 1 (S i) = 5 := by unfold wn; rw [if_neg (by decide), if_pos rfl, if_neg h, if_pos h9]
      rw [if_pos h9, p_some] at e
      refine ⟨_, _, e, ?_, Or.inl ⟨w1, rfl⟩⟩
      intro r j g1 g2 g3 g4 g5
      show (ax_u I 51 k (-6)) r j = I r j
      rw [ax_u_n g1]
    · have w1 : wn 1 (S i) = 0 := by unfold wn; rw [if_neg (by decide), if_pos rfl, if_neg h, if_neg h9]
      rw [if_neg h9, p_some] at e
      have n46 : ¬ sg S n (pos S n k) = 46 := by rw [hs0]; omega
      have n102 : ¬ sg S n (pos S n k) = 102 := by rw [hs0]; omega
      have n9 : ¬ dk (sg S n (pos S n k + 1)) = 9 := by rw [hs1]; exact h9
      refine ⟨_, _, e, ?_, Or.inr ⟨by omega, by rw [w1]; rfl, k + 1, ?_, ?_, ?_⟩⟩
      · intro r j g1 g2 g3 g4 g5
        show (ax_u (ax_u I 51 k (nI (dk (S i)))) 35 23 (nI (k + 1))) r j = I r j
        rw [ax_u_at, if_neg g5, ax_u_n g1]
      · show (ax_u (ax_u I 51 k (nI (dk (S i)))) 35 23 (nI (k + 1))) 35 23 = _
        rw [ax_u_ss]
      · show APs (ax_u (ax_u I 51 k (nI (dk (S i)))) 35 23 (nI (k + 1))) S n (k + 1)
        refine AP_s (AP_k hA (fun r j _ _ hj => ?_)) (Or.inr (Or.inr (Or.inl ⟨by omega, by omega, n9⟩))) ⟨?_, ?_, ?_, ?_⟩
        · rw [ax_u_n (by omega), ax_u_at, if_neg (by omega)]
        · rw [ax_u_n (by decide), ax_u_ss]; unfold aW; rw [if_neg n46, if_neg n102, if_neg n9, hs1]
        · rw [ax_u_n (by decide), ax_u_n (by decide), r52]; unfold aC; rw [if_neg n46, if_neg n102, hs0]
        · rw [ax_u_n (by decide), ax_u_n (by decide), r53]; unfold aP; rw [if_neg n46, if_neg n102, if_neg n9]; rfl
        · rw [ax_u_n (by decide), ax_u_n (by decide), r54]; unfold aQ; rw [if_neg n46, if_neg n102, if_neg n9]; rfl
      · refine Or.inl ⟨w1, ?_⟩
        show pos S n k + aL S n (pos S n k) = i + 1
        unfold aL
        rw [if_neg n46, if_neg n102, if_neg n9]; omega
theorem m_pr {I : ax_I} {k x : Nat} (hk : k < 60) (e23 : I 35 23 = nI k) (hx : x < 127) {d : Int32} (h0 : ¬ d = 0) (h1 : ¬ d = 1) (h3 : ¬ d = 3) : F_X7_readOn I d (nI x) = if 97 ≤ x ∧ x ≤ 100 then (if d = 2 then some (3, ax_u I 53 k (nI x - 97)) else some (0, ax_u (ax_u I 53 k (nI x - 97)) 35 23 (nI (k + 1)))) else some (-6, ax_u I 53 k (nI x - 97)) := by
  have hin : ax_in (nI k) 60 = true := p_in (by omega) (by decide)
  have hcl : (nI k).toNatClampNeg = k := p_cl (by omega)
  have u1 : ∀ v, (ax_u I 53 k v) 35 23 = nI k := fun v => by rw [ax_u_n (by decide)]; exact e23
  rw [F_X7_readOn, if_neg h0, if_neg h1, if_neg h3, e23, if_pos hin, hcl, m_par _ hx, p_some]
  by_cases h : 97 ≤ x ∧ x ≤ 100
  · rw [if_pos h, if_neg (by decide), if_pos h, F_X7_close, p_some, u1, nI_1]
  · rw [if_neg h, if_pos rfl, if_neg h]
theorem step2 {I : ax_I} {S : Nat → Nat} {n i k : Nat} (e23 : I 35 23 = nI k) (hA : APs I S n k) (hp : pos S n k + 2 = i) (l1 : 65 ≤ S (i - 2)) (l2 : S (i - 2) ≤ 70) (l3 : 48 ≤ S (i - 1)) (l4 : S (i - 1) ≤ 55) (r51 : I 51 k = 5) (r52 : I 52 k = nI (S (i - 2) - 65)) (r54 : I 54 k = nI (S (i - 1) - 48)) (hi : i < n) (hn : n ≤ 60) (hx : S i ≤ 126) : ∃ r I', F_X7_readOn I (du 2) (nI (S i)) = some (r, I') ∧ FA I I' ∧ ((wn 2 (S i) = 5 ∧ r = -6) ∨ (wn 2 (S i) < 5 ∧ r = du (wn 2 (S i)) ∧ ∃ k', AS I' S n (i + 1) (wn 2 (S i)) k')) := by
  have hk : k < 60 := by have := pos_ge S n k; omega
  have hs := sgT (S := S) hi
  have hs0 : sg S n (pos S n k) = S (i - 2) := by rw [sgT (by omega)]; congr 1; omega
  have hs1 : sg S n (pos S n k + 1) = S (i - 1) := by rw [sgT (by omega)]; congr 1; omega
  have hs2 : sg S n (pos S n k + 2) = S i := by rw [hp]; exact hs
  have e := m_pr (x := S i) hk e23 (by omega) (d := du 2) (by decide) (by decide) (by decide)
  by_cases h : 97 ≤ S i ∧ S i ≤ 100
  · have w1 : wn 2 (S i) = 0 := by unfold wn; rw [if_neg (by decide), if_neg (by decide), if_pos rfl, if_pos h]
    rw [if_pos h, if_neg (by decide)] at e
    have n46 : ¬ sg S n (pos S n k) = 46 := by rw [hs0]; omega
    have n102 : ¬ sg S n (pos S n k) = 102 := by rw [hs0]; omega
    have n9 : dk (sg S n (pos S n k + 1)) = 9 := by rw [hs1]; exact dk_dig l4
    refine ⟨_, _, e, ?_, Or.inr ⟨by omega, by rw [w1]; rfl, k + 1, ?_, ?_, ?_⟩⟩
    · intro r j g1 g2 g3 g4 g5
      rw [ax_u_at, if_neg g5, ax_u_n g3]
    · rw [ax_u_ss]
    · refine AP_s (AP_k hA (fun r j _ _ hj => ?_)) (Or.inr (Or.inr (Or.inr ⟨by omega, by omega, by omega, by omega, by omega, by omega⟩))) ⟨?_, ?_, ?_, ?_⟩
      · rw [ax_u_n (by omega), ax_u_at, if_neg (by omega)]
      · rw [ax_u_n (by decide), ax_u_n (by decide), r51]; unfold aW; rw [if_neg n46, if_neg n102, if_pos n9]; rfl
      · rw [ax_u_n (by decide), ax_u_n (by decide), r52]; unfold aC; rw [if_neg n46, if_neg n102, hs0]
      · rw [ax_u_n (by decide), ax_u_ss]; unfold aP; rw [if_neg n46, if_neg n102, if_pos n9, hs2]; exact pk_sub (b := 97) h.1
      · rw [ax_u_n (by decide), ax_u_n (by decide), r54]; unfold aQ; rw [if_neg n46, if_neg n102, if_pos n9, hs1]
    · refine Or.inl ⟨w1, ?_⟩
      show pos S n k + aL S n (pos S n k) = i + 1
      unfold aL
      rw [if_neg n46, if_neg n102, if_pos n9]; omega
  · have w1 : wn 2 (S i) = 5 := by unfold wn; rw [if_neg (by decide), if_neg (by decide), if_pos rfl, if_neg h]
    rw [if_neg h] at e
    refine ⟨_, _, e, ?_, Or.inl ⟨w1, rfl⟩⟩
    intro r j g1 g2 g3 g4 g5
    rw [ax_u_n g3]
theorem step3 {I : ax_I} {S : Nat → Nat} {n i k : Nat} (e23 : I 35 23 = nI k) (hA : APs I S n k) (hp : pos S n k + 1 = i) (l1 : S (i - 1) = 102) (r51 : I 51 k = 6) (r54 : I 54 k = 0) (hi : i < n) (hn : n ≤ 60) (hx : S i ≤ 126) : ∃ r I', F_X7_readOn I (du 3) (nI (S i)) = some (r, I') ∧ FA I I' ∧ ((wn 3 (S i) = 5 ∧ r = -6) ∨ (wn 3 (S i) < 5 ∧ r = du (wn 3 (S i)) ∧ ∃ k', AS I' S n (i + 1) (wn 3 (S i)) k')) := by
  have hk : k < 60 := by have := pos_ge S n k; omega
  have e1 : i + 1 - 1 = i := by omega
  have e2 : i + 1 - 2 = i - 1 := by omega
  have e := m_pr (x := S i) hk e23 (by omega) (d := du 3) (by decide) (by decide) (by decide)
  by_cases h : 97 ≤ S i ∧ S i ≤ 100
  · have w1 : wn 3 (S i) = 4 := by unfold wn; rw [if_neg (by decide), if_neg (by decide), if_neg (by decide), if_pos rfl, if_pos h]
    rw [if_pos h, if_pos (by decide)] at e
    refine ⟨_, _, e, ?_, Or.inr ⟨by omega, by rw [w1]; rfl, k, ?_, ?_, ?_⟩⟩
    · intro r j g1 g2 g3 g4 g5
      rw [ax_u_n g3]
    · rw [ax_u_n (by decide)]; exact e23
    · exact AP_k hA (fun r j _ _ hj => by rw [ax_u_at, if_neg (by omega)])
    · refine Or.inr (Or.inr (Or.inr (Or.inr ⟨w1, by omega, by rw [e2]; exact l1, by rw [e1]; exact h.1, by rw [e1]; exact h.2, ?_, ?_, ?_⟩)))
      · rw [ax_u_n (by decide)]; exact r51
      · rw [ax_u_ss, e1]; exact pk_sub (b := 97) h.1
      · rw [ax_u_n (by decide)]; exact r54
  · have w1 : wn 3 (S i) = 5 := by unfold wn; rw [if_neg (by decide), if_neg (by decide), if_neg (by decide), if_pos rfl, if_neg h]
    rw [if_neg h] at e
    refine ⟨_, _, e, ?_, Or.inl ⟨w1, rfl⟩⟩
    intro r j g1 g2 g3 g4 g5
    rw [ax_u_n g3]
theorem step4 {I : ax_I} {S : Nat → Nat} {n i k : Nat} (e23 : I 35 23 = nI k) (hA : APs I S n k) (hp : pos S n k + 2 = i) (l1 : S (i - 2) = 102) (l3 : 97 ≤ S (i - 1)) (l4 : S (i - 1) ≤ 100) (r51 : I 51 k = 6) (r53 : I 53 k = nI (S (i - 1) - 97)) (r54 : I 54 k = 0) (hi : i < n) (hn : n ≤ 60) (hx : S i ≤ 126) : ∃ r I', F_X7_readOn I (du 4) (nI (S i)) = some (r, I') ∧ FA I I' ∧ ((wn 4 (S i) = 5 ∧ r = -6) ∨ (wn 4 (S i) < 5 ∧ r = du (wn 4 (S i)) ∧ ∃ k', AS I' S n (i + 1) (wn 4 (S i)) k')) := by
  have hk : k < 60 := by have := pos_ge S n k; omega
  have hs := sgT (S := S) hi
  have hs0 : sg S n (pos S n k) = S (i - 2) := by rw [sgT (by omega)]; congr 1; omega
  have hs1 : sg S n (pos S n k + 1) = S (i - 1) := by rw [sgT (by omega)]; congr 1; omega
  have hs2 : sg S n (pos S n k + 2) = S i := by rw [hp]; exact hs
  have hin : ax_in (nI k) 60 = true := p_in (by omega) (by decide)
  have hcl : (nI k).toNatClampNeg = k := p_cl (by omega)
  have u1 : ∀ v, (ax_u I 52 k v) 35 23 = nI k := fun v => by rw [ax_u_n (by decide)]; exact e23
  by_cases h : 65 ≤ S i ∧ S i ≤ 70
  · have w1 : wn 4 (S i) = 0 := by unfold wn; rw [if_neg (by decide), if_neg (by decide), if_neg (by decide), if_neg (by decide), if_pos rfl, if_pos h]
    have e : F_X7_readOn I (du 4) (nI (S i)) = some (0, ax_u (ax_u I 52 k (nI (S i) - 65)) 35 23 (nI (k + 1))) := by
      rw [F_X7_readOn, if_neg (by decide), if_neg (by decide), if_pos (by decide), e23, if_pos hin, hcl, m_let _ (by omega), p_some, if_pos h, if_neg (by decide), F_X7_close, p_some, u1, nI_1]
    have n46 : ¬ sg S n (pos S n k) = 46 := by rw [hs0]; omega
    have y102 : sg S n (pos S n k) = 102 := by rw [hs0]; omega
    refine ⟨_, _, e, ?_, Or.inr ⟨by omega, by rw [w1]; rfl, k + 1, ?_, ?_, ?_⟩⟩
    · intro r j g1 g2 g3 g4 g5
      rw [ax_u_at, if_neg g5, ax_u_n g2]
    · rw [ax_u_ss]
    · refine AP_s (AP_k hA (fun r j _ _ hj => ?_)) (Or.inr (Or.inl ⟨y102, by omega, by omega, by omega, by omega⟩)) ⟨?_, ?_, ?_, ?_⟩
      · rw [ax_u_n (by omega), ax_u_at, if_neg (by omega)]
      · rw [ax_u_n (by decide), ax_u_n (by decide), r51]; unfold aW; rw [if_neg n46, if_pos y102]; rfl
      · rw [ax_u_n (by decide), ax_u_ss]; unfold aC; rw [if_neg n46, if_pos y102, hs2]; exact pk_sub (b := 65) h.1
      · rw [ax_u_n (by decide), ax_u_n (by decide), r53]; unfold aP; rw [if_neg n46, if_pos y102, hs1]
      · rw [ax_u_n (by decide), ax_u_n (by decide), r54]; unfold aQ; rw [if_neg n46, if_pos y102]; rfl
    · refine Or.inl ⟨w1, ?_⟩
      show pos S n k + aL S n (pos S n k) = i + 1
      unfold aL
      rw [if_neg n46, if_pos y102]; omega
  · have w1 : wn 4 (S i) = 5 := by unfold wn; rw [if_neg (by decide), if_neg (by decide), if_neg (by decide), if_neg (by decide), if_pos rfl, if_neg h]
    have e : F_X7_readOn I (du 4) (nI (S i)) = some (-6, ax_u I 52 k (nI (S i) - 65)) := by
      rw [F_X7_readOn, if_neg (by decide), if_neg (by decide), if_pos (by decide), e23, if_pos hin, hcl, m_let _ (by omega), p_some, if_neg h, if_pos rfl]
    refine ⟨_, _, e, ?_, Or.inl ⟨w1, rfl⟩⟩
    intro r j g1 g2 g3 g4 g5
    rw [ax_u_n g2]
theorem m_step {I : ax_I} {S : Nat → Nat} {n i w k : Nat} (hS : AS I S n i w k) (hi : i < n) (hn : n ≤ 60) (hx : S i ≤ 126) : ∃ r I', F_X7_readOn I (du w) (nI (S i)) = some (r, I') ∧ FA I I' ∧ ((wn w (S i) = 5 ∧ r = -6) ∨ (wn w (S i) < 5 ∧ r = du (wn w (S i)) ∧ ∃ k', AS I' S n (i + 1) (wn w (S i)) k')) := by
  obtain ⟨e23, hA, hT⟩ := hS
  rcases hT with ⟨rfl, h1⟩ | ⟨rfl, h1, h2, h3, h4, h5, h6⟩ | ⟨rfl, h1, h2, h3, h4, h5, h6, h7, h8⟩ | ⟨rfl, h1, h2, h3, h4⟩ | ⟨rfl, h1, h2, h3, h4, h5, h6, h7⟩
  · exact step0 e23 hA h1 hi hn hx
  · exact step1 e23 hA h1 h2 h3 h4 h5 h6 hi hn hx
  · exact step2 e23 hA h1 h2 h3 h4 h5 h6 h7 h8 hi hn hx
  · exact step3 e23 hA h1 h2 h3 h4 hi hn hx
  · exact step4 e23 hA h1 h2 h3 h4 h5 h6 h7 hi hn hx
theorem FA_tr {I I1 I2 : ax_I} (h1 : FA I I1) (h2 : FA I1 I2) : FA I I2 := fun r j g1 g2 g3 g4 g5 => (h2 r j g1 g2 g3 g4 g5).trans (h1 r j g1 g2 g3 g4 g5)
/-- the pad as the model has it -/
def PM (I : ax_I) (n : Nat) (S : Nat → Nat) : Prop := I 35 18 = nI n ∧ n ≤ 60 ∧ (∀ j, j < n → I 50 j = nI (S j)) ∧ ∀ j, j < n → 33 ≤ S j ∧ S j ≤ 126
theorem PR_PM {I : ax_I} {n : Nat} {S : Nat → Nat} (h : PR I n S) : PM I n S := ⟨h.2.1, h.2.2.1, h.2.2.2.2.1, h.2.2.2.2.2⟩
theorem PM_eq {I I' : ax_I} {n : Nat} {S : Nat → Nat} (h : PM I n S) (e1 : I' 35 18 = I 35 18) (e2 : ∀ j, I' 50 j = I 50 j) : PM I' n S := ⟨e1.trans h.1, h.2.1, fun j hj => (e2 j).trans (h.2.2.1 j hj), h.2.2.2⟩
theorem PM_FA {I I' : ax_I} {n : Nat} {S : Nat → Nat} (h : PM I n S) (f : FA I I') : PM I' n S := PM_eq h (f 35 18 (by decide) (by decide) (by decide) (by decide) (by decide)) (fun j => f 50 j (by decide) (by decide) (by decide) (by decide) (by omega))
theorem du_pos : ∀ w, w < 5 → 0 ≤ du w := by decide
theorem m_ffk {n : Nat} {S : Nat → Nat} : ∀ (f m w k : Nat) (I : ax_I), PM I n S → m ≤ n → m < f → w < 5 → AS I S n (n - m) w k → ∃ I', f_X7_fault_9 f I (du w) (nI (n - m)) = some (ffk S n m w, I') ∧ FA I I' ∧ ((ffk S n m w = -6 ∧ ∃ k', AS I' S n n 0 k') ∨ ∃ v, v ≤ 60 ∧ ffk S n m w = nI v)
  | 0, m, w, k, I, _, _, h, _, _ => by omega
  | f + 1, 0, w, k, I, hP, _, h, hw, hS => by
    have hn := hP.2.1
    rw [f_X7_fault_9, hP.1, if_pos (nI_le (a := n) (b := n - 0) (by omega) (by omega)), ffk]
    by_cases h0 : w = 0
    · rw [if_pos h0, h0, if_pos (by decide)]
      rw [h0] at hS
      exact ⟨I, rfl, fun _ _ _ _ _ _ _ => rfl, Or.inl ⟨rfl, k, hS⟩⟩
    · have hd : ∀ w, w < 5 → ¬ w = 0 → ¬ du w = 0 := by decide
      rw [if_neg h0, if_neg (hd w hw h0)]
      exact ⟨I, rfl, fun _ _ _ _ _ _ _ => rfl, Or.inr ⟨n, hn, rfl⟩⟩
  | f + 1, m + 1, w, k, I, hP, hm, h, hw, hS => by
    have hn := hP.2.1
    have e5 : n - (m + 1) + 1 = n - m := by omega
    have hlt : n - (m + 1) < n := by omega
    obtain ⟨q, hq⟩ : ∃ q, q = n - (m + 1) := ⟨_, rfl⟩
    rw [ffk, ← hq]
    rw [← hq] at hlt e5 hS
    have hx := (hP.2.2.2 q hlt).2
    obtain ⟨r, I1, h1, h2, h3⟩ := m_step hS hlt hn hx
    have hin : ax_in (nI q) 60 = true := p_in (by omega) (by decide)
    have hcl : (nI q).toNatClampNeg = q := p_cl (by omega)
    rw [f_X7_fault_9, hP.1, if_neg (nI_ge (a := q) (b := n) hlt (by omega)), if_pos hin, hcl, hP.2.2.1 q hlt, h1, p_some]
    rcases h3 with ⟨g1, g2⟩ | ⟨g1, g2, k', g3⟩
    · rw [if_pos g1, g2, if_neg (show ¬ (0 : Int32) ≤ -6 by decide)]
      exact ⟨I1, rfl, h2, Or.inr ⟨q, by omega, rfl⟩⟩
    · rw [if_neg (show ¬ wn w (S q) = 5 by omega), g2, if_pos (du_pos _ g1), nI_1, e5]
      rw [e5] at g3
      obtain ⟨I2, i1, i2, i3⟩ := m_ffk f m _ k' I1 (PM_FA hP h2) (by omega) (by omega) g1 g3
      exact ⟨I2, i1, FA_tr h2 i2, i3⟩
theorem m_ff {I : ax_I} {n : Nat} {S : Nat → Nat} (hP : PM I n S) : ∃ I', F_X7_fault I = some (ffk S n n 0, I') ∧ FA I I' ∧ ((ffk S n n 0 = -6 ∧ ∃ k', AS I' S n n 0 k') ∨ ∃ v, v ≤ 60 ∧ ffk S n n 0 = nI v) := by
  have f0 : FA I (ax_u I 35 23 0) := fun r j _ _ _ _ g => by rw [ax_u_at, if_neg g]
  have s0 : AS (ax_u I 35 23 0) S n (n - n) 0 0 := by
    refine ⟨by rw [ax_u_ss]; rfl, fun j hj => absurd hj (by omega), Or.inl ⟨rfl, ?_⟩⟩
    rw [Nat.sub_self]; rfl
  obtain ⟨I', h1, h2, h3⟩ := m_ffk ax_N n 0 0 _ (PM_FA hP f0) (Nat.le_refl _) (by have := hP.2.1; unfold ax_N; omega) (by decide) s0
  rw [Nat.sub_self] at h1
  exact ⟨I', h1, FA_tr f0 h2, h3⟩
theorem op8 : lw_op8 Inv := by
  intro l E B lay I J hI
  have hLL := (inv_sz hI).2.2
  have hI0 := hI
  obtain ⟨g, ext, D, n, S, hlay, hext, hez, hC, hM, hW, hP, hIm⟩ := hI
  obtain ⟨I', h1, h2, -⟩ := m_ff (PR_PM hP)
  have e1 : F_X6_fault I = some (ffk S n n 0) := by rw [F_X6_fault, x_ff hP, p_some]
  exact op_i (M_X6_fault hLL e1) (M_X7_fault (J := J) hLL h1) (by decide) (by decide) (Inv_fr hI0 (fun r j hr => h2 r j (by omega) (by omega) (by omega) (by omega) (by omega)) (h2 35 0 (by decide) (by decide) (by decide) (by decide) (by decide)) (h2 35 1 (by decide) (by decide) (by decide) (by decide) (by decide)) (h2 35 16 (by decide) (by decide) (by decide) (by decide) (by decide)) (h2 35 18 (by decide) (by decide) (by decide) (by decide) (by decide)))
