/-! ===== ask ===== -/
def ma (D : pD) (w s : Nat) : Nat → Nat
  | 0 => 0
  | k + 1 => ma D w s k + if ft D k = true ∧ mk k w s = true then 1 else 0
def mb (D : pD) (w s : Nat) : Nat → Nat
  | 0 => 0
  | k + 1 => mb D w s k + if ft D k = true ∧ mk k w s = false then 1 else 0
theorem ma_mb (D : pD) (w s : Nat) : ∀ k, ma D w s k + mb D w s k = cf D k
  | 0 => rfl
  | k + 1 => by
    have h := ma_mb D w s k
    rw [ma, mb, cf]
    cases hf : ft D k <;> cases hm : mk k w s <;> simp <;> omega
theorem cm_l {I0 I : ax_I} {D : pD} (hF : FI D I0 I 100) {w s : Nat} (hw : w < 1000) (hs : s < 1000) : ∀ (m n : Nat), m ≤ 100 → cf D 100 - cf D (100 - m) < n → f_X3_countThatMake_5 n I (nI w) (nI s) (nI (ma D w s (100 - m))) (nI (cf D (100 - m))) = some (nI (ma D w s 100))
  | m, 0, _, h => by omega
  | 0, n + 1, _, h => by
    have h100 := cf_le D 100
    rw [f_X3_countThatMake_5, hF.2.1, if_pos (nI_le (Nat.le_refl _) (by omega))]
  | m + 1, n + 1, hm, h => by
    have e5 : 100 - (m + 1) + 1 = 100 - m := by omega
    have hlt : 100 - (m + 1) < 100 := by omega
    obtain ⟨k, hk⟩ : ∃ k, k = 100 - (m + 1) := ⟨_, rfl⟩
    rw [← hk] at hlt e5 h ⊢
    have h100 := cf_le D 100
    have h2 : cf D (k + 1) ≤ cf D 100 := cf_mono D _ _ (by omega)
    by_cases hf : ft D k = true
    · have ecf : cf D (k + 1) = cf D k + 1 := by rw [cf, if_pos hf]
      have ih := cm_l hF hw hs m n (by omega) (by rw [← e5, ecf]; omega)
      rw [← e5, ecf, ma] at ih
      have hi : ax_in (nI (cf D k)) 100 = true := p_in (by omega) (by decide)
      have hcl : (nI (cf D k)).toNatClampNeg = cf D k := p_cl (by omega)
      rw [f_X3_countThatMake_5, hF.2.1, if_neg (nI_ge (by omega) (by omega)), if_pos hi, hcl, hF.2.2 k hlt hf, x_mk (by omega) hw hs, p_some]
      simp only [f_X3_countThatMake_32, nI_1]
      cases hmk : mk k w s
      · rw [hmk, if_neg (by simp)] at ih
        rw [if_pos (by simp)]; exact ih
      · rw [hmk, if_pos ⟨hf, rfl⟩] at ih
        rw [if_neg (by simp)]; exact ih
    · have ecf : cf D (k + 1) = cf D k := by rw [cf, if_neg hf]; rfl
      have ih := cm_l hF hw hs m (n + 1) (by omega) (by rw [← e5, ecf]; omega)
      rw [← e5, ecf, ma, if_neg (fun h => hf h.1)] at ih
      exact ih
theorem x_cm {I0 I : ax_I} {D : pD} (hF : FI D I0 I 100) {w s : Nat} (hw : w < 1000) (hs : s < 1000) : F_X3_countThatMake I (nI w) (nI s) = some (nI (ma D w s 100)) := by
  have h100 := cf_le D 100
  have h := cm_l hF hw hs 100 ax_N (by decide) (by unfold ax_N; omega)
  rw [Nat.sub_self] at h
  exact h
/-- what is left at most, when the life l is asked -/
def Lf (D : pD) (l : Nat) : Nat := if ma D (l / 10) (l % 10) 100 ≤ mb D (l / 10) (l % 10) 100 then mb D (l / 10) (l % 10) 100 else ma D (l / 10) (l % 10) 100
theorem Lf_le (D : pD) (l : Nat) : Lf D l ≤ cf D 100 ∧ cf D 100 ≤ 2 * Lf D l := by
  have h := ma_mb D (l / 10) (l % 10) 100
  unfold Lf
  split <;> omega
theorem ml_l {I : ax_I} {D : pD} (hM : MR I D) (hW : WF D) {l : Nat} (hl : l < 100) : ∀ (n m : Nat), m ≤ 100 → m < n → f_X7_mostLeft_7 n I (nI l) (nI (ma D (l / 10) (l % 10) (100 - m))) (nI (mb D (l / 10) (l % 10) (100 - m))) (nI (100 - m)) = some (nI (Lf D l))
  | 0, m, _, h => by omega
  | n + 1, 0, _, h => by
    have h1 := ma_mb D (l / 10) (l % 10) 100
    have h100 := cf_le D 100
    rw [f_X7_mostLeft_7, if_pos (show (100 : Int32) ≤ nI (100 - 0) from by decide), Nat.sub_zero]
    unfold Lf
    simp only [nI_leI (a := ma D (l / 10) (l % 10) 100) (b := mb D (l / 10) (l % 10) 100) (by omega) (by omega)]
    split <;> rfl
  | n + 1, m + 1, hm, h => by
    have e5 : 100 - (m + 1) + 1 = 100 - m := by omega
    have hlt : 100 - (m + 1) < 100 := by omega
    obtain ⟨k, hk⟩ : ∃ k, k = 100 - (m + 1) := ⟨_, rfl⟩
    rw [← hk] at hlt e5 ⊢
    have ih := ml_l hM hW hl n m (by omega) (by omega)
    rw [← e5, ma, mb] at ih
    obtain ⟨d1, d2⟩ := p_dm (p := l) (by omega)
    have z : ∀ a : Nat, nI a + 0 = nI a := fun a => by rw [← nI_0, nI_add]; rfl
    rw [f_X7_mostLeft_7, if_neg (p_ge100 hlt), m_ft hM hW hlt, p_some, d2, d1, m_mk (by omega) (by omega) (by omega), p_some]
    cases hf : ft D k
    · rw [hf, if_neg (by simp), if_neg (by simp), Nat.add_zero, Nat.add_zero] at ih
      simp only [f_X7_mostLeft_52, f_X7_mostLeft_53, f_X7_mostLeft_70, f_X7_mostLeft_71, nI_1, z]
      simp only [Bool.false_eq_true, if_false, if_true]
      exact ih
    · cases hmk : mk k (l / 10) (l % 10)
      · rw [hf, hmk, if_neg (by simp), if_pos (by simp), Nat.add_zero] at ih
        simp only [f_X7_mostLeft_52, f_X7_mostLeft_53, f_X7_mostLeft_70, f_X7_mostLeft_71, nI_1, z]
        simp only [Bool.false_eq_true, if_false, if_true, p10]
        exact ih
      · rw [hf, hmk, if_pos (by simp), if_neg (by simp), Nat.add_zero] at ih
        simp only [f_X7_mostLeft_52, f_X7_mostLeft_53, f_X7_mostLeft_70, f_X7_mostLeft_71, nI_1, z]
        simp only [Bool.false_eq_true, if_false, if_true, p10]
        exact ih
theorem m_ml {I : ax_I} {D : pD} (hM : MR I D) (hW : WF D) {l : Nat} (hl : l < 100) : F_X7_mostLeft I (nI l) = some (nI (Lf D l)) := by
  have h := ml_l hM hW hl ax_N 100 (by decide) (by decide)
  rw [Nat.sub_self] at h
  exact h
theorem x_left {I0 I : ax_I} {D : pD} (hF : FI D I0 I 100) {l : Nat} (hl : l < 100) : (if nI (ma D (l / 10) (l % 10) 100) < I 33 1 - nI (ma D (l / 10) (l % 10) 100) then I 33 1 - nI (ma D (l / 10) (l % 10) 100) else nI (ma D (l / 10) (l % 10) 100)) = nI (Lf D l) := by
  have h1 := ma_mb D (l / 10) (l % 10) 100
  have h100 := cf_le D 100
  rw [hF.2.1, pk_sub (by omega), show cf D 100 - ma D (l / 10) (l % 10) 100 = mb D (l / 10) (l % 10) 100 from by omega]
  simp only [nI_ltI (a := ma D (l / 10) (l % 10) 100) (b := mb D (l / 10) (l % 10) 100) (by omega) (by omega)]
  unfold Lf
  by_cases c : ma D (l / 10) (l % 10) 100 < mb D (l / 10) (l % 10) 100
  · rw [if_pos c, if_pos (by omega)]
  · rw [if_neg c]
    by_cases c2 : ma D (l / 10) (l % 10) 100 ≤ mb D (l / 10) (l % 10) 100
    · rw [if_pos c2, show ma D (l / 10) (l % 10) 100 = mb D (l / 10) (l % 10) 100 from by omega]
    · rw [if_neg c2]
theorem ask_x {I0 I : ax_I} {D : pD} (hF : FI D I0 I 100) (x1 x2 x3 : Int32) (n : Nat) {k : Nat} (hk : k < 100) : f_X6_ask_44 (n + 1) I x1 x2 x3 (nI k) = if x2 ≤ nI (Lf D k) then f_X6_ask_44 n I x1 x2 x3 (nI (k + 1)) else f_X6_ask_44 n I x1 (nI (Lf D k)) (nI k) (nI (k + 1)) := by
  obtain ⟨d1, d2⟩ := p_dm (p := k) (by omega)
  rw [f_X6_ask_44, if_neg (p_ge100 hk), d2, d1, x_cm hF (by omega) (by omega), p_some, x_left hF hk]
  simp only [f_X6_ask_87, f_X6_ask_99, nI_1]
theorem ask_l {I0 I : ax_I} {D : pD} (hF : FI D I0 I 100) (hM : MR I D) (hW : WF D) (h0 : 0 < cf D 100) (x1 : Int32) : ∀ (m n n' b : Nat), m ≤ 100 → m < n → m < n' → ∃ r, f_X6_ask_44 n I x1 (nI (Lf D b)) (nI b) (nI (100 - m)) = some (r, I) ∧ f_X7_ask_24 n' I x1 (nI b) (nI (Lf D b)) (nI (100 - m)) = some r
  | m, 0, n', b, _, h, _ => by omega
  | m, n + 1, 0, b, _, h, h' => by omega
  | 0, n + 1, n' + 1, b, _, h, h' => by
    have g1 : (100 : Int32) ≤ nI (100 - 0) := by decide
    have h1 := Lf_le D b
    have h100 := cf_le D 100
    have g2 : ¬ nI (Lf D b) = 0 := nI_ne0 (by omega) (by omega)
    refine ⟨if x1 = 0 then nI b else nI (Lf D b), ?_, ?_⟩
    · rw [f_X6_ask_44, if_pos g1]; split <;> rfl
    · rw [f_X7_ask_24, if_pos g1, if_neg g2]; split <;> rfl
  | m + 1, n + 1, n' + 1, b, hm, h, h' => by
    have e5 : 100 - (m + 1) + 1 = 100 - m := by omega
    have hlt : 100 - (m + 1) < 100 := by omega
    obtain ⟨k, hk⟩ : ∃ k, k = 100 - (m + 1) := ⟨_, rfl⟩
    rw [← hk] at hlt e5 ⊢
    rw [ask_x hF x1 _ _ n hlt, f_X7_ask_24, if_neg (p_ge100 hlt), m_ml hM hW hlt, p_some, e5]
    simp only [f_X7_ask_51, f_X7_ask_64, nI_1, e5]
    by_cases c : nI (Lf D b) ≤ nI (Lf D k)
    · rw [if_pos c, if_pos c, if_pos c]
      exact ask_l hF hM hW h0 x1 m n n' b (by omega) (by omega) (by omega)
    · rw [if_neg c, if_neg c, if_neg c]
      exact ask_l hF hM hW h0 x1 m n n' k (by omega) (by omega) (by omega)
theorem ask_0 {I : ax_I} {D : pD} (hM : MR I D) (hW : WF D) (h0 : cf D 100 = 0) (x1 : Int32) : ∀ (n m : Nat), m ≤ 100 → m < n → f_X7_ask_24 n I x1 0 0 (nI (100 - m)) = some (-6)
  | 0, m, _, h => by omega
  | n + 1, 0, _, h => by
    rw [f_X7_ask_24, if_pos (show (100 : Int32) ≤ nI (100 - 0) from by decide), if_pos rfl]
  | n + 1, m + 1, hm, h => by
    have e5 : 100 - (m + 1) + 1 = 100 - m := by omega
    have hlt : 100 - (m + 1) < 100 := by omega
    obtain ⟨k, hk⟩ : ∃ k, k = 100 - (m + 1) := ⟨_, rfl⟩
    rw [← hk] at hlt e5 ⊢
    have h1 := Lf_le D k
    have c : (0 : Int32) ≤ nI (Lf D k) := nI_pos' (by omega)
    rw [f_X7_ask_24, if_neg (p_ge100 hlt), m_ml hM hW hlt, p_some, if_pos c, f_X7_ask_51, if_pos c, f_X7_ask_64, nI_1, e5]
    exact ask_0 hM hW h0 x1 n m (by omega) (by omega)
theorem op25 : lw_op25 Inv := by
  intro a1 l E B lay I J hI
  have hLL := (inv_sz hI).2.2
  have hI0 := hI
  obtain ⟨g, ext, D, n, S, hlay, hext, hez, hC, hM, hW, hP', hIm⟩ := hI
  have n1 : ¬ (1 : Int32) = 0 := by decide
  by_cases h1 : (0 : Int32) ≤ a1 ∧ a1 ≤ 1
  · obtain ⟨I1, hfd, hF⟩ := find_s hC hW
    have hI1 := FI_inv hI0 hF
    have hM1 : MR I1 D := MR_eq hM (fun r j _ _ => hF.1 r j (by omega) (by omega)) (hF.1 _ _ (by omega) (by omega)) (hF.1 _ _ (by omega) (by omega)) (hF.1 _ _ (by omega) (by omega))
    have m1 : F_X7_in I1 a1.toInt64 0 1 = some 1 := p_mT 0 1 h1 rfl rfl
    have h100 := cf_le D 100
    have hL0 := Lf_le D 0
    have ml0 : F_X7_mostLeft I1 0 = some (nI (Lf D 0)) := m_ml hM1 hW (l := 0) (by decide)
    have h : ∃ r, F_X6_ask I a1 = some (r, I1) ∧ F_X7_ask I1 a1 = some r := by
      by_cases z : cf D 100 = 0
      · refine ⟨-6, ?_, ?_⟩
        · rw [F_X6_ask, p_wT h1, p_some, if_neg n1, hfd, p_some, hF.2.1, if_pos (by rw [z]; rfl)]
        · have e := ask_0 hM1 hW z a1 ax_N 99 (by decide) (by decide)
          rw [F_X7_ask, m1, p_some, if_neg n1, ml0, p_some, show Lf D 0 = 0 from by omega]
          exact e
      · obtain ⟨r, e1, e2⟩ := ask_l hF hM1 hW (by omega) a1 99 299 300 0 (by decide) (by decide) (by decide)
        have s1 : f_X6_ask_44 (299 + 1) I1 a1 101 0 (nI 0) = f_X6_ask_44 299 I1 a1 (nI (Lf D 0)) (nI 0) (nI (0 + 1)) := by
          rw [ask_x hF a1 101 0 299 (by decide), if_neg (show ¬ (101 : Int32) ≤ nI (Lf D 0) from nI_ge (a := Lf D 0) (b := 101) (by omega) (by decide))]
        refine ⟨r, ?_, ?_⟩
        · rw [F_X6_ask, p_wT h1, p_some, if_neg n1, hfd, p_some, hF.2.1, if_neg (nI_ne0 (by omega) (by omega))]
          exact s1.trans e1
        · rw [F_X7_ask, m1, p_some, if_neg n1, ml0, p_some]
          exact e2
    obtain ⟨r, e1, e2⟩ := h
    exact op_i (M_X6_ask hLL e1) (M_X7_ask (J := J) hLL e2) (by decide) (by decide) hI1
  · have m1 : F_X7_in I a1.toInt64 0 1 = some 0 := p_mF 0 1 h1 rfl rfl
    have e1 : F_X6_ask I a1 = some (-2, I) := by rw [F_X6_ask, p_wF h1, p_some, if_pos rfl]
    have e2 : F_X7_ask I a1 = some (-2) := by rw [F_X7_ask, m1, p_some, if_pos rfl]
    exact op_i (M_X6_ask hLL e1) (M_X7_ask (J := J) hLL e2) (by decide) (by decide) hI0
