/-! ===== book ===== -/
def nx (x : Nat) : Nat := (75 * x + 74) % 65537
def kd (t : Nat) : Nat := if t < 3 then 0 else if t < 5 then 1 else if t = 5 then 2 else if t = 6 then 3 else 5
def dW (x : Nat) : Nat := kd (x / 6 % 8)
def dC (x : Nat) : Nat := x % 6
def dQ (x : Nat) : Nat := x / 48 % 8
def dP (x : Nat) : Nat := x / 384 % 4
def dr (D : pD) (x : Nat) : pD := if pWhy D (dW x) (dC x) (dP x) (dQ x) = 0 then pDo D (dW x) (dC x) (dP x) (dQ x) else D
def bk : Nat → pD → Nat → pD
  | 0, D, _ => D
  | m + 1, D, x => bk m (dr D (nx x)) (nx x)
theorem nx_lt (x : Nat) : nx x < 65537 := Nat.mod_lt _ (by decide)
theorem kd_le (t : Nat) : kd t ≤ 5 := by unfold kd; repeat' split
                                         all_goals omega
theorem d_b (x : Nat) : dW x ≤ 5 ∧ dC x ≤ 5 ∧ dP x ≤ 3 ∧ dQ x ≤ 7 := by
  have h1 : dC x < 6 := Nat.mod_lt _ (by decide)
  have h2 : dP x < 4 := Nat.mod_lt _ (by decide)
  have h3 : dQ x < 8 := Nat.mod_lt _ (by decide)
  exact ⟨kd_le _, by omega, by omega, by omega⟩
theorem WF_dr {D : pD} (hW : WF D) (x : Nat) : WF (dr D x) := by
  obtain ⟨h1, h2, h3, h4⟩ := d_b x
  unfold dr
  split
  · exact WF_do hW (by omega) h2 h3 (by assumption)
  · exact hW
theorem WF_bk : ∀ (m : Nat) (D : pD) (x : Nat), WF D → WF (bk m D x)
  | 0, D, x, h => h
  | m + 1, D, x, h => WF_bk m _ _ (WF_dr h _)
theorem i_nx {x : Nat} (hx : x < 65537) : ((75 * nI x) + 74) - ((75 * nI x) + 74) / 65537 * 65537 = nI (nx x) := by
  rw [show (75 : Int32) * nI x = nI (75 * x) from pk_mul 75 x, show nI (75 * x) + 74 = nI (75 * x + 74) from nI_add _ 74]
  exact pk_rem (d := 65537) (by omega) (by decide) (by decide)
theorem l_nx {x : Nat} (hx : x < 65537) : ((((75 * ((nI x : Int32).toInt64)) + 74) - ((75 * ((nI x : Int32).toInt64)) + 74) / 65537 * 65537) : Int64).toInt32 = nI (nx x) := by
  rw [nI_l (by omega), show (75 : Int64) * lN x = lN (75 * x) from lN_mul 75 x, show lN (75 * x) + 74 = lN (75 * x + 74) from lN_add _ 74, show lN (75 * x + 74) - lN (75 * x + 74) / 65537 * 65537 = lN ((75 * x + 74) % 65537) from pk_lRem (b := 65537) (by omega) (by decide) (by decide), lN_i]
  rfl
theorem i_t {y : Nat} (hy : y < 65537) : (nI y / 6) - (nI y / 6) / 8 * 8 = nI (y / 6 % 8) := by
  rw [show nI y / 6 = nI (y / 6) from pk_div (d := 6) (by omega) (by decide) (by decide)]
  exact pk_rem (d := 8) (by omega) (by decide) (by decide)
theorem i_c {y : Nat} (hy : y < 65537) : nI y - nI y / 6 * 6 = nI (dC y) := pk_rem (d := 6) (by omega) (by decide) (by decide)
theorem i_q {y : Nat} (hy : y < 65537) : (nI y / 48) - (nI y / 48) / 8 * 8 = nI (dQ y) := by
  rw [show nI y / 48 = nI (y / 48) from pk_div (d := 48) (by omega) (by decide) (by decide)]
  exact pk_rem (d := 8) (by omega) (by decide) (by decide)
theorem i_p {y : Nat} (hy : y < 65537) : (nI y / 384) - (nI y / 384) / 4 * 4 = nI (dP y) := by
  rw [show nI y / 384 = nI (y / 384) from pk_div (d := 384) (by omega) (by decide) (by decide)]
  exact pk_rem (d := 4) (by omega) (by decide) (by decide)
theorem kd_all : chk 8 (fun t => decide (F_X0_drawnKind zI (nI t) = some (nI (kd t)))) = true := by decide +kernel
theorem x_kd (I : ax_I) {t : Nat} (ht : t < 8) : F_X0_drawnKind I (nI t) = some (nI (kd t)) := of_decide_eq_true (chk_at kd_all ht)
def rd30 (I : ax_I) (w c p q : Nat) : ax_I := ax_u (ax_u (ax_u (ax_u I 30 0 (nI w)) 30 1 (nI c)) 30 2 (nI q)) 30 3 (nI p)
theorem x_draw {I : ax_I} {y : Nat} (hy : y < 65537) : F_X0_draw I 30 (nI y) = some (rd30 I (dW y) (dC y) (dP y) (dQ y)) := by
  rw [F_X0_draw, i_t hy, x_kd I (Nat.mod_lt _ (by decide)), p_some, i_c hy, i_q hy, i_p hy, F_X0_put, p_some]
  rfl
def fX (I : ax_I) (x3 : Int32) : Option (Int32 × ax_I) := if x3 = 0 then (F_X2_saintBits I 13).bind (fun q140 => (F_J6_bitCount_0f7a4 I q140).bind (fun q143 => some (q143, I))) else if x3 = 1 then (F_X2_pursesTogether I 13).bind (fun q151 => some (q151, I)) else (F_X2_allHeldParts I 13).bind (fun q159 => some (q159, I))
def FB (I I' : ax_I) : Prop := ∀ r j, (r < 13 ∨ (24 < r ∧ r ≠ 30)) → I' r j = I r j
theorem x_book_l {M : Nat} (hM : M < 1000) (x3 : Int32) : ∀ (f m x : Nat) (D : pD) (I : ax_I), m ≤ M → m < f → x < 65537 → WF D → CR I 13 D → ∃ I', f_X6_book_50 f I (nI M) x3 (nI x) (nI (M - m)) = fX I' x3 ∧ CR I' 13 (bk m D x) ∧ FB I I'
  | 0, m, x, D, I, _, h, _, _, _ => by omega
  | f + 1, 0, x, D, I, _, h, hx, hW, hC => by
    refine ⟨I, ?_, hC, fun _ _ _ => rfl⟩
    rw [f_X6_book_50, if_pos (nI_le (a := M) (b := M - 0) (by omega) (by omega))]
    rfl
  | f + 1, m + 1, x, D, I, hm, h, hx, hW, hC => by
    have e5 : M - (m + 1) + 1 = M - m := by omega
    have hlt : M - (m + 1) < M := by omega
    obtain ⟨k, hk⟩ : ∃ k, k = M - (m + 1) := ⟨_, rfl⟩
    rw [← hk] at hlt e5 ⊢
    have hy := nx_lt x
    obtain ⟨y, hyy⟩ : ∃ y, y = nx x := ⟨_, rfl⟩
    have nx' := i_nx hx
    rw [← hyy] at hy nx'
    obtain ⟨g1, g2, g3, g4⟩ := d_b y
    obtain ⟨I1, hI1⟩ : ∃ I1, I1 = rd30 I (dW y) (dC y) (dP y) (dQ y) := ⟨_, rfl⟩
    have xr := x_draw (I := I) hy
    rw [← hI1] at xr
    have c0 : I1 30 0 = nI (dW y) := by rw [hI1]; unfold rd30; rw [ax_u_nj (by decide), ax_u_nj (by decide), ax_u_nj (by decide), ax_u_ss]
    have c1 : I1 30 1 = nI (dC y) := by rw [hI1]; unfold rd30; rw [ax_u_nj (by decide), ax_u_nj (by decide), ax_u_ss]
    have c2 : I1 30 2 = nI (dQ y) := by rw [hI1]; unfold rd30; rw [ax_u_nj (by decide), ax_u_ss]
    have c3 : I1 30 3 = nI (dP y) := by rw [hI1]; unfold rd30; rw [ax_u_ss]
    have co : ∀ r j, r ≠ 30 → I1 r j = I r j := fun r j hr => by rw [hI1]; unfold rd30; rw [ax_u_n hr, ax_u_n hr, ax_u_n hr, ax_u_n hr]
    have hC1 : CR I1 13 D := CR_eq hC (fun q j hq => co _ _ (by omega))
    have hwy := x_why hC1 hW (by omega) g2 g3 g4 c0 c1 c2 c3
    have hle := pWhy_le D (dW y) (dC y) (dP y) (dQ y)
    have e0 : f_X6_book_50 (f + 1) I (nI M) x3 (nI x) (nI k) = if nI (pWhy D (dW y) (dC y) (dP y) (dQ y)) = 0 then (F_X2_live I1 13 30).bind (fun q100 => f_X6_book_50 f q100 (nI M) x3 (nI y) (nI (M - m))) else f_X6_book_50 f I1 (nI M) x3 (nI y) (nI (M - m)) := by
      rw [f_X6_book_50, if_neg (nI_ge (a := k) (b := M) hlt (by omega)), nx', f_X6_book_69, xr, p_some, hwy, p_some]
      simp only [f_X6_book_103, nI_1, e5]
    by_cases h0 : pWhy D (dW y) (dC y) (dP y) (dQ y) = 0
    · obtain ⟨I2, l1, l2, l3⟩ := x_do hC1 hW (by omega) (by omega) g2 g3 g4 c0 c1 c2 c3 h0
      have ed : dr D (nx x) = pDo D (dW y) (dC y) (dP y) (dQ y) := by rw [← hyy]; unfold dr; rw [if_pos h0]
      rw [h0, if_pos (by decide), l1, p_some] at e0
      obtain ⟨I', i1, i2, i3⟩ := x_book_l hM x3 f m y (pDo D (dW y) (dC y) (dP y) (dQ y)) I2 (by omega) (by omega) hy (WF_do hW (by omega) g2 g3 h0) l2
      refine ⟨I', e0.trans i1, ?_, fun r j hr => ((i3 r j hr).trans (l3 r j (by omega))).trans (co r j (by omega))⟩
      rw [bk, ed, ← hyy]; exact i2
    · have ed : dr D (nx x) = D := by rw [← hyy]; unfold dr; rw [if_neg h0]
      rw [if_neg (nI_ne0 (by omega) (by omega))] at e0
      obtain ⟨I', i1, i2, i3⟩ := x_book_l hM x3 f m y D I1 (by omega) (by omega) hy hW hC1
      refine ⟨I', e0.trans i1, ?_, fun r j hr => (i3 r j hr).trans (co r j (by omega))⟩
      rw [bk, ed, ← hyy]; exact i2
theorem m_kd {α : Type} (F : Int32 → α) {t : Nat} (ht : t < 8) : (if 3 ≤ nI t then (if 5 ≤ nI t then (if nI t = 5 then F 2 else if nI t = 6 then F 3 else F 5) else F 1) else F 0) = F (nI (kd t)) := by
  have c1 : ((3 : Int32) ≤ nI t) = (3 ≤ t) := e_le (a := 3) (by decide) (by omega)
  have c2 : ((5 : Int32) ≤ nI t) = (5 ≤ t) := e_le (a := 5) (by decide) (by omega)
  have c3 : (nI t = 5) = (t = 5) := e_eq (b := 5) (by omega) (by decide)
  have c4 : (nI t = 6) = (t = 6) := e_eq (b := 6) (by omega) (by decide)
  unfold kd
  by_cases h3 : t < 3
  · rw [if_pos h3, if_neg (by rw [c1]; omega)]; rfl
  · rw [if_neg h3, if_pos (by rw [c1]; omega)]
    by_cases h5 : t < 5
    · rw [if_pos h5, if_neg (by rw [c2]; omega)]; rfl
    · rw [if_neg h5, if_pos (by rw [c2]; omega)]
      by_cases e5 : t = 5
      · rw [if_pos e5, if_pos (by rw [c3]; exact e5)]; rfl
      · rw [if_neg e5, if_neg (by rw [c3]; exact e5)]
        by_cases e6 : t = 6
        · rw [if_pos e6, if_pos (by rw [c4]; exact e6)]; rfl
        · rw [if_neg e6, if_neg (by rw [c4]; exact e6)]; rfl
theorem FM_tr {I I1 I2 : ax_I} (h1 : FM I I1) (h2 : FM I1 I2) : FM I I2 := ⟨fun r j g1 g2 g3 g4 g5 g6 g7 => (h2.1 r j g1 g2 g3 g4 g5 g6 g7).trans (h1.1 r j g1 g2 g3 g4 g5 g6 g7), fun j hj => (h2.2 j hj).trans (h1.2 j hj)⟩
theorem m_book_l {M : Nat} (hM' : M < 1000) (x3 : Int32) : ∀ (f m x : Nat) (D : pD) (I : ax_I), m ≤ M → m < f → x < 65537 → WF D → MR I D → ∃ I', f_X7_book_53 f I (nI M) x3 (nI x) (nI (M - m)) = f_X7_book_199 ax_N I' x3 0 0 0 ∧ MR I' (bk m D x) ∧ FM I I'
  | 0, m, x, D, I, _, h, _, _, _ => by omega
  | f + 1, 0, x, D, I, _, h, hx, hW, hM => by
    refine ⟨I, ?_, hM, fun _ _ _ _ _ _ _ _ _ => rfl, fun _ _ => rfl⟩
    rw [f_X7_book_53, if_pos (nI_le (a := M) (b := M - 0) (by omega) (by omega))]
  | f + 1, m + 1, x, D, I, hm, h, hx, hW, hM => by
    have e5 : M - (m + 1) + 1 = M - m := by omega
    have hlt : M - (m + 1) < M := by omega
    obtain ⟨k, hk⟩ : ∃ k, k = M - (m + 1) := ⟨_, rfl⟩
    rw [← hk] at hlt e5 ⊢
    have hy := nx_lt x
    obtain ⟨y, hyy⟩ : ∃ y, y = nx x := ⟨_, rfl⟩
    have nx' := l_nx hx
    rw [← hyy] at hy nx'
    obtain ⟨g1, g2, g3, g4⟩ := d_b y
    have hwy := m_why hM hW (w := dW y) (by omega) g2 g3 g4
    have hle := pWhy_le D (dW y) (dC y) (dP y) (dQ y)
    have e0 : f_X7_book_53 (f + 1) I (nI M) x3 (nI x) (nI k) = if nI (pWhy D (dW y) (dC y) (dP y) (dQ y)) = 0 then (F_X7_happen I (nI (dW y)) (nI (dC y)) (nI (dP y)) (nI (dQ y))).bind (fun q181 => f_X7_book_53 f q181 (nI M) x3 (nI y) (nI (M - m))) else f_X7_book_53 f I (nI M) x3 (nI y) (nI (M - m)) := by
      rw [f_X7_book_53, if_neg (nI_ge (a := k) (b := M) hlt (by omega)), nx', f_X7_book_77, i_t hy, m_kd (fun s => f_X7_book_129 (f_X7_book_53 f) I (nI M) x3 (nI y) (nI k) s) (Nat.mod_lt _ (by decide))]
      show f_X7_book_129 (f_X7_book_53 f) I (nI M) x3 (nI y) (nI k) (nI (dW y)) = _
      rw [f_X7_book_129, i_c hy, i_p hy, i_q hy, hwy, p_some]
      simp only [f_X7_book_184, nI_1, e5]
    by_cases h0 : pWhy D (dW y) (dC y) (dP y) (dQ y) = 0
    · obtain ⟨I2, l1, l2, l3⟩ := m_do hM hW (w := dW y) (by omega) (by omega) g2 g3 g4 h0
      have ed : dr D (nx x) = pDo D (dW y) (dC y) (dP y) (dQ y) := by rw [← hyy]; unfold dr; rw [if_pos h0]
      rw [h0, if_pos (by decide), l1, p_some] at e0
      obtain ⟨I', i1, i2, i3⟩ := m_book_l hM' x3 f m y (pDo D (dW y) (dC y) (dP y) (dQ y)) I2 (by omega) (by omega) hy (WF_do hW (by omega) g2 g3 h0) l2
      refine ⟨I', e0.trans i1, ?_, FM_tr l3 i3⟩
      rw [bk, ed, ← hyy]; exact i2
    · have ed : dr D (nx x) = D := by rw [← hyy]; unfold dr; rw [if_neg h0]
      rw [if_neg (nI_ne0 (by omega) (by omega))] at e0
      obtain ⟨I', i1, i2, i3⟩ := m_book_l hM' x3 f m y D I (by omega) (by omega) hy hW hM
      refine ⟨I', e0.trans i1, ?_, i3⟩
      rw [bk, ed, ← hyy]; exact i2
/-! what the book tells -/
def bs6 (b0 b1 b2 b3 b4 b5 : Bool) : Nat :=
  let a := if b0 then 0 ||| 1 else 0
  let a := if b1 then a ||| 2 else a
  let a := if b2 then a ||| 4 else a
  let a := if b3 then a ||| 8 else a
  let a := if b4 then a ||| 16 else a
  if b5 then a ||| 32 else a
theorem bs6_lt : ∀ b0 b1 b2 b3 b4 b5 : Bool, bs6 b0 b1 b2 b3 b4 b5 < 64 := by decide
theorem sB_bs (D : pD) : sB D = bs6 (sS D 0) (sS D 1) (sS D 2) (sS D 3) (sS D 4) (sS D 5) := rfl
theorem sB_lt (D : pD) : sB D < 64 := by rw [sB_bs]; exact bs6_lt _ _ _ _ _ _
def sPu (D : pD) : Nat := 0 + D 9 0 + D 9 1 + D 9 2 + D 9 3
def sHe (D : pD) : Nat := 0 + hP D 0 + hP D 1 + hP D 2 + hP D 3 + hP D 4 + hP D 5
def bkA (D : pD) (x3 : Int32) : Int32 := if x3 = 0 then nI (pcn (sB D)) else if x3 = 1 then nI (sPu D) else nI (sHe D)
theorem x_pt {I : ax_I} {b : Nat} {D : pD} (hC : CR I b D) : F_X2_pursesTogether I b = some (nI (sPu D)) := by
  have s : ∀ (n a k : Nat), k < 4 → f_X2_pursesTogether_4 b (n + 1) I (nI a) (nI k) = f_X2_pursesTogether_4 b n I (nI (a + D 9 k)) (nI (k + 1)) := by
    intro n a k hk
    rw [f_X2_pursesTogether_4, if_neg (show ¬ (4 : Int32) ≤ nI k from nI_ge (a := k) (b := 4) hk (by decide)), if_pos (p_in hk (by decide)), p_cl (by omega), CR_purse hC hk, nI_add, nI_1]
  have h0 := s 299 0 0 (by decide)
  have h1 := s 298 (0 + D 9 0) 1 (by decide)
  have h2 := s 297 (0 + D 9 0 + D 9 1) 2 (by decide)
  have h3 := s 296 (0 + D 9 0 + D 9 1 + D 9 2) 3 (by decide)
  have h4 : f_X2_pursesTogether_4 b 296 I (nI (0 + D 9 0 + D 9 1 + D 9 2 + D 9 3)) (nI (3 + 1)) = some (nI (sPu D)) := by
    rw [show (296 : Nat) = 295 + 1 from rfl, f_X2_pursesTogether_4, if_pos (by decide)]; rfl
  exact h0.trans (h1.trans (h2.trans (h3.trans h4)))
theorem x_ah {I : ax_I} {b : Nat} {D : pD} (hC : CR I b D) (hW : WF D) : F_X2_allHeldParts I b = some (nI (sHe D)) := by
  have s : ∀ (n a k : Nat), k < 6 → f_X2_allHeldParts_4 b (n + 1) I (nI a) (nI k) = f_X2_allHeldParts_4 b n I (nI (a + hP D k)) (nI (k + 1)) := by
    intro n a k hk
    rw [f_X2_allHeldParts_4, if_neg (show ¬ (6 : Int32) ≤ nI k from nI_ge (a := k) (b := 6) hk (by decide)), x_held hC hW (by omega), p_some, nI_add, nI_1]
  have h0 := s 299 0 0 (by decide)
  have h1 := s 298 (0 + hP D 0) 1 (by decide)
  have h2 := s 297 (0 + hP D 0 + hP D 1) 2 (by decide)
  have h3 := s 296 (0 + hP D 0 + hP D 1 + hP D 2) 3 (by decide)
  have h4 := s 295 (0 + hP D 0 + hP D 1 + hP D 2 + hP D 3) 4 (by decide)
  have h5 := s 294 (0 + hP D 0 + hP D 1 + hP D 2 + hP D 3 + hP D 4) 5 (by decide)
  have h6 : f_X2_allHeldParts_4 b 294 I (nI (0 + hP D 0 + hP D 1 + hP D 2 + hP D 3 + hP D 4 + hP D 5)) (nI (5 + 1)) = some (nI (sHe D)) := by
    rw [show (294 : Nat) = 293 + 1 from rfl, f_X2_allHeldParts_4, if_pos (by decide)]; rfl
  exact h0.trans (h1.trans (h2.trans (h3.trans (h4.trans (h5.trans h6)))))
theorem x_fX {I : ax_I} {D : pD} (hC : CR I 13 D) (hW : WF D) (x3 : Int32) : fX I x3 = some (bkA D x3, I) := by
  unfold fX bkA
  rw [x_sB hC hW, p_some, bc_ok I (by have := sB_lt D; omega), p_some, x_pt hC, p_some, x_ah hC hW, p_some]
  split
  · rfl
  · split <;> rfl
def sCo (D : pD) (p : Nat) : Nat := cB D 0 (nI p) + cB D 1 (nI p) + cB D 2 (nI p) + cB D 3 (nI p) + cB D 4 (nI p) + cB D 5 (nI p)
theorem m_220 {I : ax_I} {D : pD} (hM : MR I D) (r : ax_I → Int32 → Int32 → Int32 → Int32 → Option (Int32 × ax_I)) (x3 x5 : Int32) (h p : Nat) : f_X7_book_220 r ax_N I x3 x5 (nI h) (nI p) 0 = r I x3 x5 (nI (h + sCo D p)) (nI (p + 1)) := by
  have s : ∀ (n a k : Nat), k < 6 → f_X7_book_220 r (n + 1) I x3 x5 (nI a) (nI p) (nI k) = f_X7_book_220 r n I x3 x5 (nI (a + cB D k (nI p))) (nI p) (nI (k + 1)) := by
    intro n a k hk
    rw [f_X7_book_220, if_neg (show ¬ (6 : Int32) ≤ nI k from nI_ge (a := k) (b := 6) hk (by decide)), m_pB hM (by omega), p_some, m_cB, p_some, nI_add, nI_1]
  have h0 := s 299 h 0 (by decide)
  have h1 := s 298 (h + cB D 0 (nI p)) 1 (by decide)
  have h2 := s 297 (h + cB D 0 (nI p) + cB D 1 (nI p)) 2 (by decide)
  have h3 := s 296 (h + cB D 0 (nI p) + cB D 1 (nI p) + cB D 2 (nI p)) 3 (by decide)
  have h4 := s 295 (h + cB D 0 (nI p) + cB D 1 (nI p) + cB D 2 (nI p) + cB D 3 (nI p)) 4 (by decide)
  have h5 := s 294 (h + cB D 0 (nI p) + cB D 1 (nI p) + cB D 2 (nI p) + cB D 3 (nI p) + cB D 4 (nI p)) 5 (by decide)
  have h6 : f_X7_book_220 r 294 I x3 x5 (nI (h + cB D 0 (nI p) + cB D 1 (nI p) + cB D 2 (nI p) + cB D 3 (nI p) + cB D 4 (nI p) + cB D 5 (nI p))) (nI p) (nI (5 + 1)) = r I x3 x5 (nI (h + sCo D p)) (nI (p + 1)) := by
    rw [show (294 : Nat) = 293 + 1 from rfl, f_X7_book_220, if_pos (by decide), nI_1]
    congr 2
    unfold sCo; omega
  exact h0.trans (h1.trans (h2.trans (h3.trans (h4.trans (h5.trans h6)))))
theorem m_fX {I : ax_I} {D : pD} (hM : MR I D) (hW : WF D) (x3 : Int32) : f_X7_book_199 ax_N I x3 0 0 0 = (F_X7_lay I 55 77).bind (fun q269 => some (bkA D x3, q269)) := by
  have s : ∀ (n a h p : Nat), p < 4 → f_X7_book_199 (n + 1) I x3 (nI a) (nI h) (nI p) = f_X7_book_199 n I x3 (nI (a + D 9 p)) (nI (h + sCo D p)) (nI (p + 1)) := by
    intro n a h p hp
    rw [f_X7_book_199, if_neg (show ¬ (4 : Int32) ≤ nI p from nI_ge (a := p) (b := 4) hp (by decide)), if_pos (p_in hp (by decide)), p_cl (by omega), MR_purse hM hp, nI_add, m_220 hM]
  have h0 := s 299 0 0 0 (by decide)
  have h1 := s 298 (0 + D 9 0) (0 + sCo D 0) 1 (by decide)
  have h2 := s 297 (0 + D 9 0 + D 9 1) (0 + sCo D 0 + sCo D 1) 2 (by decide)
  have h3 := s 296 (0 + D 9 0 + D 9 1 + D 9 2) (0 + sCo D 0 + sCo D 1 + sCo D 2) 3 (by decide)
  have eh : 0 + sCo D 0 + sCo D 1 + sCo D 2 + sCo D 3 = sHe D := by
    unfold sCo sHe hP
    omega
  have h4 : f_X7_book_199 296 I x3 (nI (0 + D 9 0 + D 9 1 + D 9 2 + D 9 3)) (nI (0 + sCo D 0 + sCo D 1 + sCo D 2 + sCo D 3)) (nI (3 + 1)) = (F_X7_lay I 55 77).bind (fun q269 => some (bkA D x3, q269)) := by
    rw [show (296 : Nat) = 295 + 1 from rfl, f_X7_book_199, if_pos (by decide), m_sB hM hW, p_some, on_ok I (by have := sB_lt D; omega), p_some, eh]
    congr 1
    funext q
    unfold bkA
    split
    · rfl
    · split <;> rfl
  exact h0.trans (h1.trans (h2.trans (h3.trans h4)))
theorem op26 : lw_op26 Inv := by
  intro a1 a2 a3 l E B lay I J hI
  have hLL := (inv_sz hI).2.2
  have hI0 := hI
  obtain ⟨g, ext, D, n, S, hlay, hext, hez, hC, hM, hW, hP, hIm⟩ := hI
  have n1 : ¬ (1 : Int32) = 0 := by decide
  rcases p_rng a1 9999 (by decide) with ⟨x, hx, rfl⟩ | h1
  · have hA : (0 : Int32) ≤ nI x ∧ nI x ≤ 9999 := p_rngT hx (by decide)
    have mA : ∀ I, F_X7_in I (nI x).toInt64 0 9999 = some 1 := fun I => p_mT 0 9999 hA rfl rfl
    by_cases h2 : (1 : Int32) ≤ a2 ∧ a2 ≤ 99
    · have mB : ∀ I, F_X7_in I a2.toInt64 1 99 = some 1 := fun I => p_mT 1 99 h2 rfl rfl
      obtain ⟨M, hM9, rfl⟩ : ∃ M, M ≤ 99 ∧ a2 = nI M := by
        rcases p_rng a2 99 (by decide) with q | q
        · exact q
        · exfalso
          apply q
          refine ⟨?_, h2.2⟩
          have q1 := h2.1
          rw [p_le] at q1 ⊢
          have : (1 : Int32).toInt = 1 := by decide
          have : (0 : Int32).toInt = 0 := by decide
          omega
      by_cases h3 : (0 : Int32) ≤ a3 ∧ a3 ≤ 2
      · have mC : ∀ I, F_X7_in I a3.toInt64 0 2 = some 1 := fun I => p_mT 0 2 h3 rfl rfl
        obtain ⟨I1, c1, c2, c3⟩ := copy_ok (b := 13) (b2 := 1) (I := I) (D := D) (by omega) hW hC
        obtain ⟨I2, b1, b2, b3⟩ := x_book_l (M := M) (by omega) a3 ax_N M x D I1 (Nat.le_refl _) (by unfold ax_N; omega) (by omega) hW c2
        have f2 : ∀ r j, (r < 13 ∨ (24 < r ∧ r ≠ 30)) → I2 r j = I r j := fun r j hr => (b3 r j hr).trans (c3 r j (by omega))
        have hM2 : MR I2 D := MR_eq hM (fun r j q1 q2 => f2 r j (by omega)) (f2 35 0 (by omega)) (f2 35 1 (by omega)) (f2 35 16 (by omega))
        rw [Nat.sub_self, nI_0] at b1
        have hWb := WF_bk M D x hW
        have e1 : F_X6_book I (nI x) (nI M) a3 = some (bkA (bk M D x) a3, I2) := by
          rw [F_X6_book, p_wT hA, p_some, if_neg n1, p_wT h2, p_some, if_neg n1, p_wT h3, p_some, if_neg n1, c1, p_some, b1, x_fX b2 hWb]
        obtain ⟨I3, s1, s2, s3⟩ := m_store (I := I2) (k1 := 55) (n1 := 77) (by decide) (by decide) (by decide)
        have hM3 : MR I3 D := MR_eq hM2 (fun r j q1 q2 => s2 r j (by omega)) (s2 35 0 (by decide)) (s2 35 1 (by decide)) (s2 35 16 (by decide))
        obtain ⟨I4, t1, t2, t3⟩ := m_book_l (M := M) (by omega) a3 ax_N M x D I3 (Nat.le_refl _) (by unfold ax_N; omega) (by omega) hW hM3
        rw [Nat.sub_self, nI_0] at t1
        obtain ⟨I5, l1, l2, l3⟩ := m_lay I4
        have e2 : F_X7_book I2 (nI x) (nI M) a3 = some (bkA (bk M D x) a3, I5) := by
          rw [F_X7_book, mA, p_some, if_neg n1, mB, p_some, if_neg n1, mC, p_some, if_neg n1, s1, p_some, t1, m_fX t2 hWb, l1, p_some]
        have g4 : ∀ r j, r ≠ 35 → r ≠ 36 → r ≠ 37 → r ≠ 38 → r ≠ 39 → r ≠ 40 → r ≠ 44 → r ≠ 55 → I4 r j = I2 r j := fun r j q1 q2 q3 q4 q5 q6 q7 q8 => (t3.1 r j q1 q2 q3 q4 q5 q6 q7).trans (s2 r j q8)
        have hM5 : MR I5 D := MR_lay hM2 (fun j hj => (t3.1 55 j (by decide) (by decide) (by decide) (by decide) (by decide) (by decide) (by decide)).trans (s3 j hj)) l2 l3 (fun r j hr => g4 r j (by omega) (by omega) (by omega) (by omega) (by omega) (by omega) (by omega) (by omega)) ((t3.2 0 (by decide)).trans (s2 35 0 (by decide))) ((t3.2 16 (by decide)).trans (s2 35 16 (by decide)))
        have f5 : ∀ r j, (r < 13 ∨ r = 26 ∨ r = 27 ∨ r = 50 ∨ 59 ≤ r) → I5 r j = I r j := fun r j hr => ((l2.1 r j (by omega) (by omega) (by omega) (by omega) (by omega) (by omega) (by omega)).trans (g4 r j (by omega) (by omega) (by omega) (by omega) (by omega) (by omega) (by omega) (by omega))).trans (f2 r j (by omega))
        have e18 : I5 35 18 = I 35 18 := ((l2.1 35 18 (by decide) (by decide) (by decide) (by decide) (by decide) (by decide) (by decide)).trans ((t3.2 18 (by decide)).trans (s2 35 18 (by decide)))).trans (f2 35 18 (by omega))
        exact op_i (M_X6_book hLL e1) (M_X7_book (J := J) hLL e2) (by decide) (by decide) (Inv_z hlay hext hez hC hW hP hIm hM5 f5 e18)
      · have mC : ∀ I, F_X7_in I a3.toInt64 0 2 = some 0 := fun I => p_mF 0 2 h3 rfl rfl
        have e1 : F_X6_book I (nI x) (nI M) a3 = some (-2, I) := by rw [F_X6_book, p_wT hA, p_some, if_neg n1, p_wT h2, p_some, if_neg n1, p_wF h3, p_some, if_pos rfl]
        have e2 : F_X7_book I (nI x) (nI M) a3 = some (-2, I) := by rw [F_X7_book, mA, p_some, if_neg n1, mB, p_some, if_neg n1, mC, p_some, if_pos rfl]
        exact op_i (M_X6_book hLL e1) (M_X7_book (J := J) hLL e2) (by decide) (by decide) hI0
    · have mB : ∀ I, F_X7_in I a2.toInt64 1 99 = some 0 := fun I => p_mF 1 99 h2 rfl rfl
      have e1 : F_X6_book I (nI x) a2 a3 = some (-2, I) := by rw [F_X6_book, p_wT hA, p_some, if_neg n1, p_wF h2, p_some, if_pos rfl]
      have e2 : F_X7_book I (nI x) a2 a3 = some (-2, I) := by rw [F_X7_book, mA, p_some, if_neg n1, mB, p_some, if_pos rfl]
      exact op_i (M_X6_book hLL e1) (M_X7_book (J := J) hLL e2) (by decide) (by decide) hI0
  · have h1 : ¬ ((0 : Int32) ≤ a1 ∧ a1 ≤ 9999) := h1
    have mA : ∀ I, F_X7_in I a1.toInt64 0 9999 = some 0 := fun I => p_mF 0 9999 h1 rfl rfl
    have e1 : F_X6_book I a1 a2 a3 = some (-2, I) := by rw [F_X6_book, p_wF h1, p_some, if_pos rfl]
    have e2 : F_X7_book I a1 a2 a3 = some (-2, I) := by rw [F_X7_book, mA, p_some, if_pos rfl]
    exact op_i (M_X6_book hLL e1) (M_X7_book (J := J) hLL e2) (by decide) (by decide) hI0
