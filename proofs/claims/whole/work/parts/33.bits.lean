/-! ===== bits and counts ===== -/
theorem p_sh : ∀ k, k < 32 → ((nI k &&& 31).toBitVec.smod 32).toNat = k := by decide +kernel
theorem p_shr {t k : Nat} (ht : t < 2 ^ 31) (hk : k < 32) : nI t >>> (nI k &&& 31) = nI (t / 2 ^ k) := pk_shrN ht _ k (p_sh k hk)
theorem p_bit {t k : Nat} (ht : t < 2 ^ 31) (hk : k < 32) : (nI t >>> (nI k &&& 31)) &&& 1 = nI (t / 2 ^ k % 2) := by
  rw [p_shr ht hk]
  have h : t / 2 ^ k < 2 ^ 32 := Nat.lt_of_le_of_lt (Nat.div_le_self _ _) (by omega)
  exact pk_andN h 1 (by decide)
theorem p_shl {k : Nat} (hk : k < 31) : (1 : Int32) <<< (nI k &&& 31) = nI (2 ^ k) := by
  have h1 : 2 ^ k < 2 ^ 31 := Nat.pow_lt_pow_right (by decide) hk
  have h := pk_shlN (n := 1) (nI k &&& 31) k (p_sh k (by omega)) (by omega)
  rw [Nat.one_mul] at h
  exact h
theorem p_and (a b : Nat) : nI a &&& nI b = nI (a &&& b) := by
  apply Int32.toBitVec_inj.mp
  show BitVec.ofNat 32 a &&& BitVec.ofNat 32 b = BitVec.ofNat 32 (a &&& b)
  apply BitVec.eq_of_toNat_eq
  simp [Nat.and_mod_two_pow]
theorem p_or (a b : Nat) : nI a ||| nI b = nI (a ||| b) := by
  apply Int32.toBitVec_inj.mp
  show BitVec.ofNat 32 a ||| BitVec.ofNat 32 b = BitVec.ofNat 32 (a ||| b)
  apply BitVec.eq_of_toNat_eq
  simp [Nat.or_mod_two_pow]
/-- clear bit c -/
def clb (t c : Nat) : Nat := t - t / 2 ^ c % 2 * 2 ^ c
theorem clb_ok : ∀ t, t < 64 → ∀ c, c < 6 → nI t &&& (((1 : Int32) <<< (nI c &&& 31)) ^^^ (-1)) = nI (clb t c) := by decide +kernel
theorem clb_lt : ∀ t, t < 64 → ∀ c, c < 6 → clb t c < 64 := by decide +kernel
theorem clb_bit : ∀ t, t < 64 → ∀ c, c < 6 → ∀ j, j < 6 → clb t c / 2 ^ j % 2 = if j = c then 0 else t / 2 ^ j % 2 := by decide +kernel
theorem stb_lt : ∀ t, t < 64 → ∀ c, c < 6 → t ||| 2 ^ c < 64 := by decide +kernel
theorem stb_bit : ∀ t, t < 64 → ∀ c, c < 6 → ∀ j, j < 6 → (t ||| 2 ^ c) / 2 ^ j % 2 = if j = c then 1 else t / 2 ^ j % 2 := by decide +kernel
/-- how many ones, of twelve bits -/
def pcn (t : Nat) : Nat := t % 2 + t / 2 % 2 + t / 4 % 2 + t / 8 % 2 + t / 16 % 2 + t / 32 % 2 + t / 64 % 2 + t / 128 % 2 + t / 256 % 2 + t / 512 % 2 + t / 1024 % 2 + t / 2048 % 2
def bcJ (x : Int32) : Option Int32 := F_J6_bitCount_0f7a4 (fun _ _ => 0) x
theorem bcJ_eq (I : ax_I) (x : Int32) : F_J6_bitCount_0f7a4 I x = bcJ x := rfl
def onM : Nat → Int32 → Int32 → Option Int32
  | 0, _, _ => none
  | n + 1, a, x => if x = 0 then some a else onM n (a + 1) (x &&& (x - 1))
theorem onM_eq (I : ax_I) : ∀ (n : Nat) (a x : Int32), f_X7_ones_4 n I a x = onM n a x
  | 0, _, _ => rfl
  | n + 1, a, x => by
    rw [f_X7_ones_4, onM, onM_eq I n]
def chk (n : Nat) (p : Nat → Bool) : Bool := (List.range n).all p
theorem chk_at {n : Nat} {p : Nat → Bool} (h : chk n p = true) {t : Nat} (ht : t < n) : p t = true := List.all_eq_true.mp h t (List.mem_range.mpr ht)
theorem bc_all : chk 4096 (fun t => decide (bcJ (nI t) = some (nI (pcn t)))) = true := by decide +kernel
theorem on_all : chk 4096 (fun t => decide (onM 14 0 (nI t) = some (nI (pcn t)))) = true := by decide +kernel
theorem onM_more : ∀ (n m : Nat) (a x r : Int32), onM n a x = some r → n ≤ m → onM m a x = some r
  | 0, m, a, x, r, h, _ => by cases h
  | n + 1, 0, a, x, r, h, hm => by omega
  | n + 1, m + 1, a, x, r, h, hm => by
    rw [onM] at h ⊢
    by_cases hx : x = 0
    · rw [if_pos hx] at h ⊢; exact h
    · rw [if_neg hx] at h ⊢; exact onM_more n m _ _ _ h (by omega)
theorem bc_ok (I : ax_I) {t : Nat} (ht : t < 4096) : F_J6_bitCount_0f7a4 I (nI t) = some (nI (pcn t)) := by
  have h := chk_at bc_all ht
  rw [bcJ_eq]
  exact of_decide_eq_true h
theorem on_ok (I : ax_I) {t : Nat} (ht : t < 4096) : F_X7_ones I (nI t) = some (nI (pcn t)) := by
  have h := of_decide_eq_true (chk_at on_all ht)
  show f_X7_ones_4 ax_N I 0 (nI t) = _
  rw [onM_eq]
  exact onM_more 14 ax_N _ _ _ h (by decide)
theorem p_eq0 {t : Nat} (h : t < 2) : (nI t = 0) ↔ t = 0 := by
  rcases (show t = 0 ∨ t = 1 by omega) with rfl | rfl <;> decide
theorem p_eq1 {t : Nat} (h : t < 2) : (nI t = 1) ↔ t = 1 := by
  rcases (show t = 0 ∨ t = 1 by omega) with rfl | rfl <;> decide
/-- bit c -/
def bb (t c : Nat) : Nat := t / 2 ^ c % 2
theorem bb_lt (t c : Nat) : bb t c < 2 := Nat.mod_lt _ (by decide)
/-! ===== who is there, who has fallen ===== -/
theorem x_there {I : ax_I} {b : Nat} {D : pD} (hC : CR I b D) (hW : WF D) {c : Nat} (hc : c ≤ 5) : F_X2_isThere I b (nI c) = some (nI (bb (D 0 0) c)) := by
  have hA : (0 : Int32) ≤ nI c ∧ nI c ≤ 5 := p_rngT hc (by decide)
  have h0 : I b 0 = nI (D 0 0) := hC.1
  have hb := p_bit (t := D 0 0) (k := c) (by have := hW.1; omega) (by omega)
  simp only [F_X2_isThere, p_wT hA, p_some, p10, if_false, h0, hb]
  have h2 := bb_lt (D 0 0) c
  unfold bb at h2 ⊢
  rcases (show D 0 0 / 2 ^ c % 2 = 0 ∨ D 0 0 / 2 ^ c % 2 = 1 by omega) with h | h <;> rw [h] <;> rfl
theorem x_thereF {I : ax_I} {b : Nat} {x : Int32} (h : ¬ ((0 : Int32) ≤ x ∧ x ≤ 5)) : F_X2_isThere I b x = some 0 := by
  simp only [F_X2_isThere, p_wF h, p_some, if_true]
theorem m_there {I : ax_I} {D : pD} (hM : MR I D) (hW : WF D) {c : Nat} (hc : c ≤ 5) : F_X7_isChild I (nI c) = some (nI (bb (D 0 0) c)) := by
  have h0 : I 35 0 = nI (D 0 0) := hM.1
  have hb := p_bit (t := D 0 0) (k := c) (by have := hW.1; omega) (by omega)
  simp only [F_X7_isChild, p_num1 hc, p_some, p10, if_false, h0, hb]
  unfold bb
  rcases (show D 0 0 / 2 ^ c % 2 = 0 ∨ D 0 0 / 2 ^ c % 2 = 1 by omega) with h | h <;> rw [h] <;> rfl
theorem m_thereF {I : ax_I} {x : Int32} (h : ¬ ((0 : Int32) ≤ x ∧ x ≤ 5)) : F_X7_isChild I x = some 0 := by
  simp only [F_X7_isChild, p_num0 h, p_some, if_true]
theorem x_fallen {I : ax_I} {b : Nat} {D : pD} (hC : CR I b D) (hW : WF D) {c : Nat} (hc : c ≤ 5) : F_X2_isFallen I b (nI c) = some (nI (bb (D 0 0) c * bb (D 0 3) c)) := by
  have h1 : I b 1 = nI (D 0 3) := hC.2.1
  have hb := p_bit (t := D 0 3) (k := c) (by have := hW.2.2.2.1; omega) (by omega)
  simp only [F_X2_isFallen, x_there hC hW hc, p_some, h1, hb]
  unfold bb
  rcases (show D 0 0 / 2 ^ c % 2 = 0 ∨ D 0 0 / 2 ^ c % 2 = 1 by omega) with h | h <;> rcases (show D 0 3 / 2 ^ c % 2 = 0 ∨ D 0 3 / 2 ^ c % 2 = 1 by omega) with h' | h' <;> rw [h, h'] <;> rfl
/-- is a SAINT: there, not fallen, seen, wonders w, sins s -/
def wS (D : pD) (c w s : Nat) : Bool := decide (bb (D 0 0) c = 1) && decide (bb (D 0 3) c = 0) && decide (D 10 2 ≤ D 3 c) && decide (D 10 0 ≤ w) && decide (s ≤ D 10 1)
def sS (D : pD) (c : Nat) : Bool := wS D c (D 1 c) (D 2 c)
theorem x_would {I : ax_I} {b : Nat} {D : pD} (hC : CR I b D) (hW : WF D) {c : Nat} (hc : c ≤ 5) {w s : Nat} (hw : w < 2 ^ 31) (hs : s < 2 ^ 31) : F_X2_wouldBeSaint I b (nI c) (nI w) (nI s) = some (if wS D c w s then 1 else 0) := by
  have hi : ax_in (nI c) 6 = true := p_in (by omega) (by decide)
  have hcl : (nI c).toNatClampNeg = c := p_cl (by omega)
  have z0 : (0 : Int32).toNatClampNeg = 0 := by decide
  have z1 : (1 : Int32).toNatClampNeg = 1 := by decide
  have z2 : (2 : Int32).toNatClampNeg = 2 := by decide
  have e3 := CR_eye hC (j := c) (by omega)
  have r0 := CR_rule hC (j := 0) (by decide)
  have r1 := CR_rule hC (j := 1) (by decide)
  have r2 := CR_rule hC (j := 2) (by decide)
  have b0 := WF_rule hW (j := 0) (by decide)
  have b1 := WF_rule hW (j := 1) (by decide)
  have b2 := WF_rule hW (j := 2) (by decide)
  have b3 := WF_eye hW (j := c) (by omega)
  simp only [F_X2_wouldBeSaint, x_there hC hW hc, x_fallen hC hW hc, p_some, hi, if_true, hcl, z0, z1, z2, e3, r0, r1, r2]
  simp only [nI_ltI (a := D 3 c) (b := D 10 2) (by omega) (by omega), nI_ltI (a := w) (b := D 10 0) hw (by omega), nI_ltI (a := D 10 1) (b := s) (by omega) hs]
  unfold wS
  have h1 := bb_lt (D 0 0) c
  have h2 := bb_lt (D 0 3) c
  rcases (show bb (D 0 0) c = 0 ∨ bb (D 0 0) c = 1 by omega) with h | h
  · rw [h]; simp [nI_0]
  · rw [h, Nat.one_mul]
    rcases (show bb (D 0 3) c = 0 ∨ bb (D 0 3) c = 1 by omega) with h' | h'
    · rw [h']
      have q1 : (nI 1 = 0) = False := eq_false (by decide)
      simp only [q1, nI_0, if_false, if_true]
      by_cases a : D 3 c < D 10 2
      · simp [a, Nat.not_le.mpr a]
      · by_cases a2 : w < D 10 0
        · simp [a, a2, Nat.not_le.mpr a2]
        · by_cases a3 : D 10 1 < s
          · simp [a, a2, a3, Nat.not_le.mpr a3]
          · simp [a, a2, a3, Nat.not_lt.mp a, Nat.not_lt.mp a2, Nat.not_lt.mp a3]
    · rw [h']
      have q1 : (nI 1 = 0) = False := eq_false (by decide)
      simp [q1]
theorem x_saint {I : ax_I} {b : Nat} {D : pD} (hC : CR I b D) (hW : WF D) {c : Nat} (hc : c ≤ 5) : F_X2_isSaint I b (nI c) = some (if sS D c then 1 else 0) := by
  have hi : ax_in (nI c) 6 = true := p_in (by omega) (by decide)
  have hcl : (nI c).toNatClampNeg = c := p_cl (by omega)
  have b1 := WF_won hW (j := c) (by omega)
  have b2 := WF_sin hW (j := c) (by omega)
  simp only [F_X2_isSaint, x_there hC hW hc, p_some, hi, if_true, hcl, CR_won hC (j := c) (by omega), CR_sin hC (j := c) (by omega), x_would hC hW hc (w := D 1 c) (s := D 2 c) (by omega) (by omega)]
  have h1 := bb_lt (D 0 0) c
  rcases (show bb (D 0 0) c = 0 ∨ bb (D 0 0) c = 1 by omega) with h | h
  · have hs : sS D c = false := by unfold sS wS; rw [h]; simp
    rw [h, hs]; simp [nI_0]
  · have q1 : (nI 1 = 0) = False := eq_false (by decide)
    rw [h]
    simp only [q1, if_false]
    show (if (if sS D c = true then (1 : Int32) else 0) = 0 then some 0 else some 1) = _
    cases sS D c <;> simp
theorem x_saintF {I : ax_I} {b : Nat} {x : Int32} (h : ¬ ((0 : Int32) ≤ x ∧ x ≤ 5)) : F_X2_isSaint I b x = some 0 := by
  simp only [F_X2_isSaint, x_thereF h, p_some, if_true]
theorem m_saint {I : ax_I} {D : pD} (hM : MR I D) (hW : WF D) {c : Nat} (hc : c ≤ 5) : F_X7_isSaint I (nI c) = some (if sS D c then 1 else 0) := by
  have hi : ax_in (nI c) 6 = true := p_in (by omega) (by decide)
  have hcl : (nI c).toNatClampNeg = c := p_cl (by omega)
  have z0 : (0 : Int32).toNatClampNeg = 0 := by decide
  have z1 : (1 : Int32).toNatClampNeg = 1 := by decide
  have z2 : (2 : Int32).toNatClampNeg = 2 := by decide
  have b0 := WF_rule hW (j := 0) (by decide)
  have b1 := WF_rule hW (j := 1) (by decide)
  have b2 := WF_rule hW (j := 2) (by decide)
  have c1 := WF_won hW (j := c) (by omega)
  have c2 := WF_sin hW (j := c) (by omega)
  have c3 := WF_eye hW (j := c) (by omega)
  simp only [F_X7_isSaint, f_X7_isSaint_49, f_X7_isSaint_50, m_there hM hW hc, p_some, hi, if_true, hcl, z0, z1, z2, MR_won hM (j := c) (by omega), MR_sin hM (j := c) (by omega), MR_eye hM (j := c) (by omega), MR_fal hM (j := c) (by omega), MR_rule hM (j := 0) (by decide), MR_rule hM (j := 1) (by decide), MR_rule hM (j := 2) (by decide)]
  simp only [nI_ltI (a := D 1 c) (b := D 10 0) (by omega) (by omega), nI_ltI (a := D 10 1) (b := D 2 c) (by omega) (by omega), nI_ltI (a := D 3 c) (b := D 10 2) (by omega) (by omega)]
  unfold sS wS
  have h1 := bb_lt (D 0 0) c
  have h2 := bb_lt (D 0 3) c
  have q1 : (nI 1 = 0) = False := eq_false (by decide)
  show (if D 1 c < D 10 0 then _ else _) = _
  rw [show D 0 3 / 2 ^ c % 2 = bb (D 0 3) c from rfl]
  rcases (show bb (D 0 0) c = 0 ∨ bb (D 0 0) c = 1 by omega) with h | h <;> rcases (show bb (D 0 3) c = 0 ∨ bb (D 0 3) c = 1 by omega) with h' | h' <;> rw [h, h'] <;> simp only [q1, nI_0, if_false, if_true, p10]
  · simp
  · simp
  · by_cases a : D 1 c < D 10 0
    · simp [a, Nat.not_le.mpr a]
    · by_cases a2 : D 10 1 < D 2 c
      · simp [a, a2, Nat.not_le.mpr a2]
      · by_cases a3 : D 3 c < D 10 2
        · simp [a, a2, a3, Nat.not_le.mpr a3]
        · simp [a, a2, a3, Nat.not_lt.mp a, Nat.not_lt.mp a2, Nat.not_lt.mp a3]
  · simp
