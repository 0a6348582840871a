/-! ===== how many can have a day ===== -/
theorem and_not {x : Nat} (hx : x < 4096) (u : Nat) : nI x &&& (nI u ^^^ (-1)) = nI (x &&& (4095 ^^^ u)) := by
  apply Int32.toBitVec_inj.mp
  show BitVec.ofNat 32 x &&& (BitVec.ofNat 32 u ^^^ BitVec.allOnes 32) = BitVec.ofNat 32 (x &&& (4095 ^^^ u))
  apply BitVec.eq_of_getLsbD_eq
  intro i hi
  rw [BitVec.getLsbD_and, BitVec.getLsbD_xor, BitVec.getLsbD_ofNat, BitVec.getLsbD_ofNat, BitVec.getLsbD_ofNat, BitVec.getLsbD_allOnes, decide_eq_true hi, Nat.testBit_and, Nat.testBit_xor, show (4095 : Nat) = 2 ^ 12 - 1 from rfl, Nat.testBit_two_pow_sub_one]
  by_cases h : i < 12
  · rw [decide_eq_true h]
    cases x.testBit i <;> cases u.testBit i <;> rfl
  · have : x.testBit i = false := Nat.testBit_lt_two_pow (Nat.lt_of_lt_of_le hx (Nat.pow_le_pow_right (by decide) (by omega) : 2 ^ 12 ≤ 2 ^ i))
    rw [this]; rfl
theorem sub_all : chk 64 (fun X => chk 64 (fun k => decide ((nI k &&& (nI X ^^^ (-1)) = 0) ↔ (k &&& X = k)))) = true := by decide +kernel
theorem sub_ok {X k : Nat} (hX : X < 64) (hk : k < 64) : (nI k &&& (nI X ^^^ (-1)) = 0) ↔ (k &&& X = k) := of_decide_eq_true (chk_at (chk_at sub_all hX) hk)
theorem dif_all : chk 64 (fun X => chk 64 (fun k => decide (k &&& X = k → pcn (X &&& (4095 ^^^ k)) = pcn X - pcn k))) = true := by decide +kernel
theorem dif_ok {X k : Nat} (hX : X < 64) (hk : k < 64) (h : k &&& X = k) : pcn (X &&& (4095 ^^^ k)) = pcn X - pcn k := of_decide_eq_true (chk_at (chk_at dif_all hX) hk) h
theorem uN_lt {f : Nat → Nat} (hf : ∀ j, j < 6 → f j < 4096) (S : Nat) : uN f S < 4096 := by
  rw [uN_eq]
  have s : ∀ j a, j < 6 → a < 4096 → stO f S j a < 4096 := by
    intro j a hj ha
    unfold stO
    split
    · exact ha
    · exact Nat.or_lt_two_pow (n := 12) ha (hf j hj)
  exact s 5 _ (by decide) (s 4 _ (by decide) (s 3 _ (by decide) (s 2 _ (by decide) (s 1 _ (by decide) (s 0 _ (by decide) (by decide))))))
theorem and_lt12 {x : Nat} (hx : x < 4096) (y : Nat) : x &&& y < 4096 := Nat.lt_of_le_of_lt Nat.and_le_left hx
def wk (f : Nat → Nat) (o X : Nat) : Nat → Nat
  | 0 => 0
  | k + 1 => if k &&& X = k then (if wk f o X k < pcn k - kN f o k then pcn k - kN f o k else wk f o X k) else wk f o X k
theorem hw_k (f : Nat → Nat) (o : Nat) {X : Nat} (hX : X < 64) : ∀ k, hk f o X (k + 1) + wk f o X (k + 1) = pcn X
  | 0 => by
    have h6 := pc_6 X hX
    rw [hk, wk, if_pos (Nat.zero_and _), if_pos (Nat.zero_and _), gN_0, if_neg (show ¬ hk f o X 0 ≤ pcn X by show ¬ 12 ≤ pcn X; omega), if_neg (show ¬ wk f o X 0 < pcn 0 - kN f o 0 by show ¬ 0 < 0 - kN f o 0; omega)]
    rfl
  | k + 1 => by
    have ih := hw_k f o hX k
    rw [hk, wk]
    by_cases hs : (k + 1) &&& X = k + 1
    · rw [if_pos hs, if_pos hs]
      have hp := sub_pc hs
      unfold gN
      split <;> split <;> omega
    · rw [if_neg hs, if_neg hs]; exact ih
theorem pc_12 (t : Nat) : pcn t ≤ 12 := by
  unfold pcn
  omega
theorem i_dif {a b w : Nat} (ha : a < 2 ^ 20) (hb : b < 2 ^ 20) (hw : w < 2 ^ 20) : (if nI w < nI a - nI b then nI a - nI b else nI w) = nI (if w < a - b then a - b else w) := by
  have e : (nI w < nI a - nI b) ↔ w < a - b := by
    rw [p_lt, pk_sub_toInt (by omega) (by omega), nI_toInt (by omega)]
    omega
  by_cases h : w < a - b
  · rw [if_pos h, if_pos (e.mpr h)]; exact pk_sub (by omega)
  · rw [if_neg h, if_neg (fun q => h (e.mp q))]
theorem x_mwd_l {I : ax_I} {D : pD} (hC : CR I 1 D) (hW : WF D) {X u o : Nat} (hX : X < 64) (ho : o = 4095 ^^^ u) : ∀ (n m : Nat), m ≤ 64 → m < n → f_X6_mostWithDays_5 n I (nI X) (nI u) (nI (wk (D 8) o X (64 - m))) (nI (64 - m)) = some (nI (hN (D 8) o X))
  | 0, m, _, h => by omega
  | n + 1, 0, _, h => by
    have hw : hk (D 8) o X 64 + wk (D 8) o X 64 = pcn X := hw_k (D 8) o hX 63
    have h6 := pc_6 X hX
    rw [f_X6_mostWithDays_5, if_pos (by decide), bc_ok I (by omega), p_some, Nat.sub_zero, pk_sub (by omega)]
    congr 2
    show pcn X - wk (D 8) o X 64 = hk (D 8) o X 64
    omega
  | n + 1, m + 1, hm, h => by
    have e5 : 64 - (m + 1) + 1 = 64 - m := by omega
    have hlt : 64 - (m + 1) < 64 := by omega
    obtain ⟨k, hk⟩ : ∃ k, k = 64 - (m + 1) := ⟨_, rfl⟩
    rw [← hk] at hlt e5 ⊢
    have hf : ∀ j, j < 6 → D 8 j < 4096 := fun j hj => by have := WF_days hW hj; omega
    have ih := x_mwd_l hC hW hX ho n m (by omega) (by omega)
    have hu : F_X6_unionOver I (nI k) 8 6 = some (nI (uN (D 8) k)) := x_uni (I := I) (f := D 8) (k1 := 8) (N := 6) (t := k) (by decide) (by omega) (fun j hj => CR_days hC hj)
    have hul := uN_lt hf k
    rw [← e5, wk] at ih
    rw [f_X6_mostWithDays_5, if_neg (show ¬ (64 : Int32) ≤ nI k from nI_ge (a := k) (b := 64) hlt (by decide)), f_X6_mostWithDays_55]
    by_cases hs : k &&& X = k
    · rw [if_pos hs] at ih
      rw [if_pos ((sub_ok hX hlt).mpr hs), hu, p_some, bc_ok I (by omega), p_some, and_not hul u, ← ho, bc_ok I (and_lt12 hul o), p_some, f_X6_mostWithDays_55, nI_1]
      have ew : wk (D 8) o X k < 2 ^ 20 := by
        rcases Nat.eq_zero_or_pos k with q | q
        · rw [q]; show 0 < 2 ^ 20; decide
        · obtain ⟨k', rfl⟩ : ∃ k', k = k' + 1 := ⟨k - 1, by omega⟩
          have := hw_k (D 8) o hX k'
          have := pc_6 X hX
          omega
      have b1 := pc_12 k
      have b2 := pc_12 (uN (D 8) k &&& o)
      rw [i_dif (by omega) (by omega) ew]
      exact ih
    · rw [if_neg hs] at ih
      rw [if_neg (fun q => hs ((sub_ok hX hlt).mp q)), nI_1]
      exact ih
theorem x_mwd {I : ax_I} {D : pD} (hC : CR I 1 D) (hW : WF D) {X u o : Nat} (hX : X < 64) (ho : o = 4095 ^^^ u) : F_X6_mostWithDays I (nI X) (nI u) = some (nI (hN (D 8) o X)) := x_mwd_l hC hW hX ho ax_N 64 (by decide) (by decide)
/-! the model -/
theorem smO_and (f : Nat → Nat) (o S : Nat) : smO (fun j => f j &&& o) S 6 6 0 = uN f S &&& o := by
  show uN (fun j => f j &&& o) S = _
  apply Nat.eq_of_testBit_eq
  intro i
  apply Bool.eq_iff_iff.mpr
  rw [Nat.testBit_and, Bool.and_eq_true, uN_ex, uN_ex]
  constructor
  · rintro ⟨j, hj, h1, h2⟩
    rw [Nat.testBit_and, Bool.and_eq_true] at h2
    exact ⟨⟨j, hj, h1, h2.1⟩, h2.2⟩
  · rintro ⟨⟨j, hj, h1, h2⟩, h3⟩
    exact ⟨j, hj, h1, by rw [Nat.testBit_and, h2, h3]; rfl⟩
theorem m_md27 {I : ax_I} {D : pD} (hM : MR I D) {o k : Nat} (hk : k < 64) (r6 : ax_I → Int32 → Int32 → Int32 → Int32 → Option Int32) (x1 x3 : Int32) : ∀ (n m a : Nat), m ≤ 6 → m < n → f_X7_mostDays_27 r6 n I x1 (nI o) x3 (nI k) (nI a) (nI (6 - m)) = (F_X7_ones I (x1 &&& (nI k ^^^ (-1)))).bind (fun q75 => (F_X7_ones I (nI (smO (fun j => D 8 j &&& o) k 6 m a))).bind (fun q80 => if x3 ≤ (q75 + q80) then f_X7_mostDays_98 r6 I x1 (nI o) (nI k) x3 else f_X7_mostDays_98 r6 I x1 (nI o) (nI k) (q75 + q80)))
  | 0, m, a, _, h => by omega
  | n + 1, 0, a, _, h => by
    rw [f_X7_mostDays_27, if_pos (by decide)]
    rfl
  | n + 1, m + 1, a, hm, h => by
    have e5 : 6 - (m + 1) + 1 = 6 - m := by omega
    have hi : ax_in (nI (6 - (m + 1))) 6 = true := p_in (by omega) (by omega)
    have hcl : (nI (6 - (m + 1))).toNatClampNeg = 6 - (m + 1) := p_cl (by omega)
    rw [f_X7_mostDays_27, if_neg (show ¬ (6 : Int32) ≤ nI (6 - (m + 1)) from nI_ge (a := 6 - (m + 1)) (b := 6) (by omega) (by omega)), p_bit (by omega) (by omega), if_pos hi, hcl, MR_days hM (j := 6 - (m + 1)) (by omega), f_X7_mostDays_60, f_X7_mostDays_60, p_and, p_or, show nI a ||| (0 : Int32) = nI a from (p_or a 0).trans (by rw [Nat.or_zero]), nI_1, e5]
    rw [m_md27 hM hk r6 x1 x3 n m a (by omega) (by omega), m_md27 hM hk r6 x1 x3 n m (a ||| (D 8 (6 - (m + 1)) &&& o)) (by omega) (by omega), smO]
    show (if nI (bb k (6 - (m + 1))) = 1 then _ else _) = _
    simp only [p_bb1]
    by_cases h0 : bb k (6 - (m + 1)) = 0
    · rw [if_neg (fun h' => h' h0), if_pos h0]
    · rw [if_pos h0, if_neg h0]
theorem hk_lt (f : Nat → Nat) (o X : Nat) : ∀ k, hk f o X k ≤ 12
  | 0 => Nat.le_refl _
  | k + 1 => by
    have := hk_lt f o X k
    rw [hk]
    split
    · split <;> omega
    · exact this
theorem hk_top (f : Nat → Nat) (o X : Nat) : ∀ j, hk f o X (X + 1 + j) = hk f o X (X + 1)
  | 0 => rfl
  | j + 1 => by
    rw [show X + 1 + (j + 1) = (X + 1 + j) + 1 from rfl, hk, if_neg (fun q => by
      have := Nat.and_le_right (n := X + 1 + j) (m := X)
      omega)]
    exact hk_top f o X j
theorem m_md6 {I : ax_I} {D : pD} (hM : MR I D) (hW : WF D) {X o : Nat} (hX : X < 64) : ∀ (n m : Nat), m ≤ X + 1 → m < n → f_X7_mostDays_6 n I (nI X) (nI o) (nI (hk (D 8) o X (X + 1 - m))) (nI (X + 1 - m)) = some (nI (hk (D 8) o X (X + 1)))
  | 0, m, _, h => by omega
  | n + 1, 0, _, h => by
    rw [f_X7_mostDays_6, if_pos (show nI X < nI (X + 1 - 0) from nI_lt (by omega) (by omega))]
    rfl
  | n + 1, m + 1, hm, h => by
    have e5 : X + 1 - (m + 1) + 1 = X + 1 - m := by omega
    have hlt : X + 1 - (m + 1) ≤ X := by omega
    obtain ⟨k, hkk⟩ : ∃ k, k = X + 1 - (m + 1) := ⟨_, rfl⟩
    rw [← hkk] at hlt e5 ⊢
    have hf : ∀ j, j < 6 → D 8 j < 4096 := fun j hj => by have := WF_days hW hj; omega
    have ih := m_md6 (o := o) hM hW hX n m (by omega) (by omega)
    rw [← e5, hk] at ih
    have hul := uN_lt hf k
    rw [f_X7_mostDays_6, if_neg (show ¬ nI X < nI k from nI_nlt hlt (by omega)), f_X7_mostDays_99]
    by_cases hs : k &&& X = k
    · rw [if_pos hs] at ih
      have h27 := m_md27 hM (o := o) (k := k) (by omega) (f_X7_mostDays_6 n) (nI X) (nI (hk (D 8) o X k)) ax_N 6 0 (by decide) (by decide)
      have hl := hk_lt (D 8) o X k
      have hl2 : pcn X - pcn k + kN (D 8) o k ≤ 24 := by
        have := pc_12 X
        have := pc_12 (uN (D 8) k &&& o)
        unfold kN
        omega
      have el : (nI (hk (D 8) o X k) ≤ nI (pcn X - pcn k + kN (D 8) o k)) = (hk (D 8) o X k ≤ pcn X - pcn k + kN (D 8) o k) := e_le (by omega) (by omega)
      rw [if_pos ((sub_ok hX (by omega)).mpr hs)]
      refine h27.trans ?_
      rw [and_not (by omega) k, on_ok I (and_lt12 (by omega) _), p_some, smO_and, on_ok I (and_lt12 hul o), p_some, dif_ok hX (by omega) hs, nI_add, f_X7_mostDays_98, f_X7_mostDays_98, f_X7_mostDays_99, f_X7_mostDays_99, nI_1]
      show (if nI (hk (D 8) o X k) ≤ nI (pcn X - pcn k + kN (D 8) o k) then _ else f_X7_mostDays_6 n I (nI X) (nI o) (nI (pcn X - pcn k + kN (D 8) o k)) (nI (k + 1))) = _
      by_cases hg : hk (D 8) o X k ≤ gN (D 8) o X k
      · rw [if_pos hg] at ih
        rw [if_pos (by rw [el]; exact hg)]
        exact ih
      · rw [if_neg hg] at ih
        rw [if_neg (by rw [el]; exact hg)]
        exact ih
    · rw [if_neg hs] at ih
      rw [if_neg (fun q => hs ((sub_ok hX (by omega)).mp q)), nI_1]
      exact ih
theorem m_md {I : ax_I} {D : pD} (hM : MR I D) (hW : WF D) {X : Nat} (o : Nat) (hX : X < 64) : F_X7_mostDays I (nI X) (nI o) = some (nI (hN (D 8) o X)) := by
  have h := m_md6 (o := o) hM hW hX ax_N (X + 1) (Nat.le_refl _) (by unfold ax_N; omega)
  rw [Nat.sub_self] at h
  have ht := hk_top (D 8) o X (63 - X)
  rw [show X + 1 + (63 - X) = 64 by omega] at ht
  unfold hN
  rw [ht]
  exact h
