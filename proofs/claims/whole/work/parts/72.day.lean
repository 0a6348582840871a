/-! ===== day ===== -/
def fdB (f : Nat → Nat) (o X c h d : Nat) : Prop := (f c &&& o).testBit d = true ∧ 1 + hN f (od o d) X = h
/-- the first day, m left -/
def fdk (f : Nat → Nat) (o X c h : Nat) : Nat → Int32
  | 0 => -6
  | m + 1 => if (f c &&& o).testBit (12 - (m + 1)) = true ∧ 1 + hN f (od o (12 - (m + 1))) X = h then nI (12 - (m + 1)) else fdk f o X c h m
theorem fdk_sp (f : Nat → Nat) (o X c h : Nat) : ∀ m, m ≤ 12 → (fdk f o X c h m = -6 ∧ ∀ d, 12 - m ≤ d → d < 12 → ¬ fdB f o X c h d) ∨ ∃ d, d < 12 ∧ fdk f o X c h m = nI d ∧ fdB f o X c h d
  | 0, _ => Or.inl ⟨rfl, fun d h1 h2 => by omega⟩
  | m + 1, hm => by
    rw [fdk]
    by_cases hq : (f c &&& o).testBit (12 - (m + 1)) = true ∧ 1 + hN f (od o (12 - (m + 1))) X = h
    · rw [if_pos hq]
      exact Or.inr ⟨12 - (m + 1), by omega, rfl, hq⟩
    · rw [if_neg hq]
      rcases fdk_sp f o X c h m (by omega) with ⟨h1, h2⟩ | h1
      · refine Or.inl ⟨h1, fun d g1 g2 => ?_⟩
        by_cases e : d = 12 - (m + 1)
        · rw [e]; exact hq
        · exact h2 d (by omega) g2
      · exact Or.inr h1
theorem and_2 {x d : Nat} (hx : x < 4096) (hd : d < 12) : (nI x &&& nI (2 ^ d) = 0) ↔ ¬ x.testBit d = true := by
  rw [p_and]
  have h1 : x &&& 2 ^ d < 4096 := and_lt12 hx _
  have h2 : (nI (x &&& 2 ^ d) = 0) = (x &&& 2 ^ d = 0) := e_eq (b := 0) (by omega) (by decide)
  rw [h2]
  constructor
  · intro h q
    have : (x &&& 2 ^ d).testBit d = true := by rw [Nat.testBit_and, q, Nat.testBit_two_pow_self]; rfl
    rw [h, Nat.zero_testBit] at this
    cases this
  · intro h
    apply Nat.eq_of_testBit_eq
    intro i
    rw [Nat.testBit_and, Nat.testBit_two_pow, Nat.zero_testBit]
    by_cases e : d = i
    · rw [← e]
      cases hq : x.testBit d
      · rfl
      · exact absurd hq h
    · rw [decide_eq_false e, Bool.and_false]
theorem od_u {u d : Nat} (hu : u < 4096) (hd : d < 12) : od (4095 ^^^ u) d = 4095 ^^^ (u ||| 2 ^ d) := by
  unfold od
  apply Nat.eq_of_testBit_eq
  intro i
  rw [Nat.testBit_and, Nat.testBit_xor, Nat.testBit_xor, Nat.testBit_xor, Nat.testBit_or, Nat.testBit_two_pow, show (4095 : Nat) = 2 ^ 12 - 1 from rfl, Nat.testBit_two_pow_sub_one]
  by_cases h : i < 12
  · rw [decide_eq_true h]
    cases u.testBit i <;> cases decide (d = i) <;> rfl
  · have h1 : u.testBit i = false := Nat.testBit_lt_two_pow (Nat.lt_of_lt_of_le hu (Nat.pow_le_pow_right (by decide) (by omega) : 2 ^ 12 ≤ 2 ^ i))
    rw [h1, decide_eq_false h, decide_eq_false (show ¬ d = i by omega)]
    rfl
theorem o_lt {u : Nat} (hu : u < 4096) : 4095 ^^^ u < 4096 := Nat.xor_lt_two_pow (n := 12) (by decide) hu
theorem hN_lt (f : Nat → Nat) (o X : Nat) : hN f o X ≤ 12 := hk_lt f o X 64
theorem i_m1 {a h : Nat} (ha : a < 100) (hh : h < 100) : (nI a = nI h - 1) ↔ 1 + a = h := by
  constructor
  · intro q
    have q2 : (nI a).toInt = (nI h - 1).toInt := by rw [q]
    rw [nI_toInt (by omega), show (nI h - 1).toInt = (h : Int) - 1 from pk_sub_toInt (a := h) (b := 1) (by omega) (by decide)] at q2
    omega
  · intro q
    rw [← q]
    have e : nI (1 + a) - nI 1 = nI (1 + a - 1) := pk_sub (by omega)
    rw [Nat.add_sub_cancel_left] at e
    exact e.symm
theorem i_p1 {a h : Nat} (ha : a < 100) (hh : h < 100) : (1 + nI a = nI h) ↔ 1 + a = h := by
  rw [show (1 : Int32) + nI a = nI (1 + a) from nI_add 1 a]
  exact nI_eq (by omega) (by omega)
theorem x_fd {I : ax_I} {D : pD} (hC : CR I 1 D) (hW : WF D) {X u o c h : Nat} (hX : X < 64) (hu : u < 4096) (ho : o = 4095 ^^^ u) (hcc : c ≤ 5) (hh : h ≤ 12) : ∀ (n m : Nat), m ≤ 12 → m < n → f_X6_firstDay_3 n I (nI c) (nI X) (nI u) (nI h) (nI (12 - m)) = some (fdk (D 8) o X c h m)
  | 0, m, _, h => by omega
  | n + 1, 0, _, h => by
    rw [f_X6_firstDay_3, if_pos (by decide)]
    rfl
  | n + 1, m + 1, hm, hn => by
    have e5 : 12 - (m + 1) + 1 = 12 - m := by omega
    have hlt : 12 - (m + 1) < 12 := by omega
    rw [fdk]
    obtain ⟨d, hd⟩ : ∃ d, d = 12 - (m + 1) := ⟨_, rfl⟩
    rw [← hd] at hlt e5 ⊢
    have ih := x_fd hC hW hX hu ho hcc hh n m (by omega) (by omega)
    have b8 := WF_days hW (j := c) (by omega)
    have c8 : I 8 c = nI (D 8 c) := CR_days hC (by omega)
    have hx : D 8 c &&& o < 4096 := and_lt12 (by omega) o
    have hmw : F_X6_mostWithDays I (nI X) (nI (u ||| 2 ^ d)) = some (nI (hN (D 8) (od o d) X)) := x_mwd hC hW hX (by rw [ho]; exact od_u hu hlt)
    have hl := hN_lt (D 8) (od o d) X
    rw [f_X6_firstDay_3, if_neg (show ¬ (12 : Int32) ≤ nI d from nI_ge (a := d) (b := 12) hlt (by decide)), if_pos (p_in (n := 6) (by omega) (by decide)), p_cl (by omega), c8, and_not (by omega) u, ← ho, p_shl (by omega), f_X6_firstDay_36, f_X6_firstDay_36, if_pos rfl, if_neg (show ¬ (1 : Int32) = 0 by decide), p_shl (by omega), p_or, hmw, p_some, f_X6_firstDay_64, nI_1, e5, ih]
    by_cases hq : (D 8 c &&& o).testBit d = true
    · rw [if_neg (fun q => (and_2 hx hlt).mp q hq)]
      by_cases h1 : 1 + hN (D 8) (od o d) X = h
      · rw [if_pos ((i_m1 (by omega) (by omega)).mpr h1), if_pos ⟨hq, h1⟩]
      · rw [if_neg (fun q => h1 ((i_m1 (by omega) (by omega)).mp q)), if_neg (fun q => h1 q.2)]
    · rw [if_pos ((and_2 hx hlt).mpr hq), if_neg (fun q => hq q.1)]
theorem m_fd {I : ax_I} {D : pD} (hM : MR I D) (hW : WF D) {X o c h : Nat} (hX : X < 64) (ho : o < 4096) (hcc : c ≤ 5) (hh : h ≤ 12) : ∀ (n m : Nat), m ≤ 12 → m < n → f_X7_dayIn_15 n I (nI c) (nI X) (nI o) (nI h) (nI (12 - m)) = some (fdk (D 8) o X c h m)
  | 0, m, _, h => by omega
  | n + 1, 0, _, h => by
    rw [f_X7_dayIn_15, if_pos (by decide)]
    rfl
  | n + 1, m + 1, hm, hn => by
    have e5 : 12 - (m + 1) + 1 = 12 - m := by omega
    have hlt : 12 - (m + 1) < 12 := by omega
    rw [fdk]
    obtain ⟨d, hd⟩ : ∃ d, d = 12 - (m + 1) := ⟨_, rfl⟩
    rw [← hd] at hlt e5 ⊢
    have ih := m_fd hM hW hX ho hcc hh n m (by omega) (by omega)
    have b8 := WF_days hW (j := c) (by omega)
    have hx : D 8 c &&& o < 4096 := and_lt12 (by omega) o
    have hmw := m_md hM hW (od o d) hX
    have hl := hN_lt (D 8) (od o d) X
    rw [f_X7_dayIn_15, if_neg (show ¬ (12 : Int32) ≤ nI d from nI_ge (a := d) (b := 12) hlt (by decide)), if_pos (p_in (n := 6) (by omega) (by decide)), p_cl (by omega), MR_days hM (j := c) (by omega), p_and, p_shl (by omega), f_X7_dayIn_43, f_X7_dayIn_43, if_pos rfl, if_neg (show ¬ (1 : Int32) = 0 by decide), p_shl (by omega), and_not ho (2 ^ d)]
    show (if nI (D 8 c &&& o) &&& nI (2 ^ d) = 0 then _ else (F_X7_mostDays I (nI X) (nI (od o d))).bind _) = _
    rw [hmw, p_some, f_X7_dayIn_73, nI_1, e5, ih]
    by_cases hq : (D 8 c &&& o).testBit d = true
    · rw [if_neg (fun q => (and_2 hx hlt).mp q hq)]
      by_cases h1 : 1 + hN (D 8) (od o d) X = h
      · rw [if_pos ((i_p1 (by omega) (by omega)).mpr h1), if_pos ⟨hq, h1⟩]
      · rw [if_neg (fun q => h1 ((i_p1 (by omega) (by omega)).mp q)), if_neg (fun q => h1 q.2)]
    · rw [if_pos ((and_2 hx hlt).mpr hq), if_neg (fun q => hq q.1)]
theorem clb_or : ∀ t, t < 64 → ∀ c, c < 6 → bb t c = 1 → clb t c ||| 2 ^ c = t := by decide +kernel
theorem clb_c : ∀ t, t < 64 → ∀ c, c < 6 → (clb t c).testBit c = false := by decide +kernel
theorem m_din {I : ax_I} {D : pD} (hM : MR I D) (hW : WF D) {X o c : Nat} (hX : X < 64) (ho : o < 4096) (hcc : c ≤ 5) (hb : bb X c = 1) : F_X7_dayIn I (nI c) (nI (clb X c)) (nI o) = some (fdk (D 8) o (clb X c) c (hN (D 8) o X) 12) := by
  rw [F_X7_dayIn, p_shl (by omega), p_or, clb_or X hX c (by omega) hb, m_md hM hW o hX, p_some]
  exact m_fd hM hW (clb_lt X hX c (by omega)) ho hcc (hN_lt _ _ _) ax_N 12 (by decide) (by decide)
theorem day_l {I : ax_I} {D : pD} (hC : CR I 1 D) (hM : MR I D) (hW : WF D) {ch : Nat} (hch : ch ≤ 5) (hsc : sS D ch = true) : ∀ (m n n' X u o : Nat) (x4 : Int32), m ≤ ch → m < n → m + 1 < n' → X < 64 → u < 4096 → o = 4095 ^^^ u → (∀ j, ch - m ≤ j → j < 6 → bb X j = (sS D j).toNat) → ∃ r, f_X6_day_41 n I (nI ch) (nI X) (nI (hN (D 8) o X)) (nI u) (nI (ch - m)) = some r ∧ f_X7_day_47 n' I (nI ch) (nI X) (nI o) x4 (nI (ch - m)) = some r
  | m, 0, n', X, u, o, x4, _, h, _, _, _, _, _ => by omega
  | m, n + 1, 0, X, u, o, x4, _, h, _, _, _, _, _ => by omega
  | 0, n + 1, n' + 1, X, u, o, x4, _, h, h', hX, hu, ho, hbx => by
    have hb : bb X ch = 1 := by rw [hbx ch (by omega) (by omega), hsc]; rfl
    have ol : o < 4096 := by rw [ho]; exact o_lt hu
    have hX2 := clb_lt X hX ch (by omega)
    have md := m_din hM hW hX ol hch hb
    have hfd := x_fd hC hW (h := hN (D 8) o X) hX2 hu ho hch (hN_lt _ _ _) ax_N 12 (by decide) (by decide)
    refine ⟨fdk (D 8) o (clb X ch) ch (hN (D 8) o X) 12, ?_, ?_⟩
    · rw [f_X6_day_41, if_pos (show nI ch ≤ nI (ch - 0) from nI_le (by omega) (by omega)), clb_ok X hX ch (by omega)]
      have : F_X6_firstDay I (nI ch) (nI (clb X ch)) (nI u) (nI (hN (D 8) o X)) = some (fdk (D 8) o (clb X ch) ch (hN (D 8) o X) 12) := hfd
      rw [this, p_some]
    · obtain ⟨n2, rfl⟩ : ∃ n2, n' = n2 + 1 := ⟨n' - 1, by omega⟩
      have hend : ∀ (W z : Int32), f_X7_day_47 (n2 + 1) I (nI ch) W z (fdk (D 8) o (clb X ch) ch (hN (D 8) o X) 12) (nI (ch + 1)) = some (fdk (D 8) o (clb X ch) ch (hN (D 8) o X) 12) := by
        intro W z
        rw [f_X7_day_47, if_pos (show nI ch < nI (ch + 1) from nI_lt (by omega) (by omega))]
      rw [f_X7_day_47, Nat.sub_zero, if_neg (show ¬ nI ch < nI ch from nI_nlt (Nat.le_refl _) (by omega)), p_bit (by omega) (by omega), show X / 2 ^ ch % 2 = 1 from hb, if_pos (by decide), clb_ok X hX ch (by omega), f_X7_day_72, md, p_some, f_X7_day_98, f_X7_day_98, f_X7_day_100, f_X7_day_100, nI_1, hend, hend]
      split <;> rfl
  | m + 1, n + 1, n' + 1, X, u, o, x4, hm, h, h', hX, hu, ho, hbx => by
    have e5 : ch - (m + 1) + 1 = ch - m := by omega
    have hlt : ch - (m + 1) < ch := by omega
    obtain ⟨c, hc⟩ : ∃ c, c = ch - (m + 1) := ⟨_, rfl⟩
    rw [← hc] at hlt e5 hbx ⊢
    have ol : o < 4096 := by rw [ho]; exact o_lt hu
    have nle : ¬ nI ch ≤ nI c := nI_ge hlt (by omega)
    have nlt : ¬ nI ch < nI c := nI_nlt (by omega) (by omega)
    have hbc := hbx c (Nat.le_refl _) (by omega)
    have es := x_saint hC hW (c := c) (by omega)
    cases hs : sS D c
    · have hb : bb X c = 0 := by rw [hbc, hs]; rfl
      rw [hs] at es
      obtain ⟨r, p, q⟩ := day_l hC hM hW hch hsc m n n' X u o x4 (by omega) (by omega) (by omega) hX hu ho (fun j h1 h2 => hbx j (by omega) h2)
      refine ⟨r, ?_, ?_⟩
      · rw [f_X6_day_41, if_neg nle, es, p_some, show (if (false : Bool) = true then (1 : Int32) else 0) = 0 from rfl, if_pos rfl, f_X6_day_99, nI_1, e5]
        exact p
      · rw [f_X7_day_47, if_neg nlt, p_bit (by omega) (by omega), show X / 2 ^ c % 2 = 0 from hb, if_neg (by decide), f_X7_day_100, nI_1, e5]
        exact q
    · have hb : bb X c = 1 := by rw [hbc, hs]; rfl
      rw [hs] at es
      have hX2 := clb_lt X hX c (by omega)
      have md := m_din hM hW hX ol (c := c) (by omega) hb
      have hfd : F_X6_firstDay I (nI c) (nI (clb X c)) (nI u) (nI (hN (D 8) o X)) = some (fdk (D 8) o (clb X c) c (hN (D 8) o X) 12) := x_fd hC hW (h := hN (D 8) o X) hX2 hu ho (by omega) (hN_lt _ _ _) ax_N 12 (by decide) (by decide)
      have hbx2 : ∀ j, ch - m ≤ j → j < 6 → bb (clb X c) j = (sS D j).toNat := by
        intro j h1 h2
        have hcb : bb (clb X c) j = if j = c then 0 else bb X j := clb_bit X hX c (by omega) j h2
        rw [hcb, if_neg (by omega)]
        exact hbx j (by omega) h2
      have ex : f_X6_day_41 (n + 1) I (nI ch) (nI X) (nI (hN (D 8) o X)) (nI u) (nI c) = if fdk (D 8) o (clb X c) c (hN (D 8) o X) 12 = (-6) then f_X6_day_41 n I (nI ch) (nI (clb X c)) (nI (hN (D 8) o X)) (nI u) (nI (ch - m)) else f_X6_day_41 n I (nI ch) (nI (clb X c)) (nI (hN (D 8) o X) + (-1)) (nI u ||| ((1 : Int32) <<< (fdk (D 8) o (clb X c) c (hN (D 8) o X) 12 &&& 31))) (nI (ch - m)) := by
        rw [f_X6_day_41, if_neg nle, es, p_some, show (if (true : Bool) = true then (1 : Int32) else 0) = 1 from rfl, if_neg (by decide), clb_ok X hX c (by omega), f_X6_day_68, hfd, p_some, f_X6_day_99, f_X6_day_99, nI_1, e5]
      have em : f_X7_day_47 (n' + 1) I (nI ch) (nI X) (nI o) x4 (nI c) = if 0 ≤ fdk (D 8) o (clb X c) c (hN (D 8) o X) 12 then f_X7_day_47 n' I (nI ch) (nI (clb X c)) (nI o &&& (((1 : Int32) <<< (fdk (D 8) o (clb X c) c (hN (D 8) o X) 12 &&& 31)) ^^^ (-1))) (fdk (D 8) o (clb X c) c (hN (D 8) o X) 12) (nI (ch - m)) else f_X7_day_47 n' I (nI ch) (nI (clb X c)) (nI o &&& nI o) (fdk (D 8) o (clb X c) c (hN (D 8) o X) 12) (nI (ch - m)) := by
        rw [f_X7_day_47, if_neg nlt, p_bit (by omega) (by omega), show X / 2 ^ c % 2 = 1 from hb, if_pos (by decide), clb_ok X hX c (by omega), f_X7_day_72, md, p_some, f_X7_day_98, f_X7_day_98, f_X7_day_100, f_X7_day_100, nI_1, e5]
      rw [ex, em]
      rcases fdk_sp (D 8) o (clb X c) c (hN (D 8) o X) 12 (Nat.le_refl _) with ⟨k1, k2⟩ | ⟨d, k1, k2, k3⟩
      · have hkey : hN (D 8) o (clb X c) = hN (D 8) o (clb X c ||| 2 ^ c) := by
          refine day_key (D 8) o hX2 (by omega) (clb_c X hX c (by omega)) ?_
          intro d hd q1 q2 q3
          apply k2 d (by omega) hd
          refine ⟨by rw [Nat.testBit_and, q1, q2]; rfl, ?_⟩
          rw [clb_or X hX c (by omega) hb] at q3
          exact q3
        rw [clb_or X hX c (by omega) hb] at hkey
        rw [k1, if_pos rfl, if_neg (show ¬ (0 : Int32) ≤ -6 by decide), p_and, Nat.and_self, ← hkey]
        exact day_l hC hM hW hch hsc m n n' (clb X c) u o (-6) (by omega) (by omega) (by omega) hX2 hu ho hbx2
      · have hne : ∀ v, v < 12 → ¬ nI v = -6 := by decide
        have h2d : 2 ^ d < 4096 := (Nat.pow_lt_pow_right (by decide) k1 : 2 ^ d < 2 ^ 12)
        have hh : hN (D 8) o X = hN (D 8) (od o d) (clb X c) + 1 := by
          have := k3.2
          omega
        rw [k2, if_neg (hne d k1), if_pos (nI_pos' (by omega)), p_shl (by omega), p_or, and_not ol (2 ^ d), hh, pk_m1]
        exact day_l hC hM hW hch hsc m n n' (clb X c) (u ||| 2 ^ d) (od o d) (nI d) (by omega) (by omega) (by omega) hX2 (Nat.or_lt_two_pow (n := 12) hu h2d) (by rw [ho]; exact od_u hu k1) hbx2
theorem bs6_bit : ∀ b0 b1 b2 b3 b4 b5 : Bool, bb (bs6 b0 b1 b2 b3 b4 b5) 0 = b0.toNat ∧ bb (bs6 b0 b1 b2 b3 b4 b5) 1 = b1.toNat ∧ bb (bs6 b0 b1 b2 b3 b4 b5) 2 = b2.toNat ∧ bb (bs6 b0 b1 b2 b3 b4 b5) 3 = b3.toNat ∧ bb (bs6 b0 b1 b2 b3 b4 b5) 4 = b4.toNat ∧ bb (bs6 b0 b1 b2 b3 b4 b5) 5 = b5.toNat := by decide +kernel
theorem sB_bit (D : pD) {j : Nat} (hj : j < 6) : bb (sB D) j = (sS D j).toNat := by
  rw [sB_bs]
  obtain ⟨h0, h1, h2, h3, h4, h5⟩ := bs6_bit (sS D 0) (sS D 1) (sS D 2) (sS D 3) (sS D 4) (sS D 5)
  rcases (show j = 0 ∨ j = 1 ∨ j = 2 ∨ j = 3 ∨ j = 4 ∨ j = 5 by omega) with rfl | rfl | rfl | rfl | rfl | rfl
  · exact h0
  · exact h1
  · exact h2
  · exact h3
  · exact h4
  · exact h5
theorem op19 : lw_op19 Inv := by
  intro a1 l E B lay I J hI
  have hLL := (inv_sz hI).2.2
  have hI0 := hI
  obtain ⟨g, ext, D, n, S, hlay, hext, hez, hC, hM, hW, hP, hIm⟩ := hI
  have hlt := sB_lt D
  have hmx : F_X6_mostWithDays I (nI (sB D)) 0 = some (nI (hN (D 8) 4095 (sB D))) := x_mwd (u := 0) hC hW hlt rfl
  have h : ∃ r, F_X6_day I a1 = some r ∧ F_X7_day I a1 = some r := by
    rw [F_X6_day, x_sB hC hW, p_some, hmx, p_some, F_X7_day, m_sB hM hW, p_some]
    by_cases h1 : a1 = -1
    · rw [if_pos h1, if_pos h1, show (4095 : Int32) = nI 4095 from rfl, m_md hM hW 4095 hlt, p_some]
      exact ⟨_, rfl, rfl⟩
    · rw [if_neg h1, if_neg h1]
      rcases p_rng a1 5 (by decide) with ⟨c, hc, rfl⟩ | h2
      · have hb := sB_bit D (j := c) (by omega)
        rw [p_num1 hc, p_some, if_neg (show ¬ (1 : Int32) = 0 by decide), x_saint hC hW hc, p_some, p_bit (by omega) (by omega), show sB D / 2 ^ c % 2 = (sS D c).toNat from hb]
        cases hs : sS D c
        · exact ⟨-1, rfl, rfl⟩
        · rw [show (if (true : Bool) = true then (1 : Int32) else 0) = 1 from rfl, if_neg (show ¬ (1 : Int32) = 0 by decide), if_neg (show ¬ nI (Bool.toNat true) = 0 by decide)]
          obtain ⟨r, p, q⟩ := day_l hC hM hW hc hs c ax_N ax_N (sB D) 0 4095 (-6) (Nat.le_refl _) (by unfold ax_N; omega) (by unfold ax_N; omega) hlt (by decide) rfl (fun j _ h2 => sB_bit D h2)
          rw [Nat.sub_self] at p q
          exact ⟨r, p, q⟩
      · have h2 : ¬ ((0 : Int32) ≤ a1 ∧ a1 ≤ 5) := h2
        rw [p_num0 h2, p_some, if_pos rfl, x_saintF h2, p_some, if_pos rfl]
        exact ⟨_, rfl, rfl⟩
  obtain ⟨r, e1, e2⟩ := h
  exact op_i (M_X6_day hLL e1) (M_X7_day (J := J) hLL e2) (by decide) (by decide) hI0
