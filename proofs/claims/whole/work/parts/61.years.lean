/-! ===== the years, act by act ===== -/
def yWhy (S : Nat → Nat) (n : Nat) (D : pD) (k : Nat) : Nat := pWhy D (aW S n (pos S n k)) (aC S n (pos S n k)) (aP S n (pos S n k)) (aQ S n (pos S n k))
def yDo (S : Nat → Nat) (n : Nat) (D : pD) (k : Nat) : pD := pDo D (aW S n (pos S n k)) (aC S n (pos S n k)) (aP S n (pos S n k)) (aQ S n (pos S n k))
def yD (S : Nat → Nat) (n : Nat) (D : pD) : Nat → pD
  | 0 => D
  | k + 1 => yDo S n (yD S n D k) k
/-- a feast of no saint -/
def yb (S : Nat → Nat) (n : Nat) (D : pD) (k : Nat) : Bool := decide (aW S n (pos S n k) = 6) && !(sS (yD S n D k) (aC S n (pos S n k)))
def yF (S : Nat → Nat) (n : Nat) : Nat → Nat
  | 0 => 0
  | k + 1 => yF S n k + if aW S n (pos S n k) = 6 then 1 else 0
def yw (S : Nat → Nat) (n : Nat) (D : pD) : Nat → Nat
  | 0 => 0
  | k + 1 => if yb S n D k = true ∧ yw S n D k = 0 then k + 1 else yw S n D k
def yC (S : Nat → Nat) (n : Nat) (D : pD) : Nat → Nat
  | 0 => 0
  | k + 1 => yC S n D k + if yb S n D k = true then 1 else 0
theorem yw_le (S : Nat → Nat) (n : Nat) (D : pD) : ∀ k, yw S n D k ≤ k
  | 0 => Nat.le_refl _
  | k + 1 => by
    have := yw_le S n D k
    rw [yw]
    split <;> omega
/-- K: how far the years go, of m acts -/
def yS (S : Nat → Nat) (n : Nat) (D : pD) (K m : Nat) : Prop := (∀ j, j < K → yWhy S n (yD S n D j) j = 0) ∧ K ≤ m ∧ (K < m → yWhy S n (yD S n D K) K ≠ 0)
theorem yS_ex (S : Nat → Nat) (n : Nat) (D : pD) : ∀ m, ∃ K, yS S n D K m
  | 0 => ⟨0, fun j hj => absurd hj (by omega), Nat.le_refl _, fun h => absurd h (by omega)⟩
  | m + 1 => by
    obtain ⟨K, h1, h2, h3⟩ := yS_ex S n D m
    by_cases h : K < m
    · exact ⟨K, h1, by omega, fun _ => h3 h⟩
    · have e : K = m := by omega
      by_cases h0 : yWhy S n (yD S n D m) m = 0
      · refine ⟨m + 1, fun j hj => ?_, Nat.le_refl _, fun q => absurd q (by omega)⟩
        by_cases ej : j = m
        · rw [ej]; exact h0
        · exact h1 j (by omega)
      · exact ⟨K, h1, by omega, fun _ => by rw [e]; exact h0⟩
theorem WF_y {S : Nat → Nat} {n : Nat} {D : pD} (hW : WF D) {K m : Nat} (hK : yS S n D K m) (hG : ∀ j, j < m → AG S n (pos S n j)) : ∀ k, k ≤ K → WF (yD S n D k)
  | 0, _ => hW
  | k + 1, hk => by
    obtain ⟨g1, g2, g3, g4⟩ := AB (hG k (by have := hK.2.1; omega))
    exact WF_do (WF_y hW hK hG k (by omega)) g1 g2 g3 (hK.1 k (by omega))
theorem pos_mono (S : Nat → Nat) (n : Nat) {j : Nat} : ∀ k, j < k → pos S n j < pos S n k
  | 0, h => by omega
  | k + 1, h => by
    have h1 := aL_pos S n (pos S n k)
    show pos S n j < pos S n k + aL S n (pos S n k)
    by_cases e : j = k
    · rw [e]; omega
    · have := pos_mono S n k (j := j) (by omega); omega
def rd (I : ax_I) (w c p q : Nat) : ax_I := ax_u (ax_u (ax_u (ax_u I 29 0 (nI w)) 29 1 (nI c)) 29 2 (nI q)) 29 3 (nI p)
theorem x_read {I : ax_I} {n : Nat} {S : Nat → Nat} (hP : PR I n S) {P : Nat} (hp : P < n) (hG : AG S n P) : F_X4_readAct I (nI P) 29 = some (nI (P + aL S n P), rd I (aW S n P) (aC S n P) (aP S n P) (aQ S n P)) := by
  have hn := hP.2.2.1
  have b0 := sg_le hP P
  have b1 := sg_le hP (P + 1)
  have b2 := sg_le hP (P + 2)
  rw [F_X4_readAct, x_sign hP (by omega), p_some, nI_1, x_sign hP (by omega), p_some, show nI P + 2 = nI (P + 2) from nI_add P 2, x_sign hP (by omega), p_some]
  unfold rd aW aC aP aQ aL
  have e46 : (nI (sg S n P) = 46) = (sg S n P = 46) := e_eq (b := 46) (by omega) (by decide)
  have e102 : (nI (sg S n P) = 102) = (sg S n P = 102) := e_eq (b := 102) (by omega) (by decide)
  rcases hG with h | ⟨h, h1, h2, h3, h4⟩ | ⟨h, h0, h1⟩ | ⟨h, h0, h1, h2, h3, h4⟩
  · rw [if_pos (by rw [e46]; exact h), if_pos h, if_pos h, if_pos h, if_pos h, if_pos h, F_X0_put, p_some]
    rfl
  · have g : ¬ sg S n P = 46 := by omega
    rw [if_neg (by rw [e46]; exact g), if_neg g, if_neg g, if_neg g, if_neg g, if_neg g, if_pos (by rw [e102]; exact h), if_pos h, if_pos h, if_pos h, if_pos h, if_pos h, F_X0_put, p_some, show nI (sg S n (P + 2)) - 65 = nI (sg S n (P + 2) - 65) from pk_sub (b := 65) h3, show nI (sg S n (P + 1)) - 97 = nI (sg S n (P + 1) - 97) from pk_sub (b := 97) h1, show nI P + 3 = nI (P + 3) from nI_add P 3]
    rfl
  · have g : ¬ sg S n P = 46 := by omega
    have g2 : ¬ sg S n P = 102 := by omega
    have dl := dk_le (sg S n (P + 1))
    have hm : ¬ nI (dk (sg S n (P + 1))) = -6 := fun q => by
      have q2 : (nI (dk (sg S n (P + 1)))).toInt = (-6 : Int32).toInt := by rw [q]
      rw [nI_toInt (by omega), show (-6 : Int32).toInt = -6 from by decide] at q2
      omega
    rw [if_neg (by rw [e46]; exact g), if_neg g, if_neg g, if_neg g, if_neg g, if_neg g, if_neg (by rw [e102]; exact g2), if_neg g2, if_neg g2, if_neg g2, if_neg g2, if_neg g2, if_neg h1, if_neg h1, if_neg h1, if_neg h1, x_dk I (by omega), if_neg h1, p_some, if_neg hm, F_X0_put, p_some, show nI (sg S n P) - 65 = nI (sg S n P - 65) from pk_sub (b := 65) h]
    rfl
  · have g : ¬ sg S n P = 46 := by omega
    have g2 : ¬ sg S n P = 102 := by omega
    have g3 := dk_dig h2
    rw [if_neg (by rw [e46]; exact g), if_neg g, if_neg g, if_neg g, if_neg g, if_neg g, if_neg (by rw [e102]; exact g2), if_neg g2, if_neg g2, if_neg g2, if_neg g2, if_neg g2, if_pos g3, if_pos g3, if_pos g3, if_pos g3, x_dk I (by omega), if_pos g3, p_some, if_pos rfl, F_X0_put, p_some, show nI (sg S n P) - 65 = nI (sg S n P - 65) from pk_sub (b := 65) h, show nI (sg S n (P + 1)) - 48 = nI (sg S n (P + 1) - 48) from pk_sub (b := 48) h1, show nI (sg S n (P + 2)) - 97 = nI (sg S n (P + 2) - 97) from pk_sub (b := 97) h3, show nI P + 3 = nI (P + 3) from nI_add P 3]
    rfl
def YX (I : ax_I) (S : Nat → Nat) (n : Nat) (D : pD) (k : Nat) : Prop := CR I 13 (yD S n D k) ∧ I 28 1 = nI k ∧ I 28 4 = nI (yF S n k) ∧ I 28 5 = hv (yw S n D k) ∧ I 28 6 = nI (yC S n D k)
def FC (I I' : ax_I) : Prop := ∀ r j, (r < 13 ∨ (24 < r ∧ r ≠ 28 ∧ r ≠ 29)) → I' r j = I r j
theorem FC_tr {I I1 I2 : ax_I} (h1 : FC I I1) (h2 : FC I1 I2) : FC I I2 := fun r j g => (h2 r j g).trans (h1 r j g)
theorem PR_FC {I I' : ax_I} {n : Nat} {S : Nat → Nat} (h : PR I n S) (f : FC I I') : PR I' n S := PR_eq h (f 26 1 (by omega)) (f 35 18 (by omega)) (fun j => f 27 j (by omega)) (fun j => f 50 j (by omega))
theorem hvm {d : Nat} (h : d < 100) : (hv d = -6) ↔ d = 0 := by
  have : ∀ d, d < 100 → ((hv d = -6) ↔ d = 0) := by decide +kernel
  exact this d h
theorem hvn {d : Nat} (h : d < 100) : (0 ≤ hv d) ↔ ¬ d = 0 := by
  have : ∀ d, d < 100 → ((0 ≤ hv d) ↔ ¬ d = 0) := by decide +kernel
  exact this d h
theorem x_feast {I : ax_I} {k f w c : Nat} (s : Bool) (h1 : I 28 1 = nI k) (h4 : I 28 4 = nI f) (h5 : I 28 5 = hv w) (h6 : I 28 6 = nI c) (hw : w < 100) : ∃ I', F_X5_countFeast I (if s = true then 1 else 0) = some I' ∧ (∀ r j, r ≠ 28 → I' r j = I r j) ∧ (∀ j, j ≠ 4 → j ≠ 5 → j ≠ 6 → I' 28 j = I 28 j) ∧ I' 28 4 = nI (f + 1) ∧ I' 28 5 = hv (if s = false ∧ w = 0 then k + 1 else w) ∧ I' 28 6 = nI (c + if s = false then 1 else 0) := by
  have e4 : I 28 4 + 1 = nI (f + 1) := by rw [h4, nI_1]
  have a6 : (ax_u I 28 4 (nI (f + 1))) 28 6 + 1 = nI (c + 1) := by rw [ax_u_nj (by decide), h6, nI_1]
  have a5 : (ax_u (ax_u I 28 4 (nI (f + 1))) 28 6 (nI (c + 1))) 28 5 = hv w := by rw [ax_u_nj (by decide), ax_u_nj (by decide)]; exact h5
  have a1 : (ax_u (ax_u I 28 4 (nI (f + 1))) 28 6 (nI (c + 1))) 28 1 = nI k := by rw [ax_u_nj (by decide), ax_u_nj (by decide)]; exact h1
  rw [F_X5_countFeast, e4, a6, a5, a1]
  cases s
  · rw [show (if (false : Bool) = true then (1 : Int32) else 0) = 0 from rfl, if_pos rfl]
    by_cases hw0 : w = 0
    · rw [if_pos ((hvm hw).mpr hw0), f_X5_countFeast_41]
      refine ⟨_, rfl, fun r j hr => ?_, fun j g4 g5 g6 => ?_, ?_, ?_, ?_⟩
      · rw [ax_u_n hr, ax_u_n hr, ax_u_n hr]
      · rw [ax_u_nj g5, ax_u_nj g6, ax_u_nj g4]
      · rw [ax_u_nj (by decide), ax_u_nj (by decide), ax_u_ss]
      · rw [ax_u_ss, if_pos ⟨rfl, hw0⟩, hv_s]
      · rw [ax_u_nj (by decide), ax_u_ss, if_pos rfl]
    · rw [if_neg (fun q => hw0 ((hvm hw).mp q)), f_X5_countFeast_41]
      refine ⟨_, rfl, fun r j hr => ?_, fun j g4 g5 g6 => ?_, ?_, ?_, ?_⟩
      · rw [ax_u_n hr, ax_u_n hr]
      · rw [ax_u_nj g6, ax_u_nj g4]
      · rw [ax_u_nj (by decide), ax_u_ss]
      · rw [a5, if_neg (fun q => hw0 q.2)]
      · rw [ax_u_ss, if_pos rfl]
  · rw [show (if (true : Bool) = true then (1 : Int32) else 0) = 1 from rfl, if_neg (by decide), f_X5_countFeast_41]
    refine ⟨_, rfl, fun r j hr => ?_, fun j g4 g5 g6 => ?_, ?_, ?_, ?_⟩
    · rw [ax_u_n hr]
    · rw [ax_u_nj g4]
    · rw [ax_u_ss]
    · rw [ax_u_nj (by decide), if_neg (fun q => by cases q.1)]; exact h5
    · rw [ax_u_nj (by decide), if_neg (by decide)]; exact h6
theorem x_one {I : ax_I} {S : Nat → Nat} {n : Nat} {D : pD} {k : Nat} (hP : PR I n S) (hY : YX I S n D k) (hW : WF (yD S n D k)) (hp : pos S n k < n) (hG : AG S n (pos S n k)) (h0 : yWhy S n (yD S n D k) k = 0) (r9 : ax_I → Int32 → Int32 → Option ax_I) (f : Nat) (hr9 : r9 = f_X5_live_9 13 f) : ∃ I', f_X5_live_9 13 (f + 1) I (nI (pos S n k)) (nI k) = r9 I' (nI (pos S n (k + 1))) (nI (k + 1)) ∧ YX I' S n D (k + 1) ∧ FC I I' ∧ I' 28 2 = I 28 2 ∧ I' 28 3 = I 28 3 := by
  obtain ⟨hC, h1, h4, h5, h6⟩ := hY
  have hn := hP.2.2.1
  have hk := pos_ge S n k
  obtain ⟨g1, g2, g3, g4⟩ := AB hG
  obtain ⟨I1, hI1⟩ : ∃ I1, I1 = rd I (aW S n (pos S n k)) (aC S n (pos S n k)) (aP S n (pos S n k)) (aQ S n (pos S n k)) := ⟨_, rfl⟩
  have xr := x_read hP hp hG
  rw [← hI1] at xr
  have c0 : I1 29 0 = nI (aW S n (pos S n k)) := by rw [hI1]; unfold rd; rw [ax_u_nj (by decide), ax_u_nj (by decide), ax_u_nj (by decide), ax_u_ss]
  have c1 : I1 29 1 = nI (aC S n (pos S n k)) := by rw [hI1]; unfold rd; rw [ax_u_nj (by decide), ax_u_nj (by decide), ax_u_ss]
  have c2 : I1 29 2 = nI (aQ S n (pos S n k)) := by rw [hI1]; unfold rd; rw [ax_u_nj (by decide), ax_u_ss]
  have c3 : I1 29 3 = nI (aP S n (pos S n k)) := by rw [hI1]; unfold rd; rw [ax_u_ss]
  have co : ∀ r j, r ≠ 29 → I1 r j = I r j := fun r j hr => by rw [hI1]; unfold rd; rw [ax_u_n hr, ax_u_n hr, ax_u_n hr, ax_u_n hr]
  have hC1 : CR I1 13 (yD S n D k) := CR_eq hC (fun q j hq => co _ _ (by omega))
  have hy := x_why hC1 hW g1 g2 g3 g4 c0 c1 c2 c3
  have h0' : pWhy (yD S n D k) (aW S n (pos S n k)) (aC S n (pos S n k)) (aP S n (pos S n k)) (aQ S n (pos S n k)) = 0 := h0
  rw [h0'] at hy
  obtain ⟨I2, l1, l2, l3⟩ := x_do hC1 hW (by omega) g1 g2 g3 g4 c0 c1 c2 c3 h0'
  have l2 : CR I2 13 (yD S n D (k + 1)) := l2
  have d0 : I2 29 0 = nI (aW S n (pos S n k)) := (l3 29 0 (by omega)).trans c0
  have d1 : I2 29 1 = nI (aC S n (pos S n k)) := (l3 29 1 (by omega)).trans c1
  have do' : ∀ r j, (r < 13 ∨ 24 < r) → r ≠ 29 → I2 r j = I r j := fun r j g g' => (l3 r j (by omega)).trans (co r j g')
  have e60 : ¬ (60 : Int32) ≤ nI k := nI_ge (a := k) (b := 60) (by omega) (by decide)
  have en : ¬ nI n ≤ nI (pos S n k) := nI_ge hp (by omega)
  have e6 : (nI (aW S n (pos S n k)) = 6) = (aW S n (pos S n k) = 6) := e_eq (b := 6) (by omega) (by decide)
  subst hr9
  have e : f_X5_live_9 13 (f + 1) I (nI (pos S n k)) (nI k) = if nI (aW S n (pos S n k)) = 6 then (F_X2_isSaint I2 13 (nI (aC S n (pos S n k)))).bind (fun q93 => (F_X5_countFeast I2 q93).bind (fun q96 => f_X5_live_99 13 (f_X5_live_9 13 f) q96 (nI (pos S n k + aL S n (pos S n k))) (nI k))) else f_X5_live_99 13 (f_X5_live_9 13 f) I2 (nI (pos S n k + aL S n (pos S n k))) (nI k) := by
    rw [f_X5_live_9, if_neg e60, hP.1, if_neg en, xr, p_some, hy, p_some, nI_0, if_pos rfl, l1, p_some, d0, d1]
  by_cases h : aW S n (pos S n k) = 6
  · rw [if_pos (by rw [e6]; exact h)] at e
    have eD : yD S n D (k + 1) = yD S n D k := by
      show yDo S n (yD S n D k) k = _
      unfold yDo pDo
      rw [h]
      rfl
    rw [eD] at l2
    rw [x_saint l2 hW g2, p_some] at e
    obtain ⟨I3, f1, f2, f3, f4, f5, f6⟩ := x_feast (I := I2) (k := k) (f := yF S n k) (w := yw S n D k) (c := yC S n D k) (sS (yD S n D k) (aC S n (pos S n k))) ((do' 28 1 (by omega) (by decide)).trans h1) ((do' 28 4 (by omega) (by decide)).trans h4) ((do' 28 5 (by omega) (by decide)).trans h5) ((do' 28 6 (by omega) (by decide)).trans h6) (by have := yw_le S n D k; omega)
    rw [f1, p_some, f_X5_live_99, nI_1, f3 1 (by decide) (by decide) (by decide), do' 28 1 (by omega) (by decide), h1, nI_1] at e
    have eb : yb S n D k = !(sS (yD S n D k) (aC S n (pos S n k))) := by unfold yb; rw [h]; rfl
    refine ⟨_, e, ⟨?_, ?_, ?_, ?_, ?_⟩, ?_, ?_, ?_⟩
    · rw [eD]; exact CR_off (CR_eq l2 (fun q j hq => f2 _ _ (by omega))) (by omega)
    · rw [ax_u_ss]
    · rw [ax_u_nj (by decide), f4, yF, if_pos h]
    · rw [ax_u_nj (by decide), f5, yw, eb]
      cases sS (yD S n D k) (aC S n (pos S n k)) <;> simp
    · rw [ax_u_nj (by decide), f6, yC, eb]
      cases sS (yD S n D k) (aC S n (pos S n k)) <;> simp
    · intro r j hr
      rw [ax_u_n (by omega), f2 r j (by omega)]; exact do' r j (by omega) (by omega)
    · rw [ax_u_nj (by decide), f3 2 (by decide) (by decide) (by decide)]; exact do' 28 2 (by omega) (by decide)
    · rw [ax_u_nj (by decide), f3 3 (by decide) (by decide) (by decide)]; exact do' 28 3 (by omega) (by decide)
  · rw [if_neg (by rw [e6]; exact h), f_X5_live_99, nI_1, do' 28 1 (by omega) (by decide), h1, nI_1] at e
    have eb : yb S n D k = false := by unfold yb; rw [decide_eq_false h]; rfl
    refine ⟨_, e, ⟨?_, ?_, ?_, ?_, ?_⟩, ?_, ?_, ?_⟩
    · exact CR_off l2 (by omega)
    · rw [ax_u_ss]
    · rw [ax_u_nj (by decide), do' 28 4 (by omega) (by decide), yF, if_neg h]; exact h4
    · rw [ax_u_nj (by decide), do' 28 5 (by omega) (by decide), yw, eb, if_neg (fun q => by cases q.1)]; exact h5
    · rw [ax_u_nj (by decide), do' 28 6 (by omega) (by decide), yC, eb, if_neg (by decide)]; exact h6
    · intro r j hr
      rw [ax_u_n (by omega)]; exact do' r j (by omega) (by omega)
    · rw [ax_u_nj (by decide)]; exact do' 28 2 (by omega) (by decide)
    · rw [ax_u_nj (by decide)]; exact do' 28 3 (by omega) (by decide)
def bA (K m : Nat) : Int32 := if K < m then nI K else -6
def bW (S : Nat → Nat) (n : Nat) (D : pD) (K m : Nat) : Int32 := if K < m then nI (yWhy S n (yD S n D K) K) else -6
theorem x_years_l {S : Nat → Nat} {n : Nat} {D : pD} (hW : WF D) {K a : Nat} (hK : yS S n D K a) (hG : ∀ j, j < a → AG S n (pos S n j)) (hpn : pos S n a = n) : ∀ (f m k : Nat) (I : ax_I), k + m = K → m < f → PR I n S → YX I S n D k → I 28 2 = -6 → I 28 3 = -6 → ∃ I', f_X5_live_9 13 f I (nI (pos S n k)) (nI k) = some I' ∧ YX I' S n D K ∧ I' 28 2 = bA K a ∧ I' 28 3 = bW S n D K a ∧ FC I I'
  | 0, m, k, I, _, h, _, _, _, _ => by omega
  | f + 1, m + 1, k, I, hk, h, hP, hY, h2, h3 => by
    have hka : k < a := by have := hK.2.1; omega
    have hp : pos S n k < n := by have := pos_mono S n a hka; omega
    obtain ⟨I1, e1, e2, e3, e4, e5⟩ := x_one hP hY (WF_y hW hK hG k (by omega)) hp (hG k hka) (hK.1 k (by omega)) _ f rfl
    obtain ⟨I', i1, i2, i3, i4, i5⟩ := x_years_l hW hK hG hpn f m (k + 1) I1 (by omega) (by omega) (PR_FC hP e3) e2 (e4.trans h2) (e5.trans h3)
    exact ⟨I', e1.trans i1, i2, i3, i4, FC_tr e3 i5⟩
  | f + 1, 0, k, I, hk, h, hP, hY, h2, h3 => by
    have hkK : k = K := by omega
    subst hkK
    have hn := hP.2.2.1
    unfold bA bW
    by_cases hka : k < a
    · have hp : pos S n k < n := by have := pos_mono S n a hka; omega
      have hG' := hG k hka
      have hkp := pos_ge S n k
      have hWk := WF_y hW hK hG k (Nat.le_refl _)
      obtain ⟨g1, g2, g3, g4⟩ := AB hG'
      obtain ⟨I1, hI1⟩ : ∃ I1, I1 = rd I (aW S n (pos S n k)) (aC S n (pos S n k)) (aP S n (pos S n k)) (aQ S n (pos S n k)) := ⟨_, rfl⟩
      have xr := x_read hP hp hG'
      rw [← hI1] at xr
      have c0 : I1 29 0 = nI (aW S n (pos S n k)) := by rw [hI1]; unfold rd; rw [ax_u_nj (by decide), ax_u_nj (by decide), ax_u_nj (by decide), ax_u_ss]
      have c1 : I1 29 1 = nI (aC S n (pos S n k)) := by rw [hI1]; unfold rd; rw [ax_u_nj (by decide), ax_u_nj (by decide), ax_u_ss]
      have c2 : I1 29 2 = nI (aQ S n (pos S n k)) := by rw [hI1]; unfold rd; rw [ax_u_nj (by decide), ax_u_ss]
      have c3 : I1 29 3 = nI (aP S n (pos S n k)) := by rw [hI1]; unfold rd; rw [ax_u_ss]
      have co : ∀ r j, r ≠ 29 → I1 r j = I r j := fun r j hr => by rw [hI1]; unfold rd; rw [ax_u_n hr, ax_u_n hr, ax_u_n hr, ax_u_n hr]
      have hC1 : CR I1 13 (yD S n D k) := CR_eq hY.1 (fun q j hq => co _ _ (by omega))
      have hy : F_X2_reasonAgainst I1 13 29 = some (nI (yWhy S n (yD S n D k) k)) := x_why hC1 hWk g1 g2 g3 g4 c0 c1 c2 c3
      have hle : yWhy S n (yD S n D k) k ≤ 7 := pWhy_le _ _ _ _ _
      have hne := hK.2.2 hka
      have e60 : ¬ (60 : Int32) ≤ nI k := nI_ge (a := k) (b := 60) (by omega) (by decide)
      have en : ¬ nI n ≤ nI (pos S n k) := nI_ge hp (by omega)
      rw [f_X5_live_9, if_neg e60, hP.1, if_neg en, xr, p_some, hy, p_some, if_neg (nI_ne0 (by omega) (by omega)), if_pos hka, if_pos hka]
      refine ⟨_, rfl, ⟨?_, ?_, ?_, ?_, ?_⟩, ?_, ?_, ?_⟩
      · exact CR_off (CR_off hC1 (by omega)) (by omega)
      · rw [ax_u_nj (by decide), ax_u_nj (by decide)]; exact (co 28 1 (by decide)).trans hY.2.1
      · rw [ax_u_nj (by decide), ax_u_nj (by decide)]; exact (co 28 4 (by decide)).trans hY.2.2.1
      · rw [ax_u_nj (by decide), ax_u_nj (by decide)]; exact (co 28 5 (by decide)).trans hY.2.2.2.1
      · rw [ax_u_nj (by decide), ax_u_nj (by decide)]; exact (co 28 6 (by decide)).trans hY.2.2.2.2
      · rw [ax_u_nj (by decide), ax_u_ss]; exact (co 28 1 (by decide)).trans hY.2.1
      · rw [ax_u_ss]
      · intro r j hr
        rw [ax_u_n (by omega), ax_u_n (by omega)]; exact co r j (by omega)
    · have ea : k = a := by have := hK.2.1; omega
      rw [if_neg hka, if_neg hka]
      have hpk : pos S n k = n := by rw [ea]; exact hpn
      have e : f_X5_live_9 13 (f + 1) I (nI (pos S n k)) (nI k) = some I := by
        rw [f_X5_live_9]
        by_cases e60 : (60 : Int32) ≤ nI k
        · rw [if_pos e60]
        · rw [if_neg e60, hP.1, hpk, if_pos (nI_le (Nat.le_refl n) (by omega))]
      exact ⟨I, e, hY, h2, h3, fun _ _ _ => rfl⟩
theorem x_years {S : Nat → Nat} {n : Nat} {D : pD} (hW : WF D) {K a : Nat} (hK : yS S n D K a) (hG : ∀ j, j < a → AG S n (pos S n j)) (hpn : pos S n a = n) {I : ax_I} (hP : PR I n S) (hC : CR I 13 D) : ∃ I', F_X5_live I 13 = some I' ∧ YX I' S n D K ∧ I' 28 2 = bA K a ∧ I' 28 3 = bW S n D K a ∧ FC I I' := by
  rw [F_X5_live, F_X5_clear, p_some]
  obtain ⟨I1, hI1⟩ : ∃ I1, I1 = ax_u (ax_u (ax_u (ax_u (ax_u (ax_u I 28 1 0) 28 2 (-6)) 28 3 (-6)) 28 4 0) 28 5 (-6)) 28 6 0 := ⟨_, rfl⟩
  rw [← hI1]
  have co : ∀ r j, r ≠ 28 → I1 r j = I r j := fun r j hr => by rw [hI1, ax_u_n hr, ax_u_n hr, ax_u_n hr, ax_u_n hr, ax_u_n hr, ax_u_n hr]
  have f0 : FC I I1 := fun r j hr => co r j (by omega)
  have hn := hP.2.2.1
  have ha : a ≤ 60 := by have := pos_ge S n a; omega
  have y0 : YX I1 S n D 0 := by
    refine ⟨CR_eq hC (fun q j hq => co _ _ (by omega)), ?_, ?_, ?_, ?_⟩
    · rw [hI1, ax_u_nj (by decide), ax_u_nj (by decide), ax_u_nj (by decide), ax_u_nj (by decide), ax_u_nj (by decide), ax_u_ss]; rfl
    · rw [hI1, ax_u_nj (by decide), ax_u_nj (by decide), ax_u_ss]; rfl
    · rw [hI1, ax_u_nj (by decide), ax_u_ss]; rfl
    · rw [hI1, ax_u_ss]; rfl
  have h2 : I1 28 2 = -6 := by rw [hI1, ax_u_nj (by decide), ax_u_nj (by decide), ax_u_nj (by decide), ax_u_nj (by decide), ax_u_ss]
  have h3 : I1 28 3 = -6 := by rw [hI1, ax_u_nj (by decide), ax_u_nj (by decide), ax_u_nj (by decide), ax_u_ss]
  obtain ⟨I', i1, i2, i3, i4, i5⟩ := x_years_l hW hK hG hpn ax_N K 0 I1 (by omega) (by have := hK.2.1; unfold ax_N; omega) (PR_FC hP f0) y0 h2 h3
  exact ⟨I', i1, i2, i3, i4, FC_tr f0 i5⟩
