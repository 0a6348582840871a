/-! ===== the beginning ===== -/
def tM (r j : Nat) : Int32 := if r = 40 then -6 else if r = 41 then 10 else if r = 42 then 10 else if r = 43 then 4095 else if r = 44 then 100 else if r = 45 then (if j = 0 then 2 else 1) else 0
def MP (I0 I : ax_I) (P : Nat → Nat → Prop) : Prop := (∀ r j, r < 36 → I r j = I0 r j) ∧ ∀ r j, P r j → I r j = tM r j
theorem mp_u {I0 I : ax_I} {P : Nat → Nat → Prop} (h : MP I0 I P) {r0 j0 : Nat} {x : Int32} (hr : 36 ≤ r0) (hx : x = tM r0 j0) : MP I0 (ax_u I r0 j0 x) (fun r j => P r j ∨ (r = r0 ∧ j = j0)) := by
  refine ⟨fun r j h1 => by rw [ax_u_n (by omega)]; exact h.1 r j h1, ?_⟩
  intro r j hj
  rw [ax_u_at]
  by_cases e : r = r0 ∧ j = j0
  · rw [if_pos e, e.1, e.2]; exact hx
  · rw [if_neg e]
    rcases hj with hj | hj
    · exact h.2 r j hj
    · exact absurd hj e
theorem mp_w {I0 I : ax_I} {P Q : Nat → Nat → Prop} (h : MP I0 I P) (hq : ∀ r j, Q r j → P r j) : MP I0 I Q := ⟨h.1, fun r j hj => h.2 r j (hq r j hj)⟩
def mZ (r : Nat) : Prop := (36 ≤ r ∧ r ≤ 39) ∨ (46 ≤ r ∧ r ≤ 60)
def mA (r j : Nat) : Prop := mZ r ∨ (r = 45 ∧ j < 3) ∨ ((r = 41 ∨ r = 42 ∨ r = 43) ∧ j < 6) ∨ (r = 40 ∧ j < 48) ∨ (r = 44 ∧ j < 4)
theorem jn287 {I0 : ax_I} {J : ax_J} : ∀ (f m : Nat) (I : ax_I), m ≤ 4 → m < f → MP I0 I (fun r j => mZ r ∨ (r = 45 ∧ j < 3) ∨ ((r = 41 ∨ r = 42 ∨ r = 43) ∧ j < 6) ∨ (r = 40 ∧ j < 48) ∨ (r = 44 ∧ j < 4 - m)) → ∃ I', f_X7_init_287 35 f I J (nI (4 - m)) = some (I', J) ∧ MP I0 I' mA
  | 0, m, I, _, h, _ => by omega
  | f + 1, 0, I, _, h, hN => by
    rw [f_X7_init_287, if_pos (by decide)]
    exact ⟨I, rfl, hN⟩
  | f + 1, m + 1, I, hm, h, hN => by
    have e5 : 4 - (m + 1) + 1 = 4 - m := by omega
    have hlt : 4 - (m + 1) < 4 := by omega
    obtain ⟨k, hk2⟩ : ∃ k, k = 4 - (m + 1) := ⟨_, rfl⟩
    rw [← hk2] at hlt e5 hN ⊢
    obtain ⟨I', h1, h2⟩ := jn287 (J := J) f m (ax_u I (35 + 9) k 100) (by omega) (by omega) (mp_w (mp_u hN (r0 := 35 + 9) (j0 := k) (x := 100) (by omega) rfl) (fun r j hj => by unfold mZ at hj ⊢; omega))
    refine ⟨I', ?_, h2⟩
    rw [f_X7_init_287, if_neg (show ¬ (4 : Int32) ≤ nI k from nI_ge (a := k) (b := 4) hlt (by decide)), if_pos (p_in hlt (by decide)), p_cl (by omega), nI_1, e5]
    exact h1
theorem jn265 {I0 : ax_I} {J : ax_J} : ∀ (f m : Nat) (I : ax_I), m ≤ 48 → m < f → MP I0 I (fun r j => mZ r ∨ (r = 45 ∧ j < 3) ∨ ((r = 41 ∨ r = 42 ∨ r = 43) ∧ j < 6) ∨ (r = 40 ∧ j < 48 - m)) → ∃ I', f_X7_init_265 35 f I J (nI (48 - m)) = some (I', J) ∧ MP I0 I' mA
  | 0, m, I, _, h, _ => by omega
  | f + 1, 0, I, _, h, hN => by
    rw [f_X7_init_265, if_pos (by decide)]
    exact jn287 ax_N 4 I (by decide) (by decide) (mp_w hN (fun r j hj => by unfold mZ at hj ⊢; omega))
  | f + 1, m + 1, I, hm, h, hN => by
    have e5 : 48 - (m + 1) + 1 = 48 - m := by omega
    have hlt : 48 - (m + 1) < 48 := by omega
    obtain ⟨k, hk2⟩ : ∃ k, k = 48 - (m + 1) := ⟨_, rfl⟩
    rw [← hk2] at hlt e5 hN ⊢
    obtain ⟨I', h1, h2⟩ := jn265 (J := J) f m (ax_u I (35 + 5) k (-6)) (by omega) (by omega) (mp_w (mp_u hN (r0 := 35 + 5) (j0 := k) (x := -6) (by omega) rfl) (fun r j hj => by unfold mZ at hj ⊢; omega))
    refine ⟨I', ?_, h2⟩
    rw [f_X7_init_265, if_neg (show ¬ (48 : Int32) ≤ nI k from nI_ge (a := k) (b := 48) hlt (by decide)), if_pos (p_in hlt (by decide)), p_cl (by omega), nI_1, e5]
    exact h1
theorem jn226 {I0 : ax_I} {J : ax_J} : ∀ (f m : Nat) (I : ax_I), m ≤ 6 → m < f → MP I0 I (fun r j => mZ r ∨ (r = 45 ∧ j < 3) ∨ ((r = 41 ∨ r = 42 ∨ r = 43) ∧ j < 6 - m)) → ∃ I', f_X7_init_226 35 f I J (nI (6 - m)) = some (I', J) ∧ MP I0 I' mA
  | 0, m, I, _, h, _ => by omega
  | f + 1, 0, I, _, h, hN => by
    rw [f_X7_init_226, if_pos (by decide)]
    exact jn265 ax_N 48 I (by decide) (by decide) (mp_w hN (fun r j hj => by unfold mZ at hj ⊢; omega))
  | f + 1, m + 1, I, hm, h, hN => by
    have e5 : 6 - (m + 1) + 1 = 6 - m := by omega
    have hlt : 6 - (m + 1) < 6 := by omega
    obtain ⟨k, hk2⟩ : ∃ k, k = 6 - (m + 1) := ⟨_, rfl⟩
    rw [← hk2] at hlt e5 hN ⊢
    obtain ⟨I', h1, h2⟩ := jn226 (J := J) f m (ax_u (ax_u (ax_u I (35 + 6) k 10) (35 + 7) k 10) (35 + 8) k 4095) (by omega) (by omega) (mp_w (mp_u (mp_u (mp_u hN (r0 := 35 + 6) (j0 := k) (x := 10) (by omega) rfl) (r0 := 35 + 7) (j0 := k) (x := 10) (by omega) rfl) (r0 := 35 + 8) (j0 := k) (x := 4095) (by omega) rfl) (fun r j hj => by unfold mZ at hj ⊢; omega))
    refine ⟨I', ?_, h2⟩
    have hi := p_in hlt (n := 6) (by decide)
    rw [f_X7_init_226, if_neg (show ¬ (6 : Int32) ≤ nI k from nI_ge (a := k) (b := 6) hlt (by decide)), if_pos hi, if_pos hi, if_pos hi, p_cl (by omega), nI_1, e5]
    exact h1
def Zr (I : ax_I) (hi : Nat) : Prop := ∀ r j, 36 ≤ r → r ≤ hi → I r j = 0
theorem zr {I : ax_I} {hi : Nat} (h : Zr I hi) : Zr (ax_r I (hi + 1) (fun _ => 0)) (hi + 1) := by
  intro r j h1 h2
  by_cases e : r = hi + 1
  · rw [e, ax_r_s]
  · rw [ax_r_n e]; exact h r j h1 (by omega)
def Po (I I' : ax_I) : Prop := (∀ r j, r < 36 → I' r j = I r j) ∧ ∀ r j, mA r j → I' r j = tM r j
theorem Po_r {I I' : ax_I} {k : Nat} {f : Nat → Int32} (hk : 36 ≤ k) (h : Po (ax_r I k f) I') : Po I I' := ⟨fun r j hr => (h.1 r j hr).trans (by rw [ax_r_n (by omega)]), h.2⟩
theorem Po_u {I I' : ax_I} {k c : Nat} {x : Int32} (hk : 36 ≤ k) (h : Po (ax_u I k c x) I') : Po I I' := ⟨fun r j hr => (h.1 r j hr).trans (by rw [ax_u_n (by omega)]), h.2⟩
theorem j193 (I : ax_I) (J : ax_J) (h : Zr I 59) : ∃ I' J', f_X7_init_193 35 I J = some (I', J') ∧ Po I I' := by
  have z0 : (0 : Int32).toNatClampNeg = 0 := by decide
  have z1 : (1 : Int32).toNatClampNeg = 1 := by decide
  have z2 : (2 : Int32).toNatClampNeg = 2 := by decide
  have hz := zr h
  obtain ⟨I1, hI1⟩ : ∃ I1, I1 = ax_r I (59 + 1) (fun _ => 0) := ⟨_, rfl⟩
  rw [← hI1] at hz
  have m0 : MP I1 I1 (fun r _ => mZ r) := ⟨fun _ _ _ => rfl, fun r j hr => by
    unfold mZ at hr
    rw [hz r j (by omega) (by omega)]
    unfold tM
    rw [if_neg (by omega), if_neg (by omega), if_neg (by omega), if_neg (by omega), if_neg (by omega), if_neg (by omega)]⟩
  obtain ⟨I', h1, h2⟩ := jn226 (J := ax_rJ J (35 + 25) (fun _ => 0)) ax_N 6 (ax_u (ax_u (ax_u I1 (35 + 10) 0 2) (35 + 10) 1 1) (35 + 10) 2 1) (by decide) (by decide) (mp_w (mp_u (mp_u (mp_u m0 (r0 := 35 + 10) (j0 := 0) (x := 2) (by omega) rfl) (r0 := 35 + 10) (j0 := 1) (x := 1) (by omega) rfl) (r0 := 35 + 10) (j0 := 2) (x := 1) (by omega) rfl) (fun r j hj => by unfold mZ at hj ⊢; omega))
  refine ⟨I', ax_rJ J (35 + 25) (fun _ => 0), ?_, Po_r (k := 59 + 1) (f := fun _ => 0) (by omega) ?_⟩
  · rw [f_X7_init_193, f_X7_init_217, z0, z1, z2]
    rw [hI1] at h1
    exact h1
  · rw [← hI1]; exact ⟨h2.1, h2.2⟩
theorem j159 (I : ax_I) (J : ax_J) (h : Zr I 55) : ∃ I' J', f_X7_init_159 35 I J = some (I', J') ∧ Po I I' := by
  obtain ⟨I', J', h1, h2⟩ := j193 _ (ax_rJ (ax_rJ (ax_rJ (ax_rJ J (35 + 21) (fun _ => 0)) (35 + 22) (fun _ => 0)) (35 + 23) (fun _ => 0)) (35 + 24) (fun _ => 0)) (zr (zr (zr (zr h))))
  exact ⟨I', J', h1, Po_r (by decide) (Po_r (by decide) (Po_r (by decide) (Po_r (by decide) h2)))⟩
theorem j127 (I : ax_I) (J : ax_J) (h : Zr I 51) : ∃ I' J', f_X7_init_127 35 I J = some (I', J') ∧ Po I I' := by
  obtain ⟨I', J', h1, h2⟩ := j159 _ (ax_rJ (ax_rJ (ax_rJ (ax_rJ J (35 + 17) (fun _ => 0)) (35 + 18) (fun _ => 0)) (35 + 19) (fun _ => 0)) (35 + 20) (fun _ => 0)) (zr (zr (zr (zr h))))
  exact ⟨I', J', h1, Po_r (by decide) (Po_r (by decide) (Po_r (by decide) (Po_r (by decide) h2)))⟩
theorem j95 (I : ax_I) (J : ax_J) (h : Zr I 47) : ∃ I' J', f_X7_init_95 35 I J = some (I', J') ∧ Po I I' := by
  obtain ⟨I', J', h1, h2⟩ := j127 _ (ax_rJ (ax_rJ (ax_rJ (ax_rJ J (35 + 13) (fun _ => 0)) (35 + 14) (fun _ => 0)) (35 + 15) (fun _ => 0)) (35 + 16) (fun _ => 0)) (zr (zr (zr (zr h))))
  exact ⟨I', J', h1, Po_r (by decide) (Po_r (by decide) (Po_r (by decide) (Po_r (by decide) h2)))⟩
theorem j65 (I : ax_I) (J : ax_J) (h : Zr I 43) : ∃ I' J', f_X7_init_65 35 I J = some (I', J') ∧ Po I I' := by
  obtain ⟨I', J', h1, h2⟩ := j95 _ (ax_rJ (ax_rJ (ax_rJ (ax_rJ J (35 + 9) (fun _ => 0)) (35 + 10) (fun _ => 0)) (35 + 11) (fun _ => 0)) (35 + 12) (fun _ => 0)) (zr (zr (zr (zr h))))
  exact ⟨I', J', h1, Po_r (by decide) (Po_r (by decide) (Po_r (by decide) (Po_r (by decide) h2)))⟩
theorem j33 (I : ax_I) (J : ax_J) (h : Zr I 39) : ∃ I' J', f_X7_init_33 35 I J = some (I', J') ∧ Po I I' := by
  obtain ⟨I', J', h1, h2⟩ := j65 _ (ax_rJ (ax_rJ (ax_rJ (ax_rJ J (35 + 5) (fun _ => 0)) (35 + 6) (fun _ => 0)) (35 + 7) (fun _ => 0)) (35 + 8) (fun _ => 0)) (zr (zr (zr (zr h))))
  exact ⟨I', J', h1, Po_r (by decide) (Po_r (by decide) (Po_r (by decide) (Po_r (by decide) h2)))⟩
theorem m_init (I : ax_I) (J : ax_J) : ∃ I' J', F_X7_init I J 35 = some (I', J') ∧ Po I I' := by
  have h : Zr I 35 := fun r j h1 h2 => by omega
  obtain ⟨I', J', h1, h2⟩ := j33 _ (ax_rJ (ax_rJ (ax_rJ (ax_rJ J (35 + 1) (fun _ => 0)) (35 + 2) (fun _ => 0)) (35 + 3) (fun _ => 0)) (35 + 4) (fun _ => 0)) (zr (zr (zr (zr h))))
  exact ⟨I', J', h1, Po_r (by decide) (Po_r (by decide) (Po_r (by decide) (Po_r (by decide) h2)))⟩
theorem MR_init {I I' : ax_I} (h : Po I I') (hz : ∀ j, I 35 j = 0) : MR I' D0 := by
  have z : ∀ j, I' 35 j = 0 := fun j => (h.1 35 j (by decide)).trans (hz j)
  have g := h.2
  refine ⟨z 0, z 1, z 16, ?_, ?_, ?_, ?_, ?_, ?_, ?_, ?_, ?_, ?_, ?_, ?_, ?_, ?_⟩
  · exact fun j hj => g 36 j (by unfold mA mZ; omega)
  · exact fun j hj => g 37 j (by unfold mA mZ; omega)
  · exact fun j hj => g 38 j (by unfold mA mZ; omega)
  · intro j hj
    have e : D0 0 3 / 2 ^ j % 2 = 0 := by
      show 0 / 2 ^ j % 2 = 0
      rw [Nat.zero_div]
    rw [e]
    exact g 39 j (by unfold mA mZ; omega)
  · exact fun j hj => g 40 j (by unfold mA mZ; omega)
  · exact fun j hj => g 41 j (by unfold mA mZ; omega)
  · exact fun j hj => g 42 j (by unfold mA mZ; omega)
  · exact fun j hj => g 43 j (by unfold mA mZ; omega)
  · exact fun j hj => g 44 j (by unfold mA mZ; omega)
  · intro j hj
    refine (g 45 j (by unfold mA mZ; omega)).trans ?_
    show (if j = 0 then (2 : Int32) else 1) = nI (if j = 0 then 2 else 1)
    split <;> rfl
  · exact fun j hj => g 46 j (by unfold mA mZ; omega)
  · intro j hj; exact absurd hj (by show ¬ j < 0; omega)
  · intro j hj; exact absurd hj (by show ¬ j < 0; omega)
  · intro j hj; exact absurd hj (by show ¬ j < 0; omega)
theorem x6_init (I : ax_I) (J : ax_J) : ∃ I1 J1, F_X6_init I J 0 = some (I1, J1) ∧ CR I1 1 D0 ∧ I1 26 1 = 0 := by
  obtain ⟨Ia, Ja, a1, a2⟩ := x_init (ax_r I (0 + 1) (fun _ => 0)) J (0 + 1)
  obtain ⟨Ib, Jb, b1, b2⟩ := x_init (ax_r Ia (0 + 13) (fun _ => 0)) Ja (0 + 13)
  have ca : CR Ia 1 D0 := CR_init a2 (fun j => by rw [ax_r_s])
  have cb : CR Ib 1 D0 := CR_eq ca (fun q j hq => (b2.1 _ j (by omega)).trans (by rw [ax_r_n (by omega)]))
  refine ⟨ax_r (ax_r (ax_r (ax_r (ax_r (ax_r (ax_r (ax_r (ax_r Ib (0 + 26) (fun _ => 0)) (0 + 26 + 1) (fun _ => 0)) (0 + 28) (fun _ => 0)) (0 + 28 + 1) (fun _ => 0)) (0 + 30) (fun _ => 0)) (0 + 31) (fun _ => 0)) (0 + 31 + 1) (fun _ => 0)) (0 + 33) (fun _ => 0)) (0 + 33 + 1) (fun _ => 0), ax_rJ (ax_rJ (ax_rJ Jb (0 + 26 + 1) (fun _ => 0)) (0 + 31 + 1) (fun _ => 0)) (0 + 33 + 1) (fun _ => 0), ?_, ?_, ?_⟩
  · rw [F_X6_init, a1, p_some, b1, p_some, F_X4_init, p_some, F_X5_init, F_X0_init, p_some, p_some, F_X0_init, p_some, F_X1_init, p_some, F_X3_init, p_some]
  · refine CR_eq cb (fun q j hq => ?_)
    rw [ax_r_n (by omega), ax_r_n (by omega), ax_r_n (by omega), ax_r_n (by omega), ax_r_n (by omega), ax_r_n (by omega), ax_r_n (by omega), ax_r_n (by omega), ax_r_n (by omega)]
  · rw [ax_r_n (by omega), ax_r_n (by omega), ax_r_n (by omega), ax_r_n (by omega), ax_r_n (by omega), ax_r_n (by omega), ax_r_n (by omega), ax_r_n (by omega), ax_r_s]
theorem start (B : Nat) (I : ax_I) (J : ax_J) : ∃ (I1 : ax_I) (J1 : ax_J) (I2 : ax_I) (J2 : ax_J), F_X6_init (ax_r I (0 + 0) (fun _ => 0)) J (0 + 0) = some (I1, J1) ∧ F_X7_init (ax_r I1 (0 + 35) (fun _ => 0)) J1 (0 + 35) = some (I2, J2) ∧ Inv B (ax_L B (fun _ => none)) I2 J2 := by
  obtain ⟨I1, J1, x1, x2, x3⟩ := x6_init (ax_r I (0 + 0) (fun _ => 0)) J
  obtain ⟨I2, J2, y1, y2⟩ := m_init (ax_r I1 (0 + 35) (fun _ => 0)) J1
  have f : ∀ r j, r < 35 → I2 r j = I1 r j := fun r j hr => (y2.1 r j (by omega)).trans (by rw [ax_r_n (by omega)])
  have z35 : ∀ j, I2 35 j = 0 := fun j => (y2.1 35 j (by decide)).trans (by rw [ax_r_s])
  refine ⟨I1, J1, I2, J2, x1, y1, fun _ => none, [], D0, 0, fun _ => 0, ?_, rfl, rfl, ?_, ?_, WF_0, ?_, ?_⟩
  · rw [List.append_nil]
  · exact CR_eq x2 (fun q j hq => f _ j (by omega))
  · exact MR_init y2 (fun j => by rw [ax_r_s])
  · refine ⟨?_, ?_, by decide, fun j hj => absurd hj (by omega), fun j hj => absurd hj (by omega), fun j hj => absurd hj (by omega)⟩
    · rw [f 26 1 (by decide), x3]; rfl
    · exact z35 18
  · refine ⟨fun k hk => Or.inl ⟨rfl, ?_⟩, fun b0 b1 h0 => by cases h0⟩
    exact y2.2 60 k (by unfold mA mZ; omega)
