/-! ===== a new Diocese ===== -/
def tv (q j : Nat) : Nat := if q = 5 then 10 else if q = 6 then 10 else if q = 7 then 4095 else if q = 8 then 100 else if q = 9 then (if j = 0 then 2 else 1) else 0
def tI (q j : Nat) : Int32 := if q = 4 then -6 else nI (tv q j)
def NP (I0 I : ax_I) (b : Nat) (P : Nat → Nat → Prop) : Prop := (∀ r j, (r < b + 1 ∨ b + 11 < r) → I r j = I0 r j) ∧ ∀ q j, P q j → I (b + q) j = tI q j
theorem np_u {I0 I : ax_I} {b : Nat} {P : Nat → Nat → Prop} (h : NP I0 I b P) {q0 j0 : Nat} {x : Int32} (hq : 1 ≤ q0 ∧ q0 ≤ 11) (hx : x = tI q0 j0) : NP I0 (ax_u I (b + q0) j0 x) b (fun q j => P q j ∨ (q = q0 ∧ j = j0)) := by
  refine ⟨fun r j hr => by rw [ax_u_n (by omega)]; exact h.1 r j hr, ?_⟩
  intro q j hj
  rw [ax_u_at]
  by_cases e : q = q0 ∧ j = j0
  · rw [if_pos ⟨by omega, e.2⟩, e.1, e.2]; exact hx
  · rw [if_neg (by omega)]
    rcases hj with hj | hj
    · exact h.2 q j hj
    · exact absurd hj e
theorem np_w {I0 I : ax_I} {b : Nat} {P Q : Nat → Nat → Prop} (h : NP I0 I b P) (hq : ∀ q j, Q q j → P q j) : NP I0 I b Q := ⟨h.1, fun q j hj => h.2 q j (hq q j hj)⟩
def nZ (q : Nat) : Prop := q = 1 ∨ q = 2 ∨ q = 3 ∨ q = 10 ∨ q = 11
def nA (q j : Nat) : Prop := nZ q ∨ ((q = 5 ∨ q = 6 ∨ q = 7) ∧ j < 6) ∨ (q = 4 ∧ j < 48) ∨ (q = 8 ∧ j < 4) ∨ (q = 9 ∧ j < 3)
theorem in153 {I0 : ax_I} {b : Nat} {J : ax_J} : ∀ (f m : Nat) (I : ax_I), m ≤ 4 → m < f → NP I0 I b (fun q j => nZ q ∨ ((q = 5 ∨ q = 6 ∨ q = 7) ∧ j < 6) ∨ (q = 4 ∧ j < 48) ∨ (q = 8 ∧ j < 4 - m)) → ∃ I', f_X2_init_153 b f I J (nI (4 - m)) = some (I', J) ∧ NP I0 I' b nA
  | 0, m, I, _, h, _ => by omega
  | f + 1, 0, I, _, h, hN => by
    have z0 : (0 : Int32).toNatClampNeg = 0 := by decide
    have z1 : (1 : Int32).toNatClampNeg = 1 := by decide
    have z2 : (2 : Int32).toNatClampNeg = 2 := by decide
    rw [f_X2_init_153, if_pos (by decide), f_X2_init_193, z0, z1, z2]
    refine ⟨_, rfl, np_w (np_u (np_u (np_u hN (q0 := 9) (j0 := 0) (x := 2) (by omega) rfl) (q0 := 9) (j0 := 1) (x := 1) (by omega) rfl) (q0 := 9) (j0 := 2) (x := 1) (by omega) rfl) (fun q j hj => ?_)⟩
    unfold nA nZ at hj
    unfold nZ
    omega
  | f + 1, m + 1, I, hm, h, hN => by
    have e5 : 4 - (m + 1) + 1 = 4 - m := by omega
    have hlt : 4 - (m + 1) < 4 := by omega
    obtain ⟨k, hk2⟩ : ∃ k, k = 4 - (m + 1) := ⟨_, rfl⟩
    rw [← hk2] at hlt e5 hN ⊢
    obtain ⟨I', h1, h2⟩ := in153 (J := J) f m (ax_u I (b + 8) k 100) (by omega) (by omega) (np_w (np_u hN (q0 := 8) (j0 := k) (x := 100) (by omega) rfl) (fun q j hj => by unfold nZ at hj ⊢; omega))
    refine ⟨I', ?_, h2⟩
    rw [f_X2_init_153, if_neg (show ¬ (4 : Int32) ≤ nI k from nI_ge (a := k) (b := 4) hlt (by decide)), if_pos (p_in hlt (by decide)), p_cl (by omega), nI_1, e5]
    exact h1
theorem in131 {I0 : ax_I} {b : Nat} {J : ax_J} : ∀ (f m : Nat) (I : ax_I), m ≤ 48 → m < f → NP I0 I b (fun q j => nZ q ∨ ((q = 5 ∨ q = 6 ∨ q = 7) ∧ j < 6) ∨ (q = 4 ∧ j < 48 - m)) → ∃ I', f_X2_init_131 b f I J (nI (48 - m)) = some (I', J) ∧ NP I0 I' b nA
  | 0, m, I, _, h, _ => by omega
  | f + 1, 0, I, _, h, hN => by
    rw [f_X2_init_131, if_pos (by decide)]
    exact in153 ax_N 4 I (by decide) (by decide) (np_w hN (fun q j hj => by unfold nZ at hj ⊢; omega))
  | f + 1, m + 1, I, hm, h, hN => by
    have e5 : 48 - (m + 1) + 1 = 48 - m := by omega
    have hlt : 48 - (m + 1) < 48 := by omega
    obtain ⟨k, hk2⟩ : ∃ k, k = 48 - (m + 1) := ⟨_, rfl⟩
    rw [← hk2] at hlt e5 hN ⊢
    obtain ⟨I', h1, h2⟩ := in131 (J := J) f m (ax_u I (b + 4) k (-6)) (by omega) (by omega) (np_w (np_u hN (q0 := 4) (j0 := k) (x := -6) (by omega) rfl) (fun q j hj => by unfold nZ at hj ⊢; omega))
    refine ⟨I', ?_, h2⟩
    rw [f_X2_init_131, if_neg (show ¬ (48 : Int32) ≤ nI k from nI_ge (a := k) (b := 48) hlt (by decide)), if_pos (p_in hlt (by decide)), p_cl (by omega), nI_1, e5]
    exact h1
theorem in92 {I0 : ax_I} {b : Nat} {J : ax_J} : ∀ (f m : Nat) (I : ax_I), m ≤ 6 → m < f → NP I0 I b (fun q j => nZ q ∨ ((q = 5 ∨ q = 6 ∨ q = 7) ∧ j < 6 - m)) → ∃ I', f_X2_init_92 b f I J (nI (6 - m)) = some (I', J) ∧ NP I0 I' b nA
  | 0, m, I, _, h, _ => by omega
  | f + 1, 0, I, _, h, hN => by
    rw [f_X2_init_92, if_pos (by decide)]
    exact in131 ax_N 48 I (by decide) (by decide) (np_w hN (fun q j hj => by unfold nZ at hj ⊢; omega))
  | f + 1, m + 1, I, hm, h, hN => by
    have e5 : 6 - (m + 1) + 1 = 6 - m := by omega
    have hlt : 6 - (m + 1) < 6 := by omega
    obtain ⟨k, hk2⟩ : ∃ k, k = 6 - (m + 1) := ⟨_, rfl⟩
    rw [← hk2] at hlt e5 hN ⊢
    obtain ⟨I', h1, h2⟩ := in92 (J := J) f m (ax_u (ax_u (ax_u I (b + 5) k 10) (b + 6) k 10) (b + 7) k 4095) (by omega) (by omega) (np_w (np_u (np_u (np_u hN (q0 := 5) (j0 := k) (x := 10) (by omega) rfl) (q0 := 6) (j0 := k) (x := 10) (by omega) rfl) (q0 := 7) (j0 := k) (x := 4095) (by omega) rfl) (fun q j hj => by unfold nZ at hj ⊢; omega))
    refine ⟨I', ?_, h2⟩
    have hi := p_in hlt (n := 6) (by decide)
    rw [f_X2_init_92, if_neg (show ¬ (6 : Int32) ≤ nI k from nI_ge (a := k) (b := 6) hlt (by decide)), if_pos hi, if_pos hi, if_pos hi, p_cl (by omega), nI_1, e5]
    exact h1
/-- the table at the beginning -/
def D0 : pD := fun r j => if r = 6 then 10 else if r = 7 then 10 else if r = 8 then 4095 else if r = 9 then 100 else if r = 10 then (if j = 0 then 2 else 1) else 0
theorem x_init (I : ax_I) (J : ax_J) (b : Nat) : ∃ I1 J1, F_X2_init I J b = some (I1, J1) ∧ NP I I1 b nA := by
  rw [F_X2_init, f_X2_init_33, f_X2_init_64]
  generalize (ax_rJ (ax_rJ (ax_rJ (ax_rJ (ax_rJ (ax_rJ (ax_rJ (ax_rJ (ax_rJ (ax_rJ (ax_rJ J (b + 1) (fun _ => 0)) (b + 2) (fun _ => 0)) (b + 3) (fun _ => 0)) (b + 4) (fun _ => 0)) (b + 5) (fun _ => 0)) (b + 6) (fun _ => 0)) (b + 7) (fun _ => 0)) (b + 8) (fun _ => 0)) (b + 9) (fun _ => 0)) (b + 10) (fun _ => 0)) (b + 11) (fun _ => 0)) = J1
  have hN : NP I (ax_r (ax_r (ax_r (ax_r (ax_r (ax_r (ax_r (ax_r (ax_r (ax_r (ax_r I (b + 1) (fun _ => 0)) (b + 2) (fun _ => 0)) (b + 3) (fun _ => 0)) (b + 4) (fun _ => 0)) (b + 5) (fun _ => 0)) (b + 6) (fun _ => 0)) (b + 7) (fun _ => 0)) (b + 8) (fun _ => 0)) (b + 9) (fun _ => 0)) (b + 10) (fun _ => 0)) (b + 11) (fun _ => 0)) b (fun q j => nZ q ∨ ((q = 5 ∨ q = 6 ∨ q = 7) ∧ j < 6 - 6)) := by
    refine ⟨fun r j hr => ?_, fun q j hj => ?_⟩
    · rw [ax_r_n (by omega), ax_r_n (by omega), ax_r_n (by omega), ax_r_n (by omega), ax_r_n (by omega), ax_r_n (by omega), ax_r_n (by omega), ax_r_n (by omega), ax_r_n (by omega), ax_r_n (by omega), ax_r_n (by omega)]
    · rcases hj with h | h
      · rcases h with rfl | rfl | rfl | rfl | rfl
        · rw [ax_r_n (by omega), ax_r_n (by omega), ax_r_n (by omega), ax_r_n (by omega), ax_r_n (by omega), ax_r_n (by omega), ax_r_n (by omega), ax_r_n (by omega), ax_r_n (by omega), ax_r_n (by omega), ax_r_s]; rfl
        · rw [ax_r_n (by omega), ax_r_n (by omega), ax_r_n (by omega), ax_r_n (by omega), ax_r_n (by omega), ax_r_n (by omega), ax_r_n (by omega), ax_r_n (by omega), ax_r_n (by omega), ax_r_s]; rfl
        · rw [ax_r_n (by omega), ax_r_n (by omega), ax_r_n (by omega), ax_r_n (by omega), ax_r_n (by omega), ax_r_n (by omega), ax_r_n (by omega), ax_r_n (by omega), ax_r_s]; rfl
        · rw [ax_r_n (by omega), ax_r_s]; rfl
        · rw [ax_r_s]; rfl
      · omega
  obtain ⟨I', h1, h2⟩ := in92 (J := J1) ax_N 6 _ (by decide) (by decide) hN
  exact ⟨I', J1, h1, h2⟩
theorem CR_init {I I1 : ax_I} {b : Nat} (h : NP I I1 b nA) (hz : ∀ j, I b j = 0) : CR I1 b D0 := by
  have z : ∀ j, I1 b j = 0 := fun j => (h.1 b j (by omega)).trans (hz j)
  have g := h.2
  refine ⟨z 0, z 1, z 2, z 3, z 4, ?_, ?_, ?_, ?_, ?_, ?_, ?_, ?_, ?_, ?_, ?_⟩
  · exact fun j hj => g 1 j (by unfold nA nZ; omega)
  · exact fun j hj => g 2 j (by unfold nA nZ; omega)
  · exact fun j hj => g 3 j (by unfold nA nZ; omega)
  · exact fun j hj => g 4 j (by unfold nA nZ; omega)
  · exact fun j hj => g 5 j (by unfold nA nZ; omega)
  · exact fun j hj => g 6 j (by unfold nA nZ; omega)
  · exact fun j hj => g 7 j (by unfold nA nZ; omega)
  · exact fun j hj => g 8 j (by unfold nA nZ; omega)
  · exact fun j hj => g 9 j (by unfold nA nZ; omega)
  · exact fun j hj => g 10 j (by unfold nA nZ; omega)
  · intro j hj
    exact absurd hj (by show ¬ j < 0; omega)
theorem WF_0 : WF D0 := by
  refine ⟨by decide, by decide, by decide, by decide, by decide, ?_, ?_, ?_, ?_, ?_, ?_, ?_, ?_, ?_, ?_, ?_, ?_⟩
  · intro j _; exact Nat.zero_le _
  · intro j _; exact Nat.zero_le _
  · intro j _; exact Nat.zero_le _
  · intro j _; exact Nat.zero_le _
  · intro j _; show 10 ≤ 99; decide
  · intro j _; show 10 ≤ 999; decide
  · intro j _; show 4095 ≤ 4095; decide
  · intro j _; show 100 ≤ 999; decide
  · intro j _; show (if j = 0 then 2 else 1) ≤ 9; split <;> omega
  · intro j _; exact Nat.zero_le _
  · intro j _; exact Nat.zero_le _
  · intro j _; exact Nat.zero_le _
/-! ===== image ===== -/
theorem KR_eq {I I2 : ax_I} {k : Nat} {D : pD} (hW : WF D) (h : KR I k D) (e : ∀ x, x < 132 → I2 59 (160 * k + x) = I 59 (160 * k + x)) : KR I2 k D := by
  have h8 := hW.2.2.1
  have g : ∀ o n, o + n ≤ 132 → ∀ j, j < n → I2 59 (160 * k + o + j) = I 59 (160 * k + o + j) := fun o n ho j hj => by
    rw [Nat.add_assoc]; exact e (o + j) (by omega)
  obtain ⟨k0, k1, k2, m1, m2, m3, m4, m5, m6, m7, m8, m9, m10, m11, m12, m13, m14⟩ := h
  refine ⟨(e 0 (by decide)).trans k0, (e 1 (by decide)).trans k1, (e 2 (by decide)).trans k2, ?_, ?_, ?_, ?_, ?_, ?_, ?_, ?_, ?_, ?_, ?_, ?_, ?_, ?_⟩
  · exact fun j hj => (g 3 6 (by decide) j (by omega)).trans (m1 j hj)
  · exact fun j hj => (g 9 6 (by decide) j (by omega)).trans (m2 j hj)
  · exact fun j hj => (g 15 6 (by decide) j (by omega)).trans (m3 j hj)
  · exact fun j hj => (g 21 6 (by decide) j (by omega)).trans (m4 j hj)
  · exact fun j hj => (g 27 48 (by decide) j (by omega)).trans (m5 j hj)
  · exact fun j hj => (g 75 6 (by decide) j (by omega)).trans (m6 j hj)
  · exact fun j hj => (g 81 6 (by decide) j (by omega)).trans (m7 j hj)
  · exact fun j hj => (g 87 6 (by decide) j (by omega)).trans (m8 j hj)
  · exact fun j hj => (g 93 4 (by decide) j (by omega)).trans (m9 j hj)
  · exact fun j hj => (g 97 3 (by decide) j (by omega)).trans (m10 j hj)
  · exact fun j hj => (g 100 8 (by decide) j (by omega)).trans (m11 j hj)
  · exact fun j hj => (g 108 8 (by decide) j (by omega)).trans (m12 j hj)
  · exact fun j hj => (g 116 8 (by decide) j (by omega)).trans (m13 j hj)
  · exact fun j hj => (g 124 8 (by decide) j (by omega)).trans (m14 j hj)
theorem m_img {I : ax_I} {D : pD} (hM : MR I D) (hW : WF D) {k : Nat} (hk : k ≤ 1) : ∃ I5, F_X7_image I (nI k) = some (1, I5) ∧ KR I5 k D ∧ MR I5 D ∧ I5 60 k = 1 ∧ (∀ r j, r ≠ 35 → r ≠ 59 → r ≠ 60 → I5 r j = I r j) ∧ (∀ j, j ≠ 36 → j ≠ 37 → I5 35 j = I 35 j) ∧ (∀ j, j ≠ k → I5 60 j = I 60 j) ∧ ∀ j, (j < 160 * k ∨ 160 * k + 132 ≤ j) → I5 59 j = I 59 j := by
  have n1 : ¬ (1 : Int32) = 0 := by decide
  have hK : (0 : Int32) ≤ nI k ∧ nI k ≤ 1 := p_rngT hk (by decide)
  have hin : ax_in (nI k) 2 = true := p_in (by omega) (by decide)
  have hcl : (nI k).toNatClampNeg = k := p_cl (by omega)
  have m1 : F_X7_in I (nI k).toInt64 0 1 = some 1 := p_mT 0 1 hK rfl rfl
  obtain ⟨I3, hI3⟩ : ∃ I3, I3 = ax_u (ax_u I 35 36 (nI (160 * k))) 35 37 1 := ⟨_, rfl⟩
  have w0 : I3 35 37 = 1 := by rw [hI3, ax_u_ss]
  have w1 : I3 35 36 = nI (160 * k) := by rw [hI3, ax_u_nj (by decide), ax_u_ss]
  have w2 : ∀ r j, r ≠ 35 → I3 r j = I r j := fun r j h => by rw [hI3, ax_u_n h, ax_u_n h]
  have w3 : ∀ j, j ≠ 36 → j ≠ 37 → I3 35 j = I 35 j := fun j h1 h2 => by rw [hI3, ax_u_nj h2, ax_u_nj h1]
  have hM3 : MR I3 D := MR_eq hM (fun r j q1 q2 => w2 r j (by omega)) (w3 0 (by decide) (by decide)) (w3 1 (by decide) (by decide)) (w3 16 (by decide) (by decide))
  obtain ⟨I4, hA, hS⟩ := all_w w0 w1 (by omega)
  have hKR := KR_w hS hM3 hW
  have r4 : ∀ r j, r ≠ 35 → r ≠ 59 → I4 r j = I r j := fun r j h1 h2 => (hS.1 r j h2 (by omega)).trans (w2 r j h1)
  have j4 : ∀ j, j ≠ 36 → j ≠ 37 → I4 35 j = I 35 j := fun j h1 h2 => (hS.1 35 j (by decide) (by omega)).trans (w3 j h1 h2)
  refine ⟨ax_u I4 60 k 1, ?_, ?_, ?_, ?_, ?_, ?_, ?_, ?_⟩
  · rw [F_X7_image, m1, p_some, if_neg n1, show 160 * nI k = nI (160 * k) from pk_mul 160 k, ← hI3, hA, p_some, if_pos hin, hcl]
    rfl
  · exact KR_eq hW hKR (fun x _ => by rw [ax_u_n (by decide)])
  · exact MR_eq hM (fun r j q1 q2 => by rw [ax_u_n (by omega)]; exact r4 r j (by omega) (by omega)) (by rw [ax_u_n (by decide)]; exact j4 0 (by decide) (by decide)) (by rw [ax_u_n (by decide)]; exact j4 1 (by decide) (by decide)) (by rw [ax_u_n (by decide)]; exact j4 16 (by decide) (by decide))
  · rw [ax_u_ss]
  · intro r j h1 h2 h3
    rw [ax_u_n h3]; exact r4 r j h1 h2
  · intro j h1 h2
    rw [ax_u_n (by decide)]; exact j4 j h1 h2
  · intro j h1
    rw [ax_u_nj h1]; exact r4 60 j (by decide) (by decide)
  · intro j h1
    rw [ax_u_n (by decide), hS.2.2.2 j h1]; exact w2 59 j (by decide)
theorem va_up_s {α : Type} (f : Nat → α) (k : Nat) (v : α) : va_up f k v k = v := if_pos rfl
theorem va_up_n {α : Type} {f : Nat → α} {k j : Nat} {v : α} (h : j ≠ k) : va_up f k v j = f j := if_neg h
/-- the images behind image(k): at b now D -/
theorem Im_img {B : Nat} {lay lay2 : List ax_S} {g g2 : Nat → Option Nat} {I I5 : ax_I} {D : pD} {k b : Nat} (hk : k ≤ 1) (hIm : Im B lay g I) (hW : WF D) (hb : 61 ≤ b) (hbl : b + 12 ≤ lay2.length) (hD : ax_Dio B lay2 b) (hC : CR I5 b D) (hK : KR I5 k D) (h60 : I5 60 k = 1) (hg : g2 k = some (B + b)) (hgo : ∀ k', k' ≠ k → g2 k' = g k') (hll : lay.length ≤ lay2.length) (hdio : ∀ b', 61 ≤ b' → b' + 12 ≤ lay.length → ax_Dio B lay b' → ax_Dio B lay2 b') (hdis : ∀ k' b', k' < 2 → k' ≠ k → g k' = some (B + b') → b' + 12 ≤ lay.length → b' + 12 ≤ b ∨ b + 12 ≤ b') (fr : ∀ r j, 61 ≤ r → (r < b ∨ b + 11 < r) → I5 r j = I r j) (f60 : ∀ j, j ≠ k → I5 60 j = I 60 j) (f59 : ∀ j, (j < 160 * k ∨ 160 * k + 132 ≤ j) → I5 59 j = I 59 j) : Im B lay2 g2 I5 := by
  have old : ∀ k', k' < 2 → k' ≠ k → (g k' = none ∧ I 60 k' = 0) ∨ ∃ (b' : Nat) (D' : pD), g k' = some (B + b') ∧ 61 ≤ b' ∧ b' + 12 ≤ lay.length ∧ ax_Dio B lay b' ∧ CR I b' D' ∧ KR I k' D' ∧ WF D' ∧ I 60 k' = 1 := fun k' h _ => hIm.1 k' h
  have dis2 : ∀ k' b', k' < 2 → k' ≠ k → g2 k' = some (B + b') → b' + 12 ≤ b ∨ b + 12 ≤ b' := by
    intro k' b' h1 h2 h3
    rw [hgo k' h2] at h3
    rcases old k' h1 h2 with ⟨q, -⟩ | ⟨b0, D', q1, q2, q3, -⟩
    · rw [q] at h3; cases h3
    · have : b' = b0 := by
        rw [q1] at h3
        have := Option.some.inj h3
        omega
      subst this
      exact hdis k' b' h1 h2 q1 q3
  refine ⟨fun k' hk' => ?_, fun b0 b1 h0 h1 => ?_⟩
  · by_cases e : k' = k
    · subst e
      exact Or.inr ⟨b, D, hg, hb, hbl, hD, hC, hK, hW, h60⟩
    · rcases old k' hk' e with ⟨q1, q2⟩ | ⟨b', D', q1, q2, q3, q4, q5, q6, q7, q8⟩
      · exact Or.inl ⟨(hgo k' e).trans q1, (f60 k' e).trans q2⟩
      · have hd := hdis k' b' hk' e q1 q3
        refine Or.inr ⟨b', D', (hgo k' e).trans q1, q2, by omega, hdio b' q2 q3 q4, CR_eq q5 (fun q j hq => fr _ _ (by omega) (by omega)), KR_eq q7 q6 (fun x hx => f59 _ (by omega)), q7, (f60 k' e).trans q8⟩
  · rcases (show k = 0 ∨ k = 1 by omega) with rfl | rfl
    · have e0 : b0 = b := by
        rw [hg] at h0
        have := Option.some.inj h0
        omega
      subst e0
      rcases dis2 1 b1 (by decide) (by decide) h1 with q | q
      · exact Or.inr q
      · exact Or.inl q
    · have e1 : b1 = b := by
        rw [hg] at h1
        have := Option.some.inj h1
        omega
      subst e1
      exact dis2 0 b0 (by decide) (by decide) h0
theorem gc_up {g : Nat → Option Nat} {k a : Nat} (hk : k ≤ 1) (h : g k = none) : gc (va_up g k (some a)) = gc g + 1 := by
  unfold gc
  rcases (show k = 0 ∨ k = 1 by omega) with rfl | rfl
  · rw [va_up_s, va_up_n (by decide), h]
    simp
    omega
  · rw [va_up_s, va_up_n (by decide), h]
    simp
theorem ax_dS_z (B b : Nat) : ax_z (ax_dS B b) = 123 := by simp [ax_z, ax_dS, ax_sz]
theorem ax_dS_l (B b : Nat) : (ax_dS B b).length = 12 := rfl
theorem lay_at {B : Nat} {g g2 : Nat → Option Nat} {ext e2 : List ax_S} {i : Nat} (h1 : 61 ≤ i) (h2 : i < (ax_L B g ++ ext).length) : (ax_L B g2 ++ (ext ++ e2))[i]? = (ax_L B g ++ ext)[i]? := by
  rw [List.length_append, lw_len] at h2
  have ea : (ax_L B g2 ++ (ext ++ e2))[i]? = (ext ++ e2)[i - 61]? := List.getElem?_append_right (l₁ := ax_L B g2) (by rw [lw_len]; exact h1)
  have eb : (ax_L B g ++ ext)[i]? = ext[i - 61]? := List.getElem?_append_right (l₁ := ax_L B g) (by rw [lw_len]; exact h1)
  rw [ea, eb, List.getElem?_append_left (by omega)]
theorem op27 : lw_op27 Inv := by
  intro a1 l E B lay I J hI
  have hLL := (inv_sz hI).2.2
  have hI0 := hI
  obtain ⟨g, ext, D, n, S, hlay, hext, hez, hC, hM, hW, hP, hIm⟩ := hI
  rcases p_rng a1 1 (by decide) with ⟨k, hk, rfl⟩ | h1
  · have hK : (0 : Int32) ≤ nI k ∧ nI k ≤ 1 := p_rngT hk (by decide)
    have hin : ax_in (nI k) 2 = true := p_in (by omega) (by decide)
    have hcl : (nI k).toNatClampNeg = k := p_cl (by omega)
    rcases hIm.1 k (by omega) with ⟨g1, g2⟩ | ⟨b, Dk, g1, g2, g3, g4, g5, g6, g7, g8⟩
    · obtain ⟨b, hb⟩ : ∃ b, (ax_L B g ++ ext).length = b := ⟨_, rfl⟩
      have hb61 : 61 ≤ b := by rw [← hb, List.length_append, lw_len]; omega
      obtain ⟨I1, J1, i1, i2⟩ := x_init (ax_r I (b + 0) (fun _ => 0)) J (b + 0)
      have f1 : ∀ r j, (r < b ∨ b + 11 < r) → I1 r j = I r j := fun r j hr => (i2.1 r j (by omega)).trans (by rw [ax_r_n (by omega)])
      have hC1 : CR I1 1 D := CR_eq hC (fun q j hq => f1 _ _ (by omega))
      obtain ⟨I9, c1, c2, c3⟩ := copy_ok (b := b) (b2 := 1) (I := I1) (D := D) (by omega) hW hC1
      have f9 : ∀ r j, (r < b ∨ b + 11 < r) → I9 r j = I r j := fun r j hr => (c3 r j (by omega)).trans (f1 r j hr)
      have e1 := M_X6_image_new (l := l) (E := E) (B := B) (g := g) (ext := ext) (I := I) (J := J) (x1 := nI k) (b := b) (p_wT hK) hin (by rw [hcl]; exact g1) hb i1 c1
      rw [hcl] at e1
      have hM9 : MR I9 D := MR_eq hM (fun r j q1 q2 => f9 r j (by omega)) (f9 35 0 (by omega)) (f9 35 1 (by omega)) (f9 35 16 (by omega))
      obtain ⟨I5, m1, m2, m3, m4, m5, m6, m7, m8⟩ := m_img hM9 hW hk
      have hl1 : (ax_L B (va_up g k (some (B + b))) ++ (ext ++ ax_dS B b)).length = b + 12 := by
        rw [← hb, List.length_append, List.length_append, List.length_append, lw_len, lw_len, ax_dS_l, Nat.add_assoc]
      have hz1 : ax_z (ax_L B (va_up g k (some (B + b))) ++ (ext ++ ax_dS B b)) = ax_z lay + 123 := by
        rw [hlay, ax_z_app, ax_z_app, ax_z_app, lw_zz, lw_zz, ax_dS_z, Nat.add_assoc]
      have hlb : lay.length = b := by rw [hlay]; exact hb
      have hgc := gc_up (a := B + b) hk g1
      have hlay1 : Inv B (ax_L B (va_up g k (some (B + b))) ++ (ext ++ ax_dS B b)) I5 J1 := by
        refine ⟨va_up g k (some (B + b)), ext ++ ax_dS B b, D, n, S, rfl, ?_, ?_, ?_, m3, hW, ?_, ?_⟩
        · rw [List.length_append, ax_dS_l, hgc]; omega
        · rw [ax_z_app, ax_dS_z, hgc]; omega
        · exact CR_eq hC (fun q j hq => (m5 _ j (by omega) (by omega) (by omega)).trans (f9 _ j (by omega)))
        · exact PR_eq hP ((m5 26 1 (by decide) (by decide) (by decide)).trans (f9 26 1 (by omega))) ((m6 18 (by decide) (by decide)).trans (f9 35 18 (by omega))) (fun j => (m5 27 j (by decide) (by decide) (by decide)).trans (f9 27 j (by omega))) (fun j => (m5 50 j (by decide) (by decide) (by decide)).trans (f9 50 j (by omega)))
        · refine Im_img (g := g) (lay := lay) (b := b) hk hIm hW hb61 (by rw [hl1]; exact Nat.le_refl _) ?_ (CR_eq c2 (fun q j hq => m5 _ j (by omega) (by omega) (by omega))) m2 m4 (va_up_s _ _ _) (fun k' h => va_up_n h) (by rw [hl1]; omega) ?_ ?_ ?_ ?_ ?_
          · have h9 := ax_dio_new (B := B) (pre := ax_L B (va_up g k (some (B + b))) ++ ext) (post := []) (b := b) (by rw [← hb, List.length_append, List.length_append]; rfl)
            rw [List.append_nil, List.append_assoc] at h9
            exact h9
          · intro b' h1 h2 h3
            rw [hlay] at h2 h3
            have e : ∀ q, q ≤ 11 → (ax_L B (va_up g k (some (B + b))) ++ (ext ++ ax_dS B b))[b' + q]? = (ax_L B g ++ ext)[b' + q]? := fun q hq => lay_at (by omega) (by omega)
            have e0 := e 0 (by decide)
            rw [Nat.add_zero] at e0
            obtain ⟨q0, q1, q2, q3, q4, q5, q6, q7, q8, q9, q10, q11⟩ := h3
            exact ⟨e0.trans q0, (e 1 (by decide)).trans q1, (e 2 (by decide)).trans q2, (e 3 (by decide)).trans q3, (e 4 (by decide)).trans q4, (e 5 (by decide)).trans q5, (e 6 (by decide)).trans q6, (e 7 (by decide)).trans q7, (e 8 (by decide)).trans q8, (e 9 (by decide)).trans q9, (e 10 (by decide)).trans q10, (e 11 (by decide)).trans q11⟩
          · intro k' b' _ _ _ h
            left; omega
          · intro r j h1 h2
            exact (m5 r j (by omega) (by omega) (by omega)).trans (f9 r j h2)
          · intro j hj
            exact (m7 j hj).trans (f9 60 j (by omega))
          · intro j hj
            exact (m8 j hj).trans (f9 59 j (by omega))
      obtain ⟨z1, z2, z3⟩ := inv_sz hlay1
      refine ⟨.int 1, 6, 8, _, I9, J1, _, I5, J1, ⟨1, rfl⟩, by decide, by decide, ?_, M_X7_image z3 m1, ⟨by rw [hl1]; omega, by rw [hz1]; omega, z1, z2, z3⟩, ⟨Nat.le_refl _, Nat.le_refl _, z1, z2⟩, hlay1⟩
      have ha : (ax_L B (va_up g k (some (B + b))) ++ (ext ++ ax_dS B b)).length - lay.length = 12 := by rw [hl1]; omega
      have hb2 : ax_z (ax_L B (va_up g k (some (B + b))) ++ (ext ++ ax_dS B b)) - ax_z lay = 123 := by rw [hz1]; omega
      unfold Cm
      rw [ha, hb2, hlay]
      exact e1
    · obtain ⟨I9, c1, c2, c3⟩ := copy_ok (b := b) (b2 := 1) (I := I) (D := D) (by omega) hW hC
      have e1 := M_X6_image_old (l := l) (E := E) (B := B) (g := g) (ext := ext) (I := I) (I9 := I9) (J := J) (x1 := nI k) (b := b) (p_wT hK) hin (by rw [hcl]; exact g1) (by rw [← hlay]; exact g4) c1
      rw [← hlay] at e1
      have f9 : ∀ r j, (r < b ∨ b + 11 < r) → I9 r j = I r j := fun r j hr => c3 r j (by omega)
      have hM9 : MR I9 D := MR_eq hM (fun r j q1 q2 => f9 r j (by omega)) (f9 35 0 (by omega)) (f9 35 1 (by omega)) (f9 35 16 (by omega))
      obtain ⟨I5, m1, m2, m3, m4, m5, m6, m7, m8⟩ := m_img hM9 hW hk
      refine op_i e1 (M_X7_image (J := J) hLL m1) (by decide) (by decide) ⟨g, ext, D, n, S, hlay, hext, hez, ?_, m3, hW, ?_, ?_⟩
      · exact CR_eq hC (fun q j hq => (m5 _ j (by omega) (by omega) (by omega)).trans (f9 _ j (by omega)))
      · exact PR_eq hP ((m5 26 1 (by decide) (by decide) (by decide)).trans (f9 26 1 (by omega))) ((m6 18 (by decide) (by decide)).trans (f9 35 18 (by omega))) (fun j => (m5 27 j (by decide) (by decide) (by decide)).trans (f9 27 j (by omega))) (fun j => (m5 50 j (by decide) (by decide) (by decide)).trans (f9 50 j (by omega)))
      · refine Im_img (g := g) (lay := lay) (b := b) hk hIm hW g2 g3 g4 (CR_eq c2 (fun q j hq => m5 _ j (by omega) (by omega) (by omega))) m2 m4 g1 (fun _ _ => rfl) (Nat.le_refl _) (fun _ _ _ h => h) ?_ ?_ ?_ ?_
        · intro k' b' h1 h2 h3 _
          rcases (show k = 0 ∨ k = 1 by omega) with rfl | rfl
          · have : k' = 1 := by omega
            subst this
            have := hIm.2 b b' g1 h3
            omega
          · have : k' = 0 := by omega
            subst this
            have := hIm.2 b' b h3 g1
            omega
        · intro r j h1 h2
          exact (m5 r j (by omega) (by omega) (by omega)).trans (f9 r j h2)
        · intro j hj
          exact (m7 j hj).trans (f9 60 j (by omega))
        · intro j hj
          exact (m8 j hj).trans (f9 59 j (by omega))
  · have h1 : ¬ ((0 : Int32) ≤ a1 ∧ a1 ≤ 1) := h1
    have m1 : F_X7_in I a1.toInt64 0 1 = some 0 := p_mF 0 1 h1 rfl rfl
    have e2 : F_X7_image I a1 = some (-2, I) := by rw [F_X7_image, m1, p_some, if_pos rfl]
    exact op_i (M_X6_image_out (p_wF h1)) (M_X7_image (J := J) hLL e2) (by decide) (by decide) hI0
