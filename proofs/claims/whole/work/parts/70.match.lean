/-! ===== days: sets of children and of days ===== -/
theorem bb_tb (t i : Nat) : bb t i = (t.testBit i).toNat := (Nat.toNat_testBit t i).symm
theorem pcn_bb (t : Nat) : pcn t = bb t 0 + bb t 1 + bb t 2 + bb t 3 + bb t 4 + bb t 5 + bb t 6 + bb t 7 + bb t 8 + bb t 9 + bb t 10 + bb t 11 := by
  rw [show bb t 0 = t % 2 from by unfold bb; rw [Nat.pow_zero, Nat.div_one]]
  rfl
theorem pcn_tb (t : Nat) : pcn t = (t.testBit 0).toNat + (t.testBit 1).toNat + (t.testBit 2).toNat + (t.testBit 3).toNat + (t.testBit 4).toNat + (t.testBit 5).toNat + (t.testBit 6).toNat + (t.testBit 7).toNat + (t.testBit 8).toNat + (t.testBit 9).toNat + (t.testBit 10).toNat + (t.testBit 11).toNat := by
  rw [pcn_bb]
  simp only [bb_tb]
theorem pc_oa (a b : Nat) : pcn (a ||| b) + pcn (a &&& b) = pcn a + pcn b := by
  simp only [pcn_tb, Nat.testBit_or, Nat.testBit_and]
  have h : ∀ x y : Bool, (x || y).toNat + (x && y).toNat = x.toNat + y.toNat := by decide
  have h0 := h (a.testBit 0) (b.testBit 0)
  have h1 := h (a.testBit 1) (b.testBit 1)
  have h2 := h (a.testBit 2) (b.testBit 2)
  have h3 := h (a.testBit 3) (b.testBit 3)
  have h4 := h (a.testBit 4) (b.testBit 4)
  have h5 := h (a.testBit 5) (b.testBit 5)
  have h6 := h (a.testBit 6) (b.testBit 6)
  have h7 := h (a.testBit 7) (b.testBit 7)
  have h8 := h (a.testBit 8) (b.testBit 8)
  have h9 := h (a.testBit 9) (b.testBit 9)
  have h10 := h (a.testBit 10) (b.testBit 10)
  have h11 := h (a.testBit 11) (b.testBit 11)
  omega
theorem pc_le {a b : Nat} (h : ∀ i, i < 12 → a.testBit i = true → b.testBit i = true) : pcn a ≤ pcn b := by
  have g : ∀ i, i < 12 → (a.testBit i).toNat ≤ (b.testBit i).toNat := by
    intro i hi
    cases ha : a.testBit i
    · exact Nat.zero_le _
    · rw [h i hi ha]; exact Nat.le_refl _
  simp only [pcn_tb]
  have h0 := g 0 (by decide)
  have h1 := g 1 (by decide)
  have h2 := g 2 (by decide)
  have h3 := g 3 (by decide)
  have h4 := g 4 (by decide)
  have h5 := g 5 (by decide)
  have h6 := g 6 (by decide)
  have h7 := g 7 (by decide)
  have h8 := g 8 (by decide)
  have h9 := g 9 (by decide)
  have h10 := g 10 (by decide)
  have h11 := g 11 (by decide)
  omega
theorem pc_eq {a b : Nat} (h : ∀ i, i < 12 → a.testBit i = b.testBit i) : pcn a = pcn b :=
  Nat.le_antisymm (pc_le (fun i hi q => by rw [← h i hi]; exact q)) (pc_le (fun i hi q => by rw [h i hi]; exact q))
theorem pc_2 : ∀ d, d < 12 → pcn (2 ^ d) = 1 := by decide +kernel
theorem pc_6 : ∀ X, X < 64 → pcn X ≤ 6 := by decide +kernel
def stO (f : Nat → Nat) (S j a : Nat) : Nat := if bb S j = 0 then a else a ||| f j
theorem stO_tb (f : Nat → Nat) (S j a i : Nat) : (stO f S j a).testBit i = (a.testBit i || (S.testBit j && (f j).testBit i)) := by
  unfold stO
  cases h : S.testBit j
  · have h0 : bb S j = 0 := by rw [bb_tb, h]; rfl
    rw [if_pos h0]; simp
  · have h0 : ¬ bb S j = 0 := by rw [bb_tb, h]; decide
    rw [if_neg h0, Nat.testBit_or]; simp
def uN (f : Nat → Nat) (S : Nat) : Nat := smO f S 6 6 0
theorem uN_eq (f : Nat → Nat) (S : Nat) : uN f S = stO f S 5 (stO f S 4 (stO f S 3 (stO f S 2 (stO f S 1 (stO f S 0 0))))) := rfl
theorem uN_tb (f : Nat → Nat) (S i : Nat) : (uN f S).testBit i = ((((((false || (S.testBit 0 && (f 0).testBit i)) || (S.testBit 1 && (f 1).testBit i)) || (S.testBit 2 && (f 2).testBit i)) || (S.testBit 3 && (f 3).testBit i)) || (S.testBit 4 && (f 4).testBit i)) || (S.testBit 5 && (f 5).testBit i)) := by
  rw [uN_eq, stO_tb, stO_tb, stO_tb, stO_tb, stO_tb, stO_tb, Nat.zero_testBit]
theorem uN_ex (f : Nat → Nat) (S i : Nat) : (uN f S).testBit i = true ↔ ∃ j, j < 6 ∧ S.testBit j = true ∧ (f j).testBit i = true := by
  rw [uN_tb]
  simp only [Bool.false_or, Bool.or_eq_true, Bool.and_eq_true]
  constructor
  · rintro (((((h | h) | h) | h) | h) | h)
    · exact ⟨0, by decide, h⟩
    · exact ⟨1, by decide, h⟩
    · exact ⟨2, by decide, h⟩
    · exact ⟨3, by decide, h⟩
    · exact ⟨4, by decide, h⟩
    · exact ⟨5, by decide, h⟩
  · rintro ⟨j, hj, h⟩
    rcases (show j = 0 ∨ j = 1 ∨ j = 2 ∨ j = 3 ∨ j = 4 ∨ j = 5 by omega) with rfl | rfl | rfl | rfl | rfl | rfl
    · exact Or.inl (Or.inl (Or.inl (Or.inl (Or.inl h))))
    · exact Or.inl (Or.inl (Or.inl (Or.inl (Or.inr h))))
    · exact Or.inl (Or.inl (Or.inl (Or.inr h)))
    · exact Or.inl (Or.inl (Or.inr h))
    · exact Or.inl (Or.inr h)
    · exact Or.inr h
theorem sub_tb {S X : Nat} (h : S &&& X = S) {i : Nat} (hi : S.testBit i = true) : X.testBit i = true := by
  rw [← h, Nat.testBit_and, Bool.and_eq_true] at hi
  exact hi.2
theorem tb_sub {S X : Nat} (h : ∀ i, S.testBit i = true → X.testBit i = true) : S &&& X = S := by
  apply Nat.eq_of_testBit_eq
  intro i
  rw [Nat.testBit_and]
  cases hs : S.testBit i
  · rfl
  · rw [h i hs]; rfl
theorem sub_pc {S X : Nat} (h : S &&& X = S) : pcn S ≤ pcn X := pc_le (fun i _ q => sub_tb h q)
/-- the days that S can have, of the open ones -/
def kN (f : Nat → Nat) (o S : Nat) : Nat := pcn (uN f S &&& o)
def gN (f : Nat → Nat) (o X S : Nat) : Nat := pcn X - pcn S + kN f o S
def hk (f : Nat → Nat) (o X : Nat) : Nat → Nat
  | 0 => 12
  | k + 1 => if k &&& X = k then (if hk f o X k ≤ gN f o X k then hk f o X k else gN f o X k) else hk f o X k
def hN (f : Nat → Nat) (o X : Nat) : Nat := hk f o X 64
theorem hk_le (f : Nat → Nat) (o X : Nat) : ∀ k S, S < k → S &&& X = S → hk f o X k ≤ gN f o X S
  | 0, S, h, _ => by omega
  | k + 1, S, h, hs => by
    rw [hk]
    by_cases e : S = k
    · rw [e] at hs ⊢
      rw [if_pos hs]
      split <;> omega
    · have ih := hk_le f o X k S (by omega) hs
      split
      · split <;> omega
      · exact ih
theorem uN_0 (f : Nat → Nat) : uN f 0 = 0 := by
  apply Nat.eq_of_testBit_eq
  intro i
  rw [uN_tb]
  simp
theorem gN_0 (f : Nat → Nat) (o X : Nat) : gN f o X 0 = pcn X := by
  unfold gN kN
  rw [uN_0, Nat.zero_and, show pcn 0 = 0 from rfl]
  rfl
theorem hk_ex (f : Nat → Nat) (o : Nat) {X : Nat} (hX : X < 64) : ∀ k, ∃ S, S < k + 1 ∧ S &&& X = S ∧ hk f o X (k + 1) = gN f o X S
  | 0 => by
    refine ⟨0, by decide, Nat.zero_and _, ?_⟩
    have h6 := pc_6 X hX
    rw [hk, if_pos (Nat.zero_and _), gN_0, if_neg (show ¬ hk f o X 0 ≤ pcn X by show ¬ 12 ≤ pcn X; omega)]
  | k + 1 => by
    obtain ⟨S, h1, h2, h3⟩ := hk_ex f o hX k
    rw [hk]
    by_cases hs : (k + 1) &&& X = k + 1
    · rw [if_pos hs]
      by_cases hl : hk f o X (k + 1) ≤ gN f o X (k + 1)
      · rw [if_pos hl]; exact ⟨S, by omega, h2, h3⟩
      · rw [if_neg hl]; exact ⟨k + 1, by omega, hs, rfl⟩
    · rw [if_neg hs]; exact ⟨S, by omega, h2, h3⟩
theorem hN_le (f : Nat → Nat) (o X : Nat) {S : Nat} (h : S < 64) (hs : S &&& X = S) : hN f o X ≤ gN f o X S := hk_le f o X 64 S h hs
theorem hN_ex (f : Nat → Nat) (o : Nat) {X : Nat} (hX : X < 64) : ∃ S, S < 64 ∧ S &&& X = S ∧ hN f o X = gN f o X S := hk_ex f o hX 63
/-! one child more -/
theorem pc_add {X c : Nat} (hc : c < 6) (h : X.testBit c = false) : pcn (X ||| 2 ^ c) = pcn X + 1 := by
  have h1 := pc_oa X (2 ^ c)
  have h2 : X &&& 2 ^ c = 0 := by
    apply Nat.eq_of_testBit_eq
    intro i
    rw [Nat.testBit_and, Nat.testBit_two_pow, Nat.zero_testBit]
    by_cases e : c = i
    · rw [← e, h]; rfl
    · rw [decide_eq_false e, Bool.and_false]
  rw [h2, pc_2 c (by omega), show pcn 0 = 0 from rfl] at h1
  exact h1
theorem uN_or (f : Nat → Nat) (A B i : Nat) : (uN f (A ||| B)).testBit i = ((uN f A).testBit i || (uN f B).testBit i) := by
  apply Bool.eq_iff_iff.mpr
  rw [Bool.or_eq_true, uN_ex, uN_ex, uN_ex]
  constructor
  · rintro ⟨j, hj, h1, h2⟩
    rw [Nat.testBit_or, Bool.or_eq_true] at h1
    rcases h1 with h1 | h1
    · exact Or.inl ⟨j, hj, h1, h2⟩
    · exact Or.inr ⟨j, hj, h1, h2⟩
  · rintro (⟨j, hj, h1, h2⟩ | ⟨j, hj, h1, h2⟩)
    · exact ⟨j, hj, by rw [Nat.testBit_or, h1]; rfl, h2⟩
    · exact ⟨j, hj, by rw [Nat.testBit_or, h1, Bool.or_true], h2⟩
theorem uN_2 (f : Nat → Nat) {c : Nat} (hc : c < 6) (i : Nat) : (uN f (2 ^ c)).testBit i = (f c).testBit i := by
  apply Bool.eq_iff_iff.mpr
  rw [uN_ex]
  constructor
  · rintro ⟨j, hj, h1, h2⟩
    rw [Nat.testBit_two_pow, decide_eq_true_eq] at h1
    rw [h1]; exact h2
  · intro h
    exact ⟨c, hc, Nat.testBit_two_pow_self, h⟩
theorem uN_mono (f : Nat → Nat) {A B : Nat} (h : A &&& B = A) {i : Nat} (hi : (uN f A).testBit i = true) : (uN f B).testBit i = true := by
  rw [uN_ex] at hi ⊢
  obtain ⟨j, h1, h2, h3⟩ := hi
  exact ⟨j, h1, sub_tb h h2, h3⟩
theorem kN_mono (f : Nat → Nat) (o : Nat) {A B : Nat} (h : A &&& B = A) : kN f o A ≤ kN f o B := by
  refine pc_le (fun i _ q => ?_)
  rw [Nat.testBit_and, Bool.and_eq_true] at q ⊢
  exact ⟨uN_mono f h q.1, q.2⟩
theorem kN_sub (f : Nat → Nat) (o A B : Nat) : kN f o (A ||| B) + kN f o (A &&& B) ≤ kN f o A + kN f o B := by
  unfold kN
  have h1 := pc_oa (uN f A &&& o) (uN f B &&& o)
  have h2 : pcn (uN f (A ||| B) &&& o) = pcn ((uN f A &&& o) ||| (uN f B &&& o)) := by
    refine pc_eq (fun i _ => ?_)
    rw [Nat.testBit_and, uN_or, Nat.testBit_or, Nat.testBit_and, Nat.testBit_and, Bool.and_or_distrib_right]
  have h3 : pcn (uN f (A &&& B) &&& o) ≤ pcn ((uN f A &&& o) &&& (uN f B &&& o)) := by
    refine pc_le (fun i _ q => ?_)
    rw [Nat.testBit_and, Bool.and_eq_true] at q
    have ha : (A &&& B) &&& A = A &&& B := tb_sub (fun i q => by rw [Nat.testBit_and, Bool.and_eq_true] at q; exact q.1)
    have hb : (A &&& B) &&& B = A &&& B := tb_sub (fun i q => by rw [Nat.testBit_and, Bool.and_eq_true] at q; exact q.2)
    rw [Nat.testBit_and, Nat.testBit_and, Nat.testBit_and, uN_mono f ha q.1, uN_mono f hb q.1, q.2]
    rfl
  omega
theorem hN_up (f : Nat → Nat) (o : Nat) {X c : Nat} (hX : X < 64) (hc : c < 6) (hb : X.testBit c = false) : hN f o X ≤ hN f o (X ||| 2 ^ c) := by
  have h2c : 2 ^ c < 64 := (Nat.pow_lt_pow_right (by decide) hc : 2 ^ c < 2 ^ 6)
  have hX2 : X ||| 2 ^ c < 64 := Nat.or_lt_two_pow (n := 6) hX h2c
  obtain ⟨S, s1, s2, s3⟩ := hN_ex f o hX2
  have pX := pc_add hc hb
  rw [s3]
  have hS' : (S &&& X) &&& X = S &&& X := tb_sub (fun i q => by rw [Nat.testBit_and, Bool.and_eq_true] at q; exact q.2)
  have hlt : S &&& X < 64 := Nat.and_lt_two_pow (n := 6) _ hX
  have hle := hN_le f o X hlt hS'
  have hk : kN f o (S &&& X) ≤ kN f o S := kN_mono f o (tb_sub (fun i q => by rw [Nat.testBit_and, Bool.and_eq_true] at q; exact q.1))
  have hp := sub_pc hS'
  cases hs : S.testBit c
  · have e : S &&& X = S := by
      refine tb_sub (fun i q => ?_)
      have q2 := sub_tb s2 q
      rw [Nat.testBit_or, Bool.or_eq_true, Nat.testBit_two_pow, decide_eq_true_eq] at q2
      rcases q2 with q2 | q2
      · exact q2
      · rw [← q2, hs] at q; cases q
    rw [e] at hle hp
    unfold gN at hle ⊢
    omega
  · have e : S = (S &&& X) ||| 2 ^ c := by
      apply Nat.eq_of_testBit_eq
      intro i
      rw [Nat.testBit_or, Nat.testBit_and, Nat.testBit_two_pow]
      by_cases ec : c = i
      · rw [← ec, hs, decide_eq_true rfl, Bool.or_true]
      · rw [decide_eq_false ec, Bool.or_false]
        cases hq : S.testBit i
        · rfl
        · have q2 := sub_tb s2 hq
          rw [Nat.testBit_or, Nat.testBit_two_pow, decide_eq_false ec, Bool.or_false] at q2
          rw [q2]; rfl
    have hcb : (S &&& X).testBit c = false := by rw [Nat.testBit_and, hb, Bool.and_false]
    have pS := pc_add hc hcb
    rw [← e] at pS
    unfold gN at hle ⊢
    omega
/-- a day closed -/
def od (o d : Nat) : Nat := o &&& (4095 ^^^ 2 ^ d)
theorem od_tb (o : Nat) {d i : Nat} (hi : i < 12) : (od o d).testBit i = (o.testBit i && !decide (d = i)) := by
  unfold od
  rw [Nat.testBit_and, Nat.testBit_xor, Nat.testBit_two_pow, show (4095 : Nat) = 2 ^ 12 - 1 from rfl, Nat.testBit_two_pow_sub_one, decide_eq_true hi]
  cases o.testBit i <;> cases decide (d = i) <;> rfl
theorem kN_od_le (f : Nat → Nat) (o d S : Nat) : kN f (od o d) S ≤ kN f o S := by
  refine pc_le (fun i hi q => ?_)
  rw [Nat.testBit_and, od_tb o hi, Bool.and_eq_true, Bool.and_eq_true] at q
  rw [Nat.testBit_and, q.1, q.2.1]; rfl
theorem kN_od1 (f : Nat → Nat) (o S : Nat) {d : Nat} (hd : d < 12) : kN f o S ≤ kN f (od o d) S + 1 := by
  unfold kN
  have h1 := pc_oa (uN f S &&& od o d) (2 ^ d)
  rw [pc_2 d hd] at h1
  have h2 : pcn (uN f S &&& o) ≤ pcn ((uN f S &&& od o d) ||| 2 ^ d) := by
    refine pc_le (fun i hi q => ?_)
    rw [Nat.testBit_and, Bool.and_eq_true] at q
    rw [Nat.testBit_or, Nat.testBit_and, od_tb o hi, Nat.testBit_two_pow, q.1, q.2]
    cases decide (d = i) <;> rfl
  omega
theorem kN_od0 (f : Nat → Nat) (o S : Nat) {d : Nat} (h : (uN f S).testBit d = false) : kN f o S = kN f (od o d) S := by
  refine pc_eq (fun i hi => ?_)
  rw [Nat.testBit_and, Nat.testBit_and, od_tb o hi]
  by_cases e : d = i
  · rw [← e, h]; rfl
  · rw [decide_eq_false e]; cases (uN f S).testBit i <;> cases o.testBit i <;> rfl
/-- if no day of c works, c goes without one -/
theorem day_key (f : Nat → Nat) (o : Nat) {X c : Nat} (hX : X < 64) (hc : c < 6) (hb : X.testBit c = false) (hno : ∀ d, d < 12 → (f c).testBit d = true → o.testBit d = true → 1 + hN f (od o d) X ≠ hN f o (X ||| 2 ^ c)) : hN f o X = hN f o (X ||| 2 ^ c) := by
  have h2c : 2 ^ c < 64 := (Nat.pow_lt_pow_right (by decide) hc : 2 ^ c < 2 ^ 6)
  have hX2 : X ||| 2 ^ c < 64 := Nat.or_lt_two_pow (n := 6) hX h2c
  have hup := hN_up f o hX hc hb
  have pX := pc_add hc hb
  obtain ⟨S0, s1, s2, s3⟩ := hN_ex f o hX
  rcases Nat.lt_or_ge (hN f o X) (hN f o (X ||| 2 ^ c)) with hlt | hge
  · exfalso
    -- at most one more
    have sX : ∀ {S : Nat}, S &&& X = S → S &&& (X ||| 2 ^ c) = S := fun h => tb_sub (fun i q => by rw [Nat.testBit_or, sub_tb h q]; rfl)
    have h1 : hN f o (X ||| 2 ^ c) = hN f o X + 1 := by
      have q := hN_le f o (X ||| 2 ^ c) s1 (sX s2)
      have hp := sub_pc s2
      unfold gN at q s3
      omega
    -- tight sets
    have tight : ∀ d, d < 12 → (f c).testBit d = true → o.testBit d = true → ∃ S, S < 64 ∧ S &&& X = S ∧ gN f o X S = hN f o X ∧ (uN f S).testBit d = true := by
      intro d hd q1 q2
      have q3 := hno d hd q1 q2
      obtain ⟨S, t1, t2, t3⟩ := hN_ex f (od o d) hX
      have l1 := hN_le f o X t1 t2
      have l2 := hN_le f (od o d) X s1 s2
      have l3 := kN_od_le f o d S0
      have l4 := kN_od1 f o S hd
      refine ⟨S, t1, t2, ?_, ?_⟩
      · unfold gN at s3 t3 l1 l2 ⊢
        omega
      · cases hu : (uN f S).testBit d
        · have l5 := kN_od0 f o S hu
          unfold gN at s3 t3 l1 l2
          omega
        · rfl
    have join : ∀ A B, A < 64 → B < 64 → A &&& X = A → B &&& X = B → gN f o X A = hN f o X → gN f o X B = hN f o X → gN f o X (A ||| B) = hN f o X := by
      intro A B a1 b1 a2 b2 a3 b3
      have u1 : A ||| B < 64 := Nat.or_lt_two_pow (n := 6) a1 b1
      have u2 : (A ||| B) &&& X = A ||| B := by rw [Nat.and_or_distrib_right, a2, b2]
      have v1 : A &&& B < 64 := Nat.and_lt_two_pow (n := 6) _ b1
      have v2 : (A &&& B) &&& X = A &&& B := by rw [Nat.and_assoc, b2]
      have l1 := hN_le f o X u1 u2
      have l2 := hN_le f o X v1 v2
      have l3 := kN_sub f o A B
      have l4 := pc_oa A B
      have l5 := sub_pc u2
      have l6 := sub_pc v2
      have l7 := sub_pc a2
      have l8 := sub_pc b2
      unfold gN at a3 b3 l1 l2 ⊢
      omega
    have cover : ∀ d, d ≤ 12 → ∃ S, S < 64 ∧ S &&& X = S ∧ gN f o X S = hN f o X ∧ ∀ i, i < d → (f c).testBit i = true → o.testBit i = true → (uN f S).testBit i = true := by
      intro d
      induction d with
      | zero => intro _; exact ⟨S0, s1, s2, s3.symm, fun i hi => by omega⟩
      | succ d ih =>
        intro hd
        obtain ⟨S, t1, t2, t3, t4⟩ := ih (by omega)
        by_cases hq : (f c).testBit d = true ∧ o.testBit d = true
        · obtain ⟨T, r1, r2, r3, r4⟩ := tight d (by omega) hq.1 hq.2
          refine ⟨S ||| T, Nat.or_lt_two_pow (n := 6) t1 r1, by rw [Nat.and_or_distrib_right, t2, r2], join S T t1 r1 t2 r2 t3 r3, fun i hi w1 w2 => ?_⟩
          rw [uN_or]
          by_cases e : i = d
          · rw [e, r4, Bool.or_true]
          · rw [t4 i (by omega) w1 w2, Bool.true_or]
        · refine ⟨S, t1, t2, t3, fun i hi w1 w2 => ?_⟩
          by_cases e : i = d
          · rw [e] at w1 w2; exact absurd ⟨w1, w2⟩ hq
          · exact t4 i (by omega) w1 w2
    obtain ⟨S, t1, t2, t3, t4⟩ := cover 12 (Nat.le_refl _)
    have u1 : S ||| 2 ^ c < 64 := Nat.or_lt_two_pow (n := 6) t1 h2c
    have u2 : (S ||| 2 ^ c) &&& (X ||| 2 ^ c) = S ||| 2 ^ c := tb_sub (fun i q => by
      rw [Nat.testBit_or, Bool.or_eq_true] at q
      rw [Nat.testBit_or]
      rcases q with q | q
      · rw [sub_tb t2 q]; rfl
      · rw [q, Bool.or_true])
    have hcb : S.testBit c = false := by
      cases q : S.testBit c
      · rfl
      · have := sub_tb t2 q
        rw [hb] at this
        cases this
    have pS := pc_add hc hcb
    have ek : kN f o (S ||| 2 ^ c) = kN f o S := by
      refine pc_eq (fun i hi => ?_)
      rw [Nat.testBit_and, uN_or, uN_2 f hc, Nat.testBit_and]
      cases w1 : (f c).testBit i
      · rw [Bool.or_false]
      · cases w2 : o.testBit i
        · rw [Bool.and_false, Bool.and_false]
        · rw [t4 i hi w1 w2]; rfl
    have l1 := hN_le f o (X ||| 2 ^ c) u1 u2
    have l5 := sub_pc t2
    unfold gN at l1 t3
    rw [ek] at l1
    omega
  · omega
