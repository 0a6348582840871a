/-! ===== the signs of the pad, read as acts ===== -/
def sg (S : Nat → Nat) (n i : Nat) : Nat := if i < n then S i else 46
def dk (x : Nat) : Nat := if x = 101 then 3 else if x = 112 then 2 else if x = 115 then 1 else if x = 119 then 0 else if x = 120 then 4 else 9
def aW (S : Nat → Nat) (n P : Nat) : Nat := if sg S n P = 46 then 7 else if sg S n P = 102 then 6 else if dk (sg S n (P + 1)) = 9 then 5 else dk (sg S n (P + 1))
def aC (S : Nat → Nat) (n P : Nat) : Nat := if sg S n P = 46 then 0 else if sg S n P = 102 then sg S n (P + 2) - 65 else sg S n P - 65
def aP (S : Nat → Nat) (n P : Nat) : Nat := if sg S n P = 46 then 0 else if sg S n P = 102 then sg S n (P + 1) - 97 else if dk (sg S n (P + 1)) = 9 then sg S n (P + 2) - 97 else 0
def aQ (S : Nat → Nat) (n P : Nat) : Nat := if sg S n P = 46 then 0 else if sg S n P = 102 then 0 else if dk (sg S n (P + 1)) = 9 then sg S n (P + 1) - 48 else 0
def aL (S : Nat → Nat) (n P : Nat) : Nat := if sg S n P = 46 then 1 else if sg S n P = 102 then 3 else if dk (sg S n (P + 1)) = 9 then 3 else 2
def pos (S : Nat → Nat) (n : Nat) : Nat → Nat
  | 0 => 0
  | k + 1 => pos S n k + aL S n (pos S n k)
theorem aL_pos (S : Nat → Nat) (n P : Nat) : 1 ≤ aL S n P := by unfold aL; repeat' split
                                                                all_goals omega
theorem pos_ge (S : Nat → Nat) (n : Nat) : ∀ k, k ≤ pos S n k
  | 0 => Nat.le_refl _
  | k + 1 => by
    have h1 := pos_ge S n k
    have h2 := aL_pos S n (pos S n k)
    show k + 1 ≤ pos S n k + aL S n (pos S n k)
    omega
/-- a well formed act at P -/
def AG (S : Nat → Nat) (n P : Nat) : Prop := (sg S n P = 46) ∨ (sg S n P = 102 ∧ 97 ≤ sg S n (P + 1) ∧ sg S n (P + 1) ≤ 100 ∧ 65 ≤ sg S n (P + 2) ∧ sg S n (P + 2) ≤ 70) ∨ (65 ≤ sg S n P ∧ sg S n P ≤ 70 ∧ dk (sg S n (P + 1)) ≠ 9) ∨ (65 ≤ sg S n P ∧ sg S n P ≤ 70 ∧ 48 ≤ sg S n (P + 1) ∧ sg S n (P + 1) ≤ 55 ∧ 97 ≤ sg S n (P + 2) ∧ sg S n (P + 2) ≤ 100)
theorem dk_le (x : Nat) : dk x ≤ 4 ∨ dk x = 9 := by unfold dk; repeat' split
                                                    all_goals omega
theorem dk_dig {x : Nat} (h : x ≤ 55) : dk x = 9 := by
  unfold dk
  rw [if_neg (by omega), if_neg (by omega), if_neg (by omega), if_neg (by omega), if_neg (by omega)]
theorem AB {S : Nat → Nat} {n P : Nat} (h : AG S n P) : aW S n P ≤ 7 ∧ aC S n P ≤ 5 ∧ aP S n P ≤ 3 ∧ aQ S n P ≤ 7 := by
  unfold aW aC aP aQ
  rcases h with h | ⟨h, h1, h2, h3, h4⟩ | ⟨h, h0, h1⟩ | ⟨h, h0, h1, h2, h3, h4⟩
  · rw [if_pos h, if_pos h, if_pos h, if_pos h]; omega
  · have g : ¬ sg S n P = 46 := by omega
    rw [if_neg g, if_neg g, if_neg g, if_neg g, if_pos h, if_pos h, if_pos h, if_pos h]; omega
  · have g : ¬ sg S n P = 46 := by omega
    have g2 : ¬ sg S n P = 102 := by omega
    rw [if_neg g, if_neg g, if_neg g, if_neg g, if_neg g2, if_neg g2, if_neg g2, if_neg g2, if_neg h1, if_neg h1, if_neg h1]
    have := dk_le (sg S n (P + 1))
    omega
  · have g : ¬ sg S n P = 46 := by omega
    have g2 : ¬ sg S n P = 102 := by omega
    have g3 := dk_dig h2
    rw [if_neg g, if_neg g, if_neg g, if_neg g, if_neg g2, if_neg g2, if_neg g2, if_neg g2, if_pos g3, if_pos g3, if_pos g3]
    omega
/-- the automaton of the class -/
def wn (w x : Nat) : Nat :=
  if w = 0 then (if x = 46 then 0 else if x = 102 then 3 else if 65 ≤ x ∧ x ≤ 70 then 1 else 5)
  else if w = 1 then (if 48 ≤ x ∧ x ≤ 55 then 2 else if dk x = 9 then 5 else 0)
  else if w = 2 then (if 97 ≤ x ∧ x ≤ 100 then 0 else 5)
  else if w = 3 then (if 97 ≤ x ∧ x ≤ 100 then 4 else 5)
  else if w = 4 then (if 65 ≤ x ∧ x ≤ 70 then 0 else 5)
  else 5
def zI : ax_I := fun _ _ => 0
theorem wn_le (w x : Nat) : wn w x ≤ 5 := by
  unfold wn
  repeat' split
  all_goals omega
theorem wn_all : chk 5 (fun w => chk 127 (fun x => decide (F_X4_wantedAfter zI (nI w) (nI x) = some (nI (wn w x))))) = true := by decide +kernel
theorem x_wn (I : ax_I) {w x : Nat} (hw : w < 5) (hx : x < 127) : F_X4_wantedAfter I (nI w) (nI x) = some (nI (wn w x)) := of_decide_eq_true (chk_at (chk_at wn_all hw) hx)
theorem dk_all : chk 127 (fun x => decide (F_X4_deedKind zI (nI x) = some (if dk x = 9 then -6 else nI (dk x)))) = true := by decide +kernel
theorem x_dk (I : ax_I) {x : Nat} (hx : x < 127) : F_X4_deedKind I (nI x) = some (if dk x = 9 then -6 else nI (dk x)) := of_decide_eq_true (chk_at dk_all hx)
theorem x_sign {I : ax_I} {n : Nat} {S : Nat → Nat} (hP : PR I n S) {i : Nat} (hi : i ≤ 99) : F_X4_signAt I (nI i) = some (nI (sg S n i)) := by
  obtain ⟨p1, p2, p3, p4, p5, p6⟩ := hP
  rw [F_X4_signAt, p1]
  have e1 : (nI n - 1).toInt = (n : Int) - 1 := pk_sub_toInt (a := n) (b := 1) (by omega) (by decide)
  have e0 : (0 : Int32).toInt = 0 := by decide
  have ei : (nI i).toInt = (i : Int) := nI_toInt (by omega)
  by_cases h : i < n
  · rw [p_wT ⟨by rw [p_le, e0, ei]; omega, by rw [p_le, e1, ei]; omega⟩, p_some, if_neg (by decide), if_pos (p_in (n := 60) (by omega) (by decide)), p_cl (by omega), p4 i h]
    have hc : ax_char (nI (S i)) = true := by
      unfold ax_char
      rw [p_nar (by have := (p6 i h).2; omega)]
      exact decide_eq_true rfl
    rw [if_pos hc]
    unfold sg
    rw [if_pos h]
  · rw [p_wF (fun q => by have q2 := q.2; rw [p_le, e1, ei] at q2; omega), p_some, if_pos rfl, if_pos (by decide)]
    unfold sg
    rw [if_neg h]
    rfl
theorem sg_le {I : ax_I} {n : Nat} {S : Nat → Nat} (hP : PR I n S) (i : Nat) : sg S n i < 127 := by
  unfold sg
  split
  · have := (hP.2.2.2.2.2 i (by assumption)).2; omega
  · omega
/-- the first fault, m signs left, w wanted -/
def ffk (S : Nat → Nat) (n : Nat) : Nat → Nat → Int32
  | 0, w => if w = 0 then -6 else nI n
  | m + 1, w => if wn w (S (n - (m + 1))) = 5 then nI (n - (m + 1)) else ffk S n m (wn w (S (n - (m + 1))))
theorem x_ffk {I : ax_I} {n : Nat} {S : Nat → Nat} (hP : PR I n S) : ∀ (f m w : Nat), m ≤ n → m < f → w < 5 → f_X4_firstFault_4 f I (nI w) (nI (n - m)) = some (ffk S n m w)
  | 0, m, w, _, h, _ => by omega
  | f + 1, 0, w, _, h, hw => by
    have hn := hP.2.2.1
    rw [f_X4_firstFault_4, hP.1, if_pos (nI_le (a := n) (b := n - 0) (by omega) (by omega)), ffk]
    by_cases h0 : w = 0
    · rw [if_pos h0, h0, if_pos (by decide)]
    · rw [if_neg h0, if_neg (nI_ne0 (by omega) (by omega))]
  | f + 1, m + 1, w, hm, h, hw => by
    have hn := hP.2.2.1
    have e5 : n - (m + 1) + 1 = n - m := by omega
    have hlt : n - (m + 1) < n := by omega
    obtain ⟨k, hk⟩ : ∃ k, k = n - (m + 1) := ⟨_, rfl⟩
    rw [ffk, ← hk]
    rw [← hk] at hlt e5
    have hs : sg S n k = S k := by unfold sg; rw [if_pos hlt]
    have xs := x_sign hP (i := k) (by omega)
    rw [hs] at xs
    have xb := (hP.2.2.2.2.2 k hlt).2
    have wl := wn_le w (S k)
    rw [f_X4_firstFault_4, hP.1, if_neg (nI_ge (a := k) (b := n) hlt (by omega)), xs, p_some, x_wn I hw (by omega), p_some, nI_1, e5]
    by_cases h5 : wn w (S k) = 5
    · rw [if_pos h5, h5, if_pos (by decide)]
    · have e : ¬ (nI (wn w (S k)) = 5) := fun q => h5 ((nI_eq (a := wn w (S k)) (b := 5) (by omega) (by decide)).mp q)
      rw [if_neg h5, if_neg e]
      exact x_ffk hP f m _ (by omega) (by omega) (by omega)
theorem x_ff {I : ax_I} {n : Nat} {S : Nat → Nat} (hP : PR I n S) : F_X4_firstFault I = some (ffk S n n 0) := by
  have h := x_ffk hP ax_N n 0 (Nat.le_refl _) (by have := hP.2.2.1; unfold ax_N; omega) (by decide)
  rw [Nat.sub_self] at h
  exact h
/-! ===== the model writes the acts down ===== -/
def AR (I : ax_I) (S : Nat → Nat) (n k P : Nat) : Prop := I 51 k = nI (aW S n P) ∧ I 52 k = nI (aC S n P) ∧ I 53 k = nI (aP S n P) ∧ I 54 k = nI (aQ S n P)
def APs (I : ax_I) (S : Nat → Nat) (n k : Nat) : Prop := ∀ j, j < k → AG S n (pos S n j) ∧ AR I S n j (pos S n j)
def AT (I : ax_I) (S : Nat → Nat) (n i w k : Nat) : Prop :=
  (w = 0 ∧ pos S n k = i) ∨
  (w = 1 ∧ pos S n k + 1 = i ∧ 65 ≤ S (i - 1) ∧ S (i - 1) ≤ 70 ∧ I 52 k = nI (S (i - 1) - 65) ∧ I 53 k = 0 ∧ I 54 k = 0) ∨
  (w = 2 ∧ pos S n k + 2 = i ∧ 65 ≤ S (i - 2) ∧ S (i - 2) ≤ 70 ∧ 48 ≤ S (i - 1) ∧ S (i - 1) ≤ 55 ∧ I 51 k = 5 ∧ I 52 k = nI (S (i - 2) - 65) ∧ I 54 k = nI (S (i - 1) - 48)) ∨
  (w = 3 ∧ pos S n k + 1 = i ∧ S (i - 1) = 102 ∧ I 51 k = 6 ∧ I 54 k = 0) ∨
  (w = 4 ∧ pos S n k + 2 = i ∧ S (i - 2) = 102 ∧ 97 ≤ S (i - 1) ∧ S (i - 1) ≤ 100 ∧ I 51 k = 6 ∧ I 53 k = nI (S (i - 1) - 97) ∧ I 54 k = 0)
def AS (I : ax_I) (S : Nat → Nat) (n i w k : Nat) : Prop := I 35 23 = nI k ∧ APs I S n k ∧ AT I S n i w k
def FA (I I' : ax_I) : Prop := ∀ r j, r ≠ 51 → r ≠ 52 → r ≠ 53 → r ≠ 54 → ¬ (r = 35 ∧ j = 23) → I' r j = I r j
def du (w : Nat) : Int32 := if w = 0 then 0 else if w = 1 then 1 else if w = 2 then 4 else if w = 3 then 2 else 3
theorem AP_k {I I' : ax_I} {S : Nat → Nat} {n k : Nat} (h : APs I S n k) (e : ∀ r j, 51 ≤ r → r ≤ 54 → j < k → I' r j = I r j) : APs I' S n k := by
  intro j hj
  obtain ⟨h1, h2, h3, h4, h5⟩ := h j hj
  exact ⟨h1, (e 51 j (by decide) (by decide) hj).trans h2, (e 52 j (by decide) (by decide) hj).trans h3, (e 53 j (by decide) (by decide) hj).trans h4, (e 54 j (by decide) (by decide) hj).trans h5⟩
theorem AP_s {I : ax_I} {S : Nat → Nat} {n k : Nat} (h : APs I S n k) (h1 : AG S n (pos S n k)) (h2 : AR I S n k (pos S n k)) : APs I S n (k + 1) := by
  intro j hj
  by_cases e : j = k
  · rw [e]; exact ⟨h1, h2⟩
  · exact h j (by omega)
theorem sgT {S : Nat → Nat} {n i : Nat} (h : i < n) : sg S n i = S i := by unfold sg; rw [if_pos h]
