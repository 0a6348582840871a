/-! ===== the class's way ===== -/
theorem x_end {I : ax_I} {D : pD} (hC : CR I 1 D) (hW : WF D) {c n : Nat} (hc : c ≤ 5) (hn : n ≤ 12) (h1 : bb (D 0 0) c = 1) (h2 : bb (D 0 3) c = 0) : ∀ (d f p q w s : Nat), d ≤ n → d < f → p ≤ (n - d + 1) / 2 → q ≤ (n - d) / 2 → (w : Int) = wv D c p q → (s : Int) = sv D c (n - d) p q → F_X6_endsAsSaint f I 1 (nI c) (nI w) (nI s) (nI d) (if (n - d) % 2 = 0 then 1 else 0) = some (b01 (V D c n d p q))
  | d, 0, p, q, w, s, _, h, _, _, _, _ => by omega
  | 0, f + 1, p, q, w, s, hd, h, hp, hq, hw, hs => by
    have w1 := wv_b hW hc (p := p) (q := q) (by omega) (by omega)
    have s1 := sv_b hW hc (t := n) (by omega) (p := p) (q := q) (by omega) (by omega)
    rw [Nat.sub_zero] at hs
    rw [F_X6_endsAsSaint, f_X6_endsAsSaint_0, if_pos (by decide), f_X6_endsAsSaint_12, x_would hC hW hc (by omega) (by omega), p_some, if_pos (by split <;> decide), V]
    unfold wS b01
    rw [h1, h2, ← hw, ← hs]
    have a1 : ((D 10 0 : Int) ≤ (w : Int)) ↔ D 10 0 ≤ w := by omega
    have a2 : ((s : Int) ≤ (D 10 1 : Int)) ↔ s ≤ D 10 1 := by omega
    simp only [a1, a2]
    simp
  | d + 1, f + 1, p, q, w, s, hd, h, hp, hq, hw, hs => by
    have w1 := wv_b hW hc (p := p) (q := q) (by omega) (by omega)
    have s1 := sv_b hW hc (t := n - (d + 1)) (by omega) (p := p) (q := q) (by omega) (by omega)
    have g1 : ¬ nI (d + 1) ≤ 0 := nI_nle (by omega) (by omega)
    have g2 : nI (d + 1) ≤ 12 := nI_le (a := d + 1) (b := 12) (by omega) (by decide)
    have e1 : nI (d + 1) - 1 = nI d := nI_pred d
    obtain ⟨t, ht⟩ : ∃ t, t = n - (d + 1) := ⟨_, rfl⟩
    have et : n - d = t + 1 := by omega
    rw [← ht] at hp hq hs s1
    rw [F_X6_endsAsSaint, f_X6_endsAsSaint_0, if_neg g1, if_pos g2, V, e1, ← ht]
    by_cases he : t % 2 = 0
    · rw [if_pos he, if_pos he, if_neg (show ¬ (1 : Int32) = 0 from by decide)]
      have i1 := x_end hC hW hc hn h1 h2 d f (p + 1) q (w + 1) s (by omega) (by omega) (by omega) (by omega) (by unfold wv at hw ⊢; omega) (by rw [et]; unfold sv at hs ⊢; omega)
      rw [if_neg (show ¬ (n - d) % 2 = 0 by omega)] at i1
      rw [nI_1, i1, p_some, decide_eq_true (show p < 6 by omega), Bool.true_and]
      cases hV : V D c n d (p + 1) q
      · rw [if_pos (show b01 false = 0 from rfl), Bool.false_or]
        by_cases s0 : s = 0
        · rw [if_pos (by rw [s0]; decide), decide_eq_false (show ¬ 0 < sv D c t p q by omega), Bool.false_and]; rfl
        · have i2 := x_end hC hW hc hn h1 h2 d f p q w (s - 1) (by omega) (by omega) (by omega) (by omega) hw (by rw [et]; unfold sv at hs ⊢; omega)
          rw [if_neg (show ¬ (n - d) % 2 = 0 by omega)] at i2
          rw [if_neg (nI_nle (by omega) (by omega)), show nI s - 1 = nI (s - 1) from pk_sub (b := 1) (by omega), i2, p_some, decide_eq_true (show 0 < sv D c t p q by omega), Bool.true_and]
          cases V D c n d p q <;> rfl
      · rw [if_neg (show ¬ b01 true = 0 from by decide), Bool.true_or]; rfl
    · rw [if_neg he, if_neg he, if_pos rfl]
      have i1 := x_end hC hW hc hn h1 h2 d f p q w (s + 1) (by omega) (by omega) (by omega) (by omega) hw (by rw [et]; unfold sv at hs ⊢; omega)
      rw [if_pos (show (n - d) % 2 = 0 by omega)] at i1
      rw [nI_1, i1, p_some]
      cases hV : V D c n d p q
      · rw [if_pos (show b01 false = 0 from rfl), Bool.false_and]; rfl
      · rw [if_neg (show ¬ b01 true = 0 from by decide), Bool.true_and]
        by_cases w0 : w = 0
        · rw [if_pos (by rw [w0]; decide), decide_eq_true (show wv D c p q ≤ 0 by omega), Bool.true_or, Bool.true_or]; rfl
        · have i2 := x_end hC hW hc hn h1 h2 d f p (q + 1) (w - 1) s (by omega) (by omega) (by omega) (by omega) (by unfold wv at hw ⊢; omega) (by rw [et]; unfold sv at hs ⊢; omega)
          rw [if_pos (show (n - d) % 2 = 0 by omega)] at i2
          rw [if_neg (nI_nle (by omega) (by omega)), show nI w - 1 = nI (w - 1) from pk_sub (b := 1) (by omega), i2, p_some, decide_eq_false (show ¬ wv D c p q ≤ 0 by omega), Bool.false_or, decide_eq_false (show ¬ 6 ≤ q by omega), Bool.false_or]
          cases V D c n d p (q + 1) <;> rfl
