/-! ===== copyFrom ===== -/
def CP (b b2 : Nat) (I0 I : ax_I) (P : Nat → Nat → Prop) : Prop := (∀ r j, (r < b ∨ b + 12 ≤ r) → I r j = I0 r j) ∧ ∀ q j, q ≤ 11 → P q j → I (b + q) j = I0 (b2 + q) j
theorem cp_u {b b2 : Nat} {I0 I : ax_I} {P : Nat → Nat → Prop} (hd : b + 12 ≤ b2 ∨ b2 + 12 ≤ b) (h : CP b b2 I0 I P) (j0 : Nat) : CP b b2 I0 (ax_u I b j0 (I b2 j0)) (fun q j => P q j ∨ (q = 0 ∧ j = j0)) := by
  refine ⟨fun r j hr => by rw [ax_u_n (by omega)]; exact h.1 r j hr, ?_⟩
  intro q j hq hp
  rw [ax_u_at]
  by_cases e : b + q = b ∧ j = j0
  · rw [if_pos e]
    have e0 : q = 0 := by omega
    rw [h.1 b2 j0 (by omega), e0, e.2]; rfl
  · rw [if_neg e]
    rcases hp with hp | hp
    · exact h.2 q j hq hp
    · omega
theorem cp_r {b b2 : Nat} {I0 I : ax_I} {P : Nat → Nat → Prop} (hd : b + 12 ≤ b2 ∨ b2 + 12 ≤ b) (k n : Nat) (hk : k ≤ 11) (h : CP b b2 I0 I P) : CP b b2 I0 (ax_r I (b + k) (va_cpy (I (b2 + k)) (I (b + k)) 0 0 n)) (fun q j => P q j ∨ (q = k ∧ j < n)) := by
  refine ⟨fun r j hr => by rw [ax_r_n (by omega)]; exact h.1 r j hr, ?_⟩
  intro q j hq hp
  by_cases e : q = k
  · rw [e, ax_r_s]
    by_cases hj : j < n
    · rw [pk_cpy_in (Nat.zero_le _) (by omega), Nat.zero_add, Nat.sub_zero]
      exact h.1 _ _ (by omega)
    · rw [pk_cpy_out (by omega)]
      rcases hp with hp | hp
      · rw [e] at hp; exact h.2 k j hk hp
      · omega
  · rw [ax_r_n (by omega)]
    rcases hp with hp | hp
    · exact h.2 q j hq hp
    · exact absurd hp.1 e
