/-! ===== passAll ===== -/
def kr (i : Nat) : Nat := if i < 3 then 35 else if i < 9 then 36 else if i < 15 then 37 else if i < 21 then 38 else if i < 27 then 39 else if i < 75 then 40 else if i < 81 then 41 else if i < 87 then 42 else if i < 93 then 43 else if i < 97 then 44 else if i < 100 then 45 else if i < 108 then 46 else if i < 116 then 47 else if i < 124 then 48 else if i < 132 then 49 else 99
def kj (i : Nat) : Nat := if i = 0 then 0 else if i = 1 then 1 else if i < 3 then 16 else if i < 9 then i - 3 else if i < 15 then i - 9 else if i < 21 then i - 15 else if i < 27 then i - 21 else if i < 75 then i - 27 else if i < 81 then i - 75 else if i < 87 then i - 81 else if i < 93 then i - 87 else if i < 97 then i - 93 else if i < 100 then i - 97 else if i < 108 then i - 100 else if i < 116 then i - 108 else if i < 124 then i - 116 else if i < 132 then i - 124 else 0
/-- the model's cell at place i of an image -/
def kv (I : ax_I) (i : Nat) : Int32 := I (kr i) (kj i)
/-- written as far as o -/
def WS (I0 I : ax_I) (a o : Nat) : Prop := (∀ r j, r ≠ 59 → ¬ (r = 35 ∧ j = 36) → I r j = I0 r j) ∧ I 35 36 = nI (a + o) ∧ (∀ i, i < o → I 59 (a + i) = kv I0 i) ∧ (∀ j, (j < a ∨ a + o ≤ j) → I 59 j = I0 59 j)
theorem ws_row {I0 I : ax_I} {a o k1 n1 : Nat} (hw : I0 35 37 = 1) (h : WS I0 I a o) (hk : k1 ≠ 35 ∧ k1 ≠ 59) (hl : a + 132 ≤ 320) (hn : n1 ≤ 48) (ho : o + n1 ≤ 132) (hc : ∀ j, j < n1 → kr (o + j) = k1 ∧ kj (o + j) = j) : ∃ I', F_X7_passRow I k1 n1 (nI n1) = some I' ∧ WS I0 I' a (o + n1) := by
  obtain ⟨h1, h2, h3, h4⟩ := h
  obtain ⟨I', g, g1, g2, g3, g4⟩ := row_w (I := I) (n1 := n1) hk ((h1 35 37 (by decide) (by omega)).trans hw) h2 (by omega) hn
  refine ⟨I', g, fun r j q1 q2 => (g1 r j q1 q2).trans (h1 r j q1 q2), by rw [g2, Nat.add_assoc], ?_, fun j hj => (g4 j (by omega)).trans (h4 j (by omega))⟩
  intro i hi
  by_cases e : i < o
  · exact (g4 (a + i) (by omega)).trans (h3 i e)
  · have q := g3 (i - o) (by omega)
    obtain ⟨c1, c2⟩ := hc (i - o) (by omega)
    rw [show o + (i - o) = i by omega] at c1 c2
    rw [show a + o + (i - o) = a + i by omega] at q
    rw [q, kv, c1, c2]
    exact h1 _ _ hk.2 (fun e => hk.1 e.1)
/-- read as far as o -/
def RS (I0 I : ax_I) (a o : Nat) : Prop := (∀ r j, (r < 35 ∨ 49 < r) → I r j = I0 r j) ∧ (∀ j, j ≠ 0 → j ≠ 1 → j ≠ 16 → j ≠ 36 → I 35 j = I0 35 j) ∧ I 35 36 = nI (a + o) ∧ (∀ i, i < o → kv I i = I0 59 (a + i))
theorem rs_row {I0 I : ax_I} {a o k1 n1 : Nat} (hw : I0 35 37 = 0) (h : RS I0 I a o) (hk : 36 ≤ k1 ∧ k1 ≤ 49) (hl : a + 132 ≤ 320) (hn : n1 ≤ 48) (ho : o + n1 ≤ 132) (hc : ∀ j, j < n1 → kr (o + j) = k1 ∧ kj (o + j) = j) (hd : ∀ i, i < o → kr i ≠ k1 ∧ ¬ (kr i = 35 ∧ kj i = 36)) : ∃ I', F_X7_passRow I k1 n1 (nI n1) = some I' ∧ RS I0 I' a (o + n1) := by
  obtain ⟨h1, h2, h3, h4⟩ := h
  obtain ⟨I', g, g1, g2, g3, g4⟩ := row_r (I := I) (n1 := n1) (k1 := k1) ⟨by omega, by omega⟩ ((h2 37 (by decide) (by decide) (by decide) (by decide)).trans hw) h3 (by omega) hn
  refine ⟨I', g, fun r j q => (g1 r j (by omega) (by omega)).trans (h1 r j q), fun j q1 q2 q3 q4 => (g1 35 j (by omega) (by omega)).trans (h2 j q1 q2 q3 q4), by rw [g2, Nat.add_assoc], ?_⟩
  intro i hi
  by_cases e : i < o
  · obtain ⟨d1, d2⟩ := hd i e
    exact (g1 _ _ d1 d2).trans (h4 i e)
  · have q := g3 (i - o) (by omega)
    obtain ⟨c1, c2⟩ := hc (i - o) (by omega)
    rw [show o + (i - o) = i by omega] at c1 c2
    rw [show a + o + (i - o) = a + i by omega] at q
    rw [kv, c1, c2, q]
    exact h1 _ _ (by omega)
theorem kc_36 : (∀ j, j < 6 → kr (3 + j) = 36 ∧ kj (3 + j) = j) ∧ ∀ i, i < 3 → kr i ≠ 36 ∧ ¬ (kr i = 35 ∧ kj i = 36) := by decide +kernel
theorem kc_37 : (∀ j, j < 6 → kr (9 + j) = 37 ∧ kj (9 + j) = j) ∧ ∀ i, i < 9 → kr i ≠ 37 ∧ ¬ (kr i = 35 ∧ kj i = 36) := by decide +kernel
theorem kc_38 : (∀ j, j < 6 → kr (15 + j) = 38 ∧ kj (15 + j) = j) ∧ ∀ i, i < 15 → kr i ≠ 38 ∧ ¬ (kr i = 35 ∧ kj i = 36) := by decide +kernel
theorem kc_39 : (∀ j, j < 6 → kr (21 + j) = 39 ∧ kj (21 + j) = j) ∧ ∀ i, i < 21 → kr i ≠ 39 ∧ ¬ (kr i = 35 ∧ kj i = 36) := by decide +kernel
theorem kc_40 : (∀ j, j < 48 → kr (27 + j) = 40 ∧ kj (27 + j) = j) ∧ ∀ i, i < 27 → kr i ≠ 40 ∧ ¬ (kr i = 35 ∧ kj i = 36) := by decide +kernel
theorem kc_41 : (∀ j, j < 6 → kr (75 + j) = 41 ∧ kj (75 + j) = j) ∧ ∀ i, i < 75 → kr i ≠ 41 ∧ ¬ (kr i = 35 ∧ kj i = 36) := by decide +kernel
theorem kc_42 : (∀ j, j < 6 → kr (81 + j) = 42 ∧ kj (81 + j) = j) ∧ ∀ i, i < 81 → kr i ≠ 42 ∧ ¬ (kr i = 35 ∧ kj i = 36) := by decide +kernel
theorem kc_43 : (∀ j, j < 6 → kr (87 + j) = 43 ∧ kj (87 + j) = j) ∧ ∀ i, i < 87 → kr i ≠ 43 ∧ ¬ (kr i = 35 ∧ kj i = 36) := by decide +kernel
theorem kc_44 : (∀ j, j < 4 → kr (93 + j) = 44 ∧ kj (93 + j) = j) ∧ ∀ i, i < 93 → kr i ≠ 44 ∧ ¬ (kr i = 35 ∧ kj i = 36) := by decide +kernel
theorem kc_45 : (∀ j, j < 3 → kr (97 + j) = 45 ∧ kj (97 + j) = j) ∧ ∀ i, i < 97 → kr i ≠ 45 ∧ ¬ (kr i = 35 ∧ kj i = 36) := by decide +kernel
theorem kc_46 : (∀ j, j < 8 → kr (100 + j) = 46 ∧ kj (100 + j) = j) ∧ ∀ i, i < 100 → kr i ≠ 46 ∧ ¬ (kr i = 35 ∧ kj i = 36) := by decide +kernel
theorem kc_47 : (∀ j, j < 8 → kr (108 + j) = 47 ∧ kj (108 + j) = j) ∧ ∀ i, i < 108 → kr i ≠ 47 ∧ ¬ (kr i = 35 ∧ kj i = 36) := by decide +kernel
theorem kc_48 : (∀ j, j < 8 → kr (116 + j) = 48 ∧ kj (116 + j) = j) ∧ ∀ i, i < 116 → kr i ≠ 48 ∧ ¬ (kr i = 35 ∧ kj i = 36) := by decide +kernel
theorem kc_49 : (∀ j, j < 8 → kr (124 + j) = 49 ∧ kj (124 + j) = j) ∧ ∀ i, i < 124 → kr i ≠ 49 ∧ ¬ (kr i = 35 ∧ kj i = 36) := by decide +kernel
