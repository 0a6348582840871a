/-! ===== one number anew, and what stays (written by frames.py) ===== -/
def pU (D : pD) (r c v : Nat) : pD := fun r' c' => if r' = r ∧ c' = c then v else D r' c'
theorem pU_s (D : pD) (r c v : Nat) : pU D r c v r c = v := by simp [pU]
theorem pU_r {D : pD} {r c v r' c' : Nat} (h : r' ≠ r) : pU D r c v r' c' = D r' c' := by simp [pU, h]
theorem pU_c {D : pD} {r c v c' : Nat} (h : c' ≠ c) : pU D r c v r c' = D r c' := by simp [pU, h]
theorem ax_u_ss (I : ax_I) (k j : Nat) (x : Int32) : ax_u I k j x k j = x := by simp [ax_u, upd]
theorem ax_u_nj {I : ax_I} {k j : Nat} {x : Int32} {j' : Nat} (h : j' ≠ j) : ax_u I k j x k j' = I k j' := by simp [ax_u, upd, h]
theorem ax_u_at (I : ax_I) (k j : Nat) (x : Int32) (k' j' : Nat) : ax_u I k j x k' j' = if k' = k ∧ j' = j then x else I k' j' := by
  unfold ax_u upd
  by_cases h : k' = k
  · subst h; simp
  · simp [h]
theorem CRs_1 {I : ax_I} {b : Nat} {D : pD} {c v : Nat} (h : CR I b D) : CR (ax_u I (b + 1) c (nI v)) b (pU D 1 c v) := by
  obtain ⟨h0, h1, h2, h3, h4, h5, h6, h7, h8, h9, h10, h11, h12, h13, h14, h15⟩ := h
  refine ⟨?_, ?_, ?_, ?_, ?_, ?_, ?_, ?_, ?_, ?_, ?_, ?_, ?_, ?_, ?_, ?_⟩
  · rw [ax_u_n (by omega), pU_r (by decide)]; exact h0
  · rw [ax_u_n (by omega), pU_r (by decide)]; exact h1
  · rw [ax_u_n (by omega), pU_r (by decide)]; exact h2
  · rw [ax_u_n (by omega), pU_r (by decide)]; exact h3
  · rw [ax_u_n (by omega), pU_r (by decide)]; exact h4
  · intro j hj
    by_cases e : j = c
    · subst e; rw [ax_u_ss, pU_s]
    · rw [ax_u_nj e, pU_c e]; exact h5 j hj
  · intro j hj; rw [ax_u_n (by omega), pU_r (by decide)]; exact h6 j hj
  · intro j hj; rw [ax_u_n (by omega), pU_r (by decide)]; exact h7 j hj
  · intro j hj; rw [ax_u_n (by omega), pU_r (by decide)]; exact h8 j hj
  · intro j hj; rw [ax_u_n (by omega), pU_r (by decide)]; exact h9 j hj
  · intro j hj; rw [ax_u_n (by omega), pU_r (by decide)]; exact h10 j hj
  · intro j hj; rw [ax_u_n (by omega), pU_r (by decide)]; exact h11 j hj
  · intro j hj; rw [ax_u_n (by omega), pU_r (by decide)]; exact h12 j hj
  · intro j hj; rw [ax_u_n (by omega), pU_r (by decide)]; exact h13 j hj
  · intro j hj; rw [ax_u_n (by omega), pU_r (by decide)]; exact h14 j hj
  · intro j hj; rw [pU_r (by decide)] at hj; rw [ax_u_n (by omega), pU_r (by decide), pU_r (by decide)]; exact h15 j hj
theorem CRs_2 {I : ax_I} {b : Nat} {D : pD} {c v : Nat} (h : CR I b D) : CR (ax_u I (b + 2) c (nI v)) b (pU D 2 c v) := by
  obtain ⟨h0, h1, h2, h3, h4, h5, h6, h7, h8, h9, h10, h11, h12, h13, h14, h15⟩ := h
  refine ⟨?_, ?_, ?_, ?_, ?_, ?_, ?_, ?_, ?_, ?_, ?_, ?_, ?_, ?_, ?_, ?_⟩
  · rw [ax_u_n (by omega), pU_r (by decide)]; exact h0
  · rw [ax_u_n (by omega), pU_r (by decide)]; exact h1
  · rw [ax_u_n (by omega), pU_r (by decide)]; exact h2
  · rw [ax_u_n (by omega), pU_r (by decide)]; exact h3
  · rw [ax_u_n (by omega), pU_r (by decide)]; exact h4
  · intro j hj; rw [ax_u_n (by omega), pU_r (by decide)]; exact h5 j hj
  · intro j hj
    by_cases e : j = c
    · subst e; rw [ax_u_ss, pU_s]
    · rw [ax_u_nj e, pU_c e]; exact h6 j hj
  · intro j hj; rw [ax_u_n (by omega), pU_r (by decide)]; exact h7 j hj
  · intro j hj; rw [ax_u_n (by omega), pU_r (by decide)]; exact h8 j hj
  · intro j hj; rw [ax_u_n (by omega), pU_r (by decide)]; exact h9 j hj
  · intro j hj; rw [ax_u_n (by omega), pU_r (by decide)]; exact h10 j hj
  · intro j hj; rw [ax_u_n (by omega), pU_r (by decide)]; exact h11 j hj
  · intro j hj; rw [ax_u_n (by omega), pU_r (by decide)]; exact h12 j hj
  · intro j hj; rw [ax_u_n (by omega), pU_r (by decide)]; exact h13 j hj
  · intro j hj; rw [ax_u_n (by omega), pU_r (by decide)]; exact h14 j hj
  · intro j hj; rw [pU_r (by decide)] at hj; rw [ax_u_n (by omega), pU_r (by decide), pU_r (by decide)]; exact h15 j hj
theorem CRs_3 {I : ax_I} {b : Nat} {D : pD} {c v : Nat} (h : CR I b D) : CR (ax_u I (b + 3) c (nI v)) b (pU D 3 c v) := by
  obtain ⟨h0, h1, h2, h3, h4, h5, h6, h7, h8, h9, h10, h11, h12, h13, h14, h15⟩ := h
  refine ⟨?_, ?_, ?_, ?_, ?_, ?_, ?_, ?_, ?_, ?_, ?_, ?_, ?_, ?_, ?_, ?_⟩
  · rw [ax_u_n (by omega), pU_r (by decide)]; exact h0
  · rw [ax_u_n (by omega), pU_r (by decide)]; exact h1
  · rw [ax_u_n (by omega), pU_r (by decide)]; exact h2
  · rw [ax_u_n (by omega), pU_r (by decide)]; exact h3
  · rw [ax_u_n (by omega), pU_r (by decide)]; exact h4
  · intro j hj; rw [ax_u_n (by omega), pU_r (by decide)]; exact h5 j hj
  · intro j hj; rw [ax_u_n (by omega), pU_r (by decide)]; exact h6 j hj
  · intro j hj
    by_cases e : j = c
    · subst e; rw [ax_u_ss, pU_s]
    · rw [ax_u_nj e, pU_c e]; exact h7 j hj
  · intro j hj; rw [ax_u_n (by omega), pU_r (by decide)]; exact h8 j hj
  · intro j hj; rw [ax_u_n (by omega), pU_r (by decide)]; exact h9 j hj
  · intro j hj; rw [ax_u_n (by omega), pU_r (by decide)]; exact h10 j hj
  · intro j hj; rw [ax_u_n (by omega), pU_r (by decide)]; exact h11 j hj
  · intro j hj; rw [ax_u_n (by omega), pU_r (by decide)]; exact h12 j hj
  · intro j hj; rw [ax_u_n (by omega), pU_r (by decide)]; exact h13 j hj
  · intro j hj; rw [ax_u_n (by omega), pU_r (by decide)]; exact h14 j hj
  · intro j hj; rw [pU_r (by decide)] at hj; rw [ax_u_n (by omega), pU_r (by decide), pU_r (by decide)]; exact h15 j hj
theorem CRs_4 {I : ax_I} {b : Nat} {D : pD} {c v : Nat} (h : CR I b D) : CR (ax_u I (b + 4) c (hv v)) b (pU D 5 c v) := by
  obtain ⟨h0, h1, h2, h3, h4, h5, h6, h7, h8, h9, h10, h11, h12, h13, h14, h15⟩ := h
  refine ⟨?_, ?_, ?_, ?_, ?_, ?_, ?_, ?_, ?_, ?_, ?_, ?_, ?_, ?_, ?_, ?_⟩
  · rw [ax_u_n (by omega), pU_r (by decide)]; exact h0
  · rw [ax_u_n (by omega), pU_r (by decide)]; exact h1
  · rw [ax_u_n (by omega), pU_r (by decide)]; exact h2
  · rw [ax_u_n (by omega), pU_r (by decide)]; exact h3
  · rw [ax_u_n (by omega), pU_r (by decide)]; exact h4
  · intro j hj; rw [ax_u_n (by omega), pU_r (by decide)]; exact h5 j hj
  · intro j hj; rw [ax_u_n (by omega), pU_r (by decide)]; exact h6 j hj
  · intro j hj; rw [ax_u_n (by omega), pU_r (by decide)]; exact h7 j hj
  · intro j hj
    by_cases e : j = c
    · subst e; rw [ax_u_ss, pU_s]
    · rw [ax_u_nj e, pU_c e]; exact h8 j hj
  · intro j hj; rw [ax_u_n (by omega), pU_r (by decide)]; exact h9 j hj
  · intro j hj; rw [ax_u_n (by omega), pU_r (by decide)]; exact h10 j hj
  · intro j hj; rw [ax_u_n (by omega), pU_r (by decide)]; exact h11 j hj
  · intro j hj; rw [ax_u_n (by omega), pU_r (by decide)]; exact h12 j hj
  · intro j hj; rw [ax_u_n (by omega), pU_r (by decide)]; exact h13 j hj
  · intro j hj; rw [ax_u_n (by omega), pU_r (by decide)]; exact h14 j hj
  · intro j hj; rw [pU_r (by decide)] at hj; rw [ax_u_n (by omega), pU_r (by decide), pU_r (by decide)]; exact h15 j hj
theorem CRs_5 {I : ax_I} {b : Nat} {D : pD} {c v : Nat} (h : CR I b D) : CR (ax_u I (b + 5) c (nI v)) b (pU D 6 c v) := by
  obtain ⟨h0, h1, h2, h3, h4, h5, h6, h7, h8, h9, h10, h11, h12, h13, h14, h15⟩ := h
  refine ⟨?_, ?_, ?_, ?_, ?_, ?_, ?_, ?_, ?_, ?_, ?_, ?_, ?_, ?_, ?_, ?_⟩
  · rw [ax_u_n (by omega), pU_r (by decide)]; exact h0
  · rw [ax_u_n (by omega), pU_r (by decide)]; exact h1
  · rw [ax_u_n (by omega), pU_r (by decide)]; exact h2
  · rw [ax_u_n (by omega), pU_r (by decide)]; exact h3
  · rw [ax_u_n (by omega), pU_r (by decide)]; exact h4
  · intro j hj; rw [ax_u_n (by omega), pU_r (by decide)]; exact h5 j hj
  · intro j hj; rw [ax_u_n (by omega), pU_r (by decide)]; exact h6 j hj
  · intro j hj; rw [ax_u_n (by omega), pU_r (by decide)]; exact h7 j hj
  · intro j hj; rw [ax_u_n (by omega), pU_r (by decide)]; exact h8 j hj
  · intro j hj
    by_cases e : j = c
    · subst e; rw [ax_u_ss, pU_s]
    · rw [ax_u_nj e, pU_c e]; exact h9 j hj
  · intro j hj; rw [ax_u_n (by omega), pU_r (by decide)]; exact h10 j hj
  · intro j hj; rw [ax_u_n (by omega), pU_r (by decide)]; exact h11 j hj
  · intro j hj; rw [ax_u_n (by omega), pU_r (by decide)]; exact h12 j hj
  · intro j hj; rw [ax_u_n (by omega), pU_r (by decide)]; exact h13 j hj
  · intro j hj; rw [ax_u_n (by omega), pU_r (by decide)]; exact h14 j hj
  · intro j hj; rw [pU_r (by decide)] at hj; rw [ax_u_n (by omega), pU_r (by decide), pU_r (by decide)]; exact h15 j hj
theorem CRs_6 {I : ax_I} {b : Nat} {D : pD} {c v : Nat} (h : CR I b D) : CR (ax_u I (b + 6) c (nI v)) b (pU D 7 c v) := by
  obtain ⟨h0, h1, h2, h3, h4, h5, h6, h7, h8, h9, h10, h11, h12, h13, h14, h15⟩ := h
  refine ⟨?_, ?_, ?_, ?_, ?_, ?_, ?_, ?_, ?_, ?_, ?_, ?_, ?_, ?_, ?_, ?_⟩
  · rw [ax_u_n (by omega), pU_r (by decide)]; exact h0
  · rw [ax_u_n (by omega), pU_r (by decide)]; exact h1
  · rw [ax_u_n (by omega), pU_r (by decide)]; exact h2
  · rw [ax_u_n (by omega), pU_r (by decide)]; exact h3
  · rw [ax_u_n (by omega), pU_r (by decide)]; exact h4
  · intro j hj; rw [ax_u_n (by omega), pU_r (by decide)]; exact h5 j hj
  · intro j hj; rw [ax_u_n (by omega), pU_r (by decide)]; exact h6 j hj
  · intro j hj; rw [ax_u_n (by omega), pU_r (by decide)]; exact h7 j hj
  · intro j hj; rw [ax_u_n (by omega), pU_r (by decide)]; exact h8 j hj
  · intro j hj; rw [ax_u_n (by omega), pU_r (by decide)]; exact h9 j hj
  · intro j hj
    by_cases e : j = c
    · subst e; rw [ax_u_ss, pU_s]
    · rw [ax_u_nj e, pU_c e]; exact h10 j hj
  · intro j hj; rw [ax_u_n (by omega), pU_r (by decide)]; exact h11 j hj
  · intro j hj; rw [ax_u_n (by omega), pU_r (by decide)]; exact h12 j hj
  · intro j hj; rw [ax_u_n (by omega), pU_r (by decide)]; exact h13 j hj
  · intro j hj; rw [ax_u_n (by omega), pU_r (by decide)]; exact h14 j hj
  · intro j hj; rw [pU_r (by decide)] at hj; rw [ax_u_n (by omega), pU_r (by decide), pU_r (by decide)]; exact h15 j hj
theorem CRs_7 {I : ax_I} {b : Nat} {D : pD} {c v : Nat} (h : CR I b D) : CR (ax_u I (b + 7) c (nI v)) b (pU D 8 c v) := by
  obtain ⟨h0, h1, h2, h3, h4, h5, h6, h7, h8, h9, h10, h11, h12, h13, h14, h15⟩ := h
  refine ⟨?_, ?_, ?_, ?_, ?_, ?_, ?_, ?_, ?_, ?_, ?_, ?_, ?_, ?_, ?_, ?_⟩
  · rw [ax_u_n (by omega), pU_r (by decide)]; exact h0
  · rw [ax_u_n (by omega), pU_r (by decide)]; exact h1
  · rw [ax_u_n (by omega), pU_r (by decide)]; exact h2
  · rw [ax_u_n (by omega), pU_r (by decide)]; exact h3
  · rw [ax_u_n (by omega), pU_r (by decide)]; exact h4
  · intro j hj; rw [ax_u_n (by omega), pU_r (by decide)]; exact h5 j hj
  · intro j hj; rw [ax_u_n (by omega), pU_r (by decide)]; exact h6 j hj
  · intro j hj; rw [ax_u_n (by omega), pU_r (by decide)]; exact h7 j hj
  · intro j hj; rw [ax_u_n (by omega), pU_r (by decide)]; exact h8 j hj
  · intro j hj; rw [ax_u_n (by omega), pU_r (by decide)]; exact h9 j hj
  · intro j hj; rw [ax_u_n (by omega), pU_r (by decide)]; exact h10 j hj
  · intro j hj
    by_cases e : j = c
    · subst e; rw [ax_u_ss, pU_s]
    · rw [ax_u_nj e, pU_c e]; exact h11 j hj
  · intro j hj; rw [ax_u_n (by omega), pU_r (by decide)]; exact h12 j hj
  · intro j hj; rw [ax_u_n (by omega), pU_r (by decide)]; exact h13 j hj
  · intro j hj; rw [ax_u_n (by omega), pU_r (by decide)]; exact h14 j hj
  · intro j hj; rw [pU_r (by decide)] at hj; rw [ax_u_n (by omega), pU_r (by decide), pU_r (by decide)]; exact h15 j hj
theorem CRs_8 {I : ax_I} {b : Nat} {D : pD} {c v : Nat} (h : CR I b D) : CR (ax_u I (b + 8) c (nI v)) b (pU D 9 c v) := by
  obtain ⟨h0, h1, h2, h3, h4, h5, h6, h7, h8, h9, h10, h11, h12, h13, h14, h15⟩ := h
  refine ⟨?_, ?_, ?_, ?_, ?_, ?_, ?_, ?_, ?_, ?_, ?_, ?_, ?_, ?_, ?_, ?_⟩
  · rw [ax_u_n (by omega), pU_r (by decide)]; exact h0
  · rw [ax_u_n (by omega), pU_r (by decide)]; exact h1
  · rw [ax_u_n (by omega), pU_r (by decide)]; exact h2
  · rw [ax_u_n (by omega), pU_r (by decide)]; exact h3
  · rw [ax_u_n (by omega), pU_r (by decide)]; exact h4
  · intro j hj; rw [ax_u_n (by omega), pU_r (by decide)]; exact h5 j hj
  · intro j hj; rw [ax_u_n (by omega), pU_r (by decide)]; exact h6 j hj
  · intro j hj; rw [ax_u_n (by omega), pU_r (by decide)]; exact h7 j hj
  · intro j hj; rw [ax_u_n (by omega), pU_r (by decide)]; exact h8 j hj
  · intro j hj; rw [ax_u_n (by omega), pU_r (by decide)]; exact h9 j hj
  · intro j hj; rw [ax_u_n (by omega), pU_r (by decide)]; exact h10 j hj
  · intro j hj; rw [ax_u_n (by omega), pU_r (by decide)]; exact h11 j hj
  · intro j hj
    by_cases e : j = c
    · subst e; rw [ax_u_ss, pU_s]
    · rw [ax_u_nj e, pU_c e]; exact h12 j hj
  · intro j hj; rw [ax_u_n (by omega), pU_r (by decide)]; exact h13 j hj
  · intro j hj; rw [ax_u_n (by omega), pU_r (by decide)]; exact h14 j hj
  · intro j hj; rw [pU_r (by decide)] at hj; rw [ax_u_n (by omega), pU_r (by decide), pU_r (by decide)]; exact h15 j hj
theorem CRs_9 {I : ax_I} {b : Nat} {D : pD} {c v : Nat} (h : CR I b D) : CR (ax_u I (b + 9) c (nI v)) b (pU D 10 c v) := by
  obtain ⟨h0, h1, h2, h3, h4, h5, h6, h7, h8, h9, h10, h11, h12, h13, h14, h15⟩ := h
  refine ⟨?_, ?_, ?_, ?_, ?_, ?_, ?_, ?_, ?_, ?_, ?_, ?_, ?_, ?_, ?_, ?_⟩
  · rw [ax_u_n (by omega), pU_r (by decide)]; exact h0
  · rw [ax_u_n (by omega), pU_r (by decide)]; exact h1
  · rw [ax_u_n (by omega), pU_r (by decide)]; exact h2
  · rw [ax_u_n (by omega), pU_r (by decide)]; exact h3
  · rw [ax_u_n (by omega), pU_r (by decide)]; exact h4
  · intro j hj; rw [ax_u_n (by omega), pU_r (by decide)]; exact h5 j hj
  · intro j hj; rw [ax_u_n (by omega), pU_r (by decide)]; exact h6 j hj
  · intro j hj; rw [ax_u_n (by omega), pU_r (by decide)]; exact h7 j hj
  · intro j hj; rw [ax_u_n (by omega), pU_r (by decide)]; exact h8 j hj
  · intro j hj; rw [ax_u_n (by omega), pU_r (by decide)]; exact h9 j hj
  · intro j hj; rw [ax_u_n (by omega), pU_r (by decide)]; exact h10 j hj
  · intro j hj; rw [ax_u_n (by omega), pU_r (by decide)]; exact h11 j hj
  · intro j hj; rw [ax_u_n (by omega), pU_r (by decide)]; exact h12 j hj
  · intro j hj
    by_cases e : j = c
    · subst e; rw [ax_u_ss, pU_s]
    · rw [ax_u_nj e, pU_c e]; exact h13 j hj
  · intro j hj; rw [ax_u_n (by omega), pU_r (by decide)]; exact h14 j hj
  · intro j hj; rw [pU_r (by decide)] at hj; rw [ax_u_n (by omega), pU_r (by decide), pU_r (by decide)]; exact h15 j hj
theorem CRs_10 {I : ax_I} {b : Nat} {D : pD} {c v : Nat} (h : CR I b D) : CR (ax_u I (b + 10) c (nI v)) b (pU D 11 c v) := by
  obtain ⟨h0, h1, h2, h3, h4, h5, h6, h7, h8, h9, h10, h11, h12, h13, h14, h15⟩ := h
  refine ⟨?_, ?_, ?_, ?_, ?_, ?_, ?_, ?_, ?_, ?_, ?_, ?_, ?_, ?_, ?_, ?_⟩
  · rw [ax_u_n (by omega), pU_r (by decide)]; exact h0
  · rw [ax_u_n (by omega), pU_r (by decide)]; exact h1
  · rw [ax_u_n (by omega), pU_r (by decide)]; exact h2
  · rw [ax_u_n (by omega), pU_r (by decide)]; exact h3
  · rw [ax_u_n (by omega), pU_r (by decide)]; exact h4
  · intro j hj; rw [ax_u_n (by omega), pU_r (by decide)]; exact h5 j hj
  · intro j hj; rw [ax_u_n (by omega), pU_r (by decide)]; exact h6 j hj
  · intro j hj; rw [ax_u_n (by omega), pU_r (by decide)]; exact h7 j hj
  · intro j hj; rw [ax_u_n (by omega), pU_r (by decide)]; exact h8 j hj
  · intro j hj; rw [ax_u_n (by omega), pU_r (by decide)]; exact h9 j hj
  · intro j hj; rw [ax_u_n (by omega), pU_r (by decide)]; exact h10 j hj
  · intro j hj; rw [ax_u_n (by omega), pU_r (by decide)]; exact h11 j hj
  · intro j hj; rw [ax_u_n (by omega), pU_r (by decide)]; exact h12 j hj
  · intro j hj; rw [ax_u_n (by omega), pU_r (by decide)]; exact h13 j hj
  · intro j hj
    by_cases e : j = c
    · subst e; rw [ax_u_ss, pU_s]
    · rw [ax_u_nj e, pU_c e]; exact h14 j hj
  · intro j hj; rw [pU_r (by decide)] at hj; rw [ax_u_n (by omega), pU_r (by decide), pU_r (by decide)]; exact h15 j hj
theorem CRb_0 {I : ax_I} {b : Nat} {D : pD} {v : Nat} (h : CR I b D) : CR (ax_u I b 0 (nI v)) b (pU D 0 0 v) := by
  obtain ⟨h0, h1, h2, h3, h4, h5, h6, h7, h8, h9, h10, h11, h12, h13, h14, h15⟩ := h
  refine ⟨?_, ?_, ?_, ?_, ?_, ?_, ?_, ?_, ?_, ?_, ?_, ?_, ?_, ?_, ?_, ?_⟩
  · rw [ax_u_ss, pU_s]
  · rw [ax_u_nj (by decide), pU_c (by decide)]; exact h1
  · rw [ax_u_nj (by decide), pU_c (by decide)]; exact h2
  · rw [ax_u_nj (by decide), pU_c (by decide)]; exact h3
  · rw [ax_u_nj (by decide), pU_c (by decide)]; exact h4
  · intro j hj; rw [ax_u_n (by omega), pU_r (by decide)]; exact h5 j hj
  · intro j hj; rw [ax_u_n (by omega), pU_r (by decide)]; exact h6 j hj
  · intro j hj; rw [ax_u_n (by omega), pU_r (by decide)]; exact h7 j hj
  · intro j hj; rw [ax_u_n (by omega), pU_r (by decide)]; exact h8 j hj
  · intro j hj; rw [ax_u_n (by omega), pU_r (by decide)]; exact h9 j hj
  · intro j hj; rw [ax_u_n (by omega), pU_r (by decide)]; exact h10 j hj
  · intro j hj; rw [ax_u_n (by omega), pU_r (by decide)]; exact h11 j hj
  · intro j hj; rw [ax_u_n (by omega), pU_r (by decide)]; exact h12 j hj
  · intro j hj; rw [ax_u_n (by omega), pU_r (by decide)]; exact h13 j hj
  · intro j hj; rw [ax_u_n (by omega), pU_r (by decide)]; exact h14 j hj
  · intro j hj; rw [pU_c (by decide)] at hj; rw [ax_u_n (by omega), pU_r (by decide), pU_r (by decide)]; exact h15 j hj
theorem CRb_1 {I : ax_I} {b : Nat} {D : pD} {v : Nat} (h : CR I b D) : CR (ax_u I b 1 (nI v)) b (pU D 0 3 v) := by
  obtain ⟨h0, h1, h2, h3, h4, h5, h6, h7, h8, h9, h10, h11, h12, h13, h14, h15⟩ := h
  refine ⟨?_, ?_, ?_, ?_, ?_, ?_, ?_, ?_, ?_, ?_, ?_, ?_, ?_, ?_, ?_, ?_⟩
  · rw [ax_u_nj (by decide), pU_c (by decide)]; exact h0
  · rw [ax_u_ss, pU_s]
  · rw [ax_u_nj (by decide), pU_c (by decide)]; exact h2
  · rw [ax_u_nj (by decide), pU_c (by decide)]; exact h3
  · rw [ax_u_nj (by decide), pU_c (by decide)]; exact h4
  · intro j hj; rw [ax_u_n (by omega), pU_r (by decide)]; exact h5 j hj
  · intro j hj; rw [ax_u_n (by omega), pU_r (by decide)]; exact h6 j hj
  · intro j hj; rw [ax_u_n (by omega), pU_r (by decide)]; exact h7 j hj
  · intro j hj; rw [ax_u_n (by omega), pU_r (by decide)]; exact h8 j hj
  · intro j hj; rw [ax_u_n (by omega), pU_r (by decide)]; exact h9 j hj
  · intro j hj; rw [ax_u_n (by omega), pU_r (by decide)]; exact h10 j hj
  · intro j hj; rw [ax_u_n (by omega), pU_r (by decide)]; exact h11 j hj
  · intro j hj; rw [ax_u_n (by omega), pU_r (by decide)]; exact h12 j hj
  · intro j hj; rw [ax_u_n (by omega), pU_r (by decide)]; exact h13 j hj
  · intro j hj; rw [ax_u_n (by omega), pU_r (by decide)]; exact h14 j hj
  · intro j hj; rw [pU_c (by decide)] at hj; rw [ax_u_n (by omega), pU_r (by decide), pU_r (by decide)]; exact h15 j hj
theorem CRb_2 {I : ax_I} {b : Nat} {D : pD} {v : Nat} (h : CR I b D) : CR (ax_u I b 2 (nI v)) b (pU D 0 1 v) := by
  obtain ⟨h0, h1, h2, h3, h4, h5, h6, h7, h8, h9, h10, h11, h12, h13, h14, h15⟩ := h
  refine ⟨?_, ?_, ?_, ?_, ?_, ?_, ?_, ?_, ?_, ?_, ?_, ?_, ?_, ?_, ?_, ?_⟩
  · rw [ax_u_nj (by decide), pU_c (by decide)]; exact h0
  · rw [ax_u_nj (by decide), pU_c (by decide)]; exact h1
  · rw [ax_u_ss, pU_s]
  · rw [ax_u_nj (by decide), pU_c (by decide)]; exact h3
  · rw [ax_u_nj (by decide), pU_c (by decide)]; exact h4
  · intro j hj; rw [ax_u_n (by omega), pU_r (by decide)]; exact h5 j hj
  · intro j hj; rw [ax_u_n (by omega), pU_r (by decide)]; exact h6 j hj
  · intro j hj; rw [ax_u_n (by omega), pU_r (by decide)]; exact h7 j hj
  · intro j hj; rw [ax_u_n (by omega), pU_r (by decide)]; exact h8 j hj
  · intro j hj; rw [ax_u_n (by omega), pU_r (by decide)]; exact h9 j hj
  · intro j hj; rw [ax_u_n (by omega), pU_r (by decide)]; exact h10 j hj
  · intro j hj; rw [ax_u_n (by omega), pU_r (by decide)]; exact h11 j hj
  · intro j hj; rw [ax_u_n (by omega), pU_r (by decide)]; exact h12 j hj
  · intro j hj; rw [ax_u_n (by omega), pU_r (by decide)]; exact h13 j hj
  · intro j hj; rw [ax_u_n (by omega), pU_r (by decide)]; exact h14 j hj
  · intro j hj; rw [pU_c (by decide)] at hj; rw [ax_u_n (by omega), pU_r (by decide), pU_r (by decide)]; exact h15 j hj
theorem CRb_4 {I : ax_I} {b : Nat} {D : pD} {v : Nat} (h : CR I b D) : CR (ax_u I b 4 (nI v)) b (pU D 0 4 v) := by
  obtain ⟨h0, h1, h2, h3, h4, h5, h6, h7, h8, h9, h10, h11, h12, h13, h14, h15⟩ := h
  refine ⟨?_, ?_, ?_, ?_, ?_, ?_, ?_, ?_, ?_, ?_, ?_, ?_, ?_, ?_, ?_, ?_⟩
  · rw [ax_u_nj (by decide), pU_c (by decide)]; exact h0
  · rw [ax_u_nj (by decide), pU_c (by decide)]; exact h1
  · rw [ax_u_nj (by decide), pU_c (by decide)]; exact h2
  · rw [ax_u_nj (by decide), pU_c (by decide)]; exact h3
  · rw [ax_u_ss, pU_s]
  · intro j hj; rw [ax_u_n (by omega), pU_r (by decide)]; exact h5 j hj
  · intro j hj; rw [ax_u_n (by omega), pU_r (by decide)]; exact h6 j hj
  · intro j hj; rw [ax_u_n (by omega), pU_r (by decide)]; exact h7 j hj
  · intro j hj; rw [ax_u_n (by omega), pU_r (by decide)]; exact h8 j hj
  · intro j hj; rw [ax_u_n (by omega), pU_r (by decide)]; exact h9 j hj
  · intro j hj; rw [ax_u_n (by omega), pU_r (by decide)]; exact h10 j hj
  · intro j hj; rw [ax_u_n (by omega), pU_r (by decide)]; exact h11 j hj
  · intro j hj; rw [ax_u_n (by omega), pU_r (by decide)]; exact h12 j hj
  · intro j hj; rw [ax_u_n (by omega), pU_r (by decide)]; exact h13 j hj
  · intro j hj; rw [ax_u_n (by omega), pU_r (by decide)]; exact h14 j hj
  · intro j hj; rw [pU_c (by decide)] at hj; rw [ax_u_n (by omega), pU_r (by decide), pU_r (by decide)]; exact h15 j hj
theorem CR_off {I : ax_I} {b : Nat} {D : pD} {k c : Nat} {x : Int32} (h : CR I b D) (hk : k < b ∨ b + 11 < k) : CR (ax_u I k c x) b D := by
  unfold CR at h ⊢
  have e : ∀ q j, q ≤ 11 → ax_u I k c x (b + q) j = I (b + q) j := fun q j hq => by rw [ax_u_n (by omega)]
  have e0 : ∀ j, ax_u I k c x b j = I b j := fun j => by rw [ax_u_n (by omega)]
  simp only [e0, e 1 _ (by decide), e 2 _ (by decide), e 3 _ (by decide), e 4 _ (by decide), e 5 _ (by decide), e 6 _ (by decide), e 7 _ (by decide), e 8 _ (by decide), e 9 _ (by decide), e 10 _ (by decide), e 11 _ (by decide)]
  exact h
theorem CR_eq {I I2 : ax_I} {b : Nat} {D : pD} (h : CR I b D) (e : ∀ q j, q ≤ 11 → I2 (b + q) j = I (b + q) j) : CR I2 b D := by
  unfold CR at h ⊢
  have e0 : ∀ j, I2 b j = I b j := fun j => e 0 j (by decide)
  simp only [e0, e 1 _ (by decide), e 2 _ (by decide), e 3 _ (by decide), e 4 _ (by decide), e 5 _ (by decide), e 6 _ (by decide), e 7 _ (by decide), e 8 _ (by decide), e 9 _ (by decide), e 10 _ (by decide), e 11 _ (by decide)]
  exact h
theorem MRs_1 {I : ax_I} {D : pD} {c v : Nat} (h : MR I D) : MR (ax_u I 36 c (nI v)) (pU D 1 c v) := by
  obtain ⟨h0, h1, h2, h3, h4, h5, h6, h7, h8, h9, h10, h11, h12, h13, h14, h15, h16⟩ := h
  refine ⟨?_, ?_, ?_, ?_, ?_, ?_, ?_, ?_, ?_, ?_, ?_, ?_, ?_, ?_, ?_, ?_, ?_⟩
  · rw [ax_u_n (by decide), pU_r (by decide)]; exact h0
  · rw [ax_u_n (by decide), pU_r (by decide)]; exact h1
  · rw [ax_u_n (by decide), pU_r (by decide)]; exact h2
  · intro j hj
    show ax_u I _ _ _ 36 j = _
    by_cases e : j = c
    · subst e; rw [ax_u_ss, pU_s]
    · rw [ax_u_nj e, pU_c e]; exact h3 j hj
  · intro j hj; show ax_u I _ _ _ (35 + 2) j = _; rw [ax_u_n (by decide), pU_r (by decide)]; exact h4 j hj
  · intro j hj; show ax_u I _ _ _ (35 + 3) j = _; rw [ax_u_n (by decide), pU_r (by decide)]; exact h5 j hj
  · intro j hj; show ax_u I _ _ _ (35 + 4) j = _; rw [ax_u_n (by decide), pU_r (by decide)]; exact h6 j hj
  · intro j hj; show ax_u I _ _ _ (35 + 5) j = _; rw [ax_u_n (by decide), pU_r (by decide)]; exact h7 j hj
  · intro j hj; show ax_u I _ _ _ (35 + 6) j = _; rw [ax_u_n (by decide), pU_r (by decide)]; exact h8 j hj
  · intro j hj; show ax_u I _ _ _ (35 + 7) j = _; rw [ax_u_n (by decide), pU_r (by decide)]; exact h9 j hj
  · intro j hj; show ax_u I _ _ _ (35 + 8) j = _; rw [ax_u_n (by decide), pU_r (by decide)]; exact h10 j hj
  · intro j hj; show ax_u I _ _ _ (35 + 9) j = _; rw [ax_u_n (by decide), pU_r (by decide)]; exact h11 j hj
  · intro j hj; show ax_u I _ _ _ (35 + 10) j = _; rw [ax_u_n (by decide), pU_r (by decide)]; exact h12 j hj
  · intro j hj; show ax_u I _ _ _ (35 + 11) j = _; rw [ax_u_n (by decide), pU_r (by decide)]; exact h13 j hj
  · intro j hj; rw [pU_r (by decide)] at hj; show ax_u I _ _ _ (35 + 12) j = _; rw [ax_u_n (by decide), pU_r (by decide)]; exact h14 j hj
  · intro j hj; rw [pU_r (by decide)] at hj; show ax_u I _ _ _ (35 + 13) j = _; rw [ax_u_n (by decide), pU_r (by decide)]; exact h15 j hj
  · intro j hj; rw [pU_r (by decide)] at hj; show ax_u I _ _ _ (35 + 14) j = _; rw [ax_u_n (by decide), pU_r (by decide)]; exact h16 j hj
theorem MRs_2 {I : ax_I} {D : pD} {c v : Nat} (h : MR I D) : MR (ax_u I 37 c (nI v)) (pU D 2 c v) := by
  obtain ⟨h0, h1, h2, h3, h4, h5, h6, h7, h8, h9, h10, h11, h12, h13, h14, h15, h16⟩ := h
  refine ⟨?_, ?_, ?_, ?_, ?_, ?_, ?_, ?_, ?_, ?_, ?_, ?_, ?_, ?_, ?_, ?_, ?_⟩
  · rw [ax_u_n (by decide), pU_r (by decide)]; exact h0
  · rw [ax_u_n (by decide), pU_r (by decide)]; exact h1
  · rw [ax_u_n (by decide), pU_r (by decide)]; exact h2
  · intro j hj; show ax_u I _ _ _ (35 + 1) j = _; rw [ax_u_n (by decide), pU_r (by decide)]; exact h3 j hj
  · intro j hj
    show ax_u I _ _ _ 37 j = _
    by_cases e : j = c
    · subst e; rw [ax_u_ss, pU_s]
    · rw [ax_u_nj e, pU_c e]; exact h4 j hj
  · intro j hj; show ax_u I _ _ _ (35 + 3) j = _; rw [ax_u_n (by decide), pU_r (by decide)]; exact h5 j hj
  · intro j hj; show ax_u I _ _ _ (35 + 4) j = _; rw [ax_u_n (by decide), pU_r (by decide)]; exact h6 j hj
  · intro j hj; show ax_u I _ _ _ (35 + 5) j = _; rw [ax_u_n (by decide), pU_r (by decide)]; exact h7 j hj
  · intro j hj; show ax_u I _ _ _ (35 + 6) j = _; rw [ax_u_n (by decide), pU_r (by decide)]; exact h8 j hj
  · intro j hj; show ax_u I _ _ _ (35 + 7) j = _; rw [ax_u_n (by decide), pU_r (by decide)]; exact h9 j hj
  · intro j hj; show ax_u I _ _ _ (35 + 8) j = _; rw [ax_u_n (by decide), pU_r (by decide)]; exact h10 j hj
  · intro j hj; show ax_u I _ _ _ (35 + 9) j = _; rw [ax_u_n (by decide), pU_r (by decide)]; exact h11 j hj
  · intro j hj; show ax_u I _ _ _ (35 + 10) j = _; rw [ax_u_n (by decide), pU_r (by decide)]; exact h12 j hj
  · intro j hj; show ax_u I _ _ _ (35 + 11) j = _; rw [ax_u_n (by decide), pU_r (by decide)]; exact h13 j hj
  · intro j hj; rw [pU_r (by decide)] at hj; show ax_u I _ _ _ (35 + 12) j = _; rw [ax_u_n (by decide), pU_r (by decide)]; exact h14 j hj
  · intro j hj; rw [pU_r (by decide)] at hj; show ax_u I _ _ _ (35 + 13) j = _; rw [ax_u_n (by decide), pU_r (by decide)]; exact h15 j hj
  · intro j hj; rw [pU_r (by decide)] at hj; show ax_u I _ _ _ (35 + 14) j = _; rw [ax_u_n (by decide), pU_r (by decide)]; exact h16 j hj
theorem MRs_3 {I : ax_I} {D : pD} {c v : Nat} (h : MR I D) : MR (ax_u I 38 c (nI v)) (pU D 3 c v) := by
  obtain ⟨h0, h1, h2, h3, h4, h5, h6, h7, h8, h9, h10, h11, h12, h13, h14, h15, h16⟩ := h
  refine ⟨?_, ?_, ?_, ?_, ?_, ?_, ?_, ?_, ?_, ?_, ?_, ?_, ?_, ?_, ?_, ?_, ?_⟩
  · rw [ax_u_n (by decide), pU_r (by decide)]; exact h0
  · rw [ax_u_n (by decide), pU_r (by decide)]; exact h1
  · rw [ax_u_n (by decide), pU_r (by decide)]; exact h2
  · intro j hj; show ax_u I _ _ _ (35 + 1) j = _; rw [ax_u_n (by decide), pU_r (by decide)]; exact h3 j hj
  · intro j hj; show ax_u I _ _ _ (35 + 2) j = _; rw [ax_u_n (by decide), pU_r (by decide)]; exact h4 j hj
  · intro j hj
    show ax_u I _ _ _ 38 j = _
    by_cases e : j = c
    · subst e; rw [ax_u_ss, pU_s]
    · rw [ax_u_nj e, pU_c e]; exact h5 j hj
  · intro j hj; show ax_u I _ _ _ (35 + 4) j = _; rw [ax_u_n (by decide), pU_r (by decide)]; exact h6 j hj
  · intro j hj; show ax_u I _ _ _ (35 + 5) j = _; rw [ax_u_n (by decide), pU_r (by decide)]; exact h7 j hj
  · intro j hj; show ax_u I _ _ _ (35 + 6) j = _; rw [ax_u_n (by decide), pU_r (by decide)]; exact h8 j hj
  · intro j hj; show ax_u I _ _ _ (35 + 7) j = _; rw [ax_u_n (by decide), pU_r (by decide)]; exact h9 j hj
  · intro j hj; show ax_u I _ _ _ (35 + 8) j = _; rw [ax_u_n (by decide), pU_r (by decide)]; exact h10 j hj
  · intro j hj; show ax_u I _ _ _ (35 + 9) j = _; rw [ax_u_n (by decide), pU_r (by decide)]; exact h11 j hj
  · intro j hj; show ax_u I _ _ _ (35 + 10) j = _; rw [ax_u_n (by decide), pU_r (by decide)]; exact h12 j hj
  · intro j hj; show ax_u I _ _ _ (35 + 11) j = _; rw [ax_u_n (by decide), pU_r (by decide)]; exact h13 j hj
  · intro j hj; rw [pU_r (by decide)] at hj; show ax_u I _ _ _ (35 + 12) j = _; rw [ax_u_n (by decide), pU_r (by decide)]; exact h14 j hj
  · intro j hj; rw [pU_r (by decide)] at hj; show ax_u I _ _ _ (35 + 13) j = _; rw [ax_u_n (by decide), pU_r (by decide)]; exact h15 j hj
  · intro j hj; rw [pU_r (by decide)] at hj; show ax_u I _ _ _ (35 + 14) j = _; rw [ax_u_n (by decide), pU_r (by decide)]; exact h16 j hj
theorem MRs_5 {I : ax_I} {D : pD} {c v : Nat} (h : MR I D) : MR (ax_u I 40 c (hv v)) (pU D 5 c v) := by
  obtain ⟨h0, h1, h2, h3, h4, h5, h6, h7, h8, h9, h10, h11, h12, h13, h14, h15, h16⟩ := h
  refine ⟨?_, ?_, ?_, ?_, ?_, ?_, ?_, ?_, ?_, ?_, ?_, ?_, ?_, ?_, ?_, ?_, ?_⟩
  · rw [ax_u_n (by decide), pU_r (by decide)]; exact h0
  · rw [ax_u_n (by decide), pU_r (by decide)]; exact h1
  · rw [ax_u_n (by decide), pU_r (by decide)]; exact h2
  · intro j hj; show ax_u I _ _ _ (35 + 1) j = _; rw [ax_u_n (by decide), pU_r (by decide)]; exact h3 j hj
  · intro j hj; show ax_u I _ _ _ (35 + 2) j = _; rw [ax_u_n (by decide), pU_r (by decide)]; exact h4 j hj
  · intro j hj; show ax_u I _ _ _ (35 + 3) j = _; rw [ax_u_n (by decide), pU_r (by decide)]; exact h5 j hj
  · intro j hj; show ax_u I _ _ _ (35 + 4) j = _; rw [ax_u_n (by decide), pU_r (by decide)]; exact h6 j hj
  · intro j hj
    show ax_u I _ _ _ 40 j = _
    by_cases e : j = c
    · subst e; rw [ax_u_ss, pU_s]
    · rw [ax_u_nj e, pU_c e]; exact h7 j hj
  · intro j hj; show ax_u I _ _ _ (35 + 6) j = _; rw [ax_u_n (by decide), pU_r (by decide)]; exact h8 j hj
  · intro j hj; show ax_u I _ _ _ (35 + 7) j = _; rw [ax_u_n (by decide), pU_r (by decide)]; exact h9 j hj
  · intro j hj; show ax_u I _ _ _ (35 + 8) j = _; rw [ax_u_n (by decide), pU_r (by decide)]; exact h10 j hj
  · intro j hj; show ax_u I _ _ _ (35 + 9) j = _; rw [ax_u_n (by decide), pU_r (by decide)]; exact h11 j hj
  · intro j hj; show ax_u I _ _ _ (35 + 10) j = _; rw [ax_u_n (by decide), pU_r (by decide)]; exact h12 j hj
  · intro j hj; show ax_u I _ _ _ (35 + 11) j = _; rw [ax_u_n (by decide), pU_r (by decide)]; exact h13 j hj
  · intro j hj; rw [pU_r (by decide)] at hj; show ax_u I _ _ _ (35 + 12) j = _; rw [ax_u_n (by decide), pU_r (by decide)]; exact h14 j hj
  · intro j hj; rw [pU_r (by decide)] at hj; show ax_u I _ _ _ (35 + 13) j = _; rw [ax_u_n (by decide), pU_r (by decide)]; exact h15 j hj
  · intro j hj; rw [pU_r (by decide)] at hj; show ax_u I _ _ _ (35 + 14) j = _; rw [ax_u_n (by decide), pU_r (by decide)]; exact h16 j hj
theorem MRs_6 {I : ax_I} {D : pD} {c v : Nat} (h : MR I D) : MR (ax_u I 41 c (nI v)) (pU D 6 c v) := by
  obtain ⟨h0, h1, h2, h3, h4, h5, h6, h7, h8, h9, h10, h11, h12, h13, h14, h15, h16⟩ := h
  refine ⟨?_, ?_, ?_, ?_, ?_, ?_, ?_, ?_, ?_, ?_, ?_, ?_, ?_, ?_, ?_, ?_, ?_⟩
  · rw [ax_u_n (by decide), pU_r (by decide)]; exact h0
  · rw [ax_u_n (by decide), pU_r (by decide)]; exact h1
  · rw [ax_u_n (by decide), pU_r (by decide)]; exact h2
  · intro j hj; show ax_u I _ _ _ (35 + 1) j = _; rw [ax_u_n (by decide), pU_r (by decide)]; exact h3 j hj
  · intro j hj; show ax_u I _ _ _ (35 + 2) j = _; rw [ax_u_n (by decide), pU_r (by decide)]; exact h4 j hj
  · intro j hj; show ax_u I _ _ _ (35 + 3) j = _; rw [ax_u_n (by decide), pU_r (by decide)]; exact h5 j hj
  · intro j hj; show ax_u I _ _ _ (35 + 4) j = _; rw [ax_u_n (by decide), pU_r (by decide)]; exact h6 j hj
  · intro j hj; show ax_u I _ _ _ (35 + 5) j = _; rw [ax_u_n (by decide), pU_r (by decide)]; exact h7 j hj
  · intro j hj
    show ax_u I _ _ _ 41 j = _
    by_cases e : j = c
    · subst e; rw [ax_u_ss, pU_s]
    · rw [ax_u_nj e, pU_c e]; exact h8 j hj
  · intro j hj; show ax_u I _ _ _ (35 + 7) j = _; rw [ax_u_n (by decide), pU_r (by decide)]; exact h9 j hj
  · intro j hj; show ax_u I _ _ _ (35 + 8) j = _; rw [ax_u_n (by decide), pU_r (by decide)]; exact h10 j hj
  · intro j hj; show ax_u I _ _ _ (35 + 9) j = _; rw [ax_u_n (by decide), pU_r (by decide)]; exact h11 j hj
  · intro j hj; show ax_u I _ _ _ (35 + 10) j = _; rw [ax_u_n (by decide), pU_r (by decide)]; exact h12 j hj
  · intro j hj; show ax_u I _ _ _ (35 + 11) j = _; rw [ax_u_n (by decide), pU_r (by decide)]; exact h13 j hj
  · intro j hj; rw [pU_r (by decide)] at hj; show ax_u I _ _ _ (35 + 12) j = _; rw [ax_u_n (by decide), pU_r (by decide)]; exact h14 j hj
  · intro j hj; rw [pU_r (by decide)] at hj; show ax_u I _ _ _ (35 + 13) j = _; rw [ax_u_n (by decide), pU_r (by decide)]; exact h15 j hj
  · intro j hj; rw [pU_r (by decide)] at hj; show ax_u I _ _ _ (35 + 14) j = _; rw [ax_u_n (by decide), pU_r (by decide)]; exact h16 j hj
theorem MRs_7 {I : ax_I} {D : pD} {c v : Nat} (h : MR I D) : MR (ax_u I 42 c (nI v)) (pU D 7 c v) := by
  obtain ⟨h0, h1, h2, h3, h4, h5, h6, h7, h8, h9, h10, h11, h12, h13, h14, h15, h16⟩ := h
  refine ⟨?_, ?_, ?_, ?_, ?_, ?_, ?_, ?_, ?_, ?_, ?_, ?_, ?_, ?_, ?_, ?_, ?_⟩
  · rw [ax_u_n (by decide), pU_r (by decide)]; exact h0
  · rw [ax_u_n (by decide), pU_r (by decide)]; exact h1
  · rw [ax_u_n (by decide), pU_r (by decide)]; exact h2
  · intro j hj; show ax_u I _ _ _ (35 + 1) j = _; rw [ax_u_n (by decide), pU_r (by decide)]; exact h3 j hj
  · intro j hj; show ax_u I _ _ _ (35 + 2) j = _; rw [ax_u_n (by decide), pU_r (by decide)]; exact h4 j hj
  · intro j hj; show ax_u I _ _ _ (35 + 3) j = _; rw [ax_u_n (by decide), pU_r (by decide)]; exact h5 j hj
  · intro j hj; show ax_u I _ _ _ (35 + 4) j = _; rw [ax_u_n (by decide), pU_r (by decide)]; exact h6 j hj
  · intro j hj; show ax_u I _ _ _ (35 + 5) j = _; rw [ax_u_n (by decide), pU_r (by decide)]; exact h7 j hj
  · intro j hj; show ax_u I _ _ _ (35 + 6) j = _; rw [ax_u_n (by decide), pU_r (by decide)]; exact h8 j hj
  · intro j hj
    show ax_u I _ _ _ 42 j = _
    by_cases e : j = c
    · subst e; rw [ax_u_ss, pU_s]
    · rw [ax_u_nj e, pU_c e]; exact h9 j hj
  · intro j hj; show ax_u I _ _ _ (35 + 8) j = _; rw [ax_u_n (by decide), pU_r (by decide)]; exact h10 j hj
  · intro j hj; show ax_u I _ _ _ (35 + 9) j = _; rw [ax_u_n (by decide), pU_r (by decide)]; exact h11 j hj
  · intro j hj; show ax_u I _ _ _ (35 + 10) j = _; rw [ax_u_n (by decide), pU_r (by decide)]; exact h12 j hj
  · intro j hj; show ax_u I _ _ _ (35 + 11) j = _; rw [ax_u_n (by decide), pU_r (by decide)]; exact h13 j hj
  · intro j hj; rw [pU_r (by decide)] at hj; show ax_u I _ _ _ (35 + 12) j = _; rw [ax_u_n (by decide), pU_r (by decide)]; exact h14 j hj
  · intro j hj; rw [pU_r (by decide)] at hj; show ax_u I _ _ _ (35 + 13) j = _; rw [ax_u_n (by decide), pU_r (by decide)]; exact h15 j hj
  · intro j hj; rw [pU_r (by decide)] at hj; show ax_u I _ _ _ (35 + 14) j = _; rw [ax_u_n (by decide), pU_r (by decide)]; exact h16 j hj
theorem MRs_8 {I : ax_I} {D : pD} {c v : Nat} (h : MR I D) : MR (ax_u I 43 c (nI v)) (pU D 8 c v) := by
  obtain ⟨h0, h1, h2, h3, h4, h5, h6, h7, h8, h9, h10, h11, h12, h13, h14, h15, h16⟩ := h
  refine ⟨?_, ?_, ?_, ?_, ?_, ?_, ?_, ?_, ?_, ?_, ?_, ?_, ?_, ?_, ?_, ?_, ?_⟩
  · rw [ax_u_n (by decide), pU_r (by decide)]; exact h0
  · rw [ax_u_n (by decide), pU_r (by decide)]; exact h1
  · rw [ax_u_n (by decide), pU_r (by decide)]; exact h2
  · intro j hj; show ax_u I _ _ _ (35 + 1) j = _; rw [ax_u_n (by decide), pU_r (by decide)]; exact h3 j hj
  · intro j hj; show ax_u I _ _ _ (35 + 2) j = _; rw [ax_u_n (by decide), pU_r (by decide)]; exact h4 j hj
  · intro j hj; show ax_u I _ _ _ (35 + 3) j = _; rw [ax_u_n (by decide), pU_r (by decide)]; exact h5 j hj
  · intro j hj; show ax_u I _ _ _ (35 + 4) j = _; rw [ax_u_n (by decide), pU_r (by decide)]; exact h6 j hj
  · intro j hj; show ax_u I _ _ _ (35 + 5) j = _; rw [ax_u_n (by decide), pU_r (by decide)]; exact h7 j hj
  · intro j hj; show ax_u I _ _ _ (35 + 6) j = _; rw [ax_u_n (by decide), pU_r (by decide)]; exact h8 j hj
  · intro j hj; show ax_u I _ _ _ (35 + 7) j = _; rw [ax_u_n (by decide), pU_r (by decide)]; exact h9 j hj
  · intro j hj
    show ax_u I _ _ _ 43 j = _
    by_cases e : j = c
    · subst e; rw [ax_u_ss, pU_s]
    · rw [ax_u_nj e, pU_c e]; exact h10 j hj
  · intro j hj; show ax_u I _ _ _ (35 + 9) j = _; rw [ax_u_n (by decide), pU_r (by decide)]; exact h11 j hj
  · intro j hj; show ax_u I _ _ _ (35 + 10) j = _; rw [ax_u_n (by decide), pU_r (by decide)]; exact h12 j hj
  · intro j hj; show ax_u I _ _ _ (35 + 11) j = _; rw [ax_u_n (by decide), pU_r (by decide)]; exact h13 j hj
  · intro j hj; rw [pU_r (by decide)] at hj; show ax_u I _ _ _ (35 + 12) j = _; rw [ax_u_n (by decide), pU_r (by decide)]; exact h14 j hj
  · intro j hj; rw [pU_r (by decide)] at hj; show ax_u I _ _ _ (35 + 13) j = _; rw [ax_u_n (by decide), pU_r (by decide)]; exact h15 j hj
  · intro j hj; rw [pU_r (by decide)] at hj; show ax_u I _ _ _ (35 + 14) j = _; rw [ax_u_n (by decide), pU_r (by decide)]; exact h16 j hj
theorem MRs_9 {I : ax_I} {D : pD} {c v : Nat} (h : MR I D) : MR (ax_u I 44 c (nI v)) (pU D 9 c v) := by
  obtain ⟨h0, h1, h2, h3, h4, h5, h6, h7, h8, h9, h10, h11, h12, h13, h14, h15, h16⟩ := h
  refine ⟨?_, ?_, ?_, ?_, ?_, ?_, ?_, ?_, ?_, ?_, ?_, ?_, ?_, ?_, ?_, ?_, ?_⟩
  · rw [ax_u_n (by decide), pU_r (by decide)]; exact h0
  · rw [ax_u_n (by decide), pU_r (by decide)]; exact h1
  · rw [ax_u_n (by decide), pU_r (by decide)]; exact h2
  · intro j hj; show ax_u I _ _ _ (35 + 1) j = _; rw [ax_u_n (by decide), pU_r (by decide)]; exact h3 j hj
  · intro j hj; show ax_u I _ _ _ (35 + 2) j = _; rw [ax_u_n (by decide), pU_r (by decide)]; exact h4 j hj
  · intro j hj; show ax_u I _ _ _ (35 + 3) j = _; rw [ax_u_n (by decide), pU_r (by decide)]; exact h5 j hj
  · intro j hj; show ax_u I _ _ _ (35 + 4) j = _; rw [ax_u_n (by decide), pU_r (by decide)]; exact h6 j hj
  · intro j hj; show ax_u I _ _ _ (35 + 5) j = _; rw [ax_u_n (by decide), pU_r (by decide)]; exact h7 j hj
  · intro j hj; show ax_u I _ _ _ (35 + 6) j = _; rw [ax_u_n (by decide), pU_r (by decide)]; exact h8 j hj
  · intro j hj; show ax_u I _ _ _ (35 + 7) j = _; rw [ax_u_n (by decide), pU_r (by decide)]; exact h9 j hj
  · intro j hj; show ax_u I _ _ _ (35 + 8) j = _; rw [ax_u_n (by decide), pU_r (by decide)]; exact h10 j hj
  · intro j hj
    show ax_u I _ _ _ 44 j = _
    by_cases e : j = c
    · subst e; rw [ax_u_ss, pU_s]
    · rw [ax_u_nj e, pU_c e]; exact h11 j hj
  · intro j hj; show ax_u I _ _ _ (35 + 10) j = _; rw [ax_u_n (by decide), pU_r (by decide)]; exact h12 j hj
  · intro j hj; show ax_u I _ _ _ (35 + 11) j = _; rw [ax_u_n (by decide), pU_r (by decide)]; exact h13 j hj
  · intro j hj; rw [pU_r (by decide)] at hj; show ax_u I _ _ _ (35 + 12) j = _; rw [ax_u_n (by decide), pU_r (by decide)]; exact h14 j hj
  · intro j hj; rw [pU_r (by decide)] at hj; show ax_u I _ _ _ (35 + 13) j = _; rw [ax_u_n (by decide), pU_r (by decide)]; exact h15 j hj
  · intro j hj; rw [pU_r (by decide)] at hj; show ax_u I _ _ _ (35 + 14) j = _; rw [ax_u_n (by decide), pU_r (by decide)]; exact h16 j hj
theorem MRs_10 {I : ax_I} {D : pD} {c v : Nat} (h : MR I D) : MR (ax_u I 45 c (nI v)) (pU D 10 c v) := by
  obtain ⟨h0, h1, h2, h3, h4, h5, h6, h7, h8, h9, h10, h11, h12, h13, h14, h15, h16⟩ := h
  refine ⟨?_, ?_, ?_, ?_, ?_, ?_, ?_, ?_, ?_, ?_, ?_, ?_, ?_, ?_, ?_, ?_, ?_⟩
  · rw [ax_u_n (by decide), pU_r (by decide)]; exact h0
  · rw [ax_u_n (by decide), pU_r (by decide)]; exact h1
  · rw [ax_u_n (by decide), pU_r (by decide)]; exact h2
  · intro j hj; show ax_u I _ _ _ (35 + 1) j = _; rw [ax_u_n (by decide), pU_r (by decide)]; exact h3 j hj
  · intro j hj; show ax_u I _ _ _ (35 + 2) j = _; rw [ax_u_n (by decide), pU_r (by decide)]; exact h4 j hj
  · intro j hj; show ax_u I _ _ _ (35 + 3) j = _; rw [ax_u_n (by decide), pU_r (by decide)]; exact h5 j hj
  · intro j hj; show ax_u I _ _ _ (35 + 4) j = _; rw [ax_u_n (by decide), pU_r (by decide)]; exact h6 j hj
  · intro j hj; show ax_u I _ _ _ (35 + 5) j = _; rw [ax_u_n (by decide), pU_r (by decide)]; exact h7 j hj
  · intro j hj; show ax_u I _ _ _ (35 + 6) j = _; rw [ax_u_n (by decide), pU_r (by decide)]; exact h8 j hj
  · intro j hj; show ax_u I _ _ _ (35 + 7) j = _; rw [ax_u_n (by decide), pU_r (by decide)]; exact h9 j hj
  · intro j hj; show ax_u I _ _ _ (35 + 8) j = _; rw [ax_u_n (by decide), pU_r (by decide)]; exact h10 j hj
  · intro j hj; show ax_u I _ _ _ (35 + 9) j = _; rw [ax_u_n (by decide), pU_r (by decide)]; exact h11 j hj
  · intro j hj
    show ax_u I _ _ _ 45 j = _
    by_cases e : j = c
    · subst e; rw [ax_u_ss, pU_s]
    · rw [ax_u_nj e, pU_c e]; exact h12 j hj
  · intro j hj; show ax_u I _ _ _ (35 + 11) j = _; rw [ax_u_n (by decide), pU_r (by decide)]; exact h13 j hj
  · intro j hj; rw [pU_r (by decide)] at hj; show ax_u I _ _ _ (35 + 12) j = _; rw [ax_u_n (by decide), pU_r (by decide)]; exact h14 j hj
  · intro j hj; rw [pU_r (by decide)] at hj; show ax_u I _ _ _ (35 + 13) j = _; rw [ax_u_n (by decide), pU_r (by decide)]; exact h15 j hj
  · intro j hj; rw [pU_r (by decide)] at hj; show ax_u I _ _ _ (35 + 14) j = _; rw [ax_u_n (by decide), pU_r (by decide)]; exact h16 j hj
theorem MRs_11 {I : ax_I} {D : pD} {c v : Nat} (h : MR I D) : MR (ax_u I 46 c (nI v)) (pU D 11 c v) := by
  obtain ⟨h0, h1, h2, h3, h4, h5, h6, h7, h8, h9, h10, h11, h12, h13, h14, h15, h16⟩ := h
  refine ⟨?_, ?_, ?_, ?_, ?_, ?_, ?_, ?_, ?_, ?_, ?_, ?_, ?_, ?_, ?_, ?_, ?_⟩
  · rw [ax_u_n (by decide), pU_r (by decide)]; exact h0
  · rw [ax_u_n (by decide), pU_r (by decide)]; exact h1
  · rw [ax_u_n (by decide), pU_r (by decide)]; exact h2
  · intro j hj; show ax_u I _ _ _ (35 + 1) j = _; rw [ax_u_n (by decide), pU_r (by decide)]; exact h3 j hj
  · intro j hj; show ax_u I _ _ _ (35 + 2) j = _; rw [ax_u_n (by decide), pU_r (by decide)]; exact h4 j hj
  · intro j hj; show ax_u I _ _ _ (35 + 3) j = _; rw [ax_u_n (by decide), pU_r (by decide)]; exact h5 j hj
  · intro j hj; show ax_u I _ _ _ (35 + 4) j = _; rw [ax_u_n (by decide), pU_r (by decide)]; exact h6 j hj
  · intro j hj; show ax_u I _ _ _ (35 + 5) j = _; rw [ax_u_n (by decide), pU_r (by decide)]; exact h7 j hj
  · intro j hj; show ax_u I _ _ _ (35 + 6) j = _; rw [ax_u_n (by decide), pU_r (by decide)]; exact h8 j hj
  · intro j hj; show ax_u I _ _ _ (35 + 7) j = _; rw [ax_u_n (by decide), pU_r (by decide)]; exact h9 j hj
  · intro j hj; show ax_u I _ _ _ (35 + 8) j = _; rw [ax_u_n (by decide), pU_r (by decide)]; exact h10 j hj
  · intro j hj; show ax_u I _ _ _ (35 + 9) j = _; rw [ax_u_n (by decide), pU_r (by decide)]; exact h11 j hj
  · intro j hj; show ax_u I _ _ _ (35 + 10) j = _; rw [ax_u_n (by decide), pU_r (by decide)]; exact h12 j hj
  · intro j hj
    show ax_u I _ _ _ 46 j = _
    by_cases e : j = c
    · subst e; rw [ax_u_ss, pU_s]
    · rw [ax_u_nj e, pU_c e]; exact h13 j hj
  · intro j hj; rw [pU_r (by decide)] at hj; show ax_u I _ _ _ (35 + 12) j = _; rw [ax_u_n (by decide), pU_r (by decide)]; exact h14 j hj
  · intro j hj; rw [pU_r (by decide)] at hj; show ax_u I _ _ _ (35 + 13) j = _; rw [ax_u_n (by decide), pU_r (by decide)]; exact h15 j hj
  · intro j hj; rw [pU_r (by decide)] at hj; show ax_u I _ _ _ (35 + 14) j = _; rw [ax_u_n (by decide), pU_r (by decide)]; exact h16 j hj
theorem MRb_0 {I : ax_I} {D : pD} {v : Nat} (h : MR I D) : MR (ax_u I 35 0 (nI v)) (pU D 0 0 v) := by
  obtain ⟨h0, h1, h2, h3, h4, h5, h6, h7, h8, h9, h10, h11, h12, h13, h14, h15, h16⟩ := h
  refine ⟨?_, ?_, ?_, ?_, ?_, ?_, ?_, ?_, ?_, ?_, ?_, ?_, ?_, ?_, ?_, ?_, ?_⟩
  · rw [ax_u_ss, pU_s]
  · rw [ax_u_nj (by decide), pU_c (by decide)]; exact h1
  · rw [ax_u_nj (by decide), pU_c (by decide)]; exact h2
  · intro j hj; show ax_u I _ _ _ (35 + 1) j = _; rw [ax_u_n (by decide), pU_r (by decide)]; exact h3 j hj
  · intro j hj; show ax_u I _ _ _ (35 + 2) j = _; rw [ax_u_n (by decide), pU_r (by decide)]; exact h4 j hj
  · intro j hj; show ax_u I _ _ _ (35 + 3) j = _; rw [ax_u_n (by decide), pU_r (by decide)]; exact h5 j hj
  · intro j hj; show ax_u I _ _ _ (35 + 4) j = _; rw [ax_u_n (by decide), pU_c (by decide)]; exact h6 j hj
  · intro j hj; show ax_u I _ _ _ (35 + 5) j = _; rw [ax_u_n (by decide), pU_r (by decide)]; exact h7 j hj
  · intro j hj; show ax_u I _ _ _ (35 + 6) j = _; rw [ax_u_n (by decide), pU_r (by decide)]; exact h8 j hj
  · intro j hj; show ax_u I _ _ _ (35 + 7) j = _; rw [ax_u_n (by decide), pU_r (by decide)]; exact h9 j hj
  · intro j hj; show ax_u I _ _ _ (35 + 8) j = _; rw [ax_u_n (by decide), pU_r (by decide)]; exact h10 j hj
  · intro j hj; show ax_u I _ _ _ (35 + 9) j = _; rw [ax_u_n (by decide), pU_r (by decide)]; exact h11 j hj
  · intro j hj; show ax_u I _ _ _ (35 + 10) j = _; rw [ax_u_n (by decide), pU_r (by decide)]; exact h12 j hj
  · intro j hj; show ax_u I _ _ _ (35 + 11) j = _; rw [ax_u_n (by decide), pU_r (by decide)]; exact h13 j hj
  · intro j hj; rw [pU_c (by decide)] at hj; show ax_u I _ _ _ (35 + 12) j = _; rw [ax_u_n (by decide), pU_r (by decide)]; exact h14 j hj
  · intro j hj; rw [pU_c (by decide)] at hj; show ax_u I _ _ _ (35 + 13) j = _; rw [ax_u_n (by decide), pU_r (by decide)]; exact h15 j hj
  · intro j hj; rw [pU_c (by decide)] at hj; show ax_u I _ _ _ (35 + 14) j = _; rw [ax_u_n (by decide), pU_c (by decide)]; exact h16 j hj
theorem MRb_1 {I : ax_I} {D : pD} {v : Nat} (h : MR I D) : MR (ax_u I 35 1 (nI v)) (pU D 0 1 v) := by
  obtain ⟨h0, h1, h2, h3, h4, h5, h6, h7, h8, h9, h10, h11, h12, h13, h14, h15, h16⟩ := h
  refine ⟨?_, ?_, ?_, ?_, ?_, ?_, ?_, ?_, ?_, ?_, ?_, ?_, ?_, ?_, ?_, ?_, ?_⟩
  · rw [ax_u_nj (by decide), pU_c (by decide)]; exact h0
  · rw [ax_u_ss, pU_s]
  · rw [ax_u_nj (by decide), pU_c (by decide)]; exact h2
  · intro j hj; show ax_u I _ _ _ (35 + 1) j = _; rw [ax_u_n (by decide), pU_r (by decide)]; exact h3 j hj
  · intro j hj; show ax_u I _ _ _ (35 + 2) j = _; rw [ax_u_n (by decide), pU_r (by decide)]; exact h4 j hj
  · intro j hj; show ax_u I _ _ _ (35 + 3) j = _; rw [ax_u_n (by decide), pU_r (by decide)]; exact h5 j hj
  · intro j hj; show ax_u I _ _ _ (35 + 4) j = _; rw [ax_u_n (by decide), pU_c (by decide)]; exact h6 j hj
  · intro j hj; show ax_u I _ _ _ (35 + 5) j = _; rw [ax_u_n (by decide), pU_r (by decide)]; exact h7 j hj
  · intro j hj; show ax_u I _ _ _ (35 + 6) j = _; rw [ax_u_n (by decide), pU_r (by decide)]; exact h8 j hj
  · intro j hj; show ax_u I _ _ _ (35 + 7) j = _; rw [ax_u_n (by decide), pU_r (by decide)]; exact h9 j hj
  · intro j hj; show ax_u I _ _ _ (35 + 8) j = _; rw [ax_u_n (by decide), pU_r (by decide)]; exact h10 j hj
  · intro j hj; show ax_u I _ _ _ (35 + 9) j = _; rw [ax_u_n (by decide), pU_r (by decide)]; exact h11 j hj
  · intro j hj; show ax_u I _ _ _ (35 + 10) j = _; rw [ax_u_n (by decide), pU_r (by decide)]; exact h12 j hj
  · intro j hj; show ax_u I _ _ _ (35 + 11) j = _; rw [ax_u_n (by decide), pU_r (by decide)]; exact h13 j hj
  · intro j hj; rw [pU_c (by decide)] at hj; show ax_u I _ _ _ (35 + 12) j = _; rw [ax_u_n (by decide), pU_r (by decide)]; exact h14 j hj
  · intro j hj; rw [pU_c (by decide)] at hj; show ax_u I _ _ _ (35 + 13) j = _; rw [ax_u_n (by decide), pU_r (by decide)]; exact h15 j hj
  · intro j hj; rw [pU_c (by decide)] at hj; show ax_u I _ _ _ (35 + 14) j = _; rw [ax_u_n (by decide), pU_c (by decide)]; exact h16 j hj
theorem MR_eq {I I2 : ax_I} {D : pD} (h : MR I D) (e : ∀ r j, 36 ≤ r → r ≤ 49 → I2 r j = I r j) (e0 : I2 35 0 = I 35 0) (e1 : I2 35 1 = I 35 1) (e2 : I2 35 16 = I 35 16) : MR I2 D := by
  obtain ⟨h0, h1, h2, h3, h4, h5, h6, h7, h8, h9, h10, h11, h12, h13, h14, h15, h16⟩ := h
  exact ⟨e0.trans h0, e1.trans h1, e2.trans h2, fun j hj => (e 36 j (by decide) (by decide)).trans (h3 j hj), fun j hj => (e 37 j (by decide) (by decide)).trans (h4 j hj), fun j hj => (e 38 j (by decide) (by decide)).trans (h5 j hj), fun j hj => (e 39 j (by decide) (by decide)).trans (h6 j hj), fun j hj => (e 40 j (by decide) (by decide)).trans (h7 j hj), fun j hj => (e 41 j (by decide) (by decide)).trans (h8 j hj), fun j hj => (e 42 j (by decide) (by decide)).trans (h9 j hj), fun j hj => (e 43 j (by decide) (by decide)).trans (h10 j hj), fun j hj => (e 44 j (by decide) (by decide)).trans (h11 j hj), fun j hj => (e 45 j (by decide) (by decide)).trans (h12 j hj), fun j hj => (e 46 j (by decide) (by decide)).trans (h13 j hj), fun j hj => (e 47 j (by decide) (by decide)).trans (h14 j hj), fun j hj => (e 48 j (by decide) (by decide)).trans (h15 j hj), fun j hj => (e 49 j (by decide) (by decide)).trans (h16 j hj)⟩
theorem MR_off {I : ax_I} {D : pD} {k c : Nat} {x : Int32} (h : MR I D) (hk : k < 35 ∨ 49 < k ∨ (k = 35 ∧ c ≠ 0 ∧ c ≠ 1 ∧ c ≠ 16)) : MR (ax_u I k c x) D := by
  refine MR_eq h (fun r j h1 h2 => by rw [ax_u_n (by omega)]) ?_ ?_ ?_
  all_goals
    rw [ax_u_at]
    split
    · omega
    · rfl
theorem WFs_1 {D : pD} {c v : Nat} (h : WF D) (hv : v ≤ 99) : WF (pU D 1 c v) := by
  obtain ⟨h0, h1, h2, h3, h4, h5, h6, h7, h8, h9, h10, h11, h12, h13, h14, h15, h16⟩ := h
  refine ⟨?_, ?_, ?_, ?_, ?_, ?_, ?_, ?_, ?_, ?_, ?_, ?_, ?_, ?_, ?_, ?_, ?_⟩
  · rw [pU_r (by decide)]; exact h0
  · rw [pU_r (by decide)]; exact h1
  · rw [pU_r (by decide)]; exact h2
  · rw [pU_r (by decide)]; exact h3
  · rw [pU_r (by decide)]; exact h4
  · intro j hj
    by_cases e : j = c
    · subst e; rw [pU_s]; exact hv
    · rw [pU_c e]; exact h5 j hj
  · intro j hj; rw [pU_r (by decide)]; exact h6 j hj
  · intro j hj; rw [pU_r (by decide)]; exact h7 j hj
  · intro j hj; rw [pU_r (by decide)]; exact h8 j hj
  · intro j hj; rw [pU_r (by decide)]; exact h9 j hj
  · intro j hj; rw [pU_r (by decide)]; exact h10 j hj
  · intro j hj; rw [pU_r (by decide)]; exact h11 j hj
  · intro j hj; rw [pU_r (by decide)]; exact h12 j hj
  · intro j hj; rw [pU_r (by decide)]; exact h13 j hj
  · intro j hj; rw [pU_r (by decide)]; exact h14 j hj
  · intro j hj; rw [pU_r (by decide)] at hj; rw [pU_r (by decide)]; exact h15 j hj
  · intro j hj; rw [pU_r (by decide)] at hj; rw [pU_r (by decide)]; exact h16 j hj
theorem WFs_2 {D : pD} {c v : Nat} (h : WF D) (hv : v ≤ 99) : WF (pU D 2 c v) := by
  obtain ⟨h0, h1, h2, h3, h4, h5, h6, h7, h8, h9, h10, h11, h12, h13, h14, h15, h16⟩ := h
  refine ⟨?_, ?_, ?_, ?_, ?_, ?_, ?_, ?_, ?_, ?_, ?_, ?_, ?_, ?_, ?_, ?_, ?_⟩
  · rw [pU_r (by decide)]; exact h0
  · rw [pU_r (by decide)]; exact h1
  · rw [pU_r (by decide)]; exact h2
  · rw [pU_r (by decide)]; exact h3
  · rw [pU_r (by decide)]; exact h4
  · intro j hj; rw [pU_r (by decide)]; exact h5 j hj
  · intro j hj
    by_cases e : j = c
    · subst e; rw [pU_s]; exact hv
    · rw [pU_c e]; exact h6 j hj
  · intro j hj; rw [pU_r (by decide)]; exact h7 j hj
  · intro j hj; rw [pU_r (by decide)]; exact h8 j hj
  · intro j hj; rw [pU_r (by decide)]; exact h9 j hj
  · intro j hj; rw [pU_r (by decide)]; exact h10 j hj
  · intro j hj; rw [pU_r (by decide)]; exact h11 j hj
  · intro j hj; rw [pU_r (by decide)]; exact h12 j hj
  · intro j hj; rw [pU_r (by decide)]; exact h13 j hj
  · intro j hj; rw [pU_r (by decide)]; exact h14 j hj
  · intro j hj; rw [pU_r (by decide)] at hj; rw [pU_r (by decide)]; exact h15 j hj
  · intro j hj; rw [pU_r (by decide)] at hj; rw [pU_r (by decide)]; exact h16 j hj
theorem WFs_3 {D : pD} {c v : Nat} (h : WF D) (hv : v ≤ 99) : WF (pU D 3 c v) := by
  obtain ⟨h0, h1, h2, h3, h4, h5, h6, h7, h8, h9, h10, h11, h12, h13, h14, h15, h16⟩ := h
  refine ⟨?_, ?_, ?_, ?_, ?_, ?_, ?_, ?_, ?_, ?_, ?_, ?_, ?_, ?_, ?_, ?_, ?_⟩
  · rw [pU_r (by decide)]; exact h0
  · rw [pU_r (by decide)]; exact h1
  · rw [pU_r (by decide)]; exact h2
  · rw [pU_r (by decide)]; exact h3
  · rw [pU_r (by decide)]; exact h4
  · intro j hj; rw [pU_r (by decide)]; exact h5 j hj
  · intro j hj; rw [pU_r (by decide)]; exact h6 j hj
  · intro j hj
    by_cases e : j = c
    · subst e; rw [pU_s]; exact hv
    · rw [pU_c e]; exact h7 j hj
  · intro j hj; rw [pU_r (by decide)]; exact h8 j hj
  · intro j hj; rw [pU_r (by decide)]; exact h9 j hj
  · intro j hj; rw [pU_r (by decide)]; exact h10 j hj
  · intro j hj; rw [pU_r (by decide)]; exact h11 j hj
  · intro j hj; rw [pU_r (by decide)]; exact h12 j hj
  · intro j hj; rw [pU_r (by decide)]; exact h13 j hj
  · intro j hj; rw [pU_r (by decide)]; exact h14 j hj
  · intro j hj; rw [pU_r (by decide)] at hj; rw [pU_r (by decide)]; exact h15 j hj
  · intro j hj; rw [pU_r (by decide)] at hj; rw [pU_r (by decide)]; exact h16 j hj
theorem WFs_5 {D : pD} {c v : Nat} (h : WF D) (hv : v ≤ 4) : WF (pU D 5 c v) := by
  obtain ⟨h0, h1, h2, h3, h4, h5, h6, h7, h8, h9, h10, h11, h12, h13, h14, h15, h16⟩ := h
  refine ⟨?_, ?_, ?_, ?_, ?_, ?_, ?_, ?_, ?_, ?_, ?_, ?_, ?_, ?_, ?_, ?_, ?_⟩
  · rw [pU_r (by decide)]; exact h0
  · rw [pU_r (by decide)]; exact h1
  · rw [pU_r (by decide)]; exact h2
  · rw [pU_r (by decide)]; exact h3
  · rw [pU_r (by decide)]; exact h4
  · intro j hj; rw [pU_r (by decide)]; exact h5 j hj
  · intro j hj; rw [pU_r (by decide)]; exact h6 j hj
  · intro j hj; rw [pU_r (by decide)]; exact h7 j hj
  · intro j hj
    by_cases e : j = c
    · subst e; rw [pU_s]; exact hv
    · rw [pU_c e]; exact h8 j hj
  · intro j hj; rw [pU_r (by decide)]; exact h9 j hj
  · intro j hj; rw [pU_r (by decide)]; exact h10 j hj
  · intro j hj; rw [pU_r (by decide)]; exact h11 j hj
  · intro j hj; rw [pU_r (by decide)]; exact h12 j hj
  · intro j hj; rw [pU_r (by decide)]; exact h13 j hj
  · intro j hj; rw [pU_r (by decide)]; exact h14 j hj
  · intro j hj; rw [pU_r (by decide)] at hj; rw [pU_r (by decide)]; exact h15 j hj
  · intro j hj; rw [pU_r (by decide)] at hj; rw [pU_r (by decide)]; exact h16 j hj
theorem WFs_6 {D : pD} {c v : Nat} (h : WF D) (hv : v ≤ 99) : WF (pU D 6 c v) := by
  obtain ⟨h0, h1, h2, h3, h4, h5, h6, h7, h8, h9, h10, h11, h12, h13, h14, h15, h16⟩ := h
  refine ⟨?_, ?_, ?_, ?_, ?_, ?_, ?_, ?_, ?_, ?_, ?_, ?_, ?_, ?_, ?_, ?_, ?_⟩
  · rw [pU_r (by decide)]; exact h0
  · rw [pU_r (by decide)]; exact h1
  · rw [pU_r (by decide)]; exact h2
  · rw [pU_r (by decide)]; exact h3
  · rw [pU_r (by decide)]; exact h4
  · intro j hj; rw [pU_r (by decide)]; exact h5 j hj
  · intro j hj; rw [pU_r (by decide)]; exact h6 j hj
  · intro j hj; rw [pU_r (by decide)]; exact h7 j hj
  · intro j hj; rw [pU_r (by decide)]; exact h8 j hj
  · intro j hj
    by_cases e : j = c
    · subst e; rw [pU_s]; exact hv
    · rw [pU_c e]; exact h9 j hj
  · intro j hj; rw [pU_r (by decide)]; exact h10 j hj
  · intro j hj; rw [pU_r (by decide)]; exact h11 j hj
  · intro j hj; rw [pU_r (by decide)]; exact h12 j hj
  · intro j hj; rw [pU_r (by decide)]; exact h13 j hj
  · intro j hj; rw [pU_r (by decide)]; exact h14 j hj
  · intro j hj; rw [pU_r (by decide)] at hj; rw [pU_r (by decide)]; exact h15 j hj
  · intro j hj; rw [pU_r (by decide)] at hj; rw [pU_r (by decide)]; exact h16 j hj
theorem WFs_7 {D : pD} {c v : Nat} (h : WF D) (hv : v ≤ 999) : WF (pU D 7 c v) := by
  obtain ⟨h0, h1, h2, h3, h4, h5, h6, h7, h8, h9, h10, h11, h12, h13, h14, h15, h16⟩ := h
  refine ⟨?_, ?_, ?_, ?_, ?_, ?_, ?_, ?_, ?_, ?_, ?_, ?_, ?_, ?_, ?_, ?_, ?_⟩
  · rw [pU_r (by decide)]; exact h0
  · rw [pU_r (by decide)]; exact h1
  · rw [pU_r (by decide)]; exact h2
  · rw [pU_r (by decide)]; exact h3
  · rw [pU_r (by decide)]; exact h4
  · intro j hj; rw [pU_r (by decide)]; exact h5 j hj
  · intro j hj; rw [pU_r (by decide)]; exact h6 j hj
  · intro j hj; rw [pU_r (by decide)]; exact h7 j hj
  · intro j hj; rw [pU_r (by decide)]; exact h8 j hj
  · intro j hj; rw [pU_r (by decide)]; exact h9 j hj
  · intro j hj
    by_cases e : j = c
    · subst e; rw [pU_s]; exact hv
    · rw [pU_c e]; exact h10 j hj
  · intro j hj; rw [pU_r (by decide)]; exact h11 j hj
  · intro j hj; rw [pU_r (by decide)]; exact h12 j hj
  · intro j hj; rw [pU_r (by decide)]; exact h13 j hj
  · intro j hj; rw [pU_r (by decide)]; exact h14 j hj
  · intro j hj; rw [pU_r (by decide)] at hj; rw [pU_r (by decide)]; exact h15 j hj
  · intro j hj; rw [pU_r (by decide)] at hj; rw [pU_r (by decide)]; exact h16 j hj
theorem WFs_8 {D : pD} {c v : Nat} (h : WF D) (hv : v ≤ 4095) : WF (pU D 8 c v) := by
  obtain ⟨h0, h1, h2, h3, h4, h5, h6, h7, h8, h9, h10, h11, h12, h13, h14, h15, h16⟩ := h
  refine ⟨?_, ?_, ?_, ?_, ?_, ?_, ?_, ?_, ?_, ?_, ?_, ?_, ?_, ?_, ?_, ?_, ?_⟩
  · rw [pU_r (by decide)]; exact h0
  · rw [pU_r (by decide)]; exact h1
  · rw [pU_r (by decide)]; exact h2
  · rw [pU_r (by decide)]; exact h3
  · rw [pU_r (by decide)]; exact h4
  · intro j hj; rw [pU_r (by decide)]; exact h5 j hj
  · intro j hj; rw [pU_r (by decide)]; exact h6 j hj
  · intro j hj; rw [pU_r (by decide)]; exact h7 j hj
  · intro j hj; rw [pU_r (by decide)]; exact h8 j hj
  · intro j hj; rw [pU_r (by decide)]; exact h9 j hj
  · intro j hj; rw [pU_r (by decide)]; exact h10 j hj
  · intro j hj
    by_cases e : j = c
    · subst e; rw [pU_s]; exact hv
    · rw [pU_c e]; exact h11 j hj
  · intro j hj; rw [pU_r (by decide)]; exact h12 j hj
  · intro j hj; rw [pU_r (by decide)]; exact h13 j hj
  · intro j hj; rw [pU_r (by decide)]; exact h14 j hj
  · intro j hj; rw [pU_r (by decide)] at hj; rw [pU_r (by decide)]; exact h15 j hj
  · intro j hj; rw [pU_r (by decide)] at hj; rw [pU_r (by decide)]; exact h16 j hj
theorem WFs_9 {D : pD} {c v : Nat} (h : WF D) (hv : v ≤ 999) : WF (pU D 9 c v) := by
  obtain ⟨h0, h1, h2, h3, h4, h5, h6, h7, h8, h9, h10, h11, h12, h13, h14, h15, h16⟩ := h
  refine ⟨?_, ?_, ?_, ?_, ?_, ?_, ?_, ?_, ?_, ?_, ?_, ?_, ?_, ?_, ?_, ?_, ?_⟩
  · rw [pU_r (by decide)]; exact h0
  · rw [pU_r (by decide)]; exact h1
  · rw [pU_r (by decide)]; exact h2
  · rw [pU_r (by decide)]; exact h3
  · rw [pU_r (by decide)]; exact h4
  · intro j hj; rw [pU_r (by decide)]; exact h5 j hj
  · intro j hj; rw [pU_r (by decide)]; exact h6 j hj
  · intro j hj; rw [pU_r (by decide)]; exact h7 j hj
  · intro j hj; rw [pU_r (by decide)]; exact h8 j hj
  · intro j hj; rw [pU_r (by decide)]; exact h9 j hj
  · intro j hj; rw [pU_r (by decide)]; exact h10 j hj
  · intro j hj; rw [pU_r (by decide)]; exact h11 j hj
  · intro j hj
    by_cases e : j = c
    · subst e; rw [pU_s]; exact hv
    · rw [pU_c e]; exact h12 j hj
  · intro j hj; rw [pU_r (by decide)]; exact h13 j hj
  · intro j hj; rw [pU_r (by decide)]; exact h14 j hj
  · intro j hj; rw [pU_r (by decide)] at hj; rw [pU_r (by decide)]; exact h15 j hj
  · intro j hj; rw [pU_r (by decide)] at hj; rw [pU_r (by decide)]; exact h16 j hj
theorem WFs_10 {D : pD} {c v : Nat} (h : WF D) (hv : v ≤ 9) : WF (pU D 10 c v) := by
  obtain ⟨h0, h1, h2, h3, h4, h5, h6, h7, h8, h9, h10, h11, h12, h13, h14, h15, h16⟩ := h
  refine ⟨?_, ?_, ?_, ?_, ?_, ?_, ?_, ?_, ?_, ?_, ?_, ?_, ?_, ?_, ?_, ?_, ?_⟩
  · rw [pU_r (by decide)]; exact h0
  · rw [pU_r (by decide)]; exact h1
  · rw [pU_r (by decide)]; exact h2
  · rw [pU_r (by decide)]; exact h3
  · rw [pU_r (by decide)]; exact h4
  · intro j hj; rw [pU_r (by decide)]; exact h5 j hj
  · intro j hj; rw [pU_r (by decide)]; exact h6 j hj
  · intro j hj; rw [pU_r (by decide)]; exact h7 j hj
  · intro j hj; rw [pU_r (by decide)]; exact h8 j hj
  · intro j hj; rw [pU_r (by decide)]; exact h9 j hj
  · intro j hj; rw [pU_r (by decide)]; exact h10 j hj
  · intro j hj; rw [pU_r (by decide)]; exact h11 j hj
  · intro j hj; rw [pU_r (by decide)]; exact h12 j hj
  · intro j hj
    by_cases e : j = c
    · subst e; rw [pU_s]; exact hv
    · rw [pU_c e]; exact h13 j hj
  · intro j hj; rw [pU_r (by decide)]; exact h14 j hj
  · intro j hj; rw [pU_r (by decide)] at hj; rw [pU_r (by decide)]; exact h15 j hj
  · intro j hj; rw [pU_r (by decide)] at hj; rw [pU_r (by decide)]; exact h16 j hj
theorem WFs_11 {D : pD} {c v : Nat} (h : WF D) (hv : v ≤ 1023) : WF (pU D 11 c v) := by
  obtain ⟨h0, h1, h2, h3, h4, h5, h6, h7, h8, h9, h10, h11, h12, h13, h14, h15, h16⟩ := h
  refine ⟨?_, ?_, ?_, ?_, ?_, ?_, ?_, ?_, ?_, ?_, ?_, ?_, ?_, ?_, ?_, ?_, ?_⟩
  · rw [pU_r (by decide)]; exact h0
  · rw [pU_r (by decide)]; exact h1
  · rw [pU_r (by decide)]; exact h2
  · rw [pU_r (by decide)]; exact h3
  · rw [pU_r (by decide)]; exact h4
  · intro j hj; rw [pU_r (by decide)]; exact h5 j hj
  · intro j hj; rw [pU_r (by decide)]; exact h6 j hj
  · intro j hj; rw [pU_r (by decide)]; exact h7 j hj
  · intro j hj; rw [pU_r (by decide)]; exact h8 j hj
  · intro j hj; rw [pU_r (by decide)]; exact h9 j hj
  · intro j hj; rw [pU_r (by decide)]; exact h10 j hj
  · intro j hj; rw [pU_r (by decide)]; exact h11 j hj
  · intro j hj; rw [pU_r (by decide)]; exact h12 j hj
  · intro j hj; rw [pU_r (by decide)]; exact h13 j hj
  · intro j hj
    by_cases e : j = c
    · subst e; rw [pU_s]; exact hv
    · rw [pU_c e]; exact h14 j hj
  · intro j hj; rw [pU_r (by decide)] at hj; rw [pU_r (by decide)]; exact h15 j hj
  · intro j hj; rw [pU_r (by decide)] at hj; rw [pU_r (by decide)]; exact h16 j hj
theorem WFb_0 {D : pD} {v : Nat} (h : WF D) (hv : v < 64) : WF (pU D 0 0 v) := by
  obtain ⟨h0, h1, h2, h3, h4, h5, h6, h7, h8, h9, h10, h11, h12, h13, h14, h15, h16⟩ := h
  refine ⟨?_, ?_, ?_, ?_, ?_, ?_, ?_, ?_, ?_, ?_, ?_, ?_, ?_, ?_, ?_, ?_, ?_⟩
  · rw [pU_s]; exact hv
  · rw [pU_c (by decide)]; exact h1
  · rw [pU_c (by decide)]; exact h2
  · rw [pU_c (by decide)]; exact h3
  · rw [pU_c (by decide)]; exact h4
  · intro j hj; rw [pU_r (by decide)]; exact h5 j hj
  · intro j hj; rw [pU_r (by decide)]; exact h6 j hj
  · intro j hj; rw [pU_r (by decide)]; exact h7 j hj
  · intro j hj; rw [pU_r (by decide)]; exact h8 j hj
  · intro j hj; rw [pU_r (by decide)]; exact h9 j hj
  · intro j hj; rw [pU_r (by decide)]; exact h10 j hj
  · intro j hj; rw [pU_r (by decide)]; exact h11 j hj
  · intro j hj; rw [pU_r (by decide)]; exact h12 j hj
  · intro j hj; rw [pU_r (by decide)]; exact h13 j hj
  · intro j hj; rw [pU_r (by decide)]; exact h14 j hj
  · intro j hj; rw [pU_c (by decide)] at hj; rw [pU_r (by decide)]; exact h15 j hj
  · intro j hj; rw [pU_c (by decide)] at hj; rw [pU_r (by decide)]; exact h16 j hj
theorem WFb_1 {D : pD} {v : Nat} (h : WF D) (hv : v ≤ 99) : WF (pU D 0 1 v) := by
  obtain ⟨h0, h1, h2, h3, h4, h5, h6, h7, h8, h9, h10, h11, h12, h13, h14, h15, h16⟩ := h
  refine ⟨?_, ?_, ?_, ?_, ?_, ?_, ?_, ?_, ?_, ?_, ?_, ?_, ?_, ?_, ?_, ?_, ?_⟩
  · rw [pU_c (by decide)]; exact h0
  · rw [pU_s]; exact hv
  · rw [pU_c (by decide)]; exact h2
  · rw [pU_c (by decide)]; exact h3
  · rw [pU_c (by decide)]; exact h4
  · intro j hj; rw [pU_r (by decide)]; exact h5 j hj
  · intro j hj; rw [pU_r (by decide)]; exact h6 j hj
  · intro j hj; rw [pU_r (by decide)]; exact h7 j hj
  · intro j hj; rw [pU_r (by decide)]; exact h8 j hj
  · intro j hj; rw [pU_r (by decide)]; exact h9 j hj
  · intro j hj; rw [pU_r (by decide)]; exact h10 j hj
  · intro j hj; rw [pU_r (by decide)]; exact h11 j hj
  · intro j hj; rw [pU_r (by decide)]; exact h12 j hj
  · intro j hj; rw [pU_r (by decide)]; exact h13 j hj
  · intro j hj; rw [pU_r (by decide)]; exact h14 j hj
  · intro j hj; rw [pU_c (by decide)] at hj; rw [pU_r (by decide)]; exact h15 j hj
  · intro j hj; rw [pU_c (by decide)] at hj; rw [pU_r (by decide)]; exact h16 j hj
theorem WFb_3 {D : pD} {v : Nat} (h : WF D) (hv : v < 64) : WF (pU D 0 3 v) := by
  obtain ⟨h0, h1, h2, h3, h4, h5, h6, h7, h8, h9, h10, h11, h12, h13, h14, h15, h16⟩ := h
  refine ⟨?_, ?_, ?_, ?_, ?_, ?_, ?_, ?_, ?_, ?_, ?_, ?_, ?_, ?_, ?_, ?_, ?_⟩
  · rw [pU_c (by decide)]; exact h0
  · rw [pU_c (by decide)]; exact h1
  · rw [pU_c (by decide)]; exact h2
  · rw [pU_s]; exact hv
  · rw [pU_c (by decide)]; exact h4
  · intro j hj; rw [pU_r (by decide)]; exact h5 j hj
  · intro j hj; rw [pU_r (by decide)]; exact h6 j hj
  · intro j hj; rw [pU_r (by decide)]; exact h7 j hj
  · intro j hj; rw [pU_r (by decide)]; exact h8 j hj
  · intro j hj; rw [pU_r (by decide)]; exact h9 j hj
  · intro j hj; rw [pU_r (by decide)]; exact h10 j hj
  · intro j hj; rw [pU_r (by decide)]; exact h11 j hj
  · intro j hj; rw [pU_r (by decide)]; exact h12 j hj
  · intro j hj; rw [pU_r (by decide)]; exact h13 j hj
  · intro j hj; rw [pU_r (by decide)]; exact h14 j hj
  · intro j hj; rw [pU_c (by decide)] at hj; rw [pU_r (by decide)]; exact h15 j hj
  · intro j hj; rw [pU_c (by decide)] at hj; rw [pU_r (by decide)]; exact h16 j hj
theorem PR_eq {I I2 : ax_I} {n : Nat} {S : Nat → Nat} (h : PR I n S) (e1 : I2 26 1 = I 26 1) (e2 : I2 35 18 = I 35 18) (e3 : ∀ j, I2 27 j = I 27 j) (e4 : ∀ j, I2 50 j = I 50 j) : PR I2 n S := by
  obtain ⟨h0, h1, h2, h3, h4, h5⟩ := h
  exact ⟨e1.trans h0, e2.trans h1, h2, fun j hj => (e3 j).trans (h3 j hj), fun j hj => (e4 j).trans (h4 j hj), h5⟩
theorem PR_off {I : ax_I} {n : Nat} {S : Nat → Nat} {k c : Nat} {x : Int32} (h : PR I n S) (hk : k ≠ 26 ∧ k ≠ 27 ∧ k ≠ 50 ∧ (k ≠ 35 ∨ c ≠ 18)) : PR (ax_u I k c x) n S := by
  refine PR_eq h (by rw [ax_u_n (by omega)]) ?_ (fun j => by rw [ax_u_n (by omega)]) (fun j => by rw [ax_u_n (by omega)])
  rw [ax_u_at]
  split
  · omega
  · rfl
theorem Im_off {B : Nat} {lay : List ax_S} {g : Nat → Option Nat} {I : ax_I} {k c : Nat} {x : Int32} (h : Im B lay g I) (hk : k < 59) : Im B lay g (ax_u I k c x) := Im_hi h (fun r j hr => by rw [ax_u_n (by omega)])
