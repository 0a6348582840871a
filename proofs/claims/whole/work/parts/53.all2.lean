theorem ws_one {I0 I : ax_I} {a o s : Nat} (hw : I0 35 37 = 1) (h : WS I0 I a o) (hl : a + 132 ≤ 320) (ho : o < 132) (hs : s ≠ 36 ∧ s ≠ 37) (hc : kr o = 35 ∧ kj o = s) : ∃ q, F_X7_pass I (I 35 s) = some q ∧ WS I0 (ax_u q.2 35 s q.1) a (o + 1) := by
  obtain ⟨h1, h2, h3, h4⟩ := h
  have e := m_pass (I := I) (x := I 35 s) (a := a + o) true ((h1 35 37 (by decide) (by omega)).trans hw) h2 (by omega)
  refine ⟨_, e, ?_, ?_, ?_, ?_⟩
  · intro r j q1 q2
    show (ax_u (ax_u (ax_u I 59 (a + o) (I 35 s)) 35 36 (nI (a + o + 1))) 35 s (I 35 s)) r j = I0 r j
    rw [ax_u_at]
    by_cases c : r = 35 ∧ j = s
    · rw [if_pos c, c.1, c.2]; exact h1 35 s (by decide) (by omega)
    · rw [if_neg c, ax_u_at, if_neg q2, ax_u_n q1]; exact h1 r j q1 q2
  · show (ax_u (ax_u (ax_u I 59 (a + o) (I 35 s)) 35 36 (nI (a + o + 1))) 35 s (I 35 s)) 35 36 = _
    rw [ax_u_nj (fun h => hs.1 h.symm), ax_u_ss, Nat.add_assoc]
  · intro i hi
    show (ax_u (ax_u (ax_u I 59 (a + o) (I 35 s)) 35 36 (nI (a + o + 1))) 35 s (I 35 s)) 59 (a + i) = _
    rw [ax_u_n (by decide), ax_u_n (by decide)]
    by_cases c : i = o
    · rw [c, ax_u_ss, kv, hc.1, hc.2]; exact h1 35 s (by decide) (by omega)
    · rw [ax_u_nj (by omega)]; exact h3 i (by omega)
  · intro j hj
    show (ax_u (ax_u (ax_u I 59 (a + o) (I 35 s)) 35 36 (nI (a + o + 1))) 35 s (I 35 s)) 59 j = _
    rw [ax_u_n (by decide), ax_u_n (by decide), ax_u_nj (by omega)]; exact h4 j (by omega)
theorem rs_one {I0 I : ax_I} {a o s : Nat} (hw : I0 35 37 = 0) (h : RS I0 I a o) (hl : a + 132 ≤ 320) (ho : o < 132) (hs : s = 0 ∨ s = 1 ∨ s = 16) (hc : kr o = 35 ∧ kj o = s) (hd : ∀ i, i < o → kr i = 35 ∧ kj i ≠ s ∧ kj i ≠ 36) (x : Int32) : ∃ q, F_X7_pass I x = some q ∧ RS I0 (ax_u q.2 35 s q.1) a (o + 1) := by
  obtain ⟨h1, h2, h3, h4⟩ := h
  have e := m_pass (I := I) (x := x) (a := a + o) false ((h2 37 (by decide) (by decide) (by decide) (by decide)).trans hw) h3 (by omega)
  refine ⟨_, e, ?_, ?_, ?_, ?_⟩
  · intro r j q1
    show (ax_u (ax_u (ax_u I 59 (a + o) (I 59 (a + o))) 35 36 (nI (a + o + 1))) 35 s (I 59 (a + o))) r j = I0 r j
    rw [ax_u_n (by omega), ax_u_n (by omega), ax_u_at]
    by_cases c : r = 59 ∧ j = a + o
    · rw [if_pos c, c.1, c.2]; exact h1 59 _ (by omega)
    · rw [if_neg c]; exact h1 r j q1
  · intro j q1 q2 q3 q4
    show (ax_u (ax_u (ax_u I 59 (a + o) (I 59 (a + o))) 35 36 (nI (a + o + 1))) 35 s (I 59 (a + o))) 35 j = _
    rw [ax_u_nj (by omega), ax_u_nj q4, ax_u_n (by decide)]; exact h2 j q1 q2 q3 q4
  · show (ax_u (ax_u (ax_u I 59 (a + o) (I 59 (a + o))) 35 36 (nI (a + o + 1))) 35 s (I 59 (a + o))) 35 36 = _
    rw [ax_u_nj (by omega), ax_u_ss, Nat.add_assoc]
  · intro i hi
    show (ax_u (ax_u (ax_u I 59 (a + o) (I 59 (a + o))) 35 36 (nI (a + o + 1))) 35 s (I 59 (a + o))) (kr i) (kj i) = _
    by_cases c : i = o
    · rw [c, hc.1, hc.2, ax_u_ss]; exact h1 59 _ (by omega)
    · obtain ⟨d1, d2, d3⟩ := hd i (by omega)
      have q := h4 i (by omega)
      rw [kv, d1] at q
      rw [d1, ax_u_nj d2, ax_u_nj d3, ax_u_n (by decide)]; exact q
theorem all_w {I : ax_I} {a : Nat} (hw : I 35 37 = 1) (ha : I 35 36 = nI a) (hl : a + 132 ≤ 320) : ∃ I2, F_X7_passAll I = some I2 ∧ WS I I2 a 132 := by
  have h0 : WS I I a 0 := ⟨fun _ _ _ _ => rfl, ha, fun i hi => absurd hi (by omega), fun _ _ => rfl⟩
  obtain ⟨q1, e1, h1⟩ := ws_one (s := 0) hw h0 hl (by decide) (by decide) (by decide)
  obtain ⟨q2, e2, h2⟩ := ws_one (s := 1) hw h1 hl (by decide) (by decide) (by decide)
  obtain ⟨q3, e3, h3⟩ := ws_one (s := 16) hw h2 hl (by decide) (by decide) (by decide)
  obtain ⟨I4, e4, h4⟩ := ws_row (k1 := 36) (n1 := 6) hw h3 (by decide) hl (by decide) (by decide) kc_36.1
  obtain ⟨I5, e5, h5⟩ := ws_row (k1 := 37) (n1 := 6) hw h4 (by decide) hl (by decide) (by decide) kc_37.1
  obtain ⟨I6, e6, h6⟩ := ws_row (k1 := 38) (n1 := 6) hw h5 (by decide) hl (by decide) (by decide) kc_38.1
  obtain ⟨I7, e7, h7⟩ := ws_row (k1 := 39) (n1 := 6) hw h6 (by decide) hl (by decide) (by decide) kc_39.1
  obtain ⟨I8, e8, h8⟩ := ws_row (k1 := 40) (n1 := 48) hw h7 (by decide) hl (by decide) (by decide) kc_40.1
  obtain ⟨I9, e9, h9⟩ := ws_row (k1 := 41) (n1 := 6) hw h8 (by decide) hl (by decide) (by decide) kc_41.1
  obtain ⟨I10, e10, h10⟩ := ws_row (k1 := 42) (n1 := 6) hw h9 (by decide) hl (by decide) (by decide) kc_42.1
  obtain ⟨I11, e11, h11⟩ := ws_row (k1 := 43) (n1 := 6) hw h10 (by decide) hl (by decide) (by decide) kc_43.1
  obtain ⟨I12, e12, h12⟩ := ws_row (k1 := 44) (n1 := 4) hw h11 (by decide) hl (by decide) (by decide) kc_44.1
  obtain ⟨I13, e13, h13⟩ := ws_row (k1 := 45) (n1 := 3) hw h12 (by decide) hl (by decide) (by decide) kc_45.1
  obtain ⟨I14, e14, h14⟩ := ws_row (k1 := 46) (n1 := 8) hw h13 (by decide) hl (by decide) (by decide) kc_46.1
  obtain ⟨I15, e15, h15⟩ := ws_row (k1 := 47) (n1 := 8) hw h14 (by decide) hl (by decide) (by decide) kc_47.1
  obtain ⟨I16, e16, h16⟩ := ws_row (k1 := 48) (n1 := 8) hw h15 (by decide) hl (by decide) (by decide) kc_48.1
  obtain ⟨I17, e17, h17⟩ := ws_row (k1 := 49) (n1 := 8) hw h16 (by decide) hl (by decide) (by decide) kc_49.1
  refine ⟨I17, ?_, h17⟩
  rw [F_X7_passAll, e1, p_some, e2, p_some, e3, p_some, (show F_X7_passRow (ax_u q3.2 35 16 q3.1) 36 6 6 = some I4 from e4), p_some, (show F_X7_passRow I4 37 6 6 = some I5 from e5), p_some, (show F_X7_passRow I5 38 6 6 = some I6 from e6), p_some, (show F_X7_passRow I6 39 6 6 = some I7 from e7), p_some, (show F_X7_passRow I7 40 48 48 = some I8 from e8), p_some, (show F_X7_passRow I8 41 6 6 = some I9 from e9), p_some, (show F_X7_passRow I9 42 6 6 = some I10 from e10), p_some, (show F_X7_passRow I10 43 6 6 = some I11 from e11), p_some, (show F_X7_passRow I11 44 4 4 = some I12 from e12), p_some, (show F_X7_passRow I12 45 3 3 = some I13 from e13), p_some, (show F_X7_passRow I13 46 8 8 = some I14 from e14), p_some, (show F_X7_passRow I14 47 8 8 = some I15 from e15), p_some, (show F_X7_passRow I15 48 8 8 = some I16 from e16), p_some, (show F_X7_passRow I16 49 8 8 = some I17 from e17), p_some]
theorem all_r {I : ax_I} {a : Nat} (hw : I 35 37 = 0) (ha : I 35 36 = nI a) (hl : a + 132 ≤ 320) : ∃ I2, F_X7_passAll I = some I2 ∧ RS I I2 a 132 := by
  have h0 : RS I I a 0 := ⟨fun _ _ _ => rfl, fun _ _ _ _ _ => rfl, ha, fun i hi => absurd hi (by omega)⟩
  obtain ⟨q1, e1, h1⟩ := rs_one (s := 0) hw h0 hl (by decide) (by decide) (by decide) (by decide) (I 35 0)
  obtain ⟨q2, e2, h2⟩ := rs_one (s := 1) hw h1 hl (by decide) (by decide) (by decide) (by decide) ((ax_u q1.2 35 0 q1.1) 35 1)
  obtain ⟨q3, e3, h3⟩ := rs_one (s := 16) hw h2 hl (by decide) (by decide) (by decide) (by decide) ((ax_u q2.2 35 1 q2.1) 35 16)
  obtain ⟨I4, e4, h4⟩ := rs_row (k1 := 36) (n1 := 6) hw h3 (by decide) hl (by decide) (by decide) kc_36.1 kc_36.2
  obtain ⟨I5, e5, h5⟩ := rs_row (k1 := 37) (n1 := 6) hw h4 (by decide) hl (by decide) (by decide) kc_37.1 kc_37.2
  obtain ⟨I6, e6, h6⟩ := rs_row (k1 := 38) (n1 := 6) hw h5 (by decide) hl (by decide) (by decide) kc_38.1 kc_38.2
  obtain ⟨I7, e7, h7⟩ := rs_row (k1 := 39) (n1 := 6) hw h6 (by decide) hl (by decide) (by decide) kc_39.1 kc_39.2
  obtain ⟨I8, e8, h8⟩ := rs_row (k1 := 40) (n1 := 48) hw h7 (by decide) hl (by decide) (by decide) kc_40.1 kc_40.2
  obtain ⟨I9, e9, h9⟩ := rs_row (k1 := 41) (n1 := 6) hw h8 (by decide) hl (by decide) (by decide) kc_41.1 kc_41.2
  obtain ⟨I10, e10, h10⟩ := rs_row (k1 := 42) (n1 := 6) hw h9 (by decide) hl (by decide) (by decide) kc_42.1 kc_42.2
  obtain ⟨I11, e11, h11⟩ := rs_row (k1 := 43) (n1 := 6) hw h10 (by decide) hl (by decide) (by decide) kc_43.1 kc_43.2
  obtain ⟨I12, e12, h12⟩ := rs_row (k1 := 44) (n1 := 4) hw h11 (by decide) hl (by decide) (by decide) kc_44.1 kc_44.2
  obtain ⟨I13, e13, h13⟩ := rs_row (k1 := 45) (n1 := 3) hw h12 (by decide) hl (by decide) (by decide) kc_45.1 kc_45.2
  obtain ⟨I14, e14, h14⟩ := rs_row (k1 := 46) (n1 := 8) hw h13 (by decide) hl (by decide) (by decide) kc_46.1 kc_46.2
  obtain ⟨I15, e15, h15⟩ := rs_row (k1 := 47) (n1 := 8) hw h14 (by decide) hl (by decide) (by decide) kc_47.1 kc_47.2
  obtain ⟨I16, e16, h16⟩ := rs_row (k1 := 48) (n1 := 8) hw h15 (by decide) hl (by decide) (by decide) kc_48.1 kc_48.2
  obtain ⟨I17, e17, h17⟩ := rs_row (k1 := 49) (n1 := 8) hw h16 (by decide) hl (by decide) (by decide) kc_49.1 kc_49.2
  refine ⟨I17, ?_, h17⟩
  rw [F_X7_passAll, e1, p_some, e2, p_some, e3, p_some, (show F_X7_passRow (ax_u q3.2 35 16 q3.1) 36 6 6 = some I4 from e4), p_some, (show F_X7_passRow I4 37 6 6 = some I5 from e5), p_some, (show F_X7_passRow I5 38 6 6 = some I6 from e6), p_some, (show F_X7_passRow I6 39 6 6 = some I7 from e7), p_some, (show F_X7_passRow I7 40 48 48 = some I8 from e8), p_some, (show F_X7_passRow I8 41 6 6 = some I9 from e9), p_some, (show F_X7_passRow I9 42 6 6 = some I10 from e10), p_some, (show F_X7_passRow I10 43 6 6 = some I11 from e11), p_some, (show F_X7_passRow I11 44 4 4 = some I12 from e12), p_some, (show F_X7_passRow I12 45 3 3 = some I13 from e13), p_some, (show F_X7_passRow I13 46 8 8 = some I14 from e14), p_some, (show F_X7_passRow I14 47 8 8 = some I15 from e15), p_some, (show F_X7_passRow I15 48 8 8 = some I16 from e16), p_some, (show F_X7_passRow I16 49 8 8 = some I17 from e17), p_some]
