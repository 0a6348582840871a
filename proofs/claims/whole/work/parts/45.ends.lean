theorem p_ge7 {k : Nat} (h : k < 7) : ¬ (7 : Int32) ≤ nI k := nI_ge (a := k) (b := 7) h (by decide)
theorem TI_w {D : pD} {c n : Nat} {I0 I : ax_I} {t p q : Nat} (ht : t ≤ n) (hp : p < 7) (hq : q < 7) (hT : TI D c n I0 I t p q) : TI D c n I0 (ax_u I 58 (49 * t + 7 * p + q) (b01 (V D c n (n - t) p q))) t p (q + 1) := by
  refine ⟨fun r j hr => by rw [ax_u_n hr]; exact hT.1 r j hr, ?_⟩
  intro t' p' q' h1 h2 h3 h4
  by_cases he : t' = t ∧ p' = p ∧ q' = q
  · obtain ⟨rfl, rfl, rfl⟩ := he
    rw [ax_u_ss]
  · rw [ax_u_nj (by omega)]
    exact hT.2 t' p' q' h1 h2 h3 (by omega)
theorem TI_mr {D : pD} {c n : Nat} {I0 I : ax_I} {t p q : Nat} (hM : MR I0 D) (hT : TI D c n I0 I t p q) : MR I D := MR_eq hM (fun r j _ _ => hT.1 r j (by omega)) (hT.1 _ _ (by omega)) (hT.1 _ _ (by omega)) (hT.1 _ _ (by omega))
/-- one entry -/
theorem ends_1 {r2 : ax_I → Int32 → Int32 → Int32 → Option (ax_I)} {r9 : ax_I → Int32 → Int32 → Int32 → Int32 → Option (ax_I)} {I0 I : ax_I} {D : pD} (hM0 : MR I0 D) (hW : WF D) {c n t p q : Nat} (hc : c ≤ 5) (hn : n ≤ 12) (ht : t ≤ n) (hp : p < 7) (hq : q < 7) (hT : TI D c n I0 I t p q) (f : Nat) : f_X7_findEnds_19 r2 r9 (f + 1) I (nI c) (nI n) (nI t) (nI p) (nI q) = f_X7_findEnds_19 r2 r9 f (ax_u I 58 (49 * t + 7 * p + q) (b01 (V D c n (n - t) p q))) (nI c) (nI n) (nI t) (nI p) (nI (q + 1)) := by
  have hM := TI_mr hM0 hT
  have hs := sv_b hW hc (t := t) (by omega) (p := p) (q := q) (by omega) (by omega)
  have hw := wv_b hW hc (p := p) (q := q) (by omega) (by omega)
  have hi : ax_in (nI c) 6 = true := p_in (by omega) (by decide)
  have hcl : (nI c).toNatClampNeg = c := p_cl (by omega)
  have i1 : ax_in (nI (49 * t + 7 * p + q)) 637 = true := p_in (by omega) (by decide)
  have c1 : (nI (49 * t + 7 * p + q)).toNatClampNeg = 49 * t + 7 * p + q := p_cl (by omega)
  have z0 : (0 : Int32).toNatClampNeg = 0 := by decide
  have z1 : (1 : Int32).toNatClampNeg = 1 := by decide
  have z2 : (2 : Int32).toNatClampNeg = 2 := by decide
  have b0 := WF_rule hW (j := 0) (by decide)
  have b1 := WF_rule hW (j := 1) (by decide)
  have b2 := WF_rule hW (j := 2) (by decide)
  have b3 := WF_eye hW (j := c) (by omega)
  have key : ∀ b : Bool, (t = n → b = V D c n 0 p q) → f_X7_findEnds_83 r2 r9 (f_X7_findEnds_19 r2 r9 f) I (nI c) (nI n) (nI t) (nI p) (nI q) (b01 b) = f_X7_findEnds_19 r2 r9 f (ax_u I 58 (49 * t + 7 * p + q) (b01 (V D c n (n - t) p q))) (nI c) (nI n) (nI t) (nI p) (nI (q + 1)) := by
    intro b hb
    rw [f_X7_findEnds_83, m_at, p_some]
    by_cases htn : t = n
    · rw [if_pos (by rw [htn]), show n - t = 0 by omega, ← hb htn]
      cases b
      · rw [if_pos (show b01 false = 0 from rfl), f_X7_findEnds_125, if_pos i1, c1, nI_1]; rfl
      · rw [if_neg (show ¬ b01 true = 0 from by decide), f_X7_findEnds_125, if_pos i1, c1, nI_1]; rfl
    · rw [if_neg (fun h => htn ((nI_eq (by omega) (by omega)).mp h)), m_endOf hM hW hc hn (by omega) hp hq hT, p_some, f_X7_findEnds_125, if_pos i1, c1, nI_1]
  rw [f_X7_findEnds_19, if_neg (p_ge7 hq), m_wv hM hc, p_some, m_sv hM hc (by omega), p_some, if_pos hi, hcl, z0, z1, z2, MR_rule hM (j := 0) (by decide), MR_rule hM (j := 1) (by decide), MR_rule hM (j := 2) (by decide), MR_eye hM (j := c) (by omega), f_X7_findEnds_82]
  have lw : (iI (wv D c p q) < nI (D 10 0)) ↔ (wv D c p q < (D 10 0 : Int)) := by rw [← iI_n]; exact iI_lt (by omega) (by omega) (by omega) (by omega)
  have ls : (nI (D 10 1) < iI (sv D c t p q)) ↔ ((D 10 1 : Int) < sv D c t p q) := by rw [← iI_n]; exact iI_lt (by omega) (by omega) (by omega) (by omega)
  have le : (nI (D 3 c) < nI (D 10 2)) ↔ (D 3 c < D 10 2) := nI_ltI (by omega) (by omega)
  by_cases q1 : wv D c p q < (D 10 0 : Int)
  · rw [if_pos (lw.mpr q1)]
    exact key false (fun e => by rw [V, decide_eq_false (show ¬ (D 10 0 : Int) ≤ wv D c p q by omega), Bool.and_false, Bool.false_and])
  · rw [if_neg (fun h => q1 (lw.mp h))]
    by_cases q2 : (D 10 1 : Int) < sv D c t p q
    · rw [if_pos (ls.mpr q2)]
      exact key false (fun e => by rw [V, ← e, decide_eq_false (show ¬ sv D c t p q ≤ D 10 1 by omega), Bool.and_false])
    · rw [if_neg (fun h => q2 (ls.mp h))]
      by_cases q3 : D 3 c < D 10 2
      · rw [if_pos (le.mpr q3)]
        exact key false (fun e => by rw [V, decide_eq_false (show ¬ D 10 2 ≤ D 3 c by omega), Bool.false_and, Bool.false_and])
      · rw [if_neg (fun h => q3 (le.mp h))]
        exact key true (fun e => by rw [V, ← e, decide_eq_true (show (D 10 0 : Int) ≤ wv D c p q by omega), decide_eq_true (show sv D c t p q ≤ D 10 1 by omega), decide_eq_true (show D 10 2 ≤ D 3 c by omega)]; rfl)
theorem ends_q {r2 : ax_I → Int32 → Int32 → Int32 → Option (ax_I)} {r9 : ax_I → Int32 → Int32 → Int32 → Int32 → Option (ax_I)} {I0 : ax_I} {D : pD} (hM0 : MR I0 D) (hW : WF D) {c n t p : Nat} (hc : c ≤ 5) (hn : n ≤ 12) (ht : t ≤ n) (hp : p < 7) : ∀ (f m : Nat) (I : ax_I), m ≤ 7 → m < f → TI D c n I0 I t p (7 - m) → ∃ I', TI D c n I0 I' t (p + 1) 0 ∧ f_X7_findEnds_19 r2 r9 f I (nI c) (nI n) (nI t) (nI p) (nI (7 - m)) = r9 I' (nI c) (nI n) (nI t) (nI (p + 1))
  | 0, m, I, _, h, _ => by omega
  | f + 1, 0, I, _, h, hT => by
    refine ⟨I, ⟨hT.1, fun t' p' q' h1 h2 h3 h4 => hT.2 t' p' q' h1 h2 h3 (by omega)⟩, ?_⟩
    rw [f_X7_findEnds_19, if_pos (by decide), nI_1]
  | f + 1, m + 1, I, hm, h, hT => by
    have e5 : 7 - (m + 1) + 1 = 7 - m := by omega
    have hT2 := TI_w ht hp (by omega) hT
    rw [ends_1 hM0 hW hc hn ht hp (by omega) hT f]
    rw [e5] at hT2 ⊢
    exact ends_q hM0 hW hc hn ht hp f m _ (by omega) (by omega) hT2
theorem ends_p {r2 : ax_I → Int32 → Int32 → Int32 → Option (ax_I)} {I0 : ax_I} {D : pD} (hM0 : MR I0 D) (hW : WF D) {c n t : Nat} (hc : c ≤ 5) (hn : n ≤ 12) (ht : t ≤ n) : ∀ (f m : Nat) (I : ax_I), m ≤ 7 → m < f → TI D c n I0 I t (7 - m) 0 → ∃ I', TI D c n I0 I' t 7 0 ∧ f_X7_findEnds_9 r2 f I (nI c) (nI n) (nI t) (nI (7 - m)) = r2 I' (nI c) (nI n) (nI t + (-1))
  | 0, m, I, _, h, _ => by omega
  | f + 1, 0, I, _, h, hT => by
    refine ⟨I, hT, ?_⟩
    rw [f_X7_findEnds_9, if_pos (by decide)]
  | f + 1, m + 1, I, hm, h, hT => by
    have e5 : 7 - (m + 1) + 1 = 7 - m := by omega
    obtain ⟨I', h1, h2⟩ := ends_q (r2 := r2) (r9 := f_X7_findEnds_9 r2 f) hM0 hW hc hn ht (p := 7 - (m + 1)) (by omega) ax_N 7 I (by decide) (by decide) hT
    rw [e5] at h1 h2
    obtain ⟨I2, h3, h4⟩ := ends_p (r2 := r2) hM0 hW hc hn ht f m I' (by omega) (by omega) h1
    refine ⟨I2, h3, ?_⟩
    rw [f_X7_findEnds_9, if_neg (p_ge7 (by omega))]
    rw [Nat.sub_self, nI_0] at h2
    exact h2.trans h4
theorem ends_t {I0 : ax_I} {D : pD} (hM0 : MR I0 D) (hW : WF D) {c n : Nat} (hc : c ≤ 5) (hn : n ≤ 12) : ∀ (t f : Nat) (I : ax_I), t ≤ n → t + 1 < f → TI D c n I0 I t 0 0 → ∃ I', TI D c n I0 I' 0 7 0 ∧ f_X7_findEnds_2 f I (nI c) (nI n) (nI t) = some I'
  | t, 0, I, _, h, _ => by omega
  | t, 1, I, _, h, _ => by omega
  | 0, f + 2, I, ht, h, hT => by
    obtain ⟨I', h1, h2⟩ := ends_p (r2 := f_X7_findEnds_2 (f + 1)) hM0 hW hc hn ht ax_N 7 I (by decide) (by decide) hT
    rw [Nat.sub_self, nI_0] at h2
    refine ⟨I', h1, ?_⟩
    rw [f_X7_findEnds_2, if_neg (by decide)]
    refine h2.trans ?_
    rw [f_X7_findEnds_2, if_pos (by decide)]
  | t + 1, f + 2, I, ht, h, hT => by
    obtain ⟨I', h1, h2⟩ := ends_p (r2 := f_X7_findEnds_2 (f + 1)) hM0 hW hc hn ht ax_N 7 I (by decide) (by decide) hT
    rw [Nat.sub_self, nI_0, pk_m1] at h2
    obtain ⟨I2, h3, h4⟩ := ends_t hM0 hW hc hn t (f + 1) I' (by omega) (by omega) ⟨h1.1, fun t' p' q' g1 g2 g3 g4 => h1.2 t' p' q' g1 g2 g3 (by omega)⟩
    refine ⟨I2, h3, ?_⟩
    rw [f_X7_findEnds_2, if_neg (nI_pos (by omega))]
    exact h2.trans h4
theorem m_ends {I : ax_I} {D : pD} (hM : MR I D) (hW : WF D) {c n : Nat} (hc : c ≤ 5) (hn : n ≤ 12) : ∃ I', TI D c n I I' 0 7 0 ∧ F_X7_findEnds I (nI c) (nI n) = some I' :=
  ends_t hM hW hc hn n ax_N I (Nat.le_refl _) (by unfold ax_N; omega) ⟨fun _ _ _ => rfl, fun t' p' q' h1 h2 h3 h4 => by omega⟩
