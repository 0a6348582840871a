def lw_op0 (Inv : Nat → List ax_S → ax_I → ax_J → Prop) : Prop := ∀ (a1 a2 a3 a4 : Int32), OpV Inv .int isI yX6_child cX6_child 5 yX7_child cX7_child 5 [.int a1, .int a2, .int a3, .int a4]
def lw_op1 (Inv : Nat → List ax_S → ax_I → ax_J → Prop) : Prop := ∀ (a1 : Int32), OpV Inv .int isI yX6_leave cX6_leave 2 yX7_leave cX7_leave 2 [.int a1]
def lw_op2 (Inv : Nat → List ax_S → ax_I → ax_J → Prop) : Prop := ∀ (a1 a2 : Int32), OpV Inv .int isI yX6_law cX6_law 4 yX7_law cX7_law 4 [.int a1, .int a2]
def lw_op3 (Inv : Nat → List ax_S → ax_I → ax_J → Prop) : Prop := ∀ (a1 a2 : Int32), OpV Inv .int isI yX6_purse cX6_purse 4 yX7_purse cX7_purse 4 [.int a1, .int a2]
def lw_op4 (Inv : Nat → List ax_S → ax_I → ax_J → Prop) : Prop := ∀ (a1 a2 a3 a4 : Int32), OpV Inv .int isI yX6_offer cX6_offer 6 yX7_offer cX7_offer 6 [.int a1, .int a2, .int a3, .int a4]
def lw_op5 (Inv : Nat → List ax_S → ax_I → ax_J → Prop) : Prop := ∀ (a1 a2 : Int32), OpV Inv .int isI yX6_witness cX6_witness 4 yX7_witness cX7_witness 4 [.int a1, .int a2]
def lw_op6 (Inv : Nat → List ax_S → ax_I → ax_J → Prop) : Prop := ∀ (a1 : Int32), OpV Inv .int isI yX6_say cX6_say 2 yX7_say cX7_say 2 [.int a1]
def lw_op7 (Inv : Nat → List ax_S → ax_I → ax_J → Prop) : Prop := OpV Inv .int isI yX6_wipe cX6_wipe 2 yX7_wipe cX7_wipe 2 []
def lw_op8 (Inv : Nat → List ax_S → ax_I → ax_J → Prop) : Prop := OpV Inv .int isI yX6_fault cX6_fault 1 yX7_fault cX7_fault 3 []
def lw_op9 (Inv : Nat → List ax_S → ax_I → ax_J → Prop) : Prop := ∀ (a1 : Int32), OpV Inv .int isI yX6_judge cX6_judge 3 yX7_judge cX7_judge 3 [.int a1]
def lw_op10 (Inv : Nat → List ax_S → ax_I → ax_J → Prop) : Prop := ∀ (a1 a2 : Int32), OpV Inv .int isI yX6_behind cX6_behind 4 yX7_behind cX7_behind 4 [.int a1, .int a2]
def lw_op11 (Inv : Nat → List ax_S → ax_I → ax_J → Prop) : Prop := ∀ (a1 a2 : Int32), OpV Inv .int isI yX6_holds cX6_holds 4 yX7_holds cX7_holds 6 [.int a1, .int a2]
def lw_op12 (Inv : Nat → List ax_S → ax_I → ax_J → Prop) : Prop := ∀ (a1 : Int32), OpV Inv .int isI yX6_wrong cX6_wrong 3 yX7_wrong cX7_wrong 3 [.int a1]
def lw_op13 (Inv : Nat → List ax_S → ax_I → ax_J → Prop) : Prop := OpV Inv .int isI yX6_done cX6_done 2 yX7_done cX7_done 2 []
def lw_op14 (Inv : Nat → List ax_S → ax_I → ax_J → Prop) : Prop := OpV Inv .int isI yX6_saints cX6_saints 1 yX7_saints cX7_saints 3 []
def lw_op15 (Inv : Nat → List ax_S → ax_I → ax_J → Prop) : Prop := ∀ (a1 : Int32), OpV Inv .int isI yX6_lacks cX6_lacks 2 yX7_lacks cX7_lacks 2 [.int a1]
def lw_op16 (Inv : Nat → List ax_S → ax_I → ax_J → Prop) : Prop := ∀ (a1 a2 a3 a4 a5 a6 : Int32), OpV Inv .long isL yX6_odds cX6_odds 14 yX7_odds cX7_odds 15 [.int a1, .int a2, .int a3, .int a4, .int a5, .int a6]
def lw_op17 (Inv : Nat → List ax_S → ax_I → ax_J → Prop) : Prop := ∀ (a1 a2 : Int32), OpV Inv .int isI yX6_back cX6_back 8 yX7_back cX7_back 6 [.int a1, .int a2]
def lw_op18 (Inv : Nat → List ax_S → ax_I → ax_J → Prop) : Prop := ∀ (a1 a2 : Int32), OpV Inv .int isI yX6_fewest cX6_fewest 7 yX7_fewest cX7_fewest 6 [.int a1, .int a2]
def lw_op19 (Inv : Nat → List ax_S → ax_I → ax_J → Prop) : Prop := ∀ (a1 : Int32), OpV Inv .int isI yX6_day cX6_day 7 yX7_day cX7_day 6 [.int a1]
def lw_op20 (Inv : Nat → List ax_S → ax_I → ax_J → Prop) : Prop := ∀ (a1 a2 a3 : Int32), OpV Inv .int isI yX6_rivals cX6_rivals 8 yX7_rivals cX7_rivals 6 [.int a1, .int a2, .int a3]
def lw_op21 (Inv : Nat → List ax_S → ax_I → ax_J → Prop) : Prop := ∀ (a1 a2 a3 : Int32), OpV Inv .int isI yX6_share cX6_share 10 yX7_share cX7_share 10 [.int a1, .int a2, .int a3]
def lw_op22 (Inv : Nat → List ax_S → ax_I → ax_J → Prop) : Prop := ∀ (a1 a2 v : Int32), v = 0 ∨ v = 1 → OpV Inv .int isI yX6_seen cX6_seen 4 yX7_seen cX7_seen 4 [.int a1, .int a2, .int v]
def lw_op23 (Inv : Nat → List ax_S → ax_I → ax_J → Prop) : Prop := OpV Inv .int isI yX6_forget cX6_forget 2 yX7_forget cX7_forget 2 []
def lw_op24 (Inv : Nat → List ax_S → ax_I → ax_J → Prop) : Prop := ∀ (a1 : Int32), OpV Inv .int isI yX6_laws cX6_laws 2 yX7_laws cX7_laws 4 [.int a1]
def lw_op25 (Inv : Nat → List ax_S → ax_I → ax_J → Prop) : Prop := ∀ (a1 : Int32), OpV Inv .int isI yX6_ask cX6_ask 7 yX7_ask cX7_ask 6 [.int a1]
def lw_op26 (Inv : Nat → List ax_S → ax_I → ax_J → Prop) : Prop := ∀ (a1 a2 a3 : Int32), OpV Inv .int isI yX6_book cX6_book 6 yX7_book cX7_book 10 [.int a1, .int a2, .int a3]
def lw_op27 (Inv : Nat → List ax_S → ax_I → ax_J → Prop) : Prop := ∀ (a1 : Int32), OpV Inv .int isI yX6_image cX6_image 3 yX7_image cX7_image 2 [.int a1]
def lw_op28 (Inv : Nat → List ax_S → ax_I → ax_J → Prop) : Prop := ∀ (a1 : Int32), OpV Inv .int isI yX6_restore cX6_restore 3 yX7_restore cX7_restore 2 [.int a1]
def lw_op29 (Inv : Nat → List ax_S → ax_I → ax_J → Prop) : Prop := ∀ (a1 : Int32), OpV Inv .int isI yX6_told cX6_told 2 yX7_told cX7_told 3 [.int a1]
def lw_Ops (Inv : Nat → List ax_S → ax_I → ax_J → Prop) : Prop := lw_op0 Inv ∧ lw_op1 Inv ∧ lw_op2 Inv ∧ lw_op3 Inv ∧ lw_op4 Inv ∧ lw_op5 Inv ∧ lw_op6 Inv ∧ lw_op7 Inv ∧ lw_op8 Inv ∧ lw_op9 Inv ∧ lw_op10 Inv ∧ lw_op11 Inv ∧ lw_op12 Inv ∧ lw_op13 Inv ∧ lw_op14 Inv ∧ lw_op15 Inv ∧ lw_op16 Inv ∧ lw_op17 Inv ∧ lw_op18 Inv ∧ lw_op19 Inv ∧ lw_op20 Inv ∧ lw_op21 Inv ∧ lw_op22 Inv ∧ lw_op23 Inv ∧ lw_op24 Inv ∧ lw_op25 Inv ∧ lw_op26 Inv ∧ lw_op27 Inv ∧ lw_op28 Inv ∧ lw_op29 Inv
theorem lw_i7 {i L : Nat} (hL : L ≤ 448) (hi : i ≤ L + 7) (q : ¬ (Int32.ofNat L - 7 < nI i)) : i + 7 ≤ L := by
  rcases Nat.lt_or_ge L (i + 7) with h | h
  · exfalso
    apply q
    rcases Nat.lt_or_ge L 7 with h7 | h7
    · rw [Int32.lt_iff_toInt_lt]
      have h1 : (Int32.ofNat L - 7).toInt = (L : Int) - 7 := pk_sub_toInt (a := L) (b := 7) (by omega) (by omega)
      have h2 : (nI i).toInt = (i : Int) := nI_toInt (by omega)
      omega
    · rw [Int32.lt_iff_toInt_lt]
      have h1 : (Int32.ofNat L - 7).toInt = (L : Int) - 7 := pk_sub_toInt (a := L) (b := 7) (by omega) (by omega)
      have h2 : (nI i).toInt = (i : Int) := nI_toInt (by omega)
      omega
  · exact h
set_option maxRecDepth 100000 in
set_option maxHeartbeats 4000000 in
theorem law_loop {p : Program} {l : Launch} {e : Env} {s : State} {m : MethodId} {below : List Frame} {meth : Method} {c : Code} {E : ax_E} {B b L : Nat} {xs : Nat → Int32} {Inv : Nat → List ax_S → ax_I → ax_J → Prop} (hL : L ≤ 448) (C0 : lw_At p s m meth c b L xs) (hK : ax_K E s) (hB : B = s.heap.size) (hInv : ∀ lay I J, Inv B lay I J → ax_LL B lay) (hSz : ∀ lay I J, Inv B lay I J → lay.length ≤ 200 ∧ ax_z lay ≤ 100000) (hops : lw_Ops Inv) : ∀ (n i : Nat) (lay : List ax_S) (I : ax_I) (J : ax_J), L + 7 - i < n → i ≤ L + 7 → Inv B lay I J → AX p l e room_1 s m #[Value.ref b] below meth c E B 0 0 4 (lw_Z below #[Value.ref b] s) lay I J 18 [(0, .ref b), (1, .ref (B + 0)), (2, .ref (B + 35)), (3, .int (nI i))] [] := by
  obtain ⟨h0, h1, h2, h3, h4, h5, h6, h7, h8, h9, h10, h11, h12, h13, h14, h15, h16, h17, h18, h19, h20, h21, h22, h23, h24, h25, h26, h27, h28, h29⟩ := hops
  obtain ⟨hx, hb, hr, hml, hown, hts0, hX, hbl, hlocks, hgv⟩ := id C0
  have hbA : ¬ (fun q : Nat => B ≤ q) b := by show ¬ B ≤ b; omega
  intro n
  induction n with
  | zero => intro i lay I J hn; omega
  | succ n ih =>
    intro i lay I J hn hi hI H locs cells slots ls hc hz hR hS hl
    have hsz := hSz lay I J hI
    refine lv_iload_n hx hb dL_law_18 rfl (lv_at hl 3 rfl) ?_
    refine lv_aload_n hx hb dL_law_19 rfl (lv_at hl 0 rfl) ?_
    refine va_slen hx hb hX hbl hbA hS dL_law_20 ?_
    refine lv_bipush (v := 7) hx hb dL_law_21 (by decide) ?_
    refine lv_isub hx hb dL_law_23 ?_
    refine lv_icmp_gt (tgt := 1093) hx hb dL_law_24 (by decide) (fun q => ?_) (fun q => ?_)
    · refine lv_iconst (v := 1) hx hb dL_law_1093 (by decide) ?_
      refine va_forget (fun q hq => by have h9 : B ≤ q.base := hS.2.2 q hq; omega) ?_
      refine W.widen (k := 600000) (n := 7302250) (by omega) (by omega) ?_
      exact lw_ret hx hb hr hlocks dL_law_1094
    · have hi7 := lw_i7 hL hi q
      have hnext : ∀ (lay : List ax_S) (I : ax_I) (J : ax_J), Inv B lay I J → AX p l e room_1 s m #[Value.ref b] below meth c E B 0 0 4 (lw_Z below #[Value.ref b] s) lay I J 1087 [(0, .ref b), (1, .ref (B + 0)), (2, .ref (B + 35)), (3, .int (nI i))] [] := by
        intro lay I J hI H locs cells slots ls hc hz hR hS hl
        refine lv_iinc (v := nI (i + 7)) (lv' := [(3, .int (nI (i + 7))), (0, .ref b), (1, .ref (B + 0)), (2, .ref (B + 35))]) hx hb dL_law_1087 hl (k := 3) rfl (by rw [← nI_add]; rfl) (by decide) rfl (fun ls hl => ?_)
        refine lv_goto (tgt := 18) hx hb dL_law_1090 (by decide) ?_
        exact ih (i + 7) lay I J (by omega) (by omega) hI H locs cells slots ls hc hz hR hS (lv_sub hl [1, 2, 3, 0] rfl)
      refine lv_aload_n hx hb dL_law_27 rfl (lv_at hl 0 rfl) ?_
      refine lv_iload_n hx hb dL_law_28 rfl (lv_at hl 3 rfl) ?_
      refine va_sld hx hb hX hbl hbA hS (lw_in0 hi7 hL) dL_law_29 ?_
      refine lv_bipush (v := 31) hx hb dL_law_30 (by decide) ?_
      refine lv_iand hx hb dL_law_32 ?_
      generalize (xs (nI i).toNatClampNeg &&& 31) = v
      by_cases q0 : v = 0
      · refine lv_tableIn (off := 135) (tgt := 168) hx hb dL_law_33 (by rw [q0]; decide) (by rw [q0]; decide) (by rw [q0]; rfl) (by decide) ?_
        exact law_0 hL hi7 C0 hK hB hInv (h0 _ _ _ _) hnext lay I J hI H locs cells slots ls hc hz hR hS hl
      by_cases q1 : v = 1
      · refine lv_tableIn (off := 188) (tgt := 221) hx hb dL_law_33 (by rw [q1]; decide) (by rw [q1]; decide) (by rw [q1]; rfl) (by decide) ?_
        exact law_1 hL hi7 C0 hK hB hInv (h1 _) hnext lay I J hI H locs cells slots ls hc hz hR hS hl
      by_cases q2 : v = 2
      · refine lv_tableIn (off := 211) (tgt := 244) hx hb dL_law_33 (by rw [q2]; decide) (by rw [q2]; decide) (by rw [q2]; rfl) (by decide) ?_
        exact law_2 hL hi7 C0 hK hB hInv (h2 _ _) hnext lay I J hI H locs cells slots ls hc hz hR hS hl
      by_cases q3 : v = 3
      · refine lv_tableIn (off := 244) (tgt := 277) hx hb dL_law_33 (by rw [q3]; decide) (by rw [q3]; decide) (by rw [q3]; rfl) (by decide) ?_
        exact law_3 hL hi7 C0 hK hB hInv (h3 _ _) hnext lay I J hI H locs cells slots ls hc hz hR hS hl
      by_cases q4 : v = 4
      · refine lv_tableIn (off := 277) (tgt := 310) hx hb dL_law_33 (by rw [q4]; decide) (by rw [q4]; decide) (by rw [q4]; rfl) (by decide) ?_
        exact law_4 hL hi7 C0 hK hB hInv (h4 _ _ _ _) hnext lay I J hI H locs cells slots ls hc hz hR hS hl
      by_cases q5 : v = 5
      · refine lv_tableIn (off := 330) (tgt := 363) hx hb dL_law_33 (by rw [q5]; decide) (by rw [q5]; decide) (by rw [q5]; rfl) (by decide) ?_
        exact law_5 hL hi7 C0 hK hB hInv (h5 _ _) hnext lay I J hI H locs cells slots ls hc hz hR hS hl
      by_cases q6 : v = 6
      · refine lv_tableIn (off := 363) (tgt := 396) hx hb dL_law_33 (by rw [q6]; decide) (by rw [q6]; decide) (by rw [q6]; rfl) (by decide) ?_
        exact law_6 hL hi7 C0 hK hB hInv (h6 _) hnext lay I J hI H locs cells slots ls hc hz hR hS hl
      by_cases q7 : v = 7
      · refine lv_tableIn (off := 386) (tgt := 419) hx hb dL_law_33 (by rw [q7]; decide) (by rw [q7]; decide) (by rw [q7]; rfl) (by decide) ?_
        exact law_7 hL hi7 C0 hK hB hInv (h7) hnext lay I J hI H locs cells slots ls hc hz hR hS hl
      by_cases q8 : v = 8
      · refine lv_tableIn (off := 399) (tgt := 432) hx hb dL_law_33 (by rw [q8]; decide) (by rw [q8]; decide) (by rw [q8]; rfl) (by decide) ?_
        exact law_8 hL hi7 C0 hK hB hInv (h8) hnext lay I J hI H locs cells slots ls hc hz hR hS hl
      by_cases q9 : v = 9
      · refine lv_tableIn (off := 412) (tgt := 445) hx hb dL_law_33 (by rw [q9]; decide) (by rw [q9]; decide) (by rw [q9]; rfl) (by decide) ?_
        exact law_9 hL hi7 C0 hK hB hInv (h9 _) hnext lay I J hI H locs cells slots ls hc hz hR hS hl
      by_cases q10 : v = 10
      · refine lv_tableIn (off := 435) (tgt := 468) hx hb dL_law_33 (by rw [q10]; decide) (by rw [q10]; decide) (by rw [q10]; rfl) (by decide) ?_
        exact law_10 hL hi7 C0 hK hB hInv (h10 _ _) hnext lay I J hI H locs cells slots ls hc hz hR hS hl
      by_cases q11 : v = 11
      · refine lv_tableIn (off := 468) (tgt := 501) hx hb dL_law_33 (by rw [q11]; decide) (by rw [q11]; decide) (by rw [q11]; rfl) (by decide) ?_
        exact law_11 hL hi7 C0 hK hB hInv (h11 _ _) hnext lay I J hI H locs cells slots ls hc hz hR hS hl
      by_cases q12 : v = 12
      · refine lv_tableIn (off := 501) (tgt := 534) hx hb dL_law_33 (by rw [q12]; decide) (by rw [q12]; decide) (by rw [q12]; rfl) (by decide) ?_
        exact law_12 hL hi7 C0 hK hB hInv (h12 _) hnext lay I J hI H locs cells slots ls hc hz hR hS hl
      by_cases q13 : v = 13
      · refine lv_tableIn (off := 524) (tgt := 557) hx hb dL_law_33 (by rw [q13]; decide) (by rw [q13]; decide) (by rw [q13]; rfl) (by decide) ?_
        exact law_13 hL hi7 C0 hK hB hInv (h13) hnext lay I J hI H locs cells slots ls hc hz hR hS hl
      by_cases q14 : v = 14
      · refine lv_tableIn (off := 537) (tgt := 570) hx hb dL_law_33 (by rw [q14]; decide) (by rw [q14]; decide) (by rw [q14]; rfl) (by decide) ?_
        exact law_14 hL hi7 C0 hK hB hInv (h14) hnext lay I J hI H locs cells slots ls hc hz hR hS hl
      by_cases q15 : v = 15
      · refine lv_tableIn (off := 550) (tgt := 583) hx hb dL_law_33 (by rw [q15]; decide) (by rw [q15]; decide) (by rw [q15]; rfl) (by decide) ?_
        exact law_15 hL hi7 C0 hK hB hInv (h15 _) hnext lay I J hI H locs cells slots ls hc hz hR hS hl
      by_cases q16 : v = 16
      · refine lv_tableIn (off := 573) (tgt := 606) hx hb dL_law_33 (by rw [q16]; decide) (by rw [q16]; decide) (by rw [q16]; rfl) (by decide) ?_
        exact law_16 hL hi7 C0 hK hB hInv (h16 _ _ _ _ _ _) hnext lay I J hI H locs cells slots ls hc hz hR hS hl
      by_cases q17 : v = 17
      · refine lv_tableIn (off := 649) (tgt := 682) hx hb dL_law_33 (by rw [q17]; decide) (by rw [q17]; decide) (by rw [q17]; rfl) (by decide) ?_
        exact law_17 hL hi7 C0 hK hB hInv (h17 _ _) hnext lay I J hI H locs cells slots ls hc hz hR hS hl
      by_cases q18 : v = 18
      · refine lv_tableIn (off := 682) (tgt := 715) hx hb dL_law_33 (by rw [q18]; decide) (by rw [q18]; decide) (by rw [q18]; rfl) (by decide) ?_
        exact law_18 hL hi7 C0 hK hB hInv (h18 _ _) hnext lay I J hI H locs cells slots ls hc hz hR hS hl
      by_cases q19 : v = 19
      · refine lv_tableIn (off := 715) (tgt := 748) hx hb dL_law_33 (by rw [q19]; decide) (by rw [q19]; decide) (by rw [q19]; rfl) (by decide) ?_
        exact law_19 hL hi7 C0 hK hB hInv (h19 _) hnext lay I J hI H locs cells slots ls hc hz hR hS hl
      by_cases q20 : v = 20
      · refine lv_tableIn (off := 738) (tgt := 771) hx hb dL_law_33 (by rw [q20]; decide) (by rw [q20]; decide) (by rw [q20]; rfl) (by decide) ?_
        exact law_20 hL hi7 C0 hK hB hInv (h20 _ _ _) hnext lay I J hI H locs cells slots ls hc hz hR hS hl
      by_cases q21 : v = 21
      · refine lv_tableIn (off := 781) (tgt := 814) hx hb dL_law_33 (by rw [q21]; decide) (by rw [q21]; decide) (by rw [q21]; rfl) (by decide) ?_
        exact law_21 hL hi7 C0 hK hB hInv (h21 _ _ _) hnext lay I J hI H locs cells slots ls hc hz hR hS hl
      by_cases q22 : v = 22
      · refine lv_tableIn (off := 824) (tgt := 857) hx hb dL_law_33 (by rw [q22]; decide) (by rw [q22]; decide) (by rw [q22]; rfl) (by decide) ?_
        by_cases h3 : xs (nI i + 3).toNatClampNeg = 0
        · exact law_22_0 hL hi7 C0 hK hB hInv h3 (h22 _ _ 0 (Or.inl rfl)) hnext lay I J hI H locs cells slots ls hc hz hR hS hl
        · exact law_22_1 hL hi7 C0 hK hB hInv h3 (h22 _ _ 1 (Or.inr rfl)) hnext lay I J hI H locs cells slots ls hc hz hR hS hl
      by_cases q23 : v = 23
      · refine lv_tableIn (off := 883) (tgt := 916) hx hb dL_law_33 (by rw [q23]; decide) (by rw [q23]; decide) (by rw [q23]; rfl) (by decide) ?_
        exact law_23 hL hi7 C0 hK hB hInv (h23) hnext lay I J hI H locs cells slots ls hc hz hR hS hl
      by_cases q24 : v = 24
      · refine lv_tableIn (off := 896) (tgt := 929) hx hb dL_law_33 (by rw [q24]; decide) (by rw [q24]; decide) (by rw [q24]; rfl) (by decide) ?_
        exact law_24 hL hi7 C0 hK hB hInv (h24 _) hnext lay I J hI H locs cells slots ls hc hz hR hS hl
      by_cases q25 : v = 25
      · refine lv_tableIn (off := 919) (tgt := 952) hx hb dL_law_33 (by rw [q25]; decide) (by rw [q25]; decide) (by rw [q25]; rfl) (by decide) ?_
        exact law_25 hL hi7 C0 hK hB hInv (h25 _) hnext lay I J hI H locs cells slots ls hc hz hR hS hl
      by_cases q26 : v = 26
      · refine lv_tableIn (off := 942) (tgt := 975) hx hb dL_law_33 (by rw [q26]; decide) (by rw [q26]; decide) (by rw [q26]; rfl) (by decide) ?_
        exact law_26 hL hi7 C0 hK hB hInv (h26 _ _ _) hnext lay I J hI H locs cells slots ls hc hz hR hS hl
      by_cases q27 : v = 27
      · refine lv_tableIn (off := 985) (tgt := 1018) hx hb dL_law_33 (by rw [q27]; decide) (by rw [q27]; decide) (by rw [q27]; rfl) (by decide) ?_
        exact law_27 hL hi7 C0 hK hB hInv (h27 _) hnext lay I J hI H locs cells slots ls hc hz hR hS hl
      by_cases q28 : v = 28
      · refine lv_tableIn (off := 1008) (tgt := 1041) hx hb dL_law_33 (by rw [q28]; decide) (by rw [q28]; decide) (by rw [q28]; rfl) (by decide) ?_
        exact law_28 hL hi7 C0 hK hB hInv (h28 _) hnext lay I J hI H locs cells slots ls hc hz hR hS hl
      by_cases q29 : v = 29
      · refine lv_tableIn (off := 1031) (tgt := 1064) hx hb dL_law_33 (by rw [q29]; decide) (by rw [q29]; decide) (by rw [q29]; rfl) (by decide) ?_
        exact law_29 hL hi7 C0 hK hB hInv (h29 _) hnext lay I J hI H locs cells slots ls hc hz hR hS hl
      have e0 := ax_nt (z := 0) q0 (by decide)
      have e1 := ax_nt (z := 1) q1 (by decide)
      have e2 := ax_nt (z := 2) q2 (by decide)
      have e3 := ax_nt (z := 3) q3 (by decide)
      have e4 := ax_nt (z := 4) q4 (by decide)
      have e5 := ax_nt (z := 5) q5 (by decide)
      have e6 := ax_nt (z := 6) q6 (by decide)
      have e7 := ax_nt (z := 7) q7 (by decide)
      have e8 := ax_nt (z := 8) q8 (by decide)
      have e9 := ax_nt (z := 9) q9 (by decide)
      have e10 := ax_nt (z := 10) q10 (by decide)
      have e11 := ax_nt (z := 11) q11 (by decide)
      have e12 := ax_nt (z := 12) q12 (by decide)
      have e13 := ax_nt (z := 13) q13 (by decide)
      have e14 := ax_nt (z := 14) q14 (by decide)
      have e15 := ax_nt (z := 15) q15 (by decide)
      have e16 := ax_nt (z := 16) q16 (by decide)
      have e17 := ax_nt (z := 17) q17 (by decide)
      have e18 := ax_nt (z := 18) q18 (by decide)
      have e19 := ax_nt (z := 19) q19 (by decide)
      have e20 := ax_nt (z := 20) q20 (by decide)
      have e21 := ax_nt (z := 21) q21 (by decide)
      have e22 := ax_nt (z := 22) q22 (by decide)
      have e23 := ax_nt (z := 23) q23 (by decide)
      have e24 := ax_nt (z := 24) q24 (by decide)
      have e25 := ax_nt (z := 25) q25 (by decide)
      have e26 := ax_nt (z := 26) q26 (by decide)
      have e27 := ax_nt (z := 27) q27 (by decide)
      have e28 := ax_nt (z := 28) q28 (by decide)
      have e29 := ax_nt (z := 29) q29 (by decide)
      refine lv_tableOut (tgt := 1087) hx hb dL_law_33 (by omega) (by decide) ?_
      exact hnext lay I J hI H locs cells slots ls hc hz hR hS hl
theorem lw_len {B : Nat} {g : Nat → Option Nat} : (ax_L B g).length = 61 := rfl
theorem lw_zz {B : Nat} {g : Nat → Option Nat} : ax_z (ax_L B g) = 2184 := by simp [ax_z, ax_L, ax_sz]
set_option maxRecDepth 100000 in
theorem lw_lay {B : Nat} : ([] : List ax_S) ++ [.inl (6, [some (.ref (B + (0 + 1))), some (.ref (B + (0 + 13))), some (.ref (B + (0 + 25))), some (.ref (B + (0 + 26))), some (.ref (B + (0 + 28))), some (.ref (B + (0 + 30))), some (.ref (B + (0 + 31))), some (.ref (B + (0 + 33)))]), .inl (2, [none, none, none, none, none, some (.ref (B + (0 + 2))), some (.ref (B + (0 + 3))), some (.ref (B + (0 + 4))), some (.ref (B + (0 + 5))), some (.ref (B + (0 + 6))), some (.ref (B + (0 + 7))), some (.ref (B + (0 + 8))), some (.ref (B + (0 + 9))), some (.ref (B + (0 + 10))), some (.ref (B + (0 + 11))), some (.ref (B + (0 + 12)))]), .inr (.inl (0, 6)), .inr (.inl (0, 6)), .inr (.inl (0, 6)), .inr (.inl (0, 48)), .inr (.inl (0, 6)), .inr (.inl (0, 6)), .inr (.inl (0, 6)), .inr (.inl (0, 4)), .inr (.inl (0, 3)), .inr (.inl (0, 8)), .inr (.inl (0, 8)), .inl (2, [none, none, none, none, none, some (.ref (B + (0 + 14))), some (.ref (B + (0 + 15))), some (.ref (B + (0 + 16))), some (.ref (B + (0 + 17))), some (.ref (B + (0 + 18))), some (.ref (B + (0 + 19))), some (.ref (B + (0 + 20))), some (.ref (B + (0 + 21))), some (.ref (B + (0 + 22))), some (.ref (B + (0 + 23))), some (.ref (B + (0 + 24)))]), .inr (.inl (0, 6)), .inr (.inl (0, 6)), .inr (.inl (0, 6)), .inr (.inl (0, 48)), .inr (.inl (0, 6)), .inr (.inl (0, 6)), .inr (.inl (0, 6)), .inr (.inl (0, 4)), .inr (.inl (0, 3)), .inr (.inl (0, 8)), .inr (.inl (0, 8)), .inr (.inr (2, fun _ => none)), .inl (4, [some (.ref (B + (0 + 27))), none]), .inr (.inl (1, 60)), .inl (5, [some (.ref (B + (0 + 29))), none, none, none, none, none, none]), .inl (0, [none, none, none, none]), .inl (0, [none, none, none, none]), .inl (1, [some (.ref (B + (0 + 32)))]), .inr (.inl (3, 81)), .inl (3, [some (.ref (B + (0 + 34))), none]), .inr (.inl (0, 100)), .inl (7, [none, none, some (.ref (B + (0 + 36))), some (.ref (B + (0 + 37))), some (.ref (B + (0 + 38))), some (.ref (B + (0 + 39))), some (.ref (B + (0 + 40))), some (.ref (B + (0 + 41))), some (.ref (B + (0 + 42))), some (.ref (B + (0 + 43))), some (.ref (B + (0 + 44))), some (.ref (B + (0 + 45))), some (.ref (B + (0 + 46))), some (.ref (B + (0 + 47))), some (.ref (B + (0 + 48))), some (.ref (B + (0 + 49))), none, some (.ref (B + (0 + 50))), none, some (.ref (B + (0 + 51))), some (.ref (B + (0 + 52))), some (.ref (B + (0 + 53))), some (.ref (B + (0 + 54))), none, none, none, none, none, some (.ref (B + (0 + 55))), some (.ref (B + (0 + 56))), none, none, some (.ref (B + (0 + 57))), some (.ref (B + (0 + 58))), some (.ref (B + (0 + 59))), some (.ref (B + (0 + 60))), none, none]), .inr (.inl (0, 6)), .inr (.inl (0, 6)), .inr (.inl (0, 6)), .inr (.inl (0, 6)), .inr (.inl (0, 48)), .inr (.inl (0, 6)), .inr (.inl (0, 6)), .inr (.inl (0, 6)), .inr (.inl (0, 4)), .inr (.inl (0, 3)), .inr (.inl (0, 8)), .inr (.inl (0, 8)), .inr (.inl (0, 8)), .inr (.inl (0, 8)), .inr (.inl (0, 60)), .inr (.inl (0, 60)), .inr (.inl (0, 60)), .inr (.inl (0, 60)), .inr (.inl (0, 60)), .inr (.inl (0, 77)), .inr (.inl (0, 83)), .inr (.inl (3, 81)), .inr (.inl (0, 637)), .inr (.inl (0, 320)), .inr (.inl (2, 2))] = ax_L B (fun _ => none) := rfl
section LWI
variable {p : Program} {l : Launch} {e : Env} {R : Room} {s : State} {m : MethodId} {args : Array Value} {below : List Frame} {meth : Method} {c : Code} {H : Heap} {locs : List Loc} {cells slots : Nat} {Q : State → Prop}
variable {cc : ByteArray} {pc : Nat} {ls : Array Slot} {rest : List Value} {E : ax_E} {B : Nat} {I I' : ax_I} {J J' : ax_J} {y' : MethodName} {cc' : ByteArray} {nL mL' : Nat} {d d' idx : Nat} {pre L L' : List ax_S} {b : Nat} {own : String} {kc ks : Nat}
theorem lw_cIP {k : Nat} {Lk L0 L1 : List ax_S} (S : CallFix p m c cc nL s args ax_g own) (hK : ax_K E s) (hfr : d ≤ R.frames) (hlo : 40 * d ≤ R.locals) (hS : va_S (fun q => B ≤ q) s.heap H locs) (hR : ax_R E B (pre ++ L) I J H) {mc' ms' : Nat} (hM : Cn l y' cc' mL' none d' E B [.ref (B + (b + k))] ((pre ++ Lk) ++ L0) I J none ((pre ++ Lk) ++ L1) I' J' mc' ms') (hA : L = Lk ++ L0) (hB : Lk ++ L1 = L') (hY : ax_Y y' cc' mL' none 0) (hin : Cond.instanceMethod y' ∈ ax_g) (hnm : y'.name = "<init>") (hlk : Cond.methodLink own idx y' ∈ ax_g) (hd : d' + 1 ≤ d) (hsz : ls.size = nL) (hW : (rest.map fun v => v.category).sum ≤ 8) (hkc : cells + mc' = kc) (hks : slots + ms' = ks) (hcells : kc ≤ R.cells) (hslots : ks ≤ R.slots) (hdg : decode cc pc = .ok (.invokespecial idx, 3))
    (kk : ∀ (H1 : Heap) (locs1 : List Loc), ax_R E B (pre ++ L') I' J' H1 → va_S (fun q => B ≤ q) s.heap H1 locs1 → W p l e R s m args below meth c H1 locs1 kc ks Q (F0 m (pc + 3) ls rest)) : W p l e R s m args below meth c H locs cells slots Q (F0 m pc ls (.ref (B + (b + k)) :: rest)) := by
  subst hkc hks hA hB
  rw [← List.append_assoc] at hR
  rw [← List.append_assoc] at kk
  exact ax_go (rv := none) (va_runI (As := []) (rest := rest) S hM ⟨ax_cb S.2.2.2.2 hY hlk hd hfr hlo, hnm, S.2.2.2.2 _ hin⟩ ⟨ax_blind, ax_pre hK hR⟩ rfl rfl hsz rfl (lv_room hW) hdg ⟨hcells, hslots⟩) hS kk
end LWI
theorem lw_arr {s : State} {args : Array Value} {ty : FieldType} (h : (Cond.arrayClass ty).before args s = true) : ∃ cA : ClassId, ArrOfT s cA ty ∧ s.vm.findClass ("[" ++ ty.toString) = some cA := by
  obtain ⟨cA, k, comp, h1, h2, h3⟩ := Cond.arrayClass_spec h
  exact ⟨cA, fun n z => ⟨fun q hq => (by cases hq), k, h2, comp, h3⟩, h1⟩
theorem lw_K {s : State} {args : Array Value} (hts : ∀ w ∈ lw_tbl, w.before args s = true) : ∃ E : ax_E, ax_K E s := by
  have hg : ∀ w ∈ ax_g, w.before args s = true := fun w hw => hts w (lw_tg hw)

  obtain ⟨c0, i0, hk0⟩ := u_known (C := RX0) (T := TX0) (N := 4) (n := 4) hg cf_X0.1 (hg _ inst_X0)
  obtain ⟨c1, i1, hk1⟩ := u_known (C := RX1) (T := TX1) (N := 1) (n := 1) hg cf_X1.1 (hg _ inst_X1)
  obtain ⟨c2, i2, hk2⟩ := u_known (C := RX2) (T := TX2) (N := 16) (n := 16) hg cf_X2.1 (hg _ inst_X2)
  obtain ⟨c3, i3, hk3⟩ := u_known (C := RX3) (T := TX3) (N := 2) (n := 2) hg cf_X3.1 (hg _ inst_X3)
  obtain ⟨c4, i4, hk4⟩ := u_known (C := RX4) (T := TX4) (N := 2) (n := 2) hg cf_X4.1 (hg _ inst_X4)
  obtain ⟨c5, i5, hk5⟩ := u_known (C := RX5) (T := TX5) (N := 7) (n := 7) hg cf_X5.1 (hg _ inst_X5)
  obtain ⟨c6, i6, hk6⟩ := u_known (C := RX6) (T := TX6) (N := 8) (n := 8) hg cf_X6.1 (hg _ inst_X6)
  obtain ⟨c7, i7, hk7⟩ := u_known (C := RX7) (T := TX7) (N := 38) (n := 38) hg cf_X7.1 (hg _ inst_X7)
  obtain ⟨a0, ha0, hb0⟩ := lw_arr (hg _ ac_int)
  obtain ⟨a1, ha1, hb1⟩ := lw_arr (hg _ ac_char)
  obtain ⟨a2, ha2, hb2⟩ := lw_arr (hg _ ac_boolean)
  obtain ⟨a3, ha3, hb3⟩ := lw_arr (hg _ ac_long)
  have hao : va_AO RX2 s := va_AO.of (hts (.arrayOver (.object RX2)) (by decide +kernel))
  obtain ⟨comp, a4, k4, g1, -, g3, g4, g5⟩ := Cond.arrayOver_spec hao
  refine ⟨((fun k => match k with | 0 => c0 | 1 => c1 | 2 => c2 | 3 => c3 | 4 => c4 | 5 => c5 | 6 => c6 | _ => c7, fun k => match k with | 0 => i0 | 1 => i1 | 2 => i2 | 3 => i3 | 4 => i4 | 5 => i5 | 6 => i6 | _ => i7), fun k => match k with | 0 => a0 | 1 => a1 | 2 => a2 | 3 => a3 | _ => a4), ⟨?_, ?_⟩, ?_, hao⟩
  · intro k q hq
    match k, hq with
    | 0, hq => cases hq; exact hk0
    | 1, hq => cases hq; exact hk1
    | 2, hq => cases hq; exact hk2
    | 3, hq => cases hq; exact hk3
    | 4, hq => cases hq; exact hk4
    | 5, hq => cases hq; exact hk5
    | 6, hq => cases hq; exact hk6
    | 7, hq => cases hq; exact hk7
    | k + 8, hq => simp [ax_cl] at hq
  · intro k q hq
    match k, hq with
    | 0, hq => cases hq; exact ⟨ha0, hb0⟩
    | 1, hq => cases hq; exact ⟨ha1, hb1⟩
    | 2, hq => cases hq; exact ⟨ha2, hb2⟩
    | 3, hq => cases hq; exact ⟨ha3, hb3⟩
    | 4, hq => cases hq; exact ⟨fun n z => ⟨fun q hq => (by cases hq), k4, g3, comp, g4⟩, k4, comp, g3, g4, g1, g5⟩
    | k + 5, hq => simp [ax_tys] at hq
  · intro w hw
    have hm : ∀ w ∈ ax_nw, w ∈ lw_tbl ∧ w.onTables = true := by
      intro w hw
      simp only [ax_nw, List.mem_cons, List.not_mem_nil, or_false] at hw
      rcases hw with rfl | rfl | rfl | rfl | rfl | rfl | rfl | rfl <;> exact ⟨by decide +kernel, rfl⟩
    exact va_Nw.of (hm w hw).2 (hts w (hm w hw).1)
set_option maxRecDepth 100000 in
set_option maxHeartbeats 4000000 in
theorem whole_from {Inv : Nat → List ax_S → ax_I → ax_J → Prop} (hInv : ∀ B lay I J, Inv B lay I J → ax_LL B lay) (hSz : ∀ B lay I J, Inv B lay I J → lay.length ≤ 200 ∧ ax_z lay ≤ 100000) (hops : lw_Ops Inv)
    (hst : ∀ (B : Nat) (I : ax_I) (J : ax_J), ∃ (I1 : ax_I) (J1 : ax_J) (I2 : ax_I) (J2 : ax_J), F_X6_init (ax_r I (0 + 0) (fun _ => 0)) J (0 + 0) = some (I1, J1) ∧ F_X7_init (ax_r I1 (0 + 35) (fun _ => 0)) J1 (0 + 35) = some (I2, J2) ∧ Inv B (ax_L B (fun _ => none)) I2 J2)
    {p : Program} {e : Env} {s : State} {m : MethodId} {below : List Frame} {meth : Method} {c : Code} (l : Launch) {b L : Nat} {xs : Nat → Int32} (hL : L ≤ 448) (C0 : lw_At p s m meth c b L xs) : W p l e room_1 s m #[Value.ref b] below meth c s.heap [] 0 0 (lw_Z below #[Value.ref b] s) (entryFrame m ([Value.ref b] : List Value).toArray 4) := by
  obtain ⟨hx, hb, hr, hml, hown, hts0, hX, hbl, hlocks, hgv⟩ := id C0
  have hown : s.vm.findClass RL = some m.cls := hown
  have hts : ∀ w ∈ ax_g, w.before #[Value.ref b] s = true := fun w hw => hts0 w (lw_tg hw)
  obtain ⟨E, hK⟩ := lw_K hts0
  obtain ⟨B, hB⟩ : ∃ B, B = s.heap.size := ⟨_, rfl⟩
  obtain ⟨I1, J1, I2, J2, hi1, hi2, hI⟩ := hst B (fun _ _ => 0) (fun _ _ => 0)
  have hl := lv_entry ([.ref b]) (n := 4) (Nat.le_of_ble_eq_true rfl)
  rw [lg_entry_eq]
  generalize (lg_sl ([.ref b]) ++ List.replicate (4 - (lg_sl ([.ref b])).length) Slot.unset).toArray = ls at hl ⊢
  have hl : lv_has ls 4 [(0, .ref b)] := hl
  have hS : va_S (fun q => B ≤ q) s.heap s.heap [] := va_S.rf
  have hR : ax_R E B ([] ++ []) (fun _ _ => 0) (fun _ _ => 0) s.heap := ⟨fun k q h => by simp [ax_W, ax_w] at h, by simp [hB]⟩
  refine ax_newP (ci := 6) (q := (RX6, TX6, 8)) (fs := [some .null, some .null, some .null, some .null, some .null, some .null, some .null, some .null]) (pre := []) (b := 0) (L' := [.inl (6, [some .null, some .null, some .null, some .null, some .null, some .null, some .null, some .null])]) (kc := 1) (ks := 8) (nn := 0) hx hb hts hown hK rfl hR hS tyX6 rfl cf_X6.1 tyX6_ok rfl cl_L_7 inst_X6 ini_X6 hf_X6 rfl rfl (by decide) (by decide) rfl rfl dL_law_0 (fun H hR hS => ?_)
  refine lv_dup hx hb dL_law_3 rfl ?_
  refine lw_cIP (d := 100) (k := 0) (pre := []) (b := 0) (Lk := []) (L' := [.inl (6, [some (.ref (B + (0 + 1))), some (.ref (B + (0 + 13))), some (.ref (B + (0 + 25))), some (.ref (B + (0 + 26))), some (.ref (B + (0 + 28))), some (.ref (B + (0 + 30))), some (.ref (B + (0 + 31))), some (.ref (B + (0 + 33)))]), .inl (2, [none, none, none, none, none, some (.ref (B + (0 + 2))), some (.ref (B + (0 + 3))), some (.ref (B + (0 + 4))), some (.ref (B + (0 + 5))), some (.ref (B + (0 + 6))), some (.ref (B + (0 + 7))), some (.ref (B + (0 + 8))), some (.ref (B + (0 + 9))), some (.ref (B + (0 + 10))), some (.ref (B + (0 + 11))), some (.ref (B + (0 + 12)))]), .inr (.inl (0, 6)), .inr (.inl (0, 6)), .inr (.inl (0, 6)), .inr (.inl (0, 48)), .inr (.inl (0, 6)), .inr (.inl (0, 6)), .inr (.inl (0, 6)), .inr (.inl (0, 4)), .inr (.inl (0, 3)), .inr (.inl (0, 8)), .inr (.inl (0, 8)), .inl (2, [none, none, none, none, none, some (.ref (B + (0 + 14))), some (.ref (B + (0 + 15))), some (.ref (B + (0 + 16))), some (.ref (B + (0 + 17))), some (.ref (B + (0 + 18))), some (.ref (B + (0 + 19))), some (.ref (B + (0 + 20))), some (.ref (B + (0 + 21))), some (.ref (B + (0 + 22))), some (.ref (B + (0 + 23))), some (.ref (B + (0 + 24)))]), .inr (.inl (0, 6)), .inr (.inl (0, 6)), .inr (.inl (0, 6)), .inr (.inl (0, 48)), .inr (.inl (0, 6)), .inr (.inl (0, 6)), .inr (.inl (0, 6)), .inr (.inl (0, 4)), .inr (.inl (0, 3)), .inr (.inl (0, 8)), .inr (.inl (0, 8)), .inr (.inr (2, fun _ => none)), .inl (4, [some (.ref (B + (0 + 27))), none]), .inr (.inl (1, 60)), .inl (5, [some (.ref (B + (0 + 29))), none, none, none, none, none, none]), .inl (0, [none, none, none, none]), .inl (0, [none, none, none, none]), .inl (1, [some (.ref (B + (0 + 32)))]), .inr (.inl (3, 81)), .inl (3, [some (.ref (B + (0 + 34))), none]), .inr (.inl (0, 100))]) (kc := 35) (ks := 517) (rest := [.ref (B + (0 + 0))]) ⟨hx, hb, hml, hown, hts⟩ hK (by decide) (by decide) hS hR (M_X6_init rfl hi1) rfl rfl yk_X6_init in_X6_init rfl ml_L_9 (by decide) hl.1 (Nat.le_of_ble_eq_true rfl) rfl rfl (by decide) (by decide) dL_law_4 (fun H locs hR hS => ?_)
  refine lv_astore_n (lv' := [(1, .ref (B + 0)), (0, .ref b)]) hx hb dL_law_7 rfl hl (by decide) rfl (fun ls hl => ?_)
  refine ax_newP (ci := 7) (q := (RX7, TX7, 38)) (fs := [none, none, some .null, some .null, some .null, some .null, some .null, some .null, some .null, some .null, some .null, some .null, some .null, some .null, some .null, some .null, none, some .null, none, some .null, some .null, some .null, some .null, none, none, none, none, none, some .null, some .null, none, none, some .null, some .null, some .null, some .null, none, none]) (pre := []) (b := 0) (L' := [.inl (6, [some (.ref (B + (0 + 1))), some (.ref (B + (0 + 13))), some (.ref (B + (0 + 25))), some (.ref (B + (0 + 26))), some (.ref (B + (0 + 28))), some (.ref (B + (0 + 30))), some (.ref (B + (0 + 31))), some (.ref (B + (0 + 33)))]), .inl (2, [none, none, none, none, none, some (.ref (B + (0 + 2))), some (.ref (B + (0 + 3))), some (.ref (B + (0 + 4))), some (.ref (B + (0 + 5))), some (.ref (B + (0 + 6))), some (.ref (B + (0 + 7))), some (.ref (B + (0 + 8))), some (.ref (B + (0 + 9))), some (.ref (B + (0 + 10))), some (.ref (B + (0 + 11))), some (.ref (B + (0 + 12)))]), .inr (.inl (0, 6)), .inr (.inl (0, 6)), .inr (.inl (0, 6)), .inr (.inl (0, 48)), .inr (.inl (0, 6)), .inr (.inl (0, 6)), .inr (.inl (0, 6)), .inr (.inl (0, 4)), .inr (.inl (0, 3)), .inr (.inl (0, 8)), .inr (.inl (0, 8)), .inl (2, [none, none, none, none, none, some (.ref (B + (0 + 14))), some (.ref (B + (0 + 15))), some (.ref (B + (0 + 16))), some (.ref (B + (0 + 17))), some (.ref (B + (0 + 18))), some (.ref (B + (0 + 19))), some (.ref (B + (0 + 20))), some (.ref (B + (0 + 21))), some (.ref (B + (0 + 22))), some (.ref (B + (0 + 23))), some (.ref (B + (0 + 24)))]), .inr (.inl (0, 6)), .inr (.inl (0, 6)), .inr (.inl (0, 6)), .inr (.inl (0, 48)), .inr (.inl (0, 6)), .inr (.inl (0, 6)), .inr (.inl (0, 6)), .inr (.inl (0, 4)), .inr (.inl (0, 3)), .inr (.inl (0, 8)), .inr (.inl (0, 8)), .inr (.inr (2, fun _ => none)), .inl (4, [some (.ref (B + (0 + 27))), none]), .inr (.inl (1, 60)), .inl (5, [some (.ref (B + (0 + 29))), none, none, none, none, none, none]), .inl (0, [none, none, none, none]), .inl (0, [none, none, none, none]), .inl (1, [some (.ref (B + (0 + 32)))]), .inr (.inl (3, 81)), .inl (3, [some (.ref (B + (0 + 34))), none]), .inr (.inl (0, 100)), .inl (7, [none, none, some .null, some .null, some .null, some .null, some .null, some .null, some .null, some .null, some .null, some .null, some .null, some .null, some .null, some .null, none, some .null, none, some .null, some .null, some .null, some .null, none, none, none, none, none, some .null, some .null, none, none, some .null, some .null, some .null, some .null, none, none])]) (kc := 36) (ks := 555) (nn := 35) hx hb hts hown hK rfl hR hS tyX7 rfl cf_X7.1 tyX7_ok rfl cl_L_10 inst_X7 ini_X7 hf_X7 rfl rfl (by decide) (by decide) rfl rfl dL_law_8 (fun H hR hS => ?_)
  refine lv_dup hx hb dL_law_11 rfl ?_
  refine lw_cIP (d := 100) (k := 35) (pre := []) (b := 0) (Lk := [.inl (6, [some (.ref (B + (0 + 1))), some (.ref (B + (0 + 13))), some (.ref (B + (0 + 25))), some (.ref (B + (0 + 26))), some (.ref (B + (0 + 28))), some (.ref (B + (0 + 30))), some (.ref (B + (0 + 31))), some (.ref (B + (0 + 33)))]), .inl (2, [none, none, none, none, none, some (.ref (B + (0 + 2))), some (.ref (B + (0 + 3))), some (.ref (B + (0 + 4))), some (.ref (B + (0 + 5))), some (.ref (B + (0 + 6))), some (.ref (B + (0 + 7))), some (.ref (B + (0 + 8))), some (.ref (B + (0 + 9))), some (.ref (B + (0 + 10))), some (.ref (B + (0 + 11))), some (.ref (B + (0 + 12)))]), .inr (.inl (0, 6)), .inr (.inl (0, 6)), .inr (.inl (0, 6)), .inr (.inl (0, 48)), .inr (.inl (0, 6)), .inr (.inl (0, 6)), .inr (.inl (0, 6)), .inr (.inl (0, 4)), .inr (.inl (0, 3)), .inr (.inl (0, 8)), .inr (.inl (0, 8)), .inl (2, [none, none, none, none, none, some (.ref (B + (0 + 14))), some (.ref (B + (0 + 15))), some (.ref (B + (0 + 16))), some (.ref (B + (0 + 17))), some (.ref (B + (0 + 18))), some (.ref (B + (0 + 19))), some (.ref (B + (0 + 20))), some (.ref (B + (0 + 21))), some (.ref (B + (0 + 22))), some (.ref (B + (0 + 23))), some (.ref (B + (0 + 24)))]), .inr (.inl (0, 6)), .inr (.inl (0, 6)), .inr (.inl (0, 6)), .inr (.inl (0, 48)), .inr (.inl (0, 6)), .inr (.inl (0, 6)), .inr (.inl (0, 6)), .inr (.inl (0, 4)), .inr (.inl (0, 3)), .inr (.inl (0, 8)), .inr (.inl (0, 8)), .inr (.inr (2, fun _ => none)), .inl (4, [some (.ref (B + (0 + 27))), none]), .inr (.inl (1, 60)), .inl (5, [some (.ref (B + (0 + 29))), none, none, none, none, none, none]), .inl (0, [none, none, none, none]), .inl (0, [none, none, none, none]), .inl (1, [some (.ref (B + (0 + 32)))]), .inr (.inl (3, 81)), .inl (3, [some (.ref (B + (0 + 34))), none]), .inr (.inl (0, 100))]) (L' := [.inl (6, [some (.ref (B + (0 + 1))), some (.ref (B + (0 + 13))), some (.ref (B + (0 + 25))), some (.ref (B + (0 + 26))), some (.ref (B + (0 + 28))), some (.ref (B + (0 + 30))), some (.ref (B + (0 + 31))), some (.ref (B + (0 + 33)))]), .inl (2, [none, none, none, none, none, some (.ref (B + (0 + 2))), some (.ref (B + (0 + 3))), some (.ref (B + (0 + 4))), some (.ref (B + (0 + 5))), some (.ref (B + (0 + 6))), some (.ref (B + (0 + 7))), some (.ref (B + (0 + 8))), some (.ref (B + (0 + 9))), some (.ref (B + (0 + 10))), some (.ref (B + (0 + 11))), some (.ref (B + (0 + 12)))]), .inr (.inl (0, 6)), .inr (.inl (0, 6)), .inr (.inl (0, 6)), .inr (.inl (0, 48)), .inr (.inl (0, 6)), .inr (.inl (0, 6)), .inr (.inl (0, 6)), .inr (.inl (0, 4)), .inr (.inl (0, 3)), .inr (.inl (0, 8)), .inr (.inl (0, 8)), .inl (2, [none, none, none, none, none, some (.ref (B + (0 + 14))), some (.ref (B + (0 + 15))), some (.ref (B + (0 + 16))), some (.ref (B + (0 + 17))), some (.ref (B + (0 + 18))), some (.ref (B + (0 + 19))), some (.ref (B + (0 + 20))), some (.ref (B + (0 + 21))), some (.ref (B + (0 + 22))), some (.ref (B + (0 + 23))), some (.ref (B + (0 + 24)))]), .inr (.inl (0, 6)), .inr (.inl (0, 6)), .inr (.inl (0, 6)), .inr (.inl (0, 48)), .inr (.inl (0, 6)), .inr (.inl (0, 6)), .inr (.inl (0, 6)), .inr (.inl (0, 4)), .inr (.inl (0, 3)), .inr (.inl (0, 8)), .inr (.inl (0, 8)), .inr (.inr (2, fun _ => none)), .inl (4, [some (.ref (B + (0 + 27))), none]), .inr (.inl (1, 60)), .inl (5, [some (.ref (B + (0 + 29))), none, none, none, none, none, none]), .inl (0, [none, none, none, none]), .inl (0, [none, none, none, none]), .inl (1, [some (.ref (B + (0 + 32)))]), .inr (.inl (3, 81)), .inl (3, [some (.ref (B + (0 + 34))), none]), .inr (.inl (0, 100)), .inl (7, [none, none, some (.ref (B + (0 + 36))), some (.ref (B + (0 + 37))), some (.ref (B + (0 + 38))), some (.ref (B + (0 + 39))), some (.ref (B + (0 + 40))), some (.ref (B + (0 + 41))), some (.ref (B + (0 + 42))), some (.ref (B + (0 + 43))), some (.ref (B + (0 + 44))), some (.ref (B + (0 + 45))), some (.ref (B + (0 + 46))), some (.ref (B + (0 + 47))), some (.ref (B + (0 + 48))), some (.ref (B + (0 + 49))), none, some (.ref (B + (0 + 50))), none, some (.ref (B + (0 + 51))), some (.ref (B + (0 + 52))), some (.ref (B + (0 + 53))), some (.ref (B + (0 + 54))), none, none, none, none, none, some (.ref (B + (0 + 55))), some (.ref (B + (0 + 56))), none, none, some (.ref (B + (0 + 57))), some (.ref (B + (0 + 58))), some (.ref (B + (0 + 59))), some (.ref (B + (0 + 60))), none, none]), .inr (.inl (0, 6)), .inr (.inl (0, 6)), .inr (.inl (0, 6)), .inr (.inl (0, 6)), .inr (.inl (0, 48)), .inr (.inl (0, 6)), .inr (.inl (0, 6)), .inr (.inl (0, 6)), .inr (.inl (0, 4)), .inr (.inl (0, 3)), .inr (.inl (0, 8)), .inr (.inl (0, 8)), .inr (.inl (0, 8)), .inr (.inl (0, 8)), .inr (.inl (0, 60)), .inr (.inl (0, 60)), .inr (.inl (0, 60)), .inr (.inl (0, 60)), .inr (.inl (0, 60)), .inr (.inl (0, 77)), .inr (.inl (0, 83)), .inr (.inl (3, 81)), .inr (.inl (0, 637)), .inr (.inl (0, 320)), .inr (.inl (2, 2))]) (kc := 61) (ks := 2184) (rest := [.ref (B + (0 + 35))]) ⟨hx, hb, hml, hown, hts⟩ hK (by decide) (by decide) hS hR (M_X7_init rfl hi2) rfl rfl yk_X7_init in_X7_init rfl ml_L_12 (by decide) hl.1 (Nat.le_of_ble_eq_true rfl) rfl rfl (by decide) (by decide) dL_law_12 (fun H locs hR hS => ?_)
  refine lv_astore_n (lv' := [(2, .ref (B + 35)), (1, .ref (B + 0)), (0, .ref b)]) hx hb dL_law_15 rfl hl (by decide) rfl (fun ls hl => ?_)
  refine lv_iconst (v := 0) hx hb dL_law_16 (by decide) ?_
  refine lv_istore_n (lv' := [(3, .int 0), (2, .ref (B + 35)), (1, .ref (B + 0)), (0, .ref b)]) hx hb dL_law_17 rfl hl (by decide) rfl (fun ls hl => ?_)
  rw [lw_lay] at hR
  exact law_loop hL C0 hK hB (hInv B) (hSz B) hops (L + 8) 0 _ I2 J2 (by omega) (by omega) hI H locs _ _ ls (by rw [lw_len]) (by rw [lw_zz]) hR hS (lv_sub hl [3, 2, 1, 0] rfl)
