-- ===== PART A: goes FIRST, ahead of the names: the tables' words, and 'selects' of the private methods out of them =====
/-- a private method of a class that the tables say can be made, by its rows of tables_1 -/
def lw_okq (q : MethodName × Nat) : Prop := (q.1.cls ≠ "java/lang/invoke/MethodHandle" ∧ q.1.cls ≠ "java/lang/invoke/VarHandle") ∧ Cond.instantiable q.1.cls q.2 ∈ tables_1 ∧ Cond.privateMethod q.1 ∈ tables_1 ∧ Cond.instanceMethod q.1 ∈ tables_1
theorem lw_p0 : lw_okq (⟨"SaintsAhead$Diocese", "freeParts", "(I)V"⟩, 16) := ⟨⟨by decide +kernel, by decide +kernel⟩, List.mem_of_getElem? (i := 21) (by decide +kernel), List.mem_of_getElem? (i := 234) (by decide +kernel), List.mem_of_getElem? (i := 235) (by decide +kernel)⟩
theorem lw_p1 : lw_okq (⟨"SaintsAhead$Pad", "signAt", "(I)C"⟩, 2) := ⟨⟨by decide +kernel, by decide +kernel⟩, List.mem_of_getElem? (i := 95) (by decide +kernel), List.mem_of_getElem? (i := 293) (by decide +kernel), List.mem_of_getElem? (i := 294) (by decide +kernel)⟩
theorem lw_p2 : lw_okq (⟨"SaintsAhead", "refusalOfYears", "()I"⟩, 8) := ⟨⟨by decide +kernel, by decide +kernel⟩, List.mem_of_getElem? (i := 13) (by decide +kernel), List.mem_of_getElem? (i := 317) (by decide +kernel), List.mem_of_getElem? (i := 318) (by decide +kernel)⟩
theorem lw_p3 : lw_okq (⟨"SaintsAhead$Years", "clear", "()V"⟩, 7) := ⟨⟨by decide +kernel, by decide +kernel⟩, List.mem_of_getElem? (i := 111) (by decide +kernel), List.mem_of_getElem? (i := 332) (by decide +kernel), List.mem_of_getElem? (i := 333) (by decide +kernel)⟩
theorem lw_p4 : lw_okq (⟨"SaintsAhead$Diocese", "reasonAgainstLetting", "(LSaintsAhead$Act;)I"⟩, 16) := ⟨⟨by decide +kernel, by decide +kernel⟩, List.mem_of_getElem? (i := 21) (by decide +kernel), List.mem_of_getElem? (i := 353) (by decide +kernel), List.mem_of_getElem? (i := 354) (by decide +kernel)⟩
theorem lw_p5 : lw_okq (⟨"SaintsAhead$Diocese", "fall", "(I)V"⟩, 16) := ⟨⟨by decide +kernel, by decide +kernel⟩, List.mem_of_getElem? (i := 21) (by decide +kernel), List.mem_of_getElem? (i := 369) (by decide +kernel), List.mem_of_getElem? (i := 370) (by decide +kernel)⟩
theorem lw_p6 : lw_okq (⟨"SaintsAhead$Years", "countFeast", "(Z)V"⟩, 7) := ⟨⟨by decide +kernel, by decide +kernel⟩, List.mem_of_getElem? (i := 111) (by decide +kernel), List.mem_of_getElem? (i := 385) (by decide +kernel), List.mem_of_getElem? (i := 386) (by decide +kernel)⟩
theorem lw_p7 : lw_okq (⟨"SaintsAhead$Chances", "addYear", "(II)V"⟩, 1) := ⟨⟨by decide +kernel, by decide +kernel⟩, List.mem_of_getElem? (i := 172) (by decide +kernel), List.mem_of_getElem? (i := 434) (by decide +kernel), List.mem_of_getElem? (i := 435) (by decide +kernel)⟩
theorem lw_p8 : lw_okq (⟨"SaintsAhead", "mostWithDays", "(II)I"⟩, 8) := ⟨⟨by decide +kernel, by decide +kernel⟩, List.mem_of_getElem? (i := 13) (by decide +kernel), List.mem_of_getElem? (i := 472) (by decide +kernel), List.mem_of_getElem? (i := 473) (by decide +kernel)⟩
theorem lw_p9 : lw_okq (⟨"SaintsAhead", "firstDay", "(IIII)I"⟩, 8) := ⟨⟨by decide +kernel, by decide +kernel⟩, List.mem_of_getElem? (i := 13) (by decide +kernel), List.mem_of_getElem? (i := 476) (by decide +kernel), List.mem_of_getElem? (i := 477) (by decide +kernel)⟩
theorem lw_p10 : lw_okq (⟨"SaintsAhead", "toldOfChild", "(II)I"⟩, 8) := ⟨⟨by decide +kernel, by decide +kernel⟩, List.mem_of_getElem? (i := 13) (by decide +kernel), List.mem_of_getElem? (i := 566) (by decide +kernel), List.mem_of_getElem? (i := 567) (by decide +kernel)⟩
theorem lw_p11 : lw_okq (⟨"SaintsAheadModel", "clearParts", "(I)V"⟩, 38) := ⟨⟨by decide +kernel, by decide +kernel⟩, List.mem_of_getElem? (i := 571) (by decide +kernel), List.mem_of_getElem? (i := 705) (by decide +kernel), List.mem_of_getElem? (i := 706) (by decide +kernel)⟩
theorem lw_p12 : lw_okq (⟨"SaintsAheadModel", "isChild", "(I)Z"⟩, 38) := ⟨⟨by decide +kernel, by decide +kernel⟩, List.mem_of_getElem? (i := 571) (by decide +kernel), List.mem_of_getElem? (i := 716) (by decide +kernel), List.mem_of_getElem? (i := 717) (by decide +kernel)⟩
theorem lw_p13 : lw_okq (⟨"SaintsAheadModel", "readOn", "(II)I"⟩, 38) := ⟨⟨by decide +kernel, by decide +kernel⟩, List.mem_of_getElem? (i := 571) (by decide +kernel), List.mem_of_getElem? (i := 760) (by decide +kernel), List.mem_of_getElem? (i := 761) (by decide +kernel)⟩
theorem lw_p14 : lw_okq (⟨"SaintsAheadModel", "begin", "(I)I"⟩, 38) := ⟨⟨by decide +kernel, by decide +kernel⟩, List.mem_of_getElem? (i := 571) (by decide +kernel), List.mem_of_getElem? (i := 764) (by decide +kernel), List.mem_of_getElem? (i := 765) (by decide +kernel)⟩
theorem lw_p15 : lw_okq (⟨"SaintsAheadModel", "close", "()I"⟩, 38) := ⟨⟨by decide +kernel, by decide +kernel⟩, List.mem_of_getElem? (i := 571) (by decide +kernel), List.mem_of_getElem? (i := 773) (by decide +kernel), List.mem_of_getElem? (i := 774) (by decide +kernel)⟩
def lw_privs_1 : List (MethodName × Nat) := [(⟨"SaintsAhead$Diocese", "freeParts", "(I)V"⟩, 16), (⟨"SaintsAhead$Pad", "signAt", "(I)C"⟩, 2), (⟨"SaintsAhead", "refusalOfYears", "()I"⟩, 8), (⟨"SaintsAhead$Years", "clear", "()V"⟩, 7), (⟨"SaintsAhead$Diocese", "reasonAgainstLetting", "(LSaintsAhead$Act;)I"⟩, 16), (⟨"SaintsAhead$Diocese", "fall", "(I)V"⟩, 16), (⟨"SaintsAhead$Years", "countFeast", "(Z)V"⟩, 7), (⟨"SaintsAhead$Chances", "addYear", "(II)V"⟩, 1), (⟨"SaintsAhead", "mostWithDays", "(II)I"⟩, 8), (⟨"SaintsAhead", "firstDay", "(IIII)I"⟩, 8), (⟨"SaintsAhead", "toldOfChild", "(II)I"⟩, 8), (⟨"SaintsAheadModel", "clearParts", "(I)V"⟩, 38), (⟨"SaintsAheadModel", "isChild", "(I)Z"⟩, 38), (⟨"SaintsAheadModel", "readOn", "(II)I"⟩, 38), (⟨"SaintsAheadModel", "begin", "(I)I"⟩, 38), (⟨"SaintsAheadModel", "close", "()I"⟩, 38)]
theorem lw_r1 : ∀ q ∈ lw_privs_1, lw_okq q := List.forall_mem_cons.mpr ⟨lw_p0, List.forall_mem_cons.mpr ⟨lw_p1, List.forall_mem_cons.mpr ⟨lw_p2, List.forall_mem_cons.mpr ⟨lw_p3, List.forall_mem_cons.mpr ⟨lw_p4, List.forall_mem_cons.mpr ⟨lw_p5, List.forall_mem_cons.mpr ⟨lw_p6, List.forall_mem_cons.mpr ⟨lw_p7, List.forall_mem_cons.mpr ⟨lw_p8, List.forall_mem_cons.mpr ⟨lw_p9, List.forall_mem_cons.mpr ⟨lw_p10, List.forall_mem_cons.mpr ⟨lw_p11, List.forall_mem_cons.mpr ⟨lw_p12, List.forall_mem_cons.mpr ⟨lw_p13, List.forall_mem_cons.mpr ⟨lw_p14, List.forall_mem_cons.mpr ⟨lw_p15, fun _ h => absurd h List.not_mem_nil⟩⟩⟩⟩⟩⟩⟩⟩⟩⟩⟩⟩⟩⟩⟩⟩
theorem lw_p16 : lw_okq (⟨"SaintsAheadModel", "deed", "(I)I"⟩, 38) := ⟨⟨by decide +kernel, by decide +kernel⟩, List.mem_of_getElem? (i := 571) (by decide +kernel), List.mem_of_getElem? (i := 777) (by decide +kernel), List.mem_of_getElem? (i := 778) (by decide +kernel)⟩
theorem lw_p17 : lw_okq (⟨"SaintsAheadModel", "refusal", "()I"⟩, 38) := ⟨⟨by decide +kernel, by decide +kernel⟩, List.mem_of_getElem? (i := 571) (by decide +kernel), List.mem_of_getElem? (i := 792) (by decide +kernel), List.mem_of_getElem? (i := 793) (by decide +kernel)⟩
theorem lw_p18 : lw_okq (⟨"SaintsAheadModel", "store", "([I)V"⟩, 38) := ⟨⟨by decide +kernel, by decide +kernel⟩, List.mem_of_getElem? (i := 571) (by decide +kernel), List.mem_of_getElem? (i := 797) (by decide +kernel), List.mem_of_getElem? (i := 798) (by decide +kernel)⟩
theorem lw_p19 : lw_okq (⟨"SaintsAheadModel", "goYears", "()V"⟩, 38) := ⟨⟨by decide +kernel, by decide +kernel⟩, List.mem_of_getElem? (i := 571) (by decide +kernel), List.mem_of_getElem? (i := 801) (by decide +kernel), List.mem_of_getElem? (i := 802) (by decide +kernel)⟩
theorem lw_p20 : lw_okq (⟨"SaintsAheadModel", "whyNot", "(IIII)I"⟩, 38) := ⟨⟨by decide +kernel, by decide +kernel⟩, List.mem_of_getElem? (i := 571) (by decide +kernel), List.mem_of_getElem? (i := 805) (by decide +kernel), List.mem_of_getElem? (i := 806) (by decide +kernel)⟩
theorem lw_p21 : lw_okq (⟨"SaintsAheadModel", "heldBy", "(II)I"⟩, 38) := ⟨⟨by decide +kernel, by decide +kernel⟩, List.mem_of_getElem? (i := 571) (by decide +kernel), List.mem_of_getElem? (i := 809) (by decide +kernel), List.mem_of_getElem? (i := 810) (by decide +kernel)⟩
theorem lw_p22 : lw_okq (⟨"SaintsAheadModel", "happen", "(IIII)V"⟩, 38) := ⟨⟨by decide +kernel, by decide +kernel⟩, List.mem_of_getElem? (i := 571) (by decide +kernel), List.mem_of_getElem? (i := 813) (by decide +kernel), List.mem_of_getElem? (i := 814) (by decide +kernel)⟩
theorem lw_p23 : lw_okq (⟨"SaintsAheadModel", "fall", "(I)V"⟩, 38) := ⟨⟨by decide +kernel, by decide +kernel⟩, List.mem_of_getElem? (i := 571) (by decide +kernel), List.mem_of_getElem? (i := 817) (by decide +kernel), List.mem_of_getElem? (i := 818) (by decide +kernel)⟩
theorem lw_p24 : lw_okq (⟨"SaintsAheadModel", "feast", "(I)V"⟩, 38) := ⟨⟨by decide +kernel, by decide +kernel⟩, List.mem_of_getElem? (i := 571) (by decide +kernel), List.mem_of_getElem? (i := 821) (by decide +kernel), List.mem_of_getElem? (i := 822) (by decide +kernel)⟩
theorem lw_p25 : lw_okq (⟨"SaintsAheadModel", "isSaint", "(I)Z"⟩, 38) := ⟨⟨by decide +kernel, by decide +kernel⟩, List.mem_of_getElem? (i := 571) (by decide +kernel), List.mem_of_getElem? (i := 825) (by decide +kernel), List.mem_of_getElem? (i := 826) (by decide +kernel)⟩
theorem lw_p26 : lw_okq (⟨"SaintsAheadModel", "lay", "([I)V"⟩, 38) := ⟨⟨by decide +kernel, by decide +kernel⟩, List.mem_of_getElem? (i := 571) (by decide +kernel), List.mem_of_getElem? (i := 829) (by decide +kernel), List.mem_of_getElem? (i := 830) (by decide +kernel)⟩
theorem lw_p27 : lw_okq (⟨"SaintsAheadModel", "yearOdds", "(II)V"⟩, 38) := ⟨⟨by decide +kernel, by decide +kernel⟩, List.mem_of_getElem? (i := 571) (by decide +kernel), List.mem_of_getElem? (i := 869) (by decide +kernel), List.mem_of_getElem? (i := 870) (by decide +kernel)⟩
theorem lw_p28 : lw_okq (⟨"SaintsAheadModel", "sumOf", "([II)I"⟩, 38) := ⟨⟨by decide +kernel, by decide +kernel⟩, List.mem_of_getElem? (i := 571) (by decide +kernel), List.mem_of_getElem? (i := 880) (by decide +kernel), List.mem_of_getElem? (i := 881) (by decide +kernel)⟩
theorem lw_p29 : lw_okq (⟨"SaintsAheadModel", "seenBy", "(I)I"⟩, 38) := ⟨⟨by decide +kernel, by decide +kernel⟩, List.mem_of_getElem? (i := 571) (by decide +kernel), List.mem_of_getElem? (i := 888) (by decide +kernel), List.mem_of_getElem? (i := 889) (by decide +kernel)⟩
theorem lw_p30 : lw_okq (⟨"SaintsAheadModel", "mostDays", "(II)I"⟩, 38) := ⟨⟨by decide +kernel, by decide +kernel⟩, List.mem_of_getElem? (i := 571) (by decide +kernel), List.mem_of_getElem? (i := 897) (by decide +kernel), List.mem_of_getElem? (i := 898) (by decide +kernel)⟩
theorem lw_p31 : lw_okq (⟨"SaintsAheadModel", "dayIn", "(III)I"⟩, 38) := ⟨⟨by decide +kernel, by decide +kernel⟩, List.mem_of_getElem? (i := 571) (by decide +kernel), List.mem_of_getElem? (i := 901) (by decide +kernel), List.mem_of_getElem? (i := 902) (by decide +kernel)⟩
def lw_privs_2 : List (MethodName × Nat) := [(⟨"SaintsAheadModel", "deed", "(I)I"⟩, 38), (⟨"SaintsAheadModel", "refusal", "()I"⟩, 38), (⟨"SaintsAheadModel", "store", "([I)V"⟩, 38), (⟨"SaintsAheadModel", "goYears", "()V"⟩, 38), (⟨"SaintsAheadModel", "whyNot", "(IIII)I"⟩, 38), (⟨"SaintsAheadModel", "heldBy", "(II)I"⟩, 38), (⟨"SaintsAheadModel", "happen", "(IIII)V"⟩, 38), (⟨"SaintsAheadModel", "fall", "(I)V"⟩, 38), (⟨"SaintsAheadModel", "feast", "(I)V"⟩, 38), (⟨"SaintsAheadModel", "isSaint", "(I)Z"⟩, 38), (⟨"SaintsAheadModel", "lay", "([I)V"⟩, 38), (⟨"SaintsAheadModel", "yearOdds", "(II)V"⟩, 38), (⟨"SaintsAheadModel", "sumOf", "([II)I"⟩, 38), (⟨"SaintsAheadModel", "seenBy", "(I)I"⟩, 38), (⟨"SaintsAheadModel", "mostDays", "(II)I"⟩, 38), (⟨"SaintsAheadModel", "dayIn", "(III)I"⟩, 38)]
theorem lw_r2 : ∀ q ∈ lw_privs_2, lw_okq q := List.forall_mem_cons.mpr ⟨lw_p16, List.forall_mem_cons.mpr ⟨lw_p17, List.forall_mem_cons.mpr ⟨lw_p18, List.forall_mem_cons.mpr ⟨lw_p19, List.forall_mem_cons.mpr ⟨lw_p20, List.forall_mem_cons.mpr ⟨lw_p21, List.forall_mem_cons.mpr ⟨lw_p22, List.forall_mem_cons.mpr ⟨lw_p23, List.forall_mem_cons.mpr ⟨lw_p24, List.forall_mem_cons.mpr ⟨lw_p25, List.forall_mem_cons.mpr ⟨lw_p26, List.forall_mem_cons.mpr ⟨lw_p27, List.forall_mem_cons.mpr ⟨lw_p28, List.forall_mem_cons.mpr ⟨lw_p29, List.forall_mem_cons.mpr ⟨lw_p30, List.forall_mem_cons.mpr ⟨lw_p31, fun _ h => absurd h List.not_mem_nil⟩⟩⟩⟩⟩⟩⟩⟩⟩⟩⟩⟩⟩⟩⟩⟩
theorem lw_p32 : lw_okq (⟨"SaintsAheadModel", "findEnds", "(II)V"⟩, 38) := ⟨⟨by decide +kernel, by decide +kernel⟩, List.mem_of_getElem? (i := 571) (by decide +kernel), List.mem_of_getElem? (i := 910) (by decide +kernel), List.mem_of_getElem? (i := 911) (by decide +kernel)⟩
theorem lw_p33 : lw_okq (⟨"SaintsAheadModel", "wondersAt", "(III)I"⟩, 38) := ⟨⟨by decide +kernel, by decide +kernel⟩, List.mem_of_getElem? (i := 571) (by decide +kernel), List.mem_of_getElem? (i := 914) (by decide +kernel), List.mem_of_getElem? (i := 915) (by decide +kernel)⟩
theorem lw_p34 : lw_okq (⟨"SaintsAheadModel", "sinsAt", "(IIII)I"⟩, 38) := ⟨⟨by decide +kernel, by decide +kernel⟩, List.mem_of_getElem? (i := 571) (by decide +kernel), List.mem_of_getElem? (i := 918) (by decide +kernel), List.mem_of_getElem? (i := 919) (by decide +kernel)⟩
theorem lw_p35 : lw_okq (⟨"SaintsAheadModel", "endOf", "(IIII)I"⟩, 38) := ⟨⟨by decide +kernel, by decide +kernel⟩, List.mem_of_getElem? (i := 571) (by decide +kernel), List.mem_of_getElem? (i := 925) (by decide +kernel), List.mem_of_getElem? (i := 926) (by decide +kernel)⟩
theorem lw_p36 : lw_okq (⟨"SaintsAheadModel", "fits", "(I)Z"⟩, 38) := ⟨⟨by decide +kernel, by decide +kernel⟩, List.mem_of_getElem? (i := 571) (by decide +kernel), List.mem_of_getElem? (i := 945) (by decide +kernel), List.mem_of_getElem? (i := 946) (by decide +kernel)⟩
theorem lw_p37 : lw_okq (⟨"SaintsAheadModel", "mostLeft", "(I)I"⟩, 38) := ⟨⟨by decide +kernel, by decide +kernel⟩, List.mem_of_getElem? (i := 571) (by decide +kernel), List.mem_of_getElem? (i := 956) (by decide +kernel), List.mem_of_getElem? (i := 957) (by decide +kernel)⟩
theorem lw_p38 : lw_okq (⟨"SaintsAheadModel", "passAll", "()V"⟩, 38) := ⟨⟨by decide +kernel, by decide +kernel⟩, List.mem_of_getElem? (i := 571) (by decide +kernel), List.mem_of_getElem? (i := 972) (by decide +kernel), List.mem_of_getElem? (i := 973) (by decide +kernel)⟩
theorem lw_p39 : lw_okq (⟨"SaintsAheadModel", "pass", "(I)I"⟩, 38) := ⟨⟨by decide +kernel, by decide +kernel⟩, List.mem_of_getElem? (i := 571) (by decide +kernel), List.mem_of_getElem? (i := 976) (by decide +kernel), List.mem_of_getElem? (i := 977) (by decide +kernel)⟩
theorem lw_p40 : lw_okq (⟨"SaintsAheadModel", "passRow", "([II)V"⟩, 38) := ⟨⟨by decide +kernel, by decide +kernel⟩, List.mem_of_getElem? (i := 571) (by decide +kernel), List.mem_of_getElem? (i := 980) (by decide +kernel), List.mem_of_getElem? (i := 981) (by decide +kernel)⟩
theorem lw_p41 : lw_okq (⟨"SaintsAheadModel", "toldOf", "(II)I"⟩, 38) := ⟨⟨by decide +kernel, by decide +kernel⟩, List.mem_of_getElem? (i := 571) (by decide +kernel), List.mem_of_getElem? (i := 994) (by decide +kernel), List.mem_of_getElem? (i := 995) (by decide +kernel)⟩
def lw_privs_3 : List (MethodName × Nat) := [(⟨"SaintsAheadModel", "findEnds", "(II)V"⟩, 38), (⟨"SaintsAheadModel", "wondersAt", "(III)I"⟩, 38), (⟨"SaintsAheadModel", "sinsAt", "(IIII)I"⟩, 38), (⟨"SaintsAheadModel", "endOf", "(IIII)I"⟩, 38), (⟨"SaintsAheadModel", "fits", "(I)Z"⟩, 38), (⟨"SaintsAheadModel", "mostLeft", "(I)I"⟩, 38), (⟨"SaintsAheadModel", "passAll", "()V"⟩, 38), (⟨"SaintsAheadModel", "pass", "(I)I"⟩, 38), (⟨"SaintsAheadModel", "passRow", "([II)V"⟩, 38), (⟨"SaintsAheadModel", "toldOf", "(II)I"⟩, 38)]
theorem lw_r3 : ∀ q ∈ lw_privs_3, lw_okq q := List.forall_mem_cons.mpr ⟨lw_p32, List.forall_mem_cons.mpr ⟨lw_p33, List.forall_mem_cons.mpr ⟨lw_p34, List.forall_mem_cons.mpr ⟨lw_p35, List.forall_mem_cons.mpr ⟨lw_p36, List.forall_mem_cons.mpr ⟨lw_p37, List.forall_mem_cons.mpr ⟨lw_p38, List.forall_mem_cons.mpr ⟨lw_p39, List.forall_mem_cons.mpr ⟨lw_p40, List.forall_mem_cons.mpr ⟨lw_p41, fun _ h => absurd h List.not_mem_nil⟩⟩⟩⟩⟩⟩⟩⟩⟩⟩
def lw_privs : List (MethodName × Nat) := lw_privs_1 ++ (lw_privs_2 ++ (lw_privs_3))
def lw_tbl : List Cond := k2_sels lw_privs ++ tables_1
theorem lw_privs_ok : ∀ q ∈ lw_privs, lw_okq q := by
  show ∀ q ∈ lw_privs_1 ++ (lw_privs_2 ++ (lw_privs_3)), lw_okq q
  exact List.forall_mem_append.mpr ⟨lw_r1, List.forall_mem_append.mpr ⟨lw_r2, lw_r3⟩⟩
def RX0 : String := "SaintsAhead$Act"
def TX0 : u_T := fun k => match k with
  | 0 => ("SaintsAhead$Act", "kind", "I", false)
  | 1 => ("SaintsAhead$Act", "child", "I", false)
  | 2 => ("SaintsAhead$Act", "part", "I", false)
  | _ => ("SaintsAhead$Act", "parish", "I", false)
def tyX0 : Nat → FieldType := fun k => match k with
  | 0 => .int
  | 1 => .int
  | 2 => .int
  | _ => .int
abbrev wsX00 : List Cond := u_ws RX0 TX0 4
theorem nmX0 : ∀ a, a < 4 → ∀ b, b < 4 → a ≠ b → (TX0 a).2.1 ≠ (TX0 b).2.1 := by decide +kernel
theorem tyX0_ok : ∀ k, k < 4 → parseFieldDescriptor (TX0 k).2.2.1 = some (tyX0 k) := by decide +kernel
abbrev cX0_init : ByteArray := prog_2_method_1_code
def yX0_init : MethodName := ⟨RX0, "<init>", "()V"⟩
abbrev cX0_put : ByteArray := prog_2_method_2_code
def yX0_put : MethodName := ⟨RX0, "put", "(IIII)V"⟩
abbrev cX0_draw : ByteArray := prog_2_method_3_code
def yX0_draw : MethodName := ⟨RX0, "draw", "(I)V"⟩
abbrev cX0_drawnKind : ByteArray := prog_2_method_4_code
def yX0_drawnKind : MethodName := ⟨RX0, "drawnKind", "(I)I"⟩
def RX1 : String := "SaintsAhead$Chances"
def TX1 : u_T := fun k => match k with
  | _ => ("SaintsAhead$Chances", "ways", "[J", true)
def tyX1 : Nat → FieldType := fun k => match k with
  | _ => .array .long
abbrev wsX10 : List Cond := u_ws RX1 TX1 1
theorem nmX1 : ∀ a, a < 1 → ∀ b, b < 1 → a ≠ b → (TX1 a).2.1 ≠ (TX1 b).2.1 := by decide +kernel
theorem tyX1_ok : ∀ k, k < 1 → parseFieldDescriptor (TX1 k).2.2.1 = some (tyX1 k) := by decide +kernel
abbrev cX1_init : ByteArray := prog_3_method_1_code
def yX1_init : MethodName := ⟨RX1, "<init>", "()V"⟩
abbrev cX1_spread : ByteArray := prog_3_method_2_code
def yX1_spread : MethodName := ⟨RX1, "spread", "(IIII)V"⟩
abbrev cX1_addYear : ByteArray := prog_3_method_3_code
def yX1_addYear : MethodName := ⟨RX1, "addYear", "(II)V"⟩
abbrev cX1_waysToSaint : ByteArray := prog_3_method_4_code
def yX1_waysToSaint : MethodName := ⟨RX1, "waysToSaint", "(LSaintsAhead$Diocese;I)J"⟩
abbrev cX1_allWays : ByteArray := prog_3_method_5_code
def yX1_allWays : MethodName := ⟨RX1, "allWays", "(I)J"⟩
def RX2 : String := "SaintsAhead$Diocese"
def TX2 : u_T := fun k => match k with
  | 0 => ("SaintsAhead$Diocese", "there", "I", false)
  | 1 => ("SaintsAhead$Diocese", "fallen", "I", false)
  | 2 => ("SaintsAhead$Diocese", "year", "I", false)
  | 3 => ("SaintsAhead$Diocese", "sightCount", "I", false)
  | 4 => ("SaintsAhead$Diocese", "sightSaints", "I", false)
  | 5 => ("SaintsAhead$Diocese", "wonders", "[I", true)
  | 6 => ("SaintsAhead$Diocese", "sins", "[I", true)
  | 7 => ("SaintsAhead$Diocese", "seen", "[I", true)
  | 8 => ("SaintsAhead$Diocese", "holders", "[I", true)
  | 9 => ("SaintsAhead$Diocese", "costs", "[I", true)
  | 10 => ("SaintsAhead$Diocese", "worths", "[I", true)
  | 11 => ("SaintsAhead$Diocese", "dayBits", "[I", true)
  | 12 => ("SaintsAhead$Diocese", "purses", "[I", true)
  | 13 => ("SaintsAhead$Diocese", "rule", "[I", true)
  | 14 => ("SaintsAhead$Diocese", "sawBits", "[I", true)
  | _ => ("SaintsAhead$Diocese", "sightLives", "[I", true)
def tyX2 : Nat → FieldType := fun k => match k with
  | 0 => .int
  | 1 => .int
  | 2 => .int
  | 3 => .int
  | 4 => .int
  | 5 => .array .int
  | 6 => .array .int
  | 7 => .array .int
  | 8 => .array .int
  | 9 => .array .int
  | 10 => .array .int
  | 11 => .array .int
  | 12 => .array .int
  | 13 => .array .int
  | 14 => .array .int
  | _ => .array .int
abbrev wsX20 : List Cond := u_ws RX2 TX2 16
theorem nmX2 : ∀ a, a < 16 → ∀ b, b < 16 → a ≠ b → (TX2 a).2.1 ≠ (TX2 b).2.1 := by decide +kernel
theorem tyX2_ok : ∀ k, k < 16 → parseFieldDescriptor (TX2 k).2.2.1 = some (tyX2 k) := by decide +kernel
abbrev cX2_init : ByteArray := prog_4_method_1_code
def yX2_init : MethodName := ⟨RX2, "<init>", "()V"⟩
abbrev cX2_copyFrom : ByteArray := prog_4_method_2_code
def yX2_copyFrom : MethodName := ⟨RX2, "copyFrom", "(LSaintsAhead$Diocese;)V"⟩
abbrev cX2_isThere : ByteArray := prog_4_method_3_code
def yX2_isThere : MethodName := ⟨RX2, "isThere", "(I)Z"⟩
abbrev cX2_isFallen : ByteArray := prog_4_method_4_code
def yX2_isFallen : MethodName := ⟨RX2, "isFallen", "(I)Z"⟩
abbrev cX2_isSaint : ByteArray := prog_4_method_5_code
def yX2_isSaint : MethodName := ⟨RX2, "isSaint", "(I)Z"⟩
abbrev cX2_wouldBeSaint : ByteArray := prog_4_method_6_code
def yX2_wouldBeSaint : MethodName := ⟨RX2, "wouldBeSaint", "(III)Z"⟩
abbrev cX2_saintBits : ByteArray := prog_4_method_7_code
def yX2_saintBits : MethodName := ⟨RX2, "saintBits", "()I"⟩
abbrev cX2_enter : ByteArray := prog_4_method_8_code
def yX2_enter : MethodName := ⟨RX2, "enter", "(IIII)V"⟩
abbrev cX2_remove : ByteArray := prog_4_method_9_code
def yX2_remove : MethodName := ⟨RX2, "remove", "(I)V"⟩
abbrev cX2_freeParts : ByteArray := prog_4_method_10_code
def yX2_freeParts : MethodName := ⟨RX2, "freeParts", "(I)V"⟩
abbrev cX2_holderOf : ByteArray := prog_4_method_11_code
def yX2_holderOf : MethodName := ⟨RX2, "holderOf", "(II)I"⟩
abbrev cX2_partBits : ByteArray := prog_4_method_12_code
def yX2_partBits : MethodName := ⟨RX2, "partBits", "(II)I"⟩
abbrev cX2_heldParts : ByteArray := prog_4_method_13_code
def yX2_heldParts : MethodName := ⟨RX2, "heldParts", "(I)I"⟩
abbrev cX2_allHeldParts : ByteArray := prog_4_method_14_code
def yX2_allHeldParts : MethodName := ⟨RX2, "allHeldParts", "()I"⟩
abbrev cX2_pursesTogether : ByteArray := prog_4_method_15_code
def yX2_pursesTogether : MethodName := ⟨RX2, "pursesTogether", "()I"⟩
abbrev cX2_addSight : ByteArray := prog_4_method_16_code
def yX2_addSight : MethodName := ⟨RX2, "addSight", "(IIZ)V"⟩
abbrev cX2_reasonAgainst : ByteArray := prog_4_method_17_code
def yX2_reasonAgainst : MethodName := ⟨RX2, "reasonAgainst", "(LSaintsAhead$Act;)I"⟩
abbrev cX2_reasonAgainstLetting : ByteArray := prog_4_method_18_code
def yX2_reasonAgainstLetting : MethodName := ⟨RX2, "reasonAgainstLetting", "(LSaintsAhead$Act;)I"⟩
abbrev cX2_live : ByteArray := prog_4_method_19_code
def yX2_live : MethodName := ⟨RX2, "live", "(LSaintsAhead$Act;)V"⟩
abbrev cX2_fall : ByteArray := prog_4_method_20_code
def yX2_fall : MethodName := ⟨RX2, "fall", "(I)V"⟩
def RX3 : String := "SaintsAhead$FittingLaws"
def TX3 : u_T := fun k => match k with
  | 0 => ("SaintsAhead$FittingLaws", "pairs", "[I", true)
  | _ => ("SaintsAhead$FittingLaws", "count", "I", false)
def tyX3 : Nat → FieldType := fun k => match k with
  | 0 => .array .int
  | _ => .int
abbrev wsX30 : List Cond := u_ws RX3 TX3 2
theorem nmX3 : ∀ a, a < 2 → ∀ b, b < 2 → a ≠ b → (TX3 a).2.1 ≠ (TX3 b).2.1 := by decide +kernel
theorem tyX3_ok : ∀ k, k < 2 → parseFieldDescriptor (TX3 k).2.2.1 = some (tyX3 k) := by decide +kernel
abbrev cX3_init : ByteArray := prog_5_method_1_code
def yX3_init : MethodName := ⟨RX3, "<init>", "()V"⟩
abbrev cX3_find : ByteArray := prog_5_method_2_code
def yX3_find : MethodName := ⟨RX3, "find", "(LSaintsAhead$Diocese;)V"⟩
abbrev cX3_fits : ByteArray := prog_5_method_3_code
def yX3_fits : MethodName := ⟨RX3, "fits", "(ILSaintsAhead$Diocese;)Z"⟩
abbrev cX3_makesSaint : ByteArray := prog_5_method_4_code
def yX3_makesSaint : MethodName := ⟨RX3, "makesSaint", "(III)Z"⟩
abbrev cX3_countThatMake : ByteArray := prog_5_method_5_code
def yX3_countThatMake : MethodName := ⟨RX3, "countThatMake", "(II)I"⟩
def RX4 : String := "SaintsAhead$Pad"
def TX4 : u_T := fun k => match k with
  | 0 => ("SaintsAhead$Pad", "signs", "[C", true)
  | _ => ("SaintsAhead$Pad", "count", "I", false)
def tyX4 : Nat → FieldType := fun k => match k with
  | 0 => .array .char
  | _ => .int
abbrev wsX40 : List Cond := u_ws RX4 TX4 2
theorem nmX4 : ∀ a, a < 2 → ∀ b, b < 2 → a ≠ b → (TX4 a).2.1 ≠ (TX4 b).2.1 := by decide +kernel
theorem tyX4_ok : ∀ k, k < 2 → parseFieldDescriptor (TX4 k).2.2.1 = some (tyX4 k) := by decide +kernel
abbrev cX4_init : ByteArray := prog_6_method_1_code
def yX4_init : MethodName := ⟨RX4, "<init>", "()V"⟩
abbrev cX4_write : ByteArray := prog_6_method_2_code
def yX4_write : MethodName := ⟨RX4, "write", "(C)V"⟩
abbrev cX4_firstFault : ByteArray := prog_6_method_3_code
def yX4_firstFault : MethodName := ⟨RX4, "firstFault", "()I"⟩
abbrev cX4_wantedAfter : ByteArray := prog_6_method_4_code
def yX4_wantedAfter : MethodName := ⟨RX4, "wantedAfter", "(IC)I"⟩
abbrev cX4_wantedAfterFirst : ByteArray := prog_6_method_5_code
def yX4_wantedAfterFirst : MethodName := ⟨RX4, "wantedAfterFirst", "(C)I"⟩
abbrev cX4_isChild : ByteArray := prog_6_method_6_code
def yX4_isChild : MethodName := ⟨RX4, "isChild", "(C)Z"⟩
abbrev cX4_isParish : ByteArray := prog_6_method_7_code
def yX4_isParish : MethodName := ⟨RX4, "isParish", "(C)Z"⟩
abbrev cX4_deedKind : ByteArray := prog_6_method_8_code
def yX4_deedKind : MethodName := ⟨RX4, "deedKind", "(C)I"⟩
abbrev cX4_signAt : ByteArray := prog_6_method_9_code
def yX4_signAt : MethodName := ⟨RX4, "signAt", "(I)C"⟩
abbrev cX4_readAct : ByteArray := prog_6_method_10_code
def yX4_readAct : MethodName := ⟨RX4, "readAct", "(ILSaintsAhead$Act;)I"⟩
def RX5 : String := "SaintsAhead$Years"
def TX5 : u_T := fun k => match k with
  | 0 => ("SaintsAhead$Years", "act", "LSaintsAhead$Act;", true)
  | 1 => ("SaintsAhead$Years", "acts", "I", false)
  | 2 => ("SaintsAhead$Years", "firstBarred", "I", false)
  | 3 => ("SaintsAhead$Years", "why", "I", false)
  | 4 => ("SaintsAhead$Years", "feasts", "I", false)
  | 5 => ("SaintsAhead$Years", "firstFalse", "I", false)
  | _ => ("SaintsAhead$Years", "falseFeasts", "I", false)
def tyX5 : Nat → FieldType := fun k => match k with
  | 0 => .object "SaintsAhead$Act"
  | 1 => .int
  | 2 => .int
  | 3 => .int
  | 4 => .int
  | 5 => .int
  | _ => .int
abbrev wsX50 : List Cond := u_ws RX5 TX5 7
theorem nmX5 : ∀ a, a < 7 → ∀ b, b < 7 → a ≠ b → (TX5 a).2.1 ≠ (TX5 b).2.1 := by decide +kernel
theorem tyX5_ok : ∀ k, k < 7 → parseFieldDescriptor (TX5 k).2.2.1 = some (tyX5 k) := by decide +kernel
abbrev cX5_init : ByteArray := prog_7_method_1_code
def yX5_init : MethodName := ⟨RX5, "<init>", "()V"⟩
abbrev cX5_live : ByteArray := prog_7_method_2_code
def yX5_live : MethodName := ⟨RX5, "live", "(LSaintsAhead$Pad;LSaintsAhead$Diocese;)V"⟩
abbrev cX5_clear : ByteArray := prog_7_method_3_code
def yX5_clear : MethodName := ⟨RX5, "clear", "()V"⟩
abbrev cX5_countFeast : ByteArray := prog_7_method_4_code
def yX5_countFeast : MethodName := ⟨RX5, "countFeast", "(Z)V"⟩
def RX6 : String := "SaintsAhead"
def TX6 : u_T := fun k => match k with
  | 0 => ("SaintsAhead", "now", "LSaintsAhead$Diocese;", true)
  | 1 => ("SaintsAhead", "then", "LSaintsAhead$Diocese;", true)
  | 2 => ("SaintsAhead", "images", "[LSaintsAhead$Diocese;", true)
  | 3 => ("SaintsAhead", "pad", "LSaintsAhead$Pad;", true)
  | 4 => ("SaintsAhead", "years", "LSaintsAhead$Years;", true)
  | 5 => ("SaintsAhead", "bookAct", "LSaintsAhead$Act;", true)
  | 6 => ("SaintsAhead", "chances", "LSaintsAhead$Chances;", true)
  | _ => ("SaintsAhead", "fitting", "LSaintsAhead$FittingLaws;", true)
def tyX6 : Nat → FieldType := fun k => match k with
  | 0 => .object "SaintsAhead$Diocese"
  | 1 => .object "SaintsAhead$Diocese"
  | 2 => .array (.object "SaintsAhead$Diocese")
  | 3 => .object "SaintsAhead$Pad"
  | 4 => .object "SaintsAhead$Years"
  | 5 => .object "SaintsAhead$Act"
  | 6 => .object "SaintsAhead$Chances"
  | _ => .object "SaintsAhead$FittingLaws"
abbrev wsX60 : List Cond := u_ws RX6 TX6 8
theorem nmX6 : ∀ a, a < 8 → ∀ b, b < 8 → a ≠ b → (TX6 a).2.1 ≠ (TX6 b).2.1 := by decide +kernel
theorem tyX6_ok : ∀ k, k < 8 → parseFieldDescriptor (TX6 k).2.2.1 = some (tyX6 k) := by decide +kernel
abbrev cX6_init : ByteArray := prog_1_method_1_code
def yX6_init : MethodName := ⟨RX6, "<init>", "()V"⟩
abbrev cX6_child : ByteArray := prog_1_method_2_code
def yX6_child : MethodName := ⟨RX6, "child", "(IIII)I"⟩
abbrev cX6_leave : ByteArray := prog_1_method_3_code
def yX6_leave : MethodName := ⟨RX6, "leave", "(I)I"⟩
abbrev cX6_law : ByteArray := prog_1_method_4_code
def yX6_law : MethodName := ⟨RX6, "law", "(II)I"⟩
abbrev cX6_purse : ByteArray := prog_1_method_5_code
def yX6_purse : MethodName := ⟨RX6, "purse", "(II)I"⟩
abbrev cX6_offer : ByteArray := prog_1_method_6_code
def yX6_offer : MethodName := ⟨RX6, "offer", "(IIII)I"⟩
abbrev cX6_witness : ByteArray := prog_1_method_7_code
def yX6_witness : MethodName := ⟨RX6, "witness", "(II)I"⟩
abbrev cX6_say : ByteArray := prog_1_method_8_code
def yX6_say : MethodName := ⟨RX6, "say", "(I)I"⟩
abbrev cX6_wipe : ByteArray := prog_1_method_9_code
def yX6_wipe : MethodName := ⟨RX6, "wipe", "()I"⟩
abbrev cX6_fault : ByteArray := prog_1_method_10_code
def yX6_fault : MethodName := ⟨RX6, "fault", "()I"⟩
abbrev cX6_judge : ByteArray := prog_1_method_11_code
def yX6_judge : MethodName := ⟨RX6, "judge", "(I)I"⟩
abbrev cX6_behind : ByteArray := prog_1_method_12_code
def yX6_behind : MethodName := ⟨RX6, "behind", "(II)I"⟩
abbrev cX6_holds : ByteArray := prog_1_method_13_code
def yX6_holds : MethodName := ⟨RX6, "holds", "(II)I"⟩
abbrev cX6_wrong : ByteArray := prog_1_method_14_code
def yX6_wrong : MethodName := ⟨RX6, "wrong", "(I)I"⟩
abbrev cX6_done : ByteArray := prog_1_method_15_code
def yX6_done : MethodName := ⟨RX6, "done", "()I"⟩
abbrev cX6_saints : ByteArray := prog_1_method_16_code
def yX6_saints : MethodName := ⟨RX6, "saints", "()I"⟩
abbrev cX6_lacks : ByteArray := prog_1_method_17_code
def yX6_lacks : MethodName := ⟨RX6, "lacks", "(I)I"⟩
abbrev cX6_odds : ByteArray := prog_1_method_18_code
def yX6_odds : MethodName := ⟨RX6, "odds", "(IIIIII)J"⟩
abbrev cX6_back : ByteArray := prog_1_method_19_code
def yX6_back : MethodName := ⟨RX6, "back", "(II)I"⟩
abbrev cX6_fewest : ByteArray := prog_1_method_20_code
def yX6_fewest : MethodName := ⟨RX6, "fewest", "(II)I"⟩
abbrev cX6_day : ByteArray := prog_1_method_21_code
def yX6_day : MethodName := ⟨RX6, "day", "(I)I"⟩
abbrev cX6_rivals : ByteArray := prog_1_method_22_code
def yX6_rivals : MethodName := ⟨RX6, "rivals", "(III)I"⟩
abbrev cX6_share : ByteArray := prog_1_method_23_code
def yX6_share : MethodName := ⟨RX6, "share", "(III)I"⟩
abbrev cX6_seen : ByteArray := prog_1_method_24_code
def yX6_seen : MethodName := ⟨RX6, "seen", "(IIZ)I"⟩
abbrev cX6_forget : ByteArray := prog_1_method_25_code
def yX6_forget : MethodName := ⟨RX6, "forget", "()I"⟩
abbrev cX6_laws : ByteArray := prog_1_method_26_code
def yX6_laws : MethodName := ⟨RX6, "laws", "(I)I"⟩
abbrev cX6_ask : ByteArray := prog_1_method_27_code
def yX6_ask : MethodName := ⟨RX6, "ask", "(I)I"⟩
abbrev cX6_book : ByteArray := prog_1_method_28_code
def yX6_book : MethodName := ⟨RX6, "book", "(III)I"⟩
abbrev cX6_image : ByteArray := prog_1_method_29_code
def yX6_image : MethodName := ⟨RX6, "image", "(I)I"⟩
abbrev cX6_restore : ByteArray := prog_1_method_30_code
def yX6_restore : MethodName := ⟨RX6, "restore", "(I)I"⟩
abbrev cX6_told : ByteArray := prog_1_method_31_code
def yX6_told : MethodName := ⟨RX6, "told", "(I)I"⟩
abbrev cX6_toldOfChild : ByteArray := prog_1_method_32_code
def yX6_toldOfChild : MethodName := ⟨RX6, "toldOfChild", "(II)I"⟩
abbrev cX6_refusalOfYears : ByteArray := prog_1_method_33_code
def yX6_refusalOfYears : MethodName := ⟨RX6, "refusalOfYears", "()I"⟩
abbrev cX6_firstDay : ByteArray := prog_1_method_34_code
def yX6_firstDay : MethodName := ⟨RX6, "firstDay", "(IIII)I"⟩
abbrev cX6_mostWithDays : ByteArray := prog_1_method_35_code
def yX6_mostWithDays : MethodName := ⟨RX6, "mostWithDays", "(II)I"⟩
abbrev cX6_endsAsSaint : ByteArray := prog_1_method_36_code
def yX6_endsAsSaint : MethodName := ⟨RX6, "endsAsSaint", "(LSaintsAhead$Diocese;IIIIZ)Z"⟩
abbrev cX6_within : ByteArray := prog_1_method_37_code
def yX6_within : MethodName := ⟨RX6, "within", "(III)Z"⟩
abbrev cX6_sumOver : ByteArray := prog_1_method_38_code
def yX6_sumOver : MethodName := ⟨RX6, "sumOver", "(I[I)I"⟩
abbrev cX6_unionOver : ByteArray := prog_1_method_39_code
def yX6_unionOver : MethodName := ⟨RX6, "unionOver", "(I[I)I"⟩
abbrev cX6_commonDivisor : ByteArray := prog_1_method_40_code
def yX6_commonDivisor : MethodName := ⟨RX6, "commonDivisor", "(JJ)J"⟩
def RX7 : String := "SaintsAheadModel"
def TX7 : u_T := fun k => match k with
  | 0 => ("SaintsAheadModel", "children", "I", false)
  | 1 => ("SaintsAheadModel", "year", "I", false)
  | 2 => ("SaintsAheadModel", "wonders", "[I", true)
  | 3 => ("SaintsAheadModel", "sins", "[I", true)
  | 4 => ("SaintsAheadModel", "eyes", "[I", true)
  | 5 => ("SaintsAheadModel", "fallen", "[I", true)
  | 6 => ("SaintsAheadModel", "holder", "[I", true)
  | 7 => ("SaintsAheadModel", "costs", "[I", true)
  | 8 => ("SaintsAheadModel", "worths", "[I", true)
  | 9 => ("SaintsAheadModel", "daysOf", "[I", true)
  | 10 => ("SaintsAheadModel", "purses", "[I", true)
  | 11 => ("SaintsAheadModel", "rule", "[I", true)
  | 12 => ("SaintsAheadModel", "saw", "[I", true)
  | 13 => ("SaintsAheadModel", "sightWonders", "[I", true)
  | 14 => ("SaintsAheadModel", "sightSins", "[I", true)
  | 15 => ("SaintsAheadModel", "sightSaint", "[I", true)
  | 16 => ("SaintsAheadModel", "sights", "I", false)
  | 17 => ("SaintsAheadModel", "pad", "[I", true)
  | 18 => ("SaintsAheadModel", "padMany", "I", false)
  | 19 => ("SaintsAheadModel", "act", "[I", true)
  | 20 => ("SaintsAheadModel", "whose", "[I", true)
  | 21 => ("SaintsAheadModel", "parishOf", "[I", true)
  | 22 => ("SaintsAheadModel", "partOf", "[I", true)
  | 23 => ("SaintsAheadModel", "acts", "I", false)
  | 24 => ("SaintsAheadModel", "feasts", "I", false)
  | 25 => ("SaintsAheadModel", "firstWrong", "I", false)
  | 26 => ("SaintsAheadModel", "wrongMany", "I", false)
  | 27 => ("SaintsAheadModel", "actNow", "I", false)
  | 28 => ("SaintsAheadModel", "had", "[I", true)
  | 29 => ("SaintsAheadModel", "leaves", "[I", true)
  | 30 => ("SaintsAheadModel", "badAct", "I", false)
  | 31 => ("SaintsAheadModel", "badWhy", "I", false)
  | 32 => ("SaintsAheadModel", "parts", "[J", true)
  | 33 => ("SaintsAheadModel", "ends", "[I", true)
  | 34 => ("SaintsAheadModel", "kept", "[I", true)
  | 35 => ("SaintsAheadModel", "isKept", "[Z", true)
  | 36 => ("SaintsAheadModel", "keptAt", "I", false)
  | _ => ("SaintsAheadModel", "isWriting", "Z", false)
def tyX7 : Nat → FieldType := fun k => match k with
  | 0 => .int
  | 1 => .int
  | 2 => .array .int
  | 3 => .array .int
  | 4 => .array .int
  | 5 => .array .int
  | 6 => .array .int
  | 7 => .array .int
  | 8 => .array .int
  | 9 => .array .int
  | 10 => .array .int
  | 11 => .array .int
  | 12 => .array .int
  | 13 => .array .int
  | 14 => .array .int
  | 15 => .array .int
  | 16 => .int
  | 17 => .array .int
  | 18 => .int
  | 19 => .array .int
  | 20 => .array .int
  | 21 => .array .int
  | 22 => .array .int
  | 23 => .int
  | 24 => .int
  | 25 => .int
  | 26 => .int
  | 27 => .int
  | 28 => .array .int
  | 29 => .array .int
  | 30 => .int
  | 31 => .int
  | 32 => .array .long
  | 33 => .array .int
  | 34 => .array .int
  | 35 => .array .boolean
  | 36 => .int
  | _ => .boolean
abbrev wsX70 : List Cond := u_ws RX7 TX7 38
theorem nmX7 : ∀ a, a < 38 → ∀ b, b < 38 → a ≠ b → (TX7 a).2.1 ≠ (TX7 b).2.1 := by decide +kernel
theorem tyX7_ok : ∀ k, k < 38 → parseFieldDescriptor (TX7 k).2.2.1 = some (tyX7 k) := by decide +kernel
abbrev cX7_init : ByteArray := prog_9_method_1_code
def yX7_init : MethodName := ⟨RX7, "<init>", "()V"⟩
abbrev cX7_in : ByteArray := prog_9_method_3_code
def yX7_in : MethodName := ⟨RX7, "in", "(JJJ)Z"⟩
abbrev cX7_ones : ByteArray := prog_9_method_4_code
def yX7_ones : MethodName := ⟨RX7, "ones", "(I)I"⟩
abbrev cX7_isNumber : ByteArray := prog_9_method_5_code
def yX7_isNumber : MethodName := ⟨RX7, "isNumber", "(I)Z"⟩
abbrev cX7_isChild : ByteArray := prog_9_method_6_code
def yX7_isChild : MethodName := ⟨RX7, "isChild", "(I)Z"⟩
abbrev cX7_isParish : ByteArray := prog_9_method_7_code
def yX7_isParish : MethodName := ⟨RX7, "isParish", "(I)Z"⟩
abbrev cX7_clearParts : ByteArray := prog_9_method_8_code
def yX7_clearParts : MethodName := ⟨RX7, "clearParts", "(I)V"⟩
abbrev cX7_child : ByteArray := prog_9_method_9_code
def yX7_child : MethodName := ⟨RX7, "child", "(IIII)I"⟩
abbrev cX7_leave : ByteArray := prog_9_method_10_code
def yX7_leave : MethodName := ⟨RX7, "leave", "(I)I"⟩
abbrev cX7_law : ByteArray := prog_9_method_11_code
def yX7_law : MethodName := ⟨RX7, "law", "(II)I"⟩
abbrev cX7_purse : ByteArray := prog_9_method_12_code
def yX7_purse : MethodName := ⟨RX7, "purse", "(II)I"⟩
abbrev cX7_offer : ByteArray := prog_9_method_13_code
def yX7_offer : MethodName := ⟨RX7, "offer", "(IIII)I"⟩
abbrev cX7_witness : ByteArray := prog_9_method_14_code
def yX7_witness : MethodName := ⟨RX7, "witness", "(II)I"⟩
abbrev cX7_say : ByteArray := prog_9_method_15_code
def yX7_say : MethodName := ⟨RX7, "say", "(I)I"⟩
abbrev cX7_wipe : ByteArray := prog_9_method_16_code
def yX7_wipe : MethodName := ⟨RX7, "wipe", "()I"⟩
abbrev cX7_isLetter : ByteArray := prog_9_method_17_code
def yX7_isLetter : MethodName := ⟨RX7, "isLetter", "(I)Z"⟩
abbrev cX7_isParishLetter : ByteArray := prog_9_method_18_code
def yX7_isParishLetter : MethodName := ⟨RX7, "isParishLetter", "(I)Z"⟩
abbrev cX7_close : ByteArray := prog_9_method_19_code
def yX7_close : MethodName := ⟨RX7, "close", "()I"⟩
abbrev cX7_begin : ByteArray := prog_9_method_20_code
def yX7_begin : MethodName := ⟨RX7, "begin", "(I)I"⟩
abbrev cX7_deed : ByteArray := prog_9_method_21_code
def yX7_deed : MethodName := ⟨RX7, "deed", "(I)I"⟩
abbrev cX7_readOn : ByteArray := prog_9_method_22_code
def yX7_readOn : MethodName := ⟨RX7, "readOn", "(II)I"⟩
abbrev cX7_fault : ByteArray := prog_9_method_23_code
def yX7_fault : MethodName := ⟨RX7, "fault", "()I"⟩
abbrev cX7_isSaint : ByteArray := prog_9_method_24_code
def yX7_isSaint : MethodName := ⟨RX7, "isSaint", "(I)Z"⟩
abbrev cX7_heldBy : ByteArray := prog_9_method_25_code
def yX7_heldBy : MethodName := ⟨RX7, "heldBy", "(II)I"⟩
abbrev cX7_whyNot : ByteArray := prog_9_method_26_code
def yX7_whyNot : MethodName := ⟨RX7, "whyNot", "(IIII)I"⟩
abbrev cX7_fall : ByteArray := prog_9_method_27_code
def yX7_fall : MethodName := ⟨RX7, "fall", "(I)V"⟩
abbrev cX7_feast : ByteArray := prog_9_method_28_code
def yX7_feast : MethodName := ⟨RX7, "feast", "(I)V"⟩
abbrev cX7_happen : ByteArray := prog_9_method_29_code
def yX7_happen : MethodName := ⟨RX7, "happen", "(IIII)V"⟩
abbrev cX7_store : ByteArray := prog_9_method_30_code
def yX7_store : MethodName := ⟨RX7, "store", "([I)V"⟩
abbrev cX7_lay : ByteArray := prog_9_method_31_code
def yX7_lay : MethodName := ⟨RX7, "lay", "([I)V"⟩
abbrev cX7_goYears : ByteArray := prog_9_method_32_code
def yX7_goYears : MethodName := ⟨RX7, "goYears", "()V"⟩
abbrev cX7_refusal : ByteArray := prog_9_method_33_code
def yX7_refusal : MethodName := ⟨RX7, "refusal", "()I"⟩
abbrev cX7_judge : ByteArray := prog_9_method_34_code
def yX7_judge : MethodName := ⟨RX7, "judge", "(I)I"⟩
abbrev cX7_behind : ByteArray := prog_9_method_35_code
def yX7_behind : MethodName := ⟨RX7, "behind", "(II)I"⟩
abbrev cX7_holds : ByteArray := prog_9_method_36_code
def yX7_holds : MethodName := ⟨RX7, "holds", "(II)I"⟩
abbrev cX7_wrong : ByteArray := prog_9_method_37_code
def yX7_wrong : MethodName := ⟨RX7, "wrong", "(I)I"⟩
abbrev cX7_done : ByteArray := prog_9_method_38_code
def yX7_done : MethodName := ⟨RX7, "done", "()I"⟩
abbrev cX7_saints : ByteArray := prog_9_method_39_code
def yX7_saints : MethodName := ⟨RX7, "saints", "()I"⟩
abbrev cX7_over : ByteArray := prog_9_method_40_code
def yX7_over : MethodName := ⟨RX7, "over", "(I)I"⟩
abbrev cX7_lacks : ByteArray := prog_9_method_41_code
def yX7_lacks : MethodName := ⟨RX7, "lacks", "(I)I"⟩
abbrev cX7_lowest : ByteArray := prog_9_method_42_code
def yX7_lowest : MethodName := ⟨RX7, "lowest", "(JJI)J"⟩
abbrev cX7_yearOdds : ByteArray := prog_9_method_43_code
def yX7_yearOdds : MethodName := ⟨RX7, "yearOdds", "(II)V"⟩
abbrev cX7_odds : ByteArray := prog_9_method_44_code
def yX7_odds : MethodName := ⟨RX7, "odds", "(IIIIII)J"⟩
abbrev cX7_sumOf : ByteArray := prog_9_method_45_code
def yX7_sumOf : MethodName := ⟨RX7, "sumOf", "([II)I"⟩
abbrev cX7_back : ByteArray := prog_9_method_46_code
def yX7_back : MethodName := ⟨RX7, "back", "(II)I"⟩
abbrev cX7_seenBy : ByteArray := prog_9_method_47_code
def yX7_seenBy : MethodName := ⟨RX7, "seenBy", "(I)I"⟩
abbrev cX7_fewest : ByteArray := prog_9_method_48_code
def yX7_fewest : MethodName := ⟨RX7, "fewest", "(II)I"⟩
abbrev cX7_mostDays : ByteArray := prog_9_method_49_code
def yX7_mostDays : MethodName := ⟨RX7, "mostDays", "(II)I"⟩
abbrev cX7_dayIn : ByteArray := prog_9_method_50_code
def yX7_dayIn : MethodName := ⟨RX7, "dayIn", "(III)I"⟩
abbrev cX7_day : ByteArray := prog_9_method_51_code
def yX7_day : MethodName := ⟨RX7, "day", "(I)I"⟩
abbrev cX7_at : ByteArray := prog_9_method_52_code
def yX7_at : MethodName := ⟨RX7, "at", "(III)I"⟩
abbrev cX7_wondersAt : ByteArray := prog_9_method_53_code
def yX7_wondersAt : MethodName := ⟨RX7, "wondersAt", "(III)I"⟩
abbrev cX7_sinsAt : ByteArray := prog_9_method_54_code
def yX7_sinsAt : MethodName := ⟨RX7, "sinsAt", "(IIII)I"⟩
abbrev cX7_endOf : ByteArray := prog_9_method_55_code
def yX7_endOf : MethodName := ⟨RX7, "endOf", "(IIII)I"⟩
abbrev cX7_findEnds : ByteArray := prog_9_method_56_code
def yX7_findEnds : MethodName := ⟨RX7, "findEnds", "(II)V"⟩
abbrev cX7_rivals : ByteArray := prog_9_method_57_code
def yX7_rivals : MethodName := ⟨RX7, "rivals", "(III)I"⟩
abbrev cX7_share : ByteArray := prog_9_method_58_code
def yX7_share : MethodName := ⟨RX7, "share", "(III)I"⟩
abbrev cX7_seen : ByteArray := prog_9_method_59_code
def yX7_seen : MethodName := ⟨RX7, "seen", "(IIZ)I"⟩
abbrev cX7_forget : ByteArray := prog_9_method_60_code
def yX7_forget : MethodName := ⟨RX7, "forget", "()I"⟩
abbrev cX7_makes : ByteArray := prog_9_method_61_code
def yX7_makes : MethodName := ⟨RX7, "makes", "(III)Z"⟩
abbrev cX7_fits : ByteArray := prog_9_method_62_code
def yX7_fits : MethodName := ⟨RX7, "fits", "(I)Z"⟩
abbrev cX7_laws : ByteArray := prog_9_method_63_code
def yX7_laws : MethodName := ⟨RX7, "laws", "(I)I"⟩
abbrev cX7_mostLeft : ByteArray := prog_9_method_64_code
def yX7_mostLeft : MethodName := ⟨RX7, "mostLeft", "(I)I"⟩
abbrev cX7_ask : ByteArray := prog_9_method_65_code
def yX7_ask : MethodName := ⟨RX7, "ask", "(I)I"⟩
abbrev cX7_book : ByteArray := prog_9_method_66_code
def yX7_book : MethodName := ⟨RX7, "book", "(III)I"⟩
abbrev cX7_pass : ByteArray := prog_9_method_67_code
def yX7_pass : MethodName := ⟨RX7, "pass", "(I)I"⟩
abbrev cX7_passRow : ByteArray := prog_9_method_68_code
def yX7_passRow : MethodName := ⟨RX7, "passRow", "([II)V"⟩
abbrev cX7_passAll : ByteArray := prog_9_method_69_code
def yX7_passAll : MethodName := ⟨RX7, "passAll", "()V"⟩
abbrev cX7_image : ByteArray := prog_9_method_70_code
def yX7_image : MethodName := ⟨RX7, "image", "(I)I"⟩
abbrev cX7_restore : ByteArray := prog_9_method_71_code
def yX7_restore : MethodName := ⟨RX7, "restore", "(I)I"⟩
abbrev cX7_toldOf : ByteArray := prog_9_method_72_code
def yX7_toldOf : MethodName := ⟨RX7, "toldOf", "(II)I"⟩
abbrev cX7_told : ByteArray := prog_9_method_73_code
def yX7_told : MethodName := ⟨RX7, "told", "(I)I"⟩
def RJ6 : String := "java/lang/Integer"
def TJ6 : u_T := fun k => match k with
  | _ => ("", "", "", false)
def tyJ6 : Nat → FieldType := fun k => match k with
  | _ => .int
abbrev wsJ60 : List Cond := u_ws RJ6 TJ6 0
theorem nmJ6 : ∀ a, a < 0 → ∀ b, b < 0 → a ≠ b → (TJ6 a).2.1 ≠ (TJ6 b).2.1 := by decide +kernel
theorem tyJ6_ok : ∀ k, k < 0 → parseFieldDescriptor (TJ6 k).2.2.1 = some (tyJ6 k) := by decide +kernel
abbrev cJ6_bitCount_0f7a4 : ByteArray := prog_10_method_49_code
def yJ6_bitCount_0f7a4 : MethodName := ⟨RJ6, "bitCount", "(I)I"⟩
def RJ9 : String := "java/lang/Math"
def TJ9 : u_T := fun k => match k with
  | _ => ("", "", "", false)
def tyJ9 : Nat → FieldType := fun k => match k with
  | _ => .int
abbrev wsJ90 : List Cond := u_ws RJ9 TJ9 0
theorem nmJ9 : ∀ a, a < 0 → ∀ b, b < 0 → a ≠ b → (TJ9 a).2.1 ≠ (TJ9 b).2.1 := by decide +kernel
theorem tyJ9_ok : ∀ k, k < 0 → parseFieldDescriptor (TJ9 k).2.2.1 = some (tyJ9 k) := by decide +kernel
abbrev cJ9_max_7cf53 : ByteArray := prog_11_method_65_code
def yJ9_max_7cf53 : MethodName := ⟨RJ9, "max", "(II)I"⟩
abbrev cJ9_max_f86c9 : ByteArray := prog_11_method_66_code
def yJ9_max_f86c9 : MethodName := ⟨RJ9, "max", "(JJ)J"⟩
abbrev cJ9_min_7cf53 : ByteArray := prog_11_method_69_code
def yJ9_min_7cf53 : MethodName := ⟨RJ9, "min", "(II)I"⟩
def RJ10 : String := "java/lang/System"
def TJ10 : u_T := fun k => match k with
  | _ => ("", "", "", false)
def tyJ10 : Nat → FieldType := fun k => match k with
  | _ => .int
abbrev wsJ100 : List Cond := u_ws RJ10 TJ10 0
theorem nmJ10 : ∀ a, a < 0 → ∀ b, b < 0 → a ≠ b → (TJ10 a).2.1 ≠ (TJ10 b).2.1 := by decide +kernel
theorem tyJ10_ok : ∀ k, k < 0 → parseFieldDescriptor (TJ10 k).2.2.1 = some (tyJ10 k) := by decide +kernel
def RL : String := "SaintsAheadLaw"
abbrev cL_law : ByteArray := code
def yL_law : MethodName := ⟨RL, "law", "([I)Z"⟩
