def ax_N : Nat := 300
def ax_D : Nat := 20
section AXM
variable {p : Program} {l : Launch} {e : Env} {R : Room} {s : State} {m : MethodId} {args : Array Value} {below : List Frame} {meth : Method} {c : Code} {H : Heap} {locs : List Loc} {cells slots : Nat} {Q : State → Prop}
variable {cc : ByteArray} {pc : Nat} {ls : Array Slot} {rest : List Value} {E : ax_E} {lay : List ax_S} {y : MethodName} {mL : Nat} {rt : Option FieldType} {d mc ms idx : Nat}
theorem ax_max (C : ax_C p R s m args meth c y cc mL rt d E mc ms) (hc : cells + lay.length = lay.length) (hz : slots + ax_z lay = ax_z lay) (hlk : Cond.methodLink y.cls idx yJ9_max_7cf53 ∈ ax_g) (hd : 1 ≤ d) (hsz : ls.size = mL) (hW : (rest.map fun v => v.category).sum ≤ 8) {x z : Int32} (hdg : decode cc pc = .ok (.invokestatic idx, 3))
    (kk : W p l e R s m args below meth c H locs cells slots Q (F0 m (pc + 3) ls (.int (if x < z then z else x) :: rest))) : W p l e R s m args below meth c H locs cells slots Q (F0 m pc ls (.int z :: .int x :: rest)) := by
  obtain ⟨hx, hb, hr, hml, hown, hts, hlocks, hK, hfr, hlo, -⟩ := C
  exact va_mmax hx hb (hml.trans hsz.symm) hown (hts _ hlk) (hts _ st_J9_max_7cf53) (hts _ yk_J9_max_7cf53.2.1) (hts _ (ax_gm 464 (by decide +kernel) rfl)) (by omega) (by omega) (by omega) (by omega) hdg kk
theorem ax_min (C : ax_C p R s m args meth c y cc mL rt d E mc ms) (hc : cells + lay.length = lay.length) (hz : slots + ax_z lay = ax_z lay) (hlk : Cond.methodLink y.cls idx yJ9_min_7cf53 ∈ ax_g) (hd : 1 ≤ d) (hsz : ls.size = mL) (hW : (rest.map fun v => v.category).sum ≤ 8) {x z : Int32} (hdg : decode cc pc = .ok (.invokestatic idx, 3))
    (kk : W p l e R s m args below meth c H locs cells slots Q (F0 m (pc + 3) ls (.int (if z < x then z else x) :: rest))) : W p l e R s m args below meth c H locs cells slots Q (F0 m pc ls (.int z :: .int x :: rest)) := by
  obtain ⟨hx, hb, hr, hml, hown, hts, hlocks, hK, hfr, hlo, -⟩ := C
  exact va_mmin hx hb (hml.trans hsz.symm) hown (hts _ hlk) (hts _ st_J9_min_7cf53) (hts _ yk_J9_min_7cf53.2.1) (hts _ (ax_gm 417 (by decide +kernel) rfl)) (by omega) (by omega) (by omega) (by omega) hdg kk
theorem ax_maxL (C : ax_C p R s m args meth c y cc mL rt d E mc ms) (hc : cells + lay.length = lay.length) (hz : slots + ax_z lay = ax_z lay) (hlk : Cond.methodLink y.cls idx yJ9_max_f86c9 ∈ ax_g) (hd : 1 ≤ d) (hsz : ls.size = mL) (hW : (rest.map fun v => v.category).sum ≤ 8) {x z : Int64} (hdg : decode cc pc = .ok (.invokestatic idx, 3))
    (kk : W p l e R s m args below meth c H locs cells slots Q (F0 m (pc + 3) ls (.long (if z < x then x else z) :: rest))) : W p l e R s m args below meth c H locs cells slots Q (F0 m pc ls (.long z :: .long x :: rest)) := by
  obtain ⟨hx, hb, hr, hml, hown, hts, hlocks, hK, hfr, hlo, -⟩ := C
  exact va_mmax_long hx hb (hml.trans hsz.symm) hown (hts _ hlk) (hts _ st_J9_max_f86c9) (hts _ yk_J9_max_f86c9.2.1) (hts _ (ax_gm 494 (by decide +kernel) rfl)) (by omega) (by omega) (by omega) (by omega) hdg kk
end AXM
