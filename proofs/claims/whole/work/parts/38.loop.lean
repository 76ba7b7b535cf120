/-! THE LAW'S LOOP -/
theorem lp_ld {p : Program} {l : Launch} {e : Env} {R : Room} {s : State} {m : MethodId} {args : Array Value} {below : List Frame} {meth : Method} {c : Code} {H : Heap} {locs : List Loc} {cells slots : Nat} {Q : State → Prop} {cc : ByteArray} {pc : Nat} {ls : Array Slot} {rest : List Value} {H0 : Heap} {A : Nat → Prop} (hexec : p.tables.exec = Jvm.exec) (hb : c.code = cc) {b L : Nat} {xs : Nat → Int32} (hX : va_X b L xs s H0) (hbl : b < H0.size) (hbA : ¬ A b) (hS : va_S A H0 H locs) {i : Int32} (k : Nat) (hi : i = nI k) (hk : k < L) (hL : L ≤ 2048) (hdg : decode cc pc = .ok (.iaload, 1))
    (kk : W p l e R s m args below meth c H locs cells slots Q (F0 m (pc + 1) ls (.int (xs k) :: rest))) : W p l e R s m args below meth c H locs cells slots Q (F0 m pc ls (.int i :: .ref b :: rest)) := by
  subst hi
  refine va_sld hexec hb hX hbl hbA hS (vp_in_nI hk (by omega)) hdg ?_
  rw [nI_clamp (by omega)]
  exact kk
theorem lp_gt {L j : Nat} (hL : L ≤ 2048) (hj : 4 * j ≤ 2048) : nI L - 4 < nI (4 * j) ↔ L < 4 * j + 4 := by
  have h1 : (nI L).toInt = L := nI_toInt (by omega)
  have h2 : (nI (4 * j)).toInt = (4 * j : Nat) := nI_toInt (by omega)
  have h3 : (nI L - 4).toInt = (L : Int) - 4 := by
    rw [Int32.toInt_sub, h1]
    show ((L : Int) - 4).bmod (2 ^ 32) = (L : Int) - 4
    rw [Int.bmod_eq_of_le_mul_two] <;> omega
  rw [Int32.lt_iff_toInt_lt, h3, h2]
  omega

