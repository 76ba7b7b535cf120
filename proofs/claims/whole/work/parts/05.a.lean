theorem fl_inc (k : Nat) : nI k + Int32.ofInt 1 = nI (k + 1) := nI_1 k
theorem fl_gt {a b : Int32} (h : ¬ a ≤ b) : b < a := Int32.not_le.mp h
theorem fl_ngt {a b : Int32} (h : a ≤ b) : ¬ b < a := Int32.not_lt.mpr h
def fl_sum (f : Nat → Int32) : Nat → Int64
  | 0 => 0
  | k + 1 => fl_sum f k + (f k).toInt64
theorem fc_len_le (c : Nat) : fc_len c ≤ 64 := by
  unfold fc_len
  split
  · split <;> decide
  · split
    · decide
    · split <;> decide

set_option maxHeartbeats 4000000 in
set_option maxRecDepth 100000 in
/-- sumOf: the sum of the first k of a row -/
theorem c_X4_sumOf (l : Launch) {D : va_G} {cI cJ cII : ClassId} {ad : Nat → Nat} (hJ : fl_inj 62 ad) (M : fl_M) (c0 n k : Nat) (hc : fc_len c0 = n) (hn : 0 < n) (hk : k ≤ n) : Met l yX4_sumOf wsX4_sumOf ({ frames := 0, cells := 0, slots := 0, locals := 0 } : Room) (fcPc D cI cJ cII ad M [.ref (ad c0), .int (nI k)]) (va_Ql (fun r M2 => r = fl_sum (M.1 c0) k ∧ M2 = M) (fcQ D cI cII ad) (fl_A 62 ad)) 0 0 (fl_A 62 ad) := by
  refine Met.ofW (cc := cX4_sumOf) (maxL := 5) (ret := (some .long)) (by decide) rfl ?_
  intro p e s m args below meth c s₁ B hml hv
  obtain ⟨rfl, hP, hK, hN⟩ := hv
  have hx := B.exec
  have hb := B.bytes
  have hr := B.returns
  have hts := atoms_spec (ws := wsX4_sumOf) B.pre
  have hown : s.vm.findClass RX4 = some m.cls := findClass_of_methodNamed B.named
  have hlocks := B.notSynchronized
  have hS : va_S (fl_A 62 ad) s.heap s.heap [] := va_S.rf
  have hl := lv_entry ([.ref (ad c0), .int (nI k)] : List Value) (n := 5) (Nat.le_of_ble_eq_true rfl)
  rw [lg_entry_eq]
  generalize (lg_sl ([.ref (ad c0), .int (nI k)] : List Value) ++ List.replicate (5 - (lg_sl ([.ref (ad c0), .int (nI k)] : List Value)).length) Slot.unset).toArray = ls at hl ⊢
  have hl : lv_has ls 5 [(0, .ref (ad c0)), (1, .int (nI k))] := hl
  have hn3 : n ≤ 64 := hc ▸ fc_len_le c0
  refine lv_lconst (v := 0) hx hb dX4_sumOf_0 (by decide) ?_
  refine lv_lstore_n (lv' := [(2, .long 0), (0, .ref (ad c0)), (1, .int (nI k))]) hx hb dX4_sumOf_1 rfl hl (by decide) rfl (fun ls hl => ?_)
  refine lv_iconst (v := 0) hx hb dX4_sumOf_2 (by decide) ?_
  refine lv_istore (lv' := [(4, .int 0), (2, .long 0), (0, .ref (ad c0)), (1, .int (nI k))]) hx hb dX4_sumOf_3 hl (by decide) rfl (fun ls hl => ?_)
  suffices KL5 : ∀ (f : Nat) (i : Nat) (hi : i ≤ k) (hf : k + 1 ≤ i + f), ∀ (H : Heap) (locs : List Loc), va_P D vwCl (fcP cI cII ad M) H → va_S (fl_A 62 ad) s.heap H locs → ∀ (ls : Array Slot), lv_has ls 5 [(0, .ref (ad c0)), (1, .int (nI k)), (2, .long (fl_sum (M.1 c0) i)), (4, .int (nI i))] → W p l e (headSpec wsX4_sumOf ({ frames := 0, cells := 0, slots := 0, locals := 0 } : Room)).room s m ([.ref (ad c0), .int (nI k)] : List Value).toArray below meth c H locs 0 0 (MQ below (va_Ql (fun r M2 => r = fl_sum (M.1 c0) k ∧ M2 = M) (fcQ D cI cII ad) (fl_A 62 ad)) ([.ref (ad c0), .int (nI k)] : List Value).toArray s 0 0 (fl_A 62 ad)) (F0 m 5 ls []) from KL5 (k + 1) 0 (Nat.zero_le k) (by omega) _ _ hP hS ls (lv_sub hl [2, 3, 1, 0] rfl)
  intro f
  induction f with
  | zero =>
    intro i hi hf
    omega
  | succ f ih5 =>
    intro i hi hf H locs hP hS ls hl
    refine lv_iload hx hb dX4_sumOf_5 (lv_at hl 3 rfl) ?_
    refine lv_iload_n hx hb dX4_sumOf_7 rfl (lv_at hl 1 rfl) ?_
    refine lv_icmp_ge (tgt := 25) hx hb dX4_sumOf_8 (by decide) (fun hc8 => ?_) (fun hc8 => ?_)
    · have e8 : i = k := Nat.le_antisymm hi ((nI_leI (by omega) (by omega)).mp hc8)
      refine lv_lload_n hx hb dX4_sumOf_25 rfl (lv_at hl 2 rfl) ?_
      exact W.lret (v := fl_sum (M.1 c0) i) hx hb hr (fun t ht hW => ⟨⟨fl_sum (M.1 c0) i, M, rfl, ⟨by rw [e8], rfl⟩, fl_qi ht hP⟩, hS.F ht⟩) hS.2.2 dX4_sumOf_26
    · have l8 : i < k := Nat.lt_of_not_le (fun q => hc8 ((nI_leI (by omega) (by omega)).mpr q))
      refine lv_lload_n hx hb dX4_sumOf_11 rfl (lv_at hl 2 rfl) ?_
      refine lv_aload_n hx hb dX4_sumOf_12 rfl (lv_at hl 0 rfl) ?_
      refine lv_iload hx hb dX4_sumOf_13 (lv_at hl 3 rfl) ?_
      refine fl_ild (k := i) hx hb hK hP (fc_a cI cII ad _ hc hn) rfl rfl (by omega) (by omega) dX4_sumOf_15 ?_
      refine lv_i2l (v := (M.1 c0 i).toInt64) hx hb dX4_sumOf_16 rfl ?_
      refine lv_ladd hx hb dX4_sumOf_17 ?_
      refine lv_lstore_n (lv' := [(2, .long ((fl_sum (M.1 c0) i) + ((M.1 c0 i).toInt64))), (0, .ref (ad c0)), (1, .int (nI k)), (4, .int (nI i))]) hx hb dX4_sumOf_18 rfl hl (by decide) rfl (fun ls hl => ?_)
      refine lv_iinc (v := nI (i + 1)) (lv' := [(4, .int (nI (i + 1))), (2, .long ((fl_sum (M.1 c0) i) + ((M.1 c0 i).toInt64))), (0, .ref (ad c0)), (1, .int (nI k))]) hx hb dX4_sumOf_19 hl (k := 3) rfl (fl_inc i) (by decide) rfl (fun ls hl => ?_)
      refine lv_goto (tgt := 5) hx hb dX4_sumOf_22 (by decide) ?_
      exact ih5 (i + 1) (by omega) (by omega) _ _ hP hS ls (lv_sub hl [2, 3, 1, 0] rfl)

set_option maxHeartbeats 4000000 in
set_option maxRecDepth 100000 in
theorem c_X2_isBegun (l : Launch) {D : va_G} {cI cJ cII : ClassId} {ad : Nat → Nat} (hJ : fl_inj 62 ad) (M : fl_M) : Met l yX2_isBegun wsX2_isBegun ({ frames := 0, cells := 0, slots := 0, locals := 0 } : Room) (fcPc D cI cJ cII ad M [.ref (ad 8)]) (va_Qi (fun r M2 => r = (if 0 < M.1 8 2 then 1 else 0) ∧ M2 = M) (fcQ D cI cII ad) (fl_A 62 ad)) 0 0 (fl_A 62 ad) := by
  refine Met.ofW (cc := cX2_isBegun) (maxL := 1) (ret := (some .boolean)) (by decide) rfl ?_
  intro p e s m args below meth c s₁ B hml hv
  obtain ⟨rfl, hP, hK, hN⟩ := hv
  have hx := B.exec
  have hb := B.bytes
  have hr := B.returns
  have hts := atoms_spec (ws := wsX2_isBegun) B.pre
  have hown : s.vm.findClass RX2 = some m.cls := findClass_of_methodNamed B.named
  have hlocks := B.notSynchronized
  have inX2 : ∀ w ∈ u_ws RX2 TX2 13, w ∈ wsX2_isBegun := by decide +kernel
  have hS : va_S (fl_A 62 ad) s.heap s.heap [] := va_S.rf
  have hl := lv_entry ([.ref (ad 8)] : List Value) (n := 1) (Nat.le_of_ble_eq_true rfl)
  rw [lg_entry_eq]
  generalize (lg_sl ([.ref (ad 8)] : List Value) ++ List.replicate (1 - (lg_sl ([.ref (ad 8)] : List Value)).length) Slot.unset).toArray = ls at hl ⊢
  have hl : lv_has ls 1 [(0, .ref (ad 8))] := hl
  refine lv_aload_n hx hb dX2_isBegun_0 rfl (lv_at hl 0 rfl) ?_
  refine va_get (D := D) (ci := 4) (v := .int (M.1 8 2)) (C := RX2) (T := TX2) (N := 13) hx hb hts inX2 hown hK hP 8 (fl_at (by decide) rfl) rfl 2 (by decide) (hts (.fieldLink RX2 51 "ResampledRows$Run" "n" "I") (by decide +kernel)) (fun _ h9 => h9) rfl dX2_isBegun_1 ?_
  refine lv_if_le (tgt := 11) hx hb dX2_isBegun_4 (by decide) (fun hc4 => ?_) (fun hc4 => ?_)
  · refine lv_iconst (v := 0) hx hb dX2_isBegun_11 (by decide) ?_
    exact W.zret (v := 0) (ty := .boolean) hx hb hr rfl (fun t ht hW => ⟨⟨0, M, rfl, ⟨by rw [if_neg (fl_ngt hc4)], rfl⟩, fl_qi ht hP⟩, hS.F ht⟩) hS.2.2 dX2_isBegun_12
  · refine lv_iconst (v := 1) hx hb dX2_isBegun_7 (by decide) ?_
    refine lv_goto (tgt := 12) hx hb dX2_isBegun_8 (by decide) ?_
    exact W.zret (v := 1) (ty := .boolean) hx hb hr rfl (fun t ht hW => ⟨⟨1, M, rfl, ⟨by rw [if_pos (fl_gt hc4)], rfl⟩, fl_qi ht hP⟩, hS.F ht⟩) hS.2.2 dX2_isBegun_12
