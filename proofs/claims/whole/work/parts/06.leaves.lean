theorem fl_fa {x : Int32} {t a w : Nat} (h : x = nI w) (hw : w < 2 ^ 31) : lN (t * a) + lN t * x.toInt64 = lN (t * (a + w)) := by
  rw [h, nI_l hw, lN_mul, lN_add, Nat.mul_add]
theorem fl_rem64 {a : Nat} (h : a < 2 ^ 31) : nI a - nI a / 64 * 64 = nI (a % 64) := pk_rem (d := 64) h (by decide) (by decide)
theorem fl_len0 {n : Nat} (hn : n < 2 ^ 31) (h : nI n ≤ 0) : n = 0 := by
  have := (nI_leI (b := 0) hn (by decide)).mp h
  omega
theorem fl_len1 {n : Nat} (hn : n < 2 ^ 31) (h : ¬ nI n ≤ 0) : 0 < n := Nat.pos_of_ne_zero (fun q => h (by subst q; decide))

set_option maxHeartbeats 4000000 in
set_option maxRecDepth 100000 in
theorem c_X4_isState (l : Launch) {D : va_G} {cI cJ cII : ClassId} {ad : Nat → Nat} (hJ : fl_inj 62 ad) (M : fl_M) (x : Int32) : Met l yX4_isState wsX4_isState ({ frames := 0, cells := 0, slots := 0, locals := 0 } : Room) (fcPc D cI cJ cII ad M [.int x]) (va_Qi (fun r M2 => r = a_b (a_ix x 6) ∧ M2 = M) (fcQ D cI cII ad) (fl_A 62 ad)) 0 0 (fl_A 62 ad) := by
  refine Met.ofW (cc := cX4_isState) (maxL := 1) (ret := (some .boolean)) (by decide) rfl ?_
  intro p e s m args below meth c s₁ B hml hv
  obtain ⟨rfl, hP, hK, hN⟩ := hv
  have hx := B.exec
  have hb := B.bytes
  have hr := B.returns
  have hts := atoms_spec (ws := wsX4_isState) B.pre
  have hown : s.vm.findClass RX4 = some m.cls := findClass_of_methodNamed B.named
  have hlocks := B.notSynchronized
  have hS : va_S (fl_A 62 ad) s.heap s.heap [] := va_S.rf
  have hl := lv_entry ([.int x] : List Value) (n := 1) (Nat.le_of_ble_eq_true rfl)
  rw [lg_entry_eq]
  generalize (lg_sl ([.int x] : List Value) ++ List.replicate (1 - (lg_sl ([.int x] : List Value)).length) Slot.unset).toArray = ls at hl ⊢
  have hl : lv_has ls 1 [(0, .int x)] := hl
  refine lv_iload_n hx hb dX4_isState_0 rfl (lv_at hl 0 rfl) ?_
  refine lv_if_lt (tgt := 14) hx hb dX4_isState_1 (by decide) (fun hc1 => ?_) (fun hc1 => ?_)
  · refine lv_iconst (v := 0) hx hb dX4_isState_14 (by decide) ?_
    exact W.zret (v := 0) (ty := .boolean) hx hb hr rfl (fun t ht hW => ⟨⟨0, M, rfl, ⟨by first | (rw [a_ix_in (n := 6) hc1 hc7 (by decide)]; rfl) | (rw [a_ix_out (n := 6) hc7 (by decide)]; rfl) | (rw [a_ix_neg hc1]; rfl), rfl⟩, fl_qi ht hP⟩, hS.F ht⟩) hS.2.2 dX4_isState_15
  · refine lv_iload_n hx hb dX4_isState_4 rfl (lv_at hl 0 rfl) ?_
    refine lv_bipush (v := 6) hx hb dX4_isState_5 (by decide) ?_
    refine lv_icmp_ge (tgt := 14) hx hb dX4_isState_7 (by decide) (fun hc7 => ?_) (fun hc7 => ?_)
    · refine lv_iconst (v := 0) hx hb dX4_isState_14 (by decide) ?_
      exact W.zret (v := 0) (ty := .boolean) hx hb hr rfl (fun t ht hW => ⟨⟨0, M, rfl, ⟨by first | (rw [a_ix_in (n := 6) hc1 hc7 (by decide)]; rfl) | (rw [a_ix_out (n := 6) hc7 (by decide)]; rfl) | (rw [a_ix_neg hc1]; rfl), rfl⟩, fl_qi ht hP⟩, hS.F ht⟩) hS.2.2 dX4_isState_15
    · refine lv_iconst (v := 1) hx hb dX4_isState_10 (by decide) ?_
      refine lv_goto (tgt := 15) hx hb dX4_isState_11 (by decide) ?_
      exact W.zret (v := 1) (ty := .boolean) hx hb hr rfl (fun t ht hW => ⟨⟨1, M, rfl, ⟨by first | (rw [a_ix_in (n := 6) hc1 hc7 (by decide)]; rfl) | (rw [a_ix_out (n := 6) hc7 (by decide)]; rfl) | (rw [a_ix_neg hc1]; rfl), rfl⟩, fl_qi ht hP⟩, hS.F ht⟩) hS.2.2 dX4_isState_15

set_option maxHeartbeats 4000000 in
set_option maxRecDepth 100000 in
theorem c_X4_isSight (l : Launch) {D : va_G} {cI cJ cII : ClassId} {ad : Nat → Nat} (hJ : fl_inj 62 ad) (M : fl_M) (x : Int32) : Met l yX4_isSight wsX4_isSight ({ frames := 0, cells := 0, slots := 0, locals := 0 } : Room) (fcPc D cI cJ cII ad M [.int x]) (va_Qi (fun r M2 => r = a_b (a_ix x 5) ∧ M2 = M) (fcQ D cI cII ad) (fl_A 62 ad)) 0 0 (fl_A 62 ad) := by
  refine Met.ofW (cc := cX4_isSight) (maxL := 1) (ret := (some .boolean)) (by decide) rfl ?_
  intro p e s m args below meth c s₁ B hml hv
  obtain ⟨rfl, hP, hK, hN⟩ := hv
  have hx := B.exec
  have hb := B.bytes
  have hr := B.returns
  have hts := atoms_spec (ws := wsX4_isSight) B.pre
  have hown : s.vm.findClass RX4 = some m.cls := findClass_of_methodNamed B.named
  have hlocks := B.notSynchronized
  have hS : va_S (fl_A 62 ad) s.heap s.heap [] := va_S.rf
  have hl := lv_entry ([.int x] : List Value) (n := 1) (Nat.le_of_ble_eq_true rfl)
  rw [lg_entry_eq]
  generalize (lg_sl ([.int x] : List Value) ++ List.replicate (1 - (lg_sl ([.int x] : List Value)).length) Slot.unset).toArray = ls at hl ⊢
  have hl : lv_has ls 1 [(0, .int x)] := hl
  refine lv_iload_n hx hb dX4_isSight_0 rfl (lv_at hl 0 rfl) ?_
  refine lv_if_lt (tgt := 13) hx hb dX4_isSight_1 (by decide) (fun hc1 => ?_) (fun hc1 => ?_)
  · refine lv_iconst (v := 0) hx hb dX4_isSight_13 (by decide) ?_
    exact W.zret (v := 0) (ty := .boolean) hx hb hr rfl (fun t ht hW => ⟨⟨0, M, rfl, ⟨by first | (rw [a_ix_in (n := 5) hc1 hc6 (by decide)]; rfl) | (rw [a_ix_out (n := 5) hc6 (by decide)]; rfl) | (rw [a_ix_neg hc1]; rfl), rfl⟩, fl_qi ht hP⟩, hS.F ht⟩) hS.2.2 dX4_isSight_14
  · refine lv_iload_n hx hb dX4_isSight_4 rfl (lv_at hl 0 rfl) ?_
    refine lv_iconst (v := 5) hx hb dX4_isSight_5 (by decide) ?_
    refine lv_icmp_ge (tgt := 13) hx hb dX4_isSight_6 (by decide) (fun hc6 => ?_) (fun hc6 => ?_)
    · refine lv_iconst (v := 0) hx hb dX4_isSight_13 (by decide) ?_
      exact W.zret (v := 0) (ty := .boolean) hx hb hr rfl (fun t ht hW => ⟨⟨0, M, rfl, ⟨by first | (rw [a_ix_in (n := 5) hc1 hc6 (by decide)]; rfl) | (rw [a_ix_out (n := 5) hc6 (by decide)]; rfl) | (rw [a_ix_neg hc1]; rfl), rfl⟩, fl_qi ht hP⟩, hS.F ht⟩) hS.2.2 dX4_isSight_14
    · refine lv_iconst (v := 1) hx hb dX4_isSight_9 (by decide) ?_
      refine lv_goto (tgt := 14) hx hb dX4_isSight_10 (by decide) ?_
      exact W.zret (v := 1) (ty := .boolean) hx hb hr rfl (fun t ht hW => ⟨⟨1, M, rfl, ⟨by first | (rw [a_ix_in (n := 5) hc1 hc6 (by decide)]; rfl) | (rw [a_ix_out (n := 5) hc6 (by decide)]; rfl) | (rw [a_ix_neg hc1]; rfl), rfl⟩, fl_qi ht hP⟩, hS.F ht⟩) hS.2.2 dX4_isSight_14

set_option maxHeartbeats 4000000 in
set_option maxRecDepth 100000 in
theorem c_X4_isName (l : Launch) {D : va_G} {cI cJ cII : ClassId} {ad : Nat → Nat} (hJ : fl_inj 62 ad) (M : fl_M) (x : Int32) : Met l yX4_isName wsX4_isName ({ frames := 0, cells := 0, slots := 0, locals := 0 } : Room) (fcPc D cI cJ cII ad M [.int x]) (va_Qi (fun r M2 => r = a_b (a_ix x 4) ∧ M2 = M) (fcQ D cI cII ad) (fl_A 62 ad)) 0 0 (fl_A 62 ad) := by
  refine Met.ofW (cc := cX4_isName) (maxL := 1) (ret := (some .boolean)) (by decide) rfl ?_
  intro p e s m args below meth c s₁ B hml hv
  obtain ⟨rfl, hP, hK, hN⟩ := hv
  have hx := B.exec
  have hb := B.bytes
  have hr := B.returns
  have hts := atoms_spec (ws := wsX4_isName) B.pre
  have hown : s.vm.findClass RX4 = some m.cls := findClass_of_methodNamed B.named
  have hlocks := B.notSynchronized
  have hS : va_S (fl_A 62 ad) s.heap s.heap [] := va_S.rf
  have hl := lv_entry ([.int x] : List Value) (n := 1) (Nat.le_of_ble_eq_true rfl)
  rw [lg_entry_eq]
  generalize (lg_sl ([.int x] : List Value) ++ List.replicate (1 - (lg_sl ([.int x] : List Value)).length) Slot.unset).toArray = ls at hl ⊢
  have hl : lv_has ls 1 [(0, .int x)] := hl
  refine lv_iload_n hx hb dX4_isName_0 rfl (lv_at hl 0 rfl) ?_
  refine lv_if_lt (tgt := 13) hx hb dX4_isName_1 (by decide) (fun hc1 => ?_) (fun hc1 => ?_)
  · refine lv_iconst (v := 0) hx hb dX4_isName_13 (by decide) ?_
    exact W.zret (v := 0) (ty := .boolean) hx hb hr rfl (fun t ht hW => ⟨⟨0, M, rfl, ⟨by first | (rw [a_ix_in (n := 4) hc1 hc6 (by decide)]; rfl) | (rw [a_ix_out (n := 4) hc6 (by decide)]; rfl) | (rw [a_ix_neg hc1]; rfl), rfl⟩, fl_qi ht hP⟩, hS.F ht⟩) hS.2.2 dX4_isName_14
  · refine lv_iload_n hx hb dX4_isName_4 rfl (lv_at hl 0 rfl) ?_
    refine lv_iconst (v := 4) hx hb dX4_isName_5 (by decide) ?_
    refine lv_icmp_ge (tgt := 13) hx hb dX4_isName_6 (by decide) (fun hc6 => ?_) (fun hc6 => ?_)
    · refine lv_iconst (v := 0) hx hb dX4_isName_13 (by decide) ?_
      exact W.zret (v := 0) (ty := .boolean) hx hb hr rfl (fun t ht hW => ⟨⟨0, M, rfl, ⟨by first | (rw [a_ix_in (n := 4) hc1 hc6 (by decide)]; rfl) | (rw [a_ix_out (n := 4) hc6 (by decide)]; rfl) | (rw [a_ix_neg hc1]; rfl), rfl⟩, fl_qi ht hP⟩, hS.F ht⟩) hS.2.2 dX4_isName_14
    · refine lv_iconst (v := 1) hx hb dX4_isName_9 (by decide) ?_
      refine lv_goto (tgt := 14) hx hb dX4_isName_10 (by decide) ?_
      exact W.zret (v := 1) (ty := .boolean) hx hb hr rfl (fun t ht hW => ⟨⟨1, M, rfl, ⟨by first | (rw [a_ix_in (n := 4) hc1 hc6 (by decide)]; rfl) | (rw [a_ix_out (n := 4) hc6 (by decide)]; rfl) | (rw [a_ix_neg hc1]; rfl), rfl⟩, fl_qi ht hP⟩, hS.F ht⟩) hS.2.2 dX4_isName_14

set_option maxHeartbeats 4000000 in
set_option maxRecDepth 100000 in
theorem c_X4_isWay (l : Launch) {D : va_G} {cI cJ cII : ClassId} {ad : Nat → Nat} (hJ : fl_inj 62 ad) (M : fl_M) (x : Int32) : Met l yX4_isWay wsX4_isWay ({ frames := 0, cells := 0, slots := 0, locals := 0 } : Room) (fcPc D cI cJ cII ad M [.int x]) (va_Qi (fun r M2 => r = a_b (a_ix x 4) ∧ M2 = M) (fcQ D cI cII ad) (fl_A 62 ad)) 0 0 (fl_A 62 ad) := by
  refine Met.ofW (cc := cX4_isWay) (maxL := 1) (ret := (some .boolean)) (by decide) rfl ?_
  intro p e s m args below meth c s₁ B hml hv
  obtain ⟨rfl, hP, hK, hN⟩ := hv
  have hx := B.exec
  have hb := B.bytes
  have hr := B.returns
  have hts := atoms_spec (ws := wsX4_isWay) B.pre
  have hown : s.vm.findClass RX4 = some m.cls := findClass_of_methodNamed B.named
  have hlocks := B.notSynchronized
  have hS : va_S (fl_A 62 ad) s.heap s.heap [] := va_S.rf
  have hl := lv_entry ([.int x] : List Value) (n := 1) (Nat.le_of_ble_eq_true rfl)
  rw [lg_entry_eq]
  generalize (lg_sl ([.int x] : List Value) ++ List.replicate (1 - (lg_sl ([.int x] : List Value)).length) Slot.unset).toArray = ls at hl ⊢
  have hl : lv_has ls 1 [(0, .int x)] := hl
  refine lv_iload_n hx hb dX4_isWay_0 rfl (lv_at hl 0 rfl) ?_
  refine lv_if_lt (tgt := 13) hx hb dX4_isWay_1 (by decide) (fun hc1 => ?_) (fun hc1 => ?_)
  · refine lv_iconst (v := 0) hx hb dX4_isWay_13 (by decide) ?_
    exact W.zret (v := 0) (ty := .boolean) hx hb hr rfl (fun t ht hW => ⟨⟨0, M, rfl, ⟨by first | (rw [a_ix_in (n := 4) hc1 hc6 (by decide)]; rfl) | (rw [a_ix_out (n := 4) hc6 (by decide)]; rfl) | (rw [a_ix_neg hc1]; rfl), rfl⟩, fl_qi ht hP⟩, hS.F ht⟩) hS.2.2 dX4_isWay_14
  · refine lv_iload_n hx hb dX4_isWay_4 rfl (lv_at hl 0 rfl) ?_
    refine lv_iconst (v := 4) hx hb dX4_isWay_5 (by decide) ?_
    refine lv_icmp_ge (tgt := 13) hx hb dX4_isWay_6 (by decide) (fun hc6 => ?_) (fun hc6 => ?_)
    · refine lv_iconst (v := 0) hx hb dX4_isWay_13 (by decide) ?_
      exact W.zret (v := 0) (ty := .boolean) hx hb hr rfl (fun t ht hW => ⟨⟨0, M, rfl, ⟨by first | (rw [a_ix_in (n := 4) hc1 hc6 (by decide)]; rfl) | (rw [a_ix_out (n := 4) hc6 (by decide)]; rfl) | (rw [a_ix_neg hc1]; rfl), rfl⟩, fl_qi ht hP⟩, hS.F ht⟩) hS.2.2 dX4_isWay_14
    · refine lv_iconst (v := 1) hx hb dX4_isWay_9 (by decide) ?_
      refine lv_goto (tgt := 14) hx hb dX4_isWay_10 (by decide) ?_
      exact W.zret (v := 1) (ty := .boolean) hx hb hr rfl (fun t ht hW => ⟨⟨1, M, rfl, ⟨by first | (rw [a_ix_in (n := 4) hc1 hc6 (by decide)]; rfl) | (rw [a_ix_out (n := 4) hc6 (by decide)]; rfl) | (rw [a_ix_neg hc1]; rfl), rfl⟩, fl_qi ht hP⟩, hS.F ht⟩) hS.2.2 dX4_isWay_14

theorem fl_le9_of_lt {x : Int32} (h : 9 < x) : nI 10 ≤ x := by
  have h2 : (9 : Int32).toInt < x.toInt := Int32.lt_iff_toInt_lt.mp h
  exact Int32.le_iff_toInt_le.mpr (by have : (nI 10).toInt = 10 := by decide
                                      have : (9 : Int32).toInt = 9 := by decide
                                      omega)
theorem fl_lt_of_le9 {x : Int32} (h : nI 10 ≤ x) : 9 < x := by
  have h2 : (nI 10).toInt ≤ x.toInt := Int32.le_iff_toInt_le.mp h
  exact Int32.lt_iff_toInt_lt.mpr (by have : (nI 10).toInt = 10 := by decide
                                      have : (9 : Int32).toInt = 9 := by decide
                                      omega)

set_option maxHeartbeats 4000000 in
set_option maxRecDepth 100000 in
theorem c_X4_isEntry (l : Launch) {D : va_G} {cI cJ cII : ClassId} {ad : Nat → Nat} (hJ : fl_inj 62 ad) (M : fl_M) (x : Int32) : Met l yX4_isEntry wsX4_isEntry ({ frames := 0, cells := 0, slots := 0, locals := 0 } : Room) (fcPc D cI cJ cII ad M [.int x]) (va_Qi (fun r M2 => r = a_b (a_ix x 10) ∧ M2 = M) (fcQ D cI cII ad) (fl_A 62 ad)) 0 0 (fl_A 62 ad) := by
  refine Met.ofW (cc := cX4_isEntry) (maxL := 1) (ret := (some .boolean)) (by decide) rfl ?_
  intro p e s m args below meth c s₁ B hml hv
  obtain ⟨rfl, hP, hK, hN⟩ := hv
  have hx := B.exec
  have hb := B.bytes
  have hr := B.returns
  have hts := atoms_spec (ws := wsX4_isEntry) B.pre
  have hown : s.vm.findClass RX4 = some m.cls := findClass_of_methodNamed B.named
  have hlocks := B.notSynchronized
  have hS : va_S (fl_A 62 ad) s.heap s.heap [] := va_S.rf
  have hl := lv_entry ([.int x] : List Value) (n := 1) (Nat.le_of_ble_eq_true rfl)
  rw [lg_entry_eq]
  generalize (lg_sl ([.int x] : List Value) ++ List.replicate (1 - (lg_sl ([.int x] : List Value)).length) Slot.unset).toArray = ls at hl ⊢
  have hl : lv_has ls 1 [(0, .int x)] := hl
  refine lv_iload_n hx hb dX4_isEntry_0 rfl (lv_at hl 0 rfl) ?_
  refine lv_if_lt (tgt := 14) hx hb dX4_isEntry_1 (by decide) (fun hc1 => ?_) (fun hc1 => ?_)
  · refine lv_iconst (v := 0) hx hb dX4_isEntry_14 (by decide) ?_
    exact W.zret (v := 0) (ty := .boolean) hx hb hr rfl (fun t ht hW => ⟨⟨0, M, rfl, ⟨by first | (rw [a_ix_in (n := 10) hc1 (fun q => hc7 (fl_lt_of_le9 q)) (by decide)]; rfl) | (rw [a_ix_out (n := 10) (fl_le9_of_lt hc7) (by decide)]; rfl) | (rw [a_ix_neg hc1]; rfl), rfl⟩, fl_qi ht hP⟩, hS.F ht⟩) hS.2.2 dX4_isEntry_15
  · refine lv_iload_n hx hb dX4_isEntry_4 rfl (lv_at hl 0 rfl) ?_
    refine lv_bipush (v := 9) hx hb dX4_isEntry_5 (by decide) ?_
    refine lv_icmp_gt (tgt := 14) hx hb dX4_isEntry_7 (by decide) (fun hc7 => ?_) (fun hc7 => ?_)
    · refine lv_iconst (v := 0) hx hb dX4_isEntry_14 (by decide) ?_
      exact W.zret (v := 0) (ty := .boolean) hx hb hr rfl (fun t ht hW => ⟨⟨0, M, rfl, ⟨by first | (rw [a_ix_in (n := 10) hc1 (fun q => hc7 (fl_lt_of_le9 q)) (by decide)]; rfl) | (rw [a_ix_out (n := 10) (fl_le9_of_lt hc7) (by decide)]; rfl) | (rw [a_ix_neg hc1]; rfl), rfl⟩, fl_qi ht hP⟩, hS.F ht⟩) hS.2.2 dX4_isEntry_15
    · refine lv_iconst (v := 1) hx hb dX4_isEntry_10 (by decide) ?_
      refine lv_goto (tgt := 15) hx hb dX4_isEntry_11 (by decide) ?_
      exact W.zret (v := 1) (ty := .boolean) hx hb hr rfl (fun t ht hW => ⟨⟨1, M, rfl, ⟨by first | (rw [a_ix_in (n := 10) hc1 (fun q => hc7 (fl_lt_of_le9 q)) (by decide)]; rfl) | (rw [a_ix_out (n := 10) (fl_le9_of_lt hc7) (by decide)]; rfl) | (rw [a_ix_neg hc1]; rfl), rfl⟩, fl_qi ht hP⟩, hS.F ht⟩) hS.2.2 dX4_isEntry_15

set_option maxHeartbeats 4000000 in
set_option maxRecDepth 100000 in
theorem c_X4_exchange (l : Launch) {D : va_G} {cI cJ cII : ClassId} {ad : Nat → Nat} (hJ : fl_inj 62 ad) (M : fl_M) (c0 n k : Nat) (v : Int32) (hc : fc_len c0 = n) (hn : 0 < n) (hk : k < n) : Met l yX4_exchange wsX4_exchange ({ frames := 0, cells := 0, slots := 0, locals := 0 } : Room) (fcPc D cI cJ cII ad M [.ref (ad c0), .int (nI k), .int v]) (va_Qi (fun r M2 => r = M.1 c0 k ∧ M2 = fl_sI M c0 k v) (fcQ D cI cII ad) (fl_A 62 ad)) 0 0 (fl_A 62 ad) := by
  refine Met.ofW (cc := cX4_exchange) (maxL := 4) (ret := (some .int)) (by decide) rfl ?_
  intro p e s m args below meth c s₁ B hml hv
  obtain ⟨rfl, hP, hK, hN⟩ := hv
  have hx := B.exec
  have hb := B.bytes
  have hr := B.returns
  have hts := atoms_spec (ws := wsX4_exchange) B.pre
  have hown : s.vm.findClass RX4 = some m.cls := findClass_of_methodNamed B.named
  have hlocks := B.notSynchronized
  have hS : va_S (fl_A 62 ad) s.heap s.heap [] := va_S.rf
  have hl := lv_entry ([.ref (ad c0), .int (nI k), .int v] : List Value) (n := 4) (Nat.le_of_ble_eq_true rfl)
  rw [lg_entry_eq]
  generalize (lg_sl ([.ref (ad c0), .int (nI k), .int v] : List Value) ++ List.replicate (4 - (lg_sl ([.ref (ad c0), .int (nI k), .int v] : List Value)).length) Slot.unset).toArray = ls at hl ⊢
  have hl : lv_has ls 4 [(0, .ref (ad c0)), (1, .int (nI k)), (2, .int v)] := hl
  have hn3 : n ≤ 64 := hc ▸ fc_len_le c0
  refine lv_aload_n hx hb dX4_exchange_0 rfl (lv_at hl 0 rfl) ?_
  refine lv_iload_n hx hb dX4_exchange_1 rfl (lv_at hl 1 rfl) ?_
  refine fl_ild (k := k) hx hb hK hP (fc_a cI cII ad _ hc hn) rfl rfl (by omega) (by omega) dX4_exchange_2 ?_
  refine lv_istore_n (lv' := [(3, .int (M.1 c0 k)), (0, .ref (ad c0)), (1, .int (nI k)), (2, .int v)]) hx hb dX4_exchange_3 rfl hl (by decide) rfl (fun ls hl => ?_)
  refine lv_aload_n hx hb dX4_exchange_4 rfl (lv_at hl 1 rfl) ?_
  refine lv_iload_n hx hb dX4_exchange_5 rfl (lv_at hl 2 rfl) ?_
  refine lv_iload_n hx hb dX4_exchange_6 rfl (lv_at hl 3 rfl) ?_
  refine fl_ist (k := k) (x := v) hx hb hK hJ hP hS (fc_loc cI cII ad) (fc_a cI cII ad _ hc hn) (fc_arr cI cII ad _ hc hn).2 rfl rfl (by omega) (by omega) dX4_exchange_7 (fun H locs hP hS => ?_)
  refine lv_iload_n hx hb dX4_exchange_8 rfl (lv_at hl 0 rfl) ?_
  exact W.iret (v := M.1 c0 k) hx hb hr (fun t ht hW => ⟨⟨M.1 c0 k, (fl_sI M c0 k v), rfl, ⟨rfl, rfl⟩, fl_qi ht hP⟩, hS.F ht⟩) hS.2.2 dX4_exchange_9

set_option maxHeartbeats 4000000 in
set_option maxRecDepth 100000 in
/-- sumOf: the sum of the first k of a row -/
theorem c_X4_sumOf (l : Launch) {D : va_G} {cI cJ cII : ClassId} {ad : Nat → Nat} (hJ : fl_inj 62 ad) (M : fl_M) (c0 n k : Nat) (hc : fc_len c0 = n) (hn : 0 < n) (hk : k ≤ n) : Met l yX4_sumOf wsX4_sumOf ({ frames := 0, cells := 0, slots := 0, locals := 0 } : Room) (fcPc D cI cJ cII ad M [.ref (ad c0), .int (nI k)]) (va_Ql (fun r M2 => r = fl_sum (M.1 c0) k ∧ M2 = M) (fcQ D cI cII ad) (fl_A 62 ad)) 0 0 (fl_A 62 ad) := by
  refine Met.ofW (cc := cX4_sumOf) (maxL := 5) (ret := (some .long)) (by decide) rfl ?_
  intro p e s m args below meth c s₁ B hml hv
  obtain ⟨rfl, hP, hK, hN⟩ := hv
  have hx := B.exec
  have hb := B.bytes
  have hr := B.returns
  have hts := atoms_spec (ws := wsX4_sumOf) B.pre
  have hown : s.vm.findClass RX4 = some m.cls := findClass_of_methodNamed B.named
  have hlocks := B.notSynchronized
  have hS : va_S (fl_A 62 ad) s.heap s.heap [] := va_S.rf
  have hl := lv_entry ([.ref (ad c0), .int (nI k)] : List Value) (n := 5) (Nat.le_of_ble_eq_true rfl)
  rw [lg_entry_eq]
  generalize (lg_sl ([.ref (ad c0), .int (nI k)] : List Value) ++ List.replicate (5 - (lg_sl ([.ref (ad c0), .int (nI k)] : List Value)).length) Slot.unset).toArray = ls at hl ⊢
  have hl : lv_has ls 5 [(0, .ref (ad c0)), (1, .int (nI k))] := hl
  have hn3 : n ≤ 64 := hc ▸ fc_len_le c0
  refine lv_lconst (v := 0) hx hb dX4_sumOf_0 (by decide) ?_
  refine lv_lstore_n (lv' := [(2, .long 0), (0, .ref (ad c0)), (1, .int (nI k))]) hx hb dX4_sumOf_1 rfl hl (by decide) rfl (fun ls hl => ?_)
  refine lv_iconst (v := 0) hx hb dX4_sumOf_2 (by decide) ?_
  refine lv_istore (lv' := [(4, .int 0), (2, .long 0), (0, .ref (ad c0)), (1, .int (nI k))]) hx hb dX4_sumOf_3 hl (by decide) rfl (fun ls hl => ?_)
  suffices KL5 : ∀ (f : Nat) (i : Nat) (hi : i ≤ k) (hf : k + 1 ≤ i + f), ∀ (H : Heap) (locs : List Loc), va_P D vwCl (fcP cI cII ad M) H → va_S (fl_A 62 ad) s.heap H locs → ∀ (ls : Array Slot), lv_has ls 5 [(0, .ref (ad c0)), (1, .int (nI k)), (2, .long (fl_sum (M.1 c0) i)), (4, .int (nI i))] → W p l e (headSpec wsX4_sumOf ({ frames := 0, cells := 0, slots := 0, locals := 0 } : Room)).room s m ([.ref (ad c0), .int (nI k)] : List Value).toArray below meth c H locs 0 0 (MQ below (va_Ql (fun r M2 => r = fl_sum (M.1 c0) k ∧ M2 = M) (fcQ D cI cII ad) (fl_A 62 ad)) ([.ref (ad c0), .int (nI k)] : List Value).toArray s 0 0 (fl_A 62 ad)) (F0 m 5 ls []) from KL5 (k + 1) 0 (Nat.zero_le k) (by omega) _ _ hP hS ls (lv_sub hl [2, 3, 1, 0] rfl)
  intro f
  induction f with
  | zero =>
    intro i hi hf
    omega
  | succ f ih5 =>
    intro i hi hf H locs hP hS ls hl
    refine lv_iload hx hb dX4_sumOf_5 (lv_at hl 3 rfl) ?_
    refine lv_iload_n hx hb dX4_sumOf_7 rfl (lv_at hl 1 rfl) ?_
    refine lv_icmp_ge (tgt := 25) hx hb dX4_sumOf_8 (by decide) (fun hc8 => ?_) (fun hc8 => ?_)
    · have e8 : i = k := Nat.le_antisymm hi ((nI_leI (by omega) (by omega)).mp hc8)
      refine lv_lload_n hx hb dX4_sumOf_25 rfl (lv_at hl 2 rfl) ?_
      exact W.lret (v := fl_sum (M.1 c0) i) hx hb hr (fun t ht hW => ⟨⟨fl_sum (M.1 c0) i, M, rfl, ⟨by rw [e8], rfl⟩, fl_qi ht hP⟩, hS.F ht⟩) hS.2.2 dX4_sumOf_26
    · have l8 : i < k := Nat.lt_of_not_le (fun q => hc8 ((nI_leI (by omega) (by omega)).mpr q))
      refine lv_lload_n hx hb dX4_sumOf_11 rfl (lv_at hl 2 rfl) ?_
      refine lv_aload_n hx hb dX4_sumOf_12 rfl (lv_at hl 0 rfl) ?_
      refine lv_iload hx hb dX4_sumOf_13 (lv_at hl 3 rfl) ?_
      refine fl_ild (k := i) hx hb hK hP (fc_a cI cII ad _ hc hn) rfl rfl (by omega) (by omega) dX4_sumOf_15 ?_
      refine lv_i2l (v := (M.1 c0 i).toInt64) hx hb dX4_sumOf_16 rfl ?_
      refine lv_ladd hx hb dX4_sumOf_17 ?_
      refine lv_lstore_n (lv' := [(2, .long ((fl_sum (M.1 c0) i) + ((M.1 c0 i).toInt64))), (0, .ref (ad c0)), (1, .int (nI k)), (4, .int (nI i))]) hx hb dX4_sumOf_18 rfl hl (by decide) rfl (fun ls hl => ?_)
      refine lv_iinc (v := nI (i + 1)) (lv' := [(4, .int (nI (i + 1))), (2, .long ((fl_sum (M.1 c0) i) + ((M.1 c0 i).toInt64))), (0, .ref (ad c0)), (1, .int (nI k))]) hx hb dX4_sumOf_19 hl (k := 3) rfl (fl_inc i) (by decide) rfl (fun ls hl => ?_)
      refine lv_goto (tgt := 5) hx hb dX4_sumOf_22 (by decide) ?_
      exact ih5 (i + 1) (by omega) (by omega) _ _ hP hS ls (lv_sub hl [2, 3, 1, 0] rfl)

set_option maxHeartbeats 4000000 in
set_option maxRecDepth 100000 in
/-- firstAbove: the first place at which t times the sum is above b, or LOST -/
theorem c_X4_firstAbove (l : Launch) {D : va_G} {cI cJ cII : ClassId} {ad : Nat → Nat} (hJ : fl_inj 62 ad) (M : fl_M) (c0 n k b t : Nat) (w : Nat → Nat) (hc : fc_len c0 = n) (hn : 0 < n) (hk : k ≤ n) (hw : ∀ j, j < k → M.1 c0 j = nI (w j) ∧ w j < 2 ^ 31) (hb0 : b < 2 ^ 63) (hT : t * a_sum w k < 2 ^ 63) : Met l yX4_firstAbove wsX4_firstAbove ({ frames := 0, cells := 0, slots := 0, locals := 0 } : Room) (fcPc D cI cJ cII ad M [.long (lN b), .long (lN t), .ref (ad c0), .int (nI k)]) (va_Qi (fun r M2 => r = (if b < t * a_sum w k then nI (a_first w t b k) else -1000004) ∧ M2 = M) (fcQ D cI cII ad) (fl_A 62 ad)) 0 0 (fl_A 62 ad) := by
  refine Met.ofW (cc := cX4_firstAbove) (maxL := 9) (ret := (some .int)) (by decide) rfl ?_
  intro p e s m args below meth c s₁ B hml hv
  obtain ⟨rfl, hP, hK, hN⟩ := hv
  have hx := B.exec
  have hb := B.bytes
  have hr := B.returns
  have hts := atoms_spec (ws := wsX4_firstAbove) B.pre
  have hown : s.vm.findClass RX4 = some m.cls := findClass_of_methodNamed B.named
  have hlocks := B.notSynchronized
  have hS : va_S (fl_A 62 ad) s.heap s.heap [] := va_S.rf
  have hl := lv_entry ([.long (lN b), .long (lN t), .ref (ad c0), .int (nI k)] : List Value) (n := 9) (Nat.le_of_ble_eq_true rfl)
  rw [lg_entry_eq]
  generalize (lg_sl ([.long (lN b), .long (lN t), .ref (ad c0), .int (nI k)] : List Value) ++ List.replicate (9 - (lg_sl ([.long (lN b), .long (lN t), .ref (ad c0), .int (nI k)] : List Value)).length) Slot.unset).toArray = ls at hl ⊢
  have hl : lv_has ls 9 [(0, .long (lN b)), (2, .long (lN t)), (4, .ref (ad c0)), (5, .int (nI k))] := hl
  have hn3 : n ≤ 64 := hc ▸ fc_len_le c0
  refine lv_lconst (v := 0) hx hb dX4_firstAbove_0 (by decide) ?_
  refine lv_lstore (lv' := [(6, .long 0), (0, .long (lN b)), (2, .long (lN t)), (4, .ref (ad c0)), (5, .int (nI k))]) hx hb dX4_firstAbove_1 hl (by decide) rfl (fun ls hl => ?_)
  refine lv_iconst (v := 0) hx hb dX4_firstAbove_3 (by decide) ?_
  refine lv_istore (lv' := [(8, .int 0), (6, .long 0), (0, .long (lN b)), (2, .long (lN t)), (4, .ref (ad c0)), (5, .int (nI k))]) hx hb dX4_firstAbove_4 hl (by decide) rfl (fun ls hl => ?_)
  suffices KL6 : ∀ (f : Nat) (i : Nat) (hi : i ≤ k) (hz : ¬ b < t * a_sum w i) (hf : k + 1 ≤ i + f), ∀ (H : Heap) (locs : List Loc), va_P D vwCl (fcP cI cII ad M) H → va_S (fl_A 62 ad) s.heap H locs → ∀ (ls : Array Slot), lv_has ls 9 [(0, .long (lN b)), (2, .long (lN t)), (4, .ref (ad c0)), (5, .int (nI k)), (6, .long (lN (t * a_sum w i))), (8, .int (nI i))] → W p l e (headSpec wsX4_firstAbove ({ frames := 0, cells := 0, slots := 0, locals := 0 } : Room)).room s m ([.long (lN b), .long (lN t), .ref (ad c0), .int (nI k)] : List Value).toArray below meth c H locs 0 0 (MQ below (va_Qi (fun r M2 => r = (if b < t * a_sum w k then nI (a_first w t b k) else -1000004) ∧ M2 = M) (fcQ D cI cII ad) (fl_A 62 ad)) ([.long (lN b), .long (lN t), .ref (ad c0), .int (nI k)] : List Value).toArray s 0 0 (fl_A 62 ad)) (F0 m 6 ls []) from KL6 (k + 1) 0 (Nat.zero_le k) (by simp [a_sum]) (by omega) _ _ hP hS ls (lv_sub hl [2, 3, 4, 5, 1, 0] rfl)
  intro f
  induction f with
  | zero =>
    intro i hi hz hf
    omega
  | succ f ih6 =>
    intro i hi hz hf H locs hP hS ls hl
    refine lv_iload hx hb dX4_firstAbove_6 (lv_at hl 5 rfl) ?_
    refine lv_iload hx hb dX4_firstAbove_8 (lv_at hl 3 rfl) ?_
    refine lv_icmp_ge (tgt := 42) hx hb dX4_firstAbove_10 (by decide) (fun hc10 => ?_) (fun hc10 => ?_)
    · have e10 : i = k := Nat.le_antisymm hi ((nI_leI (by omega) (by omega)).mp hc10)
      refine lv_ldc (v := -1000004) hx hb hown (hts (.constant RX4 172 (-1000004)) (by decide +kernel)) dX4_firstAbove_42 ?_
      exact W.iret (v := (-1000004)) hx hb hr (fun t ht hW => ⟨⟨(-1000004), M, rfl, ⟨by rw [if_neg (e10 ▸ hz)], rfl⟩, fl_qi ht hP⟩, hS.F ht⟩) hS.2.2 dX4_firstAbove_44
    · have l10 : i < k := Nat.lt_of_not_le (fun q => hc10 ((nI_leI (by omega) (by omega)).mpr q))
      refine lv_lload hx hb dX4_firstAbove_13 (lv_at hl 4 rfl) ?_
      refine lv_lload_n hx hb dX4_firstAbove_15 rfl (lv_at hl 1 rfl) ?_
      refine lv_aload hx hb dX4_firstAbove_16 (lv_at hl 2 rfl) ?_
      refine lv_iload hx hb dX4_firstAbove_18 (lv_at hl 5 rfl) ?_
      refine fl_ild (k := i) hx hb hK hP (fc_a cI cII ad _ hc hn) rfl rfl (by omega) (by omega) dX4_firstAbove_20 ?_
      refine lv_i2l (v := (M.1 c0 i).toInt64) hx hb dX4_firstAbove_21 rfl ?_
      refine lv_lmul hx hb dX4_firstAbove_22 ?_
      refine lv_ladd hx hb dX4_firstAbove_23 ?_
      refine fl_tl (y := lN (t * a_sum w (i + 1))) (fl_fa (hw i l10).1 (hw i l10).2) ?_
      refine lv_lstore (lv' := [(6, .long (lN (t * a_sum w (i + 1)))), (0, .long (lN b)), (2, .long (lN t)), (4, .ref (ad c0)), (5, .int (nI k)), (8, .int (nI i))]) hx hb dX4_firstAbove_24 hl (by decide) rfl (fun ls hl => ?_)
      have hm : t * a_sum w (i + 1) ≤ t * a_sum w k := Nat.mul_le_mul_left t (a_sum_mono w (by omega))
      refine lv_lload hx hb dX4_firstAbove_26 (lv_at hl 0 rfl) ?_
      refine lv_lload_n hx hb dX4_firstAbove_28 rfl (lv_at hl 1 rfl) ?_
      refine fl_lle (tgt := 36) hx hb dX4_firstAbove_29 dX4_firstAbove_30 (by decide) (fun hc29 => ?_) (fun hc29 => ?_)
      · have g29 : ¬ b < t * a_sum w (i + 1) := Nat.not_lt.mpr ((pk_lLE (by omega) hb0).mp hc29)
        refine lv_iinc (v := nI (i + 1)) (lv' := [(8, .int (nI (i + 1))), (6, .long (lN (t * a_sum w (i + 1)))), (0, .long (lN b)), (2, .long (lN t)), (4, .ref (ad c0)), (5, .int (nI k))]) hx hb dX4_firstAbove_36 hl (k := 5) rfl (fl_inc i) (by decide) rfl (fun ls hl => ?_)
        refine lv_goto (tgt := 6) hx hb dX4_firstAbove_39 (by decide) ?_
        exact ih6 (i + 1) (by omega) g29 (by omega) _ _ hP hS ls (lv_sub hl [2, 3, 4, 5, 1, 0] rfl)
      · have g29 : b < t * a_sum w (i + 1) := Nat.lt_of_not_le (fun q => hc29 ((pk_lLE (by omega) hb0).mpr q))
        refine lv_iload hx hb dX4_firstAbove_33 (lv_at hl 5 rfl) ?_
        exact W.iret (v := nI i) hx hb hr (fun t ht hW => ⟨⟨nI i, M, rfl, ⟨by rw [if_pos (Nat.lt_of_lt_of_le g29 hm), a_first_eq hz g29 k (by omega)], rfl⟩, fl_qi ht hP⟩, hS.F ht⟩) hS.2.2 dX4_firstAbove_35

/-- a row after its first i places have become v -/
def fl_fill (f : Nat → Int32) (v : Int32) (i : Nat) : Nat → Int32 := fun j => if j < i then v else f j
def fl_fM (M : fl_M) (c : Nat) (v : Int32) (i : Nat) : fl_M := (fun a => if a = c then fl_fill (M.1 a) v i else M.1 a, M.2)
theorem fl_fM_0 (M : fl_M) (c : Nat) (v : Int32) : fl_fM M c v 0 = M := by
  refine Prod.ext (funext fun a => ?_) rfl
  show (if a = c then fl_fill (M.1 a) v 0 else M.1 a) = M.1 a
  split
  · exact funext fun j => if_neg (Nat.not_lt_zero j)
  · rfl
theorem fl_fM_s (M : fl_M) (c : Nat) (v : Int32) (i : Nat) : fl_sI (fl_fM M c v i) c i v = fl_fM M c v (i + 1) := by
  refine Prod.ext (funext fun a => ?_) rfl
  show (if a = c then upd (if a = c then fl_fill (M.1 a) v i else M.1 a) i v else (if a = c then fl_fill (M.1 a) v i else M.1 a)) = (if a = c then fl_fill (M.1 a) v (i + 1) else M.1 a)
  by_cases h : a = c
  · simp only [h, if_true]
    funext j
    show (if j = i then v else if j < i then v else M.1 c j) = (if j < i + 1 then v else M.1 c j)
    by_cases h1 : j = i
    · rw [if_pos h1, if_pos (by omega)]
    · rw [if_neg h1]
      by_cases h2 : j < i
      · rw [if_pos h2, if_pos (by omega)]
      · rw [if_neg h2, if_neg (by omega)]
  · simp only [h, if_false]
theorem fl_fM_same (M : fl_M) (c : Nat) (v : Int32) (i : Nat) {j : Nat} (h : j < i) : (fl_fM M c v i).1 c j = v := by
  show (if c = c then fl_fill (M.1 c) v i else M.1 c) j = v
  rw [if_pos rfl]
  exact if_pos h
theorem fl_fM_eq {P : Nat → Prop} {M M2 : fl_M} (h : fl_eq P M M2) {c : Nat} (hc : ¬ P c) (v : Int32) (i : Nat) : fl_eq P M (fl_fM M2 c v i) := fun a ha => by
  have : a ≠ c := fun q => hc (q ▸ ha)
  exact ⟨(show (if a = c then fl_fill (M2.1 a) v i else M2.1 a) = _ by rw [if_neg this]; exact (h a ha).1), (h a ha).2.1, (h a ha).2.2.1, (h a ha).2.2.2⟩

set_option maxHeartbeats 4000000 in
set_option maxRecDepth 100000 in
/-- Arrays.fill -/
theorem c_J7_fill_53178 (l : Launch) {D : va_G} {cI cJ cII : ClassId} {ad : Nat → Nat} (hJ : fl_inj 62 ad) (M : fl_M) (c0 n : Nat) (v : Int32) (hc : fc_len c0 = n) (hn : 0 < n) : Met l yJ7_fill_53178 wsJ7_fill_53178 ({ frames := 0, cells := 0, slots := 0, locals := 0 } : Room) (fcPc D cI cJ cII ad M [.ref (ad c0), .int v]) (va_Qv (fun M2 => M2 = fl_fM M c0 v n) (fcQ D cI cII ad) (fl_A 62 ad)) 0 0 (fl_A 62 ad) := by
  refine Met.ofW (cc := cJ7_fill_53178) (maxL := 4) (ret := none) (by decide) rfl ?_
  intro p e s m args below meth c s₁ B hml hv
  obtain ⟨rfl, hP, hK, hN⟩ := hv
  have hx := B.exec
  have hb := B.bytes
  have hr := B.returns
  have hts := atoms_spec (ws := wsJ7_fill_53178) B.pre
  have hown : s.vm.findClass RJ7 = some m.cls := findClass_of_methodNamed B.named
  have hlocks := B.notSynchronized
  have hS : va_S (fl_A 62 ad) s.heap s.heap [] := va_S.rf
  have hl := lv_entry ([.ref (ad c0), .int v] : List Value) (n := 4) (Nat.le_of_ble_eq_true rfl)
  rw [lg_entry_eq]
  generalize (lg_sl ([.ref (ad c0), .int v] : List Value) ++ List.replicate (4 - (lg_sl ([.ref (ad c0), .int v] : List Value)).length) Slot.unset).toArray = ls at hl ⊢
  have hl : lv_has ls 4 [(0, .ref (ad c0)), (1, .int v)] := hl
  have hn3 : n ≤ 64 := hc ▸ fc_len_le c0
  refine lv_iconst (v := 0) hx hb dJ7_fill_53178_0 (by decide) ?_
  refine lv_istore_n (lv' := [(2, .int 0), (0, .ref (ad c0)), (1, .int v)]) hx hb dJ7_fill_53178_1 rfl hl (by decide) rfl (fun ls hl => ?_)
  refine lv_aload_n hx hb dJ7_fill_53178_2 rfl (lv_at hl 1 rfl) ?_
  refine va_alen (v := nI n) hx hb hK hP c0 0 (fc_a cI cII ad _ hc hn) rfl rfl dJ7_fill_53178_3 ?_
  refine lv_istore_n (lv' := [(3, .int (nI n)), (2, .int 0), (0, .ref (ad c0)), (1, .int v)]) hx hb dJ7_fill_53178_4 rfl hl (by decide) rfl (fun ls hl => ?_)
  suffices KL5 : ∀ (f : Nat) (i : Nat) (M3 : fl_M) (hi : i ≤ n) (hM : M3 = fl_fM M c0 v i) (hf : n + 1 ≤ i + f), ∀ (H : Heap) (locs : List Loc), va_P D vwCl (fcP cI cII ad M3) H → va_S (fl_A 62 ad) s.heap H locs → ∀ (ls : Array Slot), lv_has ls 4 [(0, .ref (ad c0)), (1, .int v), (2, .int (nI i)), (3, .int (nI n))] → W p l e (headSpec wsJ7_fill_53178 ({ frames := 0, cells := 0, slots := 0, locals := 0 } : Room)).room s m ([.ref (ad c0), .int v] : List Value).toArray below meth c H locs 0 0 (MQ below (va_Qv (fun M2 => M2 = fl_fM M c0 v n) (fcQ D cI cII ad) (fl_A 62 ad)) ([.ref (ad c0), .int v] : List Value).toArray s 0 0 (fl_A 62 ad)) (F0 m 5 ls []) from KL5 (n + 1) 0 M (Nat.zero_le n) ((fl_fM_0 M c0 v).symm) (by omega) _ _ hP hS ls (lv_sub hl [2, 3, 1, 0] rfl)
  intro f
  induction f with
  | zero =>
    intro i M3 hi hM hf
    omega
  | succ f ih5 =>
    intro i M3 hi hM hf H locs hP hS ls hl
    refine lv_iload_n hx hb dJ7_fill_53178_5 rfl (lv_at hl 2 rfl) ?_
    refine lv_iload_n hx hb dJ7_fill_53178_6 rfl (lv_at hl 3 rfl) ?_
    refine lv_icmp_ge (tgt := 20) hx hb dJ7_fill_53178_7 (by decide) (fun hc7 => ?_) (fun hc7 => ?_)
    · have e7 : i = n := Nat.le_antisymm hi ((nI_leI (by omega) (by omega)).mp hc7)
      exact W.vret hx hb hr (fun t ht hW => ⟨⟨M3, rfl, by rw [hM, e7], fl_qi ht hP⟩, hS.F ht⟩) hS.2.2 dJ7_fill_53178_20
    · have l7 : i < n := Nat.lt_of_not_le (fun q => hc7 ((nI_leI (by omega) (by omega)).mpr q))
      refine lv_aload_n hx hb dJ7_fill_53178_10 rfl (lv_at hl 0 rfl) ?_
      refine lv_iload_n hx hb dJ7_fill_53178_11 rfl (lv_at hl 2 rfl) ?_
      refine lv_iload_n hx hb dJ7_fill_53178_12 rfl (lv_at hl 1 rfl) ?_
      refine fl_ist (k := i) (x := v) hx hb hK hJ hP hS (fc_loc cI cII ad) (fc_a cI cII ad _ hc hn) (fc_arr cI cII ad _ hc hn).2 rfl rfl (by omega) (by omega) dJ7_fill_53178_13 (fun H locs hP hS => ?_)
      refine lv_iinc (v := nI (i + 1)) (lv' := [(2, .int (nI (i + 1))), (0, .ref (ad c0)), (1, .int v), (3, .int (nI n))]) hx hb dJ7_fill_53178_14 hl (k := 2) rfl (fl_inc i) (by decide) rfl (fun ls hl => ?_)
      refine lv_goto (tgt := 5) hx hb dJ7_fill_53178_17 (by decide) ?_
      exact ih5 (i + 1) (fl_sI M3 c0 i v) (by omega) (by rw [hM, fl_fM_s]) (by omega) _ _ hP hS ls (lv_sub hl [1, 2, 0, 3] rfl)

set_option maxHeartbeats 4000000 in
set_option maxRecDepth 100000 in
theorem c_X0_setAsAtFirst (l : Launch) {D : va_G} {cI cJ cII : ClassId} {ad : Nat → Nat} (hJ : fl_inj 62 ad) (M : fl_M) : Met l yX0_setAsAtFirst wsX0_setAsAtFirst ({ frames := 0, cells := 0, slots := 0, locals := 0 } : Room) (fcPc D cI cJ cII ad M [.ref (ad 6)]) (va_Qv (fun M2 => fc_D ([], 0) M2 ∧ fl_eq (fun c => c ≠ 6) M M2) (fcQ D cI cII ad) (fl_A 62 ad)) 0 0 (fl_A 62 ad) := by
  refine Met.ofW (cc := cX0_setAsAtFirst) (maxL := 1) (ret := none) (by decide) rfl ?_
  intro p e s m args below meth c s₁ B hml hv
  obtain ⟨rfl, hP, hK, hN⟩ := hv
  have hx := B.exec
  have hb := B.bytes
  have hr := B.returns
  have hts := atoms_spec (ws := wsX0_setAsAtFirst) B.pre
  have hown : s.vm.findClass RX0 = some m.cls := findClass_of_methodNamed B.named
  have hlocks := B.notSynchronized
  have inX0 : ∀ w ∈ u_ws RX0 TX0 4, w ∈ wsX0_setAsAtFirst := by decide +kernel
  have hS : va_S (fl_A 62 ad) s.heap s.heap [] := va_S.rf
  have hl := lv_entry ([.ref (ad 6)] : List Value) (n := 1) (Nat.le_of_ble_eq_true rfl)
  rw [lg_entry_eq]
  generalize (lg_sl ([.ref (ad 6)] : List Value) ++ List.replicate (1 - (lg_sl ([.ref (ad 6)] : List Value)).length) Slot.unset).toArray = ls at hl ⊢
  have hl : lv_has ls 1 [(0, .ref (ad 6))] := hl
  refine lv_aload_n hx hb dX0_setAsAtFirst_0 rfl (lv_at hl 0 rfl) ?_
  refine lv_iconst (v := 0) hx hb dX0_setAsAtFirst_1 (by decide) ?_
  refine fl_put (ci := 2) (ty := .int) (v := .int 0) (C := RX0) (T := TX0) (Nf := 4) hx hb hts inX0 tyX0 tyX0_ok nmX0 hown hK hJ hP hS 6 (by decide) (fl_sI M 6 1 0) rfl rfl 1 (by decide) (hts (.fieldLink RX0 15 "ResampledRows$Draws" "first" "I") (by decide +kernel)) (fun _ h9 => h9) rfl (by decide +kernel) rfl rfl (Nat.le_of_ble_eq_true rfl) rfl (fl_sI_o (fc_loc cI cII ad) _ _ _ _) dX0_setAsAtFirst_2 (fun H locs hP hS => ?_)
  refine lv_aload_n hx hb dX0_setAsAtFirst_5 rfl (lv_at hl 0 rfl) ?_
  refine lv_iconst (v := 0) hx hb dX0_setAsAtFirst_6 (by decide) ?_
  refine fl_put (ci := 2) (ty := .int) (v := .int 0) (C := RX0) (T := TX0) (Nf := 4) hx hb hts inX0 tyX0 tyX0_ok nmX0 hown hK hJ hP hS 6 (by decide) (fl_sI (fl_sI M 6 1 0) 6 2 0) rfl rfl 2 (by decide) (hts (.fieldLink RX0 19 "ResampledRows$Draws" "left" "I") (by decide +kernel)) (fun _ h9 => h9) rfl (by decide +kernel) rfl rfl (Nat.le_of_ble_eq_true rfl) rfl (fl_sI_o (fc_loc cI cII ad) _ _ _ _) dX0_setAsAtFirst_7 (fun H locs hP hS => ?_)
  refine lv_aload_n hx hb dX0_setAsAtFirst_10 rfl (lv_at hl 0 rfl) ?_
  refine lv_lconst (v := 0) hx hb dX0_setAsAtFirst_11 (by decide) ?_
  refine fl_put (ci := 2) (ty := .long) (v := .long 0) (C := RX0) (T := TX0) (Nf := 4) hx hb hts inX0 tyX0 tyX0_ok nmX0 hown hK hJ hP hS 6 (by decide) (fl_sJ (fl_sI (fl_sI M 6 1 0) 6 2 0) 6 3 0) rfl rfl 3 (by decide) (hts (.fieldLink RX0 22 "ResampledRows$Draws" "x" "J") (by decide +kernel)) (fun _ h9 => h9) rfl (by decide +kernel) rfl rfl (Nat.le_of_ble_eq_true rfl) rfl (fl_sJ_o (fc_loc cI cII ad) _ _ _ _) dX0_setAsAtFirst_12 (fun H locs hP hS => ?_)
  exact W.vret hx hb hr (fun t ht hW => ⟨⟨(fl_sJ (fl_sI (fl_sI M 6 1 0) 6 2 0) 6 3 0), rfl, ⟨⟨0, by decide, rfl, rfl, by decide, rfl, fun j hj => absurd hj (Nat.not_lt_zero j)⟩, ((fl_eq.rf.sI (by decide) _ _).sI (by decide) _ _).sJ (by decide) _ _⟩, fl_qi ht hP⟩, hS.F ht⟩) hS.2.2 dX0_setAsAtFirst_15

theorem fc_D_add {d : a_D} {M : fl_M} {f0 k : Nat} (hf0 : f0 < 64) (hk : k < 2 ^ 31) (hl : d.1.length < 64) (h1 : M.1 6 1 = nI f0) (h4 : M.2.1 6 3 = d.2) (h5 : ∀ j, j < d.1.length → M.1 7 ((f0 + j) % 64) = nI (d.1.getD j 0) ∧ d.1.getD j 0 < 2 ^ 31) : fc_D (d.1 ++ [k], d.2) (fl_sI (fl_sI M 7 ((f0 + d.1.length) % 64) (nI k)) 6 2 (nI (d.1.length + 1))) := by
  refine ⟨f0, hf0, h1, ?_, by simp; omega, h4, fun j hj => ?_⟩
  · show nI (d.1.length + 1) = nI (d.1 ++ [k]).length
    simp
  · have hj2 : j < d.1.length + 1 := by simpa using hj
    show upd (M.1 7) ((f0 + d.1.length) % 64) (nI k) ((f0 + j) % 64) = nI ((d.1 ++ [k]).getD j 0) ∧ (d.1 ++ [k]).getD j 0 < 2 ^ 31
    by_cases e : j = d.1.length
    · subst e
      have : (d.1 ++ [k]).getD d.1.length 0 = k := by simp [List.getD]
      rw [this]
      exact ⟨pk_us, hk⟩
    · have hj3 : j < d.1.length := by omega
      have : (d.1 ++ [k]).getD j 0 = d.1.getD j 0 := by simp [List.getD, List.getElem?_append_left hj3]
      rw [this, pk_un (by omega)]
      exact h5 j hj3
theorem fc_D_pop {M : fl_M} {f0 v : Nat} {q : List Nat} {x : Int64} (hf0 : f0 < 64) (hl : (v :: q).length ≤ 64) (h4 : M.2.1 6 3 = x) (h5 : ∀ j, j < (v :: q).length → M.1 7 ((f0 + j) % 64) = nI ((v :: q).getD j 0) ∧ (v :: q).getD j 0 < 2 ^ 31) : fc_D (q, x) (fl_sI (fl_sI M 6 1 (nI ((f0 + 1) % 64))) 6 2 (nI q.length)) := by
  refine ⟨(f0 + 1) % 64, Nat.mod_lt _ (by decide), rfl, rfl, ?_, h4, fun j hj => ?_⟩
  · have : (v :: q).length = q.length + 1 := rfl
    show q.length ≤ 64
    omega
  · have h := h5 (j + 1) (by show j + 1 < q.length + 1; exact Nat.succ_lt_succ hj)
    show M.1 7 (((f0 + 1) % 64 + j) % 64) = nI (q.getD j 0) ∧ q.getD j 0 < 2 ^ 31
    have e : ((f0 + 1) % 64 + j) % 64 = (f0 + (j + 1)) % 64 := by omega
    rw [e]
    have e2 : (v :: q).getD (j + 1) 0 = q.getD j 0 := by simp [List.getD]
    rw [e2] at h
    exact h

set_option maxHeartbeats 4000000 in
set_option maxRecDepth 100000 in
theorem c_X0_addForced (l : Launch) {D : va_G} {cI cJ cII : ClassId} {ad : Nat → Nat} (hJ : fl_inj 62 ad) (M : fl_M) (d : a_D) (k : Nat) (hk : k < 2 ^ 31) (hd : fc_D d M) (hlen : d.1.length < 64) : Met l yX0_addForced wsX0_addForced ({ frames := 0, cells := 0, slots := 0, locals := 0 } : Room) (fcPc D cI cJ cII ad M [.ref (ad 6), .int (nI k)]) (va_Qv (fun M2 => fc_D (d.1 ++ [k], d.2) M2 ∧ fl_eq (fun c => c ≠ 6 ∧ c ≠ 7) M M2) (fcQ D cI cII ad) (fl_A 62 ad)) 0 0 (fl_A 62 ad) := by
  refine Met.ofW (cc := cX0_addForced) (maxL := 2) (ret := none) (by decide) rfl ?_
  intro p e s m args below meth c s₁ B hml hv
  obtain ⟨rfl, hP, hK, hN⟩ := hv
  have hx := B.exec
  have hb := B.bytes
  have hr := B.returns
  have hts := atoms_spec (ws := wsX0_addForced) B.pre
  have hown : s.vm.findClass RX0 = some m.cls := findClass_of_methodNamed B.named
  have hlocks := B.notSynchronized
  have inX0 : ∀ w ∈ u_ws RX0 TX0 4, w ∈ wsX0_addForced := by decide +kernel
  have hS : va_S (fl_A 62 ad) s.heap s.heap [] := va_S.rf
  have hl := lv_entry ([.ref (ad 6), .int (nI k)] : List Value) (n := 2) (Nat.le_of_ble_eq_true rfl)
  rw [lg_entry_eq]
  generalize (lg_sl ([.ref (ad 6), .int (nI k)] : List Value) ++ List.replicate (2 - (lg_sl ([.ref (ad 6), .int (nI k)] : List Value)).length) Slot.unset).toArray = ls at hl ⊢
  have hl : lv_has ls 2 [(0, .ref (ad 6)), (1, .int (nI k))] := hl
  obtain ⟨f0, hf0, h1, h2, h3, h4, h5⟩ := hd
  refine lv_aload_n hx hb dX0_addForced_0 rfl (lv_at hl 0 rfl) ?_
  refine va_get (D := D) (ci := 2) (v := .ref (ad 7)) (C := RX0) (T := TX0) (N := 4) hx hb hts inX0 hown hK hP 6 (fl_at (by decide) rfl) rfl 0 (by decide) (hts (.fieldLink RX0 9 "ResampledRows$Draws" "forced" "[I") (by decide +kernel)) (fun _ h9 => h9) rfl dX0_addForced_1 ?_
  refine lv_aload_n hx hb dX0_addForced_4 rfl (lv_at hl 0 rfl) ?_
  refine va_get (D := D) (ci := 2) (v := .int (M.1 6 1)) (C := RX0) (T := TX0) (N := 4) hx hb hts inX0 hown hK hP 6 (fl_at (by decide) rfl) rfl 1 (by decide) (hts (.fieldLink RX0 15 "ResampledRows$Draws" "first" "I") (by decide +kernel)) (fun _ h9 => h9) rfl dX0_addForced_5 ?_
  refine fl_ti (y := nI f0) h1 ?_
  refine lv_aload_n hx hb dX0_addForced_8 rfl (lv_at hl 0 rfl) ?_
  refine va_get (D := D) (ci := 2) (v := .int (M.1 6 2)) (C := RX0) (T := TX0) (N := 4) hx hb hts inX0 hown hK hP 6 (fl_at (by decide) rfl) rfl 2 (by decide) (hts (.fieldLink RX0 19 "ResampledRows$Draws" "left" "I") (by decide +kernel)) (fun _ h9 => h9) rfl dX0_addForced_9 ?_
  refine fl_ti (y := nI d.1.length) h2 ?_
  refine lv_iadd hx hb dX0_addForced_12 ?_
  refine lv_bipush (v := 64) hx hb dX0_addForced_13 (by decide) ?_
  refine lv_irem hx hb dX0_addForced_15 (by decide) ?_
  refine fl_ti (y := nI ((f0 + d.1.length) % 64)) (by rw [nI_add]; exact fl_rem64 (by omega)) ?_
  refine lv_iload_n hx hb dX0_addForced_16 rfl (lv_at hl 1 rfl) ?_
  refine fl_ist (n := 64) (k := ((f0 + d.1.length) % 64)) (x := nI k) hx hb hK hJ hP hS (fc_loc cI cII ad) (fc_a cI cII ad _ rfl (by decide)) (fc_arr cI cII ad _ rfl (by decide)).2 rfl rfl (Nat.mod_lt _ (by decide)) (by decide) dX0_addForced_17 (fun H locs hP hS => ?_)
  refine lv_aload_n hx hb dX0_addForced_18 rfl (lv_at hl 0 rfl) ?_
  refine lv_dup hx hb dX0_addForced_19 rfl ?_
  refine va_get (D := D) (ci := 2) (v := .int (M.1 6 2)) (C := RX0) (T := TX0) (N := 4) hx hb hts inX0 hown hK hP 6 (fl_at (by decide) rfl) rfl 2 (by decide) (hts (.fieldLink RX0 19 "ResampledRows$Draws" "left" "I") (by decide +kernel)) (fun _ h9 => h9) rfl dX0_addForced_20 ?_
  refine fl_ti (y := nI d.1.length) h2 ?_
  refine lv_iconst (v := 1) hx hb dX0_addForced_23 (by decide) ?_
  refine lv_iadd hx hb dX0_addForced_24 ?_
  refine fl_ti (y := nI (d.1.length + 1)) (nI_1 _) ?_
  refine fl_put (ci := 2) (ty := .int) (v := .int (nI (d.1.length + 1))) (C := RX0) (T := TX0) (Nf := 4) hx hb hts inX0 tyX0 tyX0_ok nmX0 hown hK hJ hP hS 6 (by decide) (fl_sI (fl_sI M 7 ((f0 + d.1.length) % 64) (nI k)) 6 2 (nI (d.1.length + 1))) rfl rfl 2 (by decide) (hts (.fieldLink RX0 19 "ResampledRows$Draws" "left" "I") (by decide +kernel)) (fun _ h9 => h9) rfl (by decide +kernel) rfl rfl (Nat.le_of_ble_eq_true rfl) rfl (fl_sI_o (fc_loc cI cII ad) _ _ _ _) dX0_addForced_25 (fun H locs hP hS => ?_)
  exact W.vret hx hb hr (fun t ht hW => ⟨⟨(fl_sI (fl_sI M 7 ((f0 + d.1.length) % 64) (nI k)) 6 2 (nI (d.1.length + 1))), rfl, ⟨fc_D_add hf0 hk hlen h1 h4 h5, (fl_eq.rf.sI (by decide) _ _).sI (by decide) _ _⟩, fl_qi ht hP⟩, hS.F ht⟩) hS.2.2 dX0_addForced_28

set_option maxHeartbeats 4000000 in
set_option maxRecDepth 100000 in
theorem c_X0_next (l : Launch) {D : va_G} {cI cJ cII : ClassId} {ad : Nat → Nat} (hJ : fl_inj 62 ad) (M : fl_M) (d : a_D) (hd : fc_D d M) : Met l yX0_next wsX0_next ({ frames := 0, cells := 0, slots := 0, locals := 0 } : Room) (fcPc D cI cJ cII ad M [.ref (ad 6)]) (va_Ql (fun r M2 => r = lN (a_next d).1 ∧ (a_next d).1 < 2 ^ 31 ∧ fc_D (a_next d).2 M2 ∧ fl_eq (fun c => c ≠ 6) M M2) (fcQ D cI cII ad) (fl_A 62 ad)) 0 0 (fl_A 62 ad) := by
  refine Met.ofW (cc := cX0_next) (maxL := 2) (ret := (some .long)) (by decide) rfl ?_
  intro p e s m args below meth c s₁ B hml hv
  obtain ⟨rfl, hP, hK, hN⟩ := hv
  have hx := B.exec
  have hb := B.bytes
  have hr := B.returns
  have hts := atoms_spec (ws := wsX0_next) B.pre
  have hown : s.vm.findClass RX0 = some m.cls := findClass_of_methodNamed B.named
  have hlocks := B.notSynchronized
  have inX0 : ∀ w ∈ u_ws RX0 TX0 4, w ∈ wsX0_next := by decide +kernel
  have hS : va_S (fl_A 62 ad) s.heap s.heap [] := va_S.rf
  have hl := lv_entry ([.ref (ad 6)] : List Value) (n := 2) (Nat.le_of_ble_eq_true rfl)
  rw [lg_entry_eq]
  generalize (lg_sl ([.ref (ad 6)] : List Value) ++ List.replicate (2 - (lg_sl ([.ref (ad 6)] : List Value)).length) Slot.unset).toArray = ls at hl ⊢
  have hl : lv_has ls 2 [(0, .ref (ad 6))] := hl
  obtain ⟨q0, x0⟩ := d
  obtain ⟨f0, hf0, h1, h2, h3, h4, h5⟩ := hd
  dsimp only at h2 h3 h4 h5
  refine lv_aload_n hx hb dX0_next_0 rfl (lv_at hl 0 rfl) ?_
  refine va_get (D := D) (ci := 2) (v := .int (M.1 6 2)) (C := RX0) (T := TX0) (N := 4) hx hb hts inX0 hown hK hP 6 (fl_at (by decide) rfl) rfl 2 (by decide) (hts (.fieldLink RX0 19 "ResampledRows$Draws" "left" "I") (by decide +kernel)) (fun _ h9 => h9) rfl dX0_next_1 ?_
  refine fl_ti (y := nI q0.length) h2 ?_
  refine lv_if_le (tgt := 43) hx hb dX0_next_4 (by decide) (fun hc4 => ?_) (fun hc4 => ?_)
  · have hq : q0 = [] := List.eq_nil_of_length_eq_zero (fl_len0 (by omega) hc4)
    subst hq
    refine lv_aload_n hx hb dX0_next_43 rfl (lv_at hl 0 rfl) ?_
    refine lv_aload_n hx hb dX0_next_44 rfl (lv_at hl 0 rfl) ?_
    refine va_get (D := D) (ci := 2) (v := .long (M.2.1 6 3)) (C := RX0) (T := TX0) (N := 4) hx hb hts inX0 hown hK hP 6 (fl_at (by decide) rfl) rfl 3 (by decide) (hts (.fieldLink RX0 22 "ResampledRows$Draws" "x" "J") (by decide +kernel)) (fun _ h9 => h9) rfl dX0_next_45 ?_
    refine lv_ldc2 (v := 6364136223846793005) hx hb hown (hts (.constantLong RX0 30 (6364136223846793005)) (by decide +kernel)) dX0_next_48 ?_
    refine lv_lmul hx hb dX0_next_51 ?_
    refine lv_ldc2 (v := 1442695040888963407) hx hb hown (hts (.constantLong RX0 32 (1442695040888963407)) (by decide +kernel)) dX0_next_52 ?_
    refine lv_ladd hx hb dX0_next_55 ?_
    refine fl_tl (y := a_x x0) (by rw [h4]; rfl) ?_
    refine fl_put (ci := 2) (ty := .long) (v := .long (a_x x0)) (C := RX0) (T := TX0) (Nf := 4) hx hb hts inX0 tyX0 tyX0_ok nmX0 hown hK hJ hP hS 6 (by decide) (fl_sJ M 6 3 (a_x x0)) rfl rfl 3 (by decide) (hts (.fieldLink RX0 22 "ResampledRows$Draws" "x" "J") (by decide +kernel)) (fun _ h9 => h9) rfl (by decide +kernel) rfl rfl (Nat.le_of_ble_eq_true rfl) rfl (fl_sJ_o (fc_loc cI cII ad) _ _ _ _) dX0_next_56 (fun H locs hP hS => ?_)
    refine lv_aload_n hx hb dX0_next_59 rfl (lv_at hl 0 rfl) ?_
    refine va_get (D := D) (ci := 2) (v := .long (a_x x0)) (C := RX0) (T := TX0) (N := 4) hx hb hts inX0 hown hK hP 6 (fl_at (by decide) rfl) rfl 3 (by decide) (hts (.fieldLink RX0 22 "ResampledRows$Draws" "x" "J") (by decide +kernel)) (fun _ h9 => h9) rfl dX0_next_60 ?_
    refine lv_bipush (v := 33) hx hb dX0_next_63 (by decide) ?_
    refine lv_lushr (v := ((a_x x0).toUInt64 >>> ((33 : Int32).toInt64.toUInt64 &&& Int64.toUInt64 63)).toInt64) hx hb dX0_next_65 rfl ?_
    refine fl_tl (y := lN (a_v (a_x x0))) (a_v_eq _) ?_
    exact W.lret (v := lN (a_v (a_x x0))) hx hb hr (fun t ht hW => ⟨⟨lN (a_v (a_x x0)), (fl_sJ M 6 3 (a_x x0)), rfl, ⟨rfl, a_v_lt _, ⟨f0, hf0, h1, h2, Nat.zero_le _, rfl, fun j hj => absurd hj (Nat.not_lt_zero j)⟩, fl_eq.rf.sJ (by decide) _ _⟩, fl_qi ht hP⟩, hS.F ht⟩) hS.2.2 dX0_next_66
  · obtain ⟨v, q, hq⟩ : ∃ v q, q0 = v :: q := by
      cases q0 with
      | nil => exact absurd (show nI 0 ≤ 0 by decide) hc4
      | cons v q => exact ⟨v, q, rfl⟩
    subst hq
    have h50 := h5 0 (Nat.succ_pos _)
    have h51 : M.1 7 f0 = nI v := by
      have := h50.1
      rw [Nat.add_zero, Nat.mod_eq_of_lt hf0] at this
      exact this
    have hv0 : v < 2 ^ 31 := h50.2
    refine lv_aload_n hx hb dX0_next_7 rfl (lv_at hl 0 rfl) ?_
    refine va_get (D := D) (ci := 2) (v := .ref (ad 7)) (C := RX0) (T := TX0) (N := 4) hx hb hts inX0 hown hK hP 6 (fl_at (by decide) rfl) rfl 0 (by decide) (hts (.fieldLink RX0 9 "ResampledRows$Draws" "forced" "[I") (by decide +kernel)) (fun _ h9 => h9) rfl dX0_next_8 ?_
    refine lv_aload_n hx hb dX0_next_11 rfl (lv_at hl 0 rfl) ?_
    refine va_get (D := D) (ci := 2) (v := .int (M.1 6 1)) (C := RX0) (T := TX0) (N := 4) hx hb hts inX0 hown hK hP 6 (fl_at (by decide) rfl) rfl 1 (by decide) (hts (.fieldLink RX0 15 "ResampledRows$Draws" "first" "I") (by decide +kernel)) (fun _ h9 => h9) rfl dX0_next_12 ?_
    refine fl_ti (y := nI f0) h1 ?_
    refine fl_ild (n := 64) (k := f0) hx hb hK hP (fc_a cI cII ad _ rfl (by decide)) rfl rfl (by omega) (by decide) dX0_next_15 ?_
    refine fl_ti (y := nI v) h51 ?_
    refine lv_istore_n (lv' := [(1, .int (nI v)), (0, .ref (ad 6))]) hx hb dX0_next_16 rfl hl (by decide) rfl (fun ls hl => ?_)
    refine lv_aload_n hx hb dX0_next_17 rfl (lv_at hl 1 rfl) ?_
    refine lv_aload_n hx hb dX0_next_18 rfl (lv_at hl 1 rfl) ?_
    refine va_get (D := D) (ci := 2) (v := .int (M.1 6 1)) (C := RX0) (T := TX0) (N := 4) hx hb hts inX0 hown hK hP 6 (fl_at (by decide) rfl) rfl 1 (by decide) (hts (.fieldLink RX0 15 "ResampledRows$Draws" "first" "I") (by decide +kernel)) (fun _ h9 => h9) rfl dX0_next_19 ?_
    refine fl_ti (y := nI f0) h1 ?_
    refine lv_iconst (v := 1) hx hb dX0_next_22 (by decide) ?_
    refine lv_iadd hx hb dX0_next_23 ?_
    refine lv_bipush (v := 64) hx hb dX0_next_24 (by decide) ?_
    refine lv_irem hx hb dX0_next_26 (by decide) ?_
    refine fl_ti (y := nI ((f0 + 1) % 64)) (by rw [nI_1]; exact fl_rem64 (by omega)) ?_
    refine fl_put (ci := 2) (ty := .int) (v := .int (nI ((f0 + 1) % 64))) (C := RX0) (T := TX0) (Nf := 4) hx hb hts inX0 tyX0 tyX0_ok nmX0 hown hK hJ hP hS 6 (by decide) (fl_sI M 6 1 (nI ((f0 + 1) % 64))) rfl rfl 1 (by decide) (hts (.fieldLink RX0 15 "ResampledRows$Draws" "first" "I") (by decide +kernel)) (fun _ h9 => h9) rfl (by decide +kernel) rfl rfl (Nat.le_of_ble_eq_true rfl) rfl (fl_sI_o (fc_loc cI cII ad) _ _ _ _) dX0_next_27 (fun H locs hP hS => ?_)
    refine lv_aload_n hx hb dX0_next_30 rfl (lv_at hl 1 rfl) ?_
    refine lv_dup hx hb dX0_next_31 rfl ?_
    refine va_get (D := D) (ci := 2) (v := .int (M.1 6 2)) (C := RX0) (T := TX0) (N := 4) hx hb hts inX0 hown hK hP 6 (fl_at (by decide) rfl) rfl 2 (by decide) (hts (.fieldLink RX0 19 "ResampledRows$Draws" "left" "I") (by decide +kernel)) (fun _ h9 => h9) rfl dX0_next_32 ?_
    refine fl_ti (y := nI (v :: q).length) h2 ?_
    refine lv_iconst (v := 1) hx hb dX0_next_35 (by decide) ?_
    refine lv_isub hx hb dX0_next_36 ?_
    refine fl_ti (y := nI q.length) (nI_pred _) ?_
    refine fl_put (ci := 2) (ty := .int) (v := .int (nI q.length)) (C := RX0) (T := TX0) (Nf := 4) hx hb hts inX0 tyX0 tyX0_ok nmX0 hown hK hJ hP hS 6 (by decide) (fl_sI (fl_sI M 6 1 (nI ((f0 + 1) % 64))) 6 2 (nI q.length)) rfl rfl 2 (by decide) (hts (.fieldLink RX0 19 "ResampledRows$Draws" "left" "I") (by decide +kernel)) (fun _ h9 => h9) rfl (by decide +kernel) rfl rfl (Nat.le_of_ble_eq_true rfl) rfl (fl_sI_o (fc_loc cI cII ad) _ _ _ _) dX0_next_37 (fun H locs hP hS => ?_)
    refine lv_iload_n hx hb dX0_next_40 rfl (lv_at hl 0 rfl) ?_
    refine lv_i2l (v := (nI v).toInt64) hx hb dX0_next_41 rfl ?_
    refine fl_tl (y := lN v) (nI_l hv0) ?_
    exact W.lret (v := lN v) hx hb hr (fun t ht hW => ⟨⟨lN v, (fl_sI (fl_sI M 6 1 (nI ((f0 + 1) % 64))) 6 2 (nI q.length)), rfl, ⟨rfl, hv0, fc_D_pop hf0 h3 h4 h5, (fl_eq.rf.sI (by decide) _ _).sI (by decide) _ _⟩, fl_qi ht hP⟩, hS.F ht⟩) hS.2.2 dX0_next_42

set_option maxHeartbeats 4000000 in
set_option maxRecDepth 100000 in
theorem c_X0_below (l : Launch) {D : va_G} {cI cJ cII : ClassId} {ad : Nat → Nat} (hJ : fl_inj 62 ad) (M : fl_M) (d : a_D) (k : Nat) (hk0 : 0 < k) (hk : k < 2 ^ 31) (hd : fc_D d M) : Met l yX0_below wsX0_below ({ frames := 1, cells := 0, slots := 0, locals := 21 } : Room) (fcPc D cI cJ cII ad M [.ref (ad 6), .long (lN k)]) (va_Ql (fun r M2 => r = lN ((a_next d).1 % k) ∧ fc_D (a_next d).2 M2 ∧ fl_eq (fun c => c ≠ 6) M M2) (fcQ D cI cII ad) (fl_A 62 ad)) 0 0 (fl_A 62 ad) := by
  refine Met.ofW (cc := cX0_below) (maxL := 3) (ret := (some .long)) (by decide) rfl ?_
  intro p e s m args below meth c s₁ B hml hv
  obtain ⟨rfl, hP, hK, hN⟩ := hv
  have hx := B.exec
  have hb := B.bytes
  have hr := B.returns
  have hts := atoms_spec (ws := wsX0_below) B.pre
  have hown : s.vm.findClass RX0 = some m.cls := findClass_of_methodNamed B.named
  have hlocks := B.notSynchronized
  have hS : va_S (fl_A 62 ad) s.heap s.heap [] := va_S.rf
  have hl := lv_entry ([.ref (ad 6), .long (lN k)] : List Value) (n := 3) (Nat.le_of_ble_eq_true rfl)
  rw [lg_entry_eq]
  generalize (lg_sl ([.ref (ad 6), .long (lN k)] : List Value) ++ List.replicate (3 - (lg_sl ([.ref (ad 6), .long (lN k)] : List Value)).length) Slot.unset).toArray = ls at hl ⊢
  have hl : lv_has ls 3 [(0, .ref (ad 6)), (1, .long (lN k))] := hl
  refine lv_lload_n hx hb dX0_below_0 rfl (lv_at hl 1 rfl) ?_
  refine lv_lconst (v := 0) hx hb dX0_below_1 (by decide) ?_
  refine fl_lle (tgt := 15) hx hb dX0_below_2 dX0_below_3 (by decide) (fun hc2 => ?_) (fun hc2 => ?_)
  · exact absurd ((pk_lLE (b := 0) (by omega) (by decide)).mp hc2) (by omega)
  · refine lv_aload_n hx hb dX0_below_6 rfl (lv_at hl 0 rfl) ?_
    refine va_calll (va_runV (As := []) (rest := []) ⟨hx, hb, hml, hown, hts⟩ (c_X0_next l hJ M d hd) (cwV 0 hts gX0_below_X0_next rfl rfl rfl (by decide +kernel) ⟨Nat.le_of_ble_eq_true rfl, Nat.le_of_ble_eq_true rfl⟩) ⟨fl_blind, va_recv hK hP (ci := 2) (q0 := 6) rfl (fl_at (by decide) rfl), fl_pre hP hK hN⟩ rfl rfl hl.1 rfl (lv_room (Nat.le_of_ble_eq_true rfl)) dX0_below_7 ⟨Nat.le_of_ble_eq_true rfl, Nat.le_of_ble_eq_true rfl⟩) hS (fun _ _ h => h) (fun _ h => h) (fun r7 M7 t H1 locs ht hvm hw hB hz1 hk1 hS => ?_)
    have hP : va_P D vwCl (fcP cI cII ad M7) H1 := by rw [← ht]; exact hB
    clear hB hk1 hz1 hvm ht t
    obtain ⟨rfl, hlt, hd2, he⟩ := hw
    refine lv_lload_n hx hb dX0_below_10 rfl (lv_at hl 1 rfl) ?_
    refine lv_lrem hx hb dX0_below_11 (fun q => absurd ((pk_lEQ (b := 0) (by omega) (by decide)).mp q) (by omega)) ?_
    refine fl_tl (y := lN ((a_next d).1 % k)) (pk_lRem (by omega) hk0 (by omega)) ?_
    refine lv_goto (tgt := 16) hx hb dX0_below_12 (by decide) ?_
    exact W.lret (v := lN ((a_next d).1 % k)) hx hb hr (fun t ht hW => ⟨⟨lN ((a_next d).1 % k), M7, rfl, ⟨rfl, hd2, he⟩, fl_qi ht hP⟩, hS.F ht⟩) hS.2.2 dX0_below_16

set_option maxHeartbeats 4000000 in
set_option maxRecDepth 100000 in
theorem c_X0_byWeights (l : Launch) {D : va_G} {cI cJ cII : ClassId} {ad : Nat → Nat} (hJ : fl_inj 62 ad) (M : fl_M) (d : a_D) (c0 n k : Nat) (w : Nat → Nat) (hc : fc_len c0 = n) (hn : 0 < n) (hk : k ≤ n) (hne : c0 ≠ 6) (hw0 : ∀ j, j < k → M.1 c0 j = nI (w j) ∧ w j < 2 ^ 31) (hT : a_sum w k < 2 ^ 31) (hd : fc_D d M) : Met l yX0_byWeights wsX0_byWeights ({ frames := 2, cells := 0, slots := 0, locals := 43 } : Room) (fcPc D cI cJ cII ad M [.ref (ad 6), .ref (ad c0), .int (nI k)]) (va_Qi (fun r M2 => r = a_oI (a_by w k d).1 (-1000004) ∧ fc_D (a_by w k d).2 M2 ∧ fl_eq (fun c => c ≠ 6) M M2) (fcQ D cI cII ad) (fl_A 62 ad)) 0 0 (fl_A 62 ad) := by
  refine Met.ofW (cc := cX0_byWeights) (maxL := 5) (ret := (some .int)) (by decide) rfl ?_
  intro p e s m args below meth c s₁ B hml hv
  obtain ⟨rfl, hP, hK, hN⟩ := hv
  have hx := B.exec
  have hb := B.bytes
  have hr := B.returns
  have hts := atoms_spec (ws := wsX0_byWeights) B.pre
  have hown : s.vm.findClass RX0 = some m.cls := findClass_of_methodNamed B.named
  have hlocks := B.notSynchronized
  have hS : va_S (fl_A 62 ad) s.heap s.heap [] := va_S.rf
  have hl := lv_entry ([.ref (ad 6), .ref (ad c0), .int (nI k)] : List Value) (n := 5) (Nat.le_of_ble_eq_true rfl)
  rw [lg_entry_eq]
  generalize (lg_sl ([.ref (ad 6), .ref (ad c0), .int (nI k)] : List Value) ++ List.replicate (5 - (lg_sl ([.ref (ad 6), .ref (ad c0), .int (nI k)] : List Value)).length) Slot.unset).toArray = ls at hl ⊢
  have hl : lv_has ls 5 [(0, .ref (ad 6)), (1, .ref (ad c0)), (2, .int (nI k))] := hl
  refine lv_aload_n hx hb dX0_byWeights_0 rfl (lv_at hl 1 rfl) ?_
  refine lv_iload_n hx hb dX0_byWeights_1 rfl (lv_at hl 2 rfl) ?_
  refine va_calll (va_runSN (As := [.ref (ad c0), .int (nI k)]) (rest := []) ⟨hx, hb, hml, hown, hts⟩ (c_X4_sumOf l hJ M c0 n k hc hn hk) ⟨va_cnB 2 hts gX0_byWeights_X4_sumOf_n34 rfl rfl rfl hN.1 (hts (.initialized RX4) (by decide +kernel)) (by decide +kernel) ⟨Nat.le_of_ble_eq_true rfl, Nat.le_of_ble_eq_true rfl⟩, hts (.static yX4_sumOf) (by decide +kernel), trivial⟩ ⟨fl_blind, fl_pre hP hK hN⟩ rfl rfl hl.1 rfl (lv_room (Nat.le_of_ble_eq_true rfl)) dX0_byWeights_2 ⟨Nat.le_of_ble_eq_true rfl, Nat.le_of_ble_eq_true rfl⟩) hS (fun _ _ h => h) (fun _ h => h) (fun r2 M2 t H1 locs ht hvm hw hB hz1 hk1 hS => ?_)
  have hP : va_P D vwCl (fcP cI cII ad M2) H1 := by rw [← ht]; exact hB
  clear hB hk1 hz1 hvm ht t
  obtain ⟨rfl, hE⟩ := hw
  rw [hE] at hP
  refine fl_tl (y := lN (a_sum w k)) (fl_sum_nat k hw0) ?_
  refine lv_lstore_n (lv' := [(3, .long (lN (a_sum w k))), (0, .ref (ad 6)), (1, .ref (ad c0)), (2, .int (nI k))]) hx hb dX0_byWeights_5 rfl hl (by decide) rfl (fun ls hl => ?_)
  refine lv_lload_n hx hb dX0_byWeights_6 rfl (lv_at hl 0 rfl) ?_
  refine lv_lconst (v := 0) hx hb dX0_byWeights_7 (by decide) ?_
  refine fl_lgt (tgt := 15) hx hb dX0_byWeights_8 dX0_byWeights_9 (by decide) (fun hc8 => ?_) (fun hc8 => ?_)
  · have h0 : 0 < a_sum w k := (pk_lLT (a := 0) (by decide) (by omega)).mp hc8
    have hby : a_by w k d = (some (a_first w 1 ((a_next d).1 % a_sum w k) k), (a_next d).2) := if_neg (by omega)
    refine lv_aload_n hx hb dX0_byWeights_15 rfl (lv_at hl 1 rfl) ?_
    refine lv_lload_n hx hb dX0_byWeights_16 rfl (lv_at hl 0 rfl) ?_
    refine va_calll (va_runV (As := [.long (lN (a_sum w k))]) (rest := []) ⟨hx, hb, hml, hown, hts⟩ (c_X0_below l hJ M d (a_sum w k) h0 hT hd) (cwV 1 hts gX0_byWeights_X0_below rfl rfl rfl (by decide +kernel) ⟨Nat.le_of_ble_eq_true rfl, Nat.le_of_ble_eq_true rfl⟩) ⟨fl_blind, va_recv hK hP (ci := 2) (q0 := 6) rfl (fl_at (by decide) rfl), fl_pre hP hK hN⟩ rfl rfl hl.1 rfl (lv_room (Nat.le_of_ble_eq_true rfl)) dX0_byWeights_17 ⟨Nat.le_of_ble_eq_true rfl, Nat.le_of_ble_eq_true rfl⟩) hS (fun _ _ h => h) (fun _ h => h) (fun r17 M17 t H1 locs ht hvm hw hB hz1 hk1 hS => ?_)
    have hP : va_P D vwCl (fcP cI cII ad M17) H1 := by rw [← ht]; exact hB
    clear hB hk1 hz1 hvm ht t
    obtain ⟨rfl, hd2, he⟩ := hw
    have hmod : (a_next d).1 % a_sum w k < a_sum w k := Nat.mod_lt _ h0
    refine lv_lconst (v := 1) hx hb dX0_byWeights_20 (by decide) ?_
    refine lv_aload_n hx hb dX0_byWeights_21 rfl (lv_at hl 2 rfl) ?_
    refine lv_iload_n hx hb dX0_byWeights_22 rfl (lv_at hl 3 rfl) ?_
    refine va_calli (va_runSN (As := [.long (lN ((a_next d).1 % a_sum w k)), .long 1, .ref (ad c0), .int (nI k)]) (rest := []) ⟨hx, hb, hml, hown, hts⟩ (c_X4_firstAbove l hJ M17 c0 n k ((a_next d).1 % a_sum w k) 1 w hc hn hk (fun j hj => by rw [(he c0 hne).1]; exact hw0 j hj) (by omega) (by omega)) ⟨va_cnB 4 hts gX0_byWeights_X4_firstAbove_n43 rfl rfl rfl hN.2.1 (hts (.initialized RX4) (by decide +kernel)) (by decide +kernel) ⟨Nat.le_of_ble_eq_true rfl, Nat.le_of_ble_eq_true rfl⟩, hts (.static yX4_firstAbove) (by decide +kernel), trivial⟩ ⟨fl_blind, fl_pre hP hK hN⟩ rfl rfl hl.1 rfl (lv_room (Nat.le_of_ble_eq_true rfl)) dX0_byWeights_23 ⟨Nat.le_of_ble_eq_true rfl, Nat.le_of_ble_eq_true rfl⟩) hS (fun _ _ h => h) (fun _ h => h) (fun r23 M23 t H1 locs ht hvm hw hB hz1 hk1 hS => ?_)
    have hP : va_P D vwCl (fcP cI cII ad M23) H1 := by rw [← ht]; exact hB
    clear hB hk1 hz1 hvm ht t
    obtain ⟨rfl, hE⟩ := hw
    rw [hE] at hP
    exact W.iret (v := (if (a_next d).1 % a_sum w k < 1 * a_sum w k then nI (a_first w 1 ((a_next d).1 % a_sum w k) k) else -1000004)) hx hb hr (fun t ht hW => ⟨⟨(if (a_next d).1 % a_sum w k < 1 * a_sum w k then nI (a_first w 1 ((a_next d).1 % a_sum w k) k) else -1000004), M17, rfl, ⟨by rw [if_pos (by omega), hby]; rfl, by rw [hby]; exact hd2, he⟩, fl_qi ht hP⟩, hS.F ht⟩) hS.2.2 dX0_byWeights_26
  · have h0 : a_sum w k = 0 := Nat.eq_zero_of_not_pos (fun q => hc8 ((pk_lLT (a := 0) (by decide) (by omega)).mpr q))
    have hby : a_by w k d = (none, d) := if_pos h0
    refine lv_ldc (v := -1000004) hx hb hown (hts (.constant RX0 38 (-1000004)) (by decide +kernel)) dX0_byWeights_12 ?_
    exact W.iret (v := (-1000004)) hx hb hr (fun t ht hW => ⟨⟨(-1000004), M, rfl, ⟨by rw [hby]; rfl, by rw [hby]; exact hd, fl_eq.rf⟩, fl_qi ht hP⟩, hS.F ht⟩) hS.2.2 dX0_byWeights_14

