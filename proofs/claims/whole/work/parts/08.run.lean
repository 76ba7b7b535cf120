theorem a_b_pos {o : Option Nat} {j : Nat} (h : o = some j) : a_b o = 1 := by rw [h]; rfl
theorem a_b_neg {o : Option Nat} (h : o = none) : a_b o = 0 := by rw [h]; rfl
theorem fl_oI_ne {o : Option Nat} {k z : Int32} : True := trivial
theorem a_row_sum {f : Nat → Int32} {w : Nat → Nat} {n : Nat} (h : fl_row f w n 1000001) : fl_sum f n = lN (a_sum w n) := fl_sum_nat n (fun j hj => ⟨(h j hj).1, Nat.lt_trans (h j hj).2 (by decide)⟩)
theorem a_row_le {f : Nat → Int32} {w : Nat → Nat} {n B : Nat} (h : fl_row f w n (B + 1)) : a_sum w n ≤ n * B := a_sum_le w n (fun j hj => Nat.le_of_lt_succ (h j hj).2)
theorem fl_sq {x : Int32} {a w : Nat} (h : x = nI w) (hw : w < 2 ^ 31) : lN a + x.toInt64 * x.toInt64 = lN (a + w * w) := by
  rw [h, nI_l hw, lN_mul, lN_add]

set_option maxHeartbeats 4000000 in
set_option maxRecDepth 100000 in
theorem c_X2_isBegun (l : Launch) {D : va_G} {cI cJ cII : ClassId} {ad : Nat → Nat} (hJ : fl_inj 62 ad) (M : fl_M) (n : Nat) (hn : n ≤ 16) (hn1 : M.1 8 2 = nI n) : Met l yX2_isBegun wsX2_isBegun ({ frames := 0, cells := 0, slots := 0, locals := 0 } : Room) (fcPc D cI cJ cII ad M [.ref (ad 8)]) (va_Qi (fun r M2 => r = (if n = 0 then 0 else 1) ∧ M2 = M) (fcQ D cI cII ad) (fl_A 62 ad)) 0 0 (fl_A 62 ad) := by
  refine Met.ofW (cc := cX2_isBegun) (maxL := 1) (ret := (some .boolean)) (by decide) rfl ?_
  intro p e s m args below meth c s₁ B hml hv
  obtain ⟨rfl, hP, hK, hN⟩ := hv
  have hx := B.exec
  have hb := B.bytes
  have hr := B.returns
  have hts := atoms_spec (ws := wsX2_isBegun) B.pre
  have hown : s.vm.findClass RX2 = some m.cls := findClass_of_methodNamed B.named
  have hlocks := B.notSynchronized
  have inX2 : ∀ w ∈ u_ws RX2 TX2 13, w ∈ wsX2_isBegun := by decide +kernel
  have hS : va_S (fl_A 62 ad) s.heap s.heap [] := va_S.rf
  have hl := lv_entry ([.ref (ad 8)] : List Value) (n := 1) (Nat.le_of_ble_eq_true rfl)
  rw [lg_entry_eq]
  generalize (lg_sl ([.ref (ad 8)] : List Value) ++ List.replicate (1 - (lg_sl ([.ref (ad 8)] : List Value)).length) Slot.unset).toArray = ls at hl ⊢
  have hl : lv_has ls 1 [(0, .ref (ad 8))] := hl
  refine lv_aload_n hx hb dX2_isBegun_0 rfl (lv_at hl 0 rfl) ?_
  refine va_get (D := D) (ci := 4) (v := .int (M.1 8 2)) (C := RX2) (T := TX2) (N := 13) hx hb hts inX2 hown hK hP 8 (fl_at (by decide) rfl) rfl 2 (by decide) (hts (.fieldLink RX2 51 "ResampledRows$Run" "n" "I") (by decide +kernel)) (fun _ h9 => h9) rfl dX2_isBegun_1 ?_
  refine fl_ti (y := nI n) hn1 ?_
  refine lv_if_le (tgt := 11) hx hb dX2_isBegun_4 (by decide) (fun hc4 => ?_) (fun hc4 => ?_)
  · have z4 : n = 0 := fl_len0 (by omega) hc4
    refine lv_iconst (v := 0) hx hb dX2_isBegun_11 (by decide) ?_
    exact W.zret (v := 0) (ty := .boolean) hx hb hr rfl (fun t ht hW => ⟨⟨0, M, rfl, ⟨by first | rw [if_pos z4] | rw [if_neg (by omega)], rfl⟩, fl_qi ht hP⟩, hS.F ht⟩) hS.2.2 dX2_isBegun_12
  · have z4 : 0 < n := fl_len1 (by omega) hc4
    refine lv_iconst (v := 1) hx hb dX2_isBegun_7 (by decide) ?_
    refine lv_goto (tgt := 12) hx hb dX2_isBegun_8 (by decide) ?_
    exact W.zret (v := 1) (ty := .boolean) hx hb hr rfl (fun t ht hW => ⟨⟨1, M, rfl, ⟨by first | rw [if_pos z4] | rw [if_neg (by omega)], rfl⟩, fl_qi ht hP⟩, hS.F ht⟩) hS.2.2 dX2_isBegun_12

set_option maxHeartbeats 4000000 in
set_option maxRecDepth 100000 in
theorem c_X2_hasRow (l : Launch) {D : va_G} {cI cJ cII : ClassId} {ad : Nat → Nat} (hJ : fl_inj 62 ad) (M : fl_M) (n : Nat) (x : Int32) (hn : n ≤ 16) (hn1 : M.1 8 2 = nI n) : Met l yX2_hasRow wsX2_hasRow ({ frames := 0, cells := 0, slots := 0, locals := 0 } : Room) (fcPc D cI cJ cII ad M [.ref (ad 8), .int x]) (va_Qi (fun r M2 => r = a_b (a_ix x n) ∧ M2 = M) (fcQ D cI cII ad) (fl_A 62 ad)) 0 0 (fl_A 62 ad) := by
  refine Met.ofW (cc := cX2_hasRow) (maxL := 2) (ret := (some .boolean)) (by decide) rfl ?_
  intro p e s m args below meth c s₁ B hml hv
  obtain ⟨rfl, hP, hK, hN⟩ := hv
  have hx := B.exec
  have hb := B.bytes
  have hr := B.returns
  have hts := atoms_spec (ws := wsX2_hasRow) B.pre
  have hown : s.vm.findClass RX2 = some m.cls := findClass_of_methodNamed B.named
  have hlocks := B.notSynchronized
  have inX2 : ∀ w ∈ u_ws RX2 TX2 13, w ∈ wsX2_hasRow := by decide +kernel
  have hS : va_S (fl_A 62 ad) s.heap s.heap [] := va_S.rf
  have hl := lv_entry ([.ref (ad 8), .int x] : List Value) (n := 2) (Nat.le_of_ble_eq_true rfl)
  rw [lg_entry_eq]
  generalize (lg_sl ([.ref (ad 8), .int x] : List Value) ++ List.replicate (2 - (lg_sl ([.ref (ad 8), .int x] : List Value)).length) Slot.unset).toArray = ls at hl ⊢
  have hl : lv_has ls 2 [(0, .ref (ad 8)), (1, .int x)] := hl
  refine lv_iload_n hx hb dX2_hasRow_0 rfl (lv_at hl 1 rfl) ?_
  refine lv_if_lt (tgt := 16) hx hb dX2_hasRow_1 (by decide) (fun hc1 => ?_) (fun hc1 => ?_)
  · refine lv_iconst (v := 0) hx hb dX2_hasRow_16 (by decide) ?_
    exact W.zret (v := 0) (ty := .boolean) hx hb hr rfl (fun t ht hW => ⟨⟨0, M, rfl, ⟨by first | (rw [a_ix_in (n := n) hc1 hc9 (by omega)]; rfl) | (rw [a_ix_out (n := n) hc9 (by omega)]; rfl) | (rw [a_ix_neg hc1]; rfl), rfl⟩, fl_qi ht hP⟩, hS.F ht⟩) hS.2.2 dX2_hasRow_17
  · refine lv_iload_n hx hb dX2_hasRow_4 rfl (lv_at hl 1 rfl) ?_
    refine lv_aload_n hx hb dX2_hasRow_5 rfl (lv_at hl 0 rfl) ?_
    refine va_get (D := D) (ci := 4) (v := .int (M.1 8 2)) (C := RX2) (T := TX2) (N := 13) hx hb hts inX2 hown hK hP 8 (fl_at (by decide) rfl) rfl 2 (by decide) (hts (.fieldLink RX2 51 "ResampledRows$Run" "n" "I") (by decide +kernel)) (fun _ h9 => h9) rfl dX2_hasRow_6 ?_
    refine fl_ti (y := nI n) hn1 ?_
    refine lv_icmp_ge (tgt := 16) hx hb dX2_hasRow_9 (by decide) (fun hc9 => ?_) (fun hc9 => ?_)
    · refine lv_iconst (v := 0) hx hb dX2_hasRow_16 (by decide) ?_
      exact W.zret (v := 0) (ty := .boolean) hx hb hr rfl (fun t ht hW => ⟨⟨0, M, rfl, ⟨by first | (rw [a_ix_in (n := n) hc1 hc9 (by omega)]; rfl) | (rw [a_ix_out (n := n) hc9 (by omega)]; rfl) | (rw [a_ix_neg hc1]; rfl), rfl⟩, fl_qi ht hP⟩, hS.F ht⟩) hS.2.2 dX2_hasRow_17
    · refine lv_iconst (v := 1) hx hb dX2_hasRow_12 (by decide) ?_
      refine lv_goto (tgt := 17) hx hb dX2_hasRow_13 (by decide) ?_
      exact W.zret (v := 1) (ty := .boolean) hx hb hr rfl (fun t ht hW => ⟨⟨1, M, rfl, ⟨by first | (rw [a_ix_in (n := n) hc1 hc9 (by omega)]; rfl) | (rw [a_ix_out (n := n) hc9 (by omega)]; rfl) | (rw [a_ix_neg hc1]; rfl), rfl⟩, fl_qi ht hP⟩, hS.F ht⟩) hS.2.2 dX2_hasRow_17

set_option maxHeartbeats 4000000 in
set_option maxRecDepth 100000 in
theorem c_X2_places (l : Launch) {D : va_G} {cI cJ cII : ClassId} {ad : Nat → Nat} (hJ : fl_inj 62 ad) (M : fl_M) (sp : Nat) (hs : sp ≤ 30) (hs1 : M.1 8 3 = nI sp) : Met l yX2_places wsX2_places ({ frames := 0, cells := 0, slots := 0, locals := 0 } : Room) (fcPc D cI cJ cII ad M [.ref (ad 8)]) (va_Qi (fun r M2 => r = nI (sp + 1) ∧ M2 = M) (fcQ D cI cII ad) (fl_A 62 ad)) 0 0 (fl_A 62 ad) := by
  refine Met.ofW (cc := cX2_places) (maxL := 1) (ret := (some .int)) (by decide) rfl ?_
  intro p e s m args below meth c s₁ B hml hv
  obtain ⟨rfl, hP, hK, hN⟩ := hv
  have hx := B.exec
  have hb := B.bytes
  have hr := B.returns
  have hts := atoms_spec (ws := wsX2_places) B.pre
  have hown : s.vm.findClass RX2 = some m.cls := findClass_of_methodNamed B.named
  have hlocks := B.notSynchronized
  have inX2 : ∀ w ∈ u_ws RX2 TX2 13, w ∈ wsX2_places := by decide +kernel
  have hS : va_S (fl_A 62 ad) s.heap s.heap [] := va_S.rf
  have hl := lv_entry ([.ref (ad 8)] : List Value) (n := 1) (Nat.le_of_ble_eq_true rfl)
  rw [lg_entry_eq]
  generalize (lg_sl ([.ref (ad 8)] : List Value) ++ List.replicate (1 - (lg_sl ([.ref (ad 8)] : List Value)).length) Slot.unset).toArray = ls at hl ⊢
  have hl : lv_has ls 1 [(0, .ref (ad 8))] := hl
  refine lv_aload_n hx hb dX2_places_0 rfl (lv_at hl 0 rfl) ?_
  refine va_get (D := D) (ci := 4) (v := .int (M.1 8 3)) (C := RX2) (T := TX2) (N := 13) hx hb hts inX2 hown hK hP 8 (fl_at (by decide) rfl) rfl 3 (by decide) (hts (.fieldLink RX2 54 "ResampledRows$Run" "steps" "I") (by decide +kernel)) (fun _ h9 => h9) rfl dX2_places_1 ?_
  refine fl_ti (y := nI sp) hs1 ?_
  refine lv_iconst (v := 1) hx hb dX2_places_4 (by decide) ?_
  refine lv_iadd hx hb dX2_places_5 ?_
  refine fl_ti (y := nI (sp + 1)) (nI_1 sp) ?_
  exact W.iret (v := nI (sp + 1)) hx hb hr (fun t ht hW => ⟨⟨nI (sp + 1), M, rfl, ⟨rfl, rfl⟩, fl_qi ht hP⟩, hS.F ht⟩) hS.2.2 dX2_places_6

set_option maxHeartbeats 4000000 in
set_option maxRecDepth 100000 in
theorem c_X2_hasPlace (l : Launch) {D : va_G} {cI cJ cII : ClassId} {ad : Nat → Nat} (hJ : fl_inj 62 ad) (M : fl_M) (sp : Nat) (x : Int32) (hs : sp ≤ 30) (hs1 : M.1 8 3 = nI sp) : Met l yX2_hasPlace wsX2_hasPlace ({ frames := 1, cells := 0, slots := 0, locals := 20 } : Room) (fcPc D cI cJ cII ad M [.ref (ad 8), .int x]) (va_Qi (fun r M2 => r = a_b (a_ix x (sp + 1)) ∧ M2 = M) (fcQ D cI cII ad) (fl_A 62 ad)) 0 0 (fl_A 62 ad) := by
  refine Met.ofW (cc := cX2_hasPlace) (maxL := 2) (ret := (some .boolean)) (by decide) rfl ?_
  intro p e s m args below meth c s₁ B hml hv
  obtain ⟨rfl, hP, hK, hN⟩ := hv
  have hx := B.exec
  have hb := B.bytes
  have hr := B.returns
  have hts := atoms_spec (ws := wsX2_hasPlace) B.pre
  have hown : s.vm.findClass RX2 = some m.cls := findClass_of_methodNamed B.named
  have hlocks := B.notSynchronized
  have hS : va_S (fl_A 62 ad) s.heap s.heap [] := va_S.rf
  have hl := lv_entry ([.ref (ad 8), .int x] : List Value) (n := 2) (Nat.le_of_ble_eq_true rfl)
  rw [lg_entry_eq]
  generalize (lg_sl ([.ref (ad 8), .int x] : List Value) ++ List.replicate (2 - (lg_sl ([.ref (ad 8), .int x] : List Value)).length) Slot.unset).toArray = ls at hl ⊢
  have hl : lv_has ls 2 [(0, .ref (ad 8)), (1, .int x)] := hl
  refine lv_iload_n hx hb dX2_hasPlace_0 rfl (lv_at hl 1 rfl) ?_
  refine lv_if_lt (tgt := 16) hx hb dX2_hasPlace_1 (by decide) (fun hc1 => ?_) (fun hc1 => ?_)
  · refine lv_iconst (v := 0) hx hb dX2_hasPlace_16 (by decide) ?_
    exact W.zret (v := 0) (ty := .boolean) hx hb hr rfl (fun t ht hW => ⟨⟨0, M, rfl, ⟨by first | (rw [a_ix_in (n := sp + 1) hc1 hc9 (by omega)]; rfl) | (rw [a_ix_out (n := sp + 1) hc9 (by omega)]; rfl) | (rw [a_ix_neg hc1]; rfl), rfl⟩, fl_qi ht hP⟩, hS.F ht⟩) hS.2.2 dX2_hasPlace_17
  · refine lv_iload_n hx hb dX2_hasPlace_4 rfl (lv_at hl 1 rfl) ?_
    refine lv_aload_n hx hb dX2_hasPlace_5 rfl (lv_at hl 0 rfl) ?_
    refine va_calli (va_runV (As := []) (rest := [.int x]) ⟨hx, hb, hml, hown, hts⟩ (c_X2_places l hJ M sp hs hs1) (cwV 0 hts gX2_hasPlace_X2_places rfl rfl rfl (by decide +kernel) ⟨Nat.le_of_ble_eq_true rfl, Nat.le_of_ble_eq_true rfl⟩) ⟨fl_blind, va_recv hK hP (ci := 4) (q0 := 8) rfl (fl_at (by decide) rfl), fl_pre hP hK hN⟩ rfl rfl hl.1 rfl (lv_room (Nat.le_of_ble_eq_true rfl)) dX2_hasPlace_6 ⟨Nat.le_of_ble_eq_true rfl, Nat.le_of_ble_eq_true rfl⟩) hS (fun _ _ h => h) (fun _ h => h) (fun r6 M6 t H1 locs ht hvm hw hB hz1 hk1 hS => ?_)
    have hP : va_P D vwCl (fcP cI cII ad M6) H1 := by rw [← ht]; exact hB
    clear hB hk1 hz1 hvm ht t
    obtain ⟨rfl, hE⟩ := hw
    rw [hE] at hP
    refine lv_icmp_ge (tgt := 16) hx hb dX2_hasPlace_9 (by decide) (fun hc9 => ?_) (fun hc9 => ?_)
    · refine lv_iconst (v := 0) hx hb dX2_hasPlace_16 (by decide) ?_
      exact W.zret (v := 0) (ty := .boolean) hx hb hr rfl (fun t ht hW => ⟨⟨0, M, rfl, ⟨by first | (rw [a_ix_in (n := sp + 1) hc1 hc9 (by omega)]; rfl) | (rw [a_ix_out (n := sp + 1) hc9 (by omega)]; rfl) | (rw [a_ix_neg hc1]; rfl), rfl⟩, fl_qi ht hP⟩, hS.F ht⟩) hS.2.2 dX2_hasPlace_17
    · refine lv_iconst (v := 1) hx hb dX2_hasPlace_12 (by decide) ?_
      refine lv_goto (tgt := 17) hx hb dX2_hasPlace_13 (by decide) ?_
      exact W.zret (v := 1) (ty := .boolean) hx hb hr rfl (fun t ht hW => ⟨⟨1, M, rfl, ⟨by first | (rw [a_ix_in (n := sp + 1) hc1 hc9 (by omega)]; rfl) | (rw [a_ix_out (n := sp + 1) hc9 (by omega)]; rfl) | (rw [a_ix_neg hc1]; rfl), rfl⟩, fl_qi ht hP⟩, hS.F ht⟩) hS.2.2 dX2_hasPlace_17

set_option maxHeartbeats 4000000 in
set_option maxRecDepth 100000 in
theorem c_X2_end (l : Launch) {D : va_G} {cI cJ cII : ClassId} {ad : Nat → Nat} (hJ : fl_inj 62 ad) (M : fl_M) : Met l yX2_end wsX2_end ({ frames := 0, cells := 0, slots := 0, locals := 0 } : Room) (fcPc D cI cJ cII ad M [.ref (ad 8)]) (va_Qv (fun M2 => M2 = fl_sG (fl_sI (fl_sI (fl_sI (fl_sI M 8 2 0) 8 3 0) 8 4 0) 8 5 (-1000009)) 8 FP.dconst1) (fcQ D cI cII ad) (fl_A 62 ad)) 0 0 (fl_A 62 ad) := by
  refine Met.ofW (cc := cX2_end) (maxL := 1) (ret := none) (by decide) rfl ?_
  intro p e s m args below meth c s₁ B hml hv
  obtain ⟨rfl, hP, hK, hN⟩ := hv
  have hx := B.exec
  have hb := B.bytes
  have hr := B.returns
  have hts := atoms_spec (ws := wsX2_end) B.pre
  have hown : s.vm.findClass RX2 = some m.cls := findClass_of_methodNamed B.named
  have hlocks := B.notSynchronized
  have inX2 : ∀ w ∈ u_ws RX2 TX2 13, w ∈ wsX2_end := by decide +kernel
  have hS : va_S (fl_A 62 ad) s.heap s.heap [] := va_S.rf
  have hl := lv_entry ([.ref (ad 8)] : List Value) (n := 1) (Nat.le_of_ble_eq_true rfl)
  rw [lg_entry_eq]
  generalize (lg_sl ([.ref (ad 8)] : List Value) ++ List.replicate (1 - (lg_sl ([.ref (ad 8)] : List Value)).length) Slot.unset).toArray = ls at hl ⊢
  have hl : lv_has ls 1 [(0, .ref (ad 8))] := hl
  refine lv_aload_n hx hb dX2_end_0 rfl (lv_at hl 0 rfl) ?_
  refine lv_iconst (v := 0) hx hb dX2_end_1 (by decide) ?_
  refine fl_put (ci := 4) (ty := .int) (v := .int 0) (C := RX2) (T := TX2) (Nf := 13) hx hb hts inX2 tyX2 tyX2_ok nmX2 hown hK hJ hP hS 8 (by decide) (fl_sI M 8 2 0) rfl rfl 2 (by decide) (hts (.fieldLink RX2 51 "ResampledRows$Run" "n" "I") (by decide +kernel)) (fun _ h9 => h9) rfl (by decide +kernel) rfl rfl (Nat.le_of_ble_eq_true rfl) rfl (fl_sI_o (fc_loc cI cII ad) _ _ _ _) dX2_end_2 (fun H locs hP hS => ?_)
  refine lv_aload_n hx hb dX2_end_5 rfl (lv_at hl 0 rfl) ?_
  refine lv_iconst (v := 0) hx hb dX2_end_6 (by decide) ?_
  refine fl_put (ci := 4) (ty := .int) (v := .int 0) (C := RX2) (T := TX2) (Nf := 13) hx hb hts inX2 tyX2 tyX2_ok nmX2 hown hK hJ hP hS 8 (by decide) (fl_sI (fl_sI M 8 2 0) 8 3 0) rfl rfl 3 (by decide) (hts (.fieldLink RX2 54 "ResampledRows$Run" "steps" "I") (by decide +kernel)) (fun _ h9 => h9) rfl (by decide +kernel) rfl rfl (Nat.le_of_ble_eq_true rfl) rfl (fl_sI_o (fc_loc cI cII ad) _ _ _ _) dX2_end_7 (fun H locs hP hS => ?_)
  refine lv_aload_n hx hb dX2_end_10 rfl (lv_at hl 0 rfl) ?_
  refine lv_iconst (v := 0) hx hb dX2_end_11 (by decide) ?_
  refine fl_put (ci := 4) (ty := .int) (v := .int 0) (C := RX2) (T := TX2) (Nf := 13) hx hb hts inX2 tyX2 tyX2_ok nmX2 hown hK hJ hP hS 8 (by decide) (fl_sI (fl_sI (fl_sI M 8 2 0) 8 3 0) 8 4 0) rfl rfl 4 (by decide) (hts (.fieldLink RX2 61 "ResampledRows$Run" "timesAnew" "I") (by decide +kernel)) (fun _ h9 => h9) rfl (by decide +kernel) rfl rfl (Nat.le_of_ble_eq_true rfl) rfl (fl_sI_o (fc_loc cI cII ad) _ _ _ _) dX2_end_12 (fun H locs hP hS => ?_)
  refine lv_aload_n hx hb dX2_end_15 rfl (lv_at hl 0 rfl) ?_
  refine lv_ldc (v := -1000009) hx hb hown (hts (.constant RX2 22 (-1000009)) (by decide +kernel)) dX2_end_16 ?_
  refine fl_put (ci := 4) (ty := .int) (v := .int (-1000009)) (C := RX2) (T := TX2) (Nf := 13) hx hb hts inX2 tyX2 tyX2_ok nmX2 hown hK hJ hP hS 8 (by decide) (fl_sI (fl_sI (fl_sI (fl_sI M 8 2 0) 8 3 0) 8 4 0) 8 5 (-1000009)) rfl rfl 5 (by decide) (hts (.fieldLink RX2 23 "ResampledRows$Run" "kept" "I") (by decide +kernel)) (fun _ h9 => h9) rfl (by decide +kernel) rfl rfl (Nat.le_of_ble_eq_true rfl) rfl (fl_sI_o (fc_loc cI cII ad) _ _ _ _) dX2_end_18 (fun H locs hP hS => ?_)
  refine lv_aload_n hx hb dX2_end_21 rfl (lv_at hl 0 rfl) ?_
  refine lv_dconst1 hx hb dX2_end_22 ?_
  refine fl_put (ci := 4) (ty := .double) (v := .double FP.dconst1) (C := RX2) (T := TX2) (Nf := 13) hx hb hts inX2 tyX2 tyX2_ok nmX2 hown hK hJ hP hS 8 (by decide) (fl_sG (fl_sI (fl_sI (fl_sI (fl_sI M 8 2 0) 8 3 0) 8 4 0) 8 5 (-1000009)) 8 FP.dconst1) rfl rfl 6 (by decide) (hts (.fieldLink RX2 27 "ResampledRows$Run" "multiplied" "D") (by decide +kernel)) (fun _ h9 => h9) rfl (by decide +kernel) rfl rfl (Nat.le_of_ble_eq_true rfl) rfl (fl_sG_o (fc_loc cI cII ad) _ _ _) dX2_end_23 (fun H locs hP hS => ?_)
  exact W.vret hx hb hr (fun t ht hW => ⟨⟨(fl_sG (fl_sI (fl_sI (fl_sI (fl_sI M 8 2 0) 8 3 0) 8 4 0) 8 5 (-1000009)) 8 FP.dconst1), rfl, rfl, fl_qi ht hP⟩, hS.F ht⟩) hS.2.2 dX2_end_26

set_option maxHeartbeats 4000000 in
set_option maxRecDepth 100000 in
theorem c_X2_standsAt (l : Launch) {D : va_G} {cI cJ cII : ClassId} {ad : Nat → Nat} (hJ : fl_inj 62 ad) (M : fl_M) (n j : Nat) (st nm : Nat → Nat) (hn : n ≤ 16) (hn1 : M.1 8 2 = nI n) (hj : j < 2 ^ 31) (hs7 : fc_len (M.2.2.2 8 7) = 16) (hst : fl_row (M.1 (M.2.2.2 8 7)) st n 6) (hnm : fl_row (M.1 5) nm 6 4) : Met l yX2_standsAt wsX2_standsAt ({ frames := 0, cells := 0, slots := 0, locals := 0 } : Room) (fcPc D cI cJ cII ad M [.ref (ad 8), .int (nI j), .ref (ad 5)]) (va_Qi (fun r M2 => r = (if a_all (fun k => nm (st k) == j) n = true then 1 else 0) ∧ M2 = M) (fcQ D cI cII ad) (fl_A 62 ad)) 0 0 (fl_A 62 ad) := by
  refine Met.ofW (cc := cX2_standsAt) (maxL := 4) (ret := (some .boolean)) (by decide) rfl ?_
  intro p e s m args below meth c s₁ B hml hv
  obtain ⟨rfl, hP, hK, hN⟩ := hv
  have hx := B.exec
  have hb := B.bytes
  have hr := B.returns
  have hts := atoms_spec (ws := wsX2_standsAt) B.pre
  have hown : s.vm.findClass RX2 = some m.cls := findClass_of_methodNamed B.named
  have hlocks := B.notSynchronized
  have inX2 : ∀ w ∈ u_ws RX2 TX2 13, w ∈ wsX2_standsAt := by decide +kernel
  have hS : va_S (fl_A 62 ad) s.heap s.heap [] := va_S.rf
  have hl := lv_entry ([.ref (ad 8), .int (nI j), .ref (ad 5)] : List Value) (n := 4) (Nat.le_of_ble_eq_true rfl)
  rw [lg_entry_eq]
  generalize (lg_sl ([.ref (ad 8), .int (nI j), .ref (ad 5)] : List Value) ++ List.replicate (4 - (lg_sl ([.ref (ad 8), .int (nI j), .ref (ad 5)] : List Value)).length) Slot.unset).toArray = ls at hl ⊢
  have hl : lv_has ls 4 [(0, .ref (ad 8)), (1, .int (nI j)), (2, .ref (ad 5))] := hl
  refine lv_iconst (v := 0) hx hb dX2_standsAt_0 (by decide) ?_
  refine lv_istore_n (lv' := [(3, .int 0), (0, .ref (ad 8)), (1, .int (nI j)), (2, .ref (ad 5))]) hx hb dX2_standsAt_1 rfl hl (by decide) rfl (fun ls hl => ?_)
  suffices KL2 : ∀ (f : Nat) (i : Nat) (hi : i ≤ n) (ha : a_all (fun k => nm (st k) == j) i = true) (hf : n + 1 ≤ i + f), ∀ (H : Heap) (locs : List Loc), va_P D vwCl (fcP cI cII ad M) H → va_S (fl_A 62 ad) s.heap H locs → ∀ (ls : Array Slot), lv_has ls 4 [(0, .ref (ad 8)), (1, .int (nI j)), (2, .ref (ad 5)), (3, .int (nI i))] → W p l e (headSpec wsX2_standsAt ({ frames := 0, cells := 0, slots := 0, locals := 0 } : Room)).room s m ([.ref (ad 8), .int (nI j), .ref (ad 5)] : List Value).toArray below meth c H locs 0 0 (MQ below (va_Qi (fun r M2 => r = (if a_all (fun k => nm (st k) == j) n = true then 1 else 0) ∧ M2 = M) (fcQ D cI cII ad) (fl_A 62 ad)) ([.ref (ad 8), .int (nI j), .ref (ad 5)] : List Value).toArray s 0 0 (fl_A 62 ad)) (F0 m 2 ls []) from KL2 (n + 1) 0 (Nat.zero_le n) rfl (by omega) _ _ hP hS ls (lv_sub hl [1, 2, 3, 0] rfl)
  intro f
  induction f with
  | zero =>
    intro i hi ha hf
    omega
  | succ f ih2 =>
    intro i hi ha hf H locs hP hS ls hl
    refine lv_iload_n hx hb dX2_standsAt_2 rfl (lv_at hl 3 rfl) ?_
    refine lv_aload_n hx hb dX2_standsAt_3 rfl (lv_at hl 0 rfl) ?_
    refine va_get (D := D) (ci := 4) (v := .int (M.1 8 2)) (C := RX2) (T := TX2) (N := 13) hx hb hts inX2 hown hK hP 8 (fl_at (by decide) rfl) rfl 2 (by decide) (hts (.fieldLink RX2 51 "ResampledRows$Run" "n" "I") (by decide +kernel)) (fun _ h9 => h9) rfl dX2_standsAt_4 ?_
    refine fl_ti (y := nI n) hn1 ?_
    refine lv_icmp_ge (tgt := 30) hx hb dX2_standsAt_7 (by decide) (fun hc7 => ?_) (fun hc7 => ?_)
    · have e7 : i = n := Nat.le_antisymm hi ((nI_leI (by omega) (by omega)).mp hc7)
      refine lv_iconst (v := 1) hx hb dX2_standsAt_30 (by decide) ?_
      exact W.zret (v := 1) (ty := .boolean) hx hb hr rfl (fun t ht hW => ⟨⟨1, M, rfl, ⟨by rw [if_pos (e7 ▸ ha)], rfl⟩, fl_qi ht hP⟩, hS.F ht⟩) hS.2.2 dX2_standsAt_31
    · have l7 : i < n := Nat.lt_of_not_le (fun q => hc7 ((nI_leI (by omega) (by omega)).mpr q))
      refine lv_aload_n hx hb dX2_standsAt_10 rfl (lv_at hl 2 rfl) ?_
      refine lv_aload_n hx hb dX2_standsAt_11 rfl (lv_at hl 0 rfl) ?_
      refine va_get (D := D) (ci := 4) (v := .ref (ad (M.2.2.2 8 7))) (C := RX2) (T := TX2) (N := 13) hx hb hts inX2 hown hK hP 8 (fl_at (by decide) rfl) rfl 7 (by decide) (hts (.fieldLink RX2 31 "ResampledRows$Run" "states" "[I") (by decide +kernel)) (fun _ h9 => h9) rfl dX2_standsAt_12 ?_
      refine lv_iload_n hx hb dX2_standsAt_15 rfl (lv_at hl 3 rfl) ?_
      refine fl_ild (n := 16) (k := i) hx hb hK hP (fc_a cI cII ad _ hs7 (by decide)) rfl rfl (by omega) (by decide) dX2_standsAt_16 ?_
      refine fl_ti (y := nI (st i)) ((hst i l7).1) ?_
      refine fl_ild (n := 6) (k := (st i)) hx hb hK hP (fc_a cI cII ad _ rfl (by decide)) rfl rfl ((hst i l7).2) (by decide) dX2_standsAt_17 ?_
      refine fl_ti (y := nI (nm (st i))) ((hnm _ (hst i l7).2).1) ?_
      refine lv_iload_n hx hb dX2_standsAt_18 rfl (lv_at hl 1 rfl) ?_
      refine lv_icmp_eq (tgt := 24) hx hb dX2_standsAt_19 (by decide) (fun hc19 => ?_) (fun hc19 => ?_)
      · have g19 : nm (st i) = j := (nI_eq (by have := (hnm _ (hst i l7).2).2; omega) hj).mp hc19
        refine lv_iinc (v := nI (i + 1)) (lv' := [(3, .int (nI (i + 1))), (0, .ref (ad 8)), (1, .int (nI j)), (2, .ref (ad 5))]) hx hb dX2_standsAt_24 hl (k := 3) rfl (fl_inc i) (by decide) rfl (fun ls hl => ?_)
        refine lv_goto (tgt := 2) hx hb dX2_standsAt_27 (by decide) ?_
        exact ih2 (i + 1) (by omega) (by show (a_all _ i && _) = true; rw [ha, Bool.true_and]; exact beq_iff_eq.mpr g19) (by omega) _ _ hP hS ls (lv_sub hl [1, 2, 3, 0] rfl)
      · have g19 : ¬ nm (st i) = j := fun q => hc19 (by rw [q])
        refine lv_iconst (v := 0) hx hb dX2_standsAt_22 (by decide) ?_
        exact W.zret (v := 0) (ty := .boolean) hx hb hr rfl (fun t ht hW => ⟨⟨0, M, rfl, ⟨by rw [if_neg]; rw [a_all_false (q := fun k => nm (st k) == j) (i := i) (beq_false_of_ne g19) n l7]; decide, rfl⟩, fl_qi ht hP⟩, hS.F ht⟩) hS.2.2 dX2_standsAt_23

set_option maxHeartbeats 4000000 in
set_option maxRecDepth 100000 in
theorem c_X2_total (l : Launch) {D : va_G} {cI cJ cII : ClassId} {ad : Nat → Nat} (hJ : fl_inj 62 ad) (M : fl_M) (n : Nat) (w : Nat → Nat) (hn : n ≤ 16) (hn1 : M.1 8 2 = nI n) (hw8 : fc_len (M.2.2.2 8 8) = 16) (hw : fl_row (M.1 (M.2.2.2 8 8)) w n 1000001) : Met l yX2_total wsX2_total ({ frames := 1, cells := 0, slots := 0, locals := 24 } : Room) (fcPc D cI cJ cII ad M [.ref (ad 8)]) (va_Ql (fun r M2 => r = lN (a_sum w n) ∧ M2 = M) (fcQ D cI cII ad) (fl_A 62 ad)) 0 0 (fl_A 62 ad) := by
  refine Met.ofW (cc := cX2_total) (maxL := 1) (ret := (some .long)) (by decide) rfl ?_
  intro p e s m args below meth c s₁ B hml hv
  obtain ⟨rfl, hP, hK, hN⟩ := hv
  have hx := B.exec
  have hb := B.bytes
  have hr := B.returns
  have hts := atoms_spec (ws := wsX2_total) B.pre
  have hown : s.vm.findClass RX2 = some m.cls := findClass_of_methodNamed B.named
  have hlocks := B.notSynchronized
  have inX2 : ∀ w ∈ u_ws RX2 TX2 13, w ∈ wsX2_total := by decide +kernel
  have hS : va_S (fl_A 62 ad) s.heap s.heap [] := va_S.rf
  have hl := lv_entry ([.ref (ad 8)] : List Value) (n := 1) (Nat.le_of_ble_eq_true rfl)
  rw [lg_entry_eq]
  generalize (lg_sl ([.ref (ad 8)] : List Value) ++ List.replicate (1 - (lg_sl ([.ref (ad 8)] : List Value)).length) Slot.unset).toArray = ls at hl ⊢
  have hl : lv_has ls 1 [(0, .ref (ad 8))] := hl
  have hw0 := hw
  refine lv_aload_n hx hb dX2_total_0 rfl (lv_at hl 0 rfl) ?_
  refine va_get (D := D) (ci := 4) (v := .ref (ad (M.2.2.2 8 8))) (C := RX2) (T := TX2) (N := 13) hx hb hts inX2 hown hK hP 8 (fl_at (by decide) rfl) rfl 8 (by decide) (hts (.fieldLink RX2 34 "ResampledRows$Run" "weights" "[I") (by decide +kernel)) (fun _ h9 => h9) rfl dX2_total_1 ?_
  refine lv_aload_n hx hb dX2_total_4 rfl (lv_at hl 0 rfl) ?_
  refine va_get (D := D) (ci := 4) (v := .int (M.1 8 2)) (C := RX2) (T := TX2) (N := 13) hx hb hts inX2 hown hK hP 8 (fl_at (by decide) rfl) rfl 2 (by decide) (hts (.fieldLink RX2 51 "ResampledRows$Run" "n" "I") (by decide +kernel)) (fun _ h9 => h9) rfl dX2_total_5 ?_
  refine fl_ti (y := nI n) hn1 ?_
  refine va_calll (va_runSN (As := [.ref (ad (M.2.2.2 8 8)), .int (nI n)]) (rest := []) ⟨hx, hb, hml, hown, hts⟩ (c_X4_sumOf l hJ M _ 16 n hw8 (by decide) hn) ⟨va_cnB 2 hts gX2_total_X4_sumOf_n79 rfl rfl rfl hN.2.2.2 (hts (.initialized RX4) (by decide +kernel)) (by decide +kernel) ⟨Nat.le_of_ble_eq_true rfl, Nat.le_of_ble_eq_true rfl⟩, hts (.static yX4_sumOf) (by decide +kernel), trivial⟩ ⟨fl_blind, fl_pre hP hK hN⟩ rfl rfl hl.1 rfl (lv_room (Nat.le_of_ble_eq_true rfl)) dX2_total_8 ⟨Nat.le_of_ble_eq_true rfl, Nat.le_of_ble_eq_true rfl⟩) hS (fun _ _ h => h) (fun _ h => h) (fun r8 M8 t H1 locs ht hvm hw hB hz1 hk1 hS => ?_)
  have hP : va_P D vwCl (fcP cI cII ad M8) H1 := by rw [← ht]; exact hB
  clear hB hk1 hz1 hvm ht t
  obtain ⟨rfl, hE⟩ := hw
  rw [hE] at hP
  refine fl_tl (y := lN (a_sum w n)) (a_row_sum hw0) ?_
  exact W.lret (v := lN (a_sum w n)) hx hb hr (fun t ht hW => ⟨⟨lN (a_sum w n), M, rfl, ⟨rfl, rfl⟩, fl_qi ht hP⟩, hS.F ht⟩) hS.2.2 dX2_total_11

set_option maxHeartbeats 4000000 in
set_option maxRecDepth 100000 in
theorem c_X2_squares (l : Launch) {D : va_G} {cI cJ cII : ClassId} {ad : Nat → Nat} (hJ : fl_inj 62 ad) (M : fl_M) (n : Nat) (w : Nat → Nat) (hn : n ≤ 16) (hn1 : M.1 8 2 = nI n) (hw8 : fc_len (M.2.2.2 8 8) = 16) (hw : fl_row (M.1 (M.2.2.2 8 8)) w n 1000001) : Met l yX2_squares wsX2_squares ({ frames := 0, cells := 0, slots := 0, locals := 0 } : Room) (fcPc D cI cJ cII ad M [.ref (ad 8)]) (va_Ql (fun r M2 => r = lN (a_sum (fun k => w k * w k) n) ∧ M2 = M) (fcQ D cI cII ad) (fl_A 62 ad)) 0 0 (fl_A 62 ad) := by
  refine Met.ofW (cc := cX2_squares) (maxL := 4) (ret := (some .long)) (by decide) rfl ?_
  intro p e s m args below meth c s₁ B hml hv
  obtain ⟨rfl, hP, hK, hN⟩ := hv
  have hx := B.exec
  have hb := B.bytes
  have hr := B.returns
  have hts := atoms_spec (ws := wsX2_squares) B.pre
  have hown : s.vm.findClass RX2 = some m.cls := findClass_of_methodNamed B.named
  have hlocks := B.notSynchronized
  have inX2 : ∀ w ∈ u_ws RX2 TX2 13, w ∈ wsX2_squares := by decide +kernel
  have hS : va_S (fl_A 62 ad) s.heap s.heap [] := va_S.rf
  have hl := lv_entry ([.ref (ad 8)] : List Value) (n := 4) (Nat.le_of_ble_eq_true rfl)
  rw [lg_entry_eq]
  generalize (lg_sl ([.ref (ad 8)] : List Value) ++ List.replicate (4 - (lg_sl ([.ref (ad 8)] : List Value)).length) Slot.unset).toArray = ls at hl ⊢
  have hl : lv_has ls 4 [(0, .ref (ad 8))] := hl
  refine lv_lconst (v := 0) hx hb dX2_squares_0 (by decide) ?_
  refine lv_lstore_n (lv' := [(1, .long 0), (0, .ref (ad 8))]) hx hb dX2_squares_1 rfl hl (by decide) rfl (fun ls hl => ?_)
  refine lv_iconst (v := 0) hx hb dX2_squares_2 (by decide) ?_
  refine lv_istore_n (lv' := [(3, .int 0), (1, .long 0), (0, .ref (ad 8))]) hx hb dX2_squares_3 rfl hl (by decide) rfl (fun ls hl => ?_)
  suffices KL4 : ∀ (f : Nat) (i : Nat) (hi : i ≤ n) (hf : n + 1 ≤ i + f), ∀ (H : Heap) (locs : List Loc), va_P D vwCl (fcP cI cII ad M) H → va_S (fl_A 62 ad) s.heap H locs → ∀ (ls : Array Slot), lv_has ls 4 [(0, .ref (ad 8)), (1, .long (lN (a_sum (fun k => w k * w k) i))), (3, .int (nI i))] → W p l e (headSpec wsX2_squares ({ frames := 0, cells := 0, slots := 0, locals := 0 } : Room)).room s m ([.ref (ad 8)] : List Value).toArray below meth c H locs 0 0 (MQ below (va_Ql (fun r M2 => r = lN (a_sum (fun k => w k * w k) n) ∧ M2 = M) (fcQ D cI cII ad) (fl_A 62 ad)) ([.ref (ad 8)] : List Value).toArray s 0 0 (fl_A 62 ad)) (F0 m 4 ls []) from KL4 (n + 1) 0 (Nat.zero_le n) (by omega) _ _ hP hS ls (lv_sub hl [2, 1, 0] rfl)
  intro f
  induction f with
  | zero =>
    intro i hi hf
    omega
  | succ f ih4 =>
    intro i hi hf H locs hP hS ls hl
    refine lv_iload_n hx hb dX2_squares_4 rfl (lv_at hl 2 rfl) ?_
    refine lv_aload_n hx hb dX2_squares_5 rfl (lv_at hl 0 rfl) ?_
    refine va_get (D := D) (ci := 4) (v := .int (M.1 8 2)) (C := RX2) (T := TX2) (N := 13) hx hb hts inX2 hown hK hP 8 (fl_at (by decide) rfl) rfl 2 (by decide) (hts (.fieldLink RX2 51 "ResampledRows$Run" "n" "I") (by decide +kernel)) (fun _ h9 => h9) rfl dX2_squares_6 ?_
    refine fl_ti (y := nI n) hn1 ?_
    refine lv_icmp_ge (tgt := 36) hx hb dX2_squares_9 (by decide) (fun hc9 => ?_) (fun hc9 => ?_)
    · have e9 : i = n := Nat.le_antisymm hi ((nI_leI (by omega) (by omega)).mp hc9)
      refine lv_lload_n hx hb dX2_squares_36 rfl (lv_at hl 1 rfl) ?_
      exact W.lret (v := lN (a_sum (fun k => w k * w k) i)) hx hb hr (fun t ht hW => ⟨⟨lN (a_sum (fun k => w k * w k) i), M, rfl, ⟨by rw [e9], rfl⟩, fl_qi ht hP⟩, hS.F ht⟩) hS.2.2 dX2_squares_37
    · have l9 : i < n := Nat.lt_of_not_le (fun q => hc9 ((nI_leI (by omega) (by omega)).mpr q))
      refine lv_lload_n hx hb dX2_squares_12 rfl (lv_at hl 1 rfl) ?_
      refine lv_aload_n hx hb dX2_squares_13 rfl (lv_at hl 0 rfl) ?_
      refine va_get (D := D) (ci := 4) (v := .ref (ad (M.2.2.2 8 8))) (C := RX2) (T := TX2) (N := 13) hx hb hts inX2 hown hK hP 8 (fl_at (by decide) rfl) rfl 8 (by decide) (hts (.fieldLink RX2 34 "ResampledRows$Run" "weights" "[I") (by decide +kernel)) (fun _ h9 => h9) rfl dX2_squares_14 ?_
      refine lv_iload_n hx hb dX2_squares_17 rfl (lv_at hl 2 rfl) ?_
      refine fl_ild (n := 16) (k := i) hx hb hK hP (fc_a cI cII ad _ hw8 (by decide)) rfl rfl (by omega) (by decide) dX2_squares_18 ?_
      refine lv_i2l (v := (M.1 (M.2.2.2 8 8) i).toInt64) hx hb dX2_squares_19 rfl ?_
      refine lv_aload_n hx hb dX2_squares_20 rfl (lv_at hl 0 rfl) ?_
      refine va_get (D := D) (ci := 4) (v := .ref (ad (M.2.2.2 8 8))) (C := RX2) (T := TX2) (N := 13) hx hb hts inX2 hown hK hP 8 (fl_at (by decide) rfl) rfl 8 (by decide) (hts (.fieldLink RX2 34 "ResampledRows$Run" "weights" "[I") (by decide +kernel)) (fun _ h9 => h9) rfl dX2_squares_21 ?_
      refine lv_iload_n hx hb dX2_squares_24 rfl (lv_at hl 2 rfl) ?_
      refine fl_ild (n := 16) (k := i) hx hb hK hP (fc_a cI cII ad _ hw8 (by decide)) rfl rfl (by omega) (by decide) dX2_squares_25 ?_
      refine lv_i2l (v := (M.1 (M.2.2.2 8 8) i).toInt64) hx hb dX2_squares_26 rfl ?_
      refine lv_lmul hx hb dX2_squares_27 ?_
      refine lv_ladd hx hb dX2_squares_28 ?_
      refine fl_tl (y := lN (a_sum (fun k => w k * w k) (i + 1))) (fl_sq (hw i l9).1 (by have := (hw i l9).2; omega)) ?_
      refine lv_lstore_n (lv' := [(1, .long (lN (a_sum (fun k => w k * w k) (i + 1)))), (0, .ref (ad 8)), (3, .int (nI i))]) hx hb dX2_squares_29 rfl hl (by decide) rfl (fun ls hl => ?_)
      refine lv_iinc (v := nI (i + 1)) (lv' := [(3, .int (nI (i + 1))), (1, .long (lN (a_sum (fun k => w k * w k) (i + 1)))), (0, .ref (ad 8))]) hx hb dX2_squares_30 hl (k := 2) rfl (fl_inc i) (by decide) rfl (fun ls hl => ?_)
      refine lv_goto (tgt := 4) hx hb dX2_squares_33 (by decide) ?_
      exact ih4 (i + 1) (by omega) (by omega) _ _ hP hS ls (lv_sub hl [2, 1, 0] rfl)

abbrev a_Q (w : Nat → Nat) (n : Nat) : Nat := a_sum (fun k => w k * w k) n
theorem a_Q_le {f : Nat → Int32} {w : Nat → Nat} {n : Nat} (h : fl_row f w n 1000001) (hn : n ≤ 16) : a_Q w n ≤ 16000000000000 ∧ a_sum w n ≤ 16000000 ∧ a_sum w n * a_sum w n ≤ 256000000000000 := by
  have h1 : a_sum w n ≤ n * 1000000 := a_row_le h
  have h2 : a_Q w n ≤ n * 1000000000000 := a_sum_le _ n (fun j hj => by
    have h3 := Nat.le_of_lt_succ (h j hj).2
    exact Nat.mul_le_mul h3 h3)
  have h4 : a_sum w n ≤ 16000000 := by omega
  exact ⟨by omega, h4, Nat.mul_le_mul h4 h4⟩
def a_eff (w : Nat → Nat) (n : Nat) : Nat := if a_Q w n = 0 then 0 else a_sum w n * a_sum w n / a_Q w n

set_option maxHeartbeats 4000000 in
set_option maxRecDepth 100000 in
theorem c_X2_effective (l : Launch) {D : va_G} {cI cJ cII : ClassId} {ad : Nat → Nat} (hJ : fl_inj 62 ad) (M : fl_M) (n : Nat) (w : Nat → Nat) (hn : n ≤ 16) (hn1 : M.1 8 2 = nI n) (hw8 : fc_len (M.2.2.2 8 8) = 16) (hw : fl_row (M.1 (M.2.2.2 8 8)) w n 1000001) : Met l yX2_effective wsX2_effective ({ frames := 2, cells := 0, slots := 0, locals := 44 } : Room) (fcPc D cI cJ cII ad M [.ref (ad 8)]) (va_Ql (fun r M2 => r = lN (a_eff w n) ∧ M2 = M) (fcQ D cI cII ad) (fl_A 62 ad)) 0 0 (fl_A 62 ad) := by
  refine Met.ofW (cc := cX2_effective) (maxL := 3) (ret := (some .long)) (by decide) rfl ?_
  intro p e s m args below meth c s₁ B hml hv
  obtain ⟨rfl, hP, hK, hN⟩ := hv
  have hx := B.exec
  have hb := B.bytes
  have hr := B.returns
  have hts := atoms_spec (ws := wsX2_effective) B.pre
  have hown : s.vm.findClass RX2 = some m.cls := findClass_of_methodNamed B.named
  have hlocks := B.notSynchronized
  have hS : va_S (fl_A 62 ad) s.heap s.heap [] := va_S.rf
  have hl := lv_entry ([.ref (ad 8)] : List Value) (n := 3) (Nat.le_of_ble_eq_true rfl)
  rw [lg_entry_eq]
  generalize (lg_sl ([.ref (ad 8)] : List Value) ++ List.replicate (3 - (lg_sl ([.ref (ad 8)] : List Value)).length) Slot.unset).toArray = ls at hl ⊢
  have hl : lv_has ls 3 [(0, .ref (ad 8))] := hl
  obtain ⟨b1, b2, b3⟩ := a_Q_le hw hn
  have hw0 := hw
  refine lv_aload_n hx hb dX2_effective_0 rfl (lv_at hl 0 rfl) ?_
  refine va_calll (va_runV (As := []) (rest := []) ⟨hx, hb, hml, hown, hts⟩ (c_X2_squares l hJ M n w hn hn1 hw8 hw0) (cwV 0 hts gX2_effective_X2_squares rfl rfl rfl (by decide +kernel) ⟨Nat.le_of_ble_eq_true rfl, Nat.le_of_ble_eq_true rfl⟩) ⟨fl_blind, va_recv hK hP (ci := 4) (q0 := 8) rfl (fl_at (by decide) rfl), fl_pre hP hK hN⟩ rfl rfl hl.1 rfl (lv_room (Nat.le_of_ble_eq_true rfl)) dX2_effective_1 ⟨Nat.le_of_ble_eq_true rfl, Nat.le_of_ble_eq_true rfl⟩) hS (fun _ _ h => h) (fun _ h => h) (fun r1 M1 t H1 locs ht hvm hw hB hz1 hk1 hS => ?_)
  have hP : va_P D vwCl (fcP cI cII ad M1) H1 := by rw [← ht]; exact hB
  clear hB hk1 hz1 hvm ht t
  obtain ⟨rfl, hE⟩ := hw
  rw [hE] at hP
  refine lv_lstore_n (lv' := [(1, .long (lN (a_Q w n))), (0, .ref (ad 8))]) hx hb dX2_effective_4 rfl hl (by decide) rfl (fun ls hl => ?_)
  refine lv_lload_n hx hb dX2_effective_5 rfl (lv_at hl 0 rfl) ?_
  refine lv_lconst (v := 0) hx hb dX2_effective_6 (by decide) ?_
  refine fl_lne (tgt := 15) hx hb dX2_effective_7 dX2_effective_8 (by decide) (fun hc7 => ?_) (fun hc7 => ?_)
  · have g7 : ¬ a_Q w n = 0 := fun q => hc7 (by rw [q]; rfl)
    refine lv_aload_n hx hb dX2_effective_15 rfl (lv_at hl 1 rfl) ?_
    refine va_calll (va_runV (As := []) (rest := []) ⟨hx, hb, hml, hown, hts⟩ (c_X2_total l hJ M n w hn hn1 hw8 hw0) (cwV 0 hts gX2_effective_X2_total rfl rfl rfl (by decide +kernel) ⟨Nat.le_of_ble_eq_true rfl, Nat.le_of_ble_eq_true rfl⟩) ⟨fl_blind, va_recv hK hP (ci := 4) (q0 := 8) rfl (fl_at (by decide) rfl), fl_pre hP hK hN⟩ rfl rfl hl.1 rfl (lv_room (Nat.le_of_ble_eq_true rfl)) dX2_effective_16 ⟨Nat.le_of_ble_eq_true rfl, Nat.le_of_ble_eq_true rfl⟩) hS (fun _ _ h => h) (fun _ h => h) (fun r16 M16 t H1 locs ht hvm hw hB hz1 hk1 hS => ?_)
    have hP : va_P D vwCl (fcP cI cII ad M16) H1 := by rw [← ht]; exact hB
    clear hB hk1 hz1 hvm ht t
    obtain ⟨rfl, hE⟩ := hw
    rw [hE] at hP
    refine lv_aload_n hx hb dX2_effective_19 rfl (lv_at hl 1 rfl) ?_
    refine va_calll (va_runV (As := []) (rest := [.long (lN (a_sum w n))]) ⟨hx, hb, hml, hown, hts⟩ (c_X2_total l hJ M n w hn hn1 hw8 hw0) (cwV 0 hts gX2_effective_X2_total rfl rfl rfl (by decide +kernel) ⟨Nat.le_of_ble_eq_true rfl, Nat.le_of_ble_eq_true rfl⟩) ⟨fl_blind, va_recv hK hP (ci := 4) (q0 := 8) rfl (fl_at (by decide) rfl), fl_pre hP hK hN⟩ rfl rfl hl.1 rfl (lv_room (Nat.le_of_ble_eq_true rfl)) dX2_effective_20 ⟨Nat.le_of_ble_eq_true rfl, Nat.le_of_ble_eq_true rfl⟩) hS (fun _ _ h => h) (fun _ h => h) (fun r20 M20 t H1 locs ht hvm hw hB hz1 hk1 hS => ?_)
    have hP : va_P D vwCl (fcP cI cII ad M20) H1 := by rw [← ht]; exact hB
    clear hB hk1 hz1 hvm ht t
    obtain ⟨rfl, hE⟩ := hw
    rw [hE] at hP
    refine lv_lmul hx hb dX2_effective_23 ?_
    refine lv_lload_n hx hb dX2_effective_24 rfl (lv_at hl 0 rfl) ?_
    refine lv_ldiv hx hb dX2_effective_25 hc7 ?_
    exact W.lret (v := ((lN (a_sum w n)) * (lN (a_sum w n))) / (lN (a_Q w n))) hx hb hr (fun t ht hW => ⟨⟨((lN (a_sum w n)) * (lN (a_sum w n))) / (lN (a_Q w n)), M, rfl, ⟨by unfold a_eff; rw [if_neg g7, lN_mul, pk_lDiv (by omega) (by omega) (by omega)], rfl⟩, fl_qi ht hP⟩, hS.F ht⟩) hS.2.2 dX2_effective_26
  · have g7 : a_Q w n = 0 := (pk_lEQ (b := 0) (by omega) (by decide)).mp hc7
    refine lv_lconst (v := 0) hx hb dX2_effective_11 (by decide) ?_
    refine lv_goto (tgt := 26) hx hb dX2_effective_12 (by decide) ?_
    exact W.lret (v := 0) hx hb hr (fun t ht hW => ⟨⟨0, M, rfl, ⟨by unfold a_eff; rw [if_pos g7]; rfl, rfl⟩, fl_qi ht hP⟩, hS.F ht⟩) hS.2.2 dX2_effective_26

set_option maxHeartbeats 4000000 in
set_option maxRecDepth 100000 in
theorem c_X2_isEffectiveBelow (l : Launch) {D : va_G} {cI cJ cII : ClassId} {ad : Nat → Nat} (hJ : fl_inj 62 ad) (M : fl_M) (n : Nat) (w : Nat → Nat) (hn : n ≤ 16) (hn1 : M.1 8 2 = nI n) (hw8 : fc_len (M.2.2.2 8 8) = 16) (hw : fl_row (M.1 (M.2.2.2 8 8)) w n 1000001) (pt : Nat) (hpt : pt ≤ 100) : Met l yX2_isEffectiveBelow wsX2_isEffectiveBelow ({ frames := 2, cells := 0, slots := 0, locals := 44 } : Room) (fcPc D cI cJ cII ad M [.ref (ad 8), .int (nI pt)]) (va_Qi (fun r M2 => r = (if 100 * a_sum w n * a_sum w n < pt * n * a_Q w n then 1 else 0) ∧ M2 = M) (fcQ D cI cII ad) (fl_A 62 ad)) 0 0 (fl_A 62 ad) := by
  refine Met.ofW (cc := cX2_isEffectiveBelow) (maxL := 2) (ret := (some .boolean)) (by decide) rfl ?_
  intro p e s m args below meth c s₁ B hml hv
  obtain ⟨rfl, hP, hK, hN⟩ := hv
  have hx := B.exec
  have hb := B.bytes
  have hr := B.returns
  have hts := atoms_spec (ws := wsX2_isEffectiveBelow) B.pre
  have hown : s.vm.findClass RX2 = some m.cls := findClass_of_methodNamed B.named
  have hlocks := B.notSynchronized
  have inX2 : ∀ w ∈ u_ws RX2 TX2 13, w ∈ wsX2_isEffectiveBelow := by decide +kernel
  have hS : va_S (fl_A 62 ad) s.heap s.heap [] := va_S.rf
  have hl := lv_entry ([.ref (ad 8), .int (nI pt)] : List Value) (n := 2) (Nat.le_of_ble_eq_true rfl)
  rw [lg_entry_eq]
  generalize (lg_sl ([.ref (ad 8), .int (nI pt)] : List Value) ++ List.replicate (2 - (lg_sl ([.ref (ad 8), .int (nI pt)] : List Value)).length) Slot.unset).toArray = ls at hl ⊢
  have hl : lv_has ls 2 [(0, .ref (ad 8)), (1, .int (nI pt))] := hl
  obtain ⟨b1, b2, b3⟩ := a_Q_le hw hn
  have hw0 := hw
  have b4 : 100 * a_sum w n * a_sum w n ≤ 25600000000000000 := by rw [Nat.mul_assoc]; omega
  have b5 : pt * n ≤ 1600 := Nat.mul_le_mul hpt hn
  have b6 : pt * n * a_Q w n ≤ 1600 * 16000000000000 := Nat.mul_le_mul b5 b1
  refine lv_ldc2 (v := 100) hx hb hown (hts (.constantLong RX2 90 (100)) (by decide +kernel)) dX2_isEffectiveBelow_0 ?_
  refine lv_aload_n hx hb dX2_isEffectiveBelow_3 rfl (lv_at hl 0 rfl) ?_
  refine va_calll (va_runV (As := []) (rest := [.long 100]) ⟨hx, hb, hml, hown, hts⟩ (c_X2_total l hJ M n w hn hn1 hw8 hw0) (cwV 0 hts gX2_isEffectiveBelow_X2_total rfl rfl rfl (by decide +kernel) ⟨Nat.le_of_ble_eq_true rfl, Nat.le_of_ble_eq_true rfl⟩) ⟨fl_blind, va_recv hK hP (ci := 4) (q0 := 8) rfl (fl_at (by decide) rfl), fl_pre hP hK hN⟩ rfl rfl hl.1 rfl (lv_room (Nat.le_of_ble_eq_true rfl)) dX2_isEffectiveBelow_4 ⟨Nat.le_of_ble_eq_true rfl, Nat.le_of_ble_eq_true rfl⟩) hS (fun _ _ h => h) (fun _ h => h) (fun r4 M4 t H1 locs ht hvm hw hB hz1 hk1 hS => ?_)
  have hP : va_P D vwCl (fcP cI cII ad M4) H1 := by rw [← ht]; exact hB
  clear hB hk1 hz1 hvm ht t
  obtain ⟨rfl, hE⟩ := hw
  rw [hE] at hP
  refine lv_lmul hx hb dX2_isEffectiveBelow_7 ?_
  refine fl_tl (y := lN (100 * a_sum w n)) (lN_mul 100 _) ?_
  refine lv_aload_n hx hb dX2_isEffectiveBelow_8 rfl (lv_at hl 0 rfl) ?_
  refine va_calll (va_runV (As := []) (rest := [.long (lN (100 * a_sum w n))]) ⟨hx, hb, hml, hown, hts⟩ (c_X2_total l hJ M n w hn hn1 hw8 hw0) (cwV 0 hts gX2_isEffectiveBelow_X2_total rfl rfl rfl (by decide +kernel) ⟨Nat.le_of_ble_eq_true rfl, Nat.le_of_ble_eq_true rfl⟩) ⟨fl_blind, va_recv hK hP (ci := 4) (q0 := 8) rfl (fl_at (by decide) rfl), fl_pre hP hK hN⟩ rfl rfl hl.1 rfl (lv_room (Nat.le_of_ble_eq_true rfl)) dX2_isEffectiveBelow_9 ⟨Nat.le_of_ble_eq_true rfl, Nat.le_of_ble_eq_true rfl⟩) hS (fun _ _ h => h) (fun _ h => h) (fun r9 M9 t H1 locs ht hvm hw hB hz1 hk1 hS => ?_)
  have hP : va_P D vwCl (fcP cI cII ad M9) H1 := by rw [← ht]; exact hB
  clear hB hk1 hz1 hvm ht t
  obtain ⟨rfl, hE⟩ := hw
  rw [hE] at hP
  refine lv_lmul hx hb dX2_isEffectiveBelow_12 ?_
  refine fl_tl (y := lN (100 * a_sum w n * a_sum w n)) (lN_mul _ _) ?_
  refine lv_iload_n hx hb dX2_isEffectiveBelow_13 rfl (lv_at hl 1 rfl) ?_
  refine lv_aload_n hx hb dX2_isEffectiveBelow_14 rfl (lv_at hl 0 rfl) ?_
  refine va_get (D := D) (ci := 4) (v := .int (M.1 8 2)) (C := RX2) (T := TX2) (N := 13) hx hb hts inX2 hown hK hP 8 (fl_at (by decide) rfl) rfl 2 (by decide) (hts (.fieldLink RX2 51 "ResampledRows$Run" "n" "I") (by decide +kernel)) (fun _ h9 => h9) rfl dX2_isEffectiveBelow_15 ?_
  refine fl_ti (y := nI n) hn1 ?_
  refine lv_imul hx hb dX2_isEffectiveBelow_18 ?_
  refine fl_ti (y := nI (pt * n)) (pk_mul _ _) ?_
  refine lv_i2l (v := (nI (pt * n)).toInt64) hx hb dX2_isEffectiveBelow_19 rfl ?_
  refine fl_tl (y := lN (pt * n)) (nI_l (by omega)) ?_
  refine lv_aload_n hx hb dX2_isEffectiveBelow_20 rfl (lv_at hl 0 rfl) ?_
  refine va_calll (va_runV (As := []) (rest := [.long (lN (pt * n)), .long (lN (100 * a_sum w n * a_sum w n))]) ⟨hx, hb, hml, hown, hts⟩ (c_X2_squares l hJ M n w hn hn1 hw8 hw0) (cwV 0 hts gX2_isEffectiveBelow_X2_squares rfl rfl rfl (by decide +kernel) ⟨Nat.le_of_ble_eq_true rfl, Nat.le_of_ble_eq_true rfl⟩) ⟨fl_blind, va_recv hK hP (ci := 4) (q0 := 8) rfl (fl_at (by decide) rfl), fl_pre hP hK hN⟩ rfl rfl hl.1 rfl (lv_room (Nat.le_of_ble_eq_true rfl)) dX2_isEffectiveBelow_21 ⟨Nat.le_of_ble_eq_true rfl, Nat.le_of_ble_eq_true rfl⟩) hS (fun _ _ h => h) (fun _ h => h) (fun r21 M21 t H1 locs ht hvm hw hB hz1 hk1 hS => ?_)
  have hP : va_P D vwCl (fcP cI cII ad M21) H1 := by rw [← ht]; exact hB
  clear hB hk1 hz1 hvm ht t
  obtain ⟨rfl, hE⟩ := hw
  rw [hE] at hP
  refine lv_lmul hx hb dX2_isEffectiveBelow_24 ?_
  refine fl_tl (y := lN (pt * n * a_Q w n)) (lN_mul _ _) ?_
  refine fl_lge (tgt := 33) hx hb dX2_isEffectiveBelow_25 dX2_isEffectiveBelow_26 (by decide) (fun hc25 => ?_) (fun hc25 => ?_)
  · have g25 : ¬ 100 * a_sum w n * a_sum w n < pt * n * a_Q w n := Nat.not_lt.mpr ((pk_lLE (by omega) (by omega)).mp hc25)
    refine lv_iconst (v := 0) hx hb dX2_isEffectiveBelow_33 (by decide) ?_
    exact W.zret (v := 0) (ty := .boolean) hx hb hr rfl (fun t ht hW => ⟨⟨0, M, rfl, ⟨by first | rw [if_pos g25] | rw [if_neg g25], rfl⟩, fl_qi ht hP⟩, hS.F ht⟩) hS.2.2 dX2_isEffectiveBelow_34
  · have g25 : 100 * a_sum w n * a_sum w n < pt * n * a_Q w n := Nat.lt_of_not_le (fun q => hc25 ((pk_lLE (by omega) (by omega)).mpr q))
    refine lv_iconst (v := 1) hx hb dX2_isEffectiveBelow_29 (by decide) ?_
    refine lv_goto (tgt := 34) hx hb dX2_isEffectiveBelow_30 (by decide) ?_
    exact W.zret (v := 1) (ty := .boolean) hx hb hr rfl (fun t ht hW => ⟨⟨1, M, rfl, ⟨by first | rw [if_pos g25] | rw [if_neg g25], rfl⟩, fl_qi ht hP⟩, hS.F ht⟩) hS.2.2 dX2_isEffectiveBelow_34

set_option maxHeartbeats 4000000 in
set_option maxRecDepth 100000 in
theorem c_X2_takeNextStatesAndWeights (l : Launch) {D : va_G} {cI cJ cII : ClassId} {ad : Nat → Nat} (hJ : fl_inj 62 ad) (M : fl_M) : Met l yX2_takeNextStatesAndWeights wsX2_takeNextStatesAndWeights ({ frames := 0, cells := 0, slots := 0, locals := 0 } : Room) (fcPc D cI cJ cII ad M [.ref (ad 8)]) (va_Qv (fun M2 => M2 = fl_sR (fl_sR (fl_sR (fl_sR M 8 7 (M.2.2.2 8 10)) 8 10 (M.2.2.2 8 7)) 8 8 (M.2.2.2 8 11)) 8 11 (M.2.2.2 8 8)) (fcQ D cI cII ad) (fl_A 62 ad)) 0 0 (fl_A 62 ad) := by
  refine Met.ofW (cc := cX2_takeNextStatesAndWeights) (maxL := 3) (ret := none) (by decide) rfl ?_
  intro p e s m args below meth c s₁ B hml hv
  obtain ⟨rfl, hP, hK, hN⟩ := hv
  have hx := B.exec
  have hb := B.bytes
  have hr := B.returns
  have hts := atoms_spec (ws := wsX2_takeNextStatesAndWeights) B.pre
  have hown : s.vm.findClass RX2 = some m.cls := findClass_of_methodNamed B.named
  have hlocks := B.notSynchronized
  have inX2 : ∀ w ∈ u_ws RX2 TX2 13, w ∈ wsX2_takeNextStatesAndWeights := by decide +kernel
  have hS : va_S (fl_A 62 ad) s.heap s.heap [] := va_S.rf
  have hl := lv_entry ([.ref (ad 8)] : List Value) (n := 3) (Nat.le_of_ble_eq_true rfl)
  rw [lg_entry_eq]
  generalize (lg_sl ([.ref (ad 8)] : List Value) ++ List.replicate (3 - (lg_sl ([.ref (ad 8)] : List Value)).length) Slot.unset).toArray = ls at hl ⊢
  have hl : lv_has ls 3 [(0, .ref (ad 8))] := hl
  refine lv_aload_n hx hb dX2_takeNextStatesAndWeights_0 rfl (lv_at hl 0 rfl) ?_
  refine va_get (D := D) (ci := 4) (v := .ref (ad (M.2.2.2 8 7))) (C := RX2) (T := TX2) (N := 13) hx hb hts inX2 hown hK hP 8 (fl_at (by decide) rfl) rfl 7 (by decide) (hts (.fieldLink RX2 31 "ResampledRows$Run" "states" "[I") (by decide +kernel)) (fun _ h9 => h9) rfl dX2_takeNextStatesAndWeights_1 ?_
  refine lv_astore_n (lv' := [(1, .ref (ad (M.2.2.2 8 7))), (0, .ref (ad 8))]) hx hb dX2_takeNextStatesAndWeights_4 rfl hl (by decide) rfl (fun ls hl => ?_)
  refine lv_aload_n hx hb dX2_takeNextStatesAndWeights_5 rfl (lv_at hl 1 rfl) ?_
  refine lv_aload_n hx hb dX2_takeNextStatesAndWeights_6 rfl (lv_at hl 1 rfl) ?_
  refine va_get (D := D) (ci := 4) (v := .ref (ad (M.2.2.2 8 10))) (C := RX2) (T := TX2) (N := 13) hx hb hts inX2 hown hK hP 8 (fl_at (by decide) rfl) rfl 10 (by decide) (hts (.fieldLink RX2 42 "ResampledRows$Run" "nextStates" "[I") (by decide +kernel)) (fun _ h9 => h9) rfl dX2_takeNextStatesAndWeights_7 ?_
  refine fl_put (ci := 4) (ty := .array .int) (v := .ref (ad (M.2.2.2 8 10))) (C := RX2) (T := TX2) (Nf := 13) hx hb hts inX2 tyX2 tyX2_ok nmX2 hown hK hJ hP hS 8 (by decide) (fl_sR M 8 7 (M.2.2.2 8 10)) rfl rfl 7 (by decide) (hts (.fieldLink RX2 31 "ResampledRows$Run" "states" "[I") (by decide +kernel)) (fun _ h9 => h9) rfl (by decide +kernel) rfl rfl (Nat.le_of_ble_eq_true rfl) rfl (fl_sR_o (fc_loc cI cII ad) _ _ _ _) dX2_takeNextStatesAndWeights_10 (fun H locs hP hS => ?_)
  refine lv_aload_n hx hb dX2_takeNextStatesAndWeights_13 rfl (lv_at hl 1 rfl) ?_
  refine lv_aload_n hx hb dX2_takeNextStatesAndWeights_14 rfl (lv_at hl 0 rfl) ?_
  refine fl_put (ci := 4) (ty := .array .int) (v := .ref (ad (M.2.2.2 8 7))) (C := RX2) (T := TX2) (Nf := 13) hx hb hts inX2 tyX2 tyX2_ok nmX2 hown hK hJ hP hS 8 (by decide) (fl_sR (fl_sR M 8 7 (M.2.2.2 8 10)) 8 10 (M.2.2.2 8 7)) rfl rfl 10 (by decide) (hts (.fieldLink RX2 42 "ResampledRows$Run" "nextStates" "[I") (by decide +kernel)) (fun _ h9 => h9) rfl (by decide +kernel) rfl rfl (Nat.le_of_ble_eq_true rfl) rfl (fl_sR_o (fc_loc cI cII ad) _ _ _ _) dX2_takeNextStatesAndWeights_15 (fun H locs hP hS => ?_)
  refine lv_aload_n hx hb dX2_takeNextStatesAndWeights_18 rfl (lv_at hl 1 rfl) ?_
  refine va_get (D := D) (ci := 4) (v := .ref (ad (M.2.2.2 8 8))) (C := RX2) (T := TX2) (N := 13) hx hb hts inX2 hown hK hP 8 (fl_at (by decide) rfl) rfl 8 (by decide) (hts (.fieldLink RX2 34 "ResampledRows$Run" "weights" "[I") (by decide +kernel)) (fun _ h9 => h9) rfl dX2_takeNextStatesAndWeights_19 ?_
  refine lv_astore_n (lv' := [(2, .ref (ad (M.2.2.2 8 8))), (1, .ref (ad (M.2.2.2 8 7))), (0, .ref (ad 8))]) hx hb dX2_takeNextStatesAndWeights_22 rfl hl (by decide) rfl (fun ls hl => ?_)
  refine lv_aload_n hx hb dX2_takeNextStatesAndWeights_23 rfl (lv_at hl 2 rfl) ?_
  refine lv_aload_n hx hb dX2_takeNextStatesAndWeights_24 rfl (lv_at hl 2 rfl) ?_
  refine va_get (D := D) (ci := 4) (v := .ref (ad (M.2.2.2 8 11))) (C := RX2) (T := TX2) (N := 13) hx hb hts inX2 hown hK hP 8 (fl_at (by decide) rfl) rfl 11 (by decide) (hts (.fieldLink RX2 45 "ResampledRows$Run" "nextWeights" "[I") (by decide +kernel)) (fun _ h9 => h9) rfl dX2_takeNextStatesAndWeights_25 ?_
  refine fl_put (ci := 4) (ty := .array .int) (v := .ref (ad (M.2.2.2 8 11))) (C := RX2) (T := TX2) (Nf := 13) hx hb hts inX2 tyX2 tyX2_ok nmX2 hown hK hJ hP hS 8 (by decide) (fl_sR (fl_sR (fl_sR M 8 7 (M.2.2.2 8 10)) 8 10 (M.2.2.2 8 7)) 8 8 (M.2.2.2 8 11)) rfl rfl 8 (by decide) (hts (.fieldLink RX2 34 "ResampledRows$Run" "weights" "[I") (by decide +kernel)) (fun _ h9 => h9) rfl (by decide +kernel) rfl rfl (Nat.le_of_ble_eq_true rfl) rfl (fl_sR_o (fc_loc cI cII ad) _ _ _ _) dX2_takeNextStatesAndWeights_28 (fun H locs hP hS => ?_)
  refine lv_aload_n hx hb dX2_takeNextStatesAndWeights_31 rfl (lv_at hl 2 rfl) ?_
  refine lv_aload_n hx hb dX2_takeNextStatesAndWeights_32 rfl (lv_at hl 0 rfl) ?_
  refine fl_put (ci := 4) (ty := .array .int) (v := .ref (ad (M.2.2.2 8 8))) (C := RX2) (T := TX2) (Nf := 13) hx hb hts inX2 tyX2 tyX2_ok nmX2 hown hK hJ hP hS 8 (by decide) (fl_sR (fl_sR (fl_sR (fl_sR M 8 7 (M.2.2.2 8 10)) 8 10 (M.2.2.2 8 7)) 8 8 (M.2.2.2 8 11)) 8 11 (M.2.2.2 8 8)) rfl rfl 11 (by decide) (hts (.fieldLink RX2 45 "ResampledRows$Run" "nextWeights" "[I") (by decide +kernel)) (fun _ h9 => h9) rfl (by decide +kernel) rfl rfl (Nat.le_of_ble_eq_true rfl) rfl (fl_sR_o (fc_loc cI cII ad) _ _ _ _) dX2_takeNextStatesAndWeights_33 (fun H locs hP hS => ?_)
  exact W.vret hx hb hr (fun t ht hW => ⟨⟨(fl_sR (fl_sR (fl_sR (fl_sR M 8 7 (M.2.2.2 8 10)) 8 10 (M.2.2.2 8 7)) 8 8 (M.2.2.2 8 11)) 8 11 (M.2.2.2 8 8)), rfl, rfl, fl_qi ht hP⟩, hS.F ht⟩) hS.2.2 dX2_takeNextStatesAndWeights_36

set_option maxHeartbeats 4000000 in
set_option maxRecDepth 100000 in
theorem c_X2_firstThatWas (l : Launch) {D : va_G} {cI cJ cII : ClassId} {ad : Nat → Nat} (hJ : fl_inj 62 ad) (M : fl_M) (n k : Nat) (og : Nat → Nat) (hn : n ≤ 16) (hn1 : M.1 8 2 = nI n) (hk : k < 2 ^ 31) (hog : fl_row (M.1 12) og n 16) : Met l yX2_firstThatWas wsX2_firstThatWas ({ frames := 0, cells := 0, slots := 0, locals := 0 } : Room) (fcPc D cI cJ cII ad M [.ref (ad 8), .int (nI k)]) (va_Qi (fun r M2 => r = a_oI (a_find og k n) (-1000009) ∧ M2 = M) (fcQ D cI cII ad) (fl_A 62 ad)) 0 0 (fl_A 62 ad) := by
  refine Met.ofW (cc := cX2_firstThatWas) (maxL := 3) (ret := (some .int)) (by decide) rfl ?_
  intro p e s m args below meth c s₁ B hml hv
  obtain ⟨rfl, hP, hK, hN⟩ := hv
  have hx := B.exec
  have hb := B.bytes
  have hr := B.returns
  have hts := atoms_spec (ws := wsX2_firstThatWas) B.pre
  have hown : s.vm.findClass RX2 = some m.cls := findClass_of_methodNamed B.named
  have hlocks := B.notSynchronized
  have inX2 : ∀ w ∈ u_ws RX2 TX2 13, w ∈ wsX2_firstThatWas := by decide +kernel
  have hS : va_S (fl_A 62 ad) s.heap s.heap [] := va_S.rf
  have hl := lv_entry ([.ref (ad 8), .int (nI k)] : List Value) (n := 3) (Nat.le_of_ble_eq_true rfl)
  rw [lg_entry_eq]
  generalize (lg_sl ([.ref (ad 8), .int (nI k)] : List Value) ++ List.replicate (3 - (lg_sl ([.ref (ad 8), .int (nI k)] : List Value)).length) Slot.unset).toArray = ls at hl ⊢
  have hl : lv_has ls 3 [(0, .ref (ad 8)), (1, .int (nI k))] := hl
  refine lv_iconst (v := 0) hx hb dX2_firstThatWas_0 (by decide) ?_
  refine lv_istore_n (lv' := [(2, .int 0), (0, .ref (ad 8)), (1, .int (nI k))]) hx hb dX2_firstThatWas_1 rfl hl (by decide) rfl (fun ls hl => ?_)
  suffices KL2 : ∀ (f : Nat) (i : Nat) (hi : i ≤ n) (ha : a_find og k i = none) (hf : n + 1 ≤ i + f), ∀ (H : Heap) (locs : List Loc), va_P D vwCl (fcP cI cII ad M) H → va_S (fl_A 62 ad) s.heap H locs → ∀ (ls : Array Slot), lv_has ls 3 [(0, .ref (ad 8)), (1, .int (nI k)), (2, .int (nI i))] → W p l e (headSpec wsX2_firstThatWas ({ frames := 0, cells := 0, slots := 0, locals := 0 } : Room)).room s m ([.ref (ad 8), .int (nI k)] : List Value).toArray below meth c H locs 0 0 (MQ below (va_Qi (fun r M2 => r = a_oI (a_find og k n) (-1000009) ∧ M2 = M) (fcQ D cI cII ad) (fl_A 62 ad)) ([.ref (ad 8), .int (nI k)] : List Value).toArray s 0 0 (fl_A 62 ad)) (F0 m 2 ls []) from KL2 (n + 1) 0 (Nat.zero_le n) rfl (by omega) _ _ hP hS ls (lv_sub hl [1, 2, 0] rfl)
  intro f
  induction f with
  | zero =>
    intro i hi ha hf
    omega
  | succ f ih2 =>
    intro i hi ha hf H locs hP hS ls hl
    refine lv_iload_n hx hb dX2_firstThatWas_2 rfl (lv_at hl 2 rfl) ?_
    refine lv_aload_n hx hb dX2_firstThatWas_3 rfl (lv_at hl 0 rfl) ?_
    refine va_get (D := D) (ci := 4) (v := .int (M.1 8 2)) (C := RX2) (T := TX2) (N := 13) hx hb hts inX2 hown hK hP 8 (fl_at (by decide) rfl) rfl 2 (by decide) (hts (.fieldLink RX2 51 "ResampledRows$Run" "n" "I") (by decide +kernel)) (fun _ h9 => h9) rfl dX2_firstThatWas_4 ?_
    refine fl_ti (y := nI n) hn1 ?_
    refine lv_icmp_ge (tgt := 28) hx hb dX2_firstThatWas_7 (by decide) (fun hc7 => ?_) (fun hc7 => ?_)
    · have e7 : i = n := Nat.le_antisymm hi ((nI_leI (by omega) (by omega)).mp hc7)
      refine lv_ldc (v := -1000009) hx hb hown (hts (.constant RX2 22 (-1000009)) (by decide +kernel)) dX2_firstThatWas_28 ?_
      exact W.iret (v := (-1000009)) hx hb hr (fun t ht hW => ⟨⟨(-1000009), M, rfl, ⟨by rw [← e7, ha]; rfl, rfl⟩, fl_qi ht hP⟩, hS.F ht⟩) hS.2.2 dX2_firstThatWas_30
    · have l7 : i < n := Nat.lt_of_not_le (fun q => hc7 ((nI_leI (by omega) (by omega)).mpr q))
      refine lv_aload_n hx hb dX2_firstThatWas_10 rfl (lv_at hl 0 rfl) ?_
      refine va_get (D := D) (ci := 4) (v := .ref (ad 12)) (C := RX2) (T := TX2) (N := 13) hx hb hts inX2 hown hK hP 8 (fl_at (by decide) rfl) rfl 1 (by decide) (hts (.fieldLink RX2 18 "ResampledRows$Run" "origins" "[I") (by decide +kernel)) (fun _ h9 => h9) rfl dX2_firstThatWas_11 ?_
      refine lv_iload_n hx hb dX2_firstThatWas_14 rfl (lv_at hl 2 rfl) ?_
      refine fl_ild (n := 16) (k := i) hx hb hK hP (fc_a cI cII ad _ rfl (by decide)) rfl rfl (by omega) (by decide) dX2_firstThatWas_15 ?_
      refine fl_ti (y := nI (og i)) ((hog i l7).1) ?_
      refine lv_iload_n hx hb dX2_firstThatWas_16 rfl (lv_at hl 1 rfl) ?_
      refine lv_icmp_ne (tgt := 22) hx hb dX2_firstThatWas_17 (by decide) (fun hc17 => ?_) (fun hc17 => ?_)
      · have g17 : og i ≠ k := fun q => hc17 (by rw [q])
        refine lv_iinc (v := nI (i + 1)) (lv' := [(2, .int (nI (i + 1))), (0, .ref (ad 8)), (1, .int (nI k))]) hx hb dX2_firstThatWas_22 hl (k := 2) rfl (fl_inc i) (by decide) rfl (fun ls hl => ?_)
        refine lv_goto (tgt := 2) hx hb dX2_firstThatWas_25 (by decide) ?_
        exact ih2 (i + 1) (by omega) (a_find_none ha g17) (by omega) _ _ hP hS ls (lv_sub hl [1, 2, 0] rfl)
      · have g17 : og i = k := (nI_eq (by have := (hog i l7).2; omega) hk).mp hc17
        refine lv_iload_n hx hb dX2_firstThatWas_20 rfl (lv_at hl 2 rfl) ?_
        exact W.iret (v := nI i) hx hb hr (fun t ht hW => ⟨⟨nI i, M, rfl, ⟨by rw [a_find_some ha g17 n (by omega)]; rfl, rfl⟩, fl_qi ht hP⟩, hS.F ht⟩) hS.2.2 dX2_firstThatWas_21

