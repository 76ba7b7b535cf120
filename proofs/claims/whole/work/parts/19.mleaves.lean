theorem fm_shL {M M3 : fl_M} {i : Nat} (hlo : ∀ j, j < i → M3.1 5 j = M.1 5 (j + 1)) (hhi : ∀ j, i ≤ j → M3.1 5 j = M.1 5 j) : ∀ j, j < i + 1 → (fl_sI M3 5 i (M3.1 5 (i + 1))).1 5 j = M.1 5 (j + 1) := fun j hj => by
  rw [fl_sI_same]
  by_cases e : j = i
  · subst e
    rw [pk_us]
    exact hhi _ (by omega)
  · rw [pk_un e]
    exact hlo j (by omega)
theorem fm_shH {M M3 : fl_M} {i : Nat} (hhi : ∀ j, i ≤ j → M3.1 5 j = M.1 5 j) : ∀ j, i + 1 ≤ j → (fl_sI M3 5 i (M3.1 5 (i + 1))).1 5 j = M.1 5 j := fun j hj => by
  rw [fl_sI_same, pk_un (by omega)]
  exact hhi j (by omega)
theorem fl_m1 (i : Nat) : nI i - 1 + Int32.ofInt 1 = nI i := by
  have : Int32.ofInt 1 = 1 := rfl
  rw [this, Int32.sub_add_cancel]
theorem lN_sq {x : Int64} {a w : Nat} (h : x = lN w) : lN a + x * x = lN (a + w * w) := by rw [h, lN_mul, lN_add]
theorem lN_ad {x : Int64} {a w : Nat} (h : x = lN w) : lN a + x = lN (a + w) := by rw [h, lN_add]
theorem lN_fa {x : Int64} {t a w : Nat} (h : x = lN w) : lN (t * a) + lN t * x = lN (t * (a + w)) := by rw [h, lN_mul, lN_add, Nat.mul_add]

set_option maxHeartbeats 4000000 in
set_option maxRecDepth 100000 in
theorem c_X5_in (l : Launch) {D : va_G} {cI cJ cII : ClassId} {ad : Nat → Nat} (hJ : fl_inj 15 ad) (M : fl_M) (x lo hi : Int32) : Met l yX5_in wsX5_in ({ frames := 0, cells := 0, slots := 0, locals := 0 } : Room) (fmPc D cI cJ cII ad M [.int x, .int lo, .int hi]) (va_Qi (fun r M2 => r = (if lo ≤ x ∧ x ≤ hi then 1 else 0) ∧ M2 = M) (fmQ D cI cJ ad) (fl_A 15 ad)) 0 0 (fl_A 15 ad) := by
  refine Met.ofW (cc := cX5_in) (maxL := 3) (ret := (some .boolean)) (by decide) rfl ?_
  intro p e s m args below meth c s₁ B hml hv
  obtain ⟨rfl, hP, hK, hN⟩ := hv
  have hx := B.exec
  have hb := B.bytes
  have hr := B.returns
  have hts := atoms_spec (ws := wsX5_in) B.pre
  have hown : s.vm.findClass RX5 = some m.cls := findClass_of_methodNamed B.named
  have hlocks := B.notSynchronized
  have hS : va_S (fl_A 15 ad) s.heap s.heap [] := va_S.rf
  have hl := lv_entry ([.int x, .int lo, .int hi] : List Value) (n := 3) (Nat.le_of_ble_eq_true rfl)
  rw [lg_entry_eq]
  generalize (lg_sl ([.int x, .int lo, .int hi] : List Value) ++ List.replicate (3 - (lg_sl ([.int x, .int lo, .int hi] : List Value)).length) Slot.unset).toArray = ls at hl ⊢
  have hl : lv_has ls 3 [(0, .int x), (1, .int lo), (2, .int hi)] := hl
  refine lv_iload_n hx hb dX5_in_0 rfl (lv_at hl 0 rfl) ?_
  refine lv_iload_n hx hb dX5_in_1 rfl (lv_at hl 1 rfl) ?_
  refine lv_icmp_lt (tgt := 14) hx hb dX5_in_2 (by decide) (fun hc2 => ?_) (fun hc2 => ?_)
  · refine lv_iconst (v := 0) hx hb dX5_in_14 (by decide) ?_
    exact W.zret (v := 0) (ty := .boolean) hx hb hr rfl (fun t ht hW => ⟨⟨0, M, rfl, ⟨by first | exact (if_neg (fun q => absurd hc7 (Int32.not_lt.mpr q.2))).symm | exact (if_neg (fun q => absurd hc2 (Int32.not_lt.mpr q.1))).symm, rfl⟩, fl_qi ht hP⟩, hS.F ht⟩) hS.2.2 dX5_in_15
  · refine lv_iload_n hx hb dX5_in_5 rfl (lv_at hl 0 rfl) ?_
    refine lv_iload_n hx hb dX5_in_6 rfl (lv_at hl 2 rfl) ?_
    refine lv_icmp_gt (tgt := 14) hx hb dX5_in_7 (by decide) (fun hc7 => ?_) (fun hc7 => ?_)
    · refine lv_iconst (v := 0) hx hb dX5_in_14 (by decide) ?_
      exact W.zret (v := 0) (ty := .boolean) hx hb hr rfl (fun t ht hW => ⟨⟨0, M, rfl, ⟨by first | exact (if_neg (fun q => absurd hc7 (Int32.not_lt.mpr q.2))).symm | exact (if_neg (fun q => absurd hc2 (Int32.not_lt.mpr q.1))).symm, rfl⟩, fl_qi ht hP⟩, hS.F ht⟩) hS.2.2 dX5_in_15
    · refine lv_iconst (v := 1) hx hb dX5_in_10 (by decide) ?_
      refine lv_goto (tgt := 15) hx hb dX5_in_11 (by decide) ?_
      exact W.zret (v := 1) (ty := .boolean) hx hb hr rfl (fun t ht hW => ⟨⟨1, M, rfl, ⟨by rw [if_pos (And.intro (Int32.not_lt.mp hc2) (Int32.not_lt.mp hc7))], rfl⟩, fl_qi ht hP⟩, hS.F ht⟩) hS.2.2 dX5_in_15

set_option maxHeartbeats 4000000 in
set_option maxRecDepth 100000 in
theorem c_X5_isState (l : Launch) {D : va_G} {cI cJ cII : ClassId} {ad : Nat → Nat} (hJ : fl_inj 15 ad) (M : fl_M) (x : Int32) : Met l yX5_isState wsX5_isState ({ frames := 1, cells := 0, slots := 0, locals := 22 } : Room) (fmPc D cI cJ cII ad M [.int x]) (va_Qi (fun r M2 => r = a_b (a_ix x 6) ∧ M2 = M) (fmQ D cI cJ ad) (fl_A 15 ad)) 0 0 (fl_A 15 ad) := by
  refine Met.ofW (cc := cX5_isState) (maxL := 1) (ret := (some .boolean)) (by decide) rfl ?_
  intro p e s m args below meth c s₁ B hml hv
  obtain ⟨rfl, hP, hK, hN⟩ := hv
  have hx := B.exec
  have hb := B.bytes
  have hr := B.returns
  have hts := atoms_spec (ws := wsX5_isState) B.pre
  have hown : s.vm.findClass RX5 = some m.cls := findClass_of_methodNamed B.named
  have hlocks := B.notSynchronized
  have hS : va_S (fl_A 15 ad) s.heap s.heap [] := va_S.rf
  have hl := lv_entry ([.int x] : List Value) (n := 1) (Nat.le_of_ble_eq_true rfl)
  rw [lg_entry_eq]
  generalize (lg_sl ([.int x] : List Value) ++ List.replicate (1 - (lg_sl ([.int x] : List Value)).length) Slot.unset).toArray = ls at hl ⊢
  have hl : lv_has ls 1 [(0, .int x)] := hl
  refine lv_iload_n hx hb dX5_isState_0 rfl (lv_at hl 0 rfl) ?_
  refine lv_iconst (v := 0) hx hb dX5_isState_1 (by decide) ?_
  refine lv_iconst (v := 5) hx hb dX5_isState_2 (by decide) ?_
  refine va_calli (va_runS (As := [.int x, .int 0, .int 5]) (rest := []) ⟨hx, hb, hml, hown, hts⟩ (c_X5_in l hJ M x 0 5) (va_cwS 3 hts gX5_isState_X5_in rfl rfl rfl (by decide +kernel) ⟨Nat.le_of_ble_eq_true rfl, Nat.le_of_ble_eq_true rfl⟩) ⟨fl_blind, fl_pre hP hK hN⟩ rfl rfl hl.1 rfl (lv_room (Nat.le_of_ble_eq_true rfl)) dX5_isState_3 ⟨Nat.le_of_ble_eq_true rfl, Nat.le_of_ble_eq_true rfl⟩) hS (fun _ _ h => h) (fun _ h => h) (fun r3 M3 t H1 locs ht hvm hw hB hz1 hk1 hS => ?_)
  have hP : va_P D vwCl (fmP cI cJ ad M3) H1 := by rw [← ht]; exact hB
  clear hB hk1 hz1 hvm ht t
  obtain ⟨rfl, hE⟩ := hw
  rw [hE] at hP
  exact W.zret (v := (if (0 : Int32) ≤ x ∧ x ≤ 5 then (1 : Int32) else 0)) (ty := .boolean) hx hb hr (by first | rfl | (split <;> rfl)) (fun t ht hW => ⟨⟨(if (0 : Int32) ≤ x ∧ x ≤ 5 then (1 : Int32) else 0), M, rfl, ⟨a_in0 (n := 5) (by decide), rfl⟩, fl_qi ht hP⟩, hS.F ht⟩) hS.2.2 dX5_isState_6

set_option maxHeartbeats 4000000 in
set_option maxRecDepth 100000 in
theorem c_X5_isRow (l : Launch) {D : va_G} {cI cJ cII : ClassId} {ad : Nat → Nat} (hJ : fl_inj 15 ad) (M : fl_M) (n : Nat) (x : Int32) (hn0 : 0 < n) (hn : n ≤ 16) (hn1 : M.1 0 7 = nI n) : Met l yX5_isRow wsX5_isRow ({ frames := 1, cells := 0, slots := 0, locals := 22 } : Room) (fmPc D cI cJ cII ad M [.ref (ad 0), .int x]) (va_Qi (fun r M2 => r = a_b (a_ix x n) ∧ M2 = M) (fmQ D cI cJ ad) (fl_A 15 ad)) 0 0 (fl_A 15 ad) := by
  refine Met.ofW (cc := cX5_isRow) (maxL := 2) (ret := (some .boolean)) (by decide) rfl ?_
  intro p e s m args below meth c s₁ B hml hv
  obtain ⟨rfl, hP, hK, hN⟩ := hv
  have hx := B.exec
  have hb := B.bytes
  have hr := B.returns
  have hts := atoms_spec (ws := wsX5_isRow) B.pre
  have hown : s.vm.findClass RX5 = some m.cls := findClass_of_methodNamed B.named
  have hlocks := B.notSynchronized
  have inX5 : ∀ w ∈ u_ws RX5 TX5 23, w ∈ wsX5_isRow := by decide +kernel
  have hS : va_S (fl_A 15 ad) s.heap s.heap [] := va_S.rf
  have hl := lv_entry ([.ref (ad 0), .int x] : List Value) (n := 2) (Nat.le_of_ble_eq_true rfl)
  rw [lg_entry_eq]
  generalize (lg_sl ([.ref (ad 0), .int x] : List Value) ++ List.replicate (2 - (lg_sl ([.ref (ad 0), .int x] : List Value)).length) Slot.unset).toArray = ls at hl ⊢
  have hl : lv_has ls 2 [(0, .ref (ad 0)), (1, .int x)] := hl
  refine lv_iload_n hx hb dX5_isRow_0 rfl (lv_at hl 1 rfl) ?_
  refine lv_iconst (v := 0) hx hb dX5_isRow_1 (by decide) ?_
  refine lv_aload_n hx hb dX5_isRow_2 rfl (lv_at hl 0 rfl) ?_
  refine va_get (D := D) (ci := 7) (v := .int (M.1 0 7)) (C := RX5) (T := TX5) (N := 23) hx hb hts inX5 hown hK hP 0 (fl_at (by decide) rfl) rfl 7 (by decide) (hts (.fieldLink RX5 66 "ResampledRowsModel" "rows" "I") (by decide +kernel)) (fun _ h9 => h9) rfl dX5_isRow_3 ?_
  refine fl_ti (y := nI n) hn1 ?_
  refine lv_iconst (v := 1) hx hb dX5_isRow_6 (by decide) ?_
  refine lv_isub hx hb dX5_isRow_7 ?_
  refine fl_ti (y := nI (n - 1)) (fl_pred hn0) ?_
  refine va_calli (va_runS (As := [.int x, .int 0, .int (nI (n - 1))]) (rest := []) ⟨hx, hb, hml, hown, hts⟩ (c_X5_in l hJ M x 0 (nI (n - 1))) (va_cwS 3 hts gX5_isRow_X5_in rfl rfl rfl (by decide +kernel) ⟨Nat.le_of_ble_eq_true rfl, Nat.le_of_ble_eq_true rfl⟩) ⟨fl_blind, fl_pre hP hK hN⟩ rfl rfl hl.1 rfl (lv_room (Nat.le_of_ble_eq_true rfl)) dX5_isRow_8 ⟨Nat.le_of_ble_eq_true rfl, Nat.le_of_ble_eq_true rfl⟩) hS (fun _ _ h => h) (fun _ h => h) (fun r8 M8 t H1 locs ht hvm hw hB hz1 hk1 hS => ?_)
  have hP : va_P D vwCl (fmP cI cJ ad M8) H1 := by rw [← ht]; exact hB
  clear hB hk1 hz1 hvm ht t
  obtain ⟨rfl, hE⟩ := hw
  rw [hE] at hP
  exact W.zret (v := (if (0 : Int32) ≤ x ∧ x ≤ nI (n - 1) then (1 : Int32) else 0)) (ty := .boolean) hx hb hr (by first | rfl | (split <;> rfl)) (fun t ht hW => ⟨⟨(if (0 : Int32) ≤ x ∧ x ≤ nI (n - 1) then (1 : Int32) else 0), M, rfl, ⟨by have h7 := a_in0 (x := x) (n := n - 1) (by omega); rw [Nat.sub_add_cancel hn0] at h7; exact h7, rfl⟩, fl_qi ht hP⟩, hS.F ht⟩) hS.2.2 dX5_isRow_11

set_option maxHeartbeats 4000000 in
set_option maxRecDepth 100000 in
theorem c_X5_noRun (l : Launch) {D : va_G} {cI cJ cII : ClassId} {ad : Nat → Nat} (hJ : fl_inj 15 ad) (M : fl_M) : Met l yX5_noRun wsX5_noRun ({ frames := 0, cells := 0, slots := 0, locals := 0 } : Room) (fmPc D cI cJ cII ad M [.ref (ad 0)]) (va_Qv (fun M2 => M2 = (fl_sI (fl_sI (fl_sI (fl_sI (fl_sI M 0 7 0) 0 12 0) 0 13 0) 0 14 (-1000009)) 0 17 0)) (fmQ D cI cJ ad) (fl_A 15 ad)) 0 0 (fl_A 15 ad) := by
  refine Met.ofW (cc := cX5_noRun) (maxL := 1) (ret := none) (by decide) rfl ?_
  intro p e s m args below meth c s₁ B hml hv
  obtain ⟨rfl, hP, hK, hN⟩ := hv
  have hx := B.exec
  have hb := B.bytes
  have hr := B.returns
  have hts := atoms_spec (ws := wsX5_noRun) B.pre
  have hown : s.vm.findClass RX5 = some m.cls := findClass_of_methodNamed B.named
  have hlocks := B.notSynchronized
  have inX5 : ∀ w ∈ u_ws RX5 TX5 23, w ∈ wsX5_noRun := by decide +kernel
  have hS : va_S (fl_A 15 ad) s.heap s.heap [] := va_S.rf
  have hl := lv_entry ([.ref (ad 0)] : List Value) (n := 1) (Nat.le_of_ble_eq_true rfl)
  rw [lg_entry_eq]
  generalize (lg_sl ([.ref (ad 0)] : List Value) ++ List.replicate (1 - (lg_sl ([.ref (ad 0)] : List Value)).length) Slot.unset).toArray = ls at hl ⊢
  have hl : lv_has ls 1 [(0, .ref (ad 0))] := hl
  refine lv_aload_n hx hb dX5_noRun_0 rfl (lv_at hl 0 rfl) ?_
  refine lv_iconst (v := 0) hx hb dX5_noRun_1 (by decide) ?_
  refine fl_put (ci := 7) (ty := .int) (v := .int 0) (C := RX5) (T := TX5) (Nf := 23) hx hb hts inX5 tyX5 tyX5_ok nmX5 hown hK hJ hP hS 0 (by decide) (fl_sI M 0 7 0) rfl rfl 7 (by decide) (hts (.fieldLink RX5 66 "ResampledRowsModel" "rows" "I") (by decide +kernel)) (fun _ h9 => h9) rfl (by decide +kernel) rfl rfl (Nat.le_of_ble_eq_true rfl) rfl (fl_sI_o (fm_loc cI cJ ad) _ _ _ _) dX5_noRun_2 (fun H locs hP hS => ?_)
  refine lv_aload_n hx hb dX5_noRun_5 rfl (lv_at hl 0 rfl) ?_
  refine lv_iconst (v := 0) hx hb dX5_noRun_6 (by decide) ?_
  refine fl_put (ci := 7) (ty := .int) (v := .int 0) (C := RX5) (T := TX5) (Nf := 23) hx hb hts inX5 tyX5 tyX5_ok nmX5 hown hK hJ hP hS 0 (by decide) (fl_sI (fl_sI M 0 7 0) 0 12 0) rfl rfl 12 (by decide) (hts (.fieldLink RX5 69 "ResampledRowsModel" "steps" "I") (by decide +kernel)) (fun _ h9 => h9) rfl (by decide +kernel) rfl rfl (Nat.le_of_ble_eq_true rfl) rfl (fl_sI_o (fm_loc cI cJ ad) _ _ _ _) dX5_noRun_7 (fun H locs hP hS => ?_)
  refine lv_aload_n hx hb dX5_noRun_10 rfl (lv_at hl 0 rfl) ?_
  refine lv_iconst (v := 0) hx hb dX5_noRun_11 (by decide) ?_
  refine fl_put (ci := 7) (ty := .int) (v := .int 0) (C := RX5) (T := TX5) (Nf := 23) hx hb hts inX5 tyX5 tyX5_ok nmX5 hown hK hJ hP hS 0 (by decide) (fl_sI (fl_sI (fl_sI M 0 7 0) 0 12 0) 0 13 0) rfl rfl 13 (by decide) (hts (.fieldLink RX5 72 "ResampledRowsModel" "anew" "I") (by decide +kernel)) (fun _ h9 => h9) rfl (by decide +kernel) rfl rfl (Nat.le_of_ble_eq_true rfl) rfl (fl_sI_o (fm_loc cI cJ ad) _ _ _ _) dX5_noRun_12 (fun H locs hP hS => ?_)
  refine lv_aload_n hx hb dX5_noRun_15 rfl (lv_at hl 0 rfl) ?_
  refine lv_ldc (v := -1000009) hx hb hown (hts (.constant RX5 75 (-1000009)) (by decide +kernel)) dX5_noRun_16 ?_
  refine fl_put (ci := 7) (ty := .int) (v := .int (-1000009)) (C := RX5) (T := TX5) (Nf := 23) hx hb hts inX5 tyX5 tyX5_ok nmX5 hown hK hJ hP hS 0 (by decide) (fl_sI (fl_sI (fl_sI (fl_sI M 0 7 0) 0 12 0) 0 13 0) 0 14 (-1000009)) rfl rfl 14 (by decide) (hts (.fieldLink RX5 76 "ResampledRowsModel" "kept" "I") (by decide +kernel)) (fun _ h9 => h9) rfl (by decide +kernel) rfl rfl (Nat.le_of_ble_eq_true rfl) rfl (fl_sI_o (fm_loc cI cJ ad) _ _ _ _) dX5_noRun_18 (fun H locs hP hS => ?_)
  refine lv_aload_n hx hb dX5_noRun_21 rfl (lv_at hl 0 rfl) ?_
  refine lv_iconst (v := 0) hx hb dX5_noRun_22 (by decide) ?_
  refine fl_put (ci := 7) (ty := .boolean) (v := .int 0) (C := RX5) (T := TX5) (Nf := 23) hx hb hts inX5 tyX5 tyX5_ok nmX5 hown hK hJ hP hS 0 (by decide) (fl_sI (fl_sI (fl_sI (fl_sI (fl_sI M 0 7 0) 0 12 0) 0 13 0) 0 14 (-1000009)) 0 17 0) rfl rfl 17 (by decide) (hts (.fieldLink RX5 79 "ResampledRowsModel" "hasFroms" "Z") (by decide +kernel)) (fun _ h9 => h9) rfl (by decide +kernel) rfl rfl (Nat.le_of_ble_eq_true rfl) rfl (fl_sI_o (fm_loc cI cJ ad) _ _ _ _) dX5_noRun_23 (fun H locs hP hS => ?_)
  exact W.vret hx hb hr (fun t ht hW => ⟨⟨(fl_sI (fl_sI (fl_sI (fl_sI (fl_sI M 0 7 0) 0 12 0) 0 13 0) 0 14 (-1000009)) 0 17 0), rfl, rfl, fl_qi ht hP⟩, hS.F ht⟩) hS.2.2 dX5_noRun_26

set_option maxHeartbeats 4000000 in
set_option maxRecDepth 100000 in
theorem c_X5_thrown (l : Launch) {D : va_G} {cI cJ cII : ClassId} {ad : Nat → Nat} (hJ : fl_inj 15 ad) (M : fl_M) : Met l yX5_thrown wsX5_thrown ({ frames := 0, cells := 0, slots := 0, locals := 0 } : Room) (fmPc D cI cJ cII ad M [.ref (ad 0)]) (va_Qi (fun r M2 => r = M.1 0 0 ∧ M2 = M) (fmQ D cI cJ ad) (fl_A 15 ad)) 0 0 (fl_A 15 ad) := by
  refine Met.ofW (cc := cX5_thrown) (maxL := 1) (ret := (some .int)) (by decide) rfl ?_
  intro p e s m args below meth c s₁ B hml hv
  obtain ⟨rfl, hP, hK, hN⟩ := hv
  have hx := B.exec
  have hb := B.bytes
  have hr := B.returns
  have hts := atoms_spec (ws := wsX5_thrown) B.pre
  have hown : s.vm.findClass RX5 = some m.cls := findClass_of_methodNamed B.named
  have hlocks := B.notSynchronized
  have inX5 : ∀ w ∈ u_ws RX5 TX5 23, w ∈ wsX5_thrown := by decide +kernel
  have hS : va_S (fl_A 15 ad) s.heap s.heap [] := va_S.rf
  have hl := lv_entry ([.ref (ad 0)] : List Value) (n := 1) (Nat.le_of_ble_eq_true rfl)
  rw [lg_entry_eq]
  generalize (lg_sl ([.ref (ad 0)] : List Value) ++ List.replicate (1 - (lg_sl ([.ref (ad 0)] : List Value)).length) Slot.unset).toArray = ls at hl ⊢
  have hl : lv_has ls 1 [(0, .ref (ad 0))] := hl
  refine lv_aload_n hx hb dX5_thrown_0 rfl (lv_at hl 0 rfl) ?_
  refine va_get (D := D) (ci := 7) (v := .int (M.1 0 0)) (C := RX5) (T := TX5) (N := 23) hx hb hts inX5 hown hK hP 0 (fl_at (by decide) rfl) rfl 0 (by decide) (hts (.fieldLink RX5 56 "ResampledRowsModel" "thrownNow" "I") (by decide +kernel)) (fun _ h9 => h9) rfl dX5_thrown_1 ?_
  exact W.iret (v := M.1 0 0) hx hb hr (fun t ht hW => ⟨⟨M.1 0 0, M, rfl, ⟨rfl, rfl⟩, fl_qi ht hP⟩, hS.F ht⟩) hS.2.2 dX5_thrown_4

set_option maxHeartbeats 4000000 in
set_option maxRecDepth 100000 in
theorem c_X5_draw (l : Launch) {D : va_G} {cI cJ cII : ClassId} {ad : Nat → Nat} (hJ : fl_inj 15 ad) (M : fl_M) (d : a_D) (k : Nat) (hk0 : 0 < k) (hk : k < 2 ^ 31) (hd : fm_D d M) : Met l yX5_draw wsX5_draw ({ frames := 0, cells := 0, slots := 0, locals := 0 } : Room) (fmPc D cI cJ cII ad M [.ref (ad 0), .long (lN k)]) (va_Ql (fun r M2 => r = lN ((a_next d).1 % k) ∧ fm_D (a_next d).2 M2 ∧ fp fm_PD M M2) (fmQ D cI cJ ad) (fl_A 15 ad)) 0 0 (fl_A 15 ad) := by
  refine Met.ofW (cc := cX5_draw) (maxL := 6) (ret := (some .long)) (by decide) rfl ?_
  intro p e s m args below meth c s₁ B hml hv
  obtain ⟨rfl, hP, hK, hN⟩ := hv
  have hx := B.exec
  have hb := B.bytes
  have hr := B.returns
  have hts := atoms_spec (ws := wsX5_draw) B.pre
  have hown : s.vm.findClass RX5 = some m.cls := findClass_of_methodNamed B.named
  have hlocks := B.notSynchronized
  have inX5 : ∀ w ∈ u_ws RX5 TX5 23, w ∈ wsX5_draw := by decide +kernel
  have hS : va_S (fl_A 15 ad) s.heap s.heap [] := va_S.rf
  have hl := lv_entry ([.ref (ad 0), .long (lN k)] : List Value) (n := 6) (Nat.le_of_ble_eq_true rfl)
  rw [lg_entry_eq]
  generalize (lg_sl ([.ref (ad 0), .long (lN k)] : List Value) ++ List.replicate (6 - (lg_sl ([.ref (ad 0), .long (lN k)] : List Value)).length) Slot.unset).toArray = ls at hl ⊢
  have hl : lv_has ls 6 [(0, .ref (ad 0)), (1, .long (lN k))] := hl
  obtain ⟨hQ, h8⟩ := id hd
  refine lv_aload_n hx hb dX5_draw_0 rfl (lv_at hl 0 rfl) ?_
  refine va_get (D := D) (ci := 7) (v := .int (M.1 0 6)) (C := RX5) (T := TX5) (N := 23) hx hb hts inX5 hown hK hP 0 (fl_at (by decide) rfl) rfl 6 (by decide) (hts (.fieldLink RX5 60 "ResampledRowsModel" "forcedMany" "I") (by decide +kernel)) (fun _ h9 => h9) rfl dX5_draw_1 ?_
  refine fl_ti (y := nI d.1.length) hQ.1 ?_
  refine lv_if_le (tgt := 62) hx hb dX5_draw_4 (by decide) (fun hc4 => ?_) (fun hc4 => ?_)
  · have hq : d.1 = [] := List.eq_nil_of_length_eq_zero (fl_len0 (by have := hQ.2.1; omega) hc4)
    have hnx : a_next d = (a_v (a_x d.2), ([], a_x d.2)) := by unfold a_next; rw [hq]
    rw [hq] at hQ
    refine lv_aload_n hx hb dX5_draw_62 rfl (lv_at hl 0 rfl) ?_
    refine lv_aload_n hx hb dX5_draw_63 rfl (lv_at hl 0 rfl) ?_
    refine va_get (D := D) (ci := 7) (v := .long (M.2.1 0 8)) (C := RX5) (T := TX5) (N := 23) hx hb hts inX5 hown hK hP 0 (fl_at (by decide) rfl) rfl 8 (by decide) (hts (.fieldLink RX5 93 "ResampledRowsModel" "seed" "J") (by decide +kernel)) (fun _ h9 => h9) rfl dX5_draw_64 ?_
    refine fl_tl (y := d.2) h8 ?_
    refine lv_ldc2 (v := 6364136223846793005) hx hb hown (hts (.constantLong RX5 97 (6364136223846793005)) (by decide +kernel)) dX5_draw_67 ?_
    refine lv_lmul hx hb dX5_draw_70 ?_
    refine lv_ldc2 (v := 1442695040888963407) hx hb hown (hts (.constantLong RX5 99 (1442695040888963407)) (by decide +kernel)) dX5_draw_71 ?_
    refine lv_ladd hx hb dX5_draw_74 ?_
    refine fl_tl (y := a_x d.2) rfl ?_
    refine fl_put (ci := 7) (ty := .long) (v := .long (a_x d.2)) (C := RX5) (T := TX5) (Nf := 23) hx hb hts inX5 tyX5 tyX5_ok nmX5 hown hK hJ hP hS 0 (by decide) (fl_sJ M 0 8 (a_x d.2)) rfl rfl 8 (by decide) (hts (.fieldLink RX5 93 "ResampledRowsModel" "seed" "J") (by decide +kernel)) (fun _ h9 => h9) rfl (by decide +kernel) rfl rfl (Nat.le_of_ble_eq_true rfl) rfl (fl_sJ_o (fm_loc cI cJ ad) _ _ _ _) dX5_draw_75 (fun H locs hP hS => ?_)
    refine lv_aload_n hx hb dX5_draw_78 rfl (lv_at hl 0 rfl) ?_
    refine va_get (D := D) (ci := 7) (v := .long (a_x d.2)) (C := RX5) (T := TX5) (N := 23) hx hb hts inX5 hown hK hP 0 (fl_at (by decide) rfl) rfl 8 (by decide) (hts (.fieldLink RX5 93 "ResampledRowsModel" "seed" "J") (by decide +kernel)) (fun _ h9 => h9) rfl dX5_draw_79 ?_
    refine lv_bipush (v := 33) hx hb dX5_draw_82 (by decide) ?_
    refine lv_lushr (v := ((a_x d.2).toUInt64 >>> ((33 : Int32).toInt64.toUInt64 &&& Int64.toUInt64 63)).toInt64) hx hb dX5_draw_84 rfl ?_
    have hvl := a_v_lt (a_x d.2)
    refine fl_tl (y := lN (a_v (a_x d.2))) (a_v_eq _) ?_
    refine lv_lstore_n (lv' := [(3, .long (lN (a_v (a_x d.2)))), (0, .ref (ad 0)), (1, .long (lN k))]) hx hb dX5_draw_85 rfl hl (by decide) rfl (fun ls hl => ?_)
    refine lv_lload_n hx hb dX5_draw_86 rfl (lv_at hl 0 rfl) ?_
    refine lv_lload_n hx hb dX5_draw_87 rfl (lv_at hl 2 rfl) ?_
    refine lv_lrem hx hb dX5_draw_88 (fun z => absurd ((pk_lEQ (b := 0) (by omega) (by decide)).mp z) (by omega)) ?_
    refine fl_tl (y := lN (a_v (a_x d.2) % k)) (pk_lRem (by omega) hk0 (by omega)) ?_
    exact W.lret (v := lN (a_v (a_x d.2) % k)) hx hb hr (fun t ht hW => ⟨⟨lN (a_v (a_x d.2) % k), (fl_sJ M 0 8 (a_x d.2)), rfl, (by rw [hnx]; exact ⟨rfl, ⟨⟨hQ.1, Nat.zero_le _, fun j hj => absurd hj (Nat.not_lt_zero j)⟩, rfl⟩, fp.rf.sJ (by unfold fm_PD; omega) _⟩), fl_qi ht hP⟩, hS.F ht⟩) hS.2.2 dX5_draw_89
  · obtain ⟨v, q, hq⟩ : ∃ v q, d.1 = v :: q := by
      cases hd1 : d.1 with
      | nil => exact absurd (show nI 0 ≤ 0 by decide) (by rw [hd1] at hc4; exact hc4)
      | cons v q => exact ⟨v, q, rfl⟩
    have hnx : a_next d = (v, (q, d.2)) := by unfold a_next; rw [hq]
    rw [hq] at hQ
    have hql : q.length + 1 ≤ 64 := hQ.2.1
    have h50 := hQ.2.2 0 (Nat.succ_pos _)
    have h51 : M.1 5 0 = nI v := h50.1
    have hv0 : v < 2 ^ 31 := h50.2
    refine lv_aload_n hx hb dX5_draw_7 rfl (lv_at hl 0 rfl) ?_
    refine va_get (D := D) (ci := 7) (v := .ref (ad 5)) (C := RX5) (T := TX5) (N := 23) hx hb hts inX5 hown hK hP 0 (fl_at (by decide) rfl) rfl 5 (by decide) (hts (.fieldLink RX5 22 "ResampledRowsModel" "forced" "[I") (by decide +kernel)) (fun _ h9 => h9) rfl dX5_draw_8 ?_
    refine lv_iconst (v := 0) hx hb dX5_draw_11 (by decide) ?_
    refine fl_ild (n := 64) (k := 0) hx hb hK hP (fl_at (by decide) rfl) rfl rfl (by omega) (by decide) dX5_draw_12 ?_
    refine fl_ti (y := nI v) h51 ?_
    refine lv_i2l (v := (nI v).toInt64) hx hb dX5_draw_13 rfl ?_
    refine fl_tl (y := lN v) (nI_l hv0) ?_
    refine lv_lstore_n (lv' := [(3, .long (lN v)), (0, .ref (ad 0)), (1, .long (lN k))]) hx hb dX5_draw_14 rfl hl (by decide) rfl (fun ls hl => ?_)
    refine lv_aload_n hx hb dX5_draw_15 rfl (lv_at hl 1 rfl) ?_
    refine lv_dup hx hb dX5_draw_16 rfl ?_
    refine va_get (D := D) (ci := 7) (v := .int (M.1 0 6)) (C := RX5) (T := TX5) (N := 23) hx hb hts inX5 hown hK hP 0 (fl_at (by decide) rfl) rfl 6 (by decide) (hts (.fieldLink RX5 60 "ResampledRowsModel" "forcedMany" "I") (by decide +kernel)) (fun _ h9 => h9) rfl dX5_draw_17 ?_
    refine fl_ti (y := nI (v :: q).length) hQ.1 ?_
    refine lv_iconst (v := 1) hx hb dX5_draw_20 (by decide) ?_
    refine lv_isub hx hb dX5_draw_21 ?_
    refine fl_ti (y := nI q.length) (nI_pred _) ?_
    refine fl_put (ci := 7) (ty := .int) (v := .int (nI q.length)) (C := RX5) (T := TX5) (Nf := 23) hx hb hts inX5 tyX5 tyX5_ok nmX5 hown hK hJ hP hS 0 (by decide) (fl_sI M 0 6 (nI q.length)) rfl rfl 6 (by decide) (hts (.fieldLink RX5 60 "ResampledRowsModel" "forcedMany" "I") (by decide +kernel)) (fun _ h9 => h9) rfl (by decide +kernel) rfl rfl (Nat.le_of_ble_eq_true rfl) rfl (fl_sI_o (fm_loc cI cJ ad) _ _ _ _) dX5_draw_22 (fun H locs hP hS => ?_)
    refine lv_iconst (v := 0) hx hb dX5_draw_25 (by decide) ?_
    refine lv_istore (lv' := [(5, .int 0), (3, .long (lN v)), (0, .ref (ad 0)), (1, .long (lN k))]) hx hb dX5_draw_26 hl (by decide) rfl (fun ls hl => ?_)
    suffices KL28 : ∀ (f : Nat) (i : Nat) (M3 : fl_M) (hi : i ≤ q.length) (h6 : M3.1 0 6 = nI q.length) (hlo : ∀ j, j < i → M3.1 5 j = M.1 5 (j + 1)) (hhi : ∀ j, i ≤ j → M3.1 5 j = M.1 5 j) (he : fp fm_PD M M3) (h83 : M3.2.1 0 8 = d.2) (hf : q.length + 1 ≤ i + f), ∀ (H : Heap) (locs : List Loc), va_P D vwCl (fmP cI cJ ad M3) H → va_S (fl_A 15 ad) s.heap H locs → ∀ (ls : Array Slot), lv_has ls 6 [(0, .ref (ad 0)), (1, .long (lN k)), (3, .long (lN v)), (5, .int (nI i))] → W p l e (headSpec wsX5_draw ({ frames := 0, cells := 0, slots := 0, locals := 0 } : Room)).room s m ([.ref (ad 0), .long (lN k)] : List Value).toArray below meth c H locs 0 0 (MQ below (va_Ql (fun r M2 => r = lN ((a_next d).1 % k) ∧ fm_D (a_next d).2 M2 ∧ fp fm_PD M M2) (fmQ D cI cJ ad) (fl_A 15 ad)) ([.ref (ad 0), .long (lN k)] : List Value).toArray s 0 0 (fl_A 15 ad)) (F0 m 28 ls []) from KL28 (q.length + 1) 0 (fl_sI M 0 6 (nI q.length)) (Nat.zero_le _) rfl (fun j hj => absurd hj (Nat.not_lt_zero j)) (fun j _ => rfl) (fp.rf.sI (by unfold fm_PD; omega) _) h8 (by omega) _ _ hP hS ls (lv_sub hl [2, 3, 1, 0] rfl)
    intro f
    induction f with
    | zero =>
      intro i M3 hi h6 hlo hhi he h83 hf
      omega
    | succ f ih28 =>
      intro i M3 hi h6 hlo hhi he h83 hf H locs hP hS ls hl
      refine lv_iload hx hb dX5_draw_28 (lv_at hl 3 rfl) ?_
      refine lv_aload_n hx hb dX5_draw_30 rfl (lv_at hl 0 rfl) ?_
      refine va_get (D := D) (ci := 7) (v := .int (M3.1 0 6)) (C := RX5) (T := TX5) (N := 23) hx hb hts inX5 hown hK hP 0 (fl_at (by decide) rfl) rfl 6 (by decide) (hts (.fieldLink RX5 60 "ResampledRowsModel" "forcedMany" "I") (by decide +kernel)) (fun _ h9 => h9) rfl dX5_draw_31 ?_
      refine fl_ti (y := nI q.length) h6 ?_
      refine lv_icmp_ge (tgt := 59) hx hb dX5_draw_34 (by decide) (fun hc34 => ?_) (fun hc34 => ?_)
      · have e34 : i = q.length := Nat.le_antisymm hi ((nI_leI (by omega) (by omega)).mp hc34)
        refine lv_goto (tgt := 86) hx hb dX5_draw_59 (by decide) ?_
        refine lv_lload_n hx hb dX5_draw_86 rfl (lv_at hl 2 rfl) ?_
        refine lv_lload_n hx hb dX5_draw_87 rfl (lv_at hl 1 rfl) ?_
        refine lv_lrem hx hb dX5_draw_88 (fun z => absurd ((pk_lEQ (b := 0) (by omega) (by decide)).mp z) (by omega)) ?_
        refine fl_tl (y := lN (v % k)) (pk_lRem (by omega) hk0 (by omega)) ?_
        exact W.lret (v := lN (v % k)) hx hb hr (fun t ht hW => ⟨⟨lN (v % k), M3, rfl, (by rw [hnx]; exact ⟨rfl, ⟨fm_Q_pop hQ h6 (e34 ▸ hlo), h83⟩, he⟩), fl_qi ht hP⟩, hS.F ht⟩) hS.2.2 dX5_draw_89
      · have l34 : i < q.length := Nat.lt_of_not_le (fun q => hc34 ((nI_leI (by omega) (by omega)).mpr q))
        refine lv_aload_n hx hb dX5_draw_37 rfl (lv_at hl 0 rfl) ?_
        refine va_get (D := D) (ci := 7) (v := .ref (ad 5)) (C := RX5) (T := TX5) (N := 23) hx hb hts inX5 hown hK hP 0 (fl_at (by decide) rfl) rfl 5 (by decide) (hts (.fieldLink RX5 22 "ResampledRowsModel" "forced" "[I") (by decide +kernel)) (fun _ h9 => h9) rfl dX5_draw_38 ?_
        refine lv_iload hx hb dX5_draw_41 (lv_at hl 3 rfl) ?_
        refine lv_aload_n hx hb dX5_draw_43 rfl (lv_at hl 0 rfl) ?_
        refine va_get (D := D) (ci := 7) (v := .ref (ad 5)) (C := RX5) (T := TX5) (N := 23) hx hb hts inX5 hown hK hP 0 (fl_at (by decide) rfl) rfl 5 (by decide) (hts (.fieldLink RX5 22 "ResampledRowsModel" "forced" "[I") (by decide +kernel)) (fun _ h9 => h9) rfl dX5_draw_44 ?_
        refine lv_iload hx hb dX5_draw_47 (lv_at hl 3 rfl) ?_
        refine lv_iconst (v := 1) hx hb dX5_draw_49 (by decide) ?_
        refine lv_iadd hx hb dX5_draw_50 ?_
        refine fl_ti (y := nI (i + 1)) (nI_1 i) ?_
        refine fl_ild (n := 64) (k := (i + 1)) hx hb hK hP (fl_at (by decide) rfl) rfl rfl (by omega) (by decide) dX5_draw_51 ?_
        refine fl_ist (n := 64) (k := i) (x := M3.1 5 (i + 1)) hx hb hK hJ hP hS (fm_loc cI cJ ad) (fl_at (by decide) rfl) rfl rfl rfl (by omega) (by decide) dX5_draw_52 (fun H locs hP hS => ?_)
        refine lv_iinc (v := nI (i + 1)) (lv' := [(5, .int (nI (i + 1))), (0, .ref (ad 0)), (1, .long (lN k)), (3, .long (lN v))]) hx hb dX5_draw_53 hl (k := 3) rfl (fl_inc i) (by decide) rfl (fun ls hl => ?_)
        refine lv_goto (tgt := 28) hx hb dX5_draw_56 (by decide) ?_
        exact ih28 (i + 1) (fl_sI M3 5 i (M3.1 5 (i + 1))) (by omega) h6 (fm_shL hlo hhi) (fm_shH hhi) (he.sI (by unfold fm_PD; omega) _) h83 (by omega) _ _ hP hS ls (lv_sub hl [1, 2, 3, 0] rfl)

set_option maxHeartbeats 4000000 in
set_option maxRecDepth 100000 in
theorem c_X5_sumBy (l : Launch) {D : va_G} {cI cJ cII : ClassId} {ad : Nat → Nat} (hJ : fl_inj 15 ad) (M : fl_M) (n : Nat) (w : Nat → Nat) (hn : n ≤ 16) (hw : ∀ j, j < n → M.2.1 10 j = lN (w j)) : Met l yX5_sumBy wsX5_sumBy ({ frames := 0, cells := 0, slots := 0, locals := 0 } : Room) (fmPc D cI cJ cII ad M [.ref (ad 0), .int (nI n)]) (va_Ql (fun r M2 => r = lN (a_sum w n) ∧ M2 = M) (fmQ D cI cJ ad) (fl_A 15 ad)) 0 0 (fl_A 15 ad) := by
  refine Met.ofW (cc := cX5_sumBy) (maxL := 5) (ret := (some .long)) (by decide) rfl ?_
  intro p e s m args below meth c s₁ B hml hv
  obtain ⟨rfl, hP, hK, hN⟩ := hv
  have hx := B.exec
  have hb := B.bytes
  have hr := B.returns
  have hts := atoms_spec (ws := wsX5_sumBy) B.pre
  have hown : s.vm.findClass RX5 = some m.cls := findClass_of_methodNamed B.named
  have hlocks := B.notSynchronized
  have inX5 : ∀ w ∈ u_ws RX5 TX5 23, w ∈ wsX5_sumBy := by decide +kernel
  have hS : va_S (fl_A 15 ad) s.heap s.heap [] := va_S.rf
  have hl := lv_entry ([.ref (ad 0), .int (nI n)] : List Value) (n := 5) (Nat.le_of_ble_eq_true rfl)
  rw [lg_entry_eq]
  generalize (lg_sl ([.ref (ad 0), .int (nI n)] : List Value) ++ List.replicate (5 - (lg_sl ([.ref (ad 0), .int (nI n)] : List Value)).length) Slot.unset).toArray = ls at hl ⊢
  have hl : lv_has ls 5 [(0, .ref (ad 0)), (1, .int (nI n))] := hl
  refine lv_lconst (v := 0) hx hb dX5_sumBy_0 (by decide) ?_
  refine lv_lstore_n (lv' := [(2, .long 0), (0, .ref (ad 0)), (1, .int (nI n))]) hx hb dX5_sumBy_1 rfl hl (by decide) rfl (fun ls hl => ?_)
  refine lv_iconst (v := 0) hx hb dX5_sumBy_2 (by decide) ?_
  refine lv_istore (lv' := [(4, .int 0), (2, .long 0), (0, .ref (ad 0)), (1, .int (nI n))]) hx hb dX5_sumBy_3 hl (by decide) rfl (fun ls hl => ?_)
  suffices KL5 : ∀ (f : Nat) (i : Nat) (hi : i ≤ n) (hf : n + 1 ≤ i + f), ∀ (H : Heap) (locs : List Loc), va_P D vwCl (fmP cI cJ ad M) H → va_S (fl_A 15 ad) s.heap H locs → ∀ (ls : Array Slot), lv_has ls 5 [(0, .ref (ad 0)), (1, .int (nI n)), (2, .long (lN (a_sum w i))), (4, .int (nI i))] → W p l e (headSpec wsX5_sumBy ({ frames := 0, cells := 0, slots := 0, locals := 0 } : Room)).room s m ([.ref (ad 0), .int (nI n)] : List Value).toArray below meth c H locs 0 0 (MQ below (va_Ql (fun r M2 => r = lN (a_sum w n) ∧ M2 = M) (fmQ D cI cJ ad) (fl_A 15 ad)) ([.ref (ad 0), .int (nI n)] : List Value).toArray s 0 0 (fl_A 15 ad)) (F0 m 5 ls []) from KL5 (n + 1) 0 (Nat.zero_le n) (by omega) _ _ hP hS ls (lv_sub hl [2, 3, 1, 0] rfl)
  intro f
  induction f with
  | zero =>
    intro i hi hf
    omega
  | succ f ih5 =>
    intro i hi hf H locs hP hS ls hl
    refine lv_iload hx hb dX5_sumBy_5 (lv_at hl 3 rfl) ?_
    refine lv_iload_n hx hb dX5_sumBy_7 rfl (lv_at hl 1 rfl) ?_
    refine lv_icmp_ge (tgt := 27) hx hb dX5_sumBy_8 (by decide) (fun hc8 => ?_) (fun hc8 => ?_)
    · have e8 : i = n := Nat.le_antisymm hi ((nI_leI (by omega) (by omega)).mp hc8)
      refine lv_lload_n hx hb dX5_sumBy_27 rfl (lv_at hl 2 rfl) ?_
      exact W.lret (v := lN (a_sum w i)) hx hb hr (fun t ht hW => ⟨⟨lN (a_sum w i), M, rfl, ⟨by rw [e8], rfl⟩, fl_qi ht hP⟩, hS.F ht⟩) hS.2.2 dX5_sumBy_28
    · have l8 : i < n := Nat.lt_of_not_le (fun q => hc8 ((nI_leI (by omega) (by omega)).mpr q))
      refine lv_lload_n hx hb dX5_sumBy_11 rfl (lv_at hl 2 rfl) ?_
      refine lv_aload_n hx hb dX5_sumBy_12 rfl (lv_at hl 0 rfl) ?_
      refine va_get (D := D) (ci := 7) (v := .ref (ad 10)) (C := RX5) (T := TX5) (N := 23) hx hb hts inX5 hown hK hP 0 (fl_at (by decide) rfl) rfl 18 (by decide) (hts (.fieldLink RX5 38 "ResampledRowsModel" "by" "[J") (by decide +kernel)) (fun _ h9 => h9) rfl dX5_sumBy_13 ?_
      refine lv_iload hx hb dX5_sumBy_16 (lv_at hl 3 rfl) ?_
      refine fl_jld (n := 16) (k := i) hx hb hK hP (fl_at (by decide) rfl) rfl rfl (by omega) (by decide) dX5_sumBy_18 ?_
      refine lv_ladd hx hb dX5_sumBy_19 ?_
      refine fl_tl (y := lN (a_sum w (i + 1))) (lN_ad (hw i l8)) ?_
      refine lv_lstore_n (lv' := [(2, .long (lN (a_sum w (i + 1)))), (0, .ref (ad 0)), (1, .int (nI n)), (4, .int (nI i))]) hx hb dX5_sumBy_20 rfl hl (by decide) rfl (fun ls hl => ?_)
      refine lv_iinc (v := nI (i + 1)) (lv' := [(4, .int (nI (i + 1))), (2, .long (lN (a_sum w (i + 1)))), (0, .ref (ad 0)), (1, .int (nI n))]) hx hb dX5_sumBy_21 hl (k := 3) rfl (fl_inc i) (by decide) rfl (fun ls hl => ?_)
      refine lv_goto (tgt := 5) hx hb dX5_sumBy_24 (by decide) ?_
      exact ih5 (i + 1) (by omega) (by omega) _ _ hP hS ls (lv_sub hl [2, 3, 1, 0] rfl)

set_option maxHeartbeats 4000000 in
set_option maxRecDepth 100000 in
theorem c_X5_drawBy (l : Launch) {D : va_G} {cI cJ cII : ClassId} {ad : Nat → Nat} (hJ : fl_inj 15 ad) (M : fl_M) (d : a_D) (n : Nat) (w : Nat → Nat) (hn : n ≤ 16) (hw0 : ∀ j, j < n → M.2.1 10 j = lN (w j)) (hT : a_sum w n < 2 ^ 31) (hd : fm_D d M) : Met l yX5_drawBy wsX5_drawBy ({ frames := 1, cells := 0, slots := 0, locals := 25 } : Room) (fmPc D cI cJ cII ad M [.ref (ad 0), .int (nI n)]) (va_Qi (fun r M2 => r = a_oI (a_by w n d).1 (-1) ∧ fm_D (a_by w n d).2 M2 ∧ fp fm_PD M M2) (fmQ D cI cJ ad) (fl_A 15 ad)) 0 0 (fl_A 15 ad) := by
  refine Met.ofW (cc := cX5_drawBy) (maxL := 9) (ret := (some .int)) (by decide) rfl ?_
  intro p e s m args below meth c s₁ B hml hv
  obtain ⟨rfl, hP, hK, hN⟩ := hv
  have hx := B.exec
  have hb := B.bytes
  have hr := B.returns
  have hts := atoms_spec (ws := wsX5_drawBy) B.pre
  have hown : s.vm.findClass RX5 = some m.cls := findClass_of_methodNamed B.named
  have hlocks := B.notSynchronized
  have inX5 : ∀ w ∈ u_ws RX5 TX5 23, w ∈ wsX5_drawBy := by decide +kernel
  have hS : va_S (fl_A 15 ad) s.heap s.heap [] := va_S.rf
  have hl := lv_entry ([.ref (ad 0), .int (nI n)] : List Value) (n := 9) (Nat.le_of_ble_eq_true rfl)
  rw [lg_entry_eq]
  generalize (lg_sl ([.ref (ad 0), .int (nI n)] : List Value) ++ List.replicate (9 - (lg_sl ([.ref (ad 0), .int (nI n)] : List Value)).length) Slot.unset).toArray = ls at hl ⊢
  have hl : lv_has ls 9 [(0, .ref (ad 0)), (1, .int (nI n))] := hl
  refine lv_aload_n hx hb dX5_drawBy_0 rfl (lv_at hl 0 rfl) ?_
  refine lv_iload_n hx hb dX5_drawBy_1 rfl (lv_at hl 1 rfl) ?_
  refine va_calll (va_runV (As := [.int (nI n)]) (rest := []) ⟨hx, hb, hml, hown, hts⟩ (c_X5_sumBy l hJ M n w hn hw0) (cwV 1 hts gX5_drawBy_X5_sumBy rfl rfl rfl (by decide +kernel) ⟨Nat.le_of_ble_eq_true rfl, Nat.le_of_ble_eq_true rfl⟩) ⟨fl_blind, va_recv hK hP (ci := 7) (q0 := 0) rfl (fl_at (by decide) rfl), fl_pre hP hK hN⟩ rfl rfl hl.1 rfl (lv_room (Nat.le_of_ble_eq_true rfl)) dX5_drawBy_2 ⟨Nat.le_of_ble_eq_true rfl, Nat.le_of_ble_eq_true rfl⟩) hS (fun _ _ h => h) (fun _ h => h) (fun r2 M2 t H1 locs ht hvm hw hB hz1 hk1 hS => ?_)
  have hP : va_P D vwCl (fmP cI cJ ad M2) H1 := by rw [← ht]; exact hB
  clear hB hk1 hz1 hvm ht t
  obtain ⟨rfl, hE⟩ := hw
  rw [hE] at hP
  refine lv_lstore_n (lv' := [(2, .long (lN (a_sum w n))), (0, .ref (ad 0)), (1, .int (nI n))]) hx hb dX5_drawBy_5 rfl hl (by decide) rfl (fun ls hl => ?_)
  refine lv_lload_n hx hb dX5_drawBy_6 rfl (lv_at hl 0 rfl) ?_
  refine lv_lconst (v := 0) hx hb dX5_drawBy_7 (by decide) ?_
  refine fl_lne (tgt := 14) hx hb dX5_drawBy_8 dX5_drawBy_9 (by decide) (fun hc8 => ?_) (fun hc8 => ?_)
  · have h0 : 0 < a_sum w n := Nat.pos_of_ne_zero (fun z => hc8 (by rw [z]; rfl))
    have hby : a_by w n d = (some (a_first w 1 ((a_next d).1 % a_sum w n) n), (a_next d).2) := if_neg (by omega)
    refine lv_aload_n hx hb dX5_drawBy_14 rfl (lv_at hl 1 rfl) ?_
    refine lv_lload_n hx hb dX5_drawBy_15 rfl (lv_at hl 0 rfl) ?_
    refine va_calll (va_runV (As := [.long (lN (a_sum w n))]) (rest := []) ⟨hx, hb, hml, hown, hts⟩ (c_X5_draw l hJ M d (a_sum w n) h0 hT hd) (cwV 1 hts gX5_drawBy_X5_draw rfl rfl rfl (by decide +kernel) ⟨Nat.le_of_ble_eq_true rfl, Nat.le_of_ble_eq_true rfl⟩) ⟨fl_blind, va_recv hK hP (ci := 7) (q0 := 0) rfl (fl_at (by decide) rfl), fl_pre hP hK hN⟩ rfl rfl hl.1 rfl (lv_room (Nat.le_of_ble_eq_true rfl)) dX5_drawBy_16 ⟨Nat.le_of_ble_eq_true rfl, Nat.le_of_ble_eq_true rfl⟩) hS (fun _ _ h => h) (fun _ h => h) (fun r16 M16 t H1 locs ht hvm hw hB hz1 hk1 hS => ?_)
    have hP : va_P D vwCl (fmP cI cJ ad M16) H1 := by rw [← ht]; exact hB
    clear hB hk1 hz1 hvm ht t
    obtain ⟨rfl, hD2, he2⟩ := hw
    obtain ⟨b, hb0⟩ : ∃ b, b = (a_next d).1 % a_sum w n := ⟨_, rfl⟩
    have hbT : b < a_sum w n := by rw [hb0]; exact Nat.mod_lt _ h0
    refine fl_tl (y := lN b) (by rw [hb0]) ?_
    have hw2 : ∀ j, j < n → M16.2.1 10 j = lN (w j) := fun j hj => by rw [(he2 10 j (by unfold fm_PD; omega)).2.1]; exact hw0 j hj
    refine lv_lstore (lv' := [(4, .long (lN b)), (2, .long (lN (a_sum w n))), (0, .ref (ad 0)), (1, .int (nI n))]) hx hb dX5_drawBy_19 hl (by decide) rfl (fun ls hl => ?_)
    refine lv_lconst (v := 0) hx hb dX5_drawBy_21 (by decide) ?_
    refine lv_lstore (lv' := [(6, .long 0), (4, .long (lN b)), (2, .long (lN (a_sum w n))), (0, .ref (ad 0)), (1, .int (nI n))]) hx hb dX5_drawBy_22 hl (by decide) rfl (fun ls hl => ?_)
    refine lv_iconst (v := -1) hx hb dX5_drawBy_24 (by decide) ?_
    refine fl_ti (y := nI 0 - 1) (by decide) ?_
    refine lv_istore (lv' := [(8, .int (nI 0 - 1)), (6, .long 0), (4, .long (lN b)), (2, .long (lN (a_sum w n))), (0, .ref (ad 0)), (1, .int (nI n))]) hx hb dX5_drawBy_25 hl (by decide) rfl (fun ls hl => ?_)
    suffices KL27 : ∀ (f : Nat) (i : Nat) (hi : i ≤ n) (hz : ∀ j, i = j + 1 → ¬ b < 1 * a_sum w j) (hf : n + 1 ≤ i + f), ∀ (H : Heap) (locs : List Loc), va_P D vwCl (fmP cI cJ ad M16) H → va_S (fl_A 15 ad) s.heap H locs → ∀ (ls : Array Slot), lv_has ls 9 [(0, .ref (ad 0)), (1, .int (nI n)), (2, .long (lN (a_sum w n))), (4, .long (lN b)), (6, .long (lN (a_sum w i))), (8, .int (nI i - 1))] → W p l e (headSpec wsX5_drawBy ({ frames := 1, cells := 0, slots := 0, locals := 25 } : Room)).room s m ([.ref (ad 0), .int (nI n)] : List Value).toArray below meth c H locs 0 0 (MQ below (va_Qi (fun r M2 => r = a_oI (a_by w n d).1 (-1) ∧ fm_D (a_by w n d).2 M2 ∧ fp fm_PD M M2) (fmQ D cI cJ ad) (fl_A 15 ad)) ([.ref (ad 0), .int (nI n)] : List Value).toArray s 0 0 (fl_A 15 ad)) (F0 m 27 ls []) from KL27 (n + 1) 0 (Nat.zero_le n) (fun j hj => by omega) (by omega) _ _ hP hS ls (lv_sub hl [4, 5, 3, 2, 1, 0] rfl)
    intro f
    induction f with
    | zero =>
      intro i hi hz hf
      omega
    | succ f ih27 =>
      intro i hi hz hf H locs hP hS ls hl
      refine lv_lload hx hb dX5_drawBy_27 (lv_at hl 4 rfl) ?_
      refine lv_lload hx hb dX5_drawBy_29 (lv_at hl 3 rfl) ?_
      refine fl_lgt (tgt := 53) hx hb dX5_drawBy_31 dX5_drawBy_32 (by decide) (fun hc31 => ?_) (fun hc31 => ?_)
      · have g31 : b < a_sum w i := (pk_lLT (by omega) (by have := a_sum_mono w hi; omega)).mp hc31
        obtain ⟨j, hj⟩ : ∃ j, i = j + 1 := ⟨i - 1, by have : i ≠ 0 := fun z => (by subst z; exact absurd g31 (Nat.not_lt_zero b)); omega⟩
        refine lv_iload hx hb dX5_drawBy_53 (lv_at hl 5 rfl) ?_
        refine fl_ti (y := nI j) (by rw [hj]; exact nI_pred j) ?_
        exact W.iret (v := nI j) hx hb hr (fun t ht hW => ⟨⟨nI j, M16, rfl, ⟨by rw [hby]; show nI j = nI (a_first w 1 _ n); rw [← hb0, a_first_eq (hz j hj) (by rw [hj] at g31; omega) n (by omega)], by rw [hby]; exact hD2, he2⟩, fl_qi ht hP⟩, hS.F ht⟩) hS.2.2 dX5_drawBy_55
      · have g31 : ¬ b < a_sum w i := fun z => hc31 ((pk_lLT (by omega) (by have := a_sum_mono w hi; omega)).mpr z)
        have lI : i < n := Nat.lt_of_not_le (fun z => by have : a_sum w n ≤ a_sum w i := a_sum_mono w z; omega)
        refine lv_iinc (v := nI i) (lv' := [(8, .int (nI i)), (0, .ref (ad 0)), (1, .int (nI n)), (2, .long (lN (a_sum w n))), (4, .long (lN b)), (6, .long (lN (a_sum w i)))]) hx hb dX5_drawBy_35 hl (k := 5) rfl (fl_m1 i) (by decide) rfl (fun ls hl => ?_)
        refine lv_lload hx hb dX5_drawBy_38 (lv_at hl 5 rfl) ?_
        refine lv_aload_n hx hb dX5_drawBy_40 rfl (lv_at hl 1 rfl) ?_
        refine va_get (D := D) (ci := 7) (v := .ref (ad 10)) (C := RX5) (T := TX5) (N := 23) hx hb hts inX5 hown hK hP 0 (fl_at (by decide) rfl) rfl 18 (by decide) (hts (.fieldLink RX5 38 "ResampledRowsModel" "by" "[J") (by decide +kernel)) (fun _ h9 => h9) rfl dX5_drawBy_41 ?_
        refine lv_iload hx hb dX5_drawBy_44 (lv_at hl 0 rfl) ?_
        refine fl_jld (n := 16) (k := i) hx hb hK hP (fl_at (by decide) rfl) rfl rfl (by omega) (by decide) dX5_drawBy_46 ?_
        refine lv_ladd hx hb dX5_drawBy_47 ?_
        refine fl_tl (y := lN (a_sum w (i + 1))) (lN_ad (hw2 i lI)) ?_
        refine lv_lstore (lv' := [(6, .long (lN (a_sum w (i + 1)))), (8, .int (nI i)), (0, .ref (ad 0)), (1, .int (nI n)), (2, .long (lN (a_sum w n))), (4, .long (lN b))]) hx hb dX5_drawBy_48 hl (by decide) rfl (fun ls hl => ?_)
        have hl : lv_has ls 9 [(6, .long (lN (a_sum w (i + 1)))), (8, .int (nI (i + 1) - 1)), (0, .ref (ad 0)), (1, .int (nI n)), (2, .long (lN (a_sum w n))), (4, .long (lN b))] := by
          have h7 : lv_has ls 9 [(6, .long (lN (a_sum w (i + 1)))), (8, .int (nI i)), (0, .ref (ad 0)), (1, .int (nI n)), (2, .long (lN (a_sum w n))), (4, .long (lN b))] := lv_sub hl [0, 1, 2, 3, 4, 5] rfl
          rw [← nI_pred i] at h7
          exact h7
        refine lv_goto (tgt := 27) hx hb dX5_drawBy_50 (by decide) ?_
        exact ih27 (i + 1) (by omega) (fun j hj => (show j = i from by omega) ▸ (by omega)) (by omega) _ _ hP hS ls (lv_sub hl [2, 3, 4, 5, 0, 1] rfl)
  · have h0 : a_sum w n = 0 := (pk_lEQ (b := 0) (by omega) (by decide)).mp hc8
    have hby : a_by w n d = (none, d) := if_pos h0
    refine lv_iconst (v := -1) hx hb dX5_drawBy_12 (by decide) ?_
    exact W.iret (v := (-1)) hx hb hr (fun t ht hW => ⟨⟨(-1), M, rfl, ⟨by rw [hby]; rfl, by rw [hby]; exact hd, fp.rf⟩, fl_qi ht hP⟩, hS.F ht⟩) hS.2.2 dX5_drawBy_13

set_option maxHeartbeats 4000000 in
set_option maxRecDepth 100000 in
theorem c_X5_total (l : Launch) {D : va_G} {cI cJ cII : ClassId} {ad : Nat → Nat} (hJ : fl_inj 15 ad) (M : fl_M) (n : Nat) (w : Nat → Nat) (hn : n ≤ 16) (hn1 : M.1 0 7 = nI n) (hw : fl_rowJ (M.2.1 7) w n 1000001) : Met l yX5_total wsX5_total ({ frames := 0, cells := 0, slots := 0, locals := 0 } : Room) (fmPc D cI cJ cII ad M [.ref (ad 0)]) (va_Ql (fun r M2 => r = lN (a_sum w n) ∧ M2 = M) (fmQ D cI cJ ad) (fl_A 15 ad)) 0 0 (fl_A 15 ad) := by
  refine Met.ofW (cc := cX5_total) (maxL := 4) (ret := (some .long)) (by decide) rfl ?_
  intro p e s m args below meth c s₁ B hml hv
  obtain ⟨rfl, hP, hK, hN⟩ := hv
  have hx := B.exec
  have hb := B.bytes
  have hr := B.returns
  have hts := atoms_spec (ws := wsX5_total) B.pre
  have hown : s.vm.findClass RX5 = some m.cls := findClass_of_methodNamed B.named
  have hlocks := B.notSynchronized
  have inX5 : ∀ w ∈ u_ws RX5 TX5 23, w ∈ wsX5_total := by decide +kernel
  have hS : va_S (fl_A 15 ad) s.heap s.heap [] := va_S.rf
  have hl := lv_entry ([.ref (ad 0)] : List Value) (n := 4) (Nat.le_of_ble_eq_true rfl)
  rw [lg_entry_eq]
  generalize (lg_sl ([.ref (ad 0)] : List Value) ++ List.replicate (4 - (lg_sl ([.ref (ad 0)] : List Value)).length) Slot.unset).toArray = ls at hl ⊢
  have hl : lv_has ls 4 [(0, .ref (ad 0))] := hl
  refine lv_lconst (v := 0) hx hb dX5_total_0 (by decide) ?_
  refine lv_lstore_n (lv' := [(1, .long 0), (0, .ref (ad 0))]) hx hb dX5_total_1 rfl hl (by decide) rfl (fun ls hl => ?_)
  refine lv_iconst (v := 0) hx hb dX5_total_2 (by decide) ?_
  refine lv_istore_n (lv' := [(3, .int 0), (1, .long 0), (0, .ref (ad 0))]) hx hb dX5_total_3 rfl hl (by decide) rfl (fun ls hl => ?_)
  suffices KL4 : ∀ (f : Nat) (i : Nat) (hi : i ≤ n) (hf : n + 1 ≤ i + f), ∀ (H : Heap) (locs : List Loc), va_P D vwCl (fmP cI cJ ad M) H → va_S (fl_A 15 ad) s.heap H locs → ∀ (ls : Array Slot), lv_has ls 4 [(0, .ref (ad 0)), (1, .long (lN (a_sum w i))), (3, .int (nI i))] → W p l e (headSpec wsX5_total ({ frames := 0, cells := 0, slots := 0, locals := 0 } : Room)).room s m ([.ref (ad 0)] : List Value).toArray below meth c H locs 0 0 (MQ below (va_Ql (fun r M2 => r = lN (a_sum w n) ∧ M2 = M) (fmQ D cI cJ ad) (fl_A 15 ad)) ([.ref (ad 0)] : List Value).toArray s 0 0 (fl_A 15 ad)) (F0 m 4 ls []) from KL4 (n + 1) 0 (Nat.zero_le n) (by omega) _ _ hP hS ls (lv_sub hl [2, 1, 0] rfl)
  intro f
  induction f with
  | zero =>
    intro i hi hf
    omega
  | succ f ih4 =>
    intro i hi hf H locs hP hS ls hl
    refine lv_iload_n hx hb dX5_total_4 rfl (lv_at hl 2 rfl) ?_
    refine lv_aload_n hx hb dX5_total_5 rfl (lv_at hl 0 rfl) ?_
    refine va_get (D := D) (ci := 7) (v := .int (M.1 0 7)) (C := RX5) (T := TX5) (N := 23) hx hb hts inX5 hown hK hP 0 (fl_at (by decide) rfl) rfl 7 (by decide) (hts (.fieldLink RX5 66 "ResampledRowsModel" "rows" "I") (by decide +kernel)) (fun _ h9 => h9) rfl dX5_total_6 ?_
    refine fl_ti (y := nI n) hn1 ?_
    refine lv_icmp_ge (tgt := 27) hx hb dX5_total_9 (by decide) (fun hc9 => ?_) (fun hc9 => ?_)
    · have e9 : i = n := Nat.le_antisymm hi ((nI_leI (by omega) (by omega)).mp hc9)
      refine lv_lload_n hx hb dX5_total_27 rfl (lv_at hl 1 rfl) ?_
      exact W.lret (v := lN (a_sum w i)) hx hb hr (fun t ht hW => ⟨⟨lN (a_sum w i), M, rfl, ⟨by rw [e9], rfl⟩, fl_qi ht hP⟩, hS.F ht⟩) hS.2.2 dX5_total_28
    · have l9 : i < n := Nat.lt_of_not_le (fun q => hc9 ((nI_leI (by omega) (by omega)).mpr q))
      refine lv_lload_n hx hb dX5_total_12 rfl (lv_at hl 1 rfl) ?_
      refine lv_aload_n hx hb dX5_total_13 rfl (lv_at hl 0 rfl) ?_
      refine va_get (D := D) (ci := 7) (v := .ref (ad 7)) (C := RX5) (T := TX5) (N := 23) hx hb hts inX5 hown hK hP 0 (fl_at (by decide) rfl) rfl 10 (by decide) (hts (.fieldLink RX5 28 "ResampledRowsModel" "weights" "[J") (by decide +kernel)) (fun _ h9 => h9) rfl dX5_total_14 ?_
      refine lv_iload_n hx hb dX5_total_17 rfl (lv_at hl 2 rfl) ?_
      refine fl_jld (n := 16) (k := i) hx hb hK hP (fl_at (by decide) rfl) rfl rfl (by omega) (by decide) dX5_total_18 ?_
      refine lv_ladd hx hb dX5_total_19 ?_
      refine fl_tl (y := lN (a_sum w (i + 1))) (lN_ad (hw i l9).1) ?_
      refine lv_lstore_n (lv' := [(1, .long (lN (a_sum w (i + 1)))), (0, .ref (ad 0)), (3, .int (nI i))]) hx hb dX5_total_20 rfl hl (by decide) rfl (fun ls hl => ?_)
      refine lv_iinc (v := nI (i + 1)) (lv' := [(3, .int (nI (i + 1))), (1, .long (lN (a_sum w (i + 1)))), (0, .ref (ad 0))]) hx hb dX5_total_21 hl (k := 2) rfl (fl_inc i) (by decide) rfl (fun ls hl => ?_)
      refine lv_goto (tgt := 4) hx hb dX5_total_24 (by decide) ?_
      exact ih4 (i + 1) (by omega) (by omega) _ _ hP hS ls (lv_sub hl [2, 1, 0] rfl)

set_option maxHeartbeats 4000000 in
set_option maxRecDepth 100000 in
theorem c_X5_squares (l : Launch) {D : va_G} {cI cJ cII : ClassId} {ad : Nat → Nat} (hJ : fl_inj 15 ad) (M : fl_M) (n : Nat) (w : Nat → Nat) (hn : n ≤ 16) (hn1 : M.1 0 7 = nI n) (hw : fl_rowJ (M.2.1 7) w n 1000001) : Met l yX5_squares wsX5_squares ({ frames := 0, cells := 0, slots := 0, locals := 0 } : Room) (fmPc D cI cJ cII ad M [.ref (ad 0)]) (va_Ql (fun r M2 => r = lN (a_Q w n) ∧ M2 = M) (fmQ D cI cJ ad) (fl_A 15 ad)) 0 0 (fl_A 15 ad) := by
  refine Met.ofW (cc := cX5_squares) (maxL := 4) (ret := (some .long)) (by decide) rfl ?_
  intro p e s m args below meth c s₁ B hml hv
  obtain ⟨rfl, hP, hK, hN⟩ := hv
  have hx := B.exec
  have hb := B.bytes
  have hr := B.returns
  have hts := atoms_spec (ws := wsX5_squares) B.pre
  have hown : s.vm.findClass RX5 = some m.cls := findClass_of_methodNamed B.named
  have hlocks := B.notSynchronized
  have inX5 : ∀ w ∈ u_ws RX5 TX5 23, w ∈ wsX5_squares := by decide +kernel
  have hS : va_S (fl_A 15 ad) s.heap s.heap [] := va_S.rf
  have hl := lv_entry ([.ref (ad 0)] : List Value) (n := 4) (Nat.le_of_ble_eq_true rfl)
  rw [lg_entry_eq]
  generalize (lg_sl ([.ref (ad 0)] : List Value) ++ List.replicate (4 - (lg_sl ([.ref (ad 0)] : List Value)).length) Slot.unset).toArray = ls at hl ⊢
  have hl : lv_has ls 4 [(0, .ref (ad 0))] := hl
  refine lv_lconst (v := 0) hx hb dX5_squares_0 (by decide) ?_
  refine lv_lstore_n (lv' := [(1, .long 0), (0, .ref (ad 0))]) hx hb dX5_squares_1 rfl hl (by decide) rfl (fun ls hl => ?_)
  refine lv_iconst (v := 0) hx hb dX5_squares_2 (by decide) ?_
  refine lv_istore_n (lv' := [(3, .int 0), (1, .long 0), (0, .ref (ad 0))]) hx hb dX5_squares_3 rfl hl (by decide) rfl (fun ls hl => ?_)
  suffices KL4 : ∀ (f : Nat) (i : Nat) (hi : i ≤ n) (hf : n + 1 ≤ i + f), ∀ (H : Heap) (locs : List Loc), va_P D vwCl (fmP cI cJ ad M) H → va_S (fl_A 15 ad) s.heap H locs → ∀ (ls : Array Slot), lv_has ls 4 [(0, .ref (ad 0)), (1, .long (lN (a_sum (fun k => w k * w k) i))), (3, .int (nI i))] → W p l e (headSpec wsX5_squares ({ frames := 0, cells := 0, slots := 0, locals := 0 } : Room)).room s m ([.ref (ad 0)] : List Value).toArray below meth c H locs 0 0 (MQ below (va_Ql (fun r M2 => r = lN (a_Q w n) ∧ M2 = M) (fmQ D cI cJ ad) (fl_A 15 ad)) ([.ref (ad 0)] : List Value).toArray s 0 0 (fl_A 15 ad)) (F0 m 4 ls []) from KL4 (n + 1) 0 (Nat.zero_le n) (by omega) _ _ hP hS ls (lv_sub hl [2, 1, 0] rfl)
  intro f
  induction f with
  | zero =>
    intro i hi hf
    omega
  | succ f ih4 =>
    intro i hi hf H locs hP hS ls hl
    refine lv_iload_n hx hb dX5_squares_4 rfl (lv_at hl 2 rfl) ?_
    refine lv_aload_n hx hb dX5_squares_5 rfl (lv_at hl 0 rfl) ?_
    refine va_get (D := D) (ci := 7) (v := .int (M.1 0 7)) (C := RX5) (T := TX5) (N := 23) hx hb hts inX5 hown hK hP 0 (fl_at (by decide) rfl) rfl 7 (by decide) (hts (.fieldLink RX5 66 "ResampledRowsModel" "rows" "I") (by decide +kernel)) (fun _ h9 => h9) rfl dX5_squares_6 ?_
    refine fl_ti (y := nI n) hn1 ?_
    refine lv_icmp_ge (tgt := 34) hx hb dX5_squares_9 (by decide) (fun hc9 => ?_) (fun hc9 => ?_)
    · have e9 : i = n := Nat.le_antisymm hi ((nI_leI (by omega) (by omega)).mp hc9)
      refine lv_lload_n hx hb dX5_squares_34 rfl (lv_at hl 1 rfl) ?_
      exact W.lret (v := lN (a_sum (fun k => w k * w k) i)) hx hb hr (fun t ht hW => ⟨⟨lN (a_sum (fun k => w k * w k) i), M, rfl, ⟨by rw [e9], rfl⟩, fl_qi ht hP⟩, hS.F ht⟩) hS.2.2 dX5_squares_35
    · have l9 : i < n := Nat.lt_of_not_le (fun q => hc9 ((nI_leI (by omega) (by omega)).mpr q))
      refine lv_lload_n hx hb dX5_squares_12 rfl (lv_at hl 1 rfl) ?_
      refine lv_aload_n hx hb dX5_squares_13 rfl (lv_at hl 0 rfl) ?_
      refine va_get (D := D) (ci := 7) (v := .ref (ad 7)) (C := RX5) (T := TX5) (N := 23) hx hb hts inX5 hown hK hP 0 (fl_at (by decide) rfl) rfl 10 (by decide) (hts (.fieldLink RX5 28 "ResampledRowsModel" "weights" "[J") (by decide +kernel)) (fun _ h9 => h9) rfl dX5_squares_14 ?_
      refine lv_iload_n hx hb dX5_squares_17 rfl (lv_at hl 2 rfl) ?_
      refine fl_jld (n := 16) (k := i) hx hb hK hP (fl_at (by decide) rfl) rfl rfl (by omega) (by decide) dX5_squares_18 ?_
      refine lv_aload_n hx hb dX5_squares_19 rfl (lv_at hl 0 rfl) ?_
      refine va_get (D := D) (ci := 7) (v := .ref (ad 7)) (C := RX5) (T := TX5) (N := 23) hx hb hts inX5 hown hK hP 0 (fl_at (by decide) rfl) rfl 10 (by decide) (hts (.fieldLink RX5 28 "ResampledRowsModel" "weights" "[J") (by decide +kernel)) (fun _ h9 => h9) rfl dX5_squares_20 ?_
      refine lv_iload_n hx hb dX5_squares_23 rfl (lv_at hl 2 rfl) ?_
      refine fl_jld (n := 16) (k := i) hx hb hK hP (fl_at (by decide) rfl) rfl rfl (by omega) (by decide) dX5_squares_24 ?_
      refine lv_lmul hx hb dX5_squares_25 ?_
      refine lv_ladd hx hb dX5_squares_26 ?_
      refine fl_tl (y := lN (a_sum (fun k => w k * w k) (i + 1))) (lN_sq (hw i l9).1) ?_
      refine lv_lstore_n (lv' := [(1, .long (lN (a_sum (fun k => w k * w k) (i + 1)))), (0, .ref (ad 0)), (3, .int (nI i))]) hx hb dX5_squares_27 rfl hl (by decide) rfl (fun ls hl => ?_)
      refine lv_iinc (v := nI (i + 1)) (lv' := [(3, .int (nI (i + 1))), (1, .long (lN (a_sum (fun k => w k * w k) (i + 1)))), (0, .ref (ad 0))]) hx hb dX5_squares_28 hl (k := 2) rfl (fl_inc i) (by decide) rfl (fun ls hl => ?_)
      refine lv_goto (tgt := 4) hx hb dX5_squares_31 (by decide) ?_
      exact ih4 (i + 1) (by omega) (by omega) _ _ hP hS ls (lv_sub hl [2, 1, 0] rfl)

set_option maxHeartbeats 4000000 in
set_option maxRecDepth 100000 in
theorem c_X5_pick (l : Launch) {D : va_G} {cI cJ cII : ClassId} {ad : Nat → Nat} (hJ : fl_inj 15 ad) (M : fl_M) (r : Nat) (hr0 : r < 16) : Met l yX5_pick wsX5_pick ({ frames := 0, cells := 0, slots := 0, locals := 0 } : Room) (fmPc D cI cJ cII ad M [.ref (ad 0), .int (nI r)]) (va_Qv (fun M2 => M2 = fl_sI M 12 r (M.1 12 r + 1)) (fmQ D cI cJ ad) (fl_A 15 ad)) 0 0 (fl_A 15 ad) := by
  refine Met.ofW (cc := cX5_pick) (maxL := 2) (ret := none) (by decide) rfl ?_
  intro p e s m args below meth c s₁ B hml hv
  obtain ⟨rfl, hP, hK, hN⟩ := hv
  have hx := B.exec
  have hb := B.bytes
  have hr := B.returns
  have hts := atoms_spec (ws := wsX5_pick) B.pre
  have hown : s.vm.findClass RX5 = some m.cls := findClass_of_methodNamed B.named
  have hlocks := B.notSynchronized
  have inX5 : ∀ w ∈ u_ws RX5 TX5 23, w ∈ wsX5_pick := by decide +kernel
  have hS : va_S (fl_A 15 ad) s.heap s.heap [] := va_S.rf
  have hl := lv_entry ([.ref (ad 0), .int (nI r)] : List Value) (n := 2) (Nat.le_of_ble_eq_true rfl)
  rw [lg_entry_eq]
  generalize (lg_sl ([.ref (ad 0), .int (nI r)] : List Value) ++ List.replicate (2 - (lg_sl ([.ref (ad 0), .int (nI r)] : List Value)).length) Slot.unset).toArray = ls at hl ⊢
  have hl : lv_has ls 2 [(0, .ref (ad 0)), (1, .int (nI r))] := hl
  refine lv_aload_n hx hb dX5_pick_0 rfl (lv_at hl 0 rfl) ?_
  refine va_get (D := D) (ci := 7) (v := .ref (ad 12)) (C := RX5) (T := TX5) (N := 23) hx hb hts inX5 hown hK hP 0 (fl_at (by decide) rfl) rfl 20 (by decide) (hts (.fieldLink RX5 44 "ResampledRowsModel" "times" "[I") (by decide +kernel)) (fun _ h9 => h9) rfl dX5_pick_1 ?_
  refine lv_iload_n hx hb dX5_pick_4 rfl (lv_at hl 1 rfl) ?_
  refine lv_dup2_11 hx hb dX5_pick_5 rfl rfl ?_
  refine fl_ild (n := 16) (k := r) hx hb hK hP (fl_at (by decide) rfl) rfl rfl (by omega) (by decide) dX5_pick_6 ?_
  refine lv_iconst (v := 1) hx hb dX5_pick_7 (by decide) ?_
  refine lv_iadd hx hb dX5_pick_8 ?_
  refine fl_ist (n := 16) (k := r) (x := (M.1 12 r) + 1) hx hb hK hJ hP hS (fm_loc cI cJ ad) (fl_at (by decide) rfl) rfl rfl rfl (by omega) (by decide) dX5_pick_9 (fun H locs hP hS => ?_)
  exact W.vret hx hb hr (fun t ht hW => ⟨⟨(fl_sI M 12 r ((M.1 12 r) + 1)), rfl, rfl, fl_qi ht hP⟩, hS.F ht⟩) hS.2.2 dX5_pick_10

set_option maxHeartbeats 4000000 in
set_option maxRecDepth 100000 in
theorem c_X5_rowAt (l : Launch) {D : va_G} {cI cJ cII : ClassId} {ad : Nat → Nat} (hJ : fl_inj 15 ad) (M : fl_M) (n : Nat) (w : Nat → Nat) (hn : n ≤ 16) (hn1 : M.1 0 7 = nI n) (hw : fl_rowJ (M.2.1 7) w n 1000001) (b : Nat) (hbT : b < n * a_sum w n) : Met l yX5_rowAt wsX5_rowAt ({ frames := 0, cells := 0, slots := 0, locals := 0 } : Room) (fmPc D cI cJ cII ad M [.ref (ad 0), .long (lN b)]) (va_Qi (fun r M2 => r = nI (a_first w n b n) ∧ M2 = M) (fmQ D cI cJ ad) (fl_A 15 ad)) 0 0 (fl_A 15 ad) := by
  refine Met.ofW (cc := cX5_rowAt) (maxL := 6) (ret := (some .int)) (by decide) rfl ?_
  intro p e s m args below meth c s₁ B hml hv
  obtain ⟨rfl, hP, hK, hN⟩ := hv
  have hx := B.exec
  have hb := B.bytes
  have hr := B.returns
  have hts := atoms_spec (ws := wsX5_rowAt) B.pre
  have hown : s.vm.findClass RX5 = some m.cls := findClass_of_methodNamed B.named
  have hlocks := B.notSynchronized
  have inX5 : ∀ w ∈ u_ws RX5 TX5 23, w ∈ wsX5_rowAt := by decide +kernel
  have hS : va_S (fl_A 15 ad) s.heap s.heap [] := va_S.rf
  have hl := lv_entry ([.ref (ad 0), .long (lN b)] : List Value) (n := 6) (Nat.le_of_ble_eq_true rfl)
  rw [lg_entry_eq]
  generalize (lg_sl ([.ref (ad 0), .long (lN b)] : List Value) ++ List.replicate (6 - (lg_sl ([.ref (ad 0), .long (lN b)] : List Value)).length) Slot.unset).toArray = ls at hl ⊢
  have hl : lv_has ls 6 [(0, .ref (ad 0)), (1, .long (lN b))] := hl
  have hTl : n * a_sum w n ≤ 16 * 16000000 := Nat.mul_le_mul hn (by have := hw.le (B := 1000000); omega)
  refine lv_lconst (v := 0) hx hb dX5_rowAt_0 (by decide) ?_
  refine lv_lstore_n (lv' := [(3, .long 0), (0, .ref (ad 0)), (1, .long (lN b))]) hx hb dX5_rowAt_1 rfl hl (by decide) rfl (fun ls hl => ?_)
  refine lv_iconst (v := -1) hx hb dX5_rowAt_2 (by decide) ?_
  refine fl_ti (y := nI 0 - 1) (by decide) ?_
  refine lv_istore (lv' := [(5, .int (nI 0 - 1)), (3, .long 0), (0, .ref (ad 0)), (1, .long (lN b))]) hx hb dX5_rowAt_3 hl (by decide) rfl (fun ls hl => ?_)
  suffices KL5 : ∀ (f : Nat) (i : Nat) (hi : i ≤ n) (hz : ∀ j, i = j + 1 → ¬ b < n * a_sum w j) (hf : n + 1 ≤ i + f), ∀ (H : Heap) (locs : List Loc), va_P D vwCl (fmP cI cJ ad M) H → va_S (fl_A 15 ad) s.heap H locs → ∀ (ls : Array Slot), lv_has ls 6 [(0, .ref (ad 0)), (1, .long (lN b)), (3, .long (lN (n * a_sum w i))), (5, .int (nI i - 1))] → W p l e (headSpec wsX5_rowAt ({ frames := 0, cells := 0, slots := 0, locals := 0 } : Room)).room s m ([.ref (ad 0), .long (lN b)] : List Value).toArray below meth c H locs 0 0 (MQ below (va_Qi (fun r M2 => r = nI (a_first w n b n) ∧ M2 = M) (fmQ D cI cJ ad) (fl_A 15 ad)) ([.ref (ad 0), .long (lN b)] : List Value).toArray s 0 0 (fl_A 15 ad)) (F0 m 5 ls []) from KL5 (n + 1) 0 (Nat.zero_le n) (fun j hj => by omega) (by omega) _ _ hP hS ls (lv_sub hl [2, 3, 1, 0] rfl)
  intro f
  induction f with
  | zero =>
    intro i hi hz hf
    omega
  | succ f ih5 =>
    intro i hi hz hf H locs hP hS ls hl
    refine lv_lload_n hx hb dX5_rowAt_5 rfl (lv_at hl 2 rfl) ?_
    refine lv_lload_n hx hb dX5_rowAt_6 rfl (lv_at hl 1 rfl) ?_
    refine fl_lgt (tgt := 33) hx hb dX5_rowAt_7 dX5_rowAt_8 (by decide) (fun hc7 => ?_) (fun hc7 => ?_)
    · have hmi : n * a_sum w i ≤ n * a_sum w n := Nat.mul_le_mul_left n (a_sum_mono w hi)
      have g7 : b < n * a_sum w i := (pk_lLT (by omega) (by omega)).mp hc7
      obtain ⟨j, hj⟩ : ∃ j, i = j + 1 := ⟨i - 1, by have : i ≠ 0 := fun z => (by subst z; exact absurd g7 (Nat.not_lt_zero b)); omega⟩
      refine lv_iload hx hb dX5_rowAt_33 (lv_at hl 3 rfl) ?_
      refine fl_ti (y := nI j) (by rw [hj]; exact nI_pred j) ?_
      exact W.iret (v := nI j) hx hb hr (fun t ht hW => ⟨⟨nI j, M, rfl, ⟨by rw [a_first_eq (hz j hj) (hj ▸ g7) n (by omega)], rfl⟩, fl_qi ht hP⟩, hS.F ht⟩) hS.2.2 dX5_rowAt_35
    · have hmi : n * a_sum w i ≤ n * a_sum w n := Nat.mul_le_mul_left n (a_sum_mono w hi)
      have g7 : ¬ b < n * a_sum w i := fun z => hc7 ((pk_lLT (by omega) (by omega)).mpr z)
      have lI : i < n := Nat.lt_of_not_le (fun z => by have : n * a_sum w n ≤ n * a_sum w i := Nat.mul_le_mul_left n (a_sum_mono w z); omega)
      refine lv_iinc (v := nI i) (lv' := [(5, .int (nI i)), (0, .ref (ad 0)), (1, .long (lN b)), (3, .long (lN (n * a_sum w i)))]) hx hb dX5_rowAt_11 hl (k := 3) rfl (fl_m1 i) (by decide) rfl (fun ls hl => ?_)
      refine lv_lload_n hx hb dX5_rowAt_14 rfl (lv_at hl 3 rfl) ?_
      refine lv_aload_n hx hb dX5_rowAt_15 rfl (lv_at hl 1 rfl) ?_
      refine va_get (D := D) (ci := 7) (v := .int (M.1 0 7)) (C := RX5) (T := TX5) (N := 23) hx hb hts inX5 hown hK hP 0 (fl_at (by decide) rfl) rfl 7 (by decide) (hts (.fieldLink RX5 66 "ResampledRowsModel" "rows" "I") (by decide +kernel)) (fun _ h9 => h9) rfl dX5_rowAt_16 ?_
      refine fl_ti (y := nI n) hn1 ?_
      refine lv_i2l (v := (nI n).toInt64) hx hb dX5_rowAt_19 rfl ?_
      refine fl_tl (y := lN n) (nI_l (by omega)) ?_
      refine lv_aload_n hx hb dX5_rowAt_20 rfl (lv_at hl 1 rfl) ?_
      refine va_get (D := D) (ci := 7) (v := .ref (ad 7)) (C := RX5) (T := TX5) (N := 23) hx hb hts inX5 hown hK hP 0 (fl_at (by decide) rfl) rfl 10 (by decide) (hts (.fieldLink RX5 28 "ResampledRowsModel" "weights" "[J") (by decide +kernel)) (fun _ h9 => h9) rfl dX5_rowAt_21 ?_
      refine lv_iload hx hb dX5_rowAt_24 (lv_at hl 0 rfl) ?_
      refine fl_jld (n := 16) (k := i) hx hb hK hP (fl_at (by decide) rfl) rfl rfl (by omega) (by decide) dX5_rowAt_26 ?_
      refine lv_lmul hx hb dX5_rowAt_27 ?_
      refine lv_ladd hx hb dX5_rowAt_28 ?_
      refine fl_tl (y := lN (n * a_sum w (i + 1))) (lN_fa (hw i lI).1) ?_
      refine lv_lstore_n (lv' := [(3, .long (lN (n * a_sum w (i + 1)))), (5, .int (nI i)), (0, .ref (ad 0)), (1, .long (lN b))]) hx hb dX5_rowAt_29 rfl hl (by decide) rfl (fun ls hl => ?_)
      have hl : lv_has ls 6 [(3, .long (lN (n * a_sum w (i + 1)))), (5, .int (nI (i + 1) - 1)), (0, .ref (ad 0)), (1, .long (lN b))] := by
        have h7 : lv_has ls 6 [(3, .long (lN (n * a_sum w (i + 1)))), (5, .int (nI i)), (0, .ref (ad 0)), (1, .long (lN b))] := lv_sub hl [0, 1, 2, 3] rfl
        rw [← nI_pred i] at h7
        exact h7
      refine lv_goto (tgt := 5) hx hb dX5_rowAt_30 (by decide) ?_
      exact ih5 (i + 1) (by omega) (fun j hj => (show i = j from by omega) ▸ g7) (by omega) _ _ hP hS ls (lv_sub hl [2, 3, 0, 1] rfl)

