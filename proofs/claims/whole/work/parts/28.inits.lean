theorem ci_D1 {x N0 : Nat} {e : va_E} : va_D (ci_A x N0) [(x, e)] := by
  refine ⟨fun i j p q hi hj _ => ?_, fun k q hk => ?_⟩
  · have h1 : i < 1 := (List.getElem?_eq_some_iff.mp hi).1
    have h2 : j < 1 := (List.getElem?_eq_some_iff.mp hj).1
    omega
  · have h1 : k < 1 := (List.getElem?_eq_some_iff.mp hk).1
    rw [show k = 0 by omega] at hk
    cases Option.some.inj hk
    exact Or.inl rfl
def ci_0 (cI : ClassId) (x u : Nat) : va_W := [(x, .inr (2, [.ref u, .int 0, .int 0, .long 0])), (u, .inl (cI, 64, .inl (fun _ => 0)))]
def ci_1 (cI : ClassId) (x : Nat) (u : Nat × Nat) : va_W := [(x, .inr (3, [.ref u.1, .ref u.2])), (u.1, .inl (cI, 16, .inl (fun _ => 0))), (u.2, .inl (cI, 16, .inl (fun _ => 0)))]
set_option maxHeartbeats 4000000 in
set_option maxRecDepth 100000 in
theorem c_X0_init (l : Launch) {D : va_G} {cI cJ cII : ClassId} (x N0 : Nat) : Met l yX0_init wsX0_init ({ frames := 1, cells := 1, slots := 64, locals := 20 } : Room) (ci_Pc D cI cJ cII [(x, .inr (2, [.null, .int 0, .int 0, .long 0]))] N0 [.ref x]) (va_Qv (fun u : Nat => va_D (ci_A x N0) (ci_0 cI x u)) (fun u t => va_P D vwCl (ci_0 cI x u) t.heap) (ci_A x N0)) 1 64 (ci_A x N0) := by
  refine Met.ofW (cc := cX0_init) (maxL := 1) (ret := none) (by decide) rfl ?_
  intro p e s m args below meth c s₁ B hml hv
  obtain ⟨rfl, hz, hP, hK, hN⟩ := hv
  have hx := B.exec
  have hb := B.bytes
  have hr := B.returns
  have hts := atoms_spec (ws := wsX0_init) B.pre
  have hown : s.vm.findClass RX0 = some m.cls := findClass_of_methodNamed B.named
  have hlocks := B.notSynchronized
  have hin : meth.name = "<init>" := (name_of_methodNamed B.named B.method).1
  have inX0 : ∀ w ∈ u_ws RX0 TX0 4, w ∈ wsX0_init := by decide +kernel
  have hA : ∀ q, s.heap.size ≤ q → ci_A x N0 q := fun q h => Or.inr (hz ▸ h)
  have hD : va_D (ci_A x N0) [(x, .inr (2, [.null, .int 0, .int 0, .long 0]))] := ci_D1
  have hS : va_S (ci_A x N0) s.heap s.heap [] := va_S.rf
  have hl := lv_entry ([.ref x] : List Value) (n := 1) (Nat.le_of_ble_eq_true rfl)
  rw [lg_entry_eq]
  generalize (lg_sl ([.ref x] : List Value) ++ List.replicate (1 - (lg_sl ([.ref x] : List Value)).length) Slot.unset).toArray = ls at hl ⊢
  have hl : lv_has ls 1 [(0, .ref x)] := hl
  refine lv_aload_n hx hb dX0_init_0 rfl (lv_at hl 0 rfl) ?_
  refine W.objInit hx hb hown (hts (.methodLink RX0 3 objectInit) (by decide +kernel)) (hts (.instanceMethod objectInit) (by decide +kernel)) (hts (.code objectInit ⟨#[0xb1]⟩ 1 none) (by decide +kernel)) rfl (by rw [hml]; exact hl.1) rfl dX0_init_1 (Nat.le_of_ble_eq_true rfl) (Nat.le_of_ble_eq_true rfl) ?_
  refine lv_aload_n hx hb dX0_init_4 rfl (lv_at hl 0 rfl) ?_
  refine lv_bipush (v := 64) hx hb dX0_init_5 (by decide) ?_
  refine ci_newi hx hb (hts (.arrayClass .int) (by decide +kernel)) hK hP hD hS hA 64 rfl (by decide) (Nat.le_of_ble_eq_true rfl) (Nat.le_of_ble_eq_true rfl) dX0_init_7 (fun q7 H hP hD hS => ?_)
  have hP : va_P D vwCl ((x, .inr (2, [.null, .int 0, .int 0, .long 0])) :: ((q7, .inl (cI, 64, .inl (fun _ => 0))) :: [])) _ := hP
  have hD : va_D (ci_A x N0) ((x, .inr (2, [.null, .int 0, .int 0, .long 0])) :: ((q7, .inl (cI, 64, .inl (fun _ => 0))) :: [])) := hD
  refine va_putF (D := D) (ci := 2) (v := .ref q7) (ty := .array .int) (C := RX0) (T := TX0) (N := 4) hx hb hts inX0 tyX0 tyX0_ok nmX0 hown hK hP hD hS 0 rfl rfl 0 (by decide) (hts (.fieldLink RX0 9 "ResampledRows$Draws" "forced" "[I") (by decide +kernel)) (fun _ h9 => h9) rfl hin rfl (by decide +kernel) rfl rfl (Nat.le_of_ble_eq_true rfl) dX0_init_9 (fun H locs hP hD hS => ?_)
  have hP : va_P D vwCl ((x, .inr (2, [.ref q7, .int 0, .int 0, .long 0])) :: ((q7, .inl (cI, 64, .inl (fun _ => 0))) :: [])) _ := hP
  have hD : va_D (ci_A x N0) ((x, .inr (2, [.ref q7, .int 0, .int 0, .long 0])) :: ((q7, .inl (cI, 64, .inl (fun _ => 0))) :: [])) := hD
  exact W.vret hx hb hr (fun t ht hW => ⟨⟨q7, rfl, hD, (show va_P D vwCl (ci_0 cI x q7) t.heap by rw [ht]; exact hP)⟩, hS.F ht⟩) hS.2.2 dX0_init_12
set_option maxHeartbeats 4000000 in
set_option maxRecDepth 100000 in
theorem c_X1_init (l : Launch) {D : va_G} {cI cJ cII : ClassId} (x N0 : Nat) : Met l yX1_init wsX1_init ({ frames := 1, cells := 2, slots := 32, locals := 20 } : Room) (ci_Pc D cI cJ cII [(x, .inr (3, [.null, .null]))] N0 [.ref x]) (va_Qv (fun u : Nat × Nat => va_D (ci_A x N0) (ci_1 cI x u)) (fun u t => va_P D vwCl (ci_1 cI x u) t.heap) (ci_A x N0)) 2 32 (ci_A x N0) := by
  refine Met.ofW (cc := cX1_init) (maxL := 1) (ret := none) (by decide) rfl ?_
  intro p e s m args below meth c s₁ B hml hv
  obtain ⟨rfl, hz, hP, hK, hN⟩ := hv
  have hx := B.exec
  have hb := B.bytes
  have hr := B.returns
  have hts := atoms_spec (ws := wsX1_init) B.pre
  have hown : s.vm.findClass RX1 = some m.cls := findClass_of_methodNamed B.named
  have hlocks := B.notSynchronized
  have hin : meth.name = "<init>" := (name_of_methodNamed B.named B.method).1
  have inX1 : ∀ w ∈ u_ws RX1 TX1 2, w ∈ wsX1_init := by decide +kernel
  have hA : ∀ q, s.heap.size ≤ q → ci_A x N0 q := fun q h => Or.inr (hz ▸ h)
  have hD : va_D (ci_A x N0) [(x, .inr (3, [.null, .null]))] := ci_D1
  have hS : va_S (ci_A x N0) s.heap s.heap [] := va_S.rf
  have hl := lv_entry ([.ref x] : List Value) (n := 1) (Nat.le_of_ble_eq_true rfl)
  rw [lg_entry_eq]
  generalize (lg_sl ([.ref x] : List Value) ++ List.replicate (1 - (lg_sl ([.ref x] : List Value)).length) Slot.unset).toArray = ls at hl ⊢
  have hl : lv_has ls 1 [(0, .ref x)] := hl
  refine lv_aload_n hx hb dX1_init_0 rfl (lv_at hl 0 rfl) ?_
  refine W.objInit hx hb hown (hts (.methodLink RX1 3 objectInit) (by decide +kernel)) (hts (.instanceMethod objectInit) (by decide +kernel)) (hts (.code objectInit ⟨#[0xb1]⟩ 1 none) (by decide +kernel)) rfl (by rw [hml]; exact hl.1) rfl dX1_init_1 (Nat.le_of_ble_eq_true rfl) (Nat.le_of_ble_eq_true rfl) ?_
  refine lv_aload_n hx hb dX1_init_4 rfl (lv_at hl 0 rfl) ?_
  refine lv_bipush (v := 16) hx hb dX1_init_5 (by decide) ?_
  refine ci_newi hx hb (hts (.arrayClass .int) (by decide +kernel)) hK hP hD hS hA 16 rfl (by decide) (Nat.le_of_ble_eq_true rfl) (Nat.le_of_ble_eq_true rfl) dX1_init_7 (fun q7 H hP hD hS => ?_)
  have hP : va_P D vwCl ((x, .inr (3, [.null, .null])) :: ((q7, .inl (cI, 16, .inl (fun _ => 0))) :: [])) _ := hP
  have hD : va_D (ci_A x N0) ((x, .inr (3, [.null, .null])) :: ((q7, .inl (cI, 16, .inl (fun _ => 0))) :: [])) := hD
  refine va_putF (D := D) (ci := 3) (v := .ref q7) (ty := .array .int) (C := RX1) (T := TX1) (N := 2) hx hb hts inX1 tyX1 tyX1_ok nmX1 hown hK hP hD hS 0 rfl rfl 0 (by decide) (hts (.fieldLink RX1 9 "ResampledRows$Picks" "times" "[I") (by decide +kernel)) (fun _ h9 => h9) rfl hin rfl (by decide +kernel) rfl rfl (Nat.le_of_ble_eq_true rfl) dX1_init_9 (fun H locs hP hD hS => ?_)
  have hP : va_P D vwCl ((x, .inr (3, [.ref q7, .null])) :: ((q7, .inl (cI, 16, .inl (fun _ => 0))) :: [])) _ := hP
  have hD : va_D (ci_A x N0) ((x, .inr (3, [.ref q7, .null])) :: ((q7, .inl (cI, 16, .inl (fun _ => 0))) :: [])) := hD
  refine lv_aload_n hx hb dX1_init_12 rfl (lv_at hl 0 rfl) ?_
  refine lv_bipush (v := 16) hx hb dX1_init_13 (by decide) ?_
  refine ci_newi hx hb (hts (.arrayClass .int) (by decide +kernel)) hK hP hD hS hA 16 rfl (by decide) (Nat.le_of_ble_eq_true rfl) (Nat.le_of_ble_eq_true rfl) dX1_init_15 (fun q15 H hP hD hS => ?_)
  have hP : va_P D vwCl ((x, .inr (3, [.ref q7, .null])) :: ((q7, .inl (cI, 16, .inl (fun _ => 0))) :: ((q15, .inl (cI, 16, .inl (fun _ => 0))) :: []))) _ := hP
  have hD : va_D (ci_A x N0) ((x, .inr (3, [.ref q7, .null])) :: ((q7, .inl (cI, 16, .inl (fun _ => 0))) :: ((q15, .inl (cI, 16, .inl (fun _ => 0))) :: []))) := hD
  refine va_putF (D := D) (ci := 3) (v := .ref q15) (ty := .array .int) (C := RX1) (T := TX1) (N := 2) hx hb hts inX1 tyX1 tyX1_ok nmX1 hown hK hP hD hS 0 rfl rfl 1 (by decide) (hts (.fieldLink RX1 15 "ResampledRows$Picks" "rests" "[I") (by decide +kernel)) (fun _ h9 => h9) rfl hin rfl (by decide +kernel) rfl rfl (Nat.le_of_ble_eq_true rfl) dX1_init_17 (fun H locs hP hD hS => ?_)
  have hP : va_P D vwCl ((x, .inr (3, [.ref q7, .ref q15])) :: ((q7, .inl (cI, 16, .inl (fun _ => 0))) :: ((q15, .inl (cI, 16, .inl (fun _ => 0))) :: []))) _ := hP
  have hD : va_D (ci_A x N0) ((x, .inr (3, [.ref q7, .ref q15])) :: ((q7, .inl (cI, 16, .inl (fun _ => 0))) :: ((q15, .inl (cI, 16, .inl (fun _ => 0))) :: []))) := hD
  exact W.vret hx hb hr (fun t ht hW => ⟨⟨(q7, q15), rfl, hD, (show va_P D vwCl (ci_1 cI x (q7, q15)) t.heap by rw [ht]; exact hP)⟩, hS.F ht⟩) hS.2.2 dX1_init_20
