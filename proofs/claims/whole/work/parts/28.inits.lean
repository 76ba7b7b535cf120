theorem ci_D1 {x N0 : Nat} {e : va_E} : va_D (ci_A x N0) [(x, e)] := by
  refine ⟨fun i j p q hi hj _ => ?_, fun k q hk => ?_⟩
  · have h1 : i < 1 := (List.getElem?_eq_some_iff.mp hi).1
    have h2 : j < 1 := (List.getElem?_eq_some_iff.mp hj).1
    omega
  · have h1 : k < 1 := (List.getElem?_eq_some_iff.mp hk).1
    rw [show k = 0 by omega] at hk
    cases Option.some.inj hk
    exact Or.inl rfl
def ci_0 (cI : ClassId) (x u : Nat) : va_W := [(x, .inr (2, [.ref u, .int 0, .int 0, .long 0])), (u, .inl (cI, 64, .inl (fun _ => 0)))]
def ci_1 (cI : ClassId) (x : Nat) (u : Nat × Nat) : va_W := [(x, .inr (3, [.ref u.1, .ref u.2])), (u.1, .inl (cI, 16, .inl (fun _ => 0))), (u.2, .inl (cI, 16, .inl (fun _ => 0)))]
set_option maxHeartbeats 4000000 in
set_option maxRecDepth 100000 in
theorem c_X0_init (l : Launch) {D : va_G} {cI cJ cII : ClassId} (x N0 : Nat) : Met l yX0_init wsX0_init ({ frames := 1, cells := 1, slots := 64, locals := 20 } : Room) (ci_Pc D cI cJ cII [(x, .inr (2, [.null, .int 0, .int 0, .long 0]))] N0 [.ref x]) (va_Qv (fun u : Nat => va_D (ci_A x N0) (ci_0 cI x u)) (fun u t => va_P D vwCl (ci_0 cI x u) t.heap) (ci_A x N0)) 1 64 (ci_A x N0) := by
  refine Met.ofW (cc := cX0_init) (maxL := 1) (ret := none) (by decide) rfl ?_
  intro p e s m args below meth c s₁ B hml hv
  obtain ⟨rfl, hz, hP, hK, hN⟩ := hv
  have hx := B.exec
  have hb := B.bytes
  have hr := B.returns
  have hts := atoms_spec (ws := wsX0_init) B.pre
  have hown : s.vm.findClass RX0 = some m.cls := findClass_of_methodNamed B.named
  have hlocks := B.notSynchronized
  have hin : meth.name = "<init>" := (name_of_methodNamed B.named B.method).1
  have inX0 : ∀ w ∈ u_ws RX0 TX0 4, w ∈ wsX0_init := by decide +kernel
  have hA : ∀ q, s.heap.size ≤ q → ci_A x N0 q := fun q h => Or.inr (hz ▸ h)
  have hD : va_D (ci_A x N0) [(x, .inr (2, [.null, .int 0, .int 0, .long 0]))] := ci_D1
  have hS : va_S (ci_A x N0) s.heap s.heap [] := va_S.rf
  have hl := lv_entry ([.ref x] : List Value) (n := 1) (Nat.le_of_ble_eq_true rfl)
  rw [lg_entry_eq]
  generalize (lg_sl ([.ref x] : List Value) ++ List.replicate (1 - (lg_sl ([.ref x] : List Value)).length) Slot.unset).toArray = ls at hl ⊢
  have hl : lv_has ls 1 [(0, .ref x)] := hl
  refine lv_aload_n hx hb dX0_init_0 rfl (lv_at hl 0 rfl) ?_
  refine W.objInit hx hb hown (hts (.methodLink RX0 3 objectInit) (by decide +kernel)) (hts (.instanceMethod objectInit) (by decide +kernel)) (hts (.code objectInit ⟨#[0xb1]⟩ 1 none) (by decide +kernel)) rfl (by rw [hml]; exact hl.1) rfl dX0_init_1 (Nat.le_of_ble_eq_true rfl) (Nat.le_of_ble_eq_true rfl) ?_
  refine lv_aload_n hx hb dX0_init_4 rfl (lv_at hl 0 rfl) ?_
  refine lv_bipush (v := 64) hx hb dX0_init_5 (by decide) ?_
  refine ci_newi hx hb (hts (.arrayClass .int) (by decide +kernel)) hK hP hD hS hA 64 rfl (by decide) (Nat.le_of_ble_eq_true rfl) (Nat.le_of_ble_eq_true rfl) dX0_init_7 (fun q7 H hP hD hS => ?_)
  have hP : va_P D vwCl ((x, .inr (2, [.null, .int 0, .int 0, .long 0])) :: ((q7, .inl (cI, 64, .inl (fun _ => 0))) :: [])) _ := hP
  have hD : va_D (ci_A x N0) ((x, .inr (2, [.null, .int 0, .int 0, .long 0])) :: ((q7, .inl (cI, 64, .inl (fun _ => 0))) :: [])) := hD
  refine va_putF (D := D) (ci := 2) (v := .ref q7) (ty := .array .int) (C := RX0) (T := TX0) (N := 4) hx hb hts inX0 tyX0 tyX0_ok nmX0 hown hK hP hD hS 0 rfl rfl 0 (by decide) (hts (.fieldLink RX0 9 "ResampledRows$Draws" "forced" "[I") (by decide +kernel)) (fun _ h9 => h9) rfl hin rfl (by decide +kernel) rfl rfl (Nat.le_of_ble_eq_true rfl) dX0_init_9 (fun H locs hP hD hS => ?_)
  have hP : va_P D vwCl ((x, .inr (2, [.ref q7, .int 0, .int 0, .long 0])) :: ((q7, .inl (cI, 64, .inl (fun _ => 0))) :: [])) _ := hP
  have hD : va_D (ci_A x N0) ((x, .inr (2, [.ref q7, .int 0, .int 0, .long 0])) :: ((q7, .inl (cI, 64, .inl (fun _ => 0))) :: [])) := hD
  exact W.vret hx hb hr (fun t ht hW => ⟨⟨q7, rfl, hD, (show va_P D vwCl (ci_0 cI x q7) t.heap by rw [ht]; exact hP)⟩, hS.F ht⟩) hS.2.2 dX0_init_12
set_option maxHeartbeats 4000000 in
set_option maxRecDepth 100000 in
theorem c_X1_init (l : Launch) {D : va_G} {cI cJ cII : ClassId} (x N0 : Nat) : Met l yX1_init wsX1_init ({ frames := 1, cells := 2, slots := 32, locals := 20 } : Room) (ci_Pc D cI cJ cII [(x, .inr (3, [.null, .null]))] N0 [.ref x]) (va_Qv (fun u : Nat × Nat => va_D (ci_A x N0) (ci_1 cI x u)) (fun u t => va_P D vwCl (ci_1 cI x u) t.heap) (ci_A x N0)) 2 32 (ci_A x N0) := by
  refine Met.ofW (cc := cX1_init) (maxL := 1) (ret := none) (by decide) rfl ?_
  intro p e s m args below meth c s₁ B hml hv
  obtain ⟨rfl, hz, hP, hK, hN⟩ := hv
  have hx := B.exec
  have hb := B.bytes
  have hr := B.returns
  have hts := atoms_spec (ws := wsX1_init) B.pre
  have hown : s.vm.findClass RX1 = some m.cls := findClass_of_methodNamed B.named
  have hlocks := B.notSynchronized
  have hin : meth.name = "<init>" := (name_of_methodNamed B.named B.method).1
  have inX1 : ∀ w ∈ u_ws RX1 TX1 2, w ∈ wsX1_init := by decide +kernel
  have hA : ∀ q, s.heap.size ≤ q → ci_A x N0 q := fun q h => Or.inr (hz ▸ h)
  have hD : va_D (ci_A x N0) [(x, .inr (3, [.null, .null]))] := ci_D1
  have hS : va_S (ci_A x N0) s.heap s.heap [] := va_S.rf
  have hl := lv_entry ([.ref x] : List Value) (n := 1) (Nat.le_of_ble_eq_true rfl)
  rw [lg_entry_eq]
  generalize (lg_sl ([.ref x] : List Value) ++ List.replicate (1 - (lg_sl ([.ref x] : List Value)).length) Slot.unset).toArray = ls at hl ⊢
  have hl : lv_has ls 1 [(0, .ref x)] := hl
  refine lv_aload_n hx hb dX1_init_0 rfl (lv_at hl 0 rfl) ?_
  refine W.objInit hx hb hown (hts (.methodLink RX1 3 objectInit) (by decide +kernel)) (hts (.instanceMethod objectInit) (by decide +kernel)) (hts (.code objectInit ⟨#[0xb1]⟩ 1 none) (by decide +kernel)) rfl (by rw [hml]; exact hl.1) rfl dX1_init_1 (Nat.le_of_ble_eq_true rfl) (Nat.le_of_ble_eq_true rfl) ?_
  refine lv_aload_n hx hb dX1_init_4 rfl (lv_at hl 0 rfl) ?_
  refine lv_bipush (v := 16) hx hb dX1_init_5 (by decide) ?_
  refine ci_newi hx hb (hts (.arrayClass .int) (by decide +kernel)) hK hP hD hS hA 16 rfl (by decide) (Nat.le_of_ble_eq_true rfl) (Nat.le_of_ble_eq_true rfl) dX1_init_7 (fun q7 H hP hD hS => ?_)
  have hP : va_P D vwCl ((x, .inr (3, [.null, .null])) :: ((q7, .inl (cI, 16, .inl (fun _ => 0))) :: [])) _ := hP
  have hD : va_D (ci_A x N0) ((x, .inr (3, [.null, .null])) :: ((q7, .inl (cI, 16, .inl (fun _ => 0))) :: [])) := hD
  refine va_putF (D := D) (ci := 3) (v := .ref q7) (ty := .array .int) (C := RX1) (T := TX1) (N := 2) hx hb hts inX1 tyX1 tyX1_ok nmX1 hown hK hP hD hS 0 rfl rfl 0 (by decide) (hts (.fieldLink RX1 9 "ResampledRows$Picks" "times" "[I") (by decide +kernel)) (fun _ h9 => h9) rfl hin rfl (by decide +kernel) rfl rfl (Nat.le_of_ble_eq_true rfl) dX1_init_9 (fun H locs hP hD hS => ?_)
  have hP : va_P D vwCl ((x, .inr (3, [.ref q7, .null])) :: ((q7, .inl (cI, 16, .inl (fun _ => 0))) :: [])) _ := hP
  have hD : va_D (ci_A x N0) ((x, .inr (3, [.ref q7, .null])) :: ((q7, .inl (cI, 16, .inl (fun _ => 0))) :: [])) := hD
  refine lv_aload_n hx hb dX1_init_12 rfl (lv_at hl 0 rfl) ?_
  refine lv_bipush (v := 16) hx hb dX1_init_13 (by decide) ?_
  refine ci_newi hx hb (hts (.arrayClass .int) (by decide +kernel)) hK hP hD hS hA 16 rfl (by decide) (Nat.le_of_ble_eq_true rfl) (Nat.le_of_ble_eq_true rfl) dX1_init_15 (fun q15 H hP hD hS => ?_)
  have hP : va_P D vwCl ((x, .inr (3, [.ref q7, .null])) :: ((q7, .inl (cI, 16, .inl (fun _ => 0))) :: ((q15, .inl (cI, 16, .inl (fun _ => 0))) :: []))) _ := hP
  have hD : va_D (ci_A x N0) ((x, .inr (3, [.ref q7, .null])) :: ((q7, .inl (cI, 16, .inl (fun _ => 0))) :: ((q15, .inl (cI, 16, .inl (fun _ => 0))) :: []))) := hD
  refine va_putF (D := D) (ci := 3) (v := .ref q15) (ty := .array .int) (C := RX1) (T := TX1) (N := 2) hx hb hts inX1 tyX1 tyX1_ok nmX1 hown hK hP hD hS 0 rfl rfl 1 (by decide) (hts (.fieldLink RX1 15 "ResampledRows$Picks" "rests" "[I") (by decide +kernel)) (fun _ h9 => h9) rfl hin rfl (by decide +kernel) rfl rfl (Nat.le_of_ble_eq_true rfl) dX1_init_17 (fun H locs hP hD hS => ?_)
  have hP : va_P D vwCl ((x, .inr (3, [.ref q7, .ref q15])) :: ((q7, .inl (cI, 16, .inl (fun _ => 0))) :: ((q15, .inl (cI, 16, .inl (fun _ => 0))) :: []))) _ := hP
  have hD : va_D (ci_A x N0) ((x, .inr (3, [.ref q7, .ref q15])) :: ((q7, .inl (cI, 16, .inl (fun _ => 0))) :: ((q15, .inl (cI, 16, .inl (fun _ => 0))) :: []))) := hD
  exact W.vret hx hb hr (fun t ht hW => ⟨⟨(q7, q15), rfl, hD, (show va_P D vwCl (ci_1 cI x (q7, q15)) t.heap by rw [ht]; exact hP)⟩, hS.F ht⟩) hS.2.2 dX1_init_20
def ci_2 (cI cII : ClassId) (x : Nat) (u : (Nat → Nat) × (Nat → Nat) × (Nat → Nat)) : va_W := (x, .inr (4, [.ref (u.1 0), .ref (u.1 3), .int 0, .int 0, .int 0, .int (-1000009), .double FP.dconst1, .ref (u.1 4), .ref (u.1 5), .ref (u.1 6), .ref (u.1 7), .ref (u.1 8), .ref (u.1 9)])) :: (u.1 0, .inr (3, [.ref (u.1 1), .ref (u.1 2)])) :: (u.1 1, .inl (cI, 16, .inl (fun _ => 0))) :: (u.1 2, .inl (cI, 16, .inl (fun _ => 0))) :: (u.1 3, .inl (cI, 16, .inl (fun _ => 0))) :: (u.1 4, .inl (cI, 16, .inl (fun _ => 0))) :: (u.1 5, .inl (cI, 16, .inl (fun _ => 0))) :: (u.1 6, .inl (cII, 16, .inr (.inr (.inr (.inr (fun i => some (u.2.1 i))))))) :: (ci_rows cI u.2.1 16 31 ++ ((u.1 7, .inl (cI, 16, .inl (fun _ => 0))) :: (u.1 8, .inl (cI, 16, .inl (fun _ => 0))) :: (u.1 9, .inl (cII, 16, .inr (.inr (.inr (.inr (fun i => some (u.2.2 i))))))) :: (ci_rows cI u.2.2 16 31 ++ [])))
set_option maxHeartbeats 4000000 in
set_option maxRecDepth 100000 in
theorem c_X2_init (l : Launch) {D : va_G} {cI cJ cII : ClassId} (x N0 : Nat) : Met l yX2_init wsX2_init ({ frames := 3, cells := 42, slots := 1138, locals := 60 } : Room) (ci_Pc D cI cJ cII [(x, .inr (4, [.null, .null, .int 0, .int 0, .int 0, .int 0, .double 0, .null, .null, .null, .null, .null, .null]))] N0 [.ref x]) (va_Qv (fun u : (Nat → Nat) × (Nat → Nat) × (Nat → Nat) => va_D (ci_A x N0) (ci_2 cI cII x u)) (fun u t => va_P D vwCl (ci_2 cI cII x u) t.heap) (ci_A x N0)) 42 1138 (ci_A x N0) := by
  refine Met.ofW (cc := cX2_init) (maxL := 1) (ret := none) (by decide) rfl ?_
  intro p e s m args below meth c s₁ B hml hv
  obtain ⟨rfl, hz, hP, hK, hN⟩ := hv
  have hx := B.exec
  have hb := B.bytes
  have hr := B.returns
  have hts := atoms_spec (ws := wsX2_init) B.pre
  have hown : s.vm.findClass RX2 = some m.cls := findClass_of_methodNamed B.named
  have hlocks := B.notSynchronized
  have hin : meth.name = "<init>" := (name_of_methodNamed B.named B.method).1
  have inX1 : ∀ w ∈ u_ws RX1 TX1 2, w ∈ wsX2_init := by decide +kernel
  have inX2 : ∀ w ∈ u_ws RX2 TX2 13, w ∈ wsX2_init := by decide +kernel
  have hA : ∀ q, s.heap.size ≤ q → ci_A x N0 q := fun q h => Or.inr (hz ▸ h)
  have hD : va_D (ci_A x N0) [(x, .inr (4, [.null, .null, .int 0, .int 0, .int 0, .int 0, .double 0, .null, .null, .null, .null, .null, .null]))] := ci_D1
  have hS : va_S (ci_A x N0) s.heap s.heap [] := va_S.rf
  have hl := lv_entry ([.ref x] : List Value) (n := 1) (Nat.le_of_ble_eq_true rfl)
  rw [lg_entry_eq]
  generalize (lg_sl ([.ref x] : List Value) ++ List.replicate (1 - (lg_sl ([.ref x] : List Value)).length) Slot.unset).toArray = ls at hl ⊢
  have hl : lv_has ls 1 [(0, .ref x)] := hl
  refine lv_aload_n hx hb dX2_init_0 rfl (lv_at hl 0 rfl) ?_
  refine W.objInit hx hb hown (hts (.methodLink RX2 3 objectInit) (by decide +kernel)) (hts (.instanceMethod objectInit) (by decide +kernel)) (hts (.code objectInit ⟨#[0xb1]⟩ 1 none) (by decide +kernel)) rfl (by rw [hml]; exact hl.1) rfl dX2_init_1 (Nat.le_of_ble_eq_true rfl) (Nat.le_of_ble_eq_true rfl) ?_
  refine lv_aload_n hx hb dX2_init_4 rfl (lv_at hl 0 rfl) ?_
  refine va_new (D := D) (ci := 3) (fs := [.null, .null]) (C := RX1) (T := TX1) (N := 2) hx hb hts inX1 tyX1 tyX1_ok hown (hts (.classLink RX2 9 RX1) (by decide +kernel)) (hts (.instantiable RX1 2) (by decide +kernel)) (hts (.initialized RX1) (by decide +kernel)) hK hP hD hS hA rfl (fun j hj => by rcases (show j = 0 ∨ j = 1 by omega) with rfl | rfl <;> rfl) (Nat.le_of_ble_eq_true rfl) (Nat.le_of_ble_eq_true rfl) dX2_init_5 (fun q5 H hP hD hS => ?_)
  have hP : va_P D vwCl ((x, .inr (4, [.null, .null, .int 0, .int 0, .int 0, .int 0, .double 0, .null, .null, .null, .null, .null, .null])) :: ((q5, .inr (3, [.null, .null])) :: [])) _ := hP
  have hD : va_D (ci_A x N0) ((x, .inr (4, [.null, .null, .int 0, .int 0, .int 0, .int 0, .double 0, .null, .null, .null, .null, .null, .null])) :: ((q5, .inr (3, [.null, .null])) :: [])) := hD
  refine lv_dup hx hb dX2_init_8 rfl ?_
  have hPx : va_P D vwCl [(q5, .inr (3, [.null, .null]))] H := fun k z hk => hP (k + 1) z (by cases k with | zero => exact hk | succ k => cases hk)
  have hP0 : va_P D vwCl (((x, .inr (4, [.null, .null, .int 0, .int 0, .int 0, .int 0, .double 0, .null, .null, .null, .null, .null, .null])) :: []) ++ [(q5, .inr (3, [.null, .null]))]) H := hP
  have hD0 : va_D (ci_A x N0) (((x, .inr (4, [.null, .null, .int 0, .int 0, .int 0, .int 0, .double 0, .null, .null, .null, .null, .null, .null])) :: []) ++ [(q5, .inr (3, [.null, .null]))]) := hD
  have hS9 := hS
  refine va_callv (va_runIN (As := []) (rest := [.ref q5, .ref x]) ⟨hx, hb, hml, hown, hts⟩ (c_X1_init l q5 H.size) ⟨va_cnB 0 hts gX2_init_X1_init_n11 rfl rfl rfl hN.2.2.2.2 (hts (.initialized RX1) (by decide +kernel)) (by decide +kernel) ⟨(Nat.le_of_ble_eq_true rfl), (Nat.le_of_ble_eq_true rfl)⟩, rfl, (hts (.instanceMethod yX1_init) (by decide +kernel))⟩ ⟨ci_blind, ci_pre hPx hK hN⟩ rfl rfl hl.1 rfl (lv_room (Nat.le_of_ble_eq_true rfl)) dX2_init_9 ⟨(Nat.le_of_ble_eq_true rfl), (Nat.le_of_ble_eq_true rfl)⟩) hS (fun z _ h => h.elim (fun e => e ▸ hD.2 1 _ rfl) (fun h => hA z (Nat.le_trans hS9.1 h))) (fun z h => h.elim (fun e => e ▸ hD.2 1 _ rfl) (fun h => hA z (Nat.le_trans hS9.1 h))) (fun u9 t H1 locs ht hvm hw hB hz1 hk1 hS => ?_)
  have hB1 : va_P D vwCl (ci_1 cI q5 u9) H1 := by rw [← ht]; exact hB
  obtain ⟨hP, hD⟩ := ci_join hP0 hD0 hB1 hw hk1 hS9 hA
  clear hB hB1 hP0 hD0 hPx hk1 hz1 hvm ht t
  have hP : va_P D vwCl ((x, .inr (4, [.null, .null, .int 0, .int 0, .int 0, .int 0, .double 0, .null, .null, .null, .null, .null, .null])) :: ((q5, .inr (3, [.ref u9.1, .ref u9.2])) :: ((u9.1, .inl (cI, 16, .inl (fun _ => 0))) :: ((u9.2, .inl (cI, 16, .inl (fun _ => 0))) :: [])))) _ := hP
  have hD : va_D (ci_A x N0) ((x, .inr (4, [.null, .null, .int 0, .int 0, .int 0, .int 0, .double 0, .null, .null, .null, .null, .null, .null])) :: ((q5, .inr (3, [.ref u9.1, .ref u9.2])) :: ((u9.1, .inl (cI, 16, .inl (fun _ => 0))) :: ((u9.2, .inl (cI, 16, .inl (fun _ => 0))) :: [])))) := hD
  refine va_putF (D := D) (ci := 4) (v := .ref q5) (ty := .object "ResampledRows$Picks") (C := RX2) (T := TX2) (N := 13) hx hb hts inX2 tyX2 tyX2_ok nmX2 hown hK hP hD hS 0 rfl rfl 0 (by decide) (hts (.fieldLink RX2 12 "ResampledRows$Run" "picks" "LResampledRows$Picks;") (by decide +kernel)) (fun _ h9 => h9) rfl hin rfl (by decide +kernel) rfl rfl (Nat.le_of_ble_eq_true rfl) dX2_init_12 (fun H locs hP hD hS => ?_)
  have hP : va_P D vwCl ((x, .inr (4, [.ref q5, .null, .int 0, .int 0, .int 0, .int 0, .double 0, .null, .null, .null, .null, .null, .null])) :: ((q5, .inr (3, [.ref u9.1, .ref u9.2])) :: ((u9.1, .inl (cI, 16, .inl (fun _ => 0))) :: ((u9.2, .inl (cI, 16, .inl (fun _ => 0))) :: [])))) _ := hP
  have hD : va_D (ci_A x N0) ((x, .inr (4, [.ref q5, .null, .int 0, .int 0, .int 0, .int 0, .double 0, .null, .null, .null, .null, .null, .null])) :: ((q5, .inr (3, [.ref u9.1, .ref u9.2])) :: ((u9.1, .inl (cI, 16, .inl (fun _ => 0))) :: ((u9.2, .inl (cI, 16, .inl (fun _ => 0))) :: [])))) := hD
  refine lv_aload_n hx hb dX2_init_15 rfl (lv_at hl 0 rfl) ?_
  refine lv_bipush (v := 16) hx hb dX2_init_16 (by decide) ?_
  refine ci_newi hx hb (hts (.arrayClass .int) (by decide +kernel)) hK hP hD hS hA 16 rfl (by decide) (Nat.le_of_ble_eq_true rfl) (Nat.le_of_ble_eq_true rfl) dX2_init_18 (fun q18 H hP hD hS => ?_)
  have hP : va_P D vwCl ((x, .inr (4, [.ref q5, .null, .int 0, .int 0, .int 0, .int 0, .double 0, .null, .null, .null, .null, .null, .null])) :: ((q5, .inr (3, [.ref u9.1, .ref u9.2])) :: ((u9.1, .inl (cI, 16, .inl (fun _ => 0))) :: ((u9.2, .inl (cI, 16, .inl (fun _ => 0))) :: ((q18, .inl (cI, 16, .inl (fun _ => 0))) :: []))))) _ := hP
  have hD : va_D (ci_A x N0) ((x, .inr (4, [.ref q5, .null, .int 0, .int 0, .int 0, .int 0, .double 0, .null, .null, .null, .null, .null, .null])) :: ((q5, .inr (3, [.ref u9.1, .ref u9.2])) :: ((u9.1, .inl (cI, 16, .inl (fun _ => 0))) :: ((u9.2, .inl (cI, 16, .inl (fun _ => 0))) :: ((q18, .inl (cI, 16, .inl (fun _ => 0))) :: []))))) := hD
  refine va_putF (D := D) (ci := 4) (v := .ref q18) (ty := .array .int) (C := RX2) (T := TX2) (N := 13) hx hb hts inX2 tyX2 tyX2_ok nmX2 hown hK hP hD hS 0 rfl rfl 1 (by decide) (hts (.fieldLink RX2 18 "ResampledRows$Run" "origins" "[I") (by decide +kernel)) (fun _ h9 => h9) rfl hin rfl (by decide +kernel) rfl rfl (Nat.le_of_ble_eq_true rfl) dX2_init_20 (fun H locs hP hD hS => ?_)
  have hP : va_P D vwCl ((x, .inr (4, [.ref q5, .ref q18, .int 0, .int 0, .int 0, .int 0, .double 0, .null, .null, .null, .null, .null, .null])) :: ((q5, .inr (3, [.ref u9.1, .ref u9.2])) :: ((u9.1, .inl (cI, 16, .inl (fun _ => 0))) :: ((u9.2, .inl (cI, 16, .inl (fun _ => 0))) :: ((q18, .inl (cI, 16, .inl (fun _ => 0))) :: []))))) _ := hP
  have hD : va_D (ci_A x N0) ((x, .inr (4, [.ref q5, .ref q18, .int 0, .int 0, .int 0, .int 0, .double 0, .null, .null, .null, .null, .null, .null])) :: ((q5, .inr (3, [.ref u9.1, .ref u9.2])) :: ((u9.1, .inl (cI, 16, .inl (fun _ => 0))) :: ((u9.2, .inl (cI, 16, .inl (fun _ => 0))) :: ((q18, .inl (cI, 16, .inl (fun _ => 0))) :: []))))) := hD
  refine lv_aload_n hx hb dX2_init_23 rfl (lv_at hl 0 rfl) ?_
  refine lv_ldc (v := -1000009) hx hb hown (hts (.constant RX2 22 (-1000009)) (by decide +kernel)) dX2_init_24 ?_
  refine va_put (D := D) (ci := 4) (v := .int (-1000009)) (ty := .int) (C := RX2) (T := TX2) (N := 13) hx hb hts inX2 tyX2 tyX2_ok nmX2 hown hK hP hD hS 0 rfl rfl 5 (by decide) (hts (.fieldLink RX2 23 "ResampledRows$Run" "kept" "I") (by decide +kernel)) (fun _ h9 => h9) rfl (by decide +kernel) rfl rfl (Nat.le_of_ble_eq_true rfl) dX2_init_26 (fun H locs hP hD hS => ?_)
  have hP : va_P D vwCl ((x, .inr (4, [.ref q5, .ref q18, .int 0, .int 0, .int 0, .int (-1000009), .double 0, .null, .null, .null, .null, .null, .null])) :: ((q5, .inr (3, [.ref u9.1, .ref u9.2])) :: ((u9.1, .inl (cI, 16, .inl (fun _ => 0))) :: ((u9.2, .inl (cI, 16, .inl (fun _ => 0))) :: ((q18, .inl (cI, 16, .inl (fun _ => 0))) :: []))))) _ := hP
  have hD : va_D (ci_A x N0) ((x, .inr (4, [.ref q5, .ref q18, .int 0, .int 0, .int 0, .int (-1000009), .double 0, .null, .null, .null, .null, .null, .null])) :: ((q5, .inr (3, [.ref u9.1, .ref u9.2])) :: ((u9.1, .inl (cI, 16, .inl (fun _ => 0))) :: ((u9.2, .inl (cI, 16, .inl (fun _ => 0))) :: ((q18, .inl (cI, 16, .inl (fun _ => 0))) :: []))))) := hD
  refine lv_aload_n hx hb dX2_init_29 rfl (lv_at hl 0 rfl) ?_
  refine lv_dconst1 hx hb dX2_init_30 ?_
  refine va_put (D := D) (ci := 4) (v := .double FP.dconst1) (ty := .double) (C := RX2) (T := TX2) (N := 13) hx hb hts inX2 tyX2 tyX2_ok nmX2 hown hK hP hD hS 0 rfl rfl 6 (by decide) (hts (.fieldLink RX2 27 "ResampledRows$Run" "multiplied" "D") (by decide +kernel)) (fun _ h9 => h9) rfl (by decide +kernel) rfl rfl (Nat.le_of_ble_eq_true rfl) dX2_init_31 (fun H locs hP hD hS => ?_)
  have hP : va_P D vwCl ((x, .inr (4, [.ref q5, .ref q18, .int 0, .int 0, .int 0, .int (-1000009), .double FP.dconst1, .null, .null, .null, .null, .null, .null])) :: ((q5, .inr (3, [.ref u9.1, .ref u9.2])) :: ((u9.1, .inl (cI, 16, .inl (fun _ => 0))) :: ((u9.2, .inl (cI, 16, .inl (fun _ => 0))) :: ((q18, .inl (cI, 16, .inl (fun _ => 0))) :: []))))) _ := hP
  have hD : va_D (ci_A x N0) ((x, .inr (4, [.ref q5, .ref q18, .int 0, .int 0, .int 0, .int (-1000009), .double FP.dconst1, .null, .null, .null, .null, .null, .null])) :: ((q5, .inr (3, [.ref u9.1, .ref u9.2])) :: ((u9.1, .inl (cI, 16, .inl (fun _ => 0))) :: ((u9.2, .inl (cI, 16, .inl (fun _ => 0))) :: ((q18, .inl (cI, 16, .inl (fun _ => 0))) :: []))))) := hD
  refine lv_aload_n hx hb dX2_init_34 rfl (lv_at hl 0 rfl) ?_
  refine lv_bipush (v := 16) hx hb dX2_init_35 (by decide) ?_
  refine ci_newi hx hb (hts (.arrayClass .int) (by decide +kernel)) hK hP hD hS hA 16 rfl (by decide) (Nat.le_of_ble_eq_true rfl) (Nat.le_of_ble_eq_true rfl) dX2_init_37 (fun q37 H hP hD hS => ?_)
  have hP : va_P D vwCl ((x, .inr (4, [.ref q5, .ref q18, .int 0, .int 0, .int 0, .int (-1000009), .double FP.dconst1, .null, .null, .null, .null, .null, .null])) :: ((q5, .inr (3, [.ref u9.1, .ref u9.2])) :: ((u9.1, .inl (cI, 16, .inl (fun _ => 0))) :: ((u9.2, .inl (cI, 16, .inl (fun _ => 0))) :: ((q18, .inl (cI, 16, .inl (fun _ => 0))) :: ((q37, .inl (cI, 16, .inl (fun _ => 0))) :: [])))))) _ := hP
  have hD : va_D (ci_A x N0) ((x, .inr (4, [.ref q5, .ref q18, .int 0, .int 0, .int 0, .int (-1000009), .double FP.dconst1, .null, .null, .null, .null, .null, .null])) :: ((q5, .inr (3, [.ref u9.1, .ref u9.2])) :: ((u9.1, .inl (cI, 16, .inl (fun _ => 0))) :: ((u9.2, .inl (cI, 16, .inl (fun _ => 0))) :: ((q18, .inl (cI, 16, .inl (fun _ => 0))) :: ((q37, .inl (cI, 16, .inl (fun _ => 0))) :: [])))))) := hD
  refine va_put (D := D) (ci := 4) (v := .ref q37) (ty := .array .int) (C := RX2) (T := TX2) (N := 13) hx hb hts inX2 tyX2 tyX2_ok nmX2 hown hK hP hD hS 0 rfl rfl 7 (by decide) (hts (.fieldLink RX2 31 "ResampledRows$Run" "states" "[I") (by decide +kernel)) (fun _ h9 => h9) rfl (by decide +kernel) rfl rfl (Nat.le_of_ble_eq_true rfl) dX2_init_39 (fun H locs hP hD hS => ?_)
  have hP : va_P D vwCl ((x, .inr (4, [.ref q5, .ref q18, .int 0, .int 0, .int 0, .int (-1000009), .double FP.dconst1, .ref q37, .null, .null, .null, .null, .null])) :: ((q5, .inr (3, [.ref u9.1, .ref u9.2])) :: ((u9.1, .inl (cI, 16, .inl (fun _ => 0))) :: ((u9.2, .inl (cI, 16, .inl (fun _ => 0))) :: ((q18, .inl (cI, 16, .inl (fun _ => 0))) :: ((q37, .inl (cI, 16, .inl (fun _ => 0))) :: [])))))) _ := hP
  have hD : va_D (ci_A x N0) ((x, .inr (4, [.ref q5, .ref q18, .int 0, .int 0, .int 0, .int (-1000009), .double FP.dconst1, .ref q37, .null, .null, .null, .null, .null])) :: ((q5, .inr (3, [.ref u9.1, .ref u9.2])) :: ((u9.1, .inl (cI, 16, .inl (fun _ => 0))) :: ((u9.2, .inl (cI, 16, .inl (fun _ => 0))) :: ((q18, .inl (cI, 16, .inl (fun _ => 0))) :: ((q37, .inl (cI, 16, .inl (fun _ => 0))) :: [])))))) := hD
  refine lv_aload_n hx hb dX2_init_42 rfl (lv_at hl 0 rfl) ?_
  refine lv_bipush (v := 16) hx hb dX2_init_43 (by decide) ?_
  refine ci_newi hx hb (hts (.arrayClass .int) (by decide +kernel)) hK hP hD hS hA 16 rfl (by decide) (Nat.le_of_ble_eq_true rfl) (Nat.le_of_ble_eq_true rfl) dX2_init_45 (fun q45 H hP hD hS => ?_)
  have hP : va_P D vwCl ((x, .inr (4, [.ref q5, .ref q18, .int 0, .int 0, .int 0, .int (-1000009), .double FP.dconst1, .ref q37, .null, .null, .null, .null, .null])) :: ((q5, .inr (3, [.ref u9.1, .ref u9.2])) :: ((u9.1, .inl (cI, 16, .inl (fun _ => 0))) :: ((u9.2, .inl (cI, 16, .inl (fun _ => 0))) :: ((q18, .inl (cI, 16, .inl (fun _ => 0))) :: ((q37, .inl (cI, 16, .inl (fun _ => 0))) :: ((q45, .inl (cI, 16, .inl (fun _ => 0))) :: []))))))) _ := hP
  have hD : va_D (ci_A x N0) ((x, .inr (4, [.ref q5, .ref q18, .int 0, .int 0, .int 0, .int (-1000009), .double FP.dconst1, .ref q37, .null, .null, .null, .null, .null])) :: ((q5, .inr (3, [.ref u9.1, .ref u9.2])) :: ((u9.1, .inl (cI, 16, .inl (fun _ => 0))) :: ((u9.2, .inl (cI, 16, .inl (fun _ => 0))) :: ((q18, .inl (cI, 16, .inl (fun _ => 0))) :: ((q37, .inl (cI, 16, .inl (fun _ => 0))) :: ((q45, .inl (cI, 16, .inl (fun _ => 0))) :: []))))))) := hD
  refine va_put (D := D) (ci := 4) (v := .ref q45) (ty := .array .int) (C := RX2) (T := TX2) (N := 13) hx hb hts inX2 tyX2 tyX2_ok nmX2 hown hK hP hD hS 0 rfl rfl 8 (by decide) (hts (.fieldLink RX2 34 "ResampledRows$Run" "weights" "[I") (by decide +kernel)) (fun _ h9 => h9) rfl (by decide +kernel) rfl rfl (Nat.le_of_ble_eq_true rfl) dX2_init_47 (fun H locs hP hD hS => ?_)
  have hP : va_P D vwCl ((x, .inr (4, [.ref q5, .ref q18, .int 0, .int 0, .int 0, .int (-1000009), .double FP.dconst1, .ref q37, .ref q45, .null, .null, .null, .null])) :: ((q5, .inr (3, [.ref u9.1, .ref u9.2])) :: ((u9.1, .inl (cI, 16, .inl (fun _ => 0))) :: ((u9.2, .inl (cI, 16, .inl (fun _ => 0))) :: ((q18, .inl (cI, 16, .inl (fun _ => 0))) :: ((q37, .inl (cI, 16, .inl (fun _ => 0))) :: ((q45, .inl (cI, 16, .inl (fun _ => 0))) :: []))))))) _ := hP
  have hD : va_D (ci_A x N0) ((x, .inr (4, [.ref q5, .ref q18, .int 0, .int 0, .int 0, .int (-1000009), .double FP.dconst1, .ref q37, .ref q45, .null, .null, .null, .null])) :: ((q5, .inr (3, [.ref u9.1, .ref u9.2])) :: ((u9.1, .inl (cI, 16, .inl (fun _ => 0))) :: ((u9.2, .inl (cI, 16, .inl (fun _ => 0))) :: ((q18, .inl (cI, 16, .inl (fun _ => 0))) :: ((q37, .inl (cI, 16, .inl (fun _ => 0))) :: ((q45, .inl (cI, 16, .inl (fun _ => 0))) :: []))))))) := hD
  refine lv_aload_n hx hb dX2_init_50 rfl (lv_at hl 0 rfl) ?_
  refine lv_bipush (v := 16) hx hb dX2_init_51 (by decide) ?_
  refine lv_bipush (v := 31) hx hb dX2_init_53 (by decide) ?_
  refine ci_mna hx hb hown (hts (.classLink RX2 37 "[[I") (by decide +kernel)) hN (hts (.arrayClass .int) (by decide +kernel)) hK hP hD hS hA 16 31 rfl rfl (by decide) (by decide) (Nat.le_of_ble_eq_true rfl) (Nat.le_of_ble_eq_true rfl) dX2_init_55 (fun q55 r55 H hP hD hS => ?_)
  have hP : va_P D vwCl ((x, .inr (4, [.ref q5, .ref q18, .int 0, .int 0, .int 0, .int (-1000009), .double FP.dconst1, .ref q37, .ref q45, .null, .null, .null, .null])) :: ((q5, .inr (3, [.ref u9.1, .ref u9.2])) :: ((u9.1, .inl (cI, 16, .inl (fun _ => 0))) :: ((u9.2, .inl (cI, 16, .inl (fun _ => 0))) :: ((q18, .inl (cI, 16, .inl (fun _ => 0))) :: ((q37, .inl (cI, 16, .inl (fun _ => 0))) :: ((q45, .inl (cI, 16, .inl (fun _ => 0))) :: ((q55, .inl (cII, 16, .inr (.inr (.inr (.inr (fun i => some (r55 i))))))) :: (ci_rows cI r55 16 31 ++ []))))))))) _ := hP
  have hD : va_D (ci_A x N0) ((x, .inr (4, [.ref q5, .ref q18, .int 0, .int 0, .int 0, .int (-1000009), .double FP.dconst1, .ref q37, .ref q45, .null, .null, .null, .null])) :: ((q5, .inr (3, [.ref u9.1, .ref u9.2])) :: ((u9.1, .inl (cI, 16, .inl (fun _ => 0))) :: ((u9.2, .inl (cI, 16, .inl (fun _ => 0))) :: ((q18, .inl (cI, 16, .inl (fun _ => 0))) :: ((q37, .inl (cI, 16, .inl (fun _ => 0))) :: ((q45, .inl (cI, 16, .inl (fun _ => 0))) :: ((q55, .inl (cII, 16, .inr (.inr (.inr (.inr (fun i => some (r55 i))))))) :: (ci_rows cI r55 16 31 ++ []))))))))) := hD
  refine va_put (D := D) (ci := 4) (v := .ref q55) (ty := .array (.array .int)) (C := RX2) (T := TX2) (N := 13) hx hb hts inX2 tyX2 tyX2_ok nmX2 hown hK hP hD hS 0 rfl rfl 9 (by decide) (hts (.fieldLink RX2 39 "ResampledRows$Run" "histories" "[[I") (by decide +kernel)) (fun _ h9 => h9) rfl (by decide +kernel) rfl rfl (Nat.le_of_ble_eq_true rfl) dX2_init_59 (fun H locs hP hD hS => ?_)
  have hP : va_P D vwCl ((x, .inr (4, [.ref q5, .ref q18, .int 0, .int 0, .int 0, .int (-1000009), .double FP.dconst1, .ref q37, .ref q45, .ref q55, .null, .null, .null])) :: ((q5, .inr (3, [.ref u9.1, .ref u9.2])) :: ((u9.1, .inl (cI, 16, .inl (fun _ => 0))) :: ((u9.2, .inl (cI, 16, .inl (fun _ => 0))) :: ((q18, .inl (cI, 16, .inl (fun _ => 0))) :: ((q37, .inl (cI, 16, .inl (fun _ => 0))) :: ((q45, .inl (cI, 16, .inl (fun _ => 0))) :: ((q55, .inl (cII, 16, .inr (.inr (.inr (.inr (fun i => some (r55 i))))))) :: (ci_rows cI r55 16 31 ++ []))))))))) _ := hP
  have hD : va_D (ci_A x N0) ((x, .inr (4, [.ref q5, .ref q18, .int 0, .int 0, .int 0, .int (-1000009), .double FP.dconst1, .ref q37, .ref q45, .ref q55, .null, .null, .null])) :: ((q5, .inr (3, [.ref u9.1, .ref u9.2])) :: ((u9.1, .inl (cI, 16, .inl (fun _ => 0))) :: ((u9.2, .inl (cI, 16, .inl (fun _ => 0))) :: ((q18, .inl (cI, 16, .inl (fun _ => 0))) :: ((q37, .inl (cI, 16, .inl (fun _ => 0))) :: ((q45, .inl (cI, 16, .inl (fun _ => 0))) :: ((q55, .inl (cII, 16, .inr (.inr (.inr (.inr (fun i => some (r55 i))))))) :: (ci_rows cI r55 16 31 ++ []))))))))) := hD
  refine lv_aload_n hx hb dX2_init_62 rfl (lv_at hl 0 rfl) ?_
  refine lv_bipush (v := 16) hx hb dX2_init_63 (by decide) ?_
  refine ci_newi hx hb (hts (.arrayClass .int) (by decide +kernel)) hK hP hD hS hA 16 rfl (by decide) (Nat.le_of_ble_eq_true rfl) (Nat.le_of_ble_eq_true rfl) dX2_init_65 (fun q65 H hP hD hS => ?_)
  have hP : va_P D vwCl ((x, .inr (4, [.ref q5, .ref q18, .int 0, .int 0, .int 0, .int (-1000009), .double FP.dconst1, .ref q37, .ref q45, .ref q55, .null, .null, .null])) :: ((q5, .inr (3, [.ref u9.1, .ref u9.2])) :: ((u9.1, .inl (cI, 16, .inl (fun _ => 0))) :: ((u9.2, .inl (cI, 16, .inl (fun _ => 0))) :: ((q18, .inl (cI, 16, .inl (fun _ => 0))) :: ((q37, .inl (cI, 16, .inl (fun _ => 0))) :: ((q45, .inl (cI, 16, .inl (fun _ => 0))) :: ((q55, .inl (cII, 16, .inr (.inr (.inr (.inr (fun i => some (r55 i))))))) :: (ci_rows cI r55 16 31 ++ ((q65, .inl (cI, 16, .inl (fun _ => 0))) :: [])))))))))) _ := hP
  have hD : va_D (ci_A x N0) ((x, .inr (4, [.ref q5, .ref q18, .int 0, .int 0, .int 0, .int (-1000009), .double FP.dconst1, .ref q37, .ref q45, .ref q55, .null, .null, .null])) :: ((q5, .inr (3, [.ref u9.1, .ref u9.2])) :: ((u9.1, .inl (cI, 16, .inl (fun _ => 0))) :: ((u9.2, .inl (cI, 16, .inl (fun _ => 0))) :: ((q18, .inl (cI, 16, .inl (fun _ => 0))) :: ((q37, .inl (cI, 16, .inl (fun _ => 0))) :: ((q45, .inl (cI, 16, .inl (fun _ => 0))) :: ((q55, .inl (cII, 16, .inr (.inr (.inr (.inr (fun i => some (r55 i))))))) :: (ci_rows cI r55 16 31 ++ ((q65, .inl (cI, 16, .inl (fun _ => 0))) :: [])))))))))) := hD
  refine va_put (D := D) (ci := 4) (v := .ref q65) (ty := .array .int) (C := RX2) (T := TX2) (N := 13) hx hb hts inX2 tyX2 tyX2_ok nmX2 hown hK hP hD hS 0 rfl rfl 10 (by decide) (hts (.fieldLink RX2 42 "ResampledRows$Run" "nextStates" "[I") (by decide +kernel)) (fun _ h9 => h9) rfl (by decide +kernel) rfl rfl (Nat.le_of_ble_eq_true rfl) dX2_init_67 (fun H locs hP hD hS => ?_)
  have hP : va_P D vwCl ((x, .inr (4, [.ref q5, .ref q18, .int 0, .int 0, .int 0, .int (-1000009), .double FP.dconst1, .ref q37, .ref q45, .ref q55, .ref q65, .null, .null])) :: ((q5, .inr (3, [.ref u9.1, .ref u9.2])) :: ((u9.1, .inl (cI, 16, .inl (fun _ => 0))) :: ((u9.2, .inl (cI, 16, .inl (fun _ => 0))) :: ((q18, .inl (cI, 16, .inl (fun _ => 0))) :: ((q37, .inl (cI, 16, .inl (fun _ => 0))) :: ((q45, .inl (cI, 16, .inl (fun _ => 0))) :: ((q55, .inl (cII, 16, .inr (.inr (.inr (.inr (fun i => some (r55 i))))))) :: (ci_rows cI r55 16 31 ++ ((q65, .inl (cI, 16, .inl (fun _ => 0))) :: [])))))))))) _ := hP
  have hD : va_D (ci_A x N0) ((x, .inr (4, [.ref q5, .ref q18, .int 0, .int 0, .int 0, .int (-1000009), .double FP.dconst1, .ref q37, .ref q45, .ref q55, .ref q65, .null, .null])) :: ((q5, .inr (3, [.ref u9.1, .ref u9.2])) :: ((u9.1, .inl (cI, 16, .inl (fun _ => 0))) :: ((u9.2, .inl (cI, 16, .inl (fun _ => 0))) :: ((q18, .inl (cI, 16, .inl (fun _ => 0))) :: ((q37, .inl (cI, 16, .inl (fun _ => 0))) :: ((q45, .inl (cI, 16, .inl (fun _ => 0))) :: ((q55, .inl (cII, 16, .inr (.inr (.inr (.inr (fun i => some (r55 i))))))) :: (ci_rows cI r55 16 31 ++ ((q65, .inl (cI, 16, .inl (fun _ => 0))) :: [])))))))))) := hD
  refine lv_aload_n hx hb dX2_init_70 rfl (lv_at hl 0 rfl) ?_
  refine lv_bipush (v := 16) hx hb dX2_init_71 (by decide) ?_
  refine ci_newi hx hb (hts (.arrayClass .int) (by decide +kernel)) hK hP hD hS hA 16 rfl (by decide) (Nat.le_of_ble_eq_true rfl) (Nat.le_of_ble_eq_true rfl) dX2_init_73 (fun q73 H hP hD hS => ?_)
  have hP : va_P D vwCl ((x, .inr (4, [.ref q5, .ref q18, .int 0, .int 0, .int 0, .int (-1000009), .double FP.dconst1, .ref q37, .ref q45, .ref q55, .ref q65, .null, .null])) :: ((q5, .inr (3, [.ref u9.1, .ref u9.2])) :: ((u9.1, .inl (cI, 16, .inl (fun _ => 0))) :: ((u9.2, .inl (cI, 16, .inl (fun _ => 0))) :: ((q18, .inl (cI, 16, .inl (fun _ => 0))) :: ((q37, .inl (cI, 16, .inl (fun _ => 0))) :: ((q45, .inl (cI, 16, .inl (fun _ => 0))) :: ((q55, .inl (cII, 16, .inr (.inr (.inr (.inr (fun i => some (r55 i))))))) :: (ci_rows cI r55 16 31 ++ ((q65, .inl (cI, 16, .inl (fun _ => 0))) :: ((q73, .inl (cI, 16, .inl (fun _ => 0))) :: []))))))))))) _ := hP
  have hD : va_D (ci_A x N0) ((x, .inr (4, [.ref q5, .ref q18, .int 0, .int 0, .int 0, .int (-1000009), .double FP.dconst1, .ref q37, .ref q45, .ref q55, .ref q65, .null, .null])) :: ((q5, .inr (3, [.ref u9.1, .ref u9.2])) :: ((u9.1, .inl (cI, 16, .inl (fun _ => 0))) :: ((u9.2, .inl (cI, 16, .inl (fun _ => 0))) :: ((q18, .inl (cI, 16, .inl (fun _ => 0))) :: ((q37, .inl (cI, 16, .inl (fun _ => 0))) :: ((q45, .inl (cI, 16, .inl (fun _ => 0))) :: ((q55, .inl (cII, 16, .inr (.inr (.inr (.inr (fun i => some (r55 i))))))) :: (ci_rows cI r55 16 31 ++ ((q65, .inl (cI, 16, .inl (fun _ => 0))) :: ((q73, .inl (cI, 16, .inl (fun _ => 0))) :: []))))))))))) := hD
  refine va_put (D := D) (ci := 4) (v := .ref q73) (ty := .array .int) (C := RX2) (T := TX2) (N := 13) hx hb hts inX2 tyX2 tyX2_ok nmX2 hown hK hP hD hS 0 rfl rfl 11 (by decide) (hts (.fieldLink RX2 45 "ResampledRows$Run" "nextWeights" "[I") (by decide +kernel)) (fun _ h9 => h9) rfl (by decide +kernel) rfl rfl (Nat.le_of_ble_eq_true rfl) dX2_init_75 (fun H locs hP hD hS => ?_)
  have hP : va_P D vwCl ((x, .inr (4, [.ref q5, .ref q18, .int 0, .int 0, .int 0, .int (-1000009), .double FP.dconst1, .ref q37, .ref q45, .ref q55, .ref q65, .ref q73, .null])) :: ((q5, .inr (3, [.ref u9.1, .ref u9.2])) :: ((u9.1, .inl (cI, 16, .inl (fun _ => 0))) :: ((u9.2, .inl (cI, 16, .inl (fun _ => 0))) :: ((q18, .inl (cI, 16, .inl (fun _ => 0))) :: ((q37, .inl (cI, 16, .inl (fun _ => 0))) :: ((q45, .inl (cI, 16, .inl (fun _ => 0))) :: ((q55, .inl (cII, 16, .inr (.inr (.inr (.inr (fun i => some (r55 i))))))) :: (ci_rows cI r55 16 31 ++ ((q65, .inl (cI, 16, .inl (fun _ => 0))) :: ((q73, .inl (cI, 16, .inl (fun _ => 0))) :: []))))))))))) _ := hP
  have hD : va_D (ci_A x N0) ((x, .inr (4, [.ref q5, .ref q18, .int 0, .int 0, .int 0, .int (-1000009), .double FP.dconst1, .ref q37, .ref q45, .ref q55, .ref q65, .ref q73, .null])) :: ((q5, .inr (3, [.ref u9.1, .ref u9.2])) :: ((u9.1, .inl (cI, 16, .inl (fun _ => 0))) :: ((u9.2, .inl (cI, 16, .inl (fun _ => 0))) :: ((q18, .inl (cI, 16, .inl (fun _ => 0))) :: ((q37, .inl (cI, 16, .inl (fun _ => 0))) :: ((q45, .inl (cI, 16, .inl (fun _ => 0))) :: ((q55, .inl (cII, 16, .inr (.inr (.inr (.inr (fun i => some (r55 i))))))) :: (ci_rows cI r55 16 31 ++ ((q65, .inl (cI, 16, .inl (fun _ => 0))) :: ((q73, .inl (cI, 16, .inl (fun _ => 0))) :: []))))))))))) := hD
  refine lv_aload_n hx hb dX2_init_78 rfl (lv_at hl 0 rfl) ?_
  refine lv_bipush (v := 16) hx hb dX2_init_79 (by decide) ?_
  refine lv_bipush (v := 31) hx hb dX2_init_81 (by decide) ?_
  refine ci_mna hx hb hown (hts (.classLink RX2 37 "[[I") (by decide +kernel)) hN (hts (.arrayClass .int) (by decide +kernel)) hK hP hD hS hA 16 31 rfl rfl (by decide) (by decide) (Nat.le_of_ble_eq_true rfl) (Nat.le_of_ble_eq_true rfl) dX2_init_83 (fun q83 r83 H hP hD hS => ?_)
  have hP : va_P D vwCl ((x, .inr (4, [.ref q5, .ref q18, .int 0, .int 0, .int 0, .int (-1000009), .double FP.dconst1, .ref q37, .ref q45, .ref q55, .ref q65, .ref q73, .null])) :: ((q5, .inr (3, [.ref u9.1, .ref u9.2])) :: ((u9.1, .inl (cI, 16, .inl (fun _ => 0))) :: ((u9.2, .inl (cI, 16, .inl (fun _ => 0))) :: ((q18, .inl (cI, 16, .inl (fun _ => 0))) :: ((q37, .inl (cI, 16, .inl (fun _ => 0))) :: ((q45, .inl (cI, 16, .inl (fun _ => 0))) :: ((q55, .inl (cII, 16, .inr (.inr (.inr (.inr (fun i => some (r55 i))))))) :: (ci_rows cI r55 16 31 ++ ((q65, .inl (cI, 16, .inl (fun _ => 0))) :: ((q73, .inl (cI, 16, .inl (fun _ => 0))) :: ((q83, .inl (cII, 16, .inr (.inr (.inr (.inr (fun i => some (r83 i))))))) :: (ci_rows cI r83 16 31 ++ []))))))))))))) _ := hP
  have hD : va_D (ci_A x N0) ((x, .inr (4, [.ref q5, .ref q18, .int 0, .int 0, .int 0, .int (-1000009), .double FP.dconst1, .ref q37, .ref q45, .ref q55, .ref q65, .ref q73, .null])) :: ((q5, .inr (3, [.ref u9.1, .ref u9.2])) :: ((u9.1, .inl (cI, 16, .inl (fun _ => 0))) :: ((u9.2, .inl (cI, 16, .inl (fun _ => 0))) :: ((q18, .inl (cI, 16, .inl (fun _ => 0))) :: ((q37, .inl (cI, 16, .inl (fun _ => 0))) :: ((q45, .inl (cI, 16, .inl (fun _ => 0))) :: ((q55, .inl (cII, 16, .inr (.inr (.inr (.inr (fun i => some (r55 i))))))) :: (ci_rows cI r55 16 31 ++ ((q65, .inl (cI, 16, .inl (fun _ => 0))) :: ((q73, .inl (cI, 16, .inl (fun _ => 0))) :: ((q83, .inl (cII, 16, .inr (.inr (.inr (.inr (fun i => some (r83 i))))))) :: (ci_rows cI r83 16 31 ++ []))))))))))))) := hD
  refine va_put (D := D) (ci := 4) (v := .ref q83) (ty := .array (.array .int)) (C := RX2) (T := TX2) (N := 13) hx hb hts inX2 tyX2 tyX2_ok nmX2 hown hK hP hD hS 0 rfl rfl 12 (by decide) (hts (.fieldLink RX2 48 "ResampledRows$Run" "nextHistories" "[[I") (by decide +kernel)) (fun _ h9 => h9) rfl (by decide +kernel) rfl rfl (Nat.le_of_ble_eq_true rfl) dX2_init_87 (fun H locs hP hD hS => ?_)
  have hP : va_P D vwCl ((x, .inr (4, [.ref q5, .ref q18, .int 0, .int 0, .int 0, .int (-1000009), .double FP.dconst1, .ref q37, .ref q45, .ref q55, .ref q65, .ref q73, .ref q83])) :: ((q5, .inr (3, [.ref u9.1, .ref u9.2])) :: ((u9.1, .inl (cI, 16, .inl (fun _ => 0))) :: ((u9.2, .inl (cI, 16, .inl (fun _ => 0))) :: ((q18, .inl (cI, 16, .inl (fun _ => 0))) :: ((q37, .inl (cI, 16, .inl (fun _ => 0))) :: ((q45, .inl (cI, 16, .inl (fun _ => 0))) :: ((q55, .inl (cII, 16, .inr (.inr (.inr (.inr (fun i => some (r55 i))))))) :: (ci_rows cI r55 16 31 ++ ((q65, .inl (cI, 16, .inl (fun _ => 0))) :: ((q73, .inl (cI, 16, .inl (fun _ => 0))) :: ((q83, .inl (cII, 16, .inr (.inr (.inr (.inr (fun i => some (r83 i))))))) :: (ci_rows cI r83 16 31 ++ []))))))))))))) _ := hP
  have hD : va_D (ci_A x N0) ((x, .inr (4, [.ref q5, .ref q18, .int 0, .int 0, .int 0, .int (-1000009), .double FP.dconst1, .ref q37, .ref q45, .ref q55, .ref q65, .ref q73, .ref q83])) :: ((q5, .inr (3, [.ref u9.1, .ref u9.2])) :: ((u9.1, .inl (cI, 16, .inl (fun _ => 0))) :: ((u9.2, .inl (cI, 16, .inl (fun _ => 0))) :: ((q18, .inl (cI, 16, .inl (fun _ => 0))) :: ((q37, .inl (cI, 16, .inl (fun _ => 0))) :: ((q45, .inl (cI, 16, .inl (fun _ => 0))) :: ((q55, .inl (cII, 16, .inr (.inr (.inr (.inr (fun i => some (r55 i))))))) :: (ci_rows cI r55 16 31 ++ ((q65, .inl (cI, 16, .inl (fun _ => 0))) :: ((q73, .inl (cI, 16, .inl (fun _ => 0))) :: ((q83, .inl (cII, 16, .inr (.inr (.inr (.inr (fun i => some (r83 i))))))) :: (ci_rows cI r83 16 31 ++ []))))))))))))) := hD
  exact W.vret hx hb hr (fun t ht hW => ⟨⟨(fun i => [q5, u9.1, u9.2, q18, q37, q45, q55, q65, q73, q83].getD i 0, r55, r83), rfl, hD, (show va_P D vwCl (ci_2 cI cII x (fun i => [q5, u9.1, u9.2, q18, q37, q45, q55, q65, q73, q83].getD i 0, r55, r83)) t.heap by rw [ht]; exact hP)⟩, hS.F ht⟩) hS.2.2 dX2_init_90
