/-! THE CONSTRUCTORS OF THE TABLES, THE CLASS AND THE REFERENCE: from the list to the cells -/
def ci_M0 : fl_M := (fun _ _ => 0, fun _ _ => 0, fun _ => 0, fun _ _ => 0)
theorem ci_grid {D : va_G} {cII : ClassId} {q n : Nat} {f g : Nat → Option Nat} {H : Heap} (hfg : ∀ j, j < n → f j = g j) (h : va_at D vwCl (q, .inl (cII, n, .inr (.inr (.inr (.inr f))))) H) : va_at D vwCl (q, .inl (cII, n, .inr (.inr (.inr (.inr g))))) H := by
  have h : H[q]? = some (vp_cell cII (n, .inr (.inr (.inr (.inr f))))) := h
  have e : vp_cell cII (n, .inr (.inr (.inr (.inr f)))) = vp_cell cII (n, .inr (.inr (.inr (.inr g)))) := by
    rw [vp_cell_q, vp_cell_q]
    exact ci_arrV fun j hj => by rw [hfg j hj]
  rw [e] at h
  exact h
theorem ci_conv {cell : fl_Cell} {N : Nat} {ad : Nat → Nat} {M : fl_M} {ws : va_W} (σ : Nat → Nat) {A : Nat → Prop} {D : va_G} {H : Heap} (hP : va_P D vwCl ws H) (hD : va_D A ws) (hσ : ∀ i, i < N → ∀ j, j < N → σ i = σ j → i = j) (h : ∀ c, c < N → ∃ e, ws[σ c]? = some (ad c, e) ∧ (va_at D vwCl (ad c, e) H → va_at D vwCl (ad c, cell M c) H)) : va_P D vwCl (fl_pool cell N ad M) H ∧ fl_inj N ad ∧ ∀ c, c < N → A (ad c) := by
  refine ⟨fun k q hk => ?_, fun i j hi hj e => ?_, fun c hc => ?_⟩
  · obtain ⟨h1, rfl⟩ := fl_get hk
    obtain ⟨e, h2, h3⟩ := h k h1
    exact h3 (hP _ _ h2)
  · obtain ⟨e1, h1, -⟩ := h i hi
    obtain ⟨e2, h2, -⟩ := h j hj
    exact hσ i hi j hj (hD.1 _ _ _ _ h1 h2 e)
  · obtain ⟨e, h1, -⟩ := h c hc
    exact hD.2 _ _ h1
theorem ci_Dp {cell : fl_Cell} {N : Nat} {ad : Nat → Nat} {M : fl_M} {A : Nat → Prop} (hJ : fl_inj N ad) (hA : ∀ c, c < N → A (ad c)) : va_D A (fl_pool cell N ad M) := ⟨(fl_D hJ).1, fun k q hk => by
  obtain ⟨c, hc, e⟩ := (fl_D (cell := cell) (M := M) hJ).2 k q hk
  rw [e]
  exact hA c hc⟩
def ci_s3 (c : Nat) : Nat := [0, 1, 2, 9, 15, 3, 4, 5, 6, 7, 8, 10, 11, 12, 13, 14].getD c 0
theorem ci_s3i : ∀ i, i < 16 → ∀ j, j < 16 → ci_s3 i = ci_s3 j → i = j := by decide +kernel
def ci_a3 (a : List Nat) (r1 r2 : Nat → Nat) (c : Nat) : Nat := if c < 5 then a.getD c 0 else if c < 11 then r1 (c - 5) else r2 (c - 11)
def ci_3 (cI cII : ClassId) (x : Nat) (a : List Nat) (r1 r2 : Nat → Nat) : va_W := ((x, .inr (5, [.ref (a.getD 1 0), .ref (a.getD 2 0), .ref (a.getD 3 0), .ref (a.getD 4 0)])) :: (a.getD 1 0, .inl (cI, 6, .inl (fun _ => 0))) :: (a.getD 2 0, .inl (cII, 6, .inr (.inr (.inr (.inr (fun i => some (r1 i))))))) :: (ci_rows cI r1 6 6 ++ ((a.getD 3 0, .inl (cII, 5, .inr (.inr (.inr (.inr (fun i => some (r2 i))))))) :: (ci_rows cI r2 5 6 ++ ((a.getD 4 0, .inl (cI, 6, .inl (fun _ => 0))) :: [])))))
set_option maxRecDepth 100000 in
theorem ci_c3 {D : va_G} {cI cII : ClassId} {x q1 q2 q3 q4 : Nat} {r1 r2 : Nat → Nat} {H : Heap} (c : Nat) (hc : c < 16) : ∃ e, (ci_3 cI cII x [x, q1, q2, q3, q4] r1 r2)[ci_s3 c]? = some (ci_a3 [x, q1, q2, q3, q4] r1 r2 c, e) ∧ (va_at D vwCl (ci_a3 [x, q1, q2, q3, q4] r1 r2 c, e) H → va_at D vwCl (ci_a3 [x, q1, q2, q3, q4] r1 r2 c, ft_cell cI cII (ci_a3 [x, q1, q2, q3, q4] r1 r2) ci_M0 c) H) := by
  match c, hc with
  | 0, _ => exact ⟨_, rfl, fun h => h⟩
  | 1, _ => exact ⟨_, rfl, fun h => h⟩
  | 2, _ => exact ⟨_, rfl, fun h => ci_grid (fun j hj => by unfold ci_a3; rw [if_neg (by omega), if_pos (by omega)]; congr 2; omega) h⟩
  | 3, _ => exact ⟨_, rfl, fun h => ci_grid (fun j hj => by unfold ci_a3; rw [if_neg (by omega), if_neg (by omega)]; congr 2; omega) h⟩
  | 4, _ => exact ⟨_, rfl, fun h => h⟩
  | 5, _ => exact ⟨_, rfl, fun h => h⟩
  | 6, _ => exact ⟨_, rfl, fun h => h⟩
  | 7, _ => exact ⟨_, rfl, fun h => h⟩
  | 8, _ => exact ⟨_, rfl, fun h => h⟩
  | 9, _ => exact ⟨_, rfl, fun h => h⟩
  | 10, _ => exact ⟨_, rfl, fun h => h⟩
  | 11, _ => exact ⟨_, rfl, fun h => h⟩
  | 12, _ => exact ⟨_, rfl, fun h => h⟩
  | 13, _ => exact ⟨_, rfl, fun h => h⟩
  | 14, _ => exact ⟨_, rfl, fun h => h⟩
  | 15, _ => exact ⟨_, rfl, fun h => h⟩
  | c + 16, h => exact absurd h (by omega)
set_option maxHeartbeats 4000000 in
set_option maxRecDepth 100000 in
theorem c_X3_init (l : Launch) {D : va_G} {cI cJ cII : ClassId} (x N0 : Nat) : Met l yX3_init wsX3_init ({ frames := 3, cells := 15, slots := 89, locals := 60 } : Room) (ci_Pc D cI cJ cII [(x, .inr (5, [.null, .null, .null, .null]))] N0 [.ref x]) (va_Qv (fun u : (Nat → Nat) × fl_M => u.1 0 = x ∧ fl_inj 16 u.1 ∧ (∀ c, c < 16 → ci_A x N0 (u.1 c)) ∧ ft_T u.2) (fun u t => va_P D vwCl (ftP cI cII u.1 u.2) t.heap) (ci_A x N0)) 15 89 (ci_A x N0) := by
  refine Met.ofW (cc := cX3_init) (maxL := 1) (ret := none) (by decide) rfl ?_
  intro p e s m args below meth c s₁ B hml hv
  obtain ⟨rfl, hz, hP, hK, hN⟩ := hv
  have hx := B.exec
  have hb := B.bytes
  have hr := B.returns
  have hts := atoms_spec (ws := wsX3_init) B.pre
  have hown : s.vm.findClass RX3 = some m.cls := findClass_of_methodNamed B.named
  have hlocks := B.notSynchronized
  have hin : meth.name = "<init>" := (name_of_methodNamed B.named B.method).1
  have inX3 : ∀ w ∈ u_ws RX3 TX3 4, w ∈ wsX3_init := by decide +kernel
  have hA : ∀ q, s.heap.size ≤ q → ci_A x N0 q := fun q h => Or.inr (hz ▸ h)
  have hD : va_D (ci_A x N0) [(x, .inr (5, [.null, .null, .null, .null]))] := ci_D1
  have hS : va_S (ci_A x N0) s.heap s.heap [] := va_S.rf
  have hl := lv_entry ([.ref x] : List Value) (n := 1) (Nat.le_of_ble_eq_true rfl)
  rw [lg_entry_eq]
  generalize (lg_sl ([.ref x] : List Value) ++ List.replicate (1 - (lg_sl ([.ref x] : List Value)).length) Slot.unset).toArray = ls at hl ⊢
  have hl : lv_has ls 1 [(0, .ref x)] := hl
  refine lv_aload_n hx hb dX3_init_0 rfl (lv_at hl 0 rfl) ?_
  refine W.objInit hx hb hown (hts (.methodLink RX3 3 objectInit) (by decide +kernel)) (hts (.instanceMethod objectInit) (by decide +kernel)) (hts (.code objectInit ⟨#[0xb1]⟩ 1 none) (by decide +kernel)) rfl (by rw [hml]; exact hl.1) rfl dX3_init_1 (Nat.le_of_ble_eq_true rfl) (Nat.le_of_ble_eq_true rfl) ?_
  refine lv_aload_n hx hb dX3_init_4 rfl (lv_at hl 0 rfl) ?_
  refine lv_bipush (v := 6) hx hb dX3_init_5 (by decide) ?_
  refine ci_newi hx hb (hts (.arrayClass .int) (by decide +kernel)) hK hP hD hS hA 6 rfl (by decide) (Nat.le_of_ble_eq_true rfl) (Nat.le_of_ble_eq_true rfl) dX3_init_7 (fun q7 H hP hD hS => ?_)
  have hP : va_P D vwCl ((x, .inr (5, [.null, .null, .null, .null])) :: ((q7, .inl (cI, 6, .inl (fun _ => 0))) :: [])) _ := hP
  have hD : va_D (ci_A x N0) ((x, .inr (5, [.null, .null, .null, .null])) :: ((q7, .inl (cI, 6, .inl (fun _ => 0))) :: [])) := hD
  refine va_putF (D := D) (ci := 5) (v := .ref q7) (ty := .array .int) (C := RX3) (T := TX3) (N := 4) hx hb hts inX3 tyX3 tyX3_ok nmX3 hown hK hP hD hS 0 rfl rfl 0 (by decide) (hts (.fieldLink RX3 9 "ResampledRows$Tables" "starts" "[I") (by decide +kernel)) (fun _ h9 => h9) rfl hin rfl (by decide +kernel) rfl rfl (Nat.le_of_ble_eq_true rfl) dX3_init_9 (fun H locs hP hD hS => ?_)
  have hP : va_P D vwCl ((x, .inr (5, [.ref q7, .null, .null, .null])) :: ((q7, .inl (cI, 6, .inl (fun _ => 0))) :: [])) _ := hP
  have hD : va_D (ci_A x N0) ((x, .inr (5, [.ref q7, .null, .null, .null])) :: ((q7, .inl (cI, 6, .inl (fun _ => 0))) :: [])) := hD
  refine lv_aload_n hx hb dX3_init_12 rfl (lv_at hl 0 rfl) ?_
  refine lv_bipush (v := 6) hx hb dX3_init_13 (by decide) ?_
  refine lv_bipush (v := 6) hx hb dX3_init_15 (by decide) ?_
  refine ci_mna hx hb hown (hts (.classLink RX3 15 "[[I") (by decide +kernel)) hN (hts (.arrayClass .int) (by decide +kernel)) hK hP hD hS hA 6 6 rfl rfl (by decide) (by decide) (Nat.le_of_ble_eq_true rfl) (Nat.le_of_ble_eq_true rfl) dX3_init_17 (fun q17 r17 H hP hD hS => ?_)
  have hP : va_P D vwCl ((x, .inr (5, [.ref q7, .null, .null, .null])) :: ((q7, .inl (cI, 6, .inl (fun _ => 0))) :: ((q17, .inl (cII, 6, .inr (.inr (.inr (.inr (fun i => some (r17 i))))))) :: (ci_rows cI r17 6 6 ++ [])))) _ := hP
  have hD : va_D (ci_A x N0) ((x, .inr (5, [.ref q7, .null, .null, .null])) :: ((q7, .inl (cI, 6, .inl (fun _ => 0))) :: ((q17, .inl (cII, 6, .inr (.inr (.inr (.inr (fun i => some (r17 i))))))) :: (ci_rows cI r17 6 6 ++ [])))) := hD
  refine va_putF (D := D) (ci := 5) (v := .ref q17) (ty := .array (.array .int)) (C := RX3) (T := TX3) (N := 4) hx hb hts inX3 tyX3 tyX3_ok nmX3 hown hK hP hD hS 0 rfl rfl 1 (by decide) (hts (.fieldLink RX3 17 "ResampledRows$Tables" "moves" "[[I") (by decide +kernel)) (fun _ h9 => h9) rfl hin rfl (by decide +kernel) rfl rfl (Nat.le_of_ble_eq_true rfl) dX3_init_21 (fun H locs hP hD hS => ?_)
  have hP : va_P D vwCl ((x, .inr (5, [.ref q7, .ref q17, .null, .null])) :: ((q7, .inl (cI, 6, .inl (fun _ => 0))) :: ((q17, .inl (cII, 6, .inr (.inr (.inr (.inr (fun i => some (r17 i))))))) :: (ci_rows cI r17 6 6 ++ [])))) _ := hP
  have hD : va_D (ci_A x N0) ((x, .inr (5, [.ref q7, .ref q17, .null, .null])) :: ((q7, .inl (cI, 6, .inl (fun _ => 0))) :: ((q17, .inl (cII, 6, .inr (.inr (.inr (.inr (fun i => some (r17 i))))))) :: (ci_rows cI r17 6 6 ++ [])))) := hD
  refine lv_aload_n hx hb dX3_init_24 rfl (lv_at hl 0 rfl) ?_
  refine lv_iconst (v := 5) hx hb dX3_init_25 (by decide) ?_
  refine lv_bipush (v := 6) hx hb dX3_init_26 (by decide) ?_
  refine ci_mna hx hb hown (hts (.classLink RX3 15 "[[I") (by decide +kernel)) hN (hts (.arrayClass .int) (by decide +kernel)) hK hP hD hS hA 5 6 rfl rfl (by decide) (by decide) (Nat.le_of_ble_eq_true rfl) (Nat.le_of_ble_eq_true rfl) dX3_init_28 (fun q28 r28 H hP hD hS => ?_)
  have hP : va_P D vwCl ((x, .inr (5, [.ref q7, .ref q17, .null, .null])) :: ((q7, .inl (cI, 6, .inl (fun _ => 0))) :: ((q17, .inl (cII, 6, .inr (.inr (.inr (.inr (fun i => some (r17 i))))))) :: (ci_rows cI r17 6 6 ++ ((q28, .inl (cII, 5, .inr (.inr (.inr (.inr (fun i => some (r28 i))))))) :: (ci_rows cI r28 5 6 ++ [])))))) _ := hP
  have hD : va_D (ci_A x N0) ((x, .inr (5, [.ref q7, .ref q17, .null, .null])) :: ((q7, .inl (cI, 6, .inl (fun _ => 0))) :: ((q17, .inl (cII, 6, .inr (.inr (.inr (.inr (fun i => some (r17 i))))))) :: (ci_rows cI r17 6 6 ++ ((q28, .inl (cII, 5, .inr (.inr (.inr (.inr (fun i => some (r28 i))))))) :: (ci_rows cI r28 5 6 ++ [])))))) := hD
  refine va_putF (D := D) (ci := 5) (v := .ref q28) (ty := .array (.array .int)) (C := RX3) (T := TX3) (N := 4) hx hb hts inX3 tyX3 tyX3_ok nmX3 hown hK hP hD hS 0 rfl rfl 2 (by decide) (hts (.fieldLink RX3 20 "ResampledRows$Tables" "sights" "[[I") (by decide +kernel)) (fun _ h9 => h9) rfl hin rfl (by decide +kernel) rfl rfl (Nat.le_of_ble_eq_true rfl) dX3_init_32 (fun H locs hP hD hS => ?_)
  have hP : va_P D vwCl ((x, .inr (5, [.ref q7, .ref q17, .ref q28, .null])) :: ((q7, .inl (cI, 6, .inl (fun _ => 0))) :: ((q17, .inl (cII, 6, .inr (.inr (.inr (.inr (fun i => some (r17 i))))))) :: (ci_rows cI r17 6 6 ++ ((q28, .inl (cII, 5, .inr (.inr (.inr (.inr (fun i => some (r28 i))))))) :: (ci_rows cI r28 5 6 ++ [])))))) _ := hP
  have hD : va_D (ci_A x N0) ((x, .inr (5, [.ref q7, .ref q17, .ref q28, .null])) :: ((q7, .inl (cI, 6, .inl (fun _ => 0))) :: ((q17, .inl (cII, 6, .inr (.inr (.inr (.inr (fun i => some (r17 i))))))) :: (ci_rows cI r17 6 6 ++ ((q28, .inl (cII, 5, .inr (.inr (.inr (.inr (fun i => some (r28 i))))))) :: (ci_rows cI r28 5 6 ++ [])))))) := hD
  refine lv_aload_n hx hb dX3_init_35 rfl (lv_at hl 0 rfl) ?_
  refine lv_bipush (v := 6) hx hb dX3_init_36 (by decide) ?_
  refine ci_newi hx hb (hts (.arrayClass .int) (by decide +kernel)) hK hP hD hS hA 6 rfl (by decide) (Nat.le_of_ble_eq_true rfl) (Nat.le_of_ble_eq_true rfl) dX3_init_38 (fun q38 H hP hD hS => ?_)
  have hP : va_P D vwCl ((x, .inr (5, [.ref q7, .ref q17, .ref q28, .null])) :: ((q7, .inl (cI, 6, .inl (fun _ => 0))) :: ((q17, .inl (cII, 6, .inr (.inr (.inr (.inr (fun i => some (r17 i))))))) :: (ci_rows cI r17 6 6 ++ ((q28, .inl (cII, 5, .inr (.inr (.inr (.inr (fun i => some (r28 i))))))) :: (ci_rows cI r28 5 6 ++ ((q38, .inl (cI, 6, .inl (fun _ => 0))) :: []))))))) _ := hP
  have hD : va_D (ci_A x N0) ((x, .inr (5, [.ref q7, .ref q17, .ref q28, .null])) :: ((q7, .inl (cI, 6, .inl (fun _ => 0))) :: ((q17, .inl (cII, 6, .inr (.inr (.inr (.inr (fun i => some (r17 i))))))) :: (ci_rows cI r17 6 6 ++ ((q28, .inl (cII, 5, .inr (.inr (.inr (.inr (fun i => some (r28 i))))))) :: (ci_rows cI r28 5 6 ++ ((q38, .inl (cI, 6, .inl (fun _ => 0))) :: []))))))) := hD
  refine va_putF (D := D) (ci := 5) (v := .ref q38) (ty := .array .int) (C := RX3) (T := TX3) (N := 4) hx hb hts inX3 tyX3 tyX3_ok nmX3 hown hK hP hD hS 0 rfl rfl 3 (by decide) (hts (.fieldLink RX3 23 "ResampledRows$Tables" "names" "[I") (by decide +kernel)) (fun _ h9 => h9) rfl hin rfl (by decide +kernel) rfl rfl (Nat.le_of_ble_eq_true rfl) dX3_init_40 (fun H locs hP hD hS => ?_)
  have hP : va_P D vwCl ((x, .inr (5, [.ref q7, .ref q17, .ref q28, .ref q38])) :: ((q7, .inl (cI, 6, .inl (fun _ => 0))) :: ((q17, .inl (cII, 6, .inr (.inr (.inr (.inr (fun i => some (r17 i))))))) :: (ci_rows cI r17 6 6 ++ ((q28, .inl (cII, 5, .inr (.inr (.inr (.inr (fun i => some (r28 i))))))) :: (ci_rows cI r28 5 6 ++ ((q38, .inl (cI, 6, .inl (fun _ => 0))) :: []))))))) _ := hP
  have hD : va_D (ci_A x N0) ((x, .inr (5, [.ref q7, .ref q17, .ref q28, .ref q38])) :: ((q7, .inl (cI, 6, .inl (fun _ => 0))) :: ((q17, .inl (cII, 6, .inr (.inr (.inr (.inr (fun i => some (r17 i))))))) :: (ci_rows cI r17 6 6 ++ ((q28, .inl (cII, 5, .inr (.inr (.inr (.inr (fun i => some (r28 i))))))) :: (ci_rows cI r28 5 6 ++ ((q38, .inl (cI, 6, .inl (fun _ => 0))) :: []))))))) := hD
  obtain ⟨hPt, hJ, hAd⟩ := ci_conv (cell := ft_cell cI cII (ci_a3 [x, q7, q17, q28, q38] r17 r28)) (N := 16) (ad := (ci_a3 [x, q7, q17, q28, q38] r17 r28)) (M := ci_M0) (ws := ci_3 cI cII x [x, q7, q17, q28, q38] r17 r28) ci_s3 hP hD ci_s3i ci_c3
  have h0 : (ci_a3 [x, q7, q17, q28, q38] r17 r28) 0 = x := rfl
  generalize (ci_a3 [x, q7, q17, q28, q38] r17 r28) = ad at hPt hJ hAd h0
  subst h0
  refine lv_aload_n hx hb dX3_init_43 rfl (lv_at hl 0 rfl) ?_
  refine va_callv (va_runV (As := []) (rest := []) ⟨hx, hb, hml, hown, hts⟩ (t_X3_setAsAtFirst l hJ ci_M0) (cwV 0 hts gX3_init_X3_setAsAtFirst rfl rfl rfl (by decide +kernel) ⟨Nat.le_of_ble_eq_true rfl, Nat.le_of_ble_eq_true rfl⟩) ⟨fl_blind, va_recv hK hPt (ci := 5) (q0 := 0) rfl (fl_at (by decide) rfl), fl_pre hPt hK hN.1⟩ rfl rfl hl.1 rfl (lv_room (Nat.le_of_ble_eq_true rfl)) dX3_init_44 ⟨Nat.le_of_ble_eq_true rfl, Nat.le_of_ble_eq_true rfl⟩) hS (fun z _ h => by obtain ⟨c9, h9, rfl⟩ := h; exact hAd c9 h9) (fun z h => by obtain ⟨c9, h9, rfl⟩ := h; exact hAd c9 h9) (fun M44 t H1 locs ht hvm hw hB hz1 hk1 hS => ?_)
  exact W.vret hx hb hr (fun t9 ht9 hW => ⟨⟨(ad, M44), rfl, ⟨rfl, hJ, hAd, hw.1⟩, (show va_P D vwCl (ftP cI cII ad M44) t9.heap by rw [ht9, ← ht]; exact hB)⟩, hS.F ht9⟩) hS.2.2 dX3_init_47
