/-! THE LAW FROM ITS ENTRY -/
set_option maxHeartbeats 8000000 in
set_option maxRecDepth 100000 in
theorem whole_start {p : Program} {e : Env} {s : State} {m : MethodId} {below : List Frame} {meth : Method} {c : Code} (l : Launch) (hlt : l.stackTraces = false) {b L : Nat} {xs : Nat → Int32} (hL : L ≤ 2048) (C0 : lw_At p s m meth c b L xs) : W p l e room_1 s m #[Value.ref b] below meth c s.heap [] 0 0 (lw_Z below #[Value.ref b] s) (entryFrame m ([Value.ref b] : List Value).toArray 9) := by
  obtain ⟨hx, hb, hr, hml, hown, hts9, hX, hbl, hlocks, hgv⟩ := id C0
  have hts : ∀ w ∈ wsL_law, w.before #[Value.ref b] s = true := fun w h => hts9 w (wsL_law_in w h)
  obtain ⟨D, cI, cJ, cII, hK⟩ := lw_K hts9
  have hN : ci_N s := lw_N hts9
  obtain ⟨⟨sa, hTh⟩, hZh⟩ := lw_hT hts9 hgv
  have hA : ∀ q : Nat, s.heap.size ≤ q → (fun q : Nat => s.heap.size ≤ q) q := fun _ h => h
  have hS : va_S (fun q : Nat => s.heap.size ≤ q) s.heap s.heap [] := va_S.rf
  have hP : va_P D vwCl ([] : va_W) s.heap := fun k q h => nomatch h
  have hD : va_D (fun q : Nat => s.heap.size ≤ q) ([] : va_W) := ⟨fun i j p q h => (nomatch h), fun k q h => (nomatch h)⟩
  have hl := lv_entry ([.ref b] : List Value) (n := 9) (Nat.le_of_ble_eq_true rfl)
  rw [lg_entry_eq]
  generalize (lg_sl ([.ref b] : List Value) ++ List.replicate (9 - (lg_sl ([.ref b] : List Value)).length) Slot.unset).toArray = ls at hl ⊢
  have hl : lv_has ls 9 [(0, .ref b)] := hl
  refine va_new (D := D) (ci := 6) (fs := [.null, .null, .null]) (C := RX4) (T := TX4) (N := 3) hx hb hts9 inX4 tyX4 tyX4_ok hown (hts9 (.classLink RL 8 RX4) (by decide +kernel)) (hts9 (.instantiable RX4 3) (by decide +kernel)) (hts9 (.initialized RX4) (by decide +kernel)) hK hP hD hS hA rfl (fun j hj => by rcases (show j = 0 ∨ j = 1 ∨ j = 2 by omega) with rfl | rfl | rfl <;> rfl) (by show 0 + 1 ≤ 603072; omega) (by show 0 + 3 ≤ 7207017; omega) dL_law_0 (fun q0 H hP hD hS => ?_)
  have hP : va_P D vwCl [(q0, .inr (6, [.null, .null, .null]))] H := hP
  have hD : va_D (fun q : Nat => s.heap.size ≤ q) [(q0, .inr (6, [.null, .null, .null]))] := hD
  have hq0 : s.heap.size ≤ q0 := hD.2 0 _ rfl
  refine lv_dup hx hb dL_law_3 rfl ?_
  have hS9 := hS
  refine va_callv (va_runI (As := []) (rest := [.ref q0]) ⟨hx, hb, hml, hown, hts⟩ (c_X4_init l q0 H.size) (cwI 0 hts gL_law_X4_init rfl rfl rfl (hts9 (.initialized RX4) (by decide +kernel)) (hts9 (.methodLink RL 15 yX4_init) (by decide +kernel)) (hts9 (.instanceMethod yX4_init) (by decide +kernel)) rfl (by decide +kernel) ⟨(Nat.le_of_ble_eq_true rfl), (Nat.le_of_ble_eq_true rfl)⟩) ⟨ci_blind, ci_pre hP hK hN⟩ rfl rfl hl.1 rfl (lv_room (Nat.le_of_ble_eq_true rfl)) dL_law_4 ⟨(by show 0 + 1 + 61 ≤ 603072; omega), (by show 0 + 3 + 1312 ≤ 7207017; omega)⟩) hS (fun z _ h => h.elim (fun e => e ▸ hq0) (fun h => Nat.le_trans hS9.1 h)) (fun z h => h.elim (fun e => e ▸ hq0) (fun h => Nat.le_trans hS9.1 h)) (fun u4 t H1 locs ht hvm hw hB hz1 hk1 hS => ?_)
  obtain ⟨ad, Mc⟩ := u4
  obtain ⟨h0, hJ4, hA4, hcA⟩ := hw
  dsimp only at h0 hJ4 hA4 hcA
  subst h0
  have hB1 : va_P D vwCl (fcP cI cII ad Mc) H1 := by rw [← ht]; exact hB
  have hD1 : va_D (fun q : Nat => s.heap.size ≤ q) (fcP cI cII ad Mc) := ci_Dp hJ4 (fun c hc => (hA4 c hc).elim (fun e => e ▸ hq0) (fun h => Nat.le_trans hS9.1 h))
  clear hB hk1 hz1 hvm ht t hP hD
  refine lv_astore_n (lv' := [(1, .ref (ad 0)), (0, .ref b)]) hx hb dL_law_7 rfl hl (by decide) rfl (fun ls hl => ?_)
  refine va_new (D := D) (ci := 7) (fs := [.int 0, .null, .null, .null, .null, .null, .int 0, .int 0, .long 0, .null, .null, .null, .int 0, .int 0, .int 0, .double 0, .null, .int 0, .null, .null, .null, .null, .null]) (C := RX5) (T := TX5) (N := 23) hx hb hts9 inX5 tyX5 tyX5_ok hown (hts9 (.classLink RL 16 RX5) (by decide +kernel)) (hts9 (.instantiable RX5 23) (by decide +kernel)) (hts9 (.initialized RX5) (by decide +kernel)) hK hB1 hD1 hS hA rfl (fun j hj => by rcases (show j = 0 ∨ j = 1 ∨ j = 2 ∨ j = 3 ∨ j = 4 ∨ j = 5 ∨ j = 6 ∨ j = 7 ∨ j = 8 ∨ j = 9 ∨ j = 10 ∨ j = 11 ∨ j = 12 ∨ j = 13 ∨ j = 14 ∨ j = 15 ∨ j = 16 ∨ j = 17 ∨ j = 18 ∨ j = 19 ∨ j = 20 ∨ j = 21 ∨ j = 22 by omega) with rfl | rfl | rfl | rfl | rfl | rfl | rfl | rfl | rfl | rfl | rfl | rfl | rfl | rfl | rfl | rfl | rfl | rfl | rfl | rfl | rfl | rfl | rfl <;> rfl) (by show 0 + 1 + 61 + 1 ≤ 603072; omega) (by show 0 + 3 + 1312 + 23 ≤ 7207017; omega) dL_law_8 (fun q8 H hP hD hS => ?_)
  have h62 : (fcP cI cII ad Mc ++ [(q8, .inr (7, [.int 0, .null, .null, .null, .null, .null, .int 0, .int 0, .long 0, .null, .null, .null, .int 0, .int 0, .int 0, .double 0, .null, .int 0, .null, .null, .null, .null, .null]))])[62]? = some (q8, .inr (7, [.int 0, .null, .null, .null, .null, .null, .int 0, .int 0, .long 0, .null, .null, .null, .int 0, .int 0, .int 0, .double 0, .null, .int 0, .null, .null, .null, .null, .null])) := by
    rw [List.getElem?_append_right (by simp [fl_pool])]
    simp [fl_pool]
  have hPx : va_P D vwCl [(q8, .inr (7, [.int 0, .null, .null, .null, .null, .null, .int 0, .int 0, .long 0, .null, .null, .null, .int 0, .int 0, .int 0, .double 0, .null, .int 0, .null, .null, .null, .null, .null]))] H := fun k z hk => by
    have h1 : k < 1 := (List.getElem?_eq_some_iff.mp hk).1
    rw [show k = 0 by omega] at hk
    cases Option.some.inj hk
    exact hP 62 _ h62
  have hq8 : s.heap.size ≤ q8 := hD.2 62 _ h62
  refine lv_dup hx hb dL_law_11 rfl ?_
  have hS8 := hS
  refine va_callv (va_runI (As := []) (rest := [.ref q8]) ⟨hx, hb, hml, hown, hts⟩ (c_X5_init l q8 H.size) (cwI 0 hts gL_law_X5_init rfl rfl rfl (hts9 (.initialized RX5) (by decide +kernel)) (hts9 (.methodLink RL 18 yX5_init) (by decide +kernel)) (hts9 (.instanceMethod yX5_init) (by decide +kernel)) rfl (by decide +kernel) ⟨(Nat.le_of_ble_eq_true rfl), (Nat.le_of_ble_eq_true rfl)⟩) ⟨ci_blind, ci_pre hPx hK hN⟩ rfl rfl hl.1 rfl (lv_room (Nat.le_of_ble_eq_true rfl)) dL_law_12 ⟨(by show 0 + 1 + 61 + 1 + 14 ≤ 603072; omega), (by show 0 + 3 + 1312 + 23 + 1246 ≤ 7207017; omega)⟩) hS (fun z _ h => h.elim (fun e => e ▸ hq8) (fun h => Nat.le_trans hS8.1 h)) (fun z h => h.elim (fun e => e ▸ hq8) (fun h => Nat.le_trans hS8.1 h)) (fun u12 t H1 locs ht hvm hw hB hz1 hk1 hS => ?_)
  obtain ⟨am, Mm⟩ := u12
  obtain ⟨h0, hJ5, hA5, hmA⟩ := hw
  dsimp only at h0 hJ5 hA5 hmA
  subst h0
  have hB2 : va_P D vwCl ((am 0, fm_cell cI cJ am Mm 0) :: (fmP cI cJ am Mm).tail) H1 := by rw [← ht]; exact hB
  have hD2 : va_D (ci_A (am 0) H.size) ((am 0, fm_cell cI cJ am Mm 0) :: (fmP cI cJ am Mm).tail) := ci_Dp hJ5 hA5
  obtain ⟨hP3, hD3⟩ := ci_join hP hD hB2 hD2 hk1 hS8 hA
  clear hB hB2 hk1 hz1 hvm ht t hP hD hPx
  refine lv_astore_n (lv' := [(2, .ref (am 0)), (1, .ref (ad 0)), (0, .ref b)]) hx hb dL_law_15 rfl hl (by decide) rfl (fun ls hl => ?_)
  refine lv_iconst (v := 1) hx hb dL_law_16 (by decide) ?_
  refine ci_newl hx hb (hts9 (.arrayClass .long) (by decide +kernel)) hK hP3 hD3 hS hA 1 rfl (by decide) (by show 0 + 1 + 61 + 1 + 14 + 1 ≤ 603072; omega) (by show 0 + 3 + 1312 + 23 + 1246 + 1 ≤ 7207017; omega) dL_law_17 (fun o H hP hD hS => ?_)
  have hP : va_P D vwCl ((fcP cI cII ad Mc ++ fmP cI cJ am Mm) ++ lm_o cJ o (fun _ => 0)) H := hP
  have hD : va_D (fun q : Nat => s.heap.size ≤ q) ((fcP cI cII ad Mc ++ fmP cI cJ am Mm) ++ lm_o cJ o (fun _ => 0)) := hD
  obtain ⟨hC, hPl⟩ := lm_start hJ4 hJ5 hP hD
  refine lv_astore_n (lv' := [(3, .ref o), (2, .ref (am 0)), (1, .ref (ad 0)), (0, .ref b)]) hx hb dL_law_19 rfl hl (by decide) rfl (fun ls hl => ?_)
  refine lv_iconst (v := 0) hx hb dL_law_20 (by decide) ?_
  refine lv_istore (lv' := [(4, .int 0), (3, .ref o), (2, .ref (am 0)), (1, .ref (ad 0)), (0, .ref b)]) hx hb dL_law_21 hl (by decide) rfl (fun ls hl => ?_)
  refine hw_wd (k := 78 + 0) (n := 2615 + 6 * 0) (Nat.le_of_ble_eq_true rfl) (Nat.le_of_ble_eq_true rfl) ?_
  exact W.base (lw_loop l hlt hL C0 hK hN hTh hZh hC (L + 1) 0 (a_t1, ([], 0), a_r0) Mc Mm (fun _ => 0) s.drawn (by omega) (by omega) (Nat.zero_le _) hcA hmA (Drawn.sameBut.refl s.drawn lw_cs) H locs hPl hS ls (lv_sub hl [4, 3, 2, 1, 0] rfl))
