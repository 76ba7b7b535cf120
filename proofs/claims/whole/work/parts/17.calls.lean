theorem fl_c2 (x : Int32) : x = 0 ∨ (x ≠ 0 ∧ x = 1) ∨ (x ≠ 0 ∧ x ≠ 1) := by
  by_cases h0 : x = 0
  · exact Or.inl h0
  · by_cases h1 : x = 1
    · exact Or.inr (Or.inl ⟨h0, h1⟩)
    · exact Or.inr (Or.inr ⟨h0, h1⟩)
theorem fl_c3 (x : Int32) : x = 0 ∨ (x ≠ 0 ∧ x = 1) ∨ (x ≠ 0 ∧ x ≠ 1 ∧ x = 2) ∨ (x ≠ 0 ∧ x ≠ 1 ∧ x ≠ 2) := by
  rcases fl_c2 x with h | h | h
  · exact Or.inl h
  · exact Or.inr (Or.inl h)
  · by_cases h2 : x = 2
    · exact Or.inr (Or.inr (Or.inl ⟨h.1, h.2, h2⟩))
    · exact Or.inr (Or.inr (Or.inr ⟨h.1, h.2, h2⟩))
theorem fl_c5 (x : Int32) : x = 0 ∨ (x ≠ 0 ∧ x = 1) ∨ (x ≠ 0 ∧ x ≠ 1 ∧ x = 2) ∨ (x ≠ 0 ∧ x ≠ 1 ∧ x ≠ 2 ∧ x = 3) ∨ (x ≠ 0 ∧ x ≠ 1 ∧ x ≠ 2 ∧ x ≠ 3 ∧ x = 4) ∨ (x ≠ 0 ∧ x ≠ 1 ∧ x ≠ 2 ∧ x ≠ 3 ∧ x ≠ 4) := by
  rcases fl_c3 x with h | h | h | h
  · exact Or.inl h
  · exact Or.inr (Or.inl h)
  · exact Or.inr (Or.inr (Or.inl h))
  · by_cases h3 : x = 3
    · exact Or.inr (Or.inr (Or.inr (Or.inl ⟨h.1, h.2.1, h.2.2, h3⟩)))
    · by_cases h4 : x = 4
      · exact Or.inr (Or.inr (Or.inr (Or.inr (Or.inl ⟨h.1, h.2.1, h.2.2, h3, h4⟩))))
      · exact Or.inr (Or.inr (Or.inr (Or.inr (Or.inr ⟨h.1, h.2.1, h.2.2, h3, h4⟩))))
theorem fl_ti_ne {x y : Int32} (h : x ≠ y) : x.toInt ≠ y.toInt := fun q => h (Int32.toInt_inj.mp q)
theorem fl_o3 {x : Int32} (h0 : x ≠ 0) (h1 : x ≠ 1) (h2 : x ≠ 2) : x.toInt < 0 ∨ 2 < x.toInt := by
  have a0 : x.toInt ≠ 0 := fl_ti_ne h0
  have a1 : x.toInt ≠ 1 := fl_ti_ne h1
  have a2 : x.toInt ≠ 2 := fl_ti_ne h2
  omega
theorem fl_o5 {x : Int32} (h0 : x ≠ 0) (h1 : x ≠ 1) (h2 : x ≠ 2) (h3 : x ≠ 3) (h4 : x ≠ 4) : x.toInt < 0 ∨ 4 < x.toInt := by
  have a0 : x.toInt ≠ 0 := fl_ti_ne h0
  have a1 : x.toInt ≠ 1 := fl_ti_ne h1
  have a2 : x.toInt ≠ 2 := fl_ti_ne h2
  have a3 : x.toInt ≠ 3 := fl_ti_ne h3
  have a4 : x.toInt ≠ 4 := fl_ti_ne h4
  omega
theorem fl_leT {x y : Int32} : x ≤ y ↔ x.toInt ≤ y.toInt := Int32.le_iff_toInt_le
theorem fl_ltT {x y : Int32} : x < y ↔ x.toInt < y.toInt := Int32.lt_iff_toInt_lt
theorem a_ix_big {x : Int32} (h : ¬ x < 0) : a_ix x 2147483648 = some x.toNatClampNeg := by
  unfold a_ix
  rw [if_neg h, if_pos (fl_nat h).2]
/-- an index between 1 and n -/
theorem a_ix_pos {x : Int32} {n : Nat} (hn : n < 2 ^ 31) (h1 : ¬ x < 0) (h0 : ¬ x = 0) (h2 : x ≤ nI n) : ∃ k, k + 1 ≤ n ∧ x = nI (k + 1) ∧ a_ix x (n + 1) = some (k + 1) := by
  obtain ⟨e1, e2⟩ := fl_nat h1
  have e3 : x.toNatClampNeg ≤ n := by rw [e1] at h2; exact (nI_leI e2 hn).mp h2
  have e4 : x.toNatClampNeg ≠ 0 := fun q => h0 (by rw [e1, q]; rfl)
  obtain ⟨k, hk⟩ : ∃ k, x.toNatClampNeg = k + 1 := ⟨x.toNatClampNeg - 1, by omega⟩
  rw [hk] at e1 e2 e3
  refine ⟨k, e3, e1, ?_⟩
  rw [e1]
  exact a_ix_nI (by omega) e2
theorem a_ix_gt {x : Int32} {n : Nat} (hn : n + 1 < 2 ^ 31) (h2 : ¬ x ≤ nI n) : a_ix x (n + 1) = none := by
  refine a_ix_out ?_ hn
  have := fl_gt h2
  rw [fl_ltT, nI_toInt (by omega)] at this
  rw [fl_leT, nI_toInt hn]
  omega
theorem o_begin_out {α : a_A} {x : Int32} {sd : Int64} (h : ¬ x < 0) (h2 : x = 0 ∨ ¬ x ≤ 16) : o_begin α x sd = (-1000002, α) := by
  unfold o_begin
  rw [if_neg h]
  rcases h2 with h2 | h2
  · rw [h2]; rfl
  · rw [a_ix_gt (n := 16) (by decide) h2]
theorem o_rule_out {α : a_A} {x y : Int32} (hn : ¬ r_n α.2.2 = 0) (h : a_ix x 4 = none ∨ y < 1 ∨ ¬ y ≤ 100) : o_rule α x y = (-1000002, α) := by
  unfold o_rule
  rw [if_neg hn]
  rcases hx : a_ix x 4 with _ | wy
  · rfl
  · rcases h with h | h | h
    · rw [hx] at h; cases h
    · dsimp only
      by_cases h0 : y < 0
      · rw [a_ix_neg h0]
      · have e : y = 0 := by
          have a1 : y.toInt < 1 := fl_ltT.mp h
          have a2 : ¬ y.toInt < 0 := fun q => h0 (fl_ltT.mpr q)
          exact Int32.toInt_inj.mp (by show y.toInt = 0; omega)
        rw [e]; rfl
    · dsimp only
      rw [a_ix_gt (n := 100) (by decide) h]
theorem fc_D.x {d : a_D} {M : fl_M} (h : fc_D d M) (x : Int64) : fc_D (d.1, x) (fl_sJ M 6 3 x) := by
  obtain ⟨f, h1, h2, h3, h4, h5, h6⟩ := h
  exact ⟨f, h1, h2, h3, h4, rfl, h6⟩

theorem fc_fill1 {M : fl_M} {c : Nat} : fl_row ((fl_fM M c 1 6).1 c) (fun _ => 1) 6 10 := fun k hk => ⟨fl_fM_same M c 1 6 hk, (by decide : (1 : Nat) < 10)⟩
theorem fc_fillne {M : fl_M} {c a : Nat} (h : a ≠ c) (v : Int32) (i : Nat) : (fl_fM M c v i).1 a = M.1 a := if_neg h

set_option maxHeartbeats 4000000 in
set_option maxRecDepth 100000 in
theorem c_X3_setAsAtFirst (l : Launch) {D : va_G} {cI cJ cII : ClassId} {ad : Nat → Nat} (hJ : fl_inj 62 ad) (M : fl_M) : Met l yX3_setAsAtFirst wsX3_setAsAtFirst ({ frames := 1, cells := 0, slots := 0, locals := 23 } : Room) (fcPc D cI cJ cII ad M [.ref (ad 1)]) (va_Qv (fun M2 => fc_T a_t1 M2 ∧ fl_eq (fun c => ¬ fc_tb c) M M2) (fcQ D cI cII ad) (fl_A 62 ad)) 0 0 (fl_A 62 ad) := by
  refine Met.ofW (cc := cX3_setAsAtFirst) (maxL := 2) (ret := none) (by decide) rfl ?_
  intro p e s m args below meth c s₁ B hml hv
  obtain ⟨rfl, hP, hK, hN⟩ := hv
  have hx := B.exec
  have hb := B.bytes
  have hr := B.returns
  have hts := atoms_spec (ws := wsX3_setAsAtFirst) B.pre
  have hown : s.vm.findClass RX3 = some m.cls := findClass_of_methodNamed B.named
  have hlocks := B.notSynchronized
  have inX3 : ∀ w ∈ u_ws RX3 TX3 4, w ∈ wsX3_setAsAtFirst := by decide +kernel
  have hS : va_S (fl_A 62 ad) s.heap s.heap [] := va_S.rf
  have hl := lv_entry ([.ref (ad 1)] : List Value) (n := 2) (Nat.le_of_ble_eq_true rfl)
  rw [lg_entry_eq]
  generalize (lg_sl ([.ref (ad 1)] : List Value) ++ List.replicate (2 - (lg_sl ([.ref (ad 1)] : List Value)).length) Slot.unset).toArray = ls at hl ⊢
  have hl : lv_has ls 2 [(0, .ref (ad 1))] := hl
  refine lv_aload_n hx hb dX3_setAsAtFirst_0 rfl (lv_at hl 0 rfl) ?_
  refine va_get (D := D) (ci := 5) (v := .ref (ad 2)) (C := RX3) (T := TX3) (N := 4) hx hb hts inX3 hown hK hP 1 (fl_at (by decide) rfl) rfl 0 (by decide) (hts (.fieldLink RX3 9 "ResampledRows$Tables" "starts" "[I") (by decide +kernel)) (fun _ h9 => h9) rfl dX3_setAsAtFirst_1 ?_
  refine lv_iconst (v := 1) hx hb dX3_setAsAtFirst_4 (by decide) ?_
  refine va_callv (va_runS (As := [.ref (ad 2), .int 1]) (rest := []) ⟨hx, hb, hml, hown, hts⟩ (c_J7_fill_53178 l hJ M 2 6 1 rfl (by decide)) (va_cwS 2 hts gX3_setAsAtFirst_J7_fill_53178 rfl rfl rfl (by decide +kernel) ⟨Nat.le_of_ble_eq_true rfl, Nat.le_of_ble_eq_true rfl⟩) ⟨fl_blind, fl_pre hP hK hN⟩ rfl rfl hl.1 rfl (lv_room (Nat.le_of_ble_eq_true rfl)) dX3_setAsAtFirst_5 ⟨Nat.le_of_ble_eq_true rfl, Nat.le_of_ble_eq_true rfl⟩) hS (fun _ _ h => h) (fun _ h => h) (fun M5 t H1 locs ht hvm hw hB hz1 hk1 hS => ?_)
  have hP : va_P D vwCl (fcP cI cII ad M5) H1 := by rw [← ht]; exact hB
  clear hB hk1 hz1 hvm ht t
  rw [hw] at hP
  refine lv_iconst (v := 0) hx hb dX3_setAsAtFirst_8 (by decide) ?_
  refine lv_istore_n (lv' := [(1, .int 0), (0, .ref (ad 1))]) hx hb dX3_setAsAtFirst_9 rfl hl (by decide) rfl (fun ls hl => ?_)
  suffices KL10 : ∀ (f : Nat) (i : Nat) (M3 : fl_M) (hi : i ≤ 6) (hs : fl_row (M3.1 2) (fun _ => 1) 6 10) (hm : ∀ k, k < i → fl_row (M3.1 (19 + k)) (fun _ => 1) 6 10) (he : fl_eq (fun c => ¬ fc_tb c) M M3) (hf : 6 + 1 ≤ i + f), ∀ (H : Heap) (locs : List Loc), va_P D vwCl (fcP cI cII ad M3) H → va_S (fl_A 62 ad) s.heap H locs → ∀ (ls : Array Slot), lv_has ls 2 [(0, .ref (ad 1)), (1, .int (nI i))] → W p l e (headSpec wsX3_setAsAtFirst ({ frames := 1, cells := 0, slots := 0, locals := 23 } : Room)).room s m ([.ref (ad 1)] : List Value).toArray below meth c H locs 0 0 (MQ below (va_Qv (fun M2 => fc_T a_t1 M2 ∧ fl_eq (fun c => ¬ fc_tb c) M M2) (fcQ D cI cII ad) (fl_A 62 ad)) ([.ref (ad 1)] : List Value).toArray s 0 0 (fl_A 62 ad)) (F0 m 10 ls []) from KL10 (6 + 1) 0 _ (Nat.zero_le 6) fc_fill1 (fun k hk => absurd hk (Nat.not_lt_zero k)) (fl_fM_eq fl_eq.rf (fun z => z (Or.inl rfl)) _ _) (by omega) _ _ hP hS ls (lv_sub hl [1, 0] rfl)
  intro f
  induction f with
  | zero =>
    intro i M3 hi hs hm he hf
    omega
  | succ f ih10 =>
    intro i M3 hi hs hm he hf H locs hP hS ls hl
    refine lv_iload_n hx hb dX3_setAsAtFirst_10 rfl (lv_at hl 1 rfl) ?_
    refine lv_bipush (v := 6) hx hb dX3_setAsAtFirst_11 (by decide) ?_
    refine fl_ti (y := nI 6) rfl ?_
    refine lv_icmp_ge (tgt := 32) hx hb dX3_setAsAtFirst_13 (by decide) (fun hc13 => ?_) (fun hc13 => ?_)
    · have e13 : i = 6 := Nat.le_antisymm hi ((nI_leI (by omega) (by omega)).mp hc13)
      refine lv_iconst (v := 0) hx hb dX3_setAsAtFirst_32 (by decide) ?_
      refine lv_istore_n (lv' := [(1, .int 0), (0, .ref (ad 1))]) hx hb dX3_setAsAtFirst_33 rfl hl (by decide) rfl (fun ls hl => ?_)
      suffices KL34 : ∀ (f : Nat) (j : Nat) (M4 : fl_M) (hj : j ≤ 5) (hs4 : fl_row (M4.1 2) (fun _ => 1) 6 10) (hm4 : ∀ k, k < 6 → fl_row (M4.1 (19 + k)) (fun _ => 1) 6 10) (hn4 : ∀ k, k < j → fl_row (M4.1 (25 + k)) (fun _ => 1) 6 10) (he4 : fl_eq (fun c => ¬ fc_tb c) M M4) (hf4 : 5 + 1 ≤ j + f), ∀ (H : Heap) (locs : List Loc), va_P D vwCl (fcP cI cII ad M4) H → va_S (fl_A 62 ad) s.heap H locs → ∀ (ls : Array Slot), lv_has ls 2 [(0, .ref (ad 1)), (1, .int (nI j))] → W p l e (headSpec wsX3_setAsAtFirst ({ frames := 1, cells := 0, slots := 0, locals := 23 } : Room)).room s m ([.ref (ad 1)] : List Value).toArray below meth c H locs 0 0 (MQ below (va_Qv (fun M2 => fc_T a_t1 M2 ∧ fl_eq (fun c => ¬ fc_tb c) M M2) (fcQ D cI cII ad) (fl_A 62 ad)) ([.ref (ad 1)] : List Value).toArray s 0 0 (fl_A 62 ad)) (F0 m 34 ls []) from KL34 (5 + 1) 0 M3 (Nat.zero_le 5) hs (e13 ▸ hm) (fun k hk => absurd hk (Nat.not_lt_zero k)) he (by omega) _ _ hP hS ls (lv_sub hl [1, 0] rfl)
      intro f
      induction f with
      | zero =>
        intro j M4 hj hs4 hm4 hn4 he4 hf4
        omega
      | succ f ih34 =>
        intro j M4 hj hs4 hm4 hn4 he4 hf4 H locs hP hS ls hl
        refine lv_iload_n hx hb dX3_setAsAtFirst_34 rfl (lv_at hl 1 rfl) ?_
        refine lv_iconst (v := 5) hx hb dX3_setAsAtFirst_35 (by decide) ?_
        refine fl_ti (y := nI 5) rfl ?_
        refine lv_icmp_ge (tgt := 55) hx hb dX3_setAsAtFirst_36 (by decide) (fun hc36 => ?_) (fun hc36 => ?_)
        · have e36 : j = 5 := Nat.le_antisymm hj ((nI_leI (by omega) (by omega)).mp hc36)
          refine lv_aload_n hx hb dX3_setAsAtFirst_55 rfl (lv_at hl 0 rfl) ?_
          refine va_get (D := D) (ci := 5) (v := .ref (ad 5)) (C := RX3) (T := TX3) (N := 4) hx hb hts inX3 hown hK hP 1 (fl_at (by decide) rfl) rfl 3 (by decide) (hts (.fieldLink RX3 23 "ResampledRows$Tables" "names" "[I") (by decide +kernel)) (fun _ h9 => h9) rfl dX3_setAsAtFirst_56 ?_
          refine lv_iconst (v := 0) hx hb dX3_setAsAtFirst_59 (by decide) ?_
          refine va_callv (va_runS (As := [.ref (ad 5), .int 0]) (rest := []) ⟨hx, hb, hml, hown, hts⟩ (c_J7_fill_53178 l hJ M4 5 6 0 rfl (by decide)) (va_cwS 2 hts gX3_setAsAtFirst_J7_fill_53178 rfl rfl rfl (by decide +kernel) ⟨Nat.le_of_ble_eq_true rfl, Nat.le_of_ble_eq_true rfl⟩) ⟨fl_blind, fl_pre hP hK hN⟩ rfl rfl hl.1 rfl (lv_room (Nat.le_of_ble_eq_true rfl)) dX3_setAsAtFirst_60 ⟨Nat.le_of_ble_eq_true rfl, Nat.le_of_ble_eq_true rfl⟩) hS (fun _ _ h => h) (fun _ h => h) (fun M60 t H1 locs ht hvm hw hB hz1 hk1 hS => ?_)
          have hP : va_P D vwCl (fcP cI cII ad M60) H1 := by rw [← ht]; exact hB
          clear hB hk1 hz1 hvm ht t
          rw [hw] at hP
          exact W.vret hx hb hr (fun t ht hW => ⟨⟨(fl_fM M4 5 0 6), rfl, ⟨⟨by rw [fc_fillne (by decide)]; exact hs4, fun k hk => by rw [fc_fillne (by omega)]; exact hm4 k hk, fun k hk => by rw [fc_fillne (by omega)]; exact (e36 ▸ hn4) k hk, fun k hk => ⟨fl_fM_same M4 5 0 6 hk, (by decide : (0 : Nat) < 4)⟩⟩, fl_fM_eq he4 (fun z => z (Or.inr (Or.inl rfl))) _ _⟩, fl_qi ht hP⟩, hS.F ht⟩) hS.2.2 dX3_setAsAtFirst_63
        · have l36 : j < 5 := Nat.lt_of_not_le (fun q => hc36 ((nI_leI (by omega) (by omega)).mpr q))
          refine lv_aload_n hx hb dX3_setAsAtFirst_39 rfl (lv_at hl 0 rfl) ?_
          refine va_get (D := D) (ci := 5) (v := .ref (ad 4)) (C := RX3) (T := TX3) (N := 4) hx hb hts inX3 hown hK hP 1 (fl_at (by decide) rfl) rfl 2 (by decide) (hts (.fieldLink RX3 20 "ResampledRows$Tables" "sights" "[[I") (by decide +kernel)) (fun _ h9 => h9) rfl dX3_setAsAtFirst_40 ?_
          refine lv_iload_n hx hb dX3_setAsAtFirst_43 rfl (lv_at hl 1 rfl) ?_
          refine fl_ald (k := j) (f := fun j => ad (25 + j)) hx hb hK hP (fl_at (by decide) rfl) rfl rfl (by omega) (by decide) dX3_setAsAtFirst_44 ?_
          refine lv_iconst (v := 1) hx hb dX3_setAsAtFirst_45 (by decide) ?_
          refine va_callv (va_runS (As := [.ref (ad (25 + j)), .int 1]) (rest := []) ⟨hx, hb, hml, hown, hts⟩ (c_J7_fill_53178 l hJ M4 (25 + j) 6 1 (fc_row_len (by omega) (by omega)) (by decide)) (va_cwS 2 hts gX3_setAsAtFirst_J7_fill_53178 rfl rfl rfl (by decide +kernel) ⟨Nat.le_of_ble_eq_true rfl, Nat.le_of_ble_eq_true rfl⟩) ⟨fl_blind, fl_pre hP hK hN⟩ rfl rfl hl.1 rfl (lv_room (Nat.le_of_ble_eq_true rfl)) dX3_setAsAtFirst_46 ⟨Nat.le_of_ble_eq_true rfl, Nat.le_of_ble_eq_true rfl⟩) hS (fun _ _ h => h) (fun _ h => h) (fun M46 t H1 locs ht hvm hw hB hz1 hk1 hS => ?_)
          have hP : va_P D vwCl (fcP cI cII ad M46) H1 := by rw [← ht]; exact hB
          clear hB hk1 hz1 hvm ht t
          rw [hw] at hP
          have he9 : fl_eq (fun c => ¬ fc_tb c) M (fl_fM M4 (25 + j) 1 6) := fl_fM_eq he4 (fun z => z (Or.inr (Or.inr (by omega)))) _ _
          have hn9 : ∀ k, k < j + 1 → fl_row ((fl_fM M4 (25 + j) 1 6).1 (25 + k)) (fun _ => 1) 6 10 := fun k hk => by
            by_cases e : k = j
            · subst e
              exact fc_fill1
            · rw [fc_fillne (by omega)]
              exact hn4 k (by omega)
          refine lv_iinc (v := nI (j + 1)) (lv' := [(1, .int (nI (j + 1))), (0, .ref (ad 1))]) hx hb dX3_setAsAtFirst_49 hl (k := 1) rfl (fl_inc j) (by decide) rfl (fun ls hl => ?_)
          refine lv_goto (tgt := 34) hx hb dX3_setAsAtFirst_52 (by decide) ?_
          exact ih34 (j + 1) (fl_fM M4 (25 + j) 1 6) (by omega) (by rw [fc_fillne (by omega)]; exact hs4) (fun k hk => by rw [fc_fillne (by omega)]; exact hm4 k hk) hn9 he9 (by omega) _ _ hP hS ls (lv_sub hl [1, 0] rfl)
    · have l13 : i < 6 := Nat.lt_of_not_le (fun q => hc13 ((nI_leI (by omega) (by omega)).mpr q))
      refine lv_aload_n hx hb dX3_setAsAtFirst_16 rfl (lv_at hl 0 rfl) ?_
      refine va_get (D := D) (ci := 5) (v := .ref (ad 3)) (C := RX3) (T := TX3) (N := 4) hx hb hts inX3 hown hK hP 1 (fl_at (by decide) rfl) rfl 1 (by decide) (hts (.fieldLink RX3 17 "ResampledRows$Tables" "moves" "[[I") (by decide +kernel)) (fun _ h9 => h9) rfl dX3_setAsAtFirst_17 ?_
      refine lv_iload_n hx hb dX3_setAsAtFirst_20 rfl (lv_at hl 1 rfl) ?_
      refine fl_ald (k := i) (f := fun j => ad (19 + j)) hx hb hK hP (fl_at (by decide) rfl) rfl rfl (by omega) (by decide) dX3_setAsAtFirst_21 ?_
      refine lv_iconst (v := 1) hx hb dX3_setAsAtFirst_22 (by decide) ?_
      refine va_callv (va_runS (As := [.ref (ad (19 + i)), .int 1]) (rest := []) ⟨hx, hb, hml, hown, hts⟩ (c_J7_fill_53178 l hJ M3 (19 + i) 6 1 (fc_row_len (by omega) (by omega)) (by decide)) (va_cwS 2 hts gX3_setAsAtFirst_J7_fill_53178 rfl rfl rfl (by decide +kernel) ⟨Nat.le_of_ble_eq_true rfl, Nat.le_of_ble_eq_true rfl⟩) ⟨fl_blind, fl_pre hP hK hN⟩ rfl rfl hl.1 rfl (lv_room (Nat.le_of_ble_eq_true rfl)) dX3_setAsAtFirst_23 ⟨Nat.le_of_ble_eq_true rfl, Nat.le_of_ble_eq_true rfl⟩) hS (fun _ _ h => h) (fun _ h => h) (fun M23 t H1 locs ht hvm hw hB hz1 hk1 hS => ?_)
      have hP : va_P D vwCl (fcP cI cII ad M23) H1 := by rw [← ht]; exact hB
      clear hB hk1 hz1 hvm ht t
      rw [hw] at hP
      have he9 : fl_eq (fun c => ¬ fc_tb c) M (fl_fM M3 (19 + i) 1 6) := fl_fM_eq he (fun z => z (Or.inr (Or.inr (by omega)))) _ _
      have hm9 : ∀ k, k < i + 1 → fl_row ((fl_fM M3 (19 + i) 1 6).1 (19 + k)) (fun _ => 1) 6 10 := fun k hk => by
        by_cases e : k = i
        · subst e
          exact fc_fill1
        · rw [fc_fillne (by omega)]
          exact hm k (by omega)
      refine lv_iinc (v := nI (i + 1)) (lv' := [(1, .int (nI (i + 1))), (0, .ref (ad 1))]) hx hb dX3_setAsAtFirst_26 hl (k := 1) rfl (fl_inc i) (by decide) rfl (fun ls hl => ?_)
      refine lv_goto (tgt := 10) hx hb dX3_setAsAtFirst_29 (by decide) ?_
      exact ih10 (i + 1) (fl_fM M3 (19 + i) 1 6) (by omega) (by rw [fc_fillne (by omega)]; exact hs) hm9 he9 (by omega) _ _ hP hS ls (lv_sub hl [1, 0] rfl)

set_option maxHeartbeats 4000000 in
set_option maxRecDepth 100000 in
theorem c_X4_start (l : Launch) {D : va_G} {cI cJ cII : ClassId} {ad : Nat → Nat} (hJ : fl_inj 62 ad) (M : fl_M) (α : a_A) (hA : fc_A α M) (x w : Int32) : Met l yX4_start wsX4_start ({ frames := 1, cells := 0, slots := 0, locals := 23 } : Room) (fcPc D cI cJ cII ad M [.ref (ad 0), .int x, .int w]) (va_Qi (fun r M2 => r = (o_start α x w).1 ∧ fc_A (o_start α x w).2 M2) (fcQ D cI cII ad) (fl_A 62 ad)) 0 0 (fl_A 62 ad) := by
  refine Met.ofW (cc := cX4_start) (maxL := 3) (ret := (some .int)) (by decide) rfl ?_
  intro p e s m args below meth c s₁ B hml hv
  obtain ⟨rfl, hP, hK, hN⟩ := hv
  have hx := B.exec
  have hb := B.bytes
  have hr := B.returns
  have hts := atoms_spec (ws := wsX4_start) B.pre
  have hown : s.vm.findClass RX4 = some m.cls := findClass_of_methodNamed B.named
  have hlocks := B.notSynchronized
  have inX3 : ∀ w ∈ u_ws RX3 TX3 4, w ∈ wsX4_start := by decide +kernel
  have inX4 : ∀ w ∈ u_ws RX4 TX4 3, w ∈ wsX4_start := by decide +kernel
  have hS : va_S (fl_A 62 ad) s.heap s.heap [] := va_S.rf
  have hl := lv_entry ([.ref (ad 0), .int x, .int w] : List Value) (n := 3) (Nat.le_of_ble_eq_true rfl)
  rw [lg_entry_eq]
  generalize (lg_sl ([.ref (ad 0), .int x, .int w] : List Value) ++ List.replicate (3 - (lg_sl ([.ref (ad 0), .int x, .int w] : List Value)).length) Slot.unset).toArray = ls at hl ⊢
  have hl : lv_has ls 3 [(0, .ref (ad 0)), (1, .int x), (2, .int w)] := hl
  obtain ⟨hT, hd, hr0⟩ := id hA
  refine lv_iload_n hx hb dX4_start_0 rfl (lv_at hl 1 rfl) ?_
  refine va_calli (va_runS (As := [.int x]) (rest := []) ⟨hx, hb, hml, hown, hts⟩ (c_X4_isState l hJ M x) (va_cwS 1 hts gX4_start_X4_isState rfl rfl rfl (by decide +kernel) ⟨Nat.le_of_ble_eq_true rfl, Nat.le_of_ble_eq_true rfl⟩) ⟨fl_blind, fl_pre hP hK hN⟩ rfl rfl hl.1 rfl (lv_room (Nat.le_of_ble_eq_true rfl)) dX4_start_1 ⟨Nat.le_of_ble_eq_true rfl, Nat.le_of_ble_eq_true rfl⟩) hS (fun _ _ h => h) (fun _ h => h) (fun r1 M1 t H1 locs ht hvm hw hB hz1 hk1 hS => ?_)
  have hP : va_P D vwCl (fcP cI cII ad M1) H1 := by rw [← ht]; exact hB
  clear hB hk1 hz1 hvm ht t
  obtain ⟨rfl, hE⟩ := hw
  rw [hE] at hP
  rcases q1 : a_ix x 6 with _ | j
  · refine fl_ti (y := 0) (by first | rfl | (rw [q1]; rfl)) ?_
    refine lv_if_ne (tgt := 10) hx hb dX4_start_4 (by decide) (fun hz => absurd hz (by decide)) (fun _ => ?_)
    refine lv_ldc (v := -1000001) hx hb hown (hts (.constant RX4 34 (-1000001)) (by decide +kernel)) dX4_start_7 ?_
    exact W.iret (v := (-1000001)) hx hb hr (fun t ht hW => ⟨⟨(-1000001), M, rfl, (by have ho : o_start α x w = ((-1000001), α) := (by unfold o_start; first | (rw [q1] <;> rfl) | (simp only [q1])); rw [ho]; exact ⟨rfl, hA⟩), fl_qi ht hP⟩, hS.F ht⟩) hS.2.2 dX4_start_9
  · obtain ⟨q1_1, q1_2, q1_3⟩ := a_ix_some q1
    refine fl_ti (y := 1) (by first | rfl | (rw [q1]; rfl)) ?_
    refine lv_if_ne (tgt := 10) hx hb dX4_start_4 (by decide) (fun _ => ?_) (fun hz => absurd hz (by decide))
    refine lv_iload_n hx hb dX4_start_10 rfl (lv_at hl 2 rfl) ?_
    refine va_calli (va_runS (As := [.int w]) (rest := []) ⟨hx, hb, hml, hown, hts⟩ (c_X4_isEntry l hJ M w) (va_cwS 1 hts gX4_start_X4_isEntry rfl rfl rfl (by decide +kernel) ⟨Nat.le_of_ble_eq_true rfl, Nat.le_of_ble_eq_true rfl⟩) ⟨fl_blind, fl_pre hP hK hN⟩ rfl rfl hl.1 rfl (lv_room (Nat.le_of_ble_eq_true rfl)) dX4_start_11 ⟨Nat.le_of_ble_eq_true rfl, Nat.le_of_ble_eq_true rfl⟩) hS (fun _ _ h => h) (fun _ h => h) (fun r11 M11 t H1 locs ht hvm hw hB hz1 hk1 hS => ?_)
    have hP : va_P D vwCl (fcP cI cII ad M11) H1 := by rw [← ht]; exact hB
    clear hB hk1 hz1 hvm ht t
    obtain ⟨rfl, hE⟩ := hw
    rw [hE] at hP
    rcases q2 : a_ix w 10 with _ | v
    · refine fl_ti (y := 0) (by first | rfl | (rw [q2]; rfl)) ?_
      refine lv_if_ne (tgt := 20) hx hb dX4_start_14 (by decide) (fun hz => absurd hz (by decide)) (fun _ => ?_)
      refine lv_ldc (v := -1000002) hx hb hown (hts (.constant RX4 38 (-1000002)) (by decide +kernel)) dX4_start_17 ?_
      exact W.iret (v := (-1000002)) hx hb hr (fun t ht hW => ⟨⟨(-1000002), M, rfl, (by have ho : o_start α x w = ((-1000002), α) := (by unfold o_start; first | (rw [q1, q2] <;> rfl) | (simp only [q1, q2])); rw [ho]; exact ⟨rfl, hA⟩), fl_qi ht hP⟩, hS.F ht⟩) hS.2.2 dX4_start_19
    · obtain ⟨q2_1, q2_2, q2_3⟩ := a_ix_some q2
      refine fl_ti (y := 1) (by first | rfl | (rw [q2]; rfl)) ?_
      refine lv_if_ne (tgt := 20) hx hb dX4_start_14 (by decide) (fun _ => ?_) (fun hz => absurd hz (by decide))
      refine lv_aload_n hx hb dX4_start_20 rfl (lv_at hl 0 rfl) ?_
      refine va_get (D := D) (ci := 6) (v := .ref (ad 1)) (C := RX4) (T := TX4) (N := 3) hx hb hts inX4 hown hK hP 0 (fl_at (by decide) rfl) rfl 0 (by decide) (hts (.fieldLink RX4 10 "ResampledRows" "tables" "LResampledRows$Tables;") (by decide +kernel)) (fun _ h9 => h9) rfl dX4_start_21 ?_
      refine va_get (D := D) (ci := 5) (v := .ref (ad 2)) (C := RX3) (T := TX3) (N := 4) hx hb hts inX3 hown hK hP 1 (fl_at (by decide) rfl) rfl 0 (by decide) (hts (.fieldLink RX4 39 "ResampledRows$Tables" "starts" "[I") (by decide +kernel)) (fun _ h9 => h9) rfl dX4_start_24 ?_
      refine lv_iload_n hx hb dX4_start_27 rfl (lv_at hl 1 rfl) ?_
      refine fl_ti (y := nI j) q1_2 ?_
      refine lv_iload_n hx hb dX4_start_28 rfl (lv_at hl 2 rfl) ?_
      refine fl_ti (y := nI v) q2_2 ?_
      refine va_calli (va_runS (As := [.ref (ad 2), .int (nI j), .int (nI v)]) (rest := []) ⟨hx, hb, hml, hown, hts⟩ (c_X4_exchange l hJ M 2 6 j (nI v) rfl (by decide) q1_1) (va_cwS 3 hts gX4_start_X4_exchange rfl rfl rfl (by decide +kernel) ⟨Nat.le_of_ble_eq_true rfl, Nat.le_of_ble_eq_true rfl⟩) ⟨fl_blind, fl_pre hP hK hN⟩ rfl rfl hl.1 rfl (lv_room (Nat.le_of_ble_eq_true rfl)) dX4_start_29 ⟨Nat.le_of_ble_eq_true rfl, Nat.le_of_ble_eq_true rfl⟩) hS (fun _ _ h => h) (fun _ h => h) (fun r29 M29 t H1 locs ht hvm hw hB hz1 hk1 hS => ?_)
      have hP : va_P D vwCl (fcP cI cII ad M29) H1 := by rw [← ht]; exact hB
      clear hB hk1 hz1 hvm ht t
      obtain ⟨rfl, hE⟩ := hw
      rw [hE] at hP
      refine fl_ti (y := nI (α.1.1 j)) (hT.1 j q1_1).1 ?_
      exact W.iret (v := nI (α.1.1 j)) hx hb hr (fun t ht hW => ⟨⟨nI (α.1.1 j), (fl_sI M 2 j (nI v)), rfl, (by have ho : o_start α x w = (nI (α.1.1 j), ((a_set α.1.1 j v, α.1.2), α.2)) := (by unfold o_start; first | (rw [q1, q2] <;> rfl) | (simp only [q1, q2])); rw [ho]; exact ⟨rfl, ⟨hT.s q2_1, hd.tb (by unfold fc_tb; omega) _ _, hr0.tb (by unfold fc_tb; omega) _ _⟩⟩), fl_qi ht hP⟩, hS.F ht⟩) hS.2.2 dX4_start_32

set_option maxHeartbeats 4000000 in
set_option maxRecDepth 100000 in
theorem c_X4_named (l : Launch) {D : va_G} {cI cJ cII : ClassId} {ad : Nat → Nat} (hJ : fl_inj 62 ad) (M : fl_M) (α : a_A) (hA : fc_A α M) (x w : Int32) : Met l yX4_named wsX4_named ({ frames := 1, cells := 0, slots := 0, locals := 23 } : Room) (fcPc D cI cJ cII ad M [.ref (ad 0), .int x, .int w]) (va_Qi (fun r M2 => r = (o_named α x w).1 ∧ fc_A (o_named α x w).2 M2) (fcQ D cI cII ad) (fl_A 62 ad)) 0 0 (fl_A 62 ad) := by
  refine Met.ofW (cc := cX4_named) (maxL := 3) (ret := (some .int)) (by decide) rfl ?_
  intro p e s m args below meth c s₁ B hml hv
  obtain ⟨rfl, hP, hK, hN⟩ := hv
  have hx := B.exec
  have hb := B.bytes
  have hr := B.returns
  have hts := atoms_spec (ws := wsX4_named) B.pre
  have hown : s.vm.findClass RX4 = some m.cls := findClass_of_methodNamed B.named
  have hlocks := B.notSynchronized
  have inX3 : ∀ w ∈ u_ws RX3 TX3 4, w ∈ wsX4_named := by decide +kernel
  have inX4 : ∀ w ∈ u_ws RX4 TX4 3, w ∈ wsX4_named := by decide +kernel
  have hS : va_S (fl_A 62 ad) s.heap s.heap [] := va_S.rf
  have hl := lv_entry ([.ref (ad 0), .int x, .int w] : List Value) (n := 3) (Nat.le_of_ble_eq_true rfl)
  rw [lg_entry_eq]
  generalize (lg_sl ([.ref (ad 0), .int x, .int w] : List Value) ++ List.replicate (3 - (lg_sl ([.ref (ad 0), .int x, .int w] : List Value)).length) Slot.unset).toArray = ls at hl ⊢
  have hl : lv_has ls 3 [(0, .ref (ad 0)), (1, .int x), (2, .int w)] := hl
  obtain ⟨hT, hd, hr0⟩ := id hA
  refine lv_iload_n hx hb dX4_named_0 rfl (lv_at hl 1 rfl) ?_
  refine va_calli (va_runS (As := [.int x]) (rest := []) ⟨hx, hb, hml, hown, hts⟩ (c_X4_isState l hJ M x) (va_cwS 1 hts gX4_named_X4_isState rfl rfl rfl (by decide +kernel) ⟨Nat.le_of_ble_eq_true rfl, Nat.le_of_ble_eq_true rfl⟩) ⟨fl_blind, fl_pre hP hK hN⟩ rfl rfl hl.1 rfl (lv_room (Nat.le_of_ble_eq_true rfl)) dX4_named_1 ⟨Nat.le_of_ble_eq_true rfl, Nat.le_of_ble_eq_true rfl⟩) hS (fun _ _ h => h) (fun _ h => h) (fun r1 M1 t H1 locs ht hvm hw hB hz1 hk1 hS => ?_)
  have hP : va_P D vwCl (fcP cI cII ad M1) H1 := by rw [← ht]; exact hB
  clear hB hk1 hz1 hvm ht t
  obtain ⟨rfl, hE⟩ := hw
  rw [hE] at hP
  rcases q1 : a_ix x 6 with _ | j
  · refine fl_ti (y := 0) (by first | rfl | (rw [q1]; rfl)) ?_
    refine lv_if_ne (tgt := 10) hx hb dX4_named_4 (by decide) (fun hz => absurd hz (by decide)) (fun _ => ?_)
    refine lv_ldc (v := -1000001) hx hb hown (hts (.constant RX4 34 (-1000001)) (by decide +kernel)) dX4_named_7 ?_
    exact W.iret (v := (-1000001)) hx hb hr (fun t ht hW => ⟨⟨(-1000001), M, rfl, (by have ho : o_named α x w = ((-1000001), α) := (by unfold o_named; first | (rw [q1] <;> rfl) | (simp only [q1])); rw [ho]; exact ⟨rfl, hA⟩), fl_qi ht hP⟩, hS.F ht⟩) hS.2.2 dX4_named_9
  · obtain ⟨q1_1, q1_2, q1_3⟩ := a_ix_some q1
    refine fl_ti (y := 1) (by first | rfl | (rw [q1]; rfl)) ?_
    refine lv_if_ne (tgt := 10) hx hb dX4_named_4 (by decide) (fun _ => ?_) (fun hz => absurd hz (by decide))
    refine lv_iload_n hx hb dX4_named_10 rfl (lv_at hl 2 rfl) ?_
    refine va_calli (va_runS (As := [.int w]) (rest := []) ⟨hx, hb, hml, hown, hts⟩ (c_X4_isName l hJ M w) (va_cwS 1 hts gX4_named_X4_isName rfl rfl rfl (by decide +kernel) ⟨Nat.le_of_ble_eq_true rfl, Nat.le_of_ble_eq_true rfl⟩) ⟨fl_blind, fl_pre hP hK hN⟩ rfl rfl hl.1 rfl (lv_room (Nat.le_of_ble_eq_true rfl)) dX4_named_11 ⟨Nat.le_of_ble_eq_true rfl, Nat.le_of_ble_eq_true rfl⟩) hS (fun _ _ h => h) (fun _ h => h) (fun r11 M11 t H1 locs ht hvm hw hB hz1 hk1 hS => ?_)
    have hP : va_P D vwCl (fcP cI cII ad M11) H1 := by rw [← ht]; exact hB
    clear hB hk1 hz1 hvm ht t
    obtain ⟨rfl, hE⟩ := hw
    rw [hE] at hP
    rcases q2 : a_ix w 4 with _ | v
    · refine fl_ti (y := 0) (by first | rfl | (rw [q2]; rfl)) ?_
      refine lv_if_ne (tgt := 20) hx hb dX4_named_14 (by decide) (fun hz => absurd hz (by decide)) (fun _ => ?_)
      refine lv_ldc (v := -1000002) hx hb hown (hts (.constant RX4 38 (-1000002)) (by decide +kernel)) dX4_named_17 ?_
      exact W.iret (v := (-1000002)) hx hb hr (fun t ht hW => ⟨⟨(-1000002), M, rfl, (by have ho : o_named α x w = ((-1000002), α) := (by unfold o_named; first | (rw [q1, q2] <;> rfl) | (simp only [q1, q2])); rw [ho]; exact ⟨rfl, hA⟩), fl_qi ht hP⟩, hS.F ht⟩) hS.2.2 dX4_named_19
    · obtain ⟨q2_1, q2_2, q2_3⟩ := a_ix_some q2
      refine fl_ti (y := 1) (by first | rfl | (rw [q2]; rfl)) ?_
      refine lv_if_ne (tgt := 20) hx hb dX4_named_14 (by decide) (fun _ => ?_) (fun hz => absurd hz (by decide))
      refine lv_aload_n hx hb dX4_named_20 rfl (lv_at hl 0 rfl) ?_
      refine va_get (D := D) (ci := 6) (v := .ref (ad 1)) (C := RX4) (T := TX4) (N := 3) hx hb hts inX4 hown hK hP 0 (fl_at (by decide) rfl) rfl 0 (by decide) (hts (.fieldLink RX4 10 "ResampledRows" "tables" "LResampledRows$Tables;") (by decide +kernel)) (fun _ h9 => h9) rfl dX4_named_21 ?_
      refine va_get (D := D) (ci := 5) (v := .ref (ad 5)) (C := RX3) (T := TX3) (N := 4) hx hb hts inX3 hown hK hP 1 (fl_at (by decide) rfl) rfl 3 (by decide) (hts (.fieldLink RX4 60 "ResampledRows$Tables" "names" "[I") (by decide +kernel)) (fun _ h9 => h9) rfl dX4_named_24 ?_
      refine lv_iload_n hx hb dX4_named_27 rfl (lv_at hl 1 rfl) ?_
      refine fl_ti (y := nI j) q1_2 ?_
      refine lv_iload_n hx hb dX4_named_28 rfl (lv_at hl 2 rfl) ?_
      refine fl_ti (y := nI v) q2_2 ?_
      refine va_calli (va_runS (As := [.ref (ad 5), .int (nI j), .int (nI v)]) (rest := []) ⟨hx, hb, hml, hown, hts⟩ (c_X4_exchange l hJ M 5 6 j (nI v) rfl (by decide) q1_1) (va_cwS 3 hts gX4_named_X4_exchange rfl rfl rfl (by decide +kernel) ⟨Nat.le_of_ble_eq_true rfl, Nat.le_of_ble_eq_true rfl⟩) ⟨fl_blind, fl_pre hP hK hN⟩ rfl rfl hl.1 rfl (lv_room (Nat.le_of_ble_eq_true rfl)) dX4_named_29 ⟨Nat.le_of_ble_eq_true rfl, Nat.le_of_ble_eq_true rfl⟩) hS (fun _ _ h => h) (fun _ h => h) (fun r29 M29 t H1 locs ht hvm hw hB hz1 hk1 hS => ?_)
      have hP : va_P D vwCl (fcP cI cII ad M29) H1 := by rw [← ht]; exact hB
      clear hB hk1 hz1 hvm ht t
      obtain ⟨rfl, hE⟩ := hw
      rw [hE] at hP
      refine fl_ti (y := nI (α.1.2.2.2 j)) (hT.2.2.2 j q1_1).1 ?_
      exact W.iret (v := nI (α.1.2.2.2 j)) hx hb hr (fun t ht hW => ⟨⟨nI (α.1.2.2.2 j), (fl_sI M 5 j (nI v)), rfl, (by have ho : o_named α x w = (nI (α.1.2.2.2 j), ((α.1.1, α.1.2.1, α.1.2.2.1, a_set α.1.2.2.2 j v), α.2)) := (by unfold o_named; first | (rw [q1, q2] <;> rfl) | (simp only [q1, q2])); rw [ho]; exact ⟨rfl, ⟨hT.nm q2_1, hd.tb (by unfold fc_tb; omega) _ _, hr0.tb (by unfold fc_tb; omega) _ _⟩⟩), fl_qi ht hP⟩, hS.F ht⟩) hS.2.2 dX4_named_32

set_option maxHeartbeats 4000000 in
set_option maxRecDepth 100000 in
theorem c_X4_move (l : Launch) {D : va_G} {cI cJ cII : ClassId} {ad : Nat → Nat} (hJ : fl_inj 62 ad) (M : fl_M) (α : a_A) (hA : fc_A α M) (x y w : Int32) : Met l yX4_move wsX4_move ({ frames := 1, cells := 0, slots := 0, locals := 23 } : Room) (fcPc D cI cJ cII ad M [.ref (ad 0), .int x, .int y, .int w]) (va_Qi (fun r M2 => r = (o_move α x y w).1 ∧ fc_A (o_move α x y w).2 M2) (fcQ D cI cII ad) (fl_A 62 ad)) 0 0 (fl_A 62 ad) := by
  refine Met.ofW (cc := cX4_move) (maxL := 4) (ret := (some .int)) (by decide) rfl ?_
  intro p e s m args below meth c s₁ B hml hv
  obtain ⟨rfl, hP, hK, hN⟩ := hv
  have hx := B.exec
  have hb := B.bytes
  have hr := B.returns
  have hts := atoms_spec (ws := wsX4_move) B.pre
  have hown : s.vm.findClass RX4 = some m.cls := findClass_of_methodNamed B.named
  have hlocks := B.notSynchronized
  have inX3 : ∀ w ∈ u_ws RX3 TX3 4, w ∈ wsX4_move := by decide +kernel
  have inX4 : ∀ w ∈ u_ws RX4 TX4 3, w ∈ wsX4_move := by decide +kernel
  have hS : va_S (fl_A 62 ad) s.heap s.heap [] := va_S.rf
  have hl := lv_entry ([.ref (ad 0), .int x, .int y, .int w] : List Value) (n := 4) (Nat.le_of_ble_eq_true rfl)
  rw [lg_entry_eq]
  generalize (lg_sl ([.ref (ad 0), .int x, .int y, .int w] : List Value) ++ List.replicate (4 - (lg_sl ([.ref (ad 0), .int x, .int y, .int w] : List Value)).length) Slot.unset).toArray = ls at hl ⊢
  have hl : lv_has ls 4 [(0, .ref (ad 0)), (1, .int x), (2, .int y), (3, .int w)] := hl
  obtain ⟨hT, hd, hr0⟩ := id hA
  refine lv_iload_n hx hb dX4_move_0 rfl (lv_at hl 1 rfl) ?_
  refine va_calli (va_runS (As := [.int x]) (rest := []) ⟨hx, hb, hml, hown, hts⟩ (c_X4_isState l hJ M x) (va_cwS 1 hts gX4_move_X4_isState rfl rfl rfl (by decide +kernel) ⟨Nat.le_of_ble_eq_true rfl, Nat.le_of_ble_eq_true rfl⟩) ⟨fl_blind, fl_pre hP hK hN⟩ rfl rfl hl.1 rfl (lv_room (Nat.le_of_ble_eq_true rfl)) dX4_move_1 ⟨Nat.le_of_ble_eq_true rfl, Nat.le_of_ble_eq_true rfl⟩) hS (fun _ _ h => h) (fun _ h => h) (fun r1 M1 t H1 locs ht hvm hw hB hz1 hk1 hS => ?_)
  have hP : va_P D vwCl (fcP cI cII ad M1) H1 := by rw [← ht]; exact hB
  clear hB hk1 hz1 hvm ht t
  obtain ⟨rfl, hE⟩ := hw
  rw [hE] at hP
  rcases q1 : a_ix x 6 with _ | i
  · refine fl_ti (y := 0) (by first | rfl | (rw [q1]; rfl)) ?_
    refine lv_if_eq (tgt := 14) hx hb dX4_move_4 (by decide) (fun _ => ?_) (fun hz => absurd (by decide) hz)
    refine lv_ldc (v := -1000001) hx hb hown (hts (.constant RX4 34 (-1000001)) (by decide +kernel)) dX4_move_14 ?_
    exact W.iret (v := (-1000001)) hx hb hr (fun t ht hW => ⟨⟨(-1000001), M, rfl, (by have ho : o_move α x y w = ((-1000001), α) := (by unfold o_move; first | (rw [q1] <;> rfl) | (simp only [q1])); rw [ho]; exact ⟨rfl, hA⟩), fl_qi ht hP⟩, hS.F ht⟩) hS.2.2 dX4_move_16
  · obtain ⟨q1_1, q1_2, q1_3⟩ := a_ix_some q1
    refine fl_ti (y := 1) (by first | rfl | (rw [q1]; rfl)) ?_
    refine lv_if_eq (tgt := 14) hx hb dX4_move_4 (by decide) (fun hz => absurd hz (by decide)) (fun _ => ?_)
    refine lv_iload_n hx hb dX4_move_7 rfl (lv_at hl 2 rfl) ?_
    refine va_calli (va_runS (As := [.int y]) (rest := []) ⟨hx, hb, hml, hown, hts⟩ (c_X4_isState l hJ M y) (va_cwS 1 hts gX4_move_X4_isState rfl rfl rfl (by decide +kernel) ⟨Nat.le_of_ble_eq_true rfl, Nat.le_of_ble_eq_true rfl⟩) ⟨fl_blind, fl_pre hP hK hN⟩ rfl rfl hl.1 rfl (lv_room (Nat.le_of_ble_eq_true rfl)) dX4_move_8 ⟨Nat.le_of_ble_eq_true rfl, Nat.le_of_ble_eq_true rfl⟩) hS (fun _ _ h => h) (fun _ h => h) (fun r8 M8 t H1 locs ht hvm hw hB hz1 hk1 hS => ?_)
    have hP : va_P D vwCl (fcP cI cII ad M8) H1 := by rw [← ht]; exact hB
    clear hB hk1 hz1 hvm ht t
    obtain ⟨rfl, hE⟩ := hw
    rw [hE] at hP
    rcases q2 : a_ix y 6 with _ | j
    · refine fl_ti (y := 0) (by first | rfl | (rw [q2]; rfl)) ?_
      refine lv_if_ne (tgt := 17) hx hb dX4_move_11 (by decide) (fun hz => absurd hz (by decide)) (fun _ => ?_)
      refine lv_ldc (v := -1000001) hx hb hown (hts (.constant RX4 34 (-1000001)) (by decide +kernel)) dX4_move_14 ?_
      exact W.iret (v := (-1000001)) hx hb hr (fun t ht hW => ⟨⟨(-1000001), M, rfl, (by have ho : o_move α x y w = ((-1000001), α) := (by unfold o_move; first | (rw [q1, q2] <;> rfl) | (simp only [q1, q2])); rw [ho]; exact ⟨rfl, hA⟩), fl_qi ht hP⟩, hS.F ht⟩) hS.2.2 dX4_move_16
    · obtain ⟨q2_1, q2_2, q2_3⟩ := a_ix_some q2
      refine fl_ti (y := 1) (by first | rfl | (rw [q2]; rfl)) ?_
      refine lv_if_ne (tgt := 17) hx hb dX4_move_11 (by decide) (fun _ => ?_) (fun hz => absurd hz (by decide))
      refine lv_iload_n hx hb dX4_move_17 rfl (lv_at hl 3 rfl) ?_
      refine va_calli (va_runS (As := [.int w]) (rest := []) ⟨hx, hb, hml, hown, hts⟩ (c_X4_isEntry l hJ M w) (va_cwS 1 hts gX4_move_X4_isEntry rfl rfl rfl (by decide +kernel) ⟨Nat.le_of_ble_eq_true rfl, Nat.le_of_ble_eq_true rfl⟩) ⟨fl_blind, fl_pre hP hK hN⟩ rfl rfl hl.1 rfl (lv_room (Nat.le_of_ble_eq_true rfl)) dX4_move_18 ⟨Nat.le_of_ble_eq_true rfl, Nat.le_of_ble_eq_true rfl⟩) hS (fun _ _ h => h) (fun _ h => h) (fun r18 M18 t H1 locs ht hvm hw hB hz1 hk1 hS => ?_)
      have hP : va_P D vwCl (fcP cI cII ad M18) H1 := by rw [← ht]; exact hB
      clear hB hk1 hz1 hvm ht t
      obtain ⟨rfl, hE⟩ := hw
      rw [hE] at hP
      rcases q3 : a_ix w 10 with _ | v
      · refine fl_ti (y := 0) (by first | rfl | (rw [q3]; rfl)) ?_
        refine lv_if_ne (tgt := 27) hx hb dX4_move_21 (by decide) (fun hz => absurd hz (by decide)) (fun _ => ?_)
        refine lv_ldc (v := -1000002) hx hb hown (hts (.constant RX4 38 (-1000002)) (by decide +kernel)) dX4_move_24 ?_
        exact W.iret (v := (-1000002)) hx hb hr (fun t ht hW => ⟨⟨(-1000002), M, rfl, (by have ho : o_move α x y w = ((-1000002), α) := (by unfold o_move; first | (rw [q1, q2, q3] <;> rfl) | (simp only [q1, q2, q3])); rw [ho]; exact ⟨rfl, hA⟩), fl_qi ht hP⟩, hS.F ht⟩) hS.2.2 dX4_move_26
      · obtain ⟨q3_1, q3_2, q3_3⟩ := a_ix_some q3
        refine fl_ti (y := 1) (by first | rfl | (rw [q3]; rfl)) ?_
        refine lv_if_ne (tgt := 27) hx hb dX4_move_21 (by decide) (fun _ => ?_) (fun hz => absurd hz (by decide))
        refine lv_aload_n hx hb dX4_move_27 rfl (lv_at hl 0 rfl) ?_
        refine va_get (D := D) (ci := 6) (v := .ref (ad 1)) (C := RX4) (T := TX4) (N := 3) hx hb hts inX4 hown hK hP 0 (fl_at (by decide) rfl) rfl 0 (by decide) (hts (.fieldLink RX4 10 "ResampledRows" "tables" "LResampledRows$Tables;") (by decide +kernel)) (fun _ h9 => h9) rfl dX4_move_28 ?_
        refine va_get (D := D) (ci := 5) (v := .ref (ad 3)) (C := RX3) (T := TX3) (N := 4) hx hb hts inX3 hown hK hP 1 (fl_at (by decide) rfl) rfl 1 (by decide) (hts (.fieldLink RX4 47 "ResampledRows$Tables" "moves" "[[I") (by decide +kernel)) (fun _ h9 => h9) rfl dX4_move_31 ?_
        refine lv_iload_n hx hb dX4_move_34 rfl (lv_at hl 1 rfl) ?_
        refine fl_ti (y := nI i) q1_2 ?_
        refine fl_ald (k := i) (f := fun j => ad (19 + j)) hx hb hK hP (fl_at (by decide) rfl) rfl rfl q1_1 (by decide) dX4_move_35 ?_
        refine lv_iload_n hx hb dX4_move_36 rfl (lv_at hl 2 rfl) ?_
        refine fl_ti (y := nI j) q2_2 ?_
        refine lv_iload_n hx hb dX4_move_37 rfl (lv_at hl 3 rfl) ?_
        refine fl_ti (y := nI v) q3_2 ?_
        refine va_calli (va_runS (As := [.ref (ad (19 + i)), .int (nI j), .int (nI v)]) (rest := []) ⟨hx, hb, hml, hown, hts⟩ (c_X4_exchange l hJ M (19 + i) 6 j (nI v) (fc_row_len (by omega) (by omega)) (by decide) q2_1) (va_cwS 3 hts gX4_move_X4_exchange rfl rfl rfl (by decide +kernel) ⟨Nat.le_of_ble_eq_true rfl, Nat.le_of_ble_eq_true rfl⟩) ⟨fl_blind, fl_pre hP hK hN⟩ rfl rfl hl.1 rfl (lv_room (Nat.le_of_ble_eq_true rfl)) dX4_move_38 ⟨Nat.le_of_ble_eq_true rfl, Nat.le_of_ble_eq_true rfl⟩) hS (fun _ _ h => h) (fun _ h => h) (fun r38 M38 t H1 locs ht hvm hw hB hz1 hk1 hS => ?_)
        have hP : va_P D vwCl (fcP cI cII ad M38) H1 := by rw [← ht]; exact hB
        clear hB hk1 hz1 hvm ht t
        obtain ⟨rfl, hE⟩ := hw
        rw [hE] at hP
        refine fl_ti (y := nI (α.1.2.1 i j)) (hT.2.1 i q1_1 j q2_1).1 ?_
        exact W.iret (v := nI (α.1.2.1 i j)) hx hb hr (fun t ht hW => ⟨⟨nI (α.1.2.1 i j), (fl_sI M (19 + i) j (nI v)), rfl, (by have ho : o_move α x y w = (nI (α.1.2.1 i j), ((α.1.1, a_set2 α.1.2.1 i j v, α.1.2.2), α.2)) := (by unfold o_move; first | (rw [q1, q2, q3] <;> rfl) | (simp only [q1, q2, q3])); rw [ho]; exact ⟨rfl, ⟨hT.mv q1_1 q3_1, hd.tb (by unfold fc_tb; omega) _ _, hr0.tb (by unfold fc_tb; omega) _ _⟩⟩), fl_qi ht hP⟩, hS.F ht⟩) hS.2.2 dX4_move_41

set_option maxHeartbeats 4000000 in
set_option maxRecDepth 100000 in
theorem c_X4_seen (l : Launch) {D : va_G} {cI cJ cII : ClassId} {ad : Nat → Nat} (hJ : fl_inj 62 ad) (M : fl_M) (α : a_A) (hA : fc_A α M) (x y w : Int32) : Met l yX4_seen wsX4_seen ({ frames := 1, cells := 0, slots := 0, locals := 23 } : Room) (fcPc D cI cJ cII ad M [.ref (ad 0), .int x, .int y, .int w]) (va_Qi (fun r M2 => r = (o_seen α x y w).1 ∧ fc_A (o_seen α x y w).2 M2) (fcQ D cI cII ad) (fl_A 62 ad)) 0 0 (fl_A 62 ad) := by
  refine Met.ofW (cc := cX4_seen) (maxL := 4) (ret := (some .int)) (by decide) rfl ?_
  intro p e s m args below meth c s₁ B hml hv
  obtain ⟨rfl, hP, hK, hN⟩ := hv
  have hx := B.exec
  have hb := B.bytes
  have hr := B.returns
  have hts := atoms_spec (ws := wsX4_seen) B.pre
  have hown : s.vm.findClass RX4 = some m.cls := findClass_of_methodNamed B.named
  have hlocks := B.notSynchronized
  have inX3 : ∀ w ∈ u_ws RX3 TX3 4, w ∈ wsX4_seen := by decide +kernel
  have inX4 : ∀ w ∈ u_ws RX4 TX4 3, w ∈ wsX4_seen := by decide +kernel
  have hS : va_S (fl_A 62 ad) s.heap s.heap [] := va_S.rf
  have hl := lv_entry ([.ref (ad 0), .int x, .int y, .int w] : List Value) (n := 4) (Nat.le_of_ble_eq_true rfl)
  rw [lg_entry_eq]
  generalize (lg_sl ([.ref (ad 0), .int x, .int y, .int w] : List Value) ++ List.replicate (4 - (lg_sl ([.ref (ad 0), .int x, .int y, .int w] : List Value)).length) Slot.unset).toArray = ls at hl ⊢
  have hl : lv_has ls 4 [(0, .ref (ad 0)), (1, .int x), (2, .int y), (3, .int w)] := hl
  obtain ⟨hT, hd, hr0⟩ := id hA
  refine lv_iload_n hx hb dX4_seen_0 rfl (lv_at hl 1 rfl) ?_
  refine va_calli (va_runS (As := [.int x]) (rest := []) ⟨hx, hb, hml, hown, hts⟩ (c_X4_isSight l hJ M x) (va_cwS 1 hts gX4_seen_X4_isSight rfl rfl rfl (by decide +kernel) ⟨Nat.le_of_ble_eq_true rfl, Nat.le_of_ble_eq_true rfl⟩) ⟨fl_blind, fl_pre hP hK hN⟩ rfl rfl hl.1 rfl (lv_room (Nat.le_of_ble_eq_true rfl)) dX4_seen_1 ⟨Nat.le_of_ble_eq_true rfl, Nat.le_of_ble_eq_true rfl⟩) hS (fun _ _ h => h) (fun _ h => h) (fun r1 M1 t H1 locs ht hvm hw hB hz1 hk1 hS => ?_)
  have hP : va_P D vwCl (fcP cI cII ad M1) H1 := by rw [← ht]; exact hB
  clear hB hk1 hz1 hvm ht t
  obtain ⟨rfl, hE⟩ := hw
  rw [hE] at hP
  rcases q1 : a_ix x 5 with _ | i
  · refine fl_ti (y := 0) (by first | rfl | (rw [q1]; rfl)) ?_
    refine lv_if_eq (tgt := 14) hx hb dX4_seen_4 (by decide) (fun _ => ?_) (fun hz => absurd (by decide) hz)
    refine lv_ldc (v := -1000001) hx hb hown (hts (.constant RX4 34 (-1000001)) (by decide +kernel)) dX4_seen_14 ?_
    exact W.iret (v := (-1000001)) hx hb hr (fun t ht hW => ⟨⟨(-1000001), M, rfl, (by have ho : o_seen α x y w = ((-1000001), α) := (by unfold o_seen; first | (rw [q1] <;> rfl) | (simp only [q1])); rw [ho]; exact ⟨rfl, hA⟩), fl_qi ht hP⟩, hS.F ht⟩) hS.2.2 dX4_seen_16
  · obtain ⟨q1_1, q1_2, q1_3⟩ := a_ix_some q1
    refine fl_ti (y := 1) (by first | rfl | (rw [q1]; rfl)) ?_
    refine lv_if_eq (tgt := 14) hx hb dX4_seen_4 (by decide) (fun hz => absurd hz (by decide)) (fun _ => ?_)
    refine lv_iload_n hx hb dX4_seen_7 rfl (lv_at hl 2 rfl) ?_
    refine va_calli (va_runS (As := [.int y]) (rest := []) ⟨hx, hb, hml, hown, hts⟩ (c_X4_isState l hJ M y) (va_cwS 1 hts gX4_seen_X4_isState rfl rfl rfl (by decide +kernel) ⟨Nat.le_of_ble_eq_true rfl, Nat.le_of_ble_eq_true rfl⟩) ⟨fl_blind, fl_pre hP hK hN⟩ rfl rfl hl.1 rfl (lv_room (Nat.le_of_ble_eq_true rfl)) dX4_seen_8 ⟨Nat.le_of_ble_eq_true rfl, Nat.le_of_ble_eq_true rfl⟩) hS (fun _ _ h => h) (fun _ h => h) (fun r8 M8 t H1 locs ht hvm hw hB hz1 hk1 hS => ?_)
    have hP : va_P D vwCl (fcP cI cII ad M8) H1 := by rw [← ht]; exact hB
    clear hB hk1 hz1 hvm ht t
    obtain ⟨rfl, hE⟩ := hw
    rw [hE] at hP
    rcases q2 : a_ix y 6 with _ | j
    · refine fl_ti (y := 0) (by first | rfl | (rw [q2]; rfl)) ?_
      refine lv_if_ne (tgt := 17) hx hb dX4_seen_11 (by decide) (fun hz => absurd hz (by decide)) (fun _ => ?_)
      refine lv_ldc (v := -1000001) hx hb hown (hts (.constant RX4 34 (-1000001)) (by decide +kernel)) dX4_seen_14 ?_
      exact W.iret (v := (-1000001)) hx hb hr (fun t ht hW => ⟨⟨(-1000001), M, rfl, (by have ho : o_seen α x y w = ((-1000001), α) := (by unfold o_seen; first | (rw [q1, q2] <;> rfl) | (simp only [q1, q2])); rw [ho]; exact ⟨rfl, hA⟩), fl_qi ht hP⟩, hS.F ht⟩) hS.2.2 dX4_seen_16
    · obtain ⟨q2_1, q2_2, q2_3⟩ := a_ix_some q2
      refine fl_ti (y := 1) (by first | rfl | (rw [q2]; rfl)) ?_
      refine lv_if_ne (tgt := 17) hx hb dX4_seen_11 (by decide) (fun _ => ?_) (fun hz => absurd hz (by decide))
      refine lv_iload_n hx hb dX4_seen_17 rfl (lv_at hl 3 rfl) ?_
      refine va_calli (va_runS (As := [.int w]) (rest := []) ⟨hx, hb, hml, hown, hts⟩ (c_X4_isEntry l hJ M w) (va_cwS 1 hts gX4_seen_X4_isEntry rfl rfl rfl (by decide +kernel) ⟨Nat.le_of_ble_eq_true rfl, Nat.le_of_ble_eq_true rfl⟩) ⟨fl_blind, fl_pre hP hK hN⟩ rfl rfl hl.1 rfl (lv_room (Nat.le_of_ble_eq_true rfl)) dX4_seen_18 ⟨Nat.le_of_ble_eq_true rfl, Nat.le_of_ble_eq_true rfl⟩) hS (fun _ _ h => h) (fun _ h => h) (fun r18 M18 t H1 locs ht hvm hw hB hz1 hk1 hS => ?_)
      have hP : va_P D vwCl (fcP cI cII ad M18) H1 := by rw [← ht]; exact hB
      clear hB hk1 hz1 hvm ht t
      obtain ⟨rfl, hE⟩ := hw
      rw [hE] at hP
      rcases q3 : a_ix w 10 with _ | v
      · refine fl_ti (y := 0) (by first | rfl | (rw [q3]; rfl)) ?_
        refine lv_if_ne (tgt := 27) hx hb dX4_seen_21 (by decide) (fun hz => absurd hz (by decide)) (fun _ => ?_)
        refine lv_ldc (v := -1000002) hx hb hown (hts (.constant RX4 38 (-1000002)) (by decide +kernel)) dX4_seen_24 ?_
        exact W.iret (v := (-1000002)) hx hb hr (fun t ht hW => ⟨⟨(-1000002), M, rfl, (by have ho : o_seen α x y w = ((-1000002), α) := (by unfold o_seen; first | (rw [q1, q2, q3] <;> rfl) | (simp only [q1, q2, q3])); rw [ho]; exact ⟨rfl, hA⟩), fl_qi ht hP⟩, hS.F ht⟩) hS.2.2 dX4_seen_26
      · obtain ⟨q3_1, q3_2, q3_3⟩ := a_ix_some q3
        refine fl_ti (y := 1) (by first | rfl | (rw [q3]; rfl)) ?_
        refine lv_if_ne (tgt := 27) hx hb dX4_seen_21 (by decide) (fun _ => ?_) (fun hz => absurd hz (by decide))
        refine lv_aload_n hx hb dX4_seen_27 rfl (lv_at hl 0 rfl) ?_
        refine va_get (D := D) (ci := 6) (v := .ref (ad 1)) (C := RX4) (T := TX4) (N := 3) hx hb hts inX4 hown hK hP 0 (fl_at (by decide) rfl) rfl 0 (by decide) (hts (.fieldLink RX4 10 "ResampledRows" "tables" "LResampledRows$Tables;") (by decide +kernel)) (fun _ h9 => h9) rfl dX4_seen_28 ?_
        refine va_get (D := D) (ci := 5) (v := .ref (ad 4)) (C := RX3) (T := TX3) (N := 4) hx hb hts inX3 hown hK hP 1 (fl_at (by decide) rfl) rfl 2 (by decide) (hts (.fieldLink RX4 54 "ResampledRows$Tables" "sights" "[[I") (by decide +kernel)) (fun _ h9 => h9) rfl dX4_seen_31 ?_
        refine lv_iload_n hx hb dX4_seen_34 rfl (lv_at hl 1 rfl) ?_
        refine fl_ti (y := nI i) q1_2 ?_
        refine fl_ald (k := i) (f := fun j => ad (25 + j)) hx hb hK hP (fl_at (by decide) rfl) rfl rfl q1_1 (by decide) dX4_seen_35 ?_
        refine lv_iload_n hx hb dX4_seen_36 rfl (lv_at hl 2 rfl) ?_
        refine fl_ti (y := nI j) q2_2 ?_
        refine lv_iload_n hx hb dX4_seen_37 rfl (lv_at hl 3 rfl) ?_
        refine fl_ti (y := nI v) q3_2 ?_
        refine va_calli (va_runS (As := [.ref (ad (25 + i)), .int (nI j), .int (nI v)]) (rest := []) ⟨hx, hb, hml, hown, hts⟩ (c_X4_exchange l hJ M (25 + i) 6 j (nI v) (fc_row_len (by omega) (by omega)) (by decide) q2_1) (va_cwS 3 hts gX4_seen_X4_exchange rfl rfl rfl (by decide +kernel) ⟨Nat.le_of_ble_eq_true rfl, Nat.le_of_ble_eq_true rfl⟩) ⟨fl_blind, fl_pre hP hK hN⟩ rfl rfl hl.1 rfl (lv_room (Nat.le_of_ble_eq_true rfl)) dX4_seen_38 ⟨Nat.le_of_ble_eq_true rfl, Nat.le_of_ble_eq_true rfl⟩) hS (fun _ _ h => h) (fun _ h => h) (fun r38 M38 t H1 locs ht hvm hw hB hz1 hk1 hS => ?_)
        have hP : va_P D vwCl (fcP cI cII ad M38) H1 := by rw [← ht]; exact hB
        clear hB hk1 hz1 hvm ht t
        obtain ⟨rfl, hE⟩ := hw
        rw [hE] at hP
        refine fl_ti (y := nI (α.1.2.2.1 i j)) (hT.2.2.1 i q1_1 j q2_1).1 ?_
        exact W.iret (v := nI (α.1.2.2.1 i j)) hx hb hr (fun t ht hW => ⟨⟨nI (α.1.2.2.1 i j), (fl_sI M (25 + i) j (nI v)), rfl, (by have ho : o_seen α x y w = (nI (α.1.2.2.1 i j), ((α.1.1, α.1.2.1, a_set2 α.1.2.2.1 i j v, α.1.2.2.2), α.2)) := (by unfold o_seen; first | (rw [q1, q2, q3] <;> rfl) | (simp only [q1, q2, q3])); rw [ho]; exact ⟨rfl, ⟨hT.sn q1_1 q3_1, hd.tb (by unfold fc_tb; omega) _ _, hr0.tb (by unfold fc_tb; omega) _ _⟩⟩), fl_qi ht hP⟩, hS.F ht⟩) hS.2.2 dX4_seen_41

set_option maxHeartbeats 4000000 in
set_option maxRecDepth 100000 in
theorem c_X4_force (l : Launch) {D : va_G} {cI cJ cII : ClassId} {ad : Nat → Nat} (hJ : fl_inj 62 ad) (M : fl_M) (α : a_A) (hA : fc_A α M) (x : Int32) : Met l yX4_force wsX4_force ({ frames := 1, cells := 0, slots := 0, locals := 21 } : Room) (fcPc D cI cJ cII ad M [.ref (ad 0), .int x]) (va_Qi (fun r M2 => r = (o_force α x).1 ∧ fc_A (o_force α x).2 M2) (fcQ D cI cII ad) (fl_A 62 ad)) 0 0 (fl_A 62 ad) := by
  refine Met.ofW (cc := cX4_force) (maxL := 2) (ret := (some .int)) (by decide) rfl ?_
  intro p e s m args below meth c s₁ B hml hv
  obtain ⟨rfl, hP, hK, hN⟩ := hv
  have hx := B.exec
  have hb := B.bytes
  have hr := B.returns
  have hts := atoms_spec (ws := wsX4_force) B.pre
  have hown : s.vm.findClass RX4 = some m.cls := findClass_of_methodNamed B.named
  have hlocks := B.notSynchronized
  have inX0 : ∀ w ∈ u_ws RX0 TX0 4, w ∈ wsX4_force := by decide +kernel
  have inX4 : ∀ w ∈ u_ws RX4 TX4 3, w ∈ wsX4_force := by decide +kernel
  have hS : va_S (fl_A 62 ad) s.heap s.heap [] := va_S.rf
  have hl := lv_entry ([.ref (ad 0), .int x] : List Value) (n := 2) (Nat.le_of_ble_eq_true rfl)
  rw [lg_entry_eq]
  generalize (lg_sl ([.ref (ad 0), .int x] : List Value) ++ List.replicate (2 - (lg_sl ([.ref (ad 0), .int x] : List Value)).length) Slot.unset).toArray = ls at hl ⊢
  have hl : lv_has ls 2 [(0, .ref (ad 0)), (1, .int x)] := hl
  obtain ⟨hT, hd, hr0⟩ := id hA
  have hlen : M.1 6 2 = nI α.2.1.1.length ∧ α.2.1.1.length ≤ 64 := by
    obtain ⟨f0, h1, h2, h3, h4, -⟩ := id hd
    exact ⟨h3, h4⟩
  refine lv_iload_n hx hb dX4_force_0 rfl (lv_at hl 1 rfl) ?_
  refine lv_if_lt (tgt := 16) hx hb dX4_force_1 (by decide) (fun hc1 => ?_) (fun hc1 => ?_)
  · have hq : a_ix x 2147483648 = none := a_ix_neg hc1
    refine lv_ldc (v := -1000002) hx hb hown (hts (.constant RX4 38 (-1000002)) (by decide +kernel)) dX4_force_16 ?_
    exact W.iret (v := (-1000002)) hx hb hr (fun t ht hW => ⟨⟨(-1000002), M, rfl, (by have ho : o_force α x = (-1000002, α) := (by unfold o_force; rw [hq]; skip); rw [ho]; exact ⟨rfl, hA⟩), fl_qi ht hP⟩, hS.F ht⟩) hS.2.2 dX4_force_18
  · have hq := a_ix_big hc1
    obtain ⟨hx1, hx2⟩ := fl_nat hc1
    refine lv_aload_n hx hb dX4_force_4 rfl (lv_at hl 0 rfl) ?_
    refine va_get (D := D) (ci := 6) (v := .ref (ad 6)) (C := RX4) (T := TX4) (N := 3) hx hb hts inX4 hown hK hP 0 (fl_at (by decide) rfl) rfl 1 (by decide) (hts (.fieldLink RX4 19 "ResampledRows" "draws" "LResampledRows$Draws;") (by decide +kernel)) (fun _ h9 => h9) rfl dX4_force_5 ?_
    refine va_get (D := D) (ci := 2) (v := .int (M.1 6 2)) (C := RX0) (T := TX0) (N := 4) hx hb hts inX0 hown hK hP 6 (fl_at (by decide) rfl) rfl 2 (by decide) (hts (.fieldLink RX4 63 "ResampledRows$Draws" "left" "I") (by decide +kernel)) (fun _ h9 => h9) rfl dX4_force_8 ?_
    refine fl_ti (y := nI α.2.1.1.length) hlen.1 ?_
    refine lv_bipush (v := 64) hx hb dX4_force_11 (by decide) ?_
    refine lv_icmp_lt (tgt := 19) hx hb dX4_force_13 (by decide) (fun hc13 => ?_) (fun hc13 => ?_)
    · have hl6 : α.2.1.1.length < 64 := (nI_ltI (b := 64) (by omega) (by decide)).mp hc13
      refine lv_aload_n hx hb dX4_force_19 rfl (lv_at hl 0 rfl) ?_
      refine va_get (D := D) (ci := 6) (v := .ref (ad 6)) (C := RX4) (T := TX4) (N := 3) hx hb hts inX4 hown hK hP 0 (fl_at (by decide) rfl) rfl 1 (by decide) (hts (.fieldLink RX4 19 "ResampledRows" "draws" "LResampledRows$Draws;") (by decide +kernel)) (fun _ h9 => h9) rfl dX4_force_20 ?_
      refine lv_iload_n hx hb dX4_force_23 rfl (lv_at hl 1 rfl) ?_
      refine fl_ti (y := nI x.toNatClampNeg) hx1 ?_
      refine va_callv (va_runV (As := [.int (nI x.toNatClampNeg)]) (rest := []) ⟨hx, hb, hml, hown, hts⟩ (c_X0_addForced l hJ M α.2.1 x.toNatClampNeg hx2 hd hl6) (cwV 1 hts gX4_force_X0_addForced rfl rfl rfl (by decide +kernel) ⟨Nat.le_of_ble_eq_true rfl, Nat.le_of_ble_eq_true rfl⟩) ⟨fl_blind, va_recv hK hP (ci := 2) (q0 := 6) rfl (fl_at (by decide) rfl), fl_pre hP hK hN⟩ rfl rfl hl.1 rfl (lv_room (Nat.le_of_ble_eq_true rfl)) dX4_force_24 ⟨Nat.le_of_ble_eq_true rfl, Nat.le_of_ble_eq_true rfl⟩) hS (fun _ _ h => h) (fun _ h => h) (fun M24 t H1 locs ht hvm hw hB hz1 hk1 hS => ?_)
      have hP : va_P D vwCl (fcP cI cII ad M24) H1 := by rw [← ht]; exact hB
      clear hB hk1 hz1 hvm ht t
      obtain ⟨hD2, he2⟩ := hw
      have hl24 : M24.1 6 2 = nI (α.2.1.1.length + 1) := by
        obtain ⟨f0, h1, h2, h3, h4, -⟩ := id hD2
        rw [h3]
        simp
      refine lv_aload_n hx hb dX4_force_27 rfl (lv_at hl 0 rfl) ?_
      refine va_get (D := D) (ci := 6) (v := .ref (ad 6)) (C := RX4) (T := TX4) (N := 3) hx hb hts inX4 hown hK hP 0 (fl_at (by decide) rfl) rfl 1 (by decide) (hts (.fieldLink RX4 19 "ResampledRows" "draws" "LResampledRows$Draws;") (by decide +kernel)) (fun _ h9 => h9) rfl dX4_force_28 ?_
      refine va_get (D := D) (ci := 2) (v := .int (M24.1 6 2)) (C := RX0) (T := TX0) (N := 4) hx hb hts inX0 hown hK hP 6 (fl_at (by decide) rfl) rfl 2 (by decide) (hts (.fieldLink RX4 63 "ResampledRows$Draws" "left" "I") (by decide +kernel)) (fun _ h9 => h9) rfl dX4_force_31 ?_
      refine fl_ti (y := nI (α.2.1.1.length + 1)) hl24 ?_
      exact W.iret (v := nI (α.2.1.1.length + 1)) hx hb hr (fun t ht hW => ⟨⟨nI (α.2.1.1.length + 1), M24, rfl, (by have ho : o_force α x = (nI (α.2.1.1.length + 1), (α.1, (α.2.1.1 ++ [x.toNatClampNeg], α.2.1.2), α.2.2)) := (by unfold o_force; rw [hq]; exact if_pos hl6); rw [ho]; exact ⟨rfl, hT.eq he2 (fun c hc => by omega), hD2, hr0.eq he2 (fun c hc => by omega)⟩), fl_qi ht hP⟩, hS.F ht⟩) hS.2.2 dX4_force_34
    · have hl6 : ¬ α.2.1.1.length < 64 := fun z => hc13 ((nI_ltI (b := 64) (by omega) (by decide)).mpr z)
      refine lv_ldc (v := -1000002) hx hb hown (hts (.constant RX4 38 (-1000002)) (by decide +kernel)) dX4_force_16 ?_
      exact W.iret (v := (-1000002)) hx hb hr (fun t ht hW => ⟨⟨(-1000002), M, rfl, (by have ho : o_force α x = (-1000002, α) := (by unfold o_force; rw [hq]; exact if_neg hl6); rw [ho]; exact ⟨rfl, hA⟩), fl_qi ht hP⟩, hS.F ht⟩) hS.2.2 dX4_force_18

set_option maxHeartbeats 4000000 in
set_option maxRecDepth 100000 in
theorem c_X4_begin (l : Launch) {D : va_G} {cI cJ cII : ClassId} {ad : Nat → Nat} (hJ : fl_inj 62 ad) (M : fl_M) (α : a_A) (hA : fc_A α M) (x : Int32) (sd : Int64) : Met l yX4_begin wsX4_begin ({ frames := 4, cells := 0, slots := 0, locals := 92 } : Room) (fcPc D cI cJ cII ad M [.ref (ad 0), .int x, .long sd]) (va_Qi (fun r M2 => r = (o_begin α x sd).1 ∧ fc_A (o_begin α x sd).2 M2) (fcQ D cI cII ad) (fl_A 62 ad)) 0 0 (fl_A 62 ad) := by
  refine Met.ofW (cc := cX4_begin) (maxL := 4) (ret := (some .int)) (by decide) rfl ?_
  intro p e s m args below meth c s₁ B hml hv
  obtain ⟨rfl, hP, hK, hN⟩ := hv
  have hx := B.exec
  have hb := B.bytes
  have hr := B.returns
  have hts := atoms_spec (ws := wsX4_begin) B.pre
  have hown : s.vm.findClass RX4 = some m.cls := findClass_of_methodNamed B.named
  have hlocks := B.notSynchronized
  have inX0 : ∀ w ∈ u_ws RX0 TX0 4, w ∈ wsX4_begin := by decide +kernel
  have inX3 : ∀ w ∈ u_ws RX3 TX3 4, w ∈ wsX4_begin := by decide +kernel
  have inX4 : ∀ w ∈ u_ws RX4 TX4 3, w ∈ wsX4_begin := by decide +kernel
  have hS : va_S (fl_A 62 ad) s.heap s.heap [] := va_S.rf
  have hl := lv_entry ([.ref (ad 0), .int x, .long sd] : List Value) (n := 4) (Nat.le_of_ble_eq_true rfl)
  rw [lg_entry_eq]
  generalize (lg_sl ([.ref (ad 0), .int x, .long sd] : List Value) ++ List.replicate (4 - (lg_sl ([.ref (ad 0), .int x, .long sd] : List Value)).length) Slot.unset).toArray = ls at hl ⊢
  have hl : lv_has ls 4 [(0, .ref (ad 0)), (1, .int x), (2, .long sd)] := hl
  obtain ⟨hT, hd, hr0⟩ := id hA
  refine lv_iload_n hx hb dX4_begin_0 rfl (lv_at hl 1 rfl) ?_
  refine lv_if_ge (tgt := 7) hx hb dX4_begin_1 (by decide) (fun hc1 => ?_) (fun hc1 => ?_)
  · have hx0 : ¬ x < 0 := Int32.not_lt.mpr hc1
    refine lv_iload_n hx hb dX4_begin_7 rfl (lv_at hl 1 rfl) ?_
    refine lv_if_eq (tgt := 17) hx hb dX4_begin_8 (by decide) (fun hc8 => ?_) (fun hc8 => ?_)
    · have ho := o_begin_out (α := α) (sd := sd) hx0 (Or.inl hc8)
      refine lv_ldc (v := -1000002) hx hb hown (hts (.constant RX4 38 (-1000002)) (by decide +kernel)) dX4_begin_17 ?_
      exact W.iret (v := (-1000002)) hx hb hr (fun t ht hW => ⟨⟨(-1000002), M, rfl, (by rw [ho]; exact ⟨rfl, hA⟩), fl_qi ht hP⟩, hS.F ht⟩) hS.2.2 dX4_begin_19
    · refine lv_iload_n hx hb dX4_begin_11 rfl (lv_at hl 1 rfl) ?_
      refine lv_bipush (v := 16) hx hb dX4_begin_12 (by decide) ?_
      refine lv_icmp_le (tgt := 20) hx hb dX4_begin_14 (by decide) (fun hc14 => ?_) (fun hc14 => ?_)
      · obtain ⟨k, hk1, hk2, hk3⟩ := a_ix_pos (n := 16) (by decide) hx0 hc8 hc14
        refine lv_aload_n hx hb dX4_begin_20 rfl (lv_at hl 0 rfl) ?_
        refine va_get (D := D) (ci := 6) (v := .ref (ad 6)) (C := RX4) (T := TX4) (N := 3) hx hb hts inX4 hown hK hP 0 (fl_at (by decide) rfl) rfl 1 (by decide) (hts (.fieldLink RX4 19 "ResampledRows" "draws" "LResampledRows$Draws;") (by decide +kernel)) (fun _ h9 => h9) rfl dX4_begin_21 ?_
        refine lv_lload_n hx hb dX4_begin_24 rfl (lv_at hl 2 rfl) ?_
        refine fl_put (ci := 2) (ty := .long) (v := .long sd) (C := RX0) (T := TX0) (Nf := 4) hx hb hts inX0 tyX0 tyX0_ok nmX0 hown hK hJ hP hS 6 (by decide) (fl_sJ M 6 3 sd) rfl rfl 3 (by decide) (hts (.fieldLink RX4 72 "ResampledRows$Draws" "x" "J") (by decide +kernel)) (fun _ h9 => h9) rfl (by decide +kernel) rfl rfl (Nat.le_of_ble_eq_true rfl) rfl (fl_sJ_o (fc_loc cI cII ad) _ _ _ _) dX4_begin_25 (fun H locs hP hS => ?_)
        refine lv_aload_n hx hb dX4_begin_28 rfl (lv_at hl 0 rfl) ?_
        refine va_get (D := D) (ci := 6) (v := .ref (ad 8)) (C := RX4) (T := TX4) (N := 3) hx hb hts inX4 hown hK hP 0 (fl_at (by decide) rfl) rfl 2 (by decide) (hts (.fieldLink RX4 26 "ResampledRows" "run" "LResampledRows$Run;") (by decide +kernel)) (fun _ h9 => h9) rfl dX4_begin_29 ?_
        refine lv_iload_n hx hb dX4_begin_32 rfl (lv_at hl 1 rfl) ?_
        refine fl_ti (y := nI (k + 1)) hk2 ?_
        refine lv_aload_n hx hb dX4_begin_33 rfl (lv_at hl 0 rfl) ?_
        refine va_get (D := D) (ci := 6) (v := .ref (ad 1)) (C := RX4) (T := TX4) (N := 3) hx hb hts inX4 hown hK hP 0 (fl_at (by decide) rfl) rfl 0 (by decide) (hts (.fieldLink RX4 10 "ResampledRows" "tables" "LResampledRows$Tables;") (by decide +kernel)) (fun _ h9 => h9) rfl dX4_begin_34 ?_
        refine va_get (D := D) (ci := 5) (v := .ref (ad 2)) (C := RX3) (T := TX3) (N := 4) hx hb hts inX3 hown hK hP 1 (fl_at (by decide) rfl) rfl 0 (by decide) (hts (.fieldLink RX4 39 "ResampledRows$Tables" "starts" "[I") (by decide +kernel)) (fun _ h9 => h9) rfl dX4_begin_37 ?_
        refine lv_aload_n hx hb dX4_begin_40 rfl (lv_at hl 0 rfl) ?_
        refine va_get (D := D) (ci := 6) (v := .ref (ad 6)) (C := RX4) (T := TX4) (N := 3) hx hb hts inX4 hown hK hP 0 (fl_at (by decide) rfl) rfl 1 (by decide) (hts (.fieldLink RX4 19 "ResampledRows" "draws" "LResampledRows$Draws;") (by decide +kernel)) (fun _ h9 => h9) rfl dX4_begin_41 ?_
        refine va_calli (va_runV (As := [.int (nI (k + 1)), .ref (ad 2), .ref (ad 6)]) (rest := []) ⟨hx, hb, hml, hown, hts⟩ (c_X2_beginWith l hJ (fl_sJ M 6 3 sd) (α.2.1.1, sd) (k + 1) α.1.1 (by omega) hk1 (hd.x sd) hT.1 hr0.2.2.2.2.2.1) (cwV 3 hts gX4_begin_X2_beginWith rfl rfl rfl (by decide +kernel) ⟨Nat.le_of_ble_eq_true rfl, Nat.le_of_ble_eq_true rfl⟩) ⟨fl_blind, va_recv hK hP (ci := 4) (q0 := 8) rfl (fl_at (by decide) rfl), fl_pre hP hK hN⟩ rfl rfl hl.1 rfl (lv_room (Nat.le_of_ble_eq_true rfl)) dX4_begin_44 ⟨Nat.le_of_ble_eq_true rfl, Nat.le_of_ble_eq_true rfl⟩) hS (fun _ _ h => h) (fun _ h => h) (fun r44 M44 t H1 locs ht hvm hw hB hz1 hk1 hS => ?_)
        have hP : va_P D vwCl (fcP cI cII ad M44) H1 := by rw [← ht]; exact hB
        clear hB hk1 hz1 hvm ht t
        rcases hw with ⟨h0, rfl, hD2, hR2, he2⟩ | ⟨h0, rfl, hD2, hR2, he2⟩
        · have ho : o_begin α x sd = (-1000004, (α.1, (α.2.1.1, sd), a_r0)) := by
            unfold o_begin
            rw [if_neg hx0, hk3]
            exact if_pos h0
          exact W.iret (v := (-1000004)) hx hb hr (fun t ht hW => ⟨⟨(-1000004), M44, rfl, (by rw [ho]; exact ⟨rfl, hT.eq (P := fc_tb) ((fl_eq.rf.sJ (by unfold fc_tb; omega) _ _).tr (he2.mono (fun c hc => by unfold fc_tb at hc; unfold fc_PB; omega))) (fun c hc => hc), hD2, hR2⟩), fl_qi ht hP⟩, hS.F ht⟩) hS.2.2 dX4_begin_47
        · have ho : o_begin α x sd = (nI (k + 1), (α.1, a_dl (fun _ => α.1.1) (α.2.1.1, sd) (k + 1), a_rB (k + 1) (a_st (fun _ => α.1.1) (α.2.1.1, sd)))) := by
            unfold o_begin
            rw [if_neg hx0, hk3]
            exact if_neg h0
          exact W.iret (v := nI (k + 1)) hx hb hr (fun t ht hW => ⟨⟨nI (k + 1), M44, rfl, (by rw [ho]; exact ⟨rfl, hT.eq (P := fc_tb) ((fl_eq.rf.sJ (by unfold fc_tb; omega) _ _).tr (he2.mono (fun c hc => by unfold fc_tb at hc; unfold fc_PB; omega))) (fun c hc => hc), hD2, hR2⟩), fl_qi ht hP⟩, hS.F ht⟩) hS.2.2 dX4_begin_47
      · have ho := o_begin_out (α := α) (sd := sd) hx0 (Or.inr hc14)
        refine lv_ldc (v := -1000002) hx hb hown (hts (.constant RX4 38 (-1000002)) (by decide +kernel)) dX4_begin_17 ?_
        exact W.iret (v := (-1000002)) hx hb hr (fun t ht hW => ⟨⟨(-1000002), M, rfl, (by rw [ho]; exact ⟨rfl, hA⟩), fl_qi ht hP⟩, hS.F ht⟩) hS.2.2 dX4_begin_19
  · have hx0 : x < 0 := Int32.not_le.mp hc1
    refine lv_ldc (v := -1000010) hx hb hown (hts (.constant RX4 71 (-1000010)) (by decide +kernel)) dX4_begin_4 ?_
    exact W.iret (v := (-1000010)) hx hb hr (fun t ht hW => ⟨⟨(-1000010), M, rfl, (by have ho : o_begin α x sd = ((-1000010), α) := (by unfold o_begin; first | (rw [if_pos hx0] <;> rfl) | (simp only [if_pos hx0])); rw [ho]; exact ⟨rfl, hA⟩), fl_qi ht hP⟩, hS.F ht⟩) hS.2.2 dX4_begin_6

set_option maxHeartbeats 4000000 in
set_option maxRecDepth 100000 in
theorem c_X4_keep (l : Launch) {D : va_G} {cI cJ cII : ClassId} {ad : Nat → Nat} (hJ : fl_inj 62 ad) (M : fl_M) (α : a_A) (hA : fc_A α M) (x : Int32) : Met l yX4_keep wsX4_keep ({ frames := 1, cells := 0, slots := 0, locals := 21 } : Room) (fcPc D cI cJ cII ad M [.ref (ad 0), .int x]) (va_Qi (fun r M2 => r = (o_keep α x).1 ∧ fc_A (o_keep α x).2 M2) (fcQ D cI cII ad) (fl_A 62 ad)) 0 0 (fl_A 62 ad) := by
  refine Met.ofW (cc := cX4_keep) (maxL := 3) (ret := (some .int)) (by decide) rfl ?_
  intro p e s m args below meth c s₁ B hml hv
  obtain ⟨rfl, hP, hK, hN⟩ := hv
  have hx := B.exec
  have hb := B.bytes
  have hr := B.returns
  have hts := atoms_spec (ws := wsX4_keep) B.pre
  have hown : s.vm.findClass RX4 = some m.cls := findClass_of_methodNamed B.named
  have hlocks := B.notSynchronized
  have inX2 : ∀ w ∈ u_ws RX2 TX2 13, w ∈ wsX4_keep := by decide +kernel
  have inX4 : ∀ w ∈ u_ws RX4 TX4 3, w ∈ wsX4_keep := by decide +kernel
  have hS : va_S (fl_A 62 ad) s.heap s.heap [] := va_S.rf
  have hl := lv_entry ([.ref (ad 0), .int x] : List Value) (n := 3) (Nat.le_of_ble_eq_true rfl)
  rw [lg_entry_eq]
  generalize (lg_sl ([.ref (ad 0), .int x] : List Value) ++ List.replicate (3 - (lg_sl ([.ref (ad 0), .int x] : List Value)).length) Slot.unset).toArray = ls at hl ⊢
  have hl : lv_has ls 3 [(0, .ref (ad 0)), (1, .int x)] := hl
  obtain ⟨hT, hd, hr0⟩ := id hA
  refine lv_aload_n hx hb dX4_keep_0 rfl (lv_at hl 0 rfl) ?_
  refine va_get (D := D) (ci := 6) (v := .ref (ad 8)) (C := RX4) (T := TX4) (N := 3) hx hb hts inX4 hown hK hP 0 (fl_at (by decide) rfl) rfl 2 (by decide) (hts (.fieldLink RX4 26 "ResampledRows" "run" "LResampledRows$Run;") (by decide +kernel)) (fun _ h9 => h9) rfl dX4_keep_1 ?_
  refine va_calli (va_runV (As := []) (rest := []) ⟨hx, hb, hml, hown, hts⟩ (c_X2_isBegun l hJ M (r_n α.2.2) hr0.1.1 hr0.1.2) (cwV 0 hts gX4_keep_X2_isBegun rfl rfl rfl (by decide +kernel) ⟨Nat.le_of_ble_eq_true rfl, Nat.le_of_ble_eq_true rfl⟩) ⟨fl_blind, va_recv hK hP (ci := 4) (q0 := 8) rfl (fl_at (by decide) rfl), fl_pre hP hK hN⟩ rfl rfl hl.1 rfl (lv_room (Nat.le_of_ble_eq_true rfl)) dX4_keep_4 ⟨Nat.le_of_ble_eq_true rfl, Nat.le_of_ble_eq_true rfl⟩) hS (fun _ _ h => h) (fun _ h => h) (fun r4 M4 t H1 locs ht hvm hw hB hz1 hk1 hS => ?_)
  have hP : va_P D vwCl (fcP cI cII ad M4) H1 := by rw [← ht]; exact hB
  clear hB hk1 hz1 hvm ht t
  obtain ⟨rfl, hE⟩ := hw
  rw [hE] at hP
  by_cases hn0 : r_n α.2.2 = 0
  · refine fl_ti (y := 0) (if_pos hn0) ?_
    refine lv_if_ne (tgt := 13) hx hb dX4_keep_7 (by decide) (fun hz => absurd hz (by decide)) (fun _ => ?_)
    refine lv_ldc (v := -1000003) hx hb hown (hts (.constant RX4 84 (-1000003)) (by decide +kernel)) dX4_keep_10 ?_
    exact W.iret (v := (-1000003)) hx hb hr (fun t ht hW => ⟨⟨(-1000003), M, rfl, (by have ho : o_keep α x = ((-1000003), α) := (by unfold o_keep; first | (rw [if_pos hn0] <;> rfl) | (simp only [if_pos hn0])); rw [ho]; exact ⟨rfl, hA⟩), fl_qi ht hP⟩, hS.F ht⟩) hS.2.2 dX4_keep_12
  · refine fl_ti (y := 1) (if_neg hn0) ?_
    refine lv_if_ne (tgt := 13) hx hb dX4_keep_7 (by decide) (fun _ => ?_) (fun hz => absurd hz (by decide))
    refine lv_iload_n hx hb dX4_keep_13 rfl (lv_at hl 1 rfl) ?_
    refine lv_ldc (v := -1000009) hx hb hown (hts (.constant RX4 85 (-1000009)) (by decide +kernel)) dX4_keep_14 ?_
    refine lv_icmp_eq (tgt := 33) hx hb dX4_keep_16 (by decide) (fun hc16 => ?_) (fun hc16 => ?_)
    · refine lv_aload_n hx hb dX4_keep_33 rfl (lv_at hl 0 rfl) ?_
      refine va_get (D := D) (ci := 6) (v := .ref (ad 8)) (C := RX4) (T := TX4) (N := 3) hx hb hts inX4 hown hK hP 0 (fl_at (by decide) rfl) rfl 2 (by decide) (hts (.fieldLink RX4 26 "ResampledRows" "run" "LResampledRows$Run;") (by decide +kernel)) (fun _ h9 => h9) rfl dX4_keep_34 ?_
      refine va_get (D := D) (ci := 4) (v := .int (M.1 8 5)) (C := RX2) (T := TX2) (N := 13) hx hb hts inX2 hown hK hP 8 (fl_at (by decide) rfl) rfl 5 (by decide) (hts (.fieldLink RX4 89 "ResampledRows$Run" "kept" "I") (by decide +kernel)) (fun _ h9 => h9) rfl dX4_keep_37 ?_
      refine fl_ti (y := a_oI (r_kp α.2.2) (-1000009)) hr0.2.2.2.1.1 ?_
      refine lv_istore_n (lv' := [(2, .int (a_oI (r_kp α.2.2) (-1000009))), (0, .ref (ad 0)), (1, .int x)]) hx hb dX4_keep_40 rfl hl (by decide) rfl (fun ls hl => ?_)
      refine lv_aload_n hx hb dX4_keep_41 rfl (lv_at hl 1 rfl) ?_
      refine va_get (D := D) (ci := 6) (v := .ref (ad 8)) (C := RX4) (T := TX4) (N := 3) hx hb hts inX4 hown hK hP 0 (fl_at (by decide) rfl) rfl 2 (by decide) (hts (.fieldLink RX4 26 "ResampledRows" "run" "LResampledRows$Run;") (by decide +kernel)) (fun _ h9 => h9) rfl dX4_keep_42 ?_
      refine lv_iload_n hx hb dX4_keep_45 rfl (lv_at hl 2 rfl) ?_
      refine fl_put (ci := 4) (ty := .int) (v := .int x) (C := RX2) (T := TX2) (Nf := 13) hx hb hts inX2 tyX2 tyX2_ok nmX2 hown hK hJ hP hS 8 (by decide) (fl_sI M 8 5 x) rfl rfl 5 (by decide) (hts (.fieldLink RX4 89 "ResampledRows$Run" "kept" "I") (by decide +kernel)) (fun _ h9 => h9) rfl (by decide +kernel) rfl rfl (Nat.le_of_ble_eq_true rfl) rfl (fl_sI_o (fc_loc cI cII ad) _ _ _ _) dX4_keep_46 (fun H locs hP hS => ?_)
      refine lv_iload_n hx hb dX4_keep_49 rfl (lv_at hl 0 rfl) ?_
      exact W.iret (v := a_oI (r_kp α.2.2) (-1000009)) hx hb hr (fun t ht hW => ⟨⟨a_oI (r_kp α.2.2) (-1000009), (fl_sI M 8 5 x), rfl, (by have ho : o_keep α x = (a_oI (r_kp α.2.2) (-1000009), (α.1, α.2.1, a_wk α.2.2 none)) := (by unfold o_keep; first | (rw [if_neg hn0, if_pos hc16] <;> rfl) | (simp only [if_neg hn0, if_pos hc16])); rw [ho]; exact ⟨rfl, ⟨hT.eq (P := fc_tb) (fl_eq.rf.sI (by unfold fc_tb; omega) _ _) (fun c hc => hc), hd.eq (P := fun c => c = 6 ∨ c = 7) (fl_eq.rf.sI (by decide) _ _) (Or.inl rfl) (Or.inr rfl), hr0.kp hc16 (fun k2 hk2 => by cases hk2)⟩⟩), fl_qi ht hP⟩, hS.F ht⟩) hS.2.2 dX4_keep_50
    · refine lv_aload_n hx hb dX4_keep_19 rfl (lv_at hl 0 rfl) ?_
      refine va_get (D := D) (ci := 6) (v := .ref (ad 8)) (C := RX4) (T := TX4) (N := 3) hx hb hts inX4 hown hK hP 0 (fl_at (by decide) rfl) rfl 2 (by decide) (hts (.fieldLink RX4 26 "ResampledRows" "run" "LResampledRows$Run;") (by decide +kernel)) (fun _ h9 => h9) rfl dX4_keep_20 ?_
      refine lv_iload_n hx hb dX4_keep_23 rfl (lv_at hl 1 rfl) ?_
      refine va_calli (va_runV (As := [.int x]) (rest := []) ⟨hx, hb, hml, hown, hts⟩ (c_X2_hasRow l hJ M (r_n α.2.2) x hr0.1.1 hr0.1.2) (cwV 1 hts gX4_keep_X2_hasRow rfl rfl rfl (by decide +kernel) ⟨Nat.le_of_ble_eq_true rfl, Nat.le_of_ble_eq_true rfl⟩) ⟨fl_blind, va_recv hK hP (ci := 4) (q0 := 8) rfl (fl_at (by decide) rfl), fl_pre hP hK hN⟩ rfl rfl hl.1 rfl (lv_room (Nat.le_of_ble_eq_true rfl)) dX4_keep_24 ⟨Nat.le_of_ble_eq_true rfl, Nat.le_of_ble_eq_true rfl⟩) hS (fun _ _ h => h) (fun _ h => h) (fun r24 M24 t H1 locs ht hvm hw hB hz1 hk1 hS => ?_)
      have hP : va_P D vwCl (fcP cI cII ad M24) H1 := by rw [← ht]; exact hB
      clear hB hk1 hz1 hvm ht t
      obtain ⟨rfl, hE⟩ := hw
      rw [hE] at hP
      rcases q1 : a_ix x (r_n α.2.2) with _ | k
      · refine fl_ti (y := 0) (by first | rfl | (rw [q1]; rfl)) ?_
        refine lv_if_ne (tgt := 33) hx hb dX4_keep_27 (by decide) (fun hz => absurd hz (by decide)) (fun _ => ?_)
        refine lv_ldc (v := -1000001) hx hb hown (hts (.constant RX4 34 (-1000001)) (by decide +kernel)) dX4_keep_30 ?_
        exact W.iret (v := (-1000001)) hx hb hr (fun t ht hW => ⟨⟨(-1000001), M, rfl, (by have ho : o_keep α x = ((-1000001), α) := (by unfold o_keep; first | (rw [if_neg hn0, if_neg hc16, q1] <;> rfl) | (simp only [if_neg hn0, if_neg hc16, q1])); rw [ho]; exact ⟨rfl, hA⟩), fl_qi ht hP⟩, hS.F ht⟩) hS.2.2 dX4_keep_32
      · obtain ⟨q1_1, q1_2, q1_3⟩ := a_ix_some q1
        refine fl_ti (y := 1) (by first | rfl | (rw [q1]; rfl)) ?_
        refine lv_if_ne (tgt := 33) hx hb dX4_keep_27 (by decide) (fun _ => ?_) (fun hz => absurd hz (by decide))
        refine lv_aload_n hx hb dX4_keep_33 rfl (lv_at hl 0 rfl) ?_
        refine va_get (D := D) (ci := 6) (v := .ref (ad 8)) (C := RX4) (T := TX4) (N := 3) hx hb hts inX4 hown hK hP 0 (fl_at (by decide) rfl) rfl 2 (by decide) (hts (.fieldLink RX4 26 "ResampledRows" "run" "LResampledRows$Run;") (by decide +kernel)) (fun _ h9 => h9) rfl dX4_keep_34 ?_
        refine va_get (D := D) (ci := 4) (v := .int (M.1 8 5)) (C := RX2) (T := TX2) (N := 13) hx hb hts inX2 hown hK hP 8 (fl_at (by decide) rfl) rfl 5 (by decide) (hts (.fieldLink RX4 89 "ResampledRows$Run" "kept" "I") (by decide +kernel)) (fun _ h9 => h9) rfl dX4_keep_37 ?_
        refine fl_ti (y := a_oI (r_kp α.2.2) (-1000009)) hr0.2.2.2.1.1 ?_
        refine lv_istore_n (lv' := [(2, .int (a_oI (r_kp α.2.2) (-1000009))), (0, .ref (ad 0)), (1, .int x)]) hx hb dX4_keep_40 rfl hl (by decide) rfl (fun ls hl => ?_)
        refine lv_aload_n hx hb dX4_keep_41 rfl (lv_at hl 1 rfl) ?_
        refine va_get (D := D) (ci := 6) (v := .ref (ad 8)) (C := RX4) (T := TX4) (N := 3) hx hb hts inX4 hown hK hP 0 (fl_at (by decide) rfl) rfl 2 (by decide) (hts (.fieldLink RX4 26 "ResampledRows" "run" "LResampledRows$Run;") (by decide +kernel)) (fun _ h9 => h9) rfl dX4_keep_42 ?_
        refine lv_iload_n hx hb dX4_keep_45 rfl (lv_at hl 2 rfl) ?_
        refine fl_put (ci := 4) (ty := .int) (v := .int x) (C := RX2) (T := TX2) (Nf := 13) hx hb hts inX2 tyX2 tyX2_ok nmX2 hown hK hJ hP hS 8 (by decide) (fl_sI M 8 5 x) rfl rfl 5 (by decide) (hts (.fieldLink RX4 89 "ResampledRows$Run" "kept" "I") (by decide +kernel)) (fun _ h9 => h9) rfl (by decide +kernel) rfl rfl (Nat.le_of_ble_eq_true rfl) rfl (fl_sI_o (fc_loc cI cII ad) _ _ _ _) dX4_keep_46 (fun H locs hP hS => ?_)
        refine lv_iload_n hx hb dX4_keep_49 rfl (lv_at hl 0 rfl) ?_
        exact W.iret (v := a_oI (r_kp α.2.2) (-1000009)) hx hb hr (fun t ht hW => ⟨⟨a_oI (r_kp α.2.2) (-1000009), (fl_sI M 8 5 x), rfl, (by have ho : o_keep α x = (a_oI (r_kp α.2.2) (-1000009), (α.1, α.2.1, a_wk α.2.2 (some k))) := (by unfold o_keep; first | (rw [if_neg hn0, if_neg hc16, q1] <;> rfl) | (simp only [if_neg hn0, if_neg hc16, q1])); rw [ho]; exact ⟨rfl, ⟨hT.eq (P := fc_tb) (fl_eq.rf.sI (by unfold fc_tb; omega) _ _) (fun c hc => hc), hd.eq (P := fun c => c = 6 ∨ c = 7) (fl_eq.rf.sI (by decide) _ _) (Or.inl rfl) (Or.inr rfl), hr0.kp q1_2 (fun k2 hk2 => by cases hk2; exact q1_1)⟩⟩), fl_qi ht hP⟩, hS.F ht⟩) hS.2.2 dX4_keep_50

set_option maxHeartbeats 4000000 in
set_option maxRecDepth 100000 in
theorem c_X4_step (l : Launch) {D : va_G} {cI cJ cII : ClassId} {ad : Nat → Nat} (hJ : fl_inj 62 ad) (M : fl_M) (α : a_A) (hA : fc_A α M) (x y : Int32) : Met l yX4_step wsX4_step ({ frames := 4, cells := 0, slots := 0, locals := 92 } : Room) (fcPc D cI cJ cII ad M [.ref (ad 0), .int x, .int y]) (va_Qi (fun r M2 => r = (o_step α x y).1 ∧ fc_A (o_step α x y).2 M2) (fcQ D cI cII ad) (fl_A 62 ad)) 0 0 (fl_A 62 ad) := by
  refine Met.ofW (cc := cX4_step) (maxL := 3) (ret := (some .int)) (by decide) rfl ?_
  intro p e s m args below meth c s₁ B hml hv
  obtain ⟨rfl, hP, hK, hN⟩ := hv
  have hx := B.exec
  have hb := B.bytes
  have hr := B.returns
  have hts := atoms_spec (ws := wsX4_step) B.pre
  have hown : s.vm.findClass RX4 = some m.cls := findClass_of_methodNamed B.named
  have hlocks := B.notSynchronized
  have inX2 : ∀ w ∈ u_ws RX2 TX2 13, w ∈ wsX4_step := by decide +kernel
  have inX3 : ∀ w ∈ u_ws RX3 TX3 4, w ∈ wsX4_step := by decide +kernel
  have inX4 : ∀ w ∈ u_ws RX4 TX4 3, w ∈ wsX4_step := by decide +kernel
  have hS : va_S (fl_A 62 ad) s.heap s.heap [] := va_S.rf
  have hl := lv_entry ([.ref (ad 0), .int x, .int y] : List Value) (n := 3) (Nat.le_of_ble_eq_true rfl)
  rw [lg_entry_eq]
  generalize (lg_sl ([.ref (ad 0), .int x, .int y] : List Value) ++ List.replicate (3 - (lg_sl ([.ref (ad 0), .int x, .int y] : List Value)).length) Slot.unset).toArray = ls at hl ⊢
  have hl : lv_has ls 3 [(0, .ref (ad 0)), (1, .int x), (2, .int y)] := hl
  obtain ⟨hT, hd, hr0⟩ := id hA
  refine lv_aload_n hx hb dX4_step_0 rfl (lv_at hl 0 rfl) ?_
  refine va_get (D := D) (ci := 6) (v := .ref (ad 8)) (C := RX4) (T := TX4) (N := 3) hx hb hts inX4 hown hK hP 0 (fl_at (by decide) rfl) rfl 2 (by decide) (hts (.fieldLink RX4 26 "ResampledRows" "run" "LResampledRows$Run;") (by decide +kernel)) (fun _ h9 => h9) rfl dX4_step_1 ?_
  refine va_calli (va_runV (As := []) (rest := []) ⟨hx, hb, hml, hown, hts⟩ (c_X2_isBegun l hJ M (r_n α.2.2) hr0.1.1 hr0.1.2) (cwV 0 hts gX4_step_X2_isBegun rfl rfl rfl (by decide +kernel) ⟨Nat.le_of_ble_eq_true rfl, Nat.le_of_ble_eq_true rfl⟩) ⟨fl_blind, va_recv hK hP (ci := 4) (q0 := 8) rfl (fl_at (by decide) rfl), fl_pre hP hK hN⟩ rfl rfl hl.1 rfl (lv_room (Nat.le_of_ble_eq_true rfl)) dX4_step_4 ⟨Nat.le_of_ble_eq_true rfl, Nat.le_of_ble_eq_true rfl⟩) hS (fun _ _ h => h) (fun _ h => h) (fun r4 M4 t H1 locs ht hvm hw hB hz1 hk1 hS => ?_)
  have hP : va_P D vwCl (fcP cI cII ad M4) H1 := by rw [← ht]; exact hB
  clear hB hk1 hz1 hvm ht t
  obtain ⟨rfl, hE⟩ := hw
  rw [hE] at hP
  by_cases hn0 : r_n α.2.2 = 0
  · refine fl_ti (y := 0) (if_pos hn0) ?_
    refine lv_if_ne (tgt := 13) hx hb dX4_step_7 (by decide) (fun hz => absurd hz (by decide)) (fun _ => ?_)
    refine lv_ldc (v := -1000003) hx hb hown (hts (.constant RX4 84 (-1000003)) (by decide +kernel)) dX4_step_10 ?_
    exact W.iret (v := (-1000003)) hx hb hr (fun t ht hW => ⟨⟨(-1000003), M, rfl, (by have ho : o_step α x y = ((-1000003), α) := (by unfold o_step; first | (rw [if_pos hn0] <;> rfl) | (simp only [if_pos hn0])); rw [ho]; exact ⟨rfl, hA⟩), fl_qi ht hP⟩, hS.F ht⟩) hS.2.2 dX4_step_12
  · refine fl_ti (y := 1) (if_neg hn0) ?_
    refine lv_if_ne (tgt := 13) hx hb dX4_step_7 (by decide) (fun _ => ?_) (fun hz => absurd hz (by decide))
    refine lv_iload_n hx hb dX4_step_13 rfl (lv_at hl 1 rfl) ?_
    refine va_calli (va_runS (As := [.int x]) (rest := []) ⟨hx, hb, hml, hown, hts⟩ (c_X4_isSight l hJ M x) (va_cwS 1 hts gX4_step_X4_isSight rfl rfl rfl (by decide +kernel) ⟨Nat.le_of_ble_eq_true rfl, Nat.le_of_ble_eq_true rfl⟩) ⟨fl_blind, fl_pre hP hK hN⟩ rfl rfl hl.1 rfl (lv_room (Nat.le_of_ble_eq_true rfl)) dX4_step_14 ⟨Nat.le_of_ble_eq_true rfl, Nat.le_of_ble_eq_true rfl⟩) hS (fun _ _ h => h) (fun _ h => h) (fun r14 M14 t H1 locs ht hvm hw hB hz1 hk1 hS => ?_)
    have hP : va_P D vwCl (fcP cI cII ad M14) H1 := by rw [← ht]; exact hB
    clear hB hk1 hz1 hvm ht t
    obtain ⟨rfl, hE⟩ := hw
    rw [hE] at hP
    rcases q1 : a_ix x 5 with _ | g
    · refine fl_ti (y := 0) (by first | rfl | (rw [q1]; rfl)) ?_
      refine lv_if_ne (tgt := 23) hx hb dX4_step_17 (by decide) (fun hz => absurd hz (by decide)) (fun _ => ?_)
      refine lv_ldc (v := -1000001) hx hb hown (hts (.constant RX4 34 (-1000001)) (by decide +kernel)) dX4_step_20 ?_
      exact W.iret (v := (-1000001)) hx hb hr (fun t ht hW => ⟨⟨(-1000001), M, rfl, (by have ho : o_step α x y = ((-1000001), α) := (by unfold o_step; first | (rw [if_neg hn0, q1] <;> rfl) | (simp only [if_neg hn0, q1])); rw [ho]; exact ⟨rfl, hA⟩), fl_qi ht hP⟩, hS.F ht⟩) hS.2.2 dX4_step_22
    · obtain ⟨q1_1, q1_2, q1_3⟩ := a_ix_some q1
      refine fl_ti (y := 1) (by first | rfl | (rw [q1]; rfl)) ?_
      refine lv_if_ne (tgt := 23) hx hb dX4_step_17 (by decide) (fun _ => ?_) (fun hz => absurd hz (by decide))
      refine lv_iload_n hx hb dX4_step_23 rfl (lv_at hl 2 rfl) ?_
      refine va_calli (va_runS (As := [.int y]) (rest := []) ⟨hx, hb, hml, hown, hts⟩ (c_X4_isName l hJ M y) (va_cwS 1 hts gX4_step_X4_isName rfl rfl rfl (by decide +kernel) ⟨Nat.le_of_ble_eq_true rfl, Nat.le_of_ble_eq_true rfl⟩) ⟨fl_blind, fl_pre hP hK hN⟩ rfl rfl hl.1 rfl (lv_room (Nat.le_of_ble_eq_true rfl)) dX4_step_24 ⟨Nat.le_of_ble_eq_true rfl, Nat.le_of_ble_eq_true rfl⟩) hS (fun _ _ h => h) (fun _ h => h) (fun r24 M24 t H1 locs ht hvm hw hB hz1 hk1 hS => ?_)
      have hP : va_P D vwCl (fcP cI cII ad M24) H1 := by rw [← ht]; exact hB
      clear hB hk1 hz1 hvm ht t
      obtain ⟨rfl, hE⟩ := hw
      rw [hE] at hP
      rcases q2 : a_ix y 4 with _ | b
      · refine fl_ti (y := 0) (by first | rfl | (rw [q2]; rfl)) ?_
        refine lv_if_ne (tgt := 33) hx hb dX4_step_27 (by decide) (fun hz => absurd hz (by decide)) (fun _ => ?_)
        refine lv_ldc (v := -1000002) hx hb hown (hts (.constant RX4 38 (-1000002)) (by decide +kernel)) dX4_step_30 ?_
        exact W.iret (v := (-1000002)) hx hb hr (fun t ht hW => ⟨⟨(-1000002), M, rfl, (by have ho : o_step α x y = ((-1000002), α) := (by unfold o_step; first | (rw [if_neg hn0, q1, q2] <;> rfl) | (simp only [if_neg hn0, q1, q2])); rw [ho]; exact ⟨rfl, hA⟩), fl_qi ht hP⟩, hS.F ht⟩) hS.2.2 dX4_step_32
      · obtain ⟨q2_1, q2_2, q2_3⟩ := a_ix_some q2
        refine fl_ti (y := 1) (by first | rfl | (rw [q2]; rfl)) ?_
        refine lv_if_ne (tgt := 33) hx hb dX4_step_27 (by decide) (fun _ => ?_) (fun hz => absurd hz (by decide))
        refine lv_aload_n hx hb dX4_step_33 rfl (lv_at hl 0 rfl) ?_
        refine va_get (D := D) (ci := 6) (v := .ref (ad 8)) (C := RX4) (T := TX4) (N := 3) hx hb hts inX4 hown hK hP 0 (fl_at (by decide) rfl) rfl 2 (by decide) (hts (.fieldLink RX4 26 "ResampledRows" "run" "LResampledRows$Run;") (by decide +kernel)) (fun _ h9 => h9) rfl dX4_step_34 ?_
        refine va_get (D := D) (ci := 4) (v := .int (M.1 8 3)) (C := RX2) (T := TX2) (N := 13) hx hb hts inX2 hown hK hP 8 (fl_at (by decide) rfl) rfl 3 (by decide) (hts (.fieldLink RX4 92 "ResampledRows$Run" "steps" "I") (by decide +kernel)) (fun _ h9 => h9) rfl dX4_step_37 ?_
        refine fl_ti (y := nI (r_sp α.2.2)) hr0.2.1.2 ?_
        refine lv_bipush (v := 30) hx hb dX4_step_40 (by decide) ?_
        refine lv_icmp_ge (tgt := 63) hx hb dX4_step_42 (by decide) (fun hc42 => ?_) (fun hc42 => ?_)
        · have hs30 : ¬ r_sp α.2.2 < 30 := Nat.not_lt.mpr ((nI_leI (a := 30) (by decide) (by have := hr0.2.1.1; omega)).mp hc42)
          refine lv_ldc (v := -1000003) hx hb hown (hts (.constant RX4 84 (-1000003)) (by decide +kernel)) dX4_step_63 ?_
          exact W.iret (v := (-1000003)) hx hb hr (fun t ht hW => ⟨⟨(-1000003), M, rfl, (by have ho : o_step α x y = ((-1000003), α) := (by unfold o_step; first | (rw [if_neg hn0, q1, q2, if_neg hs30] <;> rfl) | (simp only [if_neg hn0, q1, q2, if_neg hs30])); rw [ho]; exact ⟨rfl, hA⟩), fl_qi ht hP⟩, hS.F ht⟩) hS.2.2 dX4_step_65
        · have hs30 : r_sp α.2.2 < 30 := Nat.lt_of_not_le (fun z => hc42 ((nI_leI (a := 30) (by decide) (by have := hr0.2.1.1; omega)).mpr z))
          refine lv_aload_n hx hb dX4_step_45 rfl (lv_at hl 0 rfl) ?_
          refine va_get (D := D) (ci := 6) (v := .ref (ad 8)) (C := RX4) (T := TX4) (N := 3) hx hb hts inX4 hown hK hP 0 (fl_at (by decide) rfl) rfl 2 (by decide) (hts (.fieldLink RX4 26 "ResampledRows" "run" "LResampledRows$Run;") (by decide +kernel)) (fun _ h9 => h9) rfl dX4_step_46 ?_
          refine lv_iload_n hx hb dX4_step_49 rfl (lv_at hl 2 rfl) ?_
          refine fl_ti (y := nI b) q2_2 ?_
          refine lv_aload_n hx hb dX4_step_50 rfl (lv_at hl 0 rfl) ?_
          refine va_get (D := D) (ci := 6) (v := .ref (ad 1)) (C := RX4) (T := TX4) (N := 3) hx hb hts inX4 hown hK hP 0 (fl_at (by decide) rfl) rfl 0 (by decide) (hts (.fieldLink RX4 10 "ResampledRows" "tables" "LResampledRows$Tables;") (by decide +kernel)) (fun _ h9 => h9) rfl dX4_step_51 ?_
          refine va_get (D := D) (ci := 5) (v := .ref (ad 5)) (C := RX3) (T := TX3) (N := 4) hx hb hts inX3 hown hK hP 1 (fl_at (by decide) rfl) rfl 3 (by decide) (hts (.fieldLink RX4 60 "ResampledRows$Tables" "names" "[I") (by decide +kernel)) (fun _ h9 => h9) rfl dX4_step_54 ?_
          refine va_calli (va_runV (As := [.int (nI b), .ref (ad 5)]) (rest := []) ⟨hx, hb, hml, hown, hts⟩ (c_X2_standsAt l hJ M (r_n α.2.2) b (r_st α.2.2) α.1.2.2.2 hr0.1.1 hr0.1.2 q2_3 hr0.2.2.2.2.2.1.l7 hr0.2.2.2.2.2.2.1 hT.2.2.2) (cwV 2 hts gX4_step_X2_standsAt rfl rfl rfl (by decide +kernel) ⟨Nat.le_of_ble_eq_true rfl, Nat.le_of_ble_eq_true rfl⟩) ⟨fl_blind, va_recv hK hP (ci := 4) (q0 := 8) rfl (fl_at (by decide) rfl), fl_pre hP hK hN⟩ rfl rfl hl.1 rfl (lv_room (Nat.le_of_ble_eq_true rfl)) dX4_step_57 ⟨Nat.le_of_ble_eq_true rfl, Nat.le_of_ble_eq_true rfl⟩) hS (fun _ _ h => h) (fun _ h => h) (fun r57 M57 t H1 locs ht hvm hw hB hz1 hk1 hS => ?_)
          have hP : va_P D vwCl (fcP cI cII ad M57) H1 := by rw [← ht]; exact hB
          clear hB hk1 hz1 hvm ht t
          obtain ⟨rfl, hE⟩ := hw
          rw [hE] at hP
          by_cases hall : a_all (fun k => α.1.2.2.2 (r_st α.2.2 k) == b) (r_n α.2.2) = true
          · refine fl_ti (y := 1) (if_pos hall) ?_
            refine lv_if_ne (tgt := 66) hx hb dX4_step_60 (by decide) (fun _ => ?_) (fun hz => absurd hz (by decide))
            refine lv_aload_n hx hb dX4_step_66 rfl (lv_at hl 0 rfl) ?_
            refine va_get (D := D) (ci := 6) (v := .ref (ad 8)) (C := RX4) (T := TX4) (N := 3) hx hb hts inX4 hown hK hP 0 (fl_at (by decide) rfl) rfl 2 (by decide) (hts (.fieldLink RX4 26 "ResampledRows" "run" "LResampledRows$Run;") (by decide +kernel)) (fun _ h9 => h9) rfl dX4_step_67 ?_
            refine lv_aload_n hx hb dX4_step_70 rfl (lv_at hl 0 rfl) ?_
            refine va_get (D := D) (ci := 6) (v := .ref (ad 1)) (C := RX4) (T := TX4) (N := 3) hx hb hts inX4 hown hK hP 0 (fl_at (by decide) rfl) rfl 0 (by decide) (hts (.fieldLink RX4 10 "ResampledRows" "tables" "LResampledRows$Tables;") (by decide +kernel)) (fun _ h9 => h9) rfl dX4_step_71 ?_
            refine va_get (D := D) (ci := 5) (v := .ref (ad 3)) (C := RX3) (T := TX3) (N := 4) hx hb hts inX3 hown hK hP 1 (fl_at (by decide) rfl) rfl 1 (by decide) (hts (.fieldLink RX4 47 "ResampledRows$Tables" "moves" "[[I") (by decide +kernel)) (fun _ h9 => h9) rfl dX4_step_74 ?_
            refine lv_aload_n hx hb dX4_step_77 rfl (lv_at hl 0 rfl) ?_
            refine va_get (D := D) (ci := 6) (v := .ref (ad 1)) (C := RX4) (T := TX4) (N := 3) hx hb hts inX4 hown hK hP 0 (fl_at (by decide) rfl) rfl 0 (by decide) (hts (.fieldLink RX4 10 "ResampledRows" "tables" "LResampledRows$Tables;") (by decide +kernel)) (fun _ h9 => h9) rfl dX4_step_78 ?_
            refine va_get (D := D) (ci := 5) (v := .ref (ad 4)) (C := RX3) (T := TX3) (N := 4) hx hb hts inX3 hown hK hP 1 (fl_at (by decide) rfl) rfl 2 (by decide) (hts (.fieldLink RX4 54 "ResampledRows$Tables" "sights" "[[I") (by decide +kernel)) (fun _ h9 => h9) rfl dX4_step_81 ?_
            refine lv_iload_n hx hb dX4_step_84 rfl (lv_at hl 1 rfl) ?_
            refine fl_ti (y := nI g) q1_2 ?_
            refine fl_ald (k := g) (f := fun j => ad (25 + j)) hx hb hK hP (fl_at (by decide) rfl) rfl rfl q1_1 (by decide) dX4_step_85 ?_
            refine lv_aload_n hx hb dX4_step_86 rfl (lv_at hl 0 rfl) ?_
            refine va_get (D := D) (ci := 6) (v := .ref (ad 6)) (C := RX4) (T := TX4) (N := 3) hx hb hts inX4 hown hK hP 0 (fl_at (by decide) rfl) rfl 1 (by decide) (hts (.fieldLink RX4 19 "ResampledRows" "draws" "LResampledRows$Draws;") (by decide +kernel)) (fun _ h9 => h9) rfl dX4_step_87 ?_
            refine va_calli (va_runV (As := [.ref (ad 3), .ref (ad (25 + g)), .ref (ad 6)]) (rest := []) ⟨hx, hb, hml, hown, hts⟩ (c_X2_goOn l hJ M α.2.1 α.2.2 α.1.2.1 (α.1.2.2.1 g) g q1_1 hr0 hs30 hd hT.2.1 (hT.2.2.1 g q1_1)) (cwV 3 hts gX4_step_X2_goOn rfl rfl rfl (by decide +kernel) ⟨Nat.le_of_ble_eq_true rfl, Nat.le_of_ble_eq_true rfl⟩) ⟨fl_blind, va_recv hK hP (ci := 4) (q0 := 8) rfl (fl_at (by decide) rfl), fl_pre hP hK hN⟩ rfl rfl hl.1 rfl (lv_room (Nat.le_of_ble_eq_true rfl)) dX4_step_90 ⟨Nat.le_of_ble_eq_true rfl, Nat.le_of_ble_eq_true rfl⟩) hS (fun _ _ h => h) (fun _ h => h) (fun r90 M90 t H1 locs ht hvm hw hB hz1 hk1 hS => ?_)
            have hP : va_P D vwCl (fcP cI cII ad M90) H1 := by rw [← ht]; exact hB
            clear hB hk1 hz1 hvm ht t
            obtain ⟨rfl, hD2, hR2, he2⟩ := hw
            exact W.iret (v := (a_go α.1.2.1 (α.1.2.2.1 g) α.2.1 α.2.2).1) hx hb hr (fun t ht hW => ⟨⟨(a_go α.1.2.1 (α.1.2.2.1 g) α.2.1 α.2.2).1, M90, rfl, (by have ho : o_step α x y = ((a_go α.1.2.1 (α.1.2.2.1 g) α.2.1 α.2.2).1, (α.1, (a_go α.1.2.1 (α.1.2.2.1 g) α.2.1 α.2.2).2.1, (a_go α.1.2.1 (α.1.2.2.1 g) α.2.1 α.2.2).2.2)) := (by unfold o_step; first | (rw [if_neg hn0, q1, q2, if_pos hs30, if_pos hall] <;> rfl) | (simp only [if_neg hn0, q1, q2, if_pos hs30, if_pos hall])); rw [ho]; exact ⟨rfl, ⟨hT.eq he2 (fun c hc => by unfold fc_PB; omega), hD2, hR2⟩⟩), fl_qi ht hP⟩, hS.F ht⟩) hS.2.2 dX4_step_93
          · refine fl_ti (y := 0) (if_neg hall) ?_
            refine lv_if_ne (tgt := 66) hx hb dX4_step_60 (by decide) (fun hz => absurd hz (by decide)) (fun _ => ?_)
            refine lv_ldc (v := -1000003) hx hb hown (hts (.constant RX4 84 (-1000003)) (by decide +kernel)) dX4_step_63 ?_
            exact W.iret (v := (-1000003)) hx hb hr (fun t ht hW => ⟨⟨(-1000003), M, rfl, (by have ho : o_step α x y = ((-1000003), α) := (by unfold o_step; first | (rw [if_neg hn0, q1, q2, if_pos hs30, if_neg hall] <;> rfl) | (simp only [if_neg hn0, q1, q2, if_pos hs30, if_neg hall])); rw [ho]; exact ⟨rfl, hA⟩), fl_qi ht hP⟩, hS.F ht⟩) hS.2.2 dX4_step_65

set_option maxHeartbeats 4000000 in
set_option maxRecDepth 100000 in
theorem c_X4_again (l : Launch) {D : va_G} {cI cJ cII : ClassId} {ad : Nat → Nat} (hJ : fl_inj 62 ad) (M : fl_M) (α : a_A) (hA : fc_A α M) (han : r_an α.2.2 + 1 < 2 ^ 30) (x : Int32) : MetD lw_cs l yX4_again wsX4_again ({ frames := 6, cells := 0, slots := 0, locals := 140 } : Room) (fcPc D cI cJ cII ad M [.ref (ad 0), .int x]) (va_Qi (fun r M2 => r = (o_again α x).1 ∧ fc_A (o_again α x).2 M2) (fcQ D cI cII ad) (fl_A 62 ad)) 0 0 (fl_A 62 ad) := by
  refine MetD.ofW (cc := cX4_again) (maxL := 2) (ret := (some .int)) (by decide) rfl ?_
  intro p e s m args below meth c s₁ B hml hv hd0
  obtain ⟨rfl, hP, hK, hN⟩ := hv
  have hx := B.exec
  have hb := B.bytes
  have hr := B.returns
  have hts0 := atoms_spec (ws := wsX4_again) B.pre
  have hts := dr_words hts0 s.drawn
  have hown : s.vm.findClass RX4 = some m.cls := findClass_of_methodNamed B.named
  have hlocks := B.notSynchronized
  have inX4 : ∀ w ∈ u_ws RX4 TX4 3, w ∈ wsX4_again := by decide +kernel
  have hS : va_S (fl_A 62 ad) s.heap s.heap [] := va_S.rf
  have hl := lv_entry ([.ref (ad 0), .int x] : List Value) (n := 2) (Nat.le_of_ble_eq_true rfl)
  rw [lg_entry_eq]
  generalize (lg_sl ([.ref (ad 0), .int x] : List Value) ++ List.replicate (2 - (lg_sl ([.ref (ad 0), .int x] : List Value)).length) Slot.unset).toArray = ls at hl ⊢
  have hl : lv_has ls 2 [(0, .ref (ad 0)), (1, .int x)] := hl
  have hd0 := hd0
  obtain ⟨hT, hd, hr0⟩ := id hA
  refine lv_aload_n hx hb dX4_again_0 rfl (lv_at hl 0 rfl) ?_
  refine va_get (D := D) (ci := 6) (v := .ref (ad 8)) (C := RX4) (T := TX4) (N := 3) hx hb hts inX4 hown hK hP 0 (fl_at (by decide) rfl) rfl 2 (by decide) (hts (.fieldLink RX4 26 "ResampledRows" "run" "LResampledRows$Run;") (by decide +kernel)) (fun _ h9 => h9) rfl dX4_again_1 ?_
  refine va_calli (va_runV (As := []) (rest := []) ⟨hx, hb, hml, hown, hts⟩ (c_X2_isBegun l hJ M (r_n α.2.2) hr0.1.1 hr0.1.2) (cwV 0 hts gX4_again_X2_isBegun rfl rfl rfl (by decide +kernel) ⟨Nat.le_of_ble_eq_true rfl, Nat.le_of_ble_eq_true rfl⟩) ⟨fl_blind, va_recv hK hP (ci := 4) (q0 := 8) rfl (fl_at (by decide) rfl), fl_pre hP hK hN⟩ rfl rfl hl.1 rfl (lv_room (Nat.le_of_ble_eq_true rfl)) dX4_again_4 ⟨Nat.le_of_ble_eq_true rfl, Nat.le_of_ble_eq_true rfl⟩) hS (fun _ _ h => h) (fun _ h => h) (fun r4 M4 t H1 locs ht hvm hw hB hz1 hk1 hS => ?_)
  have hP : va_P D vwCl (fcP cI cII ad M4) H1 := by rw [← ht]; exact hB
  clear hB hk1 hz1 hvm ht t
  obtain ⟨rfl, hE⟩ := hw
  rw [hE] at hP
  by_cases hn0 : r_n α.2.2 = 0
  · refine fl_ti (y := 0) (if_pos hn0) ?_
    refine lv_if_ne (tgt := 13) hx hb dX4_again_7 (by decide) (fun hz => absurd hz (by decide)) (fun _ => ?_)
    refine lv_ldc (v := -1000003) hx hb hown (hts (.constant RX4 84 (-1000003)) (by decide +kernel)) dX4_again_10 ?_
    refine W.endD hd0 ?_
    exact W.iret (v := (-1000003)) hx hb hr (fun t ht hW => ⟨⟨(-1000003), M, rfl, (by have ho : o_again α x = ((-1000003), α) := (by unfold o_again; first | (rw [if_pos hn0] <;> rfl) | (simp only [if_pos hn0])); rw [ho]; exact ⟨rfl, hA⟩), fl_qi ht hP⟩, hS.F ht⟩) hS.2.2 dX4_again_12
  · refine fl_ti (y := 1) (if_neg hn0) ?_
    refine lv_if_ne (tgt := 13) hx hb dX4_again_7 (by decide) (fun _ => ?_) (fun hz => absurd hz (by decide))
    refine lv_iload_n hx hb dX4_again_13 rfl (lv_at hl 1 rfl) ?_
    refine va_calli (va_runS (As := [.int x]) (rest := []) ⟨hx, hb, hml, hown, hts⟩ (c_X4_isWay l hJ M x) (va_cwS 1 hts gX4_again_X4_isWay rfl rfl rfl (by decide +kernel) ⟨Nat.le_of_ble_eq_true rfl, Nat.le_of_ble_eq_true rfl⟩) ⟨fl_blind, fl_pre hP hK hN⟩ rfl rfl hl.1 rfl (lv_room (Nat.le_of_ble_eq_true rfl)) dX4_again_14 ⟨Nat.le_of_ble_eq_true rfl, Nat.le_of_ble_eq_true rfl⟩) hS (fun _ _ h => h) (fun _ h => h) (fun r14 M14 t H1 locs ht hvm hw hB hz1 hk1 hS => ?_)
    have hP : va_P D vwCl (fcP cI cII ad M14) H1 := by rw [← ht]; exact hB
    clear hB hk1 hz1 hvm ht t
    obtain ⟨rfl, hE⟩ := hw
    rw [hE] at hP
    rcases q1 : a_ix x 4 with _ | wy
    · refine fl_ti (y := 0) (by first | rfl | (rw [q1]; rfl)) ?_
      refine lv_if_ne (tgt := 23) hx hb dX4_again_17 (by decide) (fun hz => absurd hz (by decide)) (fun _ => ?_)
      refine lv_ldc (v := -1000002) hx hb hown (hts (.constant RX4 38 (-1000002)) (by decide +kernel)) dX4_again_20 ?_
      refine W.endD hd0 ?_
      exact W.iret (v := (-1000002)) hx hb hr (fun t ht hW => ⟨⟨(-1000002), M, rfl, (by have ho : o_again α x = ((-1000002), α) := (by unfold o_again; first | (rw [if_neg hn0, q1] <;> rfl) | (simp only [if_neg hn0, q1])); rw [ho]; exact ⟨rfl, hA⟩), fl_qi ht hP⟩, hS.F ht⟩) hS.2.2 dX4_again_22
    · obtain ⟨q1_1, q1_2, q1_3⟩ := a_ix_some q1
      refine fl_ti (y := 1) (by first | rfl | (rw [q1]; rfl)) ?_
      refine lv_if_ne (tgt := 23) hx hb dX4_again_17 (by decide) (fun _ => ?_) (fun hz => absurd hz (by decide))
      refine lv_aload_n hx hb dX4_again_23 rfl (lv_at hl 0 rfl) ?_
      refine va_get (D := D) (ci := 6) (v := .ref (ad 8)) (C := RX4) (T := TX4) (N := 3) hx hb hts inX4 hown hK hP 0 (fl_at (by decide) rfl) rfl 2 (by decide) (hts (.fieldLink RX4 26 "ResampledRows" "run" "LResampledRows$Run;") (by decide +kernel)) (fun _ h9 => h9) rfl dX4_again_24 ?_
      refine lv_iload_n hx hb dX4_again_27 rfl (lv_at hl 1 rfl) ?_
      refine fl_ti (y := nI wy) q1_2 ?_
      refine lv_aload_n hx hb dX4_again_28 rfl (lv_at hl 0 rfl) ?_
      refine va_get (D := D) (ci := 6) (v := .ref (ad 6)) (C := RX4) (T := TX4) (N := 3) hx hb hts inX4 hown hK hP 0 (fl_at (by decide) rfl) rfl 1 (by decide) (hts (.fieldLink RX4 19 "ResampledRows" "draws" "LResampledRows$Draws;") (by decide +kernel)) (fun _ h9 => h9) rfl dX4_again_29 ?_
      refine va_calliD hd0 (va_runV_D (As := [.int (nI wy), .ref (ad 6)]) (rest := []) ⟨hx, hb, hml, hown, hts⟩ (c_X2_drawAnew l hJ M α.2.1 α.2.2 wy q1_1 hr0 (by omega) han hd) (cwV 2 hts gX4_again_X2_drawAnew rfl rfl rfl (by decide +kernel) ⟨Nat.le_of_ble_eq_true rfl, Nat.le_of_ble_eq_true rfl⟩) ⟨fl_blind, va_recv hK hP (ci := 4) (q0 := 8) rfl (fl_at (by decide) rfl), fl_pre hP hK hN⟩ rfl rfl hl.1 rfl (lv_room (Nat.le_of_ble_eq_true rfl)) dX4_again_32 ⟨Nat.le_of_ble_eq_true rfl, Nat.le_of_ble_eq_true rfl⟩) hS (fun _ _ h => h) (fun _ h => h) (fun r32 M32 t H1 locs ht hvm hw hB hz1 hk1 hS d32 hd32 => ?_)
      have hP : va_P D vwCl (fcP cI cII ad M32) H1 := by rw [← ht]; exact hB
      clear hB hk1 hz1 hvm ht t
      have hd0 := hd32
      have hts := dr_words hts0 d32
      obtain ⟨rfl, hD2, hR2, he2⟩ := hw
      refine W.endD hd0 ?_
      exact W.iret (v := (a_anew wy α.2.1 α.2.2).1) hx hb hr (fun t ht hW => ⟨⟨(a_anew wy α.2.1 α.2.2).1, M32, rfl, (by have ho : o_again α x = ((a_anew wy α.2.1 α.2.2).1, (α.1, (a_anew wy α.2.1 α.2.2).2.1, (a_anew wy α.2.1 α.2.2).2.2)) := (by unfold o_again; first | (rw [if_neg hn0, q1] <;> rfl) | (simp only [if_neg hn0, q1])); rw [ho]; exact ⟨rfl, ⟨hT.eq he2 (fun c hc => by unfold fc_PC; omega), hD2, hR2⟩⟩), fl_qi ht hP⟩, hS.F ht⟩) hS.2.2 dX4_again_35

set_option maxHeartbeats 4000000 in
set_option maxRecDepth 100000 in
theorem c_X4_rule (l : Launch) {D : va_G} {cI cJ cII : ClassId} {ad : Nat → Nat} (hJ : fl_inj 62 ad) (M : fl_M) (α : a_A) (hA : fc_A α M) (han : r_an α.2.2 + 1 < 2 ^ 30) (x y : Int32) : MetD lw_cs l yX4_rule wsX4_rule ({ frames := 6, cells := 0, slots := 0, locals := 140 } : Room) (fcPc D cI cJ cII ad M [.ref (ad 0), .int x, .int y]) (va_Qi (fun r M2 => r = (o_rule α x y).1 ∧ fc_A (o_rule α x y).2 M2) (fcQ D cI cII ad) (fl_A 62 ad)) 0 0 (fl_A 62 ad) := by
  refine MetD.ofW (cc := cX4_rule) (maxL := 3) (ret := (some .int)) (by decide) rfl ?_
  intro p e s m args below meth c s₁ B hml hv hd0
  obtain ⟨rfl, hP, hK, hN⟩ := hv
  have hx := B.exec
  have hb := B.bytes
  have hr := B.returns
  have hts0 := atoms_spec (ws := wsX4_rule) B.pre
  have hts := dr_words hts0 s.drawn
  have hown : s.vm.findClass RX4 = some m.cls := findClass_of_methodNamed B.named
  have hlocks := B.notSynchronized
  have inX4 : ∀ w ∈ u_ws RX4 TX4 3, w ∈ wsX4_rule := by decide +kernel
  have hS : va_S (fl_A 62 ad) s.heap s.heap [] := va_S.rf
  have hl := lv_entry ([.ref (ad 0), .int x, .int y] : List Value) (n := 3) (Nat.le_of_ble_eq_true rfl)
  rw [lg_entry_eq]
  generalize (lg_sl ([.ref (ad 0), .int x, .int y] : List Value) ++ List.replicate (3 - (lg_sl ([.ref (ad 0), .int x, .int y] : List Value)).length) Slot.unset).toArray = ls at hl ⊢
  have hl : lv_has ls 3 [(0, .ref (ad 0)), (1, .int x), (2, .int y)] := hl
  have hd0 := hd0
  obtain ⟨hT, hd, hr0⟩ := id hA
  refine lv_aload_n hx hb dX4_rule_0 rfl (lv_at hl 0 rfl) ?_
  refine va_get (D := D) (ci := 6) (v := .ref (ad 8)) (C := RX4) (T := TX4) (N := 3) hx hb hts inX4 hown hK hP 0 (fl_at (by decide) rfl) rfl 2 (by decide) (hts (.fieldLink RX4 26 "ResampledRows" "run" "LResampledRows$Run;") (by decide +kernel)) (fun _ h9 => h9) rfl dX4_rule_1 ?_
  refine va_calli (va_runV (As := []) (rest := []) ⟨hx, hb, hml, hown, hts⟩ (c_X2_isBegun l hJ M (r_n α.2.2) hr0.1.1 hr0.1.2) (cwV 0 hts gX4_rule_X2_isBegun rfl rfl rfl (by decide +kernel) ⟨Nat.le_of_ble_eq_true rfl, Nat.le_of_ble_eq_true rfl⟩) ⟨fl_blind, va_recv hK hP (ci := 4) (q0 := 8) rfl (fl_at (by decide) rfl), fl_pre hP hK hN⟩ rfl rfl hl.1 rfl (lv_room (Nat.le_of_ble_eq_true rfl)) dX4_rule_4 ⟨Nat.le_of_ble_eq_true rfl, Nat.le_of_ble_eq_true rfl⟩) hS (fun _ _ h => h) (fun _ h => h) (fun r4 M4 t H1 locs ht hvm hw hB hz1 hk1 hS => ?_)
  have hP : va_P D vwCl (fcP cI cII ad M4) H1 := by rw [← ht]; exact hB
  clear hB hk1 hz1 hvm ht t
  obtain ⟨rfl, hE⟩ := hw
  rw [hE] at hP
  by_cases hn0 : r_n α.2.2 = 0
  · refine fl_ti (y := 0) (if_pos hn0) ?_
    refine lv_if_ne (tgt := 13) hx hb dX4_rule_7 (by decide) (fun hz => absurd hz (by decide)) (fun _ => ?_)
    refine lv_ldc (v := -1000003) hx hb hown (hts (.constant RX4 84 (-1000003)) (by decide +kernel)) dX4_rule_10 ?_
    refine W.endD hd0 ?_
    exact W.iret (v := (-1000003)) hx hb hr (fun t ht hW => ⟨⟨(-1000003), M, rfl, (by have ho : o_rule α x y = ((-1000003), α) := (by unfold o_rule; first | (rw [if_pos hn0] <;> rfl) | (simp only [if_pos hn0])); rw [ho]; exact ⟨rfl, hA⟩), fl_qi ht hP⟩, hS.F ht⟩) hS.2.2 dX4_rule_12
  · refine fl_ti (y := 1) (if_neg hn0) ?_
    refine lv_if_ne (tgt := 13) hx hb dX4_rule_7 (by decide) (fun _ => ?_) (fun hz => absurd hz (by decide))
    refine lv_iload_n hx hb dX4_rule_13 rfl (lv_at hl 1 rfl) ?_
    refine va_calli (va_runS (As := [.int x]) (rest := []) ⟨hx, hb, hml, hown, hts⟩ (c_X4_isWay l hJ M x) (va_cwS 1 hts gX4_rule_X4_isWay rfl rfl rfl (by decide +kernel) ⟨Nat.le_of_ble_eq_true rfl, Nat.le_of_ble_eq_true rfl⟩) ⟨fl_blind, fl_pre hP hK hN⟩ rfl rfl hl.1 rfl (lv_room (Nat.le_of_ble_eq_true rfl)) dX4_rule_14 ⟨Nat.le_of_ble_eq_true rfl, Nat.le_of_ble_eq_true rfl⟩) hS (fun _ _ h => h) (fun _ h => h) (fun r14 M14 t H1 locs ht hvm hw hB hz1 hk1 hS => ?_)
    have hP : va_P D vwCl (fcP cI cII ad M14) H1 := by rw [← ht]; exact hB
    clear hB hk1 hz1 hvm ht t
    obtain ⟨rfl, hE⟩ := hw
    rw [hE] at hP
    rcases q1 : a_ix x 4 with _ | wy
    · refine fl_ti (y := 0) (by first | rfl | (rw [q1]; rfl)) ?_
      refine lv_if_eq (tgt := 31) hx hb dX4_rule_17 (by decide) (fun _ => ?_) (fun hz => absurd (by decide) hz)
      have ho := o_rule_out (y := y) hn0 (Or.inl q1)
      refine lv_ldc (v := -1000002) hx hb hown (hts (.constant RX4 38 (-1000002)) (by decide +kernel)) dX4_rule_31 ?_
      refine W.endD hd0 ?_
      exact W.iret (v := (-1000002)) hx hb hr (fun t ht hW => ⟨⟨(-1000002), M, rfl, (by rw [ho]; exact ⟨rfl, hA⟩), fl_qi ht hP⟩, hS.F ht⟩) hS.2.2 dX4_rule_33
    · obtain ⟨q1_1, q1_2, q1_3⟩ := a_ix_some q1
      refine fl_ti (y := 1) (by first | rfl | (rw [q1]; rfl)) ?_
      refine lv_if_eq (tgt := 31) hx hb dX4_rule_17 (by decide) (fun hz => absurd hz (by decide)) (fun _ => ?_)
      refine lv_iload_n hx hb dX4_rule_20 rfl (lv_at hl 2 rfl) ?_
      refine lv_iconst (v := 1) hx hb dX4_rule_21 (by decide) ?_
      refine lv_icmp_lt (tgt := 31) hx hb dX4_rule_22 (by decide) (fun hc22 => ?_) (fun hc22 => ?_)
      · have ho := o_rule_out (x := x) hn0 (Or.inr (Or.inl hc22))
        refine lv_ldc (v := -1000002) hx hb hown (hts (.constant RX4 38 (-1000002)) (by decide +kernel)) dX4_rule_31 ?_
        refine W.endD hd0 ?_
        exact W.iret (v := (-1000002)) hx hb hr (fun t ht hW => ⟨⟨(-1000002), M, rfl, (by rw [ho]; exact ⟨rfl, hA⟩), fl_qi ht hP⟩, hS.F ht⟩) hS.2.2 dX4_rule_33
      · refine lv_iload_n hx hb dX4_rule_25 rfl (lv_at hl 2 rfl) ?_
        refine lv_bipush (v := 100) hx hb dX4_rule_26 (by decide) ?_
        refine lv_icmp_le (tgt := 34) hx hb dX4_rule_28 (by decide) (fun hc28 => ?_) (fun hc28 => ?_)
        · obtain ⟨q, hp1, hp2, hp3⟩ := a_ix_pos (n := 100) (by decide) (fun z => hc22 (Int32.lt_trans z (by decide))) (fun z => hc22 (by rw [z]; decide)) hc28
          refine lv_aload_n hx hb dX4_rule_34 rfl (lv_at hl 0 rfl) ?_
          refine va_get (D := D) (ci := 6) (v := .ref (ad 8)) (C := RX4) (T := TX4) (N := 3) hx hb hts inX4 hown hK hP 0 (fl_at (by decide) rfl) rfl 2 (by decide) (hts (.fieldLink RX4 26 "ResampledRows" "run" "LResampledRows$Run;") (by decide +kernel)) (fun _ h9 => h9) rfl dX4_rule_35 ?_
          refine va_calll (va_runV (As := []) (rest := []) ⟨hx, hb, hml, hown, hts⟩ (c_X2_total l hJ M (r_n α.2.2) (r_wt α.2.2) hr0.1.1 hr0.1.2 hr0.2.2.2.2.2.1.l8 hr0.2.2.2.2.2.2.2.1) (cwV 0 hts gX4_rule_X2_total rfl rfl rfl (by decide +kernel) ⟨Nat.le_of_ble_eq_true rfl, Nat.le_of_ble_eq_true rfl⟩) ⟨fl_blind, va_recv hK hP (ci := 4) (q0 := 8) rfl (fl_at (by decide) rfl), fl_pre hP hK hN⟩ rfl rfl hl.1 rfl (lv_room (Nat.le_of_ble_eq_true rfl)) dX4_rule_38 ⟨Nat.le_of_ble_eq_true rfl, Nat.le_of_ble_eq_true rfl⟩) hS (fun _ _ h => h) (fun _ h => h) (fun r38 M38 t H1 locs ht hvm hw hB hz1 hk1 hS => ?_)
          have hP : va_P D vwCl (fcP cI cII ad M38) H1 := by rw [← ht]; exact hB
          clear hB hk1 hz1 hvm ht t
          obtain ⟨rfl, hE⟩ := hw
          rw [hE] at hP
          have hTl := (a_Q_le hr0.2.2.2.2.2.2.2.1 hr0.1.1).2.1
          refine lv_lconst (v := 0) hx hb dX4_rule_41 (by decide) ?_
          refine fl_leq (tgt := 57) hx hb dX4_rule_42 dX4_rule_43 (by decide) (fun hc42 => ?_) (fun hc42 => ?_)
          · have hT0 : a_sum (r_wt α.2.2) (r_n α.2.2) = 0 := (pk_lEQ (b := 0) (by omega) (by decide)).mp hc42
            refine lv_aload_n hx hb dX4_rule_57 rfl (lv_at hl 0 rfl) ?_
            refine va_get (D := D) (ci := 6) (v := .ref (ad 8)) (C := RX4) (T := TX4) (N := 3) hx hb hts inX4 hown hK hP 0 (fl_at (by decide) rfl) rfl 2 (by decide) (hts (.fieldLink RX4 26 "ResampledRows" "run" "LResampledRows$Run;") (by decide +kernel)) (fun _ h9 => h9) rfl dX4_rule_58 ?_
            refine lv_iload_n hx hb dX4_rule_61 rfl (lv_at hl 1 rfl) ?_
            refine fl_ti (y := nI wy) q1_2 ?_
            refine lv_aload_n hx hb dX4_rule_62 rfl (lv_at hl 0 rfl) ?_
            refine va_get (D := D) (ci := 6) (v := .ref (ad 6)) (C := RX4) (T := TX4) (N := 3) hx hb hts inX4 hown hK hP 0 (fl_at (by decide) rfl) rfl 1 (by decide) (hts (.fieldLink RX4 19 "ResampledRows" "draws" "LResampledRows$Draws;") (by decide +kernel)) (fun _ h9 => h9) rfl dX4_rule_63 ?_
            refine va_calliD hd0 (va_runV_D (As := [.int (nI wy), .ref (ad 6)]) (rest := []) ⟨hx, hb, hml, hown, hts⟩ (c_X2_drawAnew l hJ M α.2.1 α.2.2 wy q1_1 hr0 (by omega) han hd) (cwV 2 hts gX4_rule_X2_drawAnew rfl rfl rfl (by decide +kernel) ⟨Nat.le_of_ble_eq_true rfl, Nat.le_of_ble_eq_true rfl⟩) ⟨fl_blind, va_recv hK hP (ci := 4) (q0 := 8) rfl (fl_at (by decide) rfl), fl_pre hP hK hN⟩ rfl rfl hl.1 rfl (lv_room (Nat.le_of_ble_eq_true rfl)) dX4_rule_66 ⟨Nat.le_of_ble_eq_true rfl, Nat.le_of_ble_eq_true rfl⟩) hS (fun _ _ h => h) (fun _ h => h) (fun r66 M66 t H1 locs ht hvm hw hB hz1 hk1 hS d66 hd66 => ?_)
            have hP : va_P D vwCl (fcP cI cII ad M66) H1 := by rw [← ht]; exact hB
            clear hB hk1 hz1 hvm ht t
            have hd0 := hd66
            have hts := dr_words hts0 d66
            obtain ⟨rfl, hD2, hR2, he2⟩ := hw
            refine W.endD hd0 ?_
            exact W.iret (v := (a_anew wy α.2.1 α.2.2).1) hx hb hr (fun t ht hW => ⟨⟨(a_anew wy α.2.1 α.2.2).1, M66, rfl, (by have ho : o_rule α x y = o_anew α wy := (by unfold o_rule; rw [if_neg hn0, q1, hp3]; exact if_pos hT0); rw [ho]; exact ⟨rfl, hT.eq he2 (fun c hc => by unfold fc_PC; omega), hD2, hR2⟩), fl_qi ht hP⟩, hS.F ht⟩) hS.2.2 dX4_rule_69
          · have hT0 : ¬ a_sum (r_wt α.2.2) (r_n α.2.2) = 0 := fun z => hc42 (by rw [z]; rfl)
            refine lv_aload_n hx hb dX4_rule_46 rfl (lv_at hl 0 rfl) ?_
            refine va_get (D := D) (ci := 6) (v := .ref (ad 8)) (C := RX4) (T := TX4) (N := 3) hx hb hts inX4 hown hK hP 0 (fl_at (by decide) rfl) rfl 2 (by decide) (hts (.fieldLink RX4 26 "ResampledRows" "run" "LResampledRows$Run;") (by decide +kernel)) (fun _ h9 => h9) rfl dX4_rule_47 ?_
            refine lv_iload_n hx hb dX4_rule_50 rfl (lv_at hl 2 rfl) ?_
            refine fl_ti (y := nI (q + 1)) hp2 ?_
            refine va_calli (va_runV (As := [.int (nI (q + 1))]) (rest := []) ⟨hx, hb, hml, hown, hts⟩ (c_X2_isEffectiveBelow l hJ M (r_n α.2.2) (r_wt α.2.2) hr0.1.1 hr0.1.2 hr0.2.2.2.2.2.1.l8 hr0.2.2.2.2.2.2.2.1 (q + 1) hp1) (cwV 1 hts gX4_rule_X2_isEffectiveBelow rfl rfl rfl (by decide +kernel) ⟨Nat.le_of_ble_eq_true rfl, Nat.le_of_ble_eq_true rfl⟩) ⟨fl_blind, va_recv hK hP (ci := 4) (q0 := 8) rfl (fl_at (by decide) rfl), fl_pre hP hK hN⟩ rfl rfl hl.1 rfl (lv_room (Nat.le_of_ble_eq_true rfl)) dX4_rule_51 ⟨Nat.le_of_ble_eq_true rfl, Nat.le_of_ble_eq_true rfl⟩) hS (fun _ _ h => h) (fun _ h => h) (fun r51 M51 t H1 locs ht hvm hw hB hz1 hk1 hS => ?_)
            have hP : va_P D vwCl (fcP cI cII ad M51) H1 := by rw [← ht]; exact hB
            clear hB hk1 hz1 hvm ht t
            obtain ⟨rfl, hE⟩ := hw
            rw [hE] at hP
            by_cases hcn : 100 * a_sum (r_wt α.2.2) (r_n α.2.2) * a_sum (r_wt α.2.2) (r_n α.2.2) < (q + 1) * r_n α.2.2 * a_Q (r_wt α.2.2) (r_n α.2.2)
            · refine fl_ti (y := 1) (if_pos hcn) ?_
              refine lv_if_eq (tgt := 70) hx hb dX4_rule_54 (by decide) (fun hz => absurd hz (by decide)) (fun _ => ?_)
              refine lv_aload_n hx hb dX4_rule_57 rfl (lv_at hl 0 rfl) ?_
              refine va_get (D := D) (ci := 6) (v := .ref (ad 8)) (C := RX4) (T := TX4) (N := 3) hx hb hts inX4 hown hK hP 0 (fl_at (by decide) rfl) rfl 2 (by decide) (hts (.fieldLink RX4 26 "ResampledRows" "run" "LResampledRows$Run;") (by decide +kernel)) (fun _ h9 => h9) rfl dX4_rule_58 ?_
              refine lv_iload_n hx hb dX4_rule_61 rfl (lv_at hl 1 rfl) ?_
              refine fl_ti (y := nI wy) q1_2 ?_
              refine lv_aload_n hx hb dX4_rule_62 rfl (lv_at hl 0 rfl) ?_
              refine va_get (D := D) (ci := 6) (v := .ref (ad 6)) (C := RX4) (T := TX4) (N := 3) hx hb hts inX4 hown hK hP 0 (fl_at (by decide) rfl) rfl 1 (by decide) (hts (.fieldLink RX4 19 "ResampledRows" "draws" "LResampledRows$Draws;") (by decide +kernel)) (fun _ h9 => h9) rfl dX4_rule_63 ?_
              refine va_calliD hd0 (va_runV_D (As := [.int (nI wy), .ref (ad 6)]) (rest := []) ⟨hx, hb, hml, hown, hts⟩ (c_X2_drawAnew l hJ M α.2.1 α.2.2 wy q1_1 hr0 (by omega) han hd) (cwV 2 hts gX4_rule_X2_drawAnew rfl rfl rfl (by decide +kernel) ⟨Nat.le_of_ble_eq_true rfl, Nat.le_of_ble_eq_true rfl⟩) ⟨fl_blind, va_recv hK hP (ci := 4) (q0 := 8) rfl (fl_at (by decide) rfl), fl_pre hP hK hN⟩ rfl rfl hl.1 rfl (lv_room (Nat.le_of_ble_eq_true rfl)) dX4_rule_66 ⟨Nat.le_of_ble_eq_true rfl, Nat.le_of_ble_eq_true rfl⟩) hS (fun _ _ h => h) (fun _ h => h) (fun r66 M66 t H1 locs ht hvm hw hB hz1 hk1 hS d66 hd66 => ?_)
              have hP : va_P D vwCl (fcP cI cII ad M66) H1 := by rw [← ht]; exact hB
              clear hB hk1 hz1 hvm ht t
              have hd0 := hd66
              have hts := dr_words hts0 d66
              obtain ⟨rfl, hD2, hR2, he2⟩ := hw
              refine W.endD hd0 ?_
              exact W.iret (v := (a_anew wy α.2.1 α.2.2).1) hx hb hr (fun t ht hW => ⟨⟨(a_anew wy α.2.1 α.2.2).1, M66, rfl, (by have ho : o_rule α x y = o_anew α wy := (by unfold o_rule; rw [if_neg hn0, q1, hp3]; exact (if_neg hT0).trans (if_pos hcn)); rw [ho]; exact ⟨rfl, hT.eq he2 (fun c hc => by unfold fc_PC; omega), hD2, hR2⟩), fl_qi ht hP⟩, hS.F ht⟩) hS.2.2 dX4_rule_69
            · refine fl_ti (y := 0) (if_neg hcn) ?_
              refine lv_if_eq (tgt := 70) hx hb dX4_rule_54 (by decide) (fun _ => ?_) (fun hz => absurd (by decide) hz)
              refine lv_iconst (v := 0) hx hb dX4_rule_70 (by decide) ?_
              refine W.endD hd0 ?_
              exact W.iret (v := 0) hx hb hr (fun t ht hW => ⟨⟨0, M, rfl, (by have ho : o_rule α x y = (0, α) := (by unfold o_rule; rw [if_neg hn0, q1, hp3]; exact (if_neg hT0).trans (if_neg hcn)); rw [ho]; exact ⟨rfl, hA⟩), fl_qi ht hP⟩, hS.F ht⟩) hS.2.2 dX4_rule_71
        · have ho := o_rule_out (x := x) hn0 (Or.inr (Or.inr hc28))
          refine lv_ldc (v := -1000002) hx hb hown (hts (.constant RX4 38 (-1000002)) (by decide +kernel)) dX4_rule_31 ?_
          refine W.endD hd0 ?_
          exact W.iret (v := (-1000002)) hx hb hr (fun t ht hW => ⟨⟨(-1000002), M, rfl, (by rw [ho]; exact ⟨rfl, hA⟩), fl_qi ht hP⟩, hS.F ht⟩) hS.2.2 dX4_rule_33

set_option maxHeartbeats 4000000 in
set_option maxRecDepth 100000 in
theorem c_X4_from (l : Launch) {D : va_G} {cI cJ cII : ClassId} {ad : Nat → Nat} (hJ : fl_inj 62 ad) (M : fl_M) (α : a_A) (hA : fc_A α M) (x : Int32) : Met l yX4_from wsX4_from ({ frames := 1, cells := 0, slots := 0, locals := 21 } : Room) (fcPc D cI cJ cII ad M [.ref (ad 0), .int x]) (va_Qi (fun r M2 => r = o_from α x ∧ M2 = M) (fcQ D cI cII ad) (fl_A 62 ad)) 0 0 (fl_A 62 ad) := by
  refine Met.ofW (cc := cX4_from) (maxL := 2) (ret := (some .int)) (by decide) rfl ?_
  intro p e s m args below meth c s₁ B hml hv
  obtain ⟨rfl, hP, hK, hN⟩ := hv
  have hx := B.exec
  have hb := B.bytes
  have hr := B.returns
  have hts := atoms_spec (ws := wsX4_from) B.pre
  have hown : s.vm.findClass RX4 = some m.cls := findClass_of_methodNamed B.named
  have hlocks := B.notSynchronized
  have inX2 : ∀ w ∈ u_ws RX2 TX2 13, w ∈ wsX4_from := by decide +kernel
  have inX4 : ∀ w ∈ u_ws RX4 TX4 3, w ∈ wsX4_from := by decide +kernel
  have hS : va_S (fl_A 62 ad) s.heap s.heap [] := va_S.rf
  have hl := lv_entry ([.ref (ad 0), .int x] : List Value) (n := 2) (Nat.le_of_ble_eq_true rfl)
  rw [lg_entry_eq]
  generalize (lg_sl ([.ref (ad 0), .int x] : List Value) ++ List.replicate (2 - (lg_sl ([.ref (ad 0), .int x] : List Value)).length) Slot.unset).toArray = ls at hl ⊢
  have hl : lv_has ls 2 [(0, .ref (ad 0)), (1, .int x)] := hl
  obtain ⟨hT, hd, hr0⟩ := id hA
  refine lv_aload_n hx hb dX4_from_0 rfl (lv_at hl 0 rfl) ?_
  refine va_get (D := D) (ci := 6) (v := .ref (ad 8)) (C := RX4) (T := TX4) (N := 3) hx hb hts inX4 hown hK hP 0 (fl_at (by decide) rfl) rfl 2 (by decide) (hts (.fieldLink RX4 26 "ResampledRows" "run" "LResampledRows$Run;") (by decide +kernel)) (fun _ h9 => h9) rfl dX4_from_1 ?_
  refine va_calli (va_runV (As := []) (rest := []) ⟨hx, hb, hml, hown, hts⟩ (c_X2_isBegun l hJ M (r_n α.2.2) hr0.1.1 hr0.1.2) (cwV 0 hts gX4_from_X2_isBegun rfl rfl rfl (by decide +kernel) ⟨Nat.le_of_ble_eq_true rfl, Nat.le_of_ble_eq_true rfl⟩) ⟨fl_blind, va_recv hK hP (ci := 4) (q0 := 8) rfl (fl_at (by decide) rfl), fl_pre hP hK hN⟩ rfl rfl hl.1 rfl (lv_room (Nat.le_of_ble_eq_true rfl)) dX4_from_4 ⟨Nat.le_of_ble_eq_true rfl, Nat.le_of_ble_eq_true rfl⟩) hS (fun _ _ h => h) (fun _ h => h) (fun r4 M4 t H1 locs ht hvm hw hB hz1 hk1 hS => ?_)
  have hP : va_P D vwCl (fcP cI cII ad M4) H1 := by rw [← ht]; exact hB
  clear hB hk1 hz1 hvm ht t
  obtain ⟨rfl, hE⟩ := hw
  rw [hE] at hP
  by_cases hn0 : r_n α.2.2 = 0
  · refine fl_ti (y := 0) (if_pos hn0) ?_
    refine lv_if_ne (tgt := 13) hx hb dX4_from_7 (by decide) (fun hz => absurd hz (by decide)) (fun _ => ?_)
    refine lv_ldc (v := -1000003) hx hb hown (hts (.constant RX4 84 (-1000003)) (by decide +kernel)) dX4_from_10 ?_
    exact W.iret (v := (-1000003)) hx hb hr (fun t ht hW => ⟨⟨(-1000003), M, rfl, (by have ho : o_from α x = (-1000003) := (by unfold o_from; first | (rw [if_pos hn0] <;> rfl) | (simp only [if_pos hn0])); rw [ho]; exact ⟨rfl, rfl⟩), fl_qi ht hP⟩, hS.F ht⟩) hS.2.2 dX4_from_12
  · refine fl_ti (y := 1) (if_neg hn0) ?_
    refine lv_if_ne (tgt := 13) hx hb dX4_from_7 (by decide) (fun _ => ?_) (fun hz => absurd hz (by decide))
    refine lv_aload_n hx hb dX4_from_13 rfl (lv_at hl 0 rfl) ?_
    refine va_get (D := D) (ci := 6) (v := .ref (ad 8)) (C := RX4) (T := TX4) (N := 3) hx hb hts inX4 hown hK hP 0 (fl_at (by decide) rfl) rfl 2 (by decide) (hts (.fieldLink RX4 26 "ResampledRows" "run" "LResampledRows$Run;") (by decide +kernel)) (fun _ h9 => h9) rfl dX4_from_14 ?_
    refine va_get (D := D) (ci := 4) (v := .int (M.1 8 4)) (C := RX2) (T := TX2) (N := 13) hx hb hts inX2 hown hK hP 8 (fl_at (by decide) rfl) rfl 4 (by decide) (hts (.fieldLink RX4 117 "ResampledRows$Run" "timesAnew" "I") (by decide +kernel)) (fun _ h9 => h9) rfl dX4_from_17 ?_
    refine fl_ti (y := nI (r_an α.2.2)) hr0.2.2.1.2 ?_
    refine lv_if_eq (tgt := 34) hx hb dX4_from_20 (by decide) (fun hc20 => ?_) (fun hc20 => ?_)
    · have ha0 : r_an α.2.2 = 0 := (nI_eq (b := 0) (by have := hr0.2.2.1.1; omega) (by decide)).mp hc20
      refine lv_ldc (v := -1000001) hx hb hown (hts (.constant RX4 34 (-1000001)) (by decide +kernel)) dX4_from_34 ?_
      exact W.iret (v := (-1000001)) hx hb hr (fun t ht hW => ⟨⟨(-1000001), M, rfl, (by have ho : o_from α x = (-1000001) := (by unfold o_from; first | (rw [if_neg hn0, if_pos ha0] <;> rfl) | (simp only [if_neg hn0, if_pos ha0])); rw [ho]; exact ⟨rfl, rfl⟩), fl_qi ht hP⟩, hS.F ht⟩) hS.2.2 dX4_from_36
    · have ha0 : ¬ r_an α.2.2 = 0 := fun z => hc20 (by rw [z]; rfl)
      refine lv_aload_n hx hb dX4_from_23 rfl (lv_at hl 0 rfl) ?_
      refine va_get (D := D) (ci := 6) (v := .ref (ad 8)) (C := RX4) (T := TX4) (N := 3) hx hb hts inX4 hown hK hP 0 (fl_at (by decide) rfl) rfl 2 (by decide) (hts (.fieldLink RX4 26 "ResampledRows" "run" "LResampledRows$Run;") (by decide +kernel)) (fun _ h9 => h9) rfl dX4_from_24 ?_
      refine lv_iload_n hx hb dX4_from_27 rfl (lv_at hl 1 rfl) ?_
      refine va_calli (va_runV (As := [.int x]) (rest := []) ⟨hx, hb, hml, hown, hts⟩ (c_X2_hasRow l hJ M (r_n α.2.2) x hr0.1.1 hr0.1.2) (cwV 1 hts gX4_from_X2_hasRow rfl rfl rfl (by decide +kernel) ⟨Nat.le_of_ble_eq_true rfl, Nat.le_of_ble_eq_true rfl⟩) ⟨fl_blind, va_recv hK hP (ci := 4) (q0 := 8) rfl (fl_at (by decide) rfl), fl_pre hP hK hN⟩ rfl rfl hl.1 rfl (lv_room (Nat.le_of_ble_eq_true rfl)) dX4_from_28 ⟨Nat.le_of_ble_eq_true rfl, Nat.le_of_ble_eq_true rfl⟩) hS (fun _ _ h => h) (fun _ h => h) (fun r28 M28 t H1 locs ht hvm hw hB hz1 hk1 hS => ?_)
      have hP : va_P D vwCl (fcP cI cII ad M28) H1 := by rw [← ht]; exact hB
      clear hB hk1 hz1 hvm ht t
      obtain ⟨rfl, hE⟩ := hw
      rw [hE] at hP
      rcases q1 : a_ix x (r_n α.2.2) with _ | j
      · refine fl_ti (y := 0) (by first | rfl | (rw [q1]; rfl)) ?_
        refine lv_if_ne (tgt := 37) hx hb dX4_from_31 (by decide) (fun hz => absurd hz (by decide)) (fun _ => ?_)
        refine lv_ldc (v := -1000001) hx hb hown (hts (.constant RX4 34 (-1000001)) (by decide +kernel)) dX4_from_34 ?_
        exact W.iret (v := (-1000001)) hx hb hr (fun t ht hW => ⟨⟨(-1000001), M, rfl, (by have ho : o_from α x = (-1000001) := (by unfold o_from; first | (rw [if_neg hn0, if_neg ha0, q1] <;> rfl) | (simp only [if_neg hn0, if_neg ha0, q1])); rw [ho]; exact ⟨rfl, rfl⟩), fl_qi ht hP⟩, hS.F ht⟩) hS.2.2 dX4_from_36
      · obtain ⟨q1_1, q1_2, q1_3⟩ := a_ix_some q1
        refine fl_ti (y := 1) (by first | rfl | (rw [q1]; rfl)) ?_
        refine lv_if_ne (tgt := 37) hx hb dX4_from_31 (by decide) (fun _ => ?_) (fun hz => absurd hz (by decide))
        refine lv_aload_n hx hb dX4_from_37 rfl (lv_at hl 0 rfl) ?_
        refine va_get (D := D) (ci := 6) (v := .ref (ad 8)) (C := RX4) (T := TX4) (N := 3) hx hb hts inX4 hown hK hP 0 (fl_at (by decide) rfl) rfl 2 (by decide) (hts (.fieldLink RX4 26 "ResampledRows" "run" "LResampledRows$Run;") (by decide +kernel)) (fun _ h9 => h9) rfl dX4_from_38 ?_
        refine va_get (D := D) (ci := 4) (v := .ref (ad 12)) (C := RX2) (T := TX2) (N := 13) hx hb hts inX2 hown hK hP 8 (fl_at (by decide) rfl) rfl 1 (by decide) (hts (.fieldLink RX4 120 "ResampledRows$Run" "origins" "[I") (by decide +kernel)) (fun _ h9 => h9) rfl dX4_from_41 ?_
        refine lv_iload_n hx hb dX4_from_44 rfl (lv_at hl 1 rfl) ?_
        refine fl_ti (y := nI j) q1_2 ?_
        refine fl_ild (n := 16) (k := j) hx hb hK hP (fc_a cI cII ad _ rfl (by decide)) rfl rfl (by have := hr0.1.1; omega) (by decide) dX4_from_45 ?_
        refine fl_ti (y := nI (r_og α.2.2 j)) ((hr0.2.2.2.2.2.2.2.2.2 ha0 j q1_1).1) ?_
        exact W.iret (v := nI (r_og α.2.2 j)) hx hb hr (fun t ht hW => ⟨⟨nI (r_og α.2.2 j), M, rfl, (by have ho : o_from α x = nI (r_og α.2.2 j) := (by unfold o_from; first | (rw [if_neg hn0, if_neg ha0, q1] <;> rfl) | (simp only [if_neg hn0, if_neg ha0, q1])); rw [ho]; exact ⟨rfl, rfl⟩), fl_qi ht hP⟩, hS.F ht⟩) hS.2.2 dX4_from_46

set_option maxHeartbeats 4000000 in
set_option maxRecDepth 100000 in
theorem c_X4_row (l : Launch) {D : va_G} {cI cJ cII : ClassId} {ad : Nat → Nat} (hJ : fl_inj 62 ad) (M : fl_M) (α : a_A) (hA : fc_A α M) (x y : Int32) : Met l yX4_row wsX4_row ({ frames := 1, cells := 0, slots := 0, locals := 21 } : Room) (fcPc D cI cJ cII ad M [.ref (ad 0), .int x, .int y]) (va_Qi (fun r M2 => r = o_row α x y ∧ M2 = M) (fcQ D cI cII ad) (fl_A 62 ad)) 0 0 (fl_A 62 ad) := by
  refine Met.ofW (cc := cX4_row) (maxL := 3) (ret := (some .int)) (by decide) rfl ?_
  intro p e s m args below meth c s₁ B hml hv
  obtain ⟨rfl, hP, hK, hN⟩ := hv
  have hx := B.exec
  have hb := B.bytes
  have hr := B.returns
  have hts := atoms_spec (ws := wsX4_row) B.pre
  have hown : s.vm.findClass RX4 = some m.cls := findClass_of_methodNamed B.named
  have hlocks := B.notSynchronized
  have inX2 : ∀ w ∈ u_ws RX2 TX2 13, w ∈ wsX4_row := by decide +kernel
  have inX4 : ∀ w ∈ u_ws RX4 TX4 3, w ∈ wsX4_row := by decide +kernel
  have hS : va_S (fl_A 62 ad) s.heap s.heap [] := va_S.rf
  have hl := lv_entry ([.ref (ad 0), .int x, .int y] : List Value) (n := 3) (Nat.le_of_ble_eq_true rfl)
  rw [lg_entry_eq]
  generalize (lg_sl ([.ref (ad 0), .int x, .int y] : List Value) ++ List.replicate (3 - (lg_sl ([.ref (ad 0), .int x, .int y] : List Value)).length) Slot.unset).toArray = ls at hl ⊢
  have hl : lv_has ls 3 [(0, .ref (ad 0)), (1, .int x), (2, .int y)] := hl
  obtain ⟨hT, hd, hr0⟩ := id hA
  refine lv_aload_n hx hb dX4_row_0 rfl (lv_at hl 0 rfl) ?_
  refine va_get (D := D) (ci := 6) (v := .ref (ad 8)) (C := RX4) (T := TX4) (N := 3) hx hb hts inX4 hown hK hP 0 (fl_at (by decide) rfl) rfl 2 (by decide) (hts (.fieldLink RX4 26 "ResampledRows" "run" "LResampledRows$Run;") (by decide +kernel)) (fun _ h9 => h9) rfl dX4_row_1 ?_
  refine va_calli (va_runV (As := []) (rest := []) ⟨hx, hb, hml, hown, hts⟩ (c_X2_isBegun l hJ M (r_n α.2.2) hr0.1.1 hr0.1.2) (cwV 0 hts gX4_row_X2_isBegun rfl rfl rfl (by decide +kernel) ⟨Nat.le_of_ble_eq_true rfl, Nat.le_of_ble_eq_true rfl⟩) ⟨fl_blind, va_recv hK hP (ci := 4) (q0 := 8) rfl (fl_at (by decide) rfl), fl_pre hP hK hN⟩ rfl rfl hl.1 rfl (lv_room (Nat.le_of_ble_eq_true rfl)) dX4_row_4 ⟨Nat.le_of_ble_eq_true rfl, Nat.le_of_ble_eq_true rfl⟩) hS (fun _ _ h => h) (fun _ h => h) (fun r4 M4 t H1 locs ht hvm hw hB hz1 hk1 hS => ?_)
  have hP : va_P D vwCl (fcP cI cII ad M4) H1 := by rw [← ht]; exact hB
  clear hB hk1 hz1 hvm ht t
  obtain ⟨rfl, hE⟩ := hw
  rw [hE] at hP
  by_cases hn0 : r_n α.2.2 = 0
  · refine fl_ti (y := 0) (if_pos hn0) ?_
    refine lv_if_ne (tgt := 13) hx hb dX4_row_7 (by decide) (fun hz => absurd hz (by decide)) (fun _ => ?_)
    refine lv_ldc (v := -1000003) hx hb hown (hts (.constant RX4 84 (-1000003)) (by decide +kernel)) dX4_row_10 ?_
    exact W.iret (v := (-1000003)) hx hb hr (fun t ht hW => ⟨⟨(-1000003), M, rfl, (by have ho : o_row α x y = (-1000003) := (by unfold o_row; first | (rw [if_pos hn0] <;> rfl) | (simp only [if_pos hn0])); rw [ho]; exact ⟨rfl, rfl⟩), fl_qi ht hP⟩, hS.F ht⟩) hS.2.2 dX4_row_12
  · refine fl_ti (y := 1) (if_neg hn0) ?_
    refine lv_if_ne (tgt := 13) hx hb dX4_row_7 (by decide) (fun _ => ?_) (fun hz => absurd hz (by decide))
    refine lv_aload_n hx hb dX4_row_13 rfl (lv_at hl 0 rfl) ?_
    refine va_get (D := D) (ci := 6) (v := .ref (ad 8)) (C := RX4) (T := TX4) (N := 3) hx hb hts inX4 hown hK hP 0 (fl_at (by decide) rfl) rfl 2 (by decide) (hts (.fieldLink RX4 26 "ResampledRows" "run" "LResampledRows$Run;") (by decide +kernel)) (fun _ h9 => h9) rfl dX4_row_14 ?_
    refine lv_iload_n hx hb dX4_row_17 rfl (lv_at hl 1 rfl) ?_
    refine va_calli (va_runV (As := [.int x]) (rest := []) ⟨hx, hb, hml, hown, hts⟩ (c_X2_hasRow l hJ M (r_n α.2.2) x hr0.1.1 hr0.1.2) (cwV 1 hts gX4_row_X2_hasRow rfl rfl rfl (by decide +kernel) ⟨Nat.le_of_ble_eq_true rfl, Nat.le_of_ble_eq_true rfl⟩) ⟨fl_blind, va_recv hK hP (ci := 4) (q0 := 8) rfl (fl_at (by decide) rfl), fl_pre hP hK hN⟩ rfl rfl hl.1 rfl (lv_room (Nat.le_of_ble_eq_true rfl)) dX4_row_18 ⟨Nat.le_of_ble_eq_true rfl, Nat.le_of_ble_eq_true rfl⟩) hS (fun _ _ h => h) (fun _ h => h) (fun r18 M18 t H1 locs ht hvm hw hB hz1 hk1 hS => ?_)
    have hP : va_P D vwCl (fcP cI cII ad M18) H1 := by rw [← ht]; exact hB
    clear hB hk1 hz1 hvm ht t
    obtain ⟨rfl, hE⟩ := hw
    rw [hE] at hP
    rcases q1 : a_ix x (r_n α.2.2) with _ | j
    · refine fl_ti (y := 0) (by first | rfl | (rw [q1]; rfl)) ?_
      refine lv_if_ne (tgt := 27) hx hb dX4_row_21 (by decide) (fun hz => absurd hz (by decide)) (fun _ => ?_)
      refine lv_ldc (v := -1000001) hx hb hown (hts (.constant RX4 34 (-1000001)) (by decide +kernel)) dX4_row_24 ?_
      exact W.iret (v := (-1000001)) hx hb hr (fun t ht hW => ⟨⟨(-1000001), M, rfl, (by have ho : o_row α x y = (-1000001) := (by unfold o_row; first | (rw [if_neg hn0, q1] <;> rfl) | (simp only [if_neg hn0, q1])); rw [ho]; exact ⟨rfl, rfl⟩), fl_qi ht hP⟩, hS.F ht⟩) hS.2.2 dX4_row_26
    · obtain ⟨q1_1, q1_2, q1_3⟩ := a_ix_some q1
      refine fl_ti (y := 1) (by first | rfl | (rw [q1]; rfl)) ?_
      refine lv_if_ne (tgt := 27) hx hb dX4_row_21 (by decide) (fun _ => ?_) (fun hz => absurd hz (by decide))
      refine lv_iload_n hx hb dX4_row_27 rfl (lv_at hl 2 rfl) ?_
      rcases fl_c2 y with h0 | ⟨z0, h1⟩ | ⟨z0, z1⟩
      · refine lv_lookup (off := 28) (tgt := 56) hx hb dX4_row_28 (by decide) (by rw [h0]; rfl) (by decide) ?_
        refine lv_aload_n hx hb dX4_row_56 rfl (lv_at hl 0 rfl) ?_
        refine va_get (D := D) (ci := 6) (v := .ref (ad 8)) (C := RX4) (T := TX4) (N := 3) hx hb hts inX4 hown hK hP 0 (fl_at (by decide) rfl) rfl 2 (by decide) (hts (.fieldLink RX4 26 "ResampledRows" "run" "LResampledRows$Run;") (by decide +kernel)) (fun _ h9 => h9) rfl dX4_row_57 ?_
        refine va_get (D := D) (ci := 4) (v := .ref (ad (M.2.2.2 8 7))) (C := RX2) (T := TX2) (N := 13) hx hb hts inX2 hown hK hP 8 (fl_at (by decide) rfl) rfl 7 (by decide) (hts (.fieldLink RX4 123 "ResampledRows$Run" "states" "[I") (by decide +kernel)) (fun _ h9 => h9) rfl dX4_row_60 ?_
        refine lv_iload_n hx hb dX4_row_63 rfl (lv_at hl 1 rfl) ?_
        refine fl_ti (y := nI j) q1_2 ?_
        refine fl_ild (n := 16) (k := j) hx hb hK hP (fc_a cI cII ad _ hr0.2.2.2.2.2.1.l7 (by decide)) rfl rfl (by have := hr0.1.1; omega) (by decide) dX4_row_64 ?_
        refine fl_ti (y := nI (r_st α.2.2 j)) ((hr0.2.2.2.2.2.2.1 j q1_1).1) ?_
        exact W.iret (v := nI (r_st α.2.2 j)) hx hb hr (fun t ht hW => ⟨⟨nI (r_st α.2.2 j), M, rfl, (by have ho : o_row α x y = nI (r_st α.2.2 j) := (by unfold o_row; first | (rw [if_neg hn0, q1, if_pos h0] <;> rfl) | (simp only [if_neg hn0, q1, if_pos h0])); rw [ho]; exact ⟨rfl, rfl⟩), fl_qi ht hP⟩, hS.F ht⟩) hS.2.2 dX4_row_65
      · refine lv_lookup (off := 38) (tgt := 66) hx hb dX4_row_28 (by decide) (by rw [h1]; rfl) (by decide) ?_
        refine lv_aload_n hx hb dX4_row_66 rfl (lv_at hl 0 rfl) ?_
        refine va_get (D := D) (ci := 6) (v := .ref (ad 8)) (C := RX4) (T := TX4) (N := 3) hx hb hts inX4 hown hK hP 0 (fl_at (by decide) rfl) rfl 2 (by decide) (hts (.fieldLink RX4 26 "ResampledRows" "run" "LResampledRows$Run;") (by decide +kernel)) (fun _ h9 => h9) rfl dX4_row_67 ?_
        refine va_calli (va_runV (As := []) (rest := []) ⟨hx, hb, hml, hown, hts⟩ (c_X2_places l hJ M (r_sp α.2.2) hr0.2.1.1 hr0.2.1.2) (cwV 0 hts gX4_row_X2_places rfl rfl rfl (by decide +kernel) ⟨Nat.le_of_ble_eq_true rfl, Nat.le_of_ble_eq_true rfl⟩) ⟨fl_blind, va_recv hK hP (ci := 4) (q0 := 8) rfl (fl_at (by decide) rfl), fl_pre hP hK hN⟩ rfl rfl hl.1 rfl (lv_room (Nat.le_of_ble_eq_true rfl)) dX4_row_70 ⟨Nat.le_of_ble_eq_true rfl, Nat.le_of_ble_eq_true rfl⟩) hS (fun _ _ h => h) (fun _ h => h) (fun r70 M70 t H1 locs ht hvm hw hB hz1 hk1 hS => ?_)
        have hP : va_P D vwCl (fcP cI cII ad M70) H1 := by rw [← ht]; exact hB
        clear hB hk1 hz1 hvm ht t
        obtain ⟨rfl, hE⟩ := hw
        rw [hE] at hP
        exact W.iret (v := nI (r_sp α.2.2 + 1)) hx hb hr (fun t ht hW => ⟨⟨nI (r_sp α.2.2 + 1), M, rfl, (by have ho : o_row α x y = nI (r_sp α.2.2 + 1) := (by unfold o_row; first | (rw [if_neg hn0, q1, if_neg z0, if_pos h1] <;> rfl) | (simp only [if_neg hn0, q1, if_neg z0, if_pos h1])); rw [ho]; exact ⟨rfl, rfl⟩), fl_qi ht hP⟩, hS.F ht⟩) hS.2.2 dX4_row_73
      · refine lv_lookup (off := 46) (tgt := 74) hx hb dX4_row_28 (by decide) (by show Op.lookupswitch.offset [(0, 28), (1, 38)] 46 y.toInt = 46; rw [lv_osw (k := 0) z0 (by decide), lv_osw (k := 1) z1 (by decide)]; rfl) (by decide) ?_
        refine lv_ldc (v := -1000002) hx hb hown (hts (.constant RX4 38 (-1000002)) (by decide +kernel)) dX4_row_74 ?_
        exact W.iret (v := (-1000002)) hx hb hr (fun t ht hW => ⟨⟨(-1000002), M, rfl, (by have ho : o_row α x y = (-1000002) := (by unfold o_row; first | (rw [if_neg hn0, q1, if_neg z0, if_neg z1] <;> rfl) | (simp only [if_neg hn0, q1, if_neg z0, if_neg z1])); rw [ho]; exact ⟨rfl, rfl⟩), fl_qi ht hP⟩, hS.F ht⟩) hS.2.2 dX4_row_76

set_option maxHeartbeats 4000000 in
set_option maxRecDepth 100000 in
theorem c_X4_weight (l : Launch) {D : va_G} {cI cJ cII : ClassId} {ad : Nat → Nat} (hJ : fl_inj 62 ad) (M : fl_M) (α : a_A) (hA : fc_A α M) (x : Int32) : Met l yX4_weight wsX4_weight ({ frames := 1, cells := 0, slots := 0, locals := 21 } : Room) (fcPc D cI cJ cII ad M [.ref (ad 0), .int x]) (va_Ql (fun r M2 => r = o_weight α x ∧ M2 = M) (fcQ D cI cII ad) (fl_A 62 ad)) 0 0 (fl_A 62 ad) := by
  refine Met.ofW (cc := cX4_weight) (maxL := 2) (ret := (some .long)) (by decide) rfl ?_
  intro p e s m args below meth c s₁ B hml hv
  obtain ⟨rfl, hP, hK, hN⟩ := hv
  have hx := B.exec
  have hb := B.bytes
  have hr := B.returns
  have hts := atoms_spec (ws := wsX4_weight) B.pre
  have hown : s.vm.findClass RX4 = some m.cls := findClass_of_methodNamed B.named
  have hlocks := B.notSynchronized
  have inX2 : ∀ w ∈ u_ws RX2 TX2 13, w ∈ wsX4_weight := by decide +kernel
  have inX4 : ∀ w ∈ u_ws RX4 TX4 3, w ∈ wsX4_weight := by decide +kernel
  have hS : va_S (fl_A 62 ad) s.heap s.heap [] := va_S.rf
  have hl := lv_entry ([.ref (ad 0), .int x] : List Value) (n := 2) (Nat.le_of_ble_eq_true rfl)
  rw [lg_entry_eq]
  generalize (lg_sl ([.ref (ad 0), .int x] : List Value) ++ List.replicate (2 - (lg_sl ([.ref (ad 0), .int x] : List Value)).length) Slot.unset).toArray = ls at hl ⊢
  have hl : lv_has ls 2 [(0, .ref (ad 0)), (1, .int x)] := hl
  obtain ⟨hT, hd, hr0⟩ := id hA
  refine lv_aload_n hx hb dX4_weight_0 rfl (lv_at hl 0 rfl) ?_
  refine va_get (D := D) (ci := 6) (v := .ref (ad 8)) (C := RX4) (T := TX4) (N := 3) hx hb hts inX4 hown hK hP 0 (fl_at (by decide) rfl) rfl 2 (by decide) (hts (.fieldLink RX4 26 "ResampledRows" "run" "LResampledRows$Run;") (by decide +kernel)) (fun _ h9 => h9) rfl dX4_weight_1 ?_
  refine va_calli (va_runV (As := []) (rest := []) ⟨hx, hb, hml, hown, hts⟩ (c_X2_isBegun l hJ M (r_n α.2.2) hr0.1.1 hr0.1.2) (cwV 0 hts gX4_weight_X2_isBegun rfl rfl rfl (by decide +kernel) ⟨Nat.le_of_ble_eq_true rfl, Nat.le_of_ble_eq_true rfl⟩) ⟨fl_blind, va_recv hK hP (ci := 4) (q0 := 8) rfl (fl_at (by decide) rfl), fl_pre hP hK hN⟩ rfl rfl hl.1 rfl (lv_room (Nat.le_of_ble_eq_true rfl)) dX4_weight_4 ⟨Nat.le_of_ble_eq_true rfl, Nat.le_of_ble_eq_true rfl⟩) hS (fun _ _ h => h) (fun _ h => h) (fun r4 M4 t H1 locs ht hvm hw hB hz1 hk1 hS => ?_)
  have hP : va_P D vwCl (fcP cI cII ad M4) H1 := by rw [← ht]; exact hB
  clear hB hk1 hz1 hvm ht t
  obtain ⟨rfl, hE⟩ := hw
  rw [hE] at hP
  by_cases hn0 : r_n α.2.2 = 0
  · refine fl_ti (y := 0) (if_pos hn0) ?_
    refine lv_if_ne (tgt := 14) hx hb dX4_weight_7 (by decide) (fun hz => absurd hz (by decide)) (fun _ => ?_)
    refine lv_ldc2 (v := -1000003) hx hb hown (hts (.constantLong RX4 130 (-1000003)) (by decide +kernel)) dX4_weight_10 ?_
    exact W.lret (v := -1000003) hx hb hr (fun t ht hW => ⟨⟨-1000003, M, rfl, (by have ho : o_weight α x = -1000003 := (by unfold o_weight; first | (rw [if_pos hn0] <;> rfl) | (simp only [if_pos hn0])); rw [ho]; exact ⟨rfl, rfl⟩), fl_qi ht hP⟩, hS.F ht⟩) hS.2.2 dX4_weight_13
  · refine fl_ti (y := 1) (if_neg hn0) ?_
    refine lv_if_ne (tgt := 14) hx hb dX4_weight_7 (by decide) (fun _ => ?_) (fun hz => absurd hz (by decide))
    refine lv_aload_n hx hb dX4_weight_14 rfl (lv_at hl 0 rfl) ?_
    refine va_get (D := D) (ci := 6) (v := .ref (ad 8)) (C := RX4) (T := TX4) (N := 3) hx hb hts inX4 hown hK hP 0 (fl_at (by decide) rfl) rfl 2 (by decide) (hts (.fieldLink RX4 26 "ResampledRows" "run" "LResampledRows$Run;") (by decide +kernel)) (fun _ h9 => h9) rfl dX4_weight_15 ?_
    refine lv_iload_n hx hb dX4_weight_18 rfl (lv_at hl 1 rfl) ?_
    refine va_calli (va_runV (As := [.int x]) (rest := []) ⟨hx, hb, hml, hown, hts⟩ (c_X2_hasRow l hJ M (r_n α.2.2) x hr0.1.1 hr0.1.2) (cwV 1 hts gX4_weight_X2_hasRow rfl rfl rfl (by decide +kernel) ⟨Nat.le_of_ble_eq_true rfl, Nat.le_of_ble_eq_true rfl⟩) ⟨fl_blind, va_recv hK hP (ci := 4) (q0 := 8) rfl (fl_at (by decide) rfl), fl_pre hP hK hN⟩ rfl rfl hl.1 rfl (lv_room (Nat.le_of_ble_eq_true rfl)) dX4_weight_19 ⟨Nat.le_of_ble_eq_true rfl, Nat.le_of_ble_eq_true rfl⟩) hS (fun _ _ h => h) (fun _ h => h) (fun r19 M19 t H1 locs ht hvm hw hB hz1 hk1 hS => ?_)
    have hP : va_P D vwCl (fcP cI cII ad M19) H1 := by rw [← ht]; exact hB
    clear hB hk1 hz1 hvm ht t
    obtain ⟨rfl, hE⟩ := hw
    rw [hE] at hP
    rcases q1 : a_ix x (r_n α.2.2) with _ | j
    · refine fl_ti (y := 0) (by first | rfl | (rw [q1]; rfl)) ?_
      refine lv_if_ne (tgt := 29) hx hb dX4_weight_22 (by decide) (fun hz => absurd hz (by decide)) (fun _ => ?_)
      refine lv_ldc2 (v := -1000001) hx hb hown (hts (.constantLong RX4 132 (-1000001)) (by decide +kernel)) dX4_weight_25 ?_
      exact W.lret (v := -1000001) hx hb hr (fun t ht hW => ⟨⟨-1000001, M, rfl, (by have ho : o_weight α x = -1000001 := (by unfold o_weight; first | (rw [if_neg hn0, q1] <;> rfl) | (simp only [if_neg hn0, q1])); rw [ho]; exact ⟨rfl, rfl⟩), fl_qi ht hP⟩, hS.F ht⟩) hS.2.2 dX4_weight_28
    · obtain ⟨q1_1, q1_2, q1_3⟩ := a_ix_some q1
      refine fl_ti (y := 1) (by first | rfl | (rw [q1]; rfl)) ?_
      refine lv_if_ne (tgt := 29) hx hb dX4_weight_22 (by decide) (fun _ => ?_) (fun hz => absurd hz (by decide))
      refine lv_aload_n hx hb dX4_weight_29 rfl (lv_at hl 0 rfl) ?_
      refine va_get (D := D) (ci := 6) (v := .ref (ad 8)) (C := RX4) (T := TX4) (N := 3) hx hb hts inX4 hown hK hP 0 (fl_at (by decide) rfl) rfl 2 (by decide) (hts (.fieldLink RX4 26 "ResampledRows" "run" "LResampledRows$Run;") (by decide +kernel)) (fun _ h9 => h9) rfl dX4_weight_30 ?_
      refine va_get (D := D) (ci := 4) (v := .ref (ad (M.2.2.2 8 8))) (C := RX2) (T := TX2) (N := 13) hx hb hts inX2 hown hK hP 8 (fl_at (by decide) rfl) rfl 8 (by decide) (hts (.fieldLink RX4 134 "ResampledRows$Run" "weights" "[I") (by decide +kernel)) (fun _ h9 => h9) rfl dX4_weight_33 ?_
      refine lv_iload_n hx hb dX4_weight_36 rfl (lv_at hl 1 rfl) ?_
      refine fl_ti (y := nI j) q1_2 ?_
      refine fl_ild (n := 16) (k := j) hx hb hK hP (fc_a cI cII ad _ hr0.2.2.2.2.2.1.l8 (by decide)) rfl rfl (by have := hr0.1.1; omega) (by decide) dX4_weight_37 ?_
      refine fl_ti (y := nI (r_wt α.2.2 j)) ((hr0.2.2.2.2.2.2.2.1 j q1_1).1) ?_
      refine lv_i2l (v := (nI (r_wt α.2.2 j)).toInt64) hx hb dX4_weight_38 rfl ?_
      refine fl_tl (y := lN (r_wt α.2.2 j)) (nI_l (by have := (hr0.2.2.2.2.2.2.2.1 j q1_1).2; omega)) ?_
      exact W.lret (v := lN (r_wt α.2.2 j)) hx hb hr (fun t ht hW => ⟨⟨lN (r_wt α.2.2 j), M, rfl, (by have ho : o_weight α x = lN (r_wt α.2.2 j) := (by unfold o_weight; first | (rw [if_neg hn0, q1] <;> rfl) | (simp only [if_neg hn0, q1])); rw [ho]; exact ⟨rfl, rfl⟩), fl_qi ht hP⟩, hS.F ht⟩) hS.2.2 dX4_weight_39

set_option maxHeartbeats 4000000 in
set_option maxRecDepth 100000 in
theorem c_X4_write (l : Launch) {D : va_G} {cI cJ cII : ClassId} {ad : Nat → Nat} (hJ : fl_inj 62 ad) (M : fl_M) (α : a_A) (hA : fc_A α M) (x y z : Int32) : Met l yX4_write wsX4_write ({ frames := 2, cells := 0, slots := 0, locals := 41 } : Room) (fcPc D cI cJ cII ad M [.ref (ad 0), .int x, .int y, .int z]) (va_Qi (fun r M2 => r = (o_write α x y z).1 ∧ fc_A (o_write α x y z).2 M2) (fcQ D cI cII ad) (fl_A 62 ad)) 0 0 (fl_A 62 ad) := by
  refine Met.ofW (cc := cX4_write) (maxL := 4) (ret := (some .int)) (by decide) rfl ?_
  intro p e s m args below meth c s₁ B hml hv
  obtain ⟨rfl, hP, hK, hN⟩ := hv
  have hx := B.exec
  have hb := B.bytes
  have hr := B.returns
  have hts := atoms_spec (ws := wsX4_write) B.pre
  have hown : s.vm.findClass RX4 = some m.cls := findClass_of_methodNamed B.named
  have hlocks := B.notSynchronized
  have inX2 : ∀ w ∈ u_ws RX2 TX2 13, w ∈ wsX4_write := by decide +kernel
  have inX4 : ∀ w ∈ u_ws RX4 TX4 3, w ∈ wsX4_write := by decide +kernel
  have hS : va_S (fl_A 62 ad) s.heap s.heap [] := va_S.rf
  have hl := lv_entry ([.ref (ad 0), .int x, .int y, .int z] : List Value) (n := 4) (Nat.le_of_ble_eq_true rfl)
  rw [lg_entry_eq]
  generalize (lg_sl ([.ref (ad 0), .int x, .int y, .int z] : List Value) ++ List.replicate (4 - (lg_sl ([.ref (ad 0), .int x, .int y, .int z] : List Value)).length) Slot.unset).toArray = ls at hl ⊢
  have hl : lv_has ls 4 [(0, .ref (ad 0)), (1, .int x), (2, .int y), (3, .int z)] := hl
  obtain ⟨hT, hd, hr0⟩ := id hA
  refine lv_aload_n hx hb dX4_write_0 rfl (lv_at hl 0 rfl) ?_
  refine va_get (D := D) (ci := 6) (v := .ref (ad 8)) (C := RX4) (T := TX4) (N := 3) hx hb hts inX4 hown hK hP 0 (fl_at (by decide) rfl) rfl 2 (by decide) (hts (.fieldLink RX4 26 "ResampledRows" "run" "LResampledRows$Run;") (by decide +kernel)) (fun _ h9 => h9) rfl dX4_write_1 ?_
  refine va_calli (va_runV (As := []) (rest := []) ⟨hx, hb, hml, hown, hts⟩ (c_X2_isBegun l hJ M (r_n α.2.2) hr0.1.1 hr0.1.2) (cwV 0 hts gX4_write_X2_isBegun rfl rfl rfl (by decide +kernel) ⟨Nat.le_of_ble_eq_true rfl, Nat.le_of_ble_eq_true rfl⟩) ⟨fl_blind, va_recv hK hP (ci := 4) (q0 := 8) rfl (fl_at (by decide) rfl), fl_pre hP hK hN⟩ rfl rfl hl.1 rfl (lv_room (Nat.le_of_ble_eq_true rfl)) dX4_write_4 ⟨Nat.le_of_ble_eq_true rfl, Nat.le_of_ble_eq_true rfl⟩) hS (fun _ _ h => h) (fun _ h => h) (fun r4 M4 t H1 locs ht hvm hw hB hz1 hk1 hS => ?_)
  have hP : va_P D vwCl (fcP cI cII ad M4) H1 := by rw [← ht]; exact hB
  clear hB hk1 hz1 hvm ht t
  obtain ⟨rfl, hE⟩ := hw
  rw [hE] at hP
  by_cases hn0 : r_n α.2.2 = 0
  · refine fl_ti (y := 0) (if_pos hn0) ?_
    refine lv_if_ne (tgt := 13) hx hb dX4_write_7 (by decide) (fun hz => absurd hz (by decide)) (fun _ => ?_)
    refine lv_ldc (v := -1000003) hx hb hown (hts (.constant RX4 84 (-1000003)) (by decide +kernel)) dX4_write_10 ?_
    exact W.iret (v := (-1000003)) hx hb hr (fun t ht hW => ⟨⟨(-1000003), M, rfl, (by have ho : o_write α x y z = ((-1000003), α) := (by unfold o_write; first | (rw [if_pos hn0] <;> rfl) | (simp only [if_pos hn0])); rw [ho]; exact ⟨rfl, hA⟩), fl_qi ht hP⟩, hS.F ht⟩) hS.2.2 dX4_write_12
  · refine fl_ti (y := 1) (if_neg hn0) ?_
    refine lv_if_ne (tgt := 13) hx hb dX4_write_7 (by decide) (fun _ => ?_) (fun hz => absurd hz (by decide))
    refine lv_aload_n hx hb dX4_write_13 rfl (lv_at hl 0 rfl) ?_
    refine va_get (D := D) (ci := 6) (v := .ref (ad 8)) (C := RX4) (T := TX4) (N := 3) hx hb hts inX4 hown hK hP 0 (fl_at (by decide) rfl) rfl 2 (by decide) (hts (.fieldLink RX4 26 "ResampledRows" "run" "LResampledRows$Run;") (by decide +kernel)) (fun _ h9 => h9) rfl dX4_write_14 ?_
    refine lv_iload_n hx hb dX4_write_17 rfl (lv_at hl 1 rfl) ?_
    refine va_calli (va_runV (As := [.int x]) (rest := []) ⟨hx, hb, hml, hown, hts⟩ (c_X2_hasRow l hJ M (r_n α.2.2) x hr0.1.1 hr0.1.2) (cwV 1 hts gX4_write_X2_hasRow rfl rfl rfl (by decide +kernel) ⟨Nat.le_of_ble_eq_true rfl, Nat.le_of_ble_eq_true rfl⟩) ⟨fl_blind, va_recv hK hP (ci := 4) (q0 := 8) rfl (fl_at (by decide) rfl), fl_pre hP hK hN⟩ rfl rfl hl.1 rfl (lv_room (Nat.le_of_ble_eq_true rfl)) dX4_write_18 ⟨Nat.le_of_ble_eq_true rfl, Nat.le_of_ble_eq_true rfl⟩) hS (fun _ _ h => h) (fun _ h => h) (fun r18 M18 t H1 locs ht hvm hw hB hz1 hk1 hS => ?_)
    have hP : va_P D vwCl (fcP cI cII ad M18) H1 := by rw [← ht]; exact hB
    clear hB hk1 hz1 hvm ht t
    obtain ⟨rfl, hE⟩ := hw
    rw [hE] at hP
    rcases q1 : a_ix x (r_n α.2.2) with _ | j
    · refine fl_ti (y := 0) (by first | rfl | (rw [q1]; rfl)) ?_
      refine lv_if_eq (tgt := 31) hx hb dX4_write_21 (by decide) (fun _ => ?_) (fun hz => absurd (by decide) hz)
      refine lv_ldc (v := -1000001) hx hb hown (hts (.constant RX4 34 (-1000001)) (by decide +kernel)) dX4_write_31 ?_
      exact W.iret (v := (-1000001)) hx hb hr (fun t ht hW => ⟨⟨(-1000001), M, rfl, (by have ho : o_write α x y z = ((-1000001), α) := (by unfold o_write; first | (rw [if_neg hn0, q1] <;> rfl) | (simp only [if_neg hn0, q1])); rw [ho]; exact ⟨rfl, hA⟩), fl_qi ht hP⟩, hS.F ht⟩) hS.2.2 dX4_write_33
    · obtain ⟨q1_1, q1_2, q1_3⟩ := a_ix_some q1
      refine fl_ti (y := 1) (by first | rfl | (rw [q1]; rfl)) ?_
      refine lv_if_eq (tgt := 31) hx hb dX4_write_21 (by decide) (fun hz => absurd hz (by decide)) (fun _ => ?_)
      refine lv_iload_n hx hb dX4_write_24 rfl (lv_at hl 3 rfl) ?_
      refine va_calli (va_runS (As := [.int z]) (rest := []) ⟨hx, hb, hml, hown, hts⟩ (c_X4_isState l hJ M z) (va_cwS 1 hts gX4_write_X4_isState rfl rfl rfl (by decide +kernel) ⟨Nat.le_of_ble_eq_true rfl, Nat.le_of_ble_eq_true rfl⟩) ⟨fl_blind, fl_pre hP hK hN⟩ rfl rfl hl.1 rfl (lv_room (Nat.le_of_ble_eq_true rfl)) dX4_write_25 ⟨Nat.le_of_ble_eq_true rfl, Nat.le_of_ble_eq_true rfl⟩) hS (fun _ _ h => h) (fun _ h => h) (fun r25 M25 t H1 locs ht hvm hw hB hz1 hk1 hS => ?_)
      have hP : va_P D vwCl (fcP cI cII ad M25) H1 := by rw [← ht]; exact hB
      clear hB hk1 hz1 hvm ht t
      obtain ⟨rfl, hE⟩ := hw
      rw [hE] at hP
      rcases q2 : a_ix z 6 with _ | v
      · refine fl_ti (y := 0) (by first | rfl | (rw [q2]; rfl)) ?_
        refine lv_if_ne (tgt := 34) hx hb dX4_write_28 (by decide) (fun hz => absurd hz (by decide)) (fun _ => ?_)
        refine lv_ldc (v := -1000001) hx hb hown (hts (.constant RX4 34 (-1000001)) (by decide +kernel)) dX4_write_31 ?_
        exact W.iret (v := (-1000001)) hx hb hr (fun t ht hW => ⟨⟨(-1000001), M, rfl, (by have ho : o_write α x y z = ((-1000001), α) := (by unfold o_write; first | (rw [if_neg hn0, q1, q2] <;> rfl) | (simp only [if_neg hn0, q1, q2])); rw [ho]; exact ⟨rfl, hA⟩), fl_qi ht hP⟩, hS.F ht⟩) hS.2.2 dX4_write_33
      · obtain ⟨q2_1, q2_2, q2_3⟩ := a_ix_some q2
        refine fl_ti (y := 1) (by first | rfl | (rw [q2]; rfl)) ?_
        refine lv_if_ne (tgt := 34) hx hb dX4_write_28 (by decide) (fun _ => ?_) (fun hz => absurd hz (by decide))
        refine lv_aload_n hx hb dX4_write_34 rfl (lv_at hl 0 rfl) ?_
        refine va_get (D := D) (ci := 6) (v := .ref (ad 8)) (C := RX4) (T := TX4) (N := 3) hx hb hts inX4 hown hK hP 0 (fl_at (by decide) rfl) rfl 2 (by decide) (hts (.fieldLink RX4 26 "ResampledRows" "run" "LResampledRows$Run;") (by decide +kernel)) (fun _ h9 => h9) rfl dX4_write_35 ?_
        refine lv_iload_n hx hb dX4_write_38 rfl (lv_at hl 2 rfl) ?_
        refine va_calli (va_runV (As := [.int y]) (rest := []) ⟨hx, hb, hml, hown, hts⟩ (c_X2_hasPlace l hJ M (r_sp α.2.2) y hr0.2.1.1 hr0.2.1.2) (cwV 1 hts gX4_write_X2_hasPlace rfl rfl rfl (by decide +kernel) ⟨Nat.le_of_ble_eq_true rfl, Nat.le_of_ble_eq_true rfl⟩) ⟨fl_blind, va_recv hK hP (ci := 4) (q0 := 8) rfl (fl_at (by decide) rfl), fl_pre hP hK hN⟩ rfl rfl hl.1 rfl (lv_room (Nat.le_of_ble_eq_true rfl)) dX4_write_39 ⟨Nat.le_of_ble_eq_true rfl, Nat.le_of_ble_eq_true rfl⟩) hS (fun _ _ h => h) (fun _ h => h) (fun r39 M39 t H1 locs ht hvm hw hB hz1 hk1 hS => ?_)
        have hP : va_P D vwCl (fcP cI cII ad M39) H1 := by rw [← ht]; exact hB
        clear hB hk1 hz1 hvm ht t
        obtain ⟨rfl, hE⟩ := hw
        rw [hE] at hP
        rcases q3 : a_ix y (r_sp α.2.2 + 1) with _ | i
        · refine fl_ti (y := 0) (by first | rfl | (rw [q3]; rfl)) ?_
          refine lv_if_ne (tgt := 48) hx hb dX4_write_42 (by decide) (fun hz => absurd hz (by decide)) (fun _ => ?_)
          refine lv_ldc (v := -1000002) hx hb hown (hts (.constant RX4 38 (-1000002)) (by decide +kernel)) dX4_write_45 ?_
          exact W.iret (v := (-1000002)) hx hb hr (fun t ht hW => ⟨⟨(-1000002), M, rfl, (by have ho : o_write α x y z = ((-1000002), α) := (by unfold o_write; first | (rw [if_neg hn0, q1, q2, q3] <;> rfl) | (simp only [if_neg hn0, q1, q2, q3])); rw [ho]; exact ⟨rfl, hA⟩), fl_qi ht hP⟩, hS.F ht⟩) hS.2.2 dX4_write_47
        · obtain ⟨q3_1, q3_2, q3_3⟩ := a_ix_some q3
          refine fl_ti (y := 1) (by first | rfl | (rw [q3]; rfl)) ?_
          refine lv_if_ne (tgt := 48) hx hb dX4_write_42 (by decide) (fun _ => ?_) (fun hz => absurd hz (by decide))
          refine lv_aload_n hx hb dX4_write_48 rfl (lv_at hl 0 rfl) ?_
          refine va_get (D := D) (ci := 6) (v := .ref (ad 8)) (C := RX4) (T := TX4) (N := 3) hx hb hts inX4 hown hK hP 0 (fl_at (by decide) rfl) rfl 2 (by decide) (hts (.fieldLink RX4 26 "ResampledRows" "run" "LResampledRows$Run;") (by decide +kernel)) (fun _ h9 => h9) rfl dX4_write_49 ?_
          refine va_get (D := D) (ci := 4) (v := .ref (ad (M.2.2.2 8 9))) (C := RX2) (T := TX2) (N := 13) hx hb hts inX2 hown hK hP 8 (fl_at (by decide) rfl) rfl 9 (by decide) (hts (.fieldLink RX4 147 "ResampledRows$Run" "histories" "[[I") (by decide +kernel)) (fun _ h9 => h9) rfl dX4_write_52 ?_
          refine lv_iload_n hx hb dX4_write_55 rfl (lv_at hl 1 rfl) ?_
          refine fl_ti (y := nI j) q1_2 ?_
          refine fl_ald (k := j) (f := fun j => ad (fc_hb (M.2.2.2 8 9) + j)) hx hb hK hP (fc_hat cI cII ad _ hr0.2.2.2.2.2.1.s3.1) rfl rfl (by have := hr0.1.1; omega) (by decide) dX4_write_56 ?_
          refine lv_iload_n hx hb dX4_write_57 rfl (lv_at hl 2 rfl) ?_
          refine fl_ti (y := nI i) q3_2 ?_
          refine lv_iload_n hx hb dX4_write_58 rfl (lv_at hl 3 rfl) ?_
          have hbj := fc_hb_in (M.2.2.2 8 9) j (by have := hr0.1.1; omega)
          refine fl_ti (y := nI v) q2_2 ?_
          refine fl_ist (n := 31) (k := i) (x := nI v) hx hb hK hJ hP hS (fc_loc cI cII ad) (fc_a cI cII ad _ (fc_hb_len (by have := hr0.1.1; omega)) (by decide)) (fc_arr cI cII ad _ (fc_hb_len (by have := hr0.1.1; omega)) (by decide)).2 rfl rfl (by have := hr0.2.1.1; omega) (by decide) dX4_write_59 (fun H locs hP hS => ?_)
          refine lv_iconst (v := 1) hx hb dX4_write_60 (by decide) ?_
          exact W.iret (v := 1) hx hb hr (fun t ht hW => ⟨⟨1, (fl_sI M (fc_hb (M.2.2.2 8 9) + j) i (nI v)), rfl, (by have ho : o_write α x y z = (1, (α.1, α.2.1, a_wh α.2.2 j i v)) := (by unfold o_write; first | (rw [if_neg hn0, q1, q2, q3] <;> rfl) | (simp only [if_neg hn0, q1, q2, q3])); rw [ho]; exact ⟨rfl, ⟨hT.eq (P := fc_tb) (fl_eq.rf.sI (by unfold fc_tb; omega) _ _) (fun c hc => hc), hd.eq (P := fun c => c = 6 ∨ c = 7) (fl_eq.rf.sI (by omega) _ _) (Or.inl rfl) (Or.inr rfl), hr0.wh q1_1 q2_1⟩⟩), fl_qi ht hP⟩, hS.F ht⟩) hS.2.2 dX4_write_61

set_option maxHeartbeats 4000000 in
set_option maxRecDepth 100000 in
theorem c_X4_told (l : Launch) {D : va_G} {cI cJ cII : ClassId} {ad : Nat → Nat} (hJ : fl_inj 62 ad) (M : fl_M) (α : a_A) (hA : fc_A α M) (x : Int32) : Met l yX4_told wsX4_told ({ frames := 3, cells := 0, slots := 0, locals := 66 } : Room) (fcPc D cI cJ cII ad M [.ref (ad 0), .int x]) (va_Ql (fun r M2 => r = o_told α x ∧ M2 = M) (fcQ D cI cII ad) (fl_A 62 ad)) 0 0 (fl_A 62 ad) := by
  refine Met.ofW (cc := cX4_told) (maxL := 2) (ret := (some .long)) (by decide) rfl ?_
  intro p e s m args below meth c s₁ B hml hv
  obtain ⟨rfl, hP, hK, hN⟩ := hv
  have hx := B.exec
  have hb := B.bytes
  have hr := B.returns
  have hts := atoms_spec (ws := wsX4_told) B.pre
  have hown : s.vm.findClass RX4 = some m.cls := findClass_of_methodNamed B.named
  have hlocks := B.notSynchronized
  have inX4 : ∀ w ∈ u_ws RX4 TX4 3, w ∈ wsX4_told := by decide +kernel
  have hS : va_S (fl_A 62 ad) s.heap s.heap [] := va_S.rf
  have hl := lv_entry ([.ref (ad 0), .int x] : List Value) (n := 2) (Nat.le_of_ble_eq_true rfl)
  rw [lg_entry_eq]
  generalize (lg_sl ([.ref (ad 0), .int x] : List Value) ++ List.replicate (2 - (lg_sl ([.ref (ad 0), .int x] : List Value)).length) Slot.unset).toArray = ls at hl ⊢
  have hl : lv_has ls 2 [(0, .ref (ad 0)), (1, .int x)] := hl
  obtain ⟨hT, hd, hr0⟩ := id hA
  refine lv_aload_n hx hb dX4_told_0 rfl (lv_at hl 0 rfl) ?_
  refine va_get (D := D) (ci := 6) (v := .ref (ad 8)) (C := RX4) (T := TX4) (N := 3) hx hb hts inX4 hown hK hP 0 (fl_at (by decide) rfl) rfl 2 (by decide) (hts (.fieldLink RX4 26 "ResampledRows" "run" "LResampledRows$Run;") (by decide +kernel)) (fun _ h9 => h9) rfl dX4_told_1 ?_
  refine va_calli (va_runV (As := []) (rest := []) ⟨hx, hb, hml, hown, hts⟩ (c_X2_isBegun l hJ M (r_n α.2.2) hr0.1.1 hr0.1.2) (cwV 0 hts gX4_told_X2_isBegun rfl rfl rfl (by decide +kernel) ⟨Nat.le_of_ble_eq_true rfl, Nat.le_of_ble_eq_true rfl⟩) ⟨fl_blind, va_recv hK hP (ci := 4) (q0 := 8) rfl (fl_at (by decide) rfl), fl_pre hP hK hN⟩ rfl rfl hl.1 rfl (lv_room (Nat.le_of_ble_eq_true rfl)) dX4_told_4 ⟨Nat.le_of_ble_eq_true rfl, Nat.le_of_ble_eq_true rfl⟩) hS (fun _ _ h => h) (fun _ h => h) (fun r4 M4 t H1 locs ht hvm hw hB hz1 hk1 hS => ?_)
  have hP : va_P D vwCl (fcP cI cII ad M4) H1 := by rw [← ht]; exact hB
  clear hB hk1 hz1 hvm ht t
  obtain ⟨rfl, hE⟩ := hw
  rw [hE] at hP
  by_cases hn0 : r_n α.2.2 = 0
  · refine fl_ti (y := 0) (if_pos hn0) ?_
    refine lv_if_ne (tgt := 14) hx hb dX4_told_7 (by decide) (fun hz => absurd hz (by decide)) (fun _ => ?_)
    refine lv_ldc2 (v := -1000003) hx hb hown (hts (.constantLong RX4 130 (-1000003)) (by decide +kernel)) dX4_told_10 ?_
    exact W.lret (v := -1000003) hx hb hr (fun t ht hW => ⟨⟨-1000003, M, rfl, (by have ho : o_told α x = -1000003 := (by unfold o_told; first | (rw [if_pos hn0] <;> rfl) | (simp only [if_pos hn0])); rw [ho]; exact ⟨rfl, rfl⟩), fl_qi ht hP⟩, hS.F ht⟩) hS.2.2 dX4_told_13
  · refine fl_ti (y := 1) (if_neg hn0) ?_
    refine lv_if_ne (tgt := 14) hx hb dX4_told_7 (by decide) (fun _ => ?_) (fun hz => absurd hz (by decide))
    refine lv_iload_n hx hb dX4_told_14 rfl (lv_at hl 1 rfl) ?_
    rcases fl_c3 x with h0 | ⟨z0, h1⟩ | ⟨z0, z1, h2⟩ | ⟨z0, z1, z2⟩
    · refine lv_tableIn (off := 25) (tgt := 40) hx hb dX4_told_15 (by rw [h0]; decide) (by rw [h0]; decide) (by rw [h0]; decide) (by decide) ?_
      refine lv_aload_n hx hb dX4_told_40 rfl (lv_at hl 0 rfl) ?_
      refine va_get (D := D) (ci := 6) (v := .ref (ad 8)) (C := RX4) (T := TX4) (N := 3) hx hb hts inX4 hown hK hP 0 (fl_at (by decide) rfl) rfl 2 (by decide) (hts (.fieldLink RX4 26 "ResampledRows" "run" "LResampledRows$Run;") (by decide +kernel)) (fun _ h9 => h9) rfl dX4_told_41 ?_
      refine va_calll (va_runV (As := []) (rest := []) ⟨hx, hb, hml, hown, hts⟩ (c_X2_total l hJ M (r_n α.2.2) (r_wt α.2.2) hr0.1.1 hr0.1.2 hr0.2.2.2.2.2.1.l8 hr0.2.2.2.2.2.2.2.1) (cwV 0 hts gX4_told_X2_total rfl rfl rfl (by decide +kernel) ⟨Nat.le_of_ble_eq_true rfl, Nat.le_of_ble_eq_true rfl⟩) ⟨fl_blind, va_recv hK hP (ci := 4) (q0 := 8) rfl (fl_at (by decide) rfl), fl_pre hP hK hN⟩ rfl rfl hl.1 rfl (lv_room (Nat.le_of_ble_eq_true rfl)) dX4_told_44 ⟨Nat.le_of_ble_eq_true rfl, Nat.le_of_ble_eq_true rfl⟩) hS (fun _ _ h => h) (fun _ h => h) (fun r44 M44 t H1 locs ht hvm hw hB hz1 hk1 hS => ?_)
      have hP : va_P D vwCl (fcP cI cII ad M44) H1 := by rw [← ht]; exact hB
      clear hB hk1 hz1 hvm ht t
      obtain ⟨rfl, hE⟩ := hw
      rw [hE] at hP
      exact W.lret (v := lN (a_sum (r_wt α.2.2) (r_n α.2.2))) hx hb hr (fun t ht hW => ⟨⟨lN (a_sum (r_wt α.2.2) (r_n α.2.2)), M, rfl, (by have ho : o_told α x = lN (a_sum (r_wt α.2.2) (r_n α.2.2)) := (by unfold o_told; first | (rw [if_neg hn0, if_pos h0] <;> rfl) | (simp only [if_neg hn0, if_pos h0])); rw [ho]; exact ⟨rfl, rfl⟩), fl_qi ht hP⟩, hS.F ht⟩) hS.2.2 dX4_told_47
    · refine lv_tableIn (off := 33) (tgt := 48) hx hb dX4_told_15 (by rw [h1]; decide) (by rw [h1]; decide) (by rw [h1]; decide) (by decide) ?_
      refine lv_aload_n hx hb dX4_told_48 rfl (lv_at hl 0 rfl) ?_
      refine va_get (D := D) (ci := 6) (v := .ref (ad 8)) (C := RX4) (T := TX4) (N := 3) hx hb hts inX4 hown hK hP 0 (fl_at (by decide) rfl) rfl 2 (by decide) (hts (.fieldLink RX4 26 "ResampledRows" "run" "LResampledRows$Run;") (by decide +kernel)) (fun _ h9 => h9) rfl dX4_told_49 ?_
      refine va_calll (va_runV (As := []) (rest := []) ⟨hx, hb, hml, hown, hts⟩ (c_X2_squares l hJ M (r_n α.2.2) (r_wt α.2.2) hr0.1.1 hr0.1.2 hr0.2.2.2.2.2.1.l8 hr0.2.2.2.2.2.2.2.1) (cwV 0 hts gX4_told_X2_squares rfl rfl rfl (by decide +kernel) ⟨Nat.le_of_ble_eq_true rfl, Nat.le_of_ble_eq_true rfl⟩) ⟨fl_blind, va_recv hK hP (ci := 4) (q0 := 8) rfl (fl_at (by decide) rfl), fl_pre hP hK hN⟩ rfl rfl hl.1 rfl (lv_room (Nat.le_of_ble_eq_true rfl)) dX4_told_52 ⟨Nat.le_of_ble_eq_true rfl, Nat.le_of_ble_eq_true rfl⟩) hS (fun _ _ h => h) (fun _ h => h) (fun r52 M52 t H1 locs ht hvm hw hB hz1 hk1 hS => ?_)
      have hP : va_P D vwCl (fcP cI cII ad M52) H1 := by rw [← ht]; exact hB
      clear hB hk1 hz1 hvm ht t
      obtain ⟨rfl, hE⟩ := hw
      rw [hE] at hP
      exact W.lret (v := lN (a_Q (r_wt α.2.2) (r_n α.2.2))) hx hb hr (fun t ht hW => ⟨⟨lN (a_Q (r_wt α.2.2) (r_n α.2.2)), M, rfl, (by have ho : o_told α x = lN (a_Q (r_wt α.2.2) (r_n α.2.2)) := (by unfold o_told; first | (rw [if_neg hn0, if_neg z0, if_pos h1] <;> rfl) | (simp only [if_neg hn0, if_neg z0, if_pos h1])); rw [ho]; exact ⟨rfl, rfl⟩), fl_qi ht hP⟩, hS.F ht⟩) hS.2.2 dX4_told_55
    · refine lv_tableIn (off := 41) (tgt := 56) hx hb dX4_told_15 (by rw [h2]; decide) (by rw [h2]; decide) (by rw [h2]; decide) (by decide) ?_
      refine lv_aload_n hx hb dX4_told_56 rfl (lv_at hl 0 rfl) ?_
      refine va_get (D := D) (ci := 6) (v := .ref (ad 8)) (C := RX4) (T := TX4) (N := 3) hx hb hts inX4 hown hK hP 0 (fl_at (by decide) rfl) rfl 2 (by decide) (hts (.fieldLink RX4 26 "ResampledRows" "run" "LResampledRows$Run;") (by decide +kernel)) (fun _ h9 => h9) rfl dX4_told_57 ?_
      refine va_calll (va_runV (As := []) (rest := []) ⟨hx, hb, hml, hown, hts⟩ (c_X2_effective l hJ M (r_n α.2.2) (r_wt α.2.2) hr0.1.1 hr0.1.2 hr0.2.2.2.2.2.1.l8 hr0.2.2.2.2.2.2.2.1) (cwV 0 hts gX4_told_X2_effective rfl rfl rfl (by decide +kernel) ⟨Nat.le_of_ble_eq_true rfl, Nat.le_of_ble_eq_true rfl⟩) ⟨fl_blind, va_recv hK hP (ci := 4) (q0 := 8) rfl (fl_at (by decide) rfl), fl_pre hP hK hN⟩ rfl rfl hl.1 rfl (lv_room (Nat.le_of_ble_eq_true rfl)) dX4_told_60 ⟨Nat.le_of_ble_eq_true rfl, Nat.le_of_ble_eq_true rfl⟩) hS (fun _ _ h => h) (fun _ h => h) (fun r60 M60 t H1 locs ht hvm hw hB hz1 hk1 hS => ?_)
      have hP : va_P D vwCl (fcP cI cII ad M60) H1 := by rw [← ht]; exact hB
      clear hB hk1 hz1 hvm ht t
      obtain ⟨rfl, hE⟩ := hw
      rw [hE] at hP
      exact W.lret (v := lN (a_eff (r_wt α.2.2) (r_n α.2.2))) hx hb hr (fun t ht hW => ⟨⟨lN (a_eff (r_wt α.2.2) (r_n α.2.2)), M, rfl, (by have ho : o_told α x = lN (a_eff (r_wt α.2.2) (r_n α.2.2)) := (by unfold o_told; first | (rw [if_neg hn0, if_neg z0, if_neg z1, if_pos h2] <;> rfl) | (simp only [if_neg hn0, if_neg z0, if_neg z1, if_pos h2])); rw [ho]; exact ⟨rfl, rfl⟩), fl_qi ht hP⟩, hS.F ht⟩) hS.2.2 dX4_told_63
    · refine lv_tableOut (tgt := 64) hx hb dX4_told_15 (fl_o3 z0 z1 z2) (by decide) ?_
      refine lv_ldc2 (v := -1000002) hx hb hown (hts (.constantLong RX4 156 (-1000002)) (by decide +kernel)) dX4_told_64 ?_
      exact W.lret (v := -1000002) hx hb hr (fun t ht hW => ⟨⟨-1000002, M, rfl, (by have ho : o_told α x = -1000002 := (by unfold o_told; first | (rw [if_neg hn0, if_neg z0, if_neg z1, if_neg z2] <;> rfl) | (simp only [if_neg hn0, if_neg z0, if_neg z1, if_neg z2])); rw [ho]; exact ⟨rfl, rfl⟩), fl_qi ht hP⟩, hS.F ht⟩) hS.2.2 dX4_told_67

set_option maxHeartbeats 4000000 in
set_option maxRecDepth 100000 in
theorem c_X4_evidence (l : Launch) {D : va_G} {cI cJ cII : ClassId} {ad : Nat → Nat} (hJ : fl_inj 62 ad) (M : fl_M) (α : a_A) (hA : fc_A α M) : MetD lw_cs l yX4_evidence wsX4_evidence ({ frames := 3, cells := 0, slots := 0, locals := 64 } : Room) (fcPc D cI cJ cII ad M [.ref (ad 0)]) (va_Qd (fun r M2 => alike64 r (o_ev α) = true ∧ M2 = M) (fcQ D cI cII ad) (fl_A 62 ad)) 0 0 (fl_A 62 ad) := by
  refine MetD.ofW (cc := cX4_evidence) (maxL := 1) (ret := (some .double)) (by decide) rfl ?_
  intro p e s m args below meth c s₁ B hml hv hd0
  obtain ⟨rfl, hP, hK, hN⟩ := hv
  have hx := B.exec
  have hb := B.bytes
  have hr := B.returns
  have hts0 := atoms_spec (ws := wsX4_evidence) B.pre
  have hts := dr_words hts0 s.drawn
  have hown : s.vm.findClass RX4 = some m.cls := findClass_of_methodNamed B.named
  have hlocks := B.notSynchronized
  have inX4 : ∀ w ∈ u_ws RX4 TX4 3, w ∈ wsX4_evidence := by decide +kernel
  have hS : va_S (fl_A 62 ad) s.heap s.heap [] := va_S.rf
  have hl := lv_entry ([.ref (ad 0)] : List Value) (n := 1) (Nat.le_of_ble_eq_true rfl)
  rw [lg_entry_eq]
  generalize (lg_sl ([.ref (ad 0)] : List Value) ++ List.replicate (1 - (lg_sl ([.ref (ad 0)] : List Value)).length) Slot.unset).toArray = ls at hl ⊢
  have hl : lv_has ls 1 [(0, .ref (ad 0))] := hl
  have hd0 := hd0
  obtain ⟨hT, hd, hr0⟩ := id hA
  refine lv_aload_n hx hb dX4_evidence_0 rfl (lv_at hl 0 rfl) ?_
  refine va_get (D := D) (ci := 6) (v := .ref (ad 8)) (C := RX4) (T := TX4) (N := 3) hx hb hts inX4 hown hK hP 0 (fl_at (by decide) rfl) rfl 2 (by decide) (hts (.fieldLink RX4 26 "ResampledRows" "run" "LResampledRows$Run;") (by decide +kernel)) (fun _ h9 => h9) rfl dX4_evidence_1 ?_
  refine va_calli (va_runV (As := []) (rest := []) ⟨hx, hb, hml, hown, hts⟩ (c_X2_isBegun l hJ M (r_n α.2.2) hr0.1.1 hr0.1.2) (cwV 0 hts gX4_evidence_X2_isBegun rfl rfl rfl (by decide +kernel) ⟨Nat.le_of_ble_eq_true rfl, Nat.le_of_ble_eq_true rfl⟩) ⟨fl_blind, va_recv hK hP (ci := 4) (q0 := 8) rfl (fl_at (by decide) rfl), fl_pre hP hK hN⟩ rfl rfl hl.1 rfl (lv_room (Nat.le_of_ble_eq_true rfl)) dX4_evidence_4 ⟨Nat.le_of_ble_eq_true rfl, Nat.le_of_ble_eq_true rfl⟩) hS (fun _ _ h => h) (fun _ h => h) (fun r4 M4 t H1 locs ht hvm hw hB hz1 hk1 hS => ?_)
  have hP : va_P D vwCl (fcP cI cII ad M4) H1 := by rw [← ht]; exact hB
  clear hB hk1 hz1 hvm ht t
  obtain ⟨rfl, hE⟩ := hw
  rw [hE] at hP
  by_cases hn0 : r_n α.2.2 = 0
  · refine fl_ti (y := 0) (if_pos hn0) ?_
    refine lv_if_eq (tgt := 20) hx hb dX4_evidence_7 (by decide) (fun _ => ?_) (fun hz => absurd (by decide) hz)
    refine lv_dconst0 hx hb dX4_evidence_20 ?_
    refine W.endD hd0 ?_
    exact W.dret (v := FP.dconst0) hx hb hr (fun t ht hW => ⟨⟨FP.dconst0, M, rfl, (by rw [show o_ev α = FP.dconst0 from if_pos hn0]; exact ⟨alike64_refl _, rfl⟩), fl_qi ht hP⟩, hS.F ht⟩) hS.2.2 dX4_evidence_21
  · refine fl_ti (y := 1) (if_neg hn0) ?_
    refine lv_if_eq (tgt := 20) hx hb dX4_evidence_7 (by decide) (fun hz => absurd hz (by decide)) (fun _ => ?_)
    refine lv_aload_n hx hb dX4_evidence_10 rfl (lv_at hl 0 rfl) ?_
    refine va_get (D := D) (ci := 6) (v := .ref (ad 8)) (C := RX4) (T := TX4) (N := 3) hx hb hts inX4 hown hK hP 0 (fl_at (by decide) rfl) rfl 2 (by decide) (hts (.fieldLink RX4 26 "ResampledRows" "run" "LResampledRows$Run;") (by decide +kernel)) (fun _ h9 => h9) rfl dX4_evidence_11 ?_
    refine va_calldD hd0 (va_runV_D (As := []) (rest := []) ⟨hx, hb, hml, hown, hts⟩ (c_X2_evidenceSoFar l hJ M (r_n α.2.2) (r_wt α.2.2) hr0.1.1 hr0.1.2 hr0.2.2.2.2.2.1.l8 hr0.2.2.2.2.2.2.2.1 (r_mu α.2.2) hr0.2.2.2.2.1) (cwV 0 hts gX4_evidence_X2_evidenceSoFar rfl rfl rfl (by decide +kernel) ⟨Nat.le_of_ble_eq_true rfl, Nat.le_of_ble_eq_true rfl⟩) ⟨fl_blind, va_recv hK hP (ci := 4) (q0 := 8) rfl (fl_at (by decide) rfl), fl_pre hP hK hN⟩ rfl rfl hl.1 rfl (lv_room (Nat.le_of_ble_eq_true rfl)) dX4_evidence_14 ⟨Nat.le_of_ble_eq_true rfl, Nat.le_of_ble_eq_true rfl⟩) hS (fun _ _ h => h) (fun _ h => h) (fun r14 M14 t H1 locs ht hvm hw hB hz1 hk1 hS d14 hd14 => ?_)
    have hP : va_P D vwCl (fcP cI cII ad M14) H1 := by rw [← ht]; exact hB
    clear hB hk1 hz1 hvm ht t
    have hd0 := hd14
    have hts := dr_words hts0 d14
    obtain ⟨hal, hE⟩ := hw
    rw [hE] at hP
    refine lv_goto (tgt := 21) hx hb dX4_evidence_17 (by decide) ?_
    refine W.endD hd0 ?_
    exact W.dret (v := r14) hx hb hr (fun t ht hW => ⟨⟨r14, M, rfl, (by rw [show o_ev α = a_ev (r_mu α.2.2) (r_wt α.2.2) (r_n α.2.2) from if_neg hn0]; exact ⟨hal, rfl⟩), fl_qi ht hP⟩, hS.F ht⟩) hS.2.2 dX4_evidence_21

set_option maxHeartbeats 4000000 in
set_option maxRecDepth 100000 in
theorem c_X4_count (l : Launch) {D : va_G} {cI cJ cII : ClassId} {ad : Nat → Nat} (hJ : fl_inj 62 ad) (M : fl_M) (α : a_A) (hA : fc_A α M) (x : Int32) : Met l yX4_count wsX4_count ({ frames := 0, cells := 0, slots := 0, locals := 0 } : Room) (fcPc D cI cJ cII ad M [.ref (ad 0), .int x]) (va_Qi (fun r M2 => r = o_count α x ∧ M2 = M) (fcQ D cI cII ad) (fl_A 62 ad)) 0 0 (fl_A 62 ad) := by
  refine Met.ofW (cc := cX4_count) (maxL := 2) (ret := (some .int)) (by decide) rfl ?_
  intro p e s m args below meth c s₁ B hml hv
  obtain ⟨rfl, hP, hK, hN⟩ := hv
  have hx := B.exec
  have hb := B.bytes
  have hr := B.returns
  have hts := atoms_spec (ws := wsX4_count) B.pre
  have hown : s.vm.findClass RX4 = some m.cls := findClass_of_methodNamed B.named
  have hlocks := B.notSynchronized
  have inX0 : ∀ w ∈ u_ws RX0 TX0 4, w ∈ wsX4_count := by decide +kernel
  have inX2 : ∀ w ∈ u_ws RX2 TX2 13, w ∈ wsX4_count := by decide +kernel
  have inX4 : ∀ w ∈ u_ws RX4 TX4 3, w ∈ wsX4_count := by decide +kernel
  have hS : va_S (fl_A 62 ad) s.heap s.heap [] := va_S.rf
  have hl := lv_entry ([.ref (ad 0), .int x] : List Value) (n := 2) (Nat.le_of_ble_eq_true rfl)
  rw [lg_entry_eq]
  generalize (lg_sl ([.ref (ad 0), .int x] : List Value) ++ List.replicate (2 - (lg_sl ([.ref (ad 0), .int x] : List Value)).length) Slot.unset).toArray = ls at hl ⊢
  have hl : lv_has ls 2 [(0, .ref (ad 0)), (1, .int x)] := hl
  obtain ⟨hT, hd, hr0⟩ := id hA
  have hlen : M.1 6 2 = nI α.2.1.1.length := by
    obtain ⟨f0, h1, h2, h3, h4, -⟩ := id hd
    exact h3
  refine lv_iload_n hx hb dX4_count_0 rfl (lv_at hl 1 rfl) ?_
  rcases fl_c5 x with h0 | ⟨z0, h1⟩ | ⟨z0, z1, h2⟩ | ⟨z0, z1, z2, h3⟩ | ⟨z0, z1, z2, z3, h4⟩ | ⟨z0, z1, z2, z3, z4⟩
  · refine lv_tableIn (off := 35) (tgt := 36) hx hb dX4_count_1 (by rw [h0]; decide) (by rw [h0]; decide) (by rw [h0]; decide) (by decide) ?_
    refine lv_aload_n hx hb dX4_count_36 rfl (lv_at hl 0 rfl) ?_
    refine va_get (D := D) (ci := 6) (v := .ref (ad 8)) (C := RX4) (T := TX4) (N := 3) hx hb hts inX4 hown hK hP 0 (fl_at (by decide) rfl) rfl 2 (by decide) (hts (.fieldLink RX4 26 "ResampledRows" "run" "LResampledRows$Run;") (by decide +kernel)) (fun _ h9 => h9) rfl dX4_count_37 ?_
    refine va_get (D := D) (ci := 4) (v := .int (M.1 8 2)) (C := RX2) (T := TX2) (N := 13) hx hb hts inX2 hown hK hP 8 (fl_at (by decide) rfl) rfl 2 (by decide) (hts (.fieldLink RX4 162 "ResampledRows$Run" "n" "I") (by decide +kernel)) (fun _ h9 => h9) rfl dX4_count_40 ?_
    refine fl_ti (y := nI (r_n α.2.2)) hr0.1.2 ?_
    exact W.iret (v := nI (r_n α.2.2)) hx hb hr (fun t ht hW => ⟨⟨nI (r_n α.2.2), M, rfl, (by have ho : o_count α x = nI (r_n α.2.2) := (by unfold o_count; first | (rw [if_pos h0] <;> rfl) | (simp only [if_pos h0])); rw [ho]; exact ⟨rfl, rfl⟩), fl_qi ht hP⟩, hS.F ht⟩) hS.2.2 dX4_count_43
  · refine lv_tableIn (off := 43) (tgt := 44) hx hb dX4_count_1 (by rw [h1]; decide) (by rw [h1]; decide) (by rw [h1]; decide) (by decide) ?_
    refine lv_aload_n hx hb dX4_count_44 rfl (lv_at hl 0 rfl) ?_
    refine va_get (D := D) (ci := 6) (v := .ref (ad 8)) (C := RX4) (T := TX4) (N := 3) hx hb hts inX4 hown hK hP 0 (fl_at (by decide) rfl) rfl 2 (by decide) (hts (.fieldLink RX4 26 "ResampledRows" "run" "LResampledRows$Run;") (by decide +kernel)) (fun _ h9 => h9) rfl dX4_count_45 ?_
    refine va_get (D := D) (ci := 4) (v := .int (M.1 8 3)) (C := RX2) (T := TX2) (N := 13) hx hb hts inX2 hown hK hP 8 (fl_at (by decide) rfl) rfl 3 (by decide) (hts (.fieldLink RX4 92 "ResampledRows$Run" "steps" "I") (by decide +kernel)) (fun _ h9 => h9) rfl dX4_count_48 ?_
    refine fl_ti (y := nI (r_sp α.2.2)) hr0.2.1.2 ?_
    exact W.iret (v := nI (r_sp α.2.2)) hx hb hr (fun t ht hW => ⟨⟨nI (r_sp α.2.2), M, rfl, (by have ho : o_count α x = nI (r_sp α.2.2) := (by unfold o_count; first | (rw [if_neg z0, if_pos h1] <;> rfl) | (simp only [if_neg z0, if_pos h1])); rw [ho]; exact ⟨rfl, rfl⟩), fl_qi ht hP⟩, hS.F ht⟩) hS.2.2 dX4_count_51
  · refine lv_tableIn (off := 51) (tgt := 52) hx hb dX4_count_1 (by rw [h2]; decide) (by rw [h2]; decide) (by rw [h2]; decide) (by decide) ?_
    refine lv_aload_n hx hb dX4_count_52 rfl (lv_at hl 0 rfl) ?_
    refine va_get (D := D) (ci := 6) (v := .ref (ad 8)) (C := RX4) (T := TX4) (N := 3) hx hb hts inX4 hown hK hP 0 (fl_at (by decide) rfl) rfl 2 (by decide) (hts (.fieldLink RX4 26 "ResampledRows" "run" "LResampledRows$Run;") (by decide +kernel)) (fun _ h9 => h9) rfl dX4_count_53 ?_
    refine va_get (D := D) (ci := 4) (v := .int (M.1 8 4)) (C := RX2) (T := TX2) (N := 13) hx hb hts inX2 hown hK hP 8 (fl_at (by decide) rfl) rfl 4 (by decide) (hts (.fieldLink RX4 117 "ResampledRows$Run" "timesAnew" "I") (by decide +kernel)) (fun _ h9 => h9) rfl dX4_count_56 ?_
    refine fl_ti (y := nI (r_an α.2.2)) hr0.2.2.1.2 ?_
    exact W.iret (v := nI (r_an α.2.2)) hx hb hr (fun t ht hW => ⟨⟨nI (r_an α.2.2), M, rfl, (by have ho : o_count α x = nI (r_an α.2.2) := (by unfold o_count; first | (rw [if_neg z0, if_neg z1, if_pos h2] <;> rfl) | (simp only [if_neg z0, if_neg z1, if_pos h2])); rw [ho]; exact ⟨rfl, rfl⟩), fl_qi ht hP⟩, hS.F ht⟩) hS.2.2 dX4_count_59
  · refine lv_tableIn (off := 59) (tgt := 60) hx hb dX4_count_1 (by rw [h3]; decide) (by rw [h3]; decide) (by rw [h3]; decide) (by decide) ?_
    refine lv_aload_n hx hb dX4_count_60 rfl (lv_at hl 0 rfl) ?_
    refine va_get (D := D) (ci := 6) (v := .ref (ad 6)) (C := RX4) (T := TX4) (N := 3) hx hb hts inX4 hown hK hP 0 (fl_at (by decide) rfl) rfl 1 (by decide) (hts (.fieldLink RX4 19 "ResampledRows" "draws" "LResampledRows$Draws;") (by decide +kernel)) (fun _ h9 => h9) rfl dX4_count_61 ?_
    refine va_get (D := D) (ci := 2) (v := .int (M.1 6 2)) (C := RX0) (T := TX0) (N := 4) hx hb hts inX0 hown hK hP 6 (fl_at (by decide) rfl) rfl 2 (by decide) (hts (.fieldLink RX4 63 "ResampledRows$Draws" "left" "I") (by decide +kernel)) (fun _ h9 => h9) rfl dX4_count_64 ?_
    refine fl_ti (y := nI α.2.1.1.length) hlen ?_
    exact W.iret (v := nI α.2.1.1.length) hx hb hr (fun t ht hW => ⟨⟨nI α.2.1.1.length, M, rfl, (by have ho : o_count α x = nI α.2.1.1.length := (by unfold o_count; first | (rw [if_neg z0, if_neg z1, if_neg z2, if_pos h3] <;> rfl) | (simp only [if_neg z0, if_neg z1, if_neg z2, if_pos h3])); rw [ho]; exact ⟨rfl, rfl⟩), fl_qi ht hP⟩, hS.F ht⟩) hS.2.2 dX4_count_67
  · refine lv_tableIn (off := 67) (tgt := 68) hx hb dX4_count_1 (by rw [h4]; decide) (by rw [h4]; decide) (by rw [h4]; decide) (by decide) ?_
    refine lv_aload_n hx hb dX4_count_68 rfl (lv_at hl 0 rfl) ?_
    refine va_get (D := D) (ci := 6) (v := .ref (ad 8)) (C := RX4) (T := TX4) (N := 3) hx hb hts inX4 hown hK hP 0 (fl_at (by decide) rfl) rfl 2 (by decide) (hts (.fieldLink RX4 26 "ResampledRows" "run" "LResampledRows$Run;") (by decide +kernel)) (fun _ h9 => h9) rfl dX4_count_69 ?_
    refine va_get (D := D) (ci := 4) (v := .int (M.1 8 5)) (C := RX2) (T := TX2) (N := 13) hx hb hts inX2 hown hK hP 8 (fl_at (by decide) rfl) rfl 5 (by decide) (hts (.fieldLink RX4 89 "ResampledRows$Run" "kept" "I") (by decide +kernel)) (fun _ h9 => h9) rfl dX4_count_72 ?_
    refine fl_ti (y := a_oI (r_kp α.2.2) (-1000009)) hr0.2.2.2.1.1 ?_
    exact W.iret (v := a_oI (r_kp α.2.2) (-1000009)) hx hb hr (fun t ht hW => ⟨⟨a_oI (r_kp α.2.2) (-1000009), M, rfl, (by have ho : o_count α x = a_oI (r_kp α.2.2) (-1000009) := (by unfold o_count; first | (rw [if_neg z0, if_neg z1, if_neg z2, if_neg z3, if_pos h4] <;> rfl) | (simp only [if_neg z0, if_neg z1, if_neg z2, if_neg z3, if_pos h4])); rw [ho]; exact ⟨rfl, rfl⟩), fl_qi ht hP⟩, hS.F ht⟩) hS.2.2 dX4_count_75
  · refine lv_tableOut (tgt := 76) hx hb dX4_count_1 (fl_o5 z0 z1 z2 z3 z4) (by decide) ?_
    refine lv_ldc (v := -1000002) hx hb hown (hts (.constant RX4 38 (-1000002)) (by decide +kernel)) dX4_count_76 ?_
    exact W.iret (v := (-1000002)) hx hb hr (fun t ht hW => ⟨⟨(-1000002), M, rfl, (by have ho : o_count α x = (-1000002) := (by unfold o_count; first | (rw [if_neg z0, if_neg z1, if_neg z2, if_neg z3, if_neg z4] <;> rfl) | (simp only [if_neg z0, if_neg z1, if_neg z2, if_neg z3, if_neg z4])); rw [ho]; exact ⟨rfl, rfl⟩), fl_qi ht hP⟩, hS.F ht⟩) hS.2.2 dX4_count_78

set_option maxHeartbeats 4000000 in
set_option maxRecDepth 100000 in
theorem c_X4_clear (l : Launch) {D : va_G} {cI cJ cII : ClassId} {ad : Nat → Nat} (hJ : fl_inj 62 ad) (M : fl_M) (α : a_A) (hA : fc_A α M) : Met l yX4_clear wsX4_clear ({ frames := 2, cells := 0, slots := 0, locals := 44 } : Room) (fcPc D cI cJ cII ad M [.ref (ad 0)]) (va_Qi (fun r M2 => r = (o_clear α).1 ∧ fc_A (o_clear α).2 M2) (fcQ D cI cII ad) (fl_A 62 ad)) 0 0 (fl_A 62 ad) := by
  refine Met.ofW (cc := cX4_clear) (maxL := 2) (ret := (some .int)) (by decide) rfl ?_
  intro p e s m args below meth c s₁ B hml hv
  obtain ⟨rfl, hP, hK, hN⟩ := hv
  have hx := B.exec
  have hb := B.bytes
  have hr := B.returns
  have hts := atoms_spec (ws := wsX4_clear) B.pre
  have hown : s.vm.findClass RX4 = some m.cls := findClass_of_methodNamed B.named
  have hlocks := B.notSynchronized
  have inX2 : ∀ w ∈ u_ws RX2 TX2 13, w ∈ wsX4_clear := by decide +kernel
  have inX4 : ∀ w ∈ u_ws RX4 TX4 3, w ∈ wsX4_clear := by decide +kernel
  have hS : va_S (fl_A 62 ad) s.heap s.heap [] := va_S.rf
  have hl := lv_entry ([.ref (ad 0)] : List Value) (n := 2) (Nat.le_of_ble_eq_true rfl)
  rw [lg_entry_eq]
  generalize (lg_sl ([.ref (ad 0)] : List Value) ++ List.replicate (2 - (lg_sl ([.ref (ad 0)] : List Value)).length) Slot.unset).toArray = ls at hl ⊢
  have hl : lv_has ls 2 [(0, .ref (ad 0))] := hl
  obtain ⟨hT, hd, hr0⟩ := id hA
  refine lv_aload_n hx hb dX4_clear_0 rfl (lv_at hl 0 rfl) ?_
  refine va_get (D := D) (ci := 6) (v := .ref (ad 8)) (C := RX4) (T := TX4) (N := 3) hx hb hts inX4 hown hK hP 0 (fl_at (by decide) rfl) rfl 2 (by decide) (hts (.fieldLink RX4 26 "ResampledRows" "run" "LResampledRows$Run;") (by decide +kernel)) (fun _ h9 => h9) rfl dX4_clear_1 ?_
  refine va_get (D := D) (ci := 4) (v := .int (M.1 8 2)) (C := RX2) (T := TX2) (N := 13) hx hb hts inX2 hown hK hP 8 (fl_at (by decide) rfl) rfl 2 (by decide) (hts (.fieldLink RX4 162 "ResampledRows$Run" "n" "I") (by decide +kernel)) (fun _ h9 => h9) rfl dX4_clear_4 ?_
  refine fl_ti (y := nI (r_n α.2.2)) hr0.1.2 ?_
  refine lv_istore_n (lv' := [(1, .int (nI (r_n α.2.2))), (0, .ref (ad 0))]) hx hb dX4_clear_7 rfl hl (by decide) rfl (fun ls hl => ?_)
  refine lv_aload_n hx hb dX4_clear_8 rfl (lv_at hl 1 rfl) ?_
  refine va_get (D := D) (ci := 6) (v := .ref (ad 1)) (C := RX4) (T := TX4) (N := 3) hx hb hts inX4 hown hK hP 0 (fl_at (by decide) rfl) rfl 0 (by decide) (hts (.fieldLink RX4 10 "ResampledRows" "tables" "LResampledRows$Tables;") (by decide +kernel)) (fun _ h9 => h9) rfl dX4_clear_9 ?_
  refine va_callv (va_runV (As := []) (rest := []) ⟨hx, hb, hml, hown, hts⟩ (c_X3_setAsAtFirst l hJ M) (cwV 0 hts gX4_clear_X3_setAsAtFirst rfl rfl rfl (by decide +kernel) ⟨Nat.le_of_ble_eq_true rfl, Nat.le_of_ble_eq_true rfl⟩) ⟨fl_blind, va_recv hK hP (ci := 5) (q0 := 1) rfl (fl_at (by decide) rfl), fl_pre hP hK hN⟩ rfl rfl hl.1 rfl (lv_room (Nat.le_of_ble_eq_true rfl)) dX4_clear_12 ⟨Nat.le_of_ble_eq_true rfl, Nat.le_of_ble_eq_true rfl⟩) hS (fun _ _ h => h) (fun _ h => h) (fun M12 t H1 locs ht hvm hw hB hz1 hk1 hS => ?_)
  have hP : va_P D vwCl (fcP cI cII ad M12) H1 := by rw [← ht]; exact hB
  clear hB hk1 hz1 hvm ht t
  obtain ⟨hT2, he2⟩ := hw
  refine lv_aload_n hx hb dX4_clear_15 rfl (lv_at hl 1 rfl) ?_
  refine va_get (D := D) (ci := 6) (v := .ref (ad 6)) (C := RX4) (T := TX4) (N := 3) hx hb hts inX4 hown hK hP 0 (fl_at (by decide) rfl) rfl 1 (by decide) (hts (.fieldLink RX4 19 "ResampledRows" "draws" "LResampledRows$Draws;") (by decide +kernel)) (fun _ h9 => h9) rfl dX4_clear_16 ?_
  refine va_callv (va_runV (As := []) (rest := []) ⟨hx, hb, hml, hown, hts⟩ (c_X0_setAsAtFirst l hJ M12) (cwV 0 hts gX4_clear_X0_setAsAtFirst rfl rfl rfl (by decide +kernel) ⟨Nat.le_of_ble_eq_true rfl, Nat.le_of_ble_eq_true rfl⟩) ⟨fl_blind, va_recv hK hP (ci := 2) (q0 := 6) rfl (fl_at (by decide) rfl), fl_pre hP hK hN⟩ rfl rfl hl.1 rfl (lv_room (Nat.le_of_ble_eq_true rfl)) dX4_clear_19 ⟨Nat.le_of_ble_eq_true rfl, Nat.le_of_ble_eq_true rfl⟩) hS (fun _ _ h => h) (fun _ h => h) (fun M19 t H1 locs ht hvm hw hB hz1 hk1 hS => ?_)
  have hP : va_P D vwCl (fcP cI cII ad M19) H1 := by rw [← ht]; exact hB
  clear hB hk1 hz1 hvm ht t
  obtain ⟨hD3, he3⟩ := hw
  refine lv_aload_n hx hb dX4_clear_22 rfl (lv_at hl 1 rfl) ?_
  refine va_get (D := D) (ci := 6) (v := .ref (ad 8)) (C := RX4) (T := TX4) (N := 3) hx hb hts inX4 hown hK hP 0 (fl_at (by decide) rfl) rfl 2 (by decide) (hts (.fieldLink RX4 26 "ResampledRows" "run" "LResampledRows$Run;") (by decide +kernel)) (fun _ h9 => h9) rfl dX4_clear_23 ?_
  refine va_callv (va_runV (As := []) (rest := []) ⟨hx, hb, hml, hown, hts⟩ (c_X2_end l hJ M19) (cwV 0 hts gX4_clear_X2_end rfl rfl rfl (by decide +kernel) ⟨Nat.le_of_ble_eq_true rfl, Nat.le_of_ble_eq_true rfl⟩) ⟨fl_blind, va_recv hK hP (ci := 4) (q0 := 8) rfl (fl_at (by decide) rfl), fl_pre hP hK hN⟩ rfl rfl hl.1 rfl (lv_room (Nat.le_of_ble_eq_true rfl)) dX4_clear_26 ⟨Nat.le_of_ble_eq_true rfl, Nat.le_of_ble_eq_true rfl⟩) hS (fun _ _ h => h) (fun _ h => h) (fun M26 t H1 locs ht hvm hw hB hz1 hk1 hS => ?_)
  have hP : va_P D vwCl (fcP cI cII ad M26) H1 := by rw [← ht]; exact hB
  clear hB hk1 hz1 hvm ht t
  rw [hw] at hP
  refine lv_iload_n hx hb dX4_clear_29 rfl (lv_at hl 0 rfl) ?_
  exact W.iret (v := nI (r_n α.2.2)) hx hb hr (fun t ht hW => ⟨⟨nI (r_n α.2.2), (fl_sG (fl_sI (fl_sI (fl_sI (fl_sI M19 8 2 0) 8 3 0) 8 4 0) 8 5 (-1000009)) 8 FP.dconst1), rfl, ⟨rfl, hT2.eq (P := fc_tb) ((he3.mono (fun c hc => by unfold fc_tb at hc; omega)).tr (((((fl_eq.rf.sI (by unfold fc_tb; omega) _ _).sI (by unfold fc_tb; omega) _ _).sI (by unfold fc_tb; omega) _ _).sI (by unfold fc_tb; omega) _ _).sG (by unfold fc_tb; omega) _)) (fun c hc => hc), hD3.eq (P := fun c => c = 6 ∨ c = 7) (((((fl_eq.rf.sI (by decide) _ _).sI (by decide) _ _).sI (by decide) _ _).sI (by decide) _ _).sG (by decide) _) (Or.inl rfl) (Or.inr rfl), fc_BG_L (M := M19) (d := ([], 0)) (ss := fun _ => 0) (i := 0) (by rw [(he3 8 (by decide)).2.2.2, (he2 8 (by unfold fc_tb; omega)).2.2.2]; exact hr0.2.2.2.2.2.1) (fc_BG_0 hD3)⟩, fl_qi ht hP⟩, hS.F ht⟩) hS.2.2 dX4_clear_30

