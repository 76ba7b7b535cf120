set_option maxHeartbeats 4000000 in
set_option maxRecDepth 100000 in
theorem c_X1_pick (l : Launch) {D : va_G} {cI cJ cII : ClassId} {ad : Nat → Nat} (hJ : fl_inj 62 ad) (M : fl_M) (n : Nat) (kp : Option Nat) (w : Nat → Nat) (hW : fc_W n kp w M) (wy : Nat) (hwy : wy < 4) (d : a_D) (hd : fc_D d M) (hT0 : 0 < a_sum w n) : Met l yX1_pick wsX1_pick ({ frames := 4, cells := 0, slots := 0, locals := 95 } : Room) (fcPc D cI cJ cII ad M [.ref (ad 9), .int (nI wy), .ref (ad 8), .ref (ad 6)]) (va_Qv (fun M2 => fl_row (M2.1 10) (a_picks wy kp n w d).1 n 65 ∧ fc_D (a_picks wy kp n w d).2 M2 ∧ fl_eq fc_PP M M2) (fcQ D cI cII ad) (fl_A 62 ad)) 0 0 (fl_A 62 ad) := by
  refine Met.ofW (cc := cX1_pick) (maxL := 4) (ret := none) (by decide) rfl ?_
  intro p e s m args below meth c s₁ B hml hv
  obtain ⟨rfl, hP, hK, hN⟩ := hv
  have hx := B.exec
  have hb := B.bytes
  have hr := B.returns
  have hts := atoms_spec (ws := wsX1_pick) B.pre
  have hown : s.vm.findClass RX1 = some m.cls := findClass_of_methodNamed B.named
  have hlocks := B.notSynchronized
  have inX1 : ∀ w ∈ u_ws RX1 TX1 2, w ∈ wsX1_pick := by decide +kernel
  have inX2 : ∀ w ∈ u_ws RX2 TX2 13, w ∈ wsX1_pick := by decide +kernel
  have hS : va_S (fl_A 62 ad) s.heap s.heap [] := va_S.rf
  have hl := lv_entry ([.ref (ad 9), .int (nI wy), .ref (ad 8), .ref (ad 6)] : List Value) (n := 4) (Nat.le_of_ble_eq_true rfl)
  rw [lg_entry_eq]
  generalize (lg_sl ([.ref (ad 9), .int (nI wy), .ref (ad 8), .ref (ad 6)] : List Value) ++ List.replicate (4 - (lg_sl ([.ref (ad 9), .int (nI wy), .ref (ad 8), .ref (ad 6)] : List Value)).length) Slot.unset).toArray = ls at hl ⊢
  have hl : lv_has ls 4 [(0, .ref (ad 9)), (1, .int (nI wy)), (2, .ref (ad 8)), (3, .ref (ad 6))] := hl
  obtain ⟨⟨hn0, hn, hn1⟩, ⟨hkp, hkl⟩, hw8, hww⟩ := id hW
  refine lv_aload_n hx hb dX1_pick_0 rfl (lv_at hl 0 rfl) ?_
  refine va_get (D := D) (ci := 3) (v := .ref (ad 10)) (C := RX1) (T := TX1) (N := 2) hx hb hts inX1 hown hK hP 9 (fl_at (by decide) rfl) rfl 0 (by decide) (hts (.fieldLink RX1 9 "ResampledRows$Picks" "times" "[I") (by decide +kernel)) (fun _ h9 => h9) rfl dX1_pick_1 ?_
  refine lv_iconst (v := 0) hx hb dX1_pick_4 (by decide) ?_
  refine va_callv (va_runS (As := [.ref (ad 10), .int 0]) (rest := []) ⟨hx, hb, hml, hown, hts⟩ (c_J7_fill_53178 l hJ M 10 16 0 rfl (by decide)) (va_cwS 2 hts gX1_pick_J7_fill_53178 rfl rfl rfl (by decide +kernel) ⟨Nat.le_of_ble_eq_true rfl, Nat.le_of_ble_eq_true rfl⟩) ⟨fl_blind, fl_pre hP hK hN⟩ rfl rfl hl.1 rfl (lv_room (Nat.le_of_ble_eq_true rfl)) dX1_pick_5 ⟨Nat.le_of_ble_eq_true rfl, Nat.le_of_ble_eq_true rfl⟩) hS (fun _ _ h => h) (fun _ h => h) (fun M5 t H1 locs ht hvm hw hB hz1 hk1 hS => ?_)
  have hP : va_P D vwCl (fcP cI cII ad M5) H1 := by rw [← ht]; exact hB
  clear hB hk1 hz1 hvm ht t
  rw [hw] at hP
  have he5 : fl_eq fc_PP M (fl_fM M 10 0 16) := fl_fM_eq fl_eq.rf (fun z => z.2.1 rfl) _ _
  have hW5 := hW.eq he5
  have hd5 : fc_D d (fl_fM M 10 0 16) := hd.eq (P := fun c => c = 6 ∨ c = 7) (fl_fM_eq fl_eq.rf (by decide) _ _) (Or.inl rfl) (Or.inr rfl)
  have h10 : fl_row ((fl_fM M 10 0 16).1 10) (fun _ => 0) n 1 := fun k hk => ⟨fl_fM_same M 10 0 16 (by omega), Nat.zero_lt_one⟩
  refine lv_iload_n hx hb dX1_pick_8 rfl (lv_at hl 1 rfl) ?_
  rcases (show wy = 0 ∨ wy = 1 ∨ wy = 2 ∨ wy = 3 by omega) with h0 | h1 | h2 | h3
  · have hpk : a_picks wy kp n w d = a_pick (a_f0 w n) (n - a_k0 kp) (a_k0 kp) (a_t0 kp, d) := by rw [h0]; rfl
    refine lv_tableIn (off := 27) (tgt := 36) hx hb dX1_pick_9 (by rw [h0]; decide) (by rw [h0]; decide) (by rw [h0]; decide) (by decide) ?_
    refine lv_aload_n hx hb dX1_pick_36 rfl (lv_at hl 0 rfl) ?_
    refine lv_aload_n hx hb dX1_pick_37 rfl (lv_at hl 2 rfl) ?_
    refine lv_aload_n hx hb dX1_pick_38 rfl (lv_at hl 3 rfl) ?_
    refine va_callv (va_runV (As := [.ref (ad 8), .ref (ad 6)]) (rest := []) ⟨hx, hb, hml, hown, hts⟩ (c_X1_pickEachByWeights l hJ (fl_fM M 10 0 16) n kp w hW5 d hd5 hT0 h10) (cwV 2 hts gX1_pick_X1_pickEachByWeights rfl rfl rfl (by decide +kernel) ⟨Nat.le_of_ble_eq_true rfl, Nat.le_of_ble_eq_true rfl⟩) ⟨fl_blind, va_recv hK hP (ci := 3) (q0 := 9) rfl (fl_at (by decide) rfl), fl_pre hP hK hN⟩ rfl rfl hl.1 rfl (lv_room (Nat.le_of_ble_eq_true rfl)) dX1_pick_39 ⟨Nat.le_of_ble_eq_true rfl, Nat.le_of_ble_eq_true rfl⟩) hS (fun _ _ h => h) (fun _ h => h) (fun M39 t H1 locs ht hvm hw hB hz1 hk1 hS => ?_)
    have hP : va_P D vwCl (fcP cI cII ad M39) H1 := by rw [← ht]; exact hB
    clear hB hk1 hz1 hvm ht t
    obtain ⟨hr9, hD9, he9⟩ := hw
    refine lv_goto (tgt := 81) hx hb dX1_pick_42 (by decide) ?_
    exact W.vret hx hb hr (fun t ht hW => ⟨⟨M39, rfl, ⟨by rw [hpk]; exact hr9.lt (by decide), by rw [hpk]; exact hD9, he5.tr he9⟩, fl_qi ht hP⟩, hS.F ht⟩) hS.2.2 dX1_pick_81
  · have hpk : a_picks wy kp n w d = a_pick (a_f1 w n) (n - a_k0 kp) (a_k0 kp) (a_t0 kp, d) := by rw [h1]; rfl
    refine lv_tableIn (off := 36) (tgt := 45) hx hb dX1_pick_9 (by rw [h1]; decide) (by rw [h1]; decide) (by rw [h1]; decide) (by decide) ?_
    refine lv_aload_n hx hb dX1_pick_45 rfl (lv_at hl 0 rfl) ?_
    refine lv_aload_n hx hb dX1_pick_46 rfl (lv_at hl 2 rfl) ?_
    refine lv_aload_n hx hb dX1_pick_47 rfl (lv_at hl 3 rfl) ?_
    refine va_callv (va_runV (As := [.ref (ad 8), .ref (ad 6)]) (rest := []) ⟨hx, hb, hml, hown, hts⟩ (c_X1_pickWithDrawsOfTheirOwn l hJ (fl_fM M 10 0 16) n kp w hW5 d hd5 hT0 h10) (cwV 2 hts gX1_pick_X1_pickWithDrawsOfTheirOwn rfl rfl rfl (by decide +kernel) ⟨Nat.le_of_ble_eq_true rfl, Nat.le_of_ble_eq_true rfl⟩) ⟨fl_blind, va_recv hK hP (ci := 3) (q0 := 9) rfl (fl_at (by decide) rfl), fl_pre hP hK hN⟩ rfl rfl hl.1 rfl (lv_room (Nat.le_of_ble_eq_true rfl)) dX1_pick_48 ⟨Nat.le_of_ble_eq_true rfl, Nat.le_of_ble_eq_true rfl⟩) hS (fun _ _ h => h) (fun _ h => h) (fun M48 t H1 locs ht hvm hw hB hz1 hk1 hS => ?_)
    have hP : va_P D vwCl (fcP cI cII ad M48) H1 := by rw [← ht]; exact hB
    clear hB hk1 hz1 hvm ht t
    obtain ⟨hr9, hD9, he9⟩ := hw
    refine lv_goto (tgt := 81) hx hb dX1_pick_51 (by decide) ?_
    exact W.vret hx hb hr (fun t ht hW => ⟨⟨M48, rfl, ⟨by rw [hpk]; exact hr9.lt (by decide), by rw [hpk]; exact hD9, he5.tr he9⟩, fl_qi ht hP⟩, hS.F ht⟩) hS.2.2 dX1_pick_81
  · have hpk : a_picks wy kp n w d = a_pick (a_f2 w n ((a_next d).1 % a_sum w n)) (n - a_k0 kp) (a_k0 kp) (a_t0 kp, (a_next d).2) := by rw [h2]; rfl
    refine lv_tableIn (off := 45) (tgt := 54) hx hb dX1_pick_9 (by rw [h2]; decide) (by rw [h2]; decide) (by rw [h2]; decide) (by decide) ?_
    refine lv_aload_n hx hb dX1_pick_54 rfl (lv_at hl 0 rfl) ?_
    refine lv_aload_n hx hb dX1_pick_55 rfl (lv_at hl 2 rfl) ?_
    refine lv_aload_n hx hb dX1_pick_56 rfl (lv_at hl 3 rfl) ?_
    refine va_callv (va_runV (As := [.ref (ad 8), .ref (ad 6)]) (rest := []) ⟨hx, hb, hml, hown, hts⟩ (c_X1_pickWithOneDraw l hJ (fl_fM M 10 0 16) n kp w hW5 d hd5 hT0 h10) (cwV 2 hts gX1_pick_X1_pickWithOneDraw rfl rfl rfl (by decide +kernel) ⟨Nat.le_of_ble_eq_true rfl, Nat.le_of_ble_eq_true rfl⟩) ⟨fl_blind, va_recv hK hP (ci := 3) (q0 := 9) rfl (fl_at (by decide) rfl), fl_pre hP hK hN⟩ rfl rfl hl.1 rfl (lv_room (Nat.le_of_ble_eq_true rfl)) dX1_pick_57 ⟨Nat.le_of_ble_eq_true rfl, Nat.le_of_ble_eq_true rfl⟩) hS (fun _ _ h => h) (fun _ h => h) (fun M57 t H1 locs ht hvm hw hB hz1 hk1 hS => ?_)
    have hP : va_P D vwCl (fcP cI cII ad M57) H1 := by rw [← ht]; exact hB
    clear hB hk1 hz1 hvm ht t
    obtain ⟨hr9, hD9, he9⟩ := hw
    refine lv_goto (tgt := 81) hx hb dX1_pick_60 (by decide) ?_
    exact W.vret hx hb hr (fun t ht hW => ⟨⟨M57, rfl, ⟨by rw [hpk]; exact hr9.lt (by decide), by rw [hpk]; exact hD9, he5.tr he9⟩, fl_qi ht hP⟩, hS.F ht⟩) hS.2.2 dX1_pick_81
  · have hpk : a_picks wy kp n w d = (a_putin kp n (a_pick (a_f0 (a_rests w n) n) (n - a_sum (a_parts w n) n) 0 (a_parts w n, d)).1, (a_pick (a_f0 (a_rests w n) n) (n - a_sum (a_parts w n) n) 0 (a_parts w n, d)).2) := by rw [h3]; rfl
    refine lv_tableOut (tgt := 63) hx hb dX1_pick_9 (Or.inr (by rw [h3]; decide)) (by decide) ?_
    refine lv_aload_n hx hb dX1_pick_63 rfl (lv_at hl 0 rfl) ?_
    refine lv_aload_n hx hb dX1_pick_64 rfl (lv_at hl 2 rfl) ?_
    refine lv_aload_n hx hb dX1_pick_65 rfl (lv_at hl 3 rfl) ?_
    refine va_callv (va_runV (As := [.ref (ad 8), .ref (ad 6)]) (rest := []) ⟨hx, hb, hml, hown, hts⟩ (c_X1_pickByPartsAndRests l hJ (fl_fM M 10 0 16) n kp w hW5 d hd5 hT0) (cwV 2 hts gX1_pick_X1_pickByPartsAndRests rfl rfl rfl (by decide +kernel) ⟨Nat.le_of_ble_eq_true rfl, Nat.le_of_ble_eq_true rfl⟩) ⟨fl_blind, va_recv hK hP (ci := 3) (q0 := 9) rfl (fl_at (by decide) rfl), fl_pre hP hK hN⟩ rfl rfl hl.1 rfl (lv_room (Nat.le_of_ble_eq_true rfl)) dX1_pick_66 ⟨Nat.le_of_ble_eq_true rfl, Nat.le_of_ble_eq_true rfl⟩) hS (fun _ _ h => h) (fun _ h => h) (fun M66 t H1 locs ht hvm hw hB hz1 hk1 hS => ?_)
    have hP : va_P D vwCl (fcP cI cII ad M66) H1 := by rw [← ht]; exact hB
    clear hB hk1 hz1 hvm ht t
    obtain ⟨hr9, hD9, he9⟩ := hw
    have hW66 := hW5.eq he9
    have hk66 := hW66.2.1.1
    have hn66 := hW66.1.2.2
    refine lv_aload_n hx hb dX1_pick_69 rfl (lv_at hl 0 rfl) ?_
    refine lv_aload_n hx hb dX1_pick_70 rfl (lv_at hl 2 rfl) ?_
    refine va_get (D := D) (ci := 4) (v := .int (M66.1 8 5)) (C := RX2) (T := TX2) (N := 13) hx hb hts inX2 hown hK hP 8 (fl_at (by decide) rfl) rfl 5 (by decide) (hts (.fieldLink RX1 37 "ResampledRows$Run" "kept" "I") (by decide +kernel)) (fun _ h9 => h9) rfl dX1_pick_71 ?_
    refine fl_ti (y := a_oI kp (-1000009)) hk66 ?_
    refine lv_aload_n hx hb dX1_pick_74 rfl (lv_at hl 2 rfl) ?_
    refine va_get (D := D) (ci := 4) (v := .int (M66.1 8 2)) (C := RX2) (T := TX2) (N := 13) hx hb hts inX2 hown hK hP 8 (fl_at (by decide) rfl) rfl 2 (by decide) (hts (.fieldLink RX1 43 "ResampledRows$Run" "n" "I") (by decide +kernel)) (fun _ h9 => h9) rfl dX1_pick_75 ?_
    refine fl_ti (y := nI n) hn66 ?_
    refine va_callv (va_runV (As := [.int (a_oI kp (-1000009)), .int (nI n)]) (rest := []) ⟨hx, hb, hml, hown, hts⟩ (c_X1_putIn l hJ M66 n kp _ hn0 hn hkl hr9 (by rw [a_parts_sum hT0]; exact hn0)) (cwV 2 hts gX1_pick_X1_putIn rfl rfl rfl (by decide +kernel) ⟨Nat.le_of_ble_eq_true rfl, Nat.le_of_ble_eq_true rfl⟩) ⟨fl_blind, va_recv hK hP (ci := 3) (q0 := 9) rfl (fl_at (by decide) rfl), fl_pre hP hK hN⟩ rfl rfl hl.1 rfl (lv_room (Nat.le_of_ble_eq_true rfl)) dX1_pick_78 ⟨Nat.le_of_ble_eq_true rfl, Nat.le_of_ble_eq_true rfl⟩) hS (fun _ _ h => h) (fun _ h => h) (fun M78 t H1 locs ht hvm hw hB hz1 hk1 hS => ?_)
    have hP : va_P D vwCl (fcP cI cII ad M78) H1 := by rw [← ht]; exact hB
    clear hB hk1 hz1 hvm ht t
    obtain ⟨hr7, he7⟩ := hw
    exact W.vret hx hb hr (fun t ht hW => ⟨⟨M78, rfl, ⟨by rw [hpk]; exact hr7, by rw [hpk]; exact hD9.eq he7 (by decide) (by decide), (he5.tr he9).tr (he7.mono (fun c hc => hc.2.1))⟩, fl_qi ht hP⟩, hS.F ht⟩) hS.2.2 dX1_pick_81

set_option maxHeartbeats 4000000 in
set_option maxRecDepth 100000 in
theorem c_X2_becomePicked (l : Launch) {D : va_G} {cI cJ cII : ClassId} {ad : Nat → Nat} (hJ : fl_inj 62 ad) (M : fl_M) (r : a_R) (og : Nat → Nat) (hr0 : fc_R r M) (hog : fl_row (M.1 12) og (r_n r) 16) (hol : ∀ k, k < r_n r → og k < r_n r) : Met l yX2_becomePicked wsX2_becomePicked ({ frames := 1, cells := 0, slots := 0, locals := 64 } : Room) (fcPc D cI cJ cII ad M [.ref (ad 8)]) (va_Qv (fun M2 => ∃ M3, fc_BP M (r_sp r) (r_st r) og (r_hi r) (r_n r) M3 ∧ M2 = fc_swq M3) (fcQ D cI cII ad) (fl_A 62 ad)) 0 0 (fl_A 62 ad) := by
  refine Met.ofW (cc := cX2_becomePicked) (maxL := 3) (ret := none) (by decide) rfl ?_
  intro p e s m args below meth c s₁ B hml hv
  obtain ⟨rfl, hP, hK, hN⟩ := hv
  have hx := B.exec
  have hb := B.bytes
  have hr := B.returns
  have hts := atoms_spec (ws := wsX2_becomePicked) B.pre
  have hown : s.vm.findClass RX2 = some m.cls := findClass_of_methodNamed B.named
  have hlocks := B.notSynchronized
  have inX2 : ∀ w ∈ u_ws RX2 TX2 13, w ∈ wsX2_becomePicked := by decide +kernel
  have hS : va_S (fl_A 62 ad) s.heap s.heap [] := va_S.rf
  have hl := lv_entry ([.ref (ad 8)] : List Value) (n := 3) (Nat.le_of_ble_eq_true rfl)
  rw [lg_entry_eq]
  generalize (lg_sl ([.ref (ad 8)] : List Value) ++ List.replicate (3 - (lg_sl ([.ref (ad 8)] : List Value)).length) Slot.unset).toArray = ls at hl ⊢
  have hl : lv_has ls 3 [(0, .ref (ad 8))] := hl
  obtain ⟨⟨h1, h2⟩, ⟨h3, h4⟩, -, -, -, h10, h11, h12, h13, -⟩ := id hr0
  have s1 := h10.s1
  have s2 := h10.s2
  have s3 := h10.s3
  refine lv_iconst (v := 0) hx hb dX2_becomePicked_0 (by decide) ?_
  refine lv_istore_n (lv' := [(1, .int 0), (0, .ref (ad 8))]) hx hb dX2_becomePicked_1 rfl hl (by decide) rfl (fun ls hl => ?_)
  suffices KL2 : ∀ (f : Nat) (i : Nat) (M3 : fl_M) (hi : i ≤ r_n r) (hB : fc_BP M (r_sp r) (r_st r) og (r_hi r) i M3) (hf : r_n r + 1 ≤ i + f), ∀ (H : Heap) (locs : List Loc), va_P D vwCl (fcP cI cII ad M3) H → va_S (fl_A 62 ad) s.heap H locs → ∀ (ls : Array Slot), lv_has ls 3 [(0, .ref (ad 8)), (1, .int (nI i))] → W p l e (headSpec wsX2_becomePicked ({ frames := 1, cells := 0, slots := 0, locals := 64 } : Room)).room s m ([.ref (ad 8)] : List Value).toArray below meth c H locs 0 0 (MQ below (va_Qv (fun M2 => ∃ M3, fc_BP M (r_sp r) (r_st r) og (r_hi r) (r_n r) M3 ∧ M2 = fc_swq M3) (fcQ D cI cII ad) (fl_A 62 ad)) ([.ref (ad 8)] : List Value).toArray s 0 0 (fl_A 62 ad)) (F0 m 2 ls []) from KL2 (r_n r + 1) 0 M (Nat.zero_le _) (⟨fun k hk => absurd hk (Nat.not_lt_zero k), fun k hk => absurd hk (Nat.not_lt_zero k), fun k hk => absurd hk (Nat.not_lt_zero k), fl_eq.rf⟩) (by omega) _ _ hP hS ls (lv_sub hl [1, 0] rfl)
  intro f
  induction f with
  | zero =>
    intro i M3 hi hB hf
    omega
  | succ f ih2 =>
    intro i M3 hi hB hf H locs hP hS ls hl
    have hb3 := fc_hb_two s3.1 s3.2.1 s3.2.2
    have e8 := hB.2.2.2 8 (by unfold fc_PX; omega)
    have hn3 : M3.1 8 2 = nI (r_n r) := by rw [e8.1]; exact h2
    have hR3 : M3.2.2.2 8 = M.2.2.2 8 := e8.2.2.2
    refine lv_iload_n hx hb dX2_becomePicked_2 rfl (lv_at hl 1 rfl) ?_
    refine lv_aload_n hx hb dX2_becomePicked_3 rfl (lv_at hl 0 rfl) ?_
    refine va_get (D := D) (ci := 4) (v := .int (M3.1 8 2)) (C := RX2) (T := TX2) (N := 13) hx hb hts inX2 hown hK hP 8 (fl_at (by decide) rfl) rfl 2 (by decide) (hts (.fieldLink RX2 51 "ResampledRows$Run" "n" "I") (by decide +kernel)) (fun _ h9 => h9) rfl dX2_becomePicked_4 ?_
    refine fl_ti (y := nI (r_n r)) hn3 ?_
    refine lv_icmp_ge (tgt := 63) hx hb dX2_becomePicked_7 (by decide) (fun hc7 => ?_) (fun hc7 => ?_)
    · have e7 : i = r_n r := Nat.le_antisymm hi ((nI_leI (by omega) (by omega)).mp hc7)
      have hBn : fc_BP M (r_sp r) (r_st r) og (r_hi r) (r_n r) M3 := e7 ▸ hB
      refine lv_aload_n hx hb dX2_becomePicked_63 rfl (lv_at hl 0 rfl) ?_
      refine va_callv (va_runV (As := []) (rest := []) ⟨hx, hb, hml, hown, hts⟩ (c_X2_takeNextStatesAndWeights l hJ M3) (cwV 0 hts gX2_becomePicked_X2_takeNextStatesAndWeights rfl rfl rfl (by decide +kernel) ⟨Nat.le_of_ble_eq_true rfl, Nat.le_of_ble_eq_true rfl⟩) ⟨fl_blind, va_recv hK hP (ci := 4) (q0 := 8) rfl (fl_at (by decide) rfl), fl_pre hP hK hN⟩ rfl rfl hl.1 rfl (lv_room (Nat.le_of_ble_eq_true rfl)) dX2_becomePicked_64 ⟨Nat.le_of_ble_eq_true rfl, Nat.le_of_ble_eq_true rfl⟩) hS (fun _ _ h => h) (fun _ h => h) (fun M64 t H1 locs ht hvm hw hB hz1 hk1 hS => ?_)
      have hP : va_P D vwCl (fcP cI cII ad M64) H1 := by rw [← ht]; exact hB
      clear hB hk1 hz1 hvm ht t
      rw [hw] at hP
      refine lv_aload_n hx hb dX2_becomePicked_67 rfl (lv_at hl 0 rfl) ?_
      refine va_get (D := D) (ci := 4) (v := .ref (ad ((fc_swp M3).2.2.2 8 9))) (C := RX2) (T := TX2) (N := 13) hx hb hts inX2 hown hK hP 8 (fl_at (by decide) rfl) rfl 9 (by decide) (hts (.fieldLink RX2 39 "ResampledRows$Run" "histories" "[[I") (by decide +kernel)) (fun _ h9 => h9) rfl dX2_becomePicked_68 ?_
      refine lv_astore_n (lv' := [(1, .ref (ad ((fc_swp M3).2.2.2 8 9))), (0, .ref (ad 8))]) hx hb dX2_becomePicked_71 rfl hl (by decide) rfl (fun ls hl => ?_)
      refine lv_aload_n hx hb dX2_becomePicked_72 rfl (lv_at hl 1 rfl) ?_
      refine lv_aload_n hx hb dX2_becomePicked_73 rfl (lv_at hl 1 rfl) ?_
      refine va_get (D := D) (ci := 4) (v := .ref (ad ((fc_swp M3).2.2.2 8 12))) (C := RX2) (T := TX2) (N := 13) hx hb hts inX2 hown hK hP 8 (fl_at (by decide) rfl) rfl 12 (by decide) (hts (.fieldLink RX2 48 "ResampledRows$Run" "nextHistories" "[[I") (by decide +kernel)) (fun _ h9 => h9) rfl dX2_becomePicked_74 ?_
      refine fl_put (ci := 4) (ty := .array (.array .int)) (v := .ref (ad ((fc_swp M3).2.2.2 8 12))) (C := RX2) (T := TX2) (Nf := 13) hx hb hts inX2 tyX2 tyX2_ok nmX2 hown hK hJ hP hS 8 (by decide) (fl_sR (fc_swp M3) 8 9 ((fc_swp M3).2.2.2 8 12)) rfl rfl 9 (by decide) (hts (.fieldLink RX2 39 "ResampledRows$Run" "histories" "[[I") (by decide +kernel)) (fun _ h9 => h9) rfl (by decide +kernel) rfl rfl (Nat.le_of_ble_eq_true rfl) rfl (fl_sR_o (fc_loc cI cII ad) _ _ _ _) dX2_becomePicked_77 (fun H locs hP hS => ?_)
      refine lv_aload_n hx hb dX2_becomePicked_80 rfl (lv_at hl 1 rfl) ?_
      refine lv_aload_n hx hb dX2_becomePicked_81 rfl (lv_at hl 0 rfl) ?_
      refine fl_put (ci := 4) (ty := .array (.array .int)) (v := .ref (ad ((fc_swp M3).2.2.2 8 9))) (C := RX2) (T := TX2) (Nf := 13) hx hb hts inX2 tyX2 tyX2_ok nmX2 hown hK hJ hP hS 8 (by decide) (fl_sR (fl_sR (fc_swp M3) 8 9 ((fc_swp M3).2.2.2 8 12)) 8 12 ((fc_swp M3).2.2.2 8 9)) rfl rfl 12 (by decide) (hts (.fieldLink RX2 48 "ResampledRows$Run" "nextHistories" "[[I") (by decide +kernel)) (fun _ h9 => h9) rfl (by decide +kernel) rfl rfl (Nat.le_of_ble_eq_true rfl) rfl (fl_sR_o (fc_loc cI cII ad) _ _ _ _) dX2_becomePicked_82 (fun H locs hP hS => ?_)
      exact W.vret hx hb hr (fun t ht hW => ⟨⟨(fl_sR (fl_sR (fc_swp M3) 8 9 ((fc_swp M3).2.2.2 8 12)) 8 12 ((fc_swp M3).2.2.2 8 9)), rfl, ⟨M3, hBn, rfl⟩, fl_qi ht hP⟩, hS.F ht⟩) hS.2.2 dX2_becomePicked_85
    · have l7 : i < r_n r := Nat.lt_of_not_le (fun q => hc7 ((nI_leI (by omega) (by omega)).mpr q))
      have ho := hol i l7
      refine lv_aload_n hx hb dX2_becomePicked_10 rfl (lv_at hl 0 rfl) ?_
      refine va_get (D := D) (ci := 4) (v := .ref (ad 12)) (C := RX2) (T := TX2) (N := 13) hx hb hts inX2 hown hK hP 8 (fl_at (by decide) rfl) rfl 1 (by decide) (hts (.fieldLink RX2 18 "ResampledRows$Run" "origins" "[I") (by decide +kernel)) (fun _ h9 => h9) rfl dX2_becomePicked_11 ?_
      refine lv_iload_n hx hb dX2_becomePicked_14 rfl (lv_at hl 1 rfl) ?_
      refine fl_ild (n := 16) (k := i) hx hb hK hP (fc_a cI cII ad _ rfl (by decide)) rfl rfl (by omega) (by decide) dX2_becomePicked_15 ?_
      refine fl_ti (y := nI (og i)) (by rw [(hB.2.2.2 12 (by unfold fc_PX; omega)).1]; exact (hog i l7).1) ?_
      refine lv_istore_n (lv' := [(2, .int (nI (og i))), (0, .ref (ad 8)), (1, .int (nI i))]) hx hb dX2_becomePicked_16 rfl hl (by decide) rfl (fun ls hl => ?_)
      refine lv_aload_n hx hb dX2_becomePicked_17 rfl (lv_at hl 1 rfl) ?_
      refine va_get (D := D) (ci := 4) (v := .ref (ad (M3.2.2.2 8 10))) (C := RX2) (T := TX2) (N := 13) hx hb hts inX2 hown hK hP 8 (fl_at (by decide) rfl) rfl 10 (by decide) (hts (.fieldLink RX2 42 "ResampledRows$Run" "nextStates" "[I") (by decide +kernel)) (fun _ h9 => h9) rfl dX2_becomePicked_18 ?_
      refine fl_top (y := .ref (ad (M.2.2.2 8 10))) (by rw [hR3]) ?_
      refine lv_iload_n hx hb dX2_becomePicked_21 rfl (lv_at hl 2 rfl) ?_
      refine lv_aload_n hx hb dX2_becomePicked_22 rfl (lv_at hl 1 rfl) ?_
      refine va_get (D := D) (ci := 4) (v := .ref (ad (M3.2.2.2 8 7))) (C := RX2) (T := TX2) (N := 13) hx hb hts inX2 hown hK hP 8 (fl_at (by decide) rfl) rfl 7 (by decide) (hts (.fieldLink RX2 31 "ResampledRows$Run" "states" "[I") (by decide +kernel)) (fun _ h9 => h9) rfl dX2_becomePicked_23 ?_
      refine fl_top (y := .ref (ad (M.2.2.2 8 7))) (by rw [hR3]) ?_
      refine lv_iload_n hx hb dX2_becomePicked_26 rfl (lv_at hl 0 rfl) ?_
      refine fl_ild (n := 16) (k := (og i)) hx hb hK hP (fc_a cI cII ad _ h10.l7 (by decide)) rfl rfl (by omega) (by decide) dX2_becomePicked_27 ?_
      refine fl_ti (y := nI (r_st r (og i))) (by rw [(hB.2.2.2 (M.2.2.2 8 7) (by unfold fc_PX; omega)).1]; exact (h11 _ ho).1) ?_
      refine fl_ist (n := 16) (k := i) (x := nI (r_st r (og i))) hx hb hK hJ hP hS (fc_loc cI cII ad) (fc_a cI cII ad _ h10.l10 (by decide)) (fc_arr cI cII ad _ h10.l10 (by decide)).2 rfl rfl (by omega) (by decide) dX2_becomePicked_28 (fun H locs hP hS => ?_)
      refine lv_aload_n hx hb dX2_becomePicked_29 rfl (lv_at hl 1 rfl) ?_
      refine va_get (D := D) (ci := 4) (v := .ref (ad (M3.2.2.2 8 11))) (C := RX2) (T := TX2) (N := 13) hx hb hts inX2 hown hK hP 8 (fl_at (by decide) rfl) rfl 11 (by decide) (hts (.fieldLink RX2 45 "ResampledRows$Run" "nextWeights" "[I") (by decide +kernel)) (fun _ h9 => h9) rfl dX2_becomePicked_30 ?_
      refine fl_top (y := .ref (ad (M.2.2.2 8 11))) (by rw [hR3]) ?_
      refine lv_iload_n hx hb dX2_becomePicked_33 rfl (lv_at hl 2 rfl) ?_
      refine lv_iconst (v := 1) hx hb dX2_becomePicked_34 (by decide) ?_
      refine fl_ist (n := 16) (k := i) (x := 1) hx hb hK hJ hP hS (fc_loc cI cII ad) (fc_a cI cII ad _ h10.l11 (by decide)) (fc_arr cI cII ad _ h10.l11 (by decide)).2 rfl rfl (by omega) (by decide) dX2_becomePicked_35 (fun H locs hP hS => ?_)
      refine lv_aload_n hx hb dX2_becomePicked_36 rfl (lv_at hl 1 rfl) ?_
      refine va_get (D := D) (ci := 4) (v := .ref (ad (M3.2.2.2 8 9))) (C := RX2) (T := TX2) (N := 13) hx hb hts inX2 hown hK hP 8 (fl_at (by decide) rfl) rfl 9 (by decide) (hts (.fieldLink RX2 39 "ResampledRows$Run" "histories" "[[I") (by decide +kernel)) (fun _ h9 => h9) rfl dX2_becomePicked_37 ?_
      refine fl_top (y := .ref (ad (M.2.2.2 8 9))) (by rw [hR3]) ?_
      refine lv_iload_n hx hb dX2_becomePicked_40 rfl (lv_at hl 0 rfl) ?_
      refine fl_ald (k := (og i)) (f := fun j => ad (fc_hb (M.2.2.2 8 9) + j)) hx hb hK hP (fc_hat cI cII ad _ s3.1) rfl rfl (by omega) (by decide) dX2_becomePicked_41 ?_
      refine lv_iconst (v := 0) hx hb dX2_becomePicked_42 (by decide) ?_
      refine lv_aload_n hx hb dX2_becomePicked_43 rfl (lv_at hl 1 rfl) ?_
      refine va_get (D := D) (ci := 4) (v := .ref (ad (M3.2.2.2 8 12))) (C := RX2) (T := TX2) (N := 13) hx hb hts inX2 hown hK hP 8 (fl_at (by decide) rfl) rfl 12 (by decide) (hts (.fieldLink RX2 48 "ResampledRows$Run" "nextHistories" "[[I") (by decide +kernel)) (fun _ h9 => h9) rfl dX2_becomePicked_44 ?_
      refine fl_top (y := .ref (ad (M.2.2.2 8 12))) (by rw [hR3]) ?_
      refine lv_iload_n hx hb dX2_becomePicked_47 rfl (lv_at hl 2 rfl) ?_
      refine fl_ald (k := i) (f := fun j => ad (fc_hb (M.2.2.2 8 12) + j)) hx hb hK hP (fc_hat cI cII ad _ s3.2.1) rfl rfl (by omega) (by decide) dX2_becomePicked_48 ?_
      refine lv_iconst (v := 0) hx hb dX2_becomePicked_49 (by decide) ?_
      refine lv_aload_n hx hb dX2_becomePicked_50 rfl (lv_at hl 1 rfl) ?_
      refine va_calli (va_runV (As := []) (rest := [.int 0, .ref (ad (fc_hb (M.2.2.2 8 12) + i)), .int 0, .ref (ad (fc_hb (M.2.2.2 8 9) + (og i)))]) ⟨hx, hb, hml, hown, hts⟩ (c_X2_places l hJ (fl_sI (fl_sI M3 (M.2.2.2 8 10) i (nI (r_st r (og i)))) (M.2.2.2 8 11) i 1) (r_sp r) h3 (by rw [fl_sI_ne _ _ _ _ (by omega), fl_sI_ne _ _ _ _ (by omega), e8.1]; exact h4)) (cwV 0 hts gX2_becomePicked_X2_places rfl rfl rfl (by decide +kernel) ⟨Nat.le_of_ble_eq_true rfl, Nat.le_of_ble_eq_true rfl⟩) ⟨fl_blind, va_recv hK hP (ci := 4) (q0 := 8) rfl (fl_at (by decide) rfl), fl_pre hP hK hN⟩ rfl rfl hl.1 rfl (lv_room (Nat.le_of_ble_eq_true rfl)) dX2_becomePicked_51 ⟨Nat.le_of_ble_eq_true rfl, Nat.le_of_ble_eq_true rfl⟩) hS (fun _ _ h => h) (fun _ h => h) (fun r51 M51 t H1 locs ht hvm hw hB hz1 hk1 hS => ?_)
      have hP : va_P D vwCl (fcP cI cII ad M51) H1 := by rw [← ht]; exact hB
      clear hB hk1 hz1 hvm ht t
      obtain ⟨rfl, hE⟩ := hw
      rw [hE] at hP
      refine fc_copy (a := fc_hb (M.2.2.2 8 9) + (og i)) (b := fc_hb (M.2.2.2 8 12) + i) (k := (r_sp r + 1)) hx hb (hml.trans hl.1.symm) hown (hts (.methodLink RX2 114 arraycopyName) (by decide +kernel)) (hts (.native arraycopyName) (by decide +kernel)) (hts (.static arraycopyName) (by decide +kernel)) (hts (.initialized "java/lang/System") (by decide +kernel)) hK hJ hP hS (fc_hb_len (by omega)) (fc_hb_len (by omega)) (by omega) (by omega) (by omega) (by omega) (Nat.le_of_ble_eq_true rfl) (Nat.le_of_ble_eq_true rfl) dX2_becomePicked_54 (fun H locs hP hS => ?_)
      refine lv_iinc (v := nI (i + 1)) (lv' := [(1, .int (nI (i + 1))), (2, .int (nI (og i))), (0, .ref (ad 8))]) hx hb dX2_becomePicked_57 hl (k := 2) rfl (fl_inc i) (by decide) rfl (fun ls hl => ?_)
      refine lv_goto (tgt := 2) hx hb dX2_becomePicked_60 (by decide) ?_
      exact ih2 (i + 1) (fl_cpM (fl_sI (fl_sI M3 (M.2.2.2 8 10) i (nI (r_st r (og i)))) (M.2.2.2 8 11) i 1) (fc_hb (M.2.2.2 8 9) + (og i)) (fc_hb (M.2.2.2 8 12) + i) (r_sp r + 1)) (by omega) (fc_BP_s h10 h1 l7 hol h11 h13 hB) (by omega) _ _ hP hS ls (lv_sub hl [2, 0] rfl)

set_option maxHeartbeats 4000000 in
set_option maxRecDepth 100000 in
theorem c_X2_evidenceSoFar (l : Launch) {D : va_G} {cI cJ cII : ClassId} {ad : Nat → Nat} (hJ : fl_inj 62 ad) (M : fl_M) (n : Nat) (w : Nat → Nat) (hn : n ≤ 16) (hn1 : M.1 8 2 = nI n) (hw8 : fc_len (M.2.2.2 8 8) = 16) (hw : fl_row (M.1 (M.2.2.2 8 8)) w n 1000001) (mu : UInt64) (hmu : alike64 (M.2.2.1 8) mu = true) : MetD lw_cs l yX2_evidenceSoFar wsX2_evidenceSoFar ({ frames := 2, cells := 0, slots := 0, locals := 44 } : Room) (fcPc D cI cJ cII ad M [.ref (ad 8)]) (va_Qd (fun r M2 => alike64 r (a_ev mu w n) = true ∧ M2 = M) (fcQ D cI cII ad) (fl_A 62 ad)) 0 0 (fl_A 62 ad) := by
  refine MetD.ofW (cc := cX2_evidenceSoFar) (maxL := 1) (ret := (some .double)) (by decide) rfl ?_
  intro p e s m args below meth c s₁ B hml hv hd0
  obtain ⟨rfl, hP, hK, hN⟩ := hv
  have hx := B.exec
  have hb := B.bytes
  have hr := B.returns
  have hts0 := atoms_spec (ws := wsX2_evidenceSoFar) B.pre
  have hts := dr_words hts0 s.drawn
  have hown : s.vm.findClass RX2 = some m.cls := findClass_of_methodNamed B.named
  have hlocks := B.notSynchronized
  have inX2 : ∀ w ∈ u_ws RX2 TX2 13, w ∈ wsX2_evidenceSoFar := by decide +kernel
  have hS : va_S (fl_A 62 ad) s.heap s.heap [] := va_S.rf
  have hl := lv_entry ([.ref (ad 8)] : List Value) (n := 1) (Nat.le_of_ble_eq_true rfl)
  rw [lg_entry_eq]
  generalize (lg_sl ([.ref (ad 8)] : List Value) ++ List.replicate (1 - (lg_sl ([.ref (ad 8)] : List Value)).length) Slot.unset).toArray = ls at hl ⊢
  have hl : lv_has ls 1 [(0, .ref (ad 8))] := hl
  have hd0 := hd0
  have hw0 := hw
  refine lv_aload_n hx hb dX2_evidenceSoFar_0 rfl (lv_at hl 0 rfl) ?_
  refine va_get (D := D) (ci := 4) (v := .double (M.2.2.1 8)) (C := RX2) (T := TX2) (N := 13) hx hb hts inX2 hown hK hP 8 (fl_at (by decide) rfl) rfl 6 (by decide) (hts (.fieldLink RX2 27 "ResampledRows$Run" "multiplied" "D") (by decide +kernel)) (fun _ h9 => h9) rfl dX2_evidenceSoFar_1 ?_
  refine lv_aload_n hx hb dX2_evidenceSoFar_4 rfl (lv_at hl 0 rfl) ?_
  refine va_calll (va_runV (As := []) (rest := [.double (M.2.2.1 8)]) ⟨hx, hb, hml, hown, hts⟩ (c_X2_total l hJ M n w hn hn1 hw8 hw0) (cwV 0 hts gX2_evidenceSoFar_X2_total rfl rfl rfl (by decide +kernel) ⟨Nat.le_of_ble_eq_true rfl, Nat.le_of_ble_eq_true rfl⟩) ⟨fl_blind, va_recv hK hP (ci := 4) (q0 := 8) rfl (fl_at (by decide) rfl), fl_pre hP hK hN⟩ rfl rfl hl.1 rfl (lv_room (Nat.le_of_ble_eq_true rfl)) dX2_evidenceSoFar_5 ⟨Nat.le_of_ble_eq_true rfl, Nat.le_of_ble_eq_true rfl⟩) hS (fun _ _ h => h) (fun _ h => h) (fun r5 M5 t H1 locs ht hvm hw hB hz1 hk1 hS => ?_)
  have hP : va_P D vwCl (fcP cI cII ad M5) H1 := by rw [← ht]; exact hB
  clear hB hk1 hz1 hvm ht t
  obtain ⟨rfl, hE⟩ := hw
  rw [hE] at hP
  refine lv_l2d hx hb dX2_evidenceSoFar_8 ?_
  refine lv_aload_n hx hb dX2_evidenceSoFar_9 rfl (lv_at hl 0 rfl) ?_
  refine va_get (D := D) (ci := 4) (v := .int (M.1 8 2)) (C := RX2) (T := TX2) (N := 13) hx hb hts inX2 hown hK hP 8 (fl_at (by decide) rfl) rfl 2 (by decide) (hts (.fieldLink RX2 51 "ResampledRows$Run" "n" "I") (by decide +kernel)) (fun _ h9 => h9) rfl dX2_evidenceSoFar_10 ?_
  refine fl_ti (y := nI n) hn1 ?_
  refine lv_i2d hx hb dX2_evidenceSoFar_13 ?_
  refine lv_ddiv_any hd0 lw_bits hx hb dX2_evidenceSoFar_14 (fun x1 d1 ha1 hd1 => ?_)
  have hd0 := hd1
  have hts := dr_words hts0 d1
  refine lv_dmul_any hd0 lw_bits hx hb dX2_evidenceSoFar_15 (fun x2 d2 ha2 hd2 => ?_)
  have hd0 := hd2
  have hts := dr_words hts0 d2
  refine W.endD hd0 ?_
  exact W.dret (v := x2) hx hb hr (fun t ht hW => ⟨⟨x2, M, rfl, ⟨al_trans ha2 (al_mul hmu ha1), rfl⟩, fl_qi ht hP⟩, hS.F ht⟩) hS.2.2 dX2_evidenceSoFar_16

set_option maxHeartbeats 4000000 in
set_option maxRecDepth 100000 in
theorem c_X2_drawAnew (l : Launch) {D : va_G} {cI cJ cII : ClassId} {ad : Nat → Nat} (hJ : fl_inj 62 ad) (M : fl_M) (d : a_D) (r : a_R) (wy : Nat) (hwy : wy < 4) (hr0 : fc_R r M) (hn0 : 0 < r_n r) (han : r_an r + 1 < 2 ^ 30) (hd : fc_D d M) : MetD lw_cs l yX2_drawAnew wsX2_drawAnew ({ frames := 5, cells := 0, slots := 0, locals := 118 } : Room) (fcPc D cI cJ cII ad M [.ref (ad 8), .int (nI wy), .ref (ad 6)]) (va_Qi (fun r2 M2 => r2 = (a_anew wy d r).1 ∧ fc_D (a_anew wy d r).2.1 M2 ∧ fc_R (a_anew wy d r).2.2 M2 ∧ fl_eq fc_PC M M2) (fcQ D cI cII ad) (fl_A 62 ad)) 0 0 (fl_A 62 ad) := by
  refine MetD.ofW (cc := cX2_drawAnew) (maxL := 3) (ret := (some .int)) (by decide) rfl ?_
  intro p e s m args below meth c s₁ B hml hv hd0
  obtain ⟨rfl, hP, hK, hN⟩ := hv
  have hx := B.exec
  have hb := B.bytes
  have hr := B.returns
  have hts0 := atoms_spec (ws := wsX2_drawAnew) B.pre
  have hts := dr_words hts0 s.drawn
  have hown : s.vm.findClass RX2 = some m.cls := findClass_of_methodNamed B.named
  have hlocks := B.notSynchronized
  have inX2 : ∀ w ∈ u_ws RX2 TX2 13, w ∈ wsX2_drawAnew := by decide +kernel
  have hS : va_S (fl_A 62 ad) s.heap s.heap [] := va_S.rf
  have hl := lv_entry ([.ref (ad 8), .int (nI wy), .ref (ad 6)] : List Value) (n := 3) (Nat.le_of_ble_eq_true rfl)
  rw [lg_entry_eq]
  generalize (lg_sl ([.ref (ad 8), .int (nI wy), .ref (ad 6)] : List Value) ++ List.replicate (3 - (lg_sl ([.ref (ad 8), .int (nI wy), .ref (ad 6)] : List Value)).length) Slot.unset).toArray = ls at hl ⊢
  have hl : lv_has ls 3 [(0, .ref (ad 8)), (1, .int (nI wy)), (2, .ref (ad 6))] := hl
  have hd0 := hd0
  obtain ⟨⟨h1, h2⟩, ⟨h3, h4⟩, ⟨h5, h6⟩, ⟨h7, h8⟩, h9, h10, h11, h12, h13, h14⟩ := id hr0
  have s1 := h10.s1
  have s2 := h10.s2
  have s3 := h10.s3
  have hb3 := fc_hb_two s3.1 s3.2.1 s3.2.2
  have hTl := (a_Q_le h12 h1).2.1
  refine lv_aload_n hx hb dX2_drawAnew_0 rfl (lv_at hl 0 rfl) ?_
  refine va_calll (va_runV (As := []) (rest := []) ⟨hx, hb, hml, hown, hts⟩ (c_X2_total l hJ M (r_n r) (r_wt r) h1 h2 h10.l8 h12) (cwV 0 hts gX2_drawAnew_X2_total rfl rfl rfl (by decide +kernel) ⟨Nat.le_of_ble_eq_true rfl, Nat.le_of_ble_eq_true rfl⟩) ⟨fl_blind, va_recv hK hP (ci := 4) (q0 := 8) rfl (fl_at (by decide) rfl), fl_pre hP hK hN⟩ rfl rfl hl.1 rfl (lv_room (Nat.le_of_ble_eq_true rfl)) dX2_drawAnew_1 ⟨Nat.le_of_ble_eq_true rfl, Nat.le_of_ble_eq_true rfl⟩) hS (fun _ _ h => h) (fun _ h => h) (fun r1 M1 t H1 locs ht hvm hw hB hz1 hk1 hS => ?_)
  have hP : va_P D vwCl (fcP cI cII ad M1) H1 := by rw [← ht]; exact hB
  clear hB hk1 hz1 hvm ht t
  obtain ⟨rfl, hE⟩ := hw
  rw [hE] at hP
  refine lv_lconst (v := 0) hx hb dX2_drawAnew_4 (by decide) ?_
  refine fl_lne (tgt := 12) hx hb dX2_drawAnew_5 dX2_drawAnew_6 (by decide) (fun hc5 => ?_) (fun hc5 => ?_)
  · have hT0 : 0 < a_sum (r_wt r) (r_n r) := Nat.pos_of_ne_zero (fun z => hc5 (by rw [z]; rfl))
    have hgo : a_anew wy d r = (nI (a_unl (a_picks wy (r_kp r) (r_n r) (r_wt r) d).1 (r_n r)), (a_picks wy (r_kp r) (r_n r) (r_wt r) d).2, a_rA r (a_picks wy (r_kp r) (r_n r) (r_wt r) d).1) := if_neg (by omega)
    have hsum : a_sum (a_picks wy (r_kp r) (r_n r) (r_wt r) d).1 (r_n r) = r_n r := a_picks_sum hn0 h8 hT0
    refine lv_aload_n hx hb dX2_drawAnew_12 rfl (lv_at hl 0 rfl) ?_
    refine lv_aload_n hx hb dX2_drawAnew_13 rfl (lv_at hl 0 rfl) ?_
    refine va_calldD hd0 (va_runV_D (As := []) (rest := [.ref (ad 8)]) ⟨hx, hb, hml, hown, hts⟩ (c_X2_evidenceSoFar l hJ M (r_n r) (r_wt r) h1 h2 h10.l8 h12 (r_mu r) h9) (cwV 0 hts gX2_drawAnew_X2_evidenceSoFar rfl rfl rfl (by decide +kernel) ⟨Nat.le_of_ble_eq_true rfl, Nat.le_of_ble_eq_true rfl⟩) ⟨fl_blind, va_recv hK hP (ci := 4) (q0 := 8) rfl (fl_at (by decide) rfl), fl_pre hP hK hN⟩ rfl rfl hl.1 rfl (lv_room (Nat.le_of_ble_eq_true rfl)) dX2_drawAnew_14 ⟨Nat.le_of_ble_eq_true rfl, Nat.le_of_ble_eq_true rfl⟩) hS (fun _ _ h => h) (fun _ h => h) (fun r14 M14 t H1 locs ht hvm hw hB hz1 hk1 hS d14 hd14 => ?_)
    have hP : va_P D vwCl (fcP cI cII ad M14) H1 := by rw [← ht]; exact hB
    clear hB hk1 hz1 hvm ht t
    have hd0 := hd14
    have hts := dr_words hts0 d14
    obtain ⟨hal, hE⟩ := hw
    rw [hE] at hP
    refine fl_put (ci := 4) (ty := .double) (v := .double r14) (C := RX2) (T := TX2) (Nf := 13) hx hb hts inX2 tyX2 tyX2_ok nmX2 hown hK hJ hP hS 8 (by decide) (fl_sG M 8 r14) rfl rfl 6 (by decide) (hts (.fieldLink RX2 27 "ResampledRows$Run" "multiplied" "D") (by decide +kernel)) (fun _ h9 => h9) rfl (by decide +kernel) rfl rfl (Nat.le_of_ble_eq_true rfl) rfl (fl_sG_o (fc_loc cI cII ad) _ _ _) dX2_drawAnew_17 (fun H locs hP hS => ?_)
    have hr1 : fc_R (r_n r, r_sp r, r_an r, r_kp r, a_ev (r_mu r) (r_wt r) (r_n r), r_st r, r_wt r, r_hi r, r_og r) (fl_sG M 8 r14) := hr0.mu hal
    have hd1 : fc_D d (fl_sG M 8 r14) := hd.eq (P := fun c => c = 6 ∨ c = 7) (fl_eq.rf.sG (by decide) _) (Or.inl rfl) (Or.inr rfl)
    refine lv_aload_n hx hb dX2_drawAnew_20 rfl (lv_at hl 0 rfl) ?_
    refine va_get (D := D) (ci := 4) (v := .ref (ad 9)) (C := RX2) (T := TX2) (N := 13) hx hb hts inX2 hown hK hP 8 (fl_at (by decide) rfl) rfl 0 (by decide) (hts (.fieldLink RX2 12 "ResampledRows$Run" "picks" "LResampledRows$Picks;") (by decide +kernel)) (fun _ h9 => h9) rfl dX2_drawAnew_21 ?_
    refine lv_iload_n hx hb dX2_drawAnew_24 rfl (lv_at hl 1 rfl) ?_
    refine lv_aload_n hx hb dX2_drawAnew_25 rfl (lv_at hl 0 rfl) ?_
    refine lv_aload_n hx hb dX2_drawAnew_26 rfl (lv_at hl 2 rfl) ?_
    refine va_callv (va_runV (As := [.int (nI wy), .ref (ad 8), .ref (ad 6)]) (rest := []) ⟨hx, hb, hml, hown, hts⟩ (c_X1_pick l hJ (fl_sG M 8 r14) (r_n r) (r_kp r) (r_wt r) (hr1.W hn0) wy hwy d hd1 hT0) (cwV 3 hts gX2_drawAnew_X1_pick rfl rfl rfl (by decide +kernel) ⟨Nat.le_of_ble_eq_true rfl, Nat.le_of_ble_eq_true rfl⟩) ⟨fl_blind, va_recv hK hP (ci := 3) (q0 := 9) rfl (fl_at (by decide) rfl), fl_pre hP hK hN⟩ rfl rfl hl.1 rfl (lv_room (Nat.le_of_ble_eq_true rfl)) dX2_drawAnew_27 ⟨Nat.le_of_ble_eq_true rfl, Nat.le_of_ble_eq_true rfl⟩) hS (fun _ _ h => h) (fun _ h => h) (fun M27 t H1 locs ht hvm hw hB hz1 hk1 hS => ?_)
    have hP : va_P D vwCl (fcP cI cII ad M27) H1 := by rw [← ht]; exact hB
    clear hB hk1 hz1 hvm ht t
    obtain ⟨hrow, hD2, he2⟩ := hw
    have hr2 := hr1.eq he2 (fun c hc => by unfold fc_PP; omega)
    have hn27 : M27.1 8 2 = nI (r_n r) := hr2.1.2
    refine lv_aload_n hx hb dX2_drawAnew_30 rfl (lv_at hl 0 rfl) ?_
    refine va_get (D := D) (ci := 4) (v := .ref (ad 9)) (C := RX2) (T := TX2) (N := 13) hx hb hts inX2 hown hK hP 8 (fl_at (by decide) rfl) rfl 0 (by decide) (hts (.fieldLink RX2 12 "ResampledRows$Run" "picks" "LResampledRows$Picks;") (by decide +kernel)) (fun _ h9 => h9) rfl dX2_drawAnew_31 ?_
    refine lv_aload_n hx hb dX2_drawAnew_34 rfl (lv_at hl 0 rfl) ?_
    refine va_get (D := D) (ci := 4) (v := .ref (ad 12)) (C := RX2) (T := TX2) (N := 13) hx hb hts inX2 hown hK hP 8 (fl_at (by decide) rfl) rfl 1 (by decide) (hts (.fieldLink RX2 18 "ResampledRows$Run" "origins" "[I") (by decide +kernel)) (fun _ h9 => h9) rfl dX2_drawAnew_35 ?_
    refine lv_aload_n hx hb dX2_drawAnew_38 rfl (lv_at hl 0 rfl) ?_
    refine va_get (D := D) (ci := 4) (v := .int (M27.1 8 2)) (C := RX2) (T := TX2) (N := 13) hx hb hts inX2 hown hK hP 8 (fl_at (by decide) rfl) rfl 2 (by decide) (hts (.fieldLink RX2 51 "ResampledRows$Run" "n" "I") (by decide +kernel)) (fun _ h9 => h9) rfl dX2_drawAnew_39 ?_
    refine fl_ti (y := nI (r_n r)) hn27 ?_
    refine va_callv (va_runV (As := [.ref (ad 12), .int (nI (r_n r))]) (rest := []) ⟨hx, hb, hml, hown, hts⟩ (c_X1_putInOrder l hJ M27 (r_n r) (a_picks wy (r_kp r) (r_n r) (r_wt r) d).1 h1 hrow hsum) (cwV 2 hts gX2_drawAnew_X1_putInOrder rfl rfl rfl (by decide +kernel) ⟨Nat.le_of_ble_eq_true rfl, Nat.le_of_ble_eq_true rfl⟩) ⟨fl_blind, va_recv hK hP (ci := 3) (q0 := 9) rfl (fl_at (by decide) rfl), fl_pre hP hK hN⟩ rfl rfl hl.1 rfl (lv_room (Nat.le_of_ble_eq_true rfl)) dX2_drawAnew_42 ⟨Nat.le_of_ble_eq_true rfl, Nat.le_of_ble_eq_true rfl⟩) hS (fun _ _ h => h) (fun _ h => h) (fun M42 t H1 locs ht hvm hw hB hz1 hk1 hS => ?_)
    have hP : va_P D vwCl (fcP cI cII ad M42) H1 := by rw [← ht]; exact hB
    clear hB hk1 hz1 hvm ht t
    obtain ⟨hog, he3⟩ := hw
    have hr3 := hr2.og he3 hog
    refine lv_aload_n hx hb dX2_drawAnew_45 rfl (lv_at hl 0 rfl) ?_
    refine va_callv (va_runV (As := []) (rest := []) ⟨hx, hb, hml, hown, hts⟩ (c_X2_becomePicked l hJ M42 _ (a_ord (a_picks wy (r_kp r) (r_n r) (r_wt r) d).1 (r_n r)) hr3 hog (fun k hk => a_ord_lt hsum hk)) (cwV 0 hts gX2_drawAnew_X2_becomePicked rfl rfl rfl (by decide +kernel) ⟨Nat.le_of_ble_eq_true rfl, Nat.le_of_ble_eq_true rfl⟩) ⟨fl_blind, va_recv hK hP (ci := 4) (q0 := 8) rfl (fl_at (by decide) rfl), fl_pre hP hK hN⟩ rfl rfl hl.1 rfl (lv_room (Nat.le_of_ble_eq_true rfl)) dX2_drawAnew_46 ⟨Nat.le_of_ble_eq_true rfl, Nat.le_of_ble_eq_true rfl⟩) hS (fun _ _ h => h) (fun _ h => h) (fun M46 t H1 locs ht hvm hw hB hz1 hk1 hS => ?_)
    have hP : va_P D vwCl (fcP cI cII ad M46) H1 := by rw [← ht]; exact hB
    clear hB hk1 hz1 hvm ht t
    obtain ⟨M3, hB, hE⟩ := hw
    rw [hE] at hP
    have t1 := hr3.2.2.2.2.2.1.s1
    have t2 := hr3.2.2.2.2.2.1.s2
    have t3 := hr3.2.2.2.2.2.1.s3
    have tb := fc_hb_two t3.1 t3.2.1 t3.2.2
    have k8 := hB.2.2.2 8 (by unfold fc_PX; omega)
    have hk3 : (fc_swq M3).1 8 5 = a_oI (r_kp r) (-1000009) := by show M3.1 8 5 = _; rw [k8.1]; exact hr3.2.2.2.1.1
    have hn3 : (fc_swq M3).1 8 2 = nI (r_n r) := by show M3.1 8 2 = _; rw [k8.1]; exact hr3.1.2
    have ha3 : (fc_swq M3).1 8 4 = nI (r_an r) := by show M3.1 8 4 = _; rw [k8.1]; exact hr3.2.2.1.2
    have hog3 : fl_row ((fc_swq M3).1 12) (a_ord (a_picks wy (r_kp r) (r_n r) (r_wt r) d).1 (r_n r)) (r_n r) 16 := by show fl_row (M3.1 12) _ _ _; rw [(hB.2.2.2 12 (by unfold fc_PX; omega)).1]; exact hog
    have ht3 : fl_row ((fc_swq M3).1 10) (a_picks wy (r_kp r) (r_n r) (r_wt r) d).1 (r_n r) 65 := by show fl_row (M3.1 10) _ _ _; rw [(hB.2.2.2 10 (by unfold fc_PX; omega)).1, (he3 10 (by decide)).1]; exact hrow
    have hD3 : fc_D (a_picks wy (r_kp r) (r_n r) (r_wt r) d).2 M3 := (hD2.eq he3 (by decide) (by decide)).eq hB.2.2.2 (by unfold fc_PX; omega) (by unfold fc_PX; omega)
    have hq3 : fl_eq (fun c => c ≠ 8) M3 (fc_swq M3) := (((((fl_eq.rf.sR (fun z => z rfl) _ _).sR (fun z => z rfl) _ _).sR (fun z => z rfl) _ _).sR (fun z => z rfl) _ _).sR (fun z => z rfl) _ _).sR (fun z => z rfl) _ _
    have hE0 : fl_eq fc_PC M M3 := (((fl_eq.rf.sG (by unfold fc_PC; omega) _).tr (he2.mono (fun c hc => by unfold fc_PC at hc; unfold fc_PP; omega))).tr (he3.mono (fun c hc => by unfold fc_PC at hc; omega))).tr (hB.2.2.2.mono (fun c hc => by unfold fc_PC at hc; unfold fc_PX; omega))
    refine lv_aload_n hx hb dX2_drawAnew_49 rfl (lv_at hl 0 rfl) ?_
    refine va_get (D := D) (ci := 4) (v := .int ((fc_swq M3).1 8 5)) (C := RX2) (T := TX2) (N := 13) hx hb hts inX2 hown hK hP 8 (fl_at (by decide) rfl) rfl 5 (by decide) (hts (.fieldLink RX2 23 "ResampledRows$Run" "kept" "I") (by decide +kernel)) (fun _ h9 => h9) rfl dX2_drawAnew_50 ?_
    refine fl_ti (y := a_oI (r_kp r) (-1000009)) hk3 ?_
    refine lv_ldc (v := -1000009) hx hb hown (hts (.constant RX2 22 (-1000009)) (by decide +kernel)) dX2_drawAnew_53 ?_
    refine lv_icmp_eq (tgt := 70) hx hb dX2_drawAnew_55 (by decide) (fun hc55 => ?_) (fun hc55 => ?_)
    · have hkn := a_oI_eq (by decide) h8 h1 hc55
      refine lv_aload_n hx hb dX2_drawAnew_70 rfl (lv_at hl 0 rfl) ?_
      refine lv_dup hx hb dX2_drawAnew_71 rfl ?_
      refine va_get (D := D) (ci := 4) (v := .int ((fc_swq M3).1 8 4)) (C := RX2) (T := TX2) (N := 13) hx hb hts inX2 hown hK hP 8 (fl_at (by decide) rfl) rfl 4 (by decide) (hts (.fieldLink RX2 61 "ResampledRows$Run" "timesAnew" "I") (by decide +kernel)) (fun _ h9 => h9) rfl dX2_drawAnew_72 ?_
      refine fl_ti (y := nI (r_an r)) ha3 ?_
      refine lv_iconst (v := 1) hx hb dX2_drawAnew_75 (by decide) ?_
      refine lv_iadd hx hb dX2_drawAnew_76 ?_
      refine fl_ti (y := nI (r_an r + 1)) (nI_1 _) ?_
      refine fl_put (ci := 4) (ty := .int) (v := .int (nI (r_an r + 1))) (C := RX2) (T := TX2) (Nf := 13) hx hb hts inX2 tyX2 tyX2_ok nmX2 hown hK hJ hP hS 8 (by decide) (fl_sI (fc_swq M3) 8 4 (nI (r_an r + 1))) rfl rfl 4 (by decide) (hts (.fieldLink RX2 61 "ResampledRows$Run" "timesAnew" "I") (by decide +kernel)) (fun _ h9 => h9) rfl (by decide +kernel) rfl rfl (Nat.le_of_ble_eq_true rfl) rfl (fl_sI_o (fc_loc cI cII ad) _ _ _ _) dX2_drawAnew_77 (fun H locs hP hS => ?_)
      refine lv_aload_n hx hb dX2_drawAnew_80 rfl (lv_at hl 0 rfl) ?_
      refine va_get (D := D) (ci := 4) (v := .ref (ad 9)) (C := RX2) (T := TX2) (N := 13) hx hb hts inX2 hown hK hP 8 (fl_at (by decide) rfl) rfl 0 (by decide) (hts (.fieldLink RX2 12 "ResampledRows$Run" "picks" "LResampledRows$Picks;") (by decide +kernel)) (fun _ h9 => h9) rfl dX2_drawAnew_81 ?_
      refine lv_aload_n hx hb dX2_drawAnew_84 rfl (lv_at hl 0 rfl) ?_
      refine va_get (D := D) (ci := 4) (v := .int ((fc_swq M3).1 8 2)) (C := RX2) (T := TX2) (N := 13) hx hb hts inX2 hown hK hP 8 (fl_at (by decide) rfl) rfl 2 (by decide) (hts (.fieldLink RX2 51 "ResampledRows$Run" "n" "I") (by decide +kernel)) (fun _ h9 => h9) rfl dX2_drawAnew_85 ?_
      refine fl_ti (y := nI (r_n r)) hn3 ?_
      refine va_calli (va_runV (As := [.int (nI (r_n r))]) (rest := []) ⟨hx, hb, hml, hown, hts⟩ (c_X1_unlike l hJ (fl_sI (fc_swq M3) 8 4 (nI (r_an r + 1))) (r_n r) (a_picks wy (r_kp r) (r_n r) (r_wt r) d).1 h1 ht3) (cwV 1 hts gX2_drawAnew_X1_unlike rfl rfl rfl (by decide +kernel) ⟨Nat.le_of_ble_eq_true rfl, Nat.le_of_ble_eq_true rfl⟩) ⟨fl_blind, va_recv hK hP (ci := 3) (q0 := 9) rfl (fl_at (by decide) rfl), fl_pre hP hK hN⟩ rfl rfl hl.1 rfl (lv_room (Nat.le_of_ble_eq_true rfl)) dX2_drawAnew_88 ⟨Nat.le_of_ble_eq_true rfl, Nat.le_of_ble_eq_true rfl⟩) hS (fun _ _ h => h) (fun _ h => h) (fun r88 M88 t H1 locs ht hvm hw hB hz1 hk1 hS => ?_)
      have hP : va_P D vwCl (fcP cI cII ad M88) H1 := by rw [← ht]; exact hB
      clear hB hk1 hz1 hvm ht t
      obtain ⟨rfl, hE⟩ := hw
      rw [hE] at hP
      refine W.endD hd0 ?_
      exact W.iret (v := nI (a_unl (a_picks wy (r_kp r) (r_n r) (r_wt r) d).1 (r_n r))) hx hb hr (fun t ht hW => ⟨⟨nI (a_unl (a_picks wy (r_kp r) (r_n r) (r_wt r) d).1 (r_n r)), (fl_sI (fc_swq M3) 8 4 (nI (r_an r + 1))), rfl, ⟨by rw [hgo], by rw [hgo]; exact (hD3.eq (P := fun c => c = 6 ∨ c = 7) (hq3.mono (by omega)) (Or.inl rfl) (Or.inr rfl)).eq (P := fun c => c = 6 ∨ c = 7) (fl_eq.rf.sI (by decide) _ _) (Or.inl rfl) (Or.inr rfl), by rw [hgo]; exact fc_BP_R hr3 hB hog han _ (fun k hk => by rw [hkn] at hk; cases hk) _ rfl _ (Or.inr ⟨rfl, by rw [hkn]; exact hr3.2.2.2.1.1.trans (by rw [hkn]; rfl)⟩), (hE0.tr (hq3.mono (fun c hc => by unfold fc_PC at hc; omega))).sI (by unfold fc_PC; omega) _ _⟩, fl_qi ht hP⟩, hS.F ht⟩) hS.2.2 dX2_drawAnew_91
    · obtain ⟨k, hks⟩ := a_oI_ne hc55
      have hkl := h8 k hks
      refine lv_aload_n hx hb dX2_drawAnew_58 rfl (lv_at hl 0 rfl) ?_
      refine lv_aload_n hx hb dX2_drawAnew_59 rfl (lv_at hl 0 rfl) ?_
      refine lv_aload_n hx hb dX2_drawAnew_60 rfl (lv_at hl 0 rfl) ?_
      refine va_get (D := D) (ci := 4) (v := .int ((fc_swq M3).1 8 5)) (C := RX2) (T := TX2) (N := 13) hx hb hts inX2 hown hK hP 8 (fl_at (by decide) rfl) rfl 5 (by decide) (hts (.fieldLink RX2 23 "ResampledRows$Run" "kept" "I") (by decide +kernel)) (fun _ h9 => h9) rfl dX2_drawAnew_61 ?_
      refine fl_ti (y := a_oI (r_kp r) (-1000009)) hk3 ?_
      refine fl_ti (y := nI k) (by rw [hks]; rfl) ?_
      refine va_calli (va_runV (As := [.int (nI k)]) (rest := [.ref (ad 8)]) ⟨hx, hb, hml, hown, hts⟩ (c_X2_firstThatWas l hJ (fc_swq M3) (r_n r) k (a_ord (a_picks wy (r_kp r) (r_n r) (r_wt r) d).1 (r_n r)) h1 hn3 (by omega) hog3) (cwV 1 hts gX2_drawAnew_X2_firstThatWas rfl rfl rfl (by decide +kernel) ⟨Nat.le_of_ble_eq_true rfl, Nat.le_of_ble_eq_true rfl⟩) ⟨fl_blind, va_recv hK hP (ci := 4) (q0 := 8) rfl (fl_at (by decide) rfl), fl_pre hP hK hN⟩ rfl rfl hl.1 rfl (lv_room (Nat.le_of_ble_eq_true rfl)) dX2_drawAnew_64 ⟨Nat.le_of_ble_eq_true rfl, Nat.le_of_ble_eq_true rfl⟩) hS (fun _ _ h => h) (fun _ h => h) (fun r64 M64 t H1 locs ht hvm hw hB hz1 hk1 hS => ?_)
      have hP : va_P D vwCl (fcP cI cII ad M64) H1 := by rw [← ht]; exact hB
      clear hB hk1 hz1 hvm ht t
      obtain ⟨rfl, hE⟩ := hw
      rw [hE] at hP
      refine fl_put (ci := 4) (ty := .int) (v := .int (a_oI (a_find (a_ord (a_picks wy (r_kp r) (r_n r) (r_wt r) d).1 (r_n r)) k (r_n r)) (-1000009))) (C := RX2) (T := TX2) (Nf := 13) hx hb hts inX2 tyX2 tyX2_ok nmX2 hown hK hJ hP hS 8 (by decide) (fl_sI (fc_swq M3) 8 5 (a_oI (a_find (a_ord (a_picks wy (r_kp r) (r_n r) (r_wt r) d).1 (r_n r)) k (r_n r)) (-1000009))) rfl rfl 5 (by decide) (hts (.fieldLink RX2 23 "ResampledRows$Run" "kept" "I") (by decide +kernel)) (fun _ h9 => h9) rfl (by decide +kernel) rfl rfl (Nat.le_of_ble_eq_true rfl) rfl (fl_sI_o (fc_loc cI cII ad) _ _ _ _) dX2_drawAnew_67 (fun H locs hP hS => ?_)
      refine lv_aload_n hx hb dX2_drawAnew_70 rfl (lv_at hl 0 rfl) ?_
      refine lv_dup hx hb dX2_drawAnew_71 rfl ?_
      refine va_get (D := D) (ci := 4) (v := .int ((fc_swq M3).1 8 4)) (C := RX2) (T := TX2) (N := 13) hx hb hts inX2 hown hK hP 8 (fl_at (by decide) rfl) rfl 4 (by decide) (hts (.fieldLink RX2 61 "ResampledRows$Run" "timesAnew" "I") (by decide +kernel)) (fun _ h9 => h9) rfl dX2_drawAnew_72 ?_
      refine fl_ti (y := nI (r_an r)) ha3 ?_
      refine lv_iconst (v := 1) hx hb dX2_drawAnew_75 (by decide) ?_
      refine lv_iadd hx hb dX2_drawAnew_76 ?_
      refine fl_ti (y := nI (r_an r + 1)) (nI_1 _) ?_
      refine fl_put (ci := 4) (ty := .int) (v := .int (nI (r_an r + 1))) (C := RX2) (T := TX2) (Nf := 13) hx hb hts inX2 tyX2 tyX2_ok nmX2 hown hK hJ hP hS 8 (by decide) (fl_sI (fl_sI (fc_swq M3) 8 5 (a_oI (a_find (a_ord (a_picks wy (r_kp r) (r_n r) (r_wt r) d).1 (r_n r)) k (r_n r)) (-1000009))) 8 4 (nI (r_an r + 1))) rfl rfl 4 (by decide) (hts (.fieldLink RX2 61 "ResampledRows$Run" "timesAnew" "I") (by decide +kernel)) (fun _ h9 => h9) rfl (by decide +kernel) rfl rfl (Nat.le_of_ble_eq_true rfl) rfl (fl_sI_o (fc_loc cI cII ad) _ _ _ _) dX2_drawAnew_77 (fun H locs hP hS => ?_)
      refine lv_aload_n hx hb dX2_drawAnew_80 rfl (lv_at hl 0 rfl) ?_
      refine va_get (D := D) (ci := 4) (v := .ref (ad 9)) (C := RX2) (T := TX2) (N := 13) hx hb hts inX2 hown hK hP 8 (fl_at (by decide) rfl) rfl 0 (by decide) (hts (.fieldLink RX2 12 "ResampledRows$Run" "picks" "LResampledRows$Picks;") (by decide +kernel)) (fun _ h9 => h9) rfl dX2_drawAnew_81 ?_
      refine lv_aload_n hx hb dX2_drawAnew_84 rfl (lv_at hl 0 rfl) ?_
      refine va_get (D := D) (ci := 4) (v := .int ((fc_swq M3).1 8 2)) (C := RX2) (T := TX2) (N := 13) hx hb hts inX2 hown hK hP 8 (fl_at (by decide) rfl) rfl 2 (by decide) (hts (.fieldLink RX2 51 "ResampledRows$Run" "n" "I") (by decide +kernel)) (fun _ h9 => h9) rfl dX2_drawAnew_85 ?_
      refine fl_ti (y := nI (r_n r)) hn3 ?_
      refine va_calli (va_runV (As := [.int (nI (r_n r))]) (rest := []) ⟨hx, hb, hml, hown, hts⟩ (c_X1_unlike l hJ (fl_sI (fl_sI (fc_swq M3) 8 5 (a_oI (a_find (a_ord (a_picks wy (r_kp r) (r_n r) (r_wt r) d).1 (r_n r)) k (r_n r)) (-1000009))) 8 4 (nI (r_an r + 1))) (r_n r) (a_picks wy (r_kp r) (r_n r) (r_wt r) d).1 h1 ht3) (cwV 1 hts gX2_drawAnew_X1_unlike rfl rfl rfl (by decide +kernel) ⟨Nat.le_of_ble_eq_true rfl, Nat.le_of_ble_eq_true rfl⟩) ⟨fl_blind, va_recv hK hP (ci := 3) (q0 := 9) rfl (fl_at (by decide) rfl), fl_pre hP hK hN⟩ rfl rfl hl.1 rfl (lv_room (Nat.le_of_ble_eq_true rfl)) dX2_drawAnew_88 ⟨Nat.le_of_ble_eq_true rfl, Nat.le_of_ble_eq_true rfl⟩) hS (fun _ _ h => h) (fun _ h => h) (fun r88 M88 t H1 locs ht hvm hw hB hz1 hk1 hS => ?_)
      have hP : va_P D vwCl (fcP cI cII ad M88) H1 := by rw [← ht]; exact hB
      clear hB hk1 hz1 hvm ht t
      obtain ⟨rfl, hE⟩ := hw
      rw [hE] at hP
      refine W.endD hd0 ?_
      exact W.iret (v := nI (a_unl (a_picks wy (r_kp r) (r_n r) (r_wt r) d).1 (r_n r))) hx hb hr (fun t ht hW => ⟨⟨nI (a_unl (a_picks wy (r_kp r) (r_n r) (r_wt r) d).1 (r_n r)), (fl_sI (fl_sI (fc_swq M3) 8 5 (a_oI (a_find (a_ord (a_picks wy (r_kp r) (r_n r) (r_wt r) d).1 (r_n r)) k (r_n r)) (-1000009))) 8 4 (nI (r_an r + 1))), rfl, ⟨by rw [hgo], by rw [hgo]; exact (hD3.eq (P := fun c => c = 6 ∨ c = 7) (hq3.mono (by omega)) (Or.inl rfl) (Or.inr rfl)).eq (P := fun c => c = 6 ∨ c = 7) ((fl_eq.rf.sI (by decide) _ _).sI (by decide) _ _) (Or.inl rfl) (Or.inr rfl), by rw [hgo]; exact fc_BP_R hr3 hB hog han _ (fun k2 hk2 => by rw [hks] at hk2; exact (a_find_spec hk2).1) _ (by rw [hks]; rfl) _ (Or.inl rfl), ((hE0.tr (hq3.mono (fun c hc => by unfold fc_PC at hc; omega))).sI (by unfold fc_PC; omega) _ _).sI (by unfold fc_PC; omega) _ _⟩, fl_qi ht hP⟩, hS.F ht⟩) hS.2.2 dX2_drawAnew_91
  · have hT0 : a_sum (r_wt r) (r_n r) = 0 := (pk_lEQ (b := 0) (by omega) (by decide)).mp hc5
    have hgo : a_anew wy d r = (-1000004, d, r) := if_pos hT0
    refine lv_ldc (v := -1000004) hx hb hown (hts (.constant RX2 73 (-1000004)) (by decide +kernel)) dX2_drawAnew_9 ?_
    refine W.endD hd0 ?_
    exact W.iret (v := (-1000004)) hx hb hr (fun t ht hW => ⟨⟨(-1000004), M, rfl, ⟨by rw [hgo], by rw [hgo]; exact hd, by rw [hgo]; exact hr0, fl_eq.rf⟩, fl_qi ht hP⟩, hS.F ht⟩) hS.2.2 dX2_drawAnew_11

