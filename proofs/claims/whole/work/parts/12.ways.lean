theorem fl_row.cast {f g : Nat → Int32} {t : Nat → Nat} {n B : Nat} (h : fl_row f t n B) (e : g = f) : fl_row g t n B := by rw [e]; exact h
theorem a_k0_none : nI (a_k0 none) = 0 := rfl

set_option maxHeartbeats 4000000 in
set_option maxRecDepth 100000 in
theorem c_X1_add (l : Launch) {D : va_G} {cI cJ cII : ClassId} {ad : Nat → Nat} (hJ : fl_inj 62 ad) (M : fl_M) (r : Nat) (hr : r < 16) : Met l yX1_add wsX1_add ({ frames := 0, cells := 0, slots := 0, locals := 0 } : Room) (fcPc D cI cJ cII ad M [.ref (ad 9), .int (nI r)]) (va_Qv (fun M2 => M2 = fl_sI M 10 r (M.1 10 r + 1)) (fcQ D cI cII ad) (fl_A 62 ad)) 0 0 (fl_A 62 ad) := by
  refine Met.ofW (cc := cX1_add) (maxL := 2) (ret := none) (by decide) rfl ?_
  intro p e s m args below meth c s₁ B hml hv
  obtain ⟨rfl, hP, hK, hN⟩ := hv
  have hx := B.exec
  have hb := B.bytes
  have hrr := hr
  have hr := B.returns
  have hts := atoms_spec (ws := wsX1_add) B.pre
  have hown : s.vm.findClass RX1 = some m.cls := findClass_of_methodNamed B.named
  have hlocks := B.notSynchronized
  have inX1 : ∀ w ∈ u_ws RX1 TX1 2, w ∈ wsX1_add := by decide +kernel
  have hS : va_S (fl_A 62 ad) s.heap s.heap [] := va_S.rf
  have hl := lv_entry ([.ref (ad 9), .int (nI r)] : List Value) (n := 2) (Nat.le_of_ble_eq_true rfl)
  rw [lg_entry_eq]
  generalize (lg_sl ([.ref (ad 9), .int (nI r)] : List Value) ++ List.replicate (2 - (lg_sl ([.ref (ad 9), .int (nI r)] : List Value)).length) Slot.unset).toArray = ls at hl ⊢
  have hl : lv_has ls 2 [(0, .ref (ad 9)), (1, .int (nI r))] := hl
  have hr0 := hrr
  refine lv_iload_n hx hb dX1_add_0 rfl (lv_at hl 1 rfl) ?_
  refine lv_if_lt (tgt := 20) hx hb dX1_add_1 (by decide) (fun hc1 => ?_) (fun hc1 => ?_)
  · exact absurd hc1 (nI_pos (by omega))
  · refine lv_iload_n hx hb dX1_add_4 rfl (lv_at hl 1 rfl) ?_
    refine lv_bipush (v := 16) hx hb dX1_add_5 (by decide) ?_
    refine lv_icmp_ge (tgt := 20) hx hb dX1_add_7 (by decide) (fun hc7 => ?_) (fun hc7 => ?_)
    · exact absurd ((nI_leI (a := 16) (by decide) (by omega)).mp hc7) (by omega)
    · refine lv_aload_n hx hb dX1_add_10 rfl (lv_at hl 0 rfl) ?_
      refine va_get (D := D) (ci := 3) (v := .ref (ad 10)) (C := RX1) (T := TX1) (N := 2) hx hb hts inX1 hown hK hP 9 (fl_at (by decide) rfl) rfl 0 (by decide) (hts (.fieldLink RX1 9 "ResampledRows$Picks" "times" "[I") (by decide +kernel)) (fun _ h9 => h9) rfl dX1_add_11 ?_
      refine lv_iload_n hx hb dX1_add_14 rfl (lv_at hl 1 rfl) ?_
      refine lv_dup2_11 hx hb dX1_add_15 rfl rfl ?_
      refine fl_ild (n := 16) (k := r) hx hb hK hP (fc_a cI cII ad _ rfl (by decide)) rfl rfl (by omega) (by decide) dX1_add_16 ?_
      refine lv_iconst (v := 1) hx hb dX1_add_17 (by decide) ?_
      refine lv_iadd hx hb dX1_add_18 ?_
      refine fl_ist (n := 16) (k := r) (x := (M.1 10 r) + 1) hx hb hK hJ hP hS (fc_loc cI cII ad) (fc_a cI cII ad _ rfl (by decide)) (fc_arr cI cII ad _ rfl (by decide)).2 rfl rfl (by omega) (by decide) dX1_add_19 (fun H locs hP hS => ?_)
      exact W.vret hx hb hr (fun t ht hW => ⟨⟨(fl_sI M 10 r ((M.1 10 r) + 1)), rfl, rfl, fl_qi ht hP⟩, hS.F ht⟩) hS.2.2 dX1_add_20

set_option maxHeartbeats 4000000 in
set_option maxRecDepth 100000 in
theorem c_X1_firstPickBehindKept (l : Launch) {D : va_G} {cI cJ cII : ClassId} {ad : Nat → Nat} (hJ : fl_inj 62 ad) (M : fl_M) (n : Nat) (kp : Option Nat) (w : Nat → Nat) (hW : fc_W n kp w M) (h10 : fl_row (M.1 10) (fun _ => 0) n 1) : Met l yX1_firstPickBehindKept wsX1_firstPickBehindKept ({ frames := 1, cells := 0, slots := 0, locals := 21 } : Room) (fcPc D cI cJ cII ad M [.ref (ad 9), .ref (ad 8)]) (va_Qi (fun r M2 => r = nI (a_k0 kp) ∧ fl_row (M2.1 10) (a_t0 kp) n (a_k0 kp + 1) ∧ fl_eq (fun c => c ≠ 10) M M2) (fcQ D cI cII ad) (fl_A 62 ad)) 0 0 (fl_A 62 ad) := by
  refine Met.ofW (cc := cX1_firstPickBehindKept) (maxL := 2) (ret := (some .int)) (by decide) rfl ?_
  intro p e s m args below meth c s₁ B hml hv
  obtain ⟨rfl, hP, hK, hN⟩ := hv
  have hx := B.exec
  have hb := B.bytes
  have hr := B.returns
  have hts := atoms_spec (ws := wsX1_firstPickBehindKept) B.pre
  have hown : s.vm.findClass RX1 = some m.cls := findClass_of_methodNamed B.named
  have hlocks := B.notSynchronized
  have inX2 : ∀ w ∈ u_ws RX2 TX2 13, w ∈ wsX1_firstPickBehindKept := by decide +kernel
  have hS : va_S (fl_A 62 ad) s.heap s.heap [] := va_S.rf
  have hl := lv_entry ([.ref (ad 9), .ref (ad 8)] : List Value) (n := 2) (Nat.le_of_ble_eq_true rfl)
  rw [lg_entry_eq]
  generalize (lg_sl ([.ref (ad 9), .ref (ad 8)] : List Value) ++ List.replicate (2 - (lg_sl ([.ref (ad 9), .ref (ad 8)] : List Value)).length) Slot.unset).toArray = ls at hl ⊢
  have hl : lv_has ls 2 [(0, .ref (ad 9)), (1, .ref (ad 8))] := hl
  obtain ⟨⟨hn0, hn, hn1⟩, ⟨hkp, hkl⟩, hw8, hww⟩ := id hW
  refine lv_aload_n hx hb dX1_firstPickBehindKept_0 rfl (lv_at hl 1 rfl) ?_
  refine va_get (D := D) (ci := 4) (v := .int (M.1 8 5)) (C := RX2) (T := TX2) (N := 13) hx hb hts inX2 hown hK hP 8 (fl_at (by decide) rfl) rfl 5 (by decide) (hts (.fieldLink RX1 37 "ResampledRows$Run" "kept" "I") (by decide +kernel)) (fun _ h9 => h9) rfl dX1_firstPickBehindKept_1 ?_
  refine fl_ti (y := a_oI kp (-1000009)) hkp ?_
  refine lv_ldc (v := -1000009) hx hb hown (hts (.constant RX1 50 (-1000009)) (by decide +kernel)) dX1_firstPickBehindKept_4 ?_
  refine lv_icmp_ne (tgt := 11) hx hb dX1_firstPickBehindKept_6 (by decide) (fun hc6 => ?_) (fun hc6 => ?_)
  · obtain ⟨k, hk⟩ := a_oI_ne hc6
    have hkn := hkl k hk
    refine lv_aload_n hx hb dX1_firstPickBehindKept_11 rfl (lv_at hl 0 rfl) ?_
    refine lv_aload_n hx hb dX1_firstPickBehindKept_12 rfl (lv_at hl 1 rfl) ?_
    refine va_get (D := D) (ci := 4) (v := .int (M.1 8 5)) (C := RX2) (T := TX2) (N := 13) hx hb hts inX2 hown hK hP 8 (fl_at (by decide) rfl) rfl 5 (by decide) (hts (.fieldLink RX1 37 "ResampledRows$Run" "kept" "I") (by decide +kernel)) (fun _ h9 => h9) rfl dX1_firstPickBehindKept_13 ?_
    refine fl_ti (y := a_oI kp (-1000009)) hkp ?_
    refine fl_ti (y := nI k) (by rw [hk]; rfl) ?_
    refine va_callv (va_runV (As := [.int (nI k)]) (rest := []) ⟨hx, hb, hml, hown, hts⟩ (c_X1_add l hJ M k (by omega)) (cwV 1 hts gX1_firstPickBehindKept_X1_add rfl rfl rfl (by decide +kernel) ⟨Nat.le_of_ble_eq_true rfl, Nat.le_of_ble_eq_true rfl⟩) ⟨fl_blind, va_recv hK hP (ci := 3) (q0 := 9) rfl (fl_at (by decide) rfl), fl_pre hP hK hN⟩ rfl rfl hl.1 rfl (lv_room (Nat.le_of_ble_eq_true rfl)) dX1_firstPickBehindKept_16 ⟨Nat.le_of_ble_eq_true rfl, Nat.le_of_ble_eq_true rfl⟩) hS (fun _ _ h => h) (fun _ h => h) (fun M16 t H1 locs ht hvm hw hB hz1 hk1 hS => ?_)
    have hP : va_P D vwCl (fcP cI cII ad M16) H1 := by rw [← ht]; exact hB
    clear hB hk1 hz1 hvm ht t
    rw [hw] at hP
    refine lv_iconst (v := 1) hx hb dX1_firstPickBehindKept_19 (by decide) ?_
    exact W.iret (v := 1) hx hb hr (fun t ht hW => ⟨⟨1, (fl_sI M 10 k (M.1 10 k + 1)), rfl, by subst hk; exact ⟨rfl, by rw [fl_sI_same]; exact h10.bump hkn, fl_eq.rf.sI (fun q => q rfl) _ _⟩, fl_qi ht hP⟩, hS.F ht⟩) hS.2.2 dX1_firstPickBehindKept_20
  · have hk := a_oI_eq (by decide) hkl hn hc6
    refine lv_iconst (v := 0) hx hb dX1_firstPickBehindKept_9 (by decide) ?_
    exact W.iret (v := 0) hx hb hr (fun t ht hW => ⟨⟨0, M, rfl, by subst hk; exact ⟨rfl, h10, fl_eq.rf⟩, fl_qi ht hP⟩, hS.F ht⟩) hS.2.2 dX1_firstPickBehindKept_10

set_option maxHeartbeats 4000000 in
set_option maxRecDepth 100000 in
theorem c_X1_pickEachByWeights (l : Launch) {D : va_G} {cI cJ cII : ClassId} {ad : Nat → Nat} (hJ : fl_inj 62 ad) (M : fl_M) (n : Nat) (kp : Option Nat) (w : Nat → Nat) (hW : fc_W n kp w M) (d : a_D) (hd : fc_D d M) (hT0 : 0 < a_sum w n) (h10 : fl_row (M.1 10) (fun _ => 0) n 1) : Met l yX1_pickEachByWeights wsX1_pickEachByWeights ({ frames := 3, cells := 0, slots := 0, locals := 67 } : Room) (fcPc D cI cJ cII ad M [.ref (ad 9), .ref (ad 8), .ref (ad 6)]) (va_Qv (fun M2 => fl_row (M2.1 10) (a_pick (a_f0 w n) (n - a_k0 kp) (a_k0 kp) (a_t0 kp, d)).1 n 64 ∧ fc_D (a_pick (a_f0 w n) (n - a_k0 kp) (a_k0 kp) (a_t0 kp, d)).2 M2 ∧ fl_eq fc_PP M M2) (fcQ D cI cII ad) (fl_A 62 ad)) 0 0 (fl_A 62 ad) := by
  refine Met.ofW (cc := cX1_pickEachByWeights) (maxL := 4) (ret := none) (by decide) rfl ?_
  intro p e s m args below meth c s₁ B hml hv
  obtain ⟨rfl, hP, hK, hN⟩ := hv
  have hx := B.exec
  have hb := B.bytes
  have hr := B.returns
  have hts := atoms_spec (ws := wsX1_pickEachByWeights) B.pre
  have hown : s.vm.findClass RX1 = some m.cls := findClass_of_methodNamed B.named
  have hlocks := B.notSynchronized
  have inX2 : ∀ w ∈ u_ws RX2 TX2 13, w ∈ wsX1_pickEachByWeights := by decide +kernel
  have hS : va_S (fl_A 62 ad) s.heap s.heap [] := va_S.rf
  have hl := lv_entry ([.ref (ad 9), .ref (ad 8), .ref (ad 6)] : List Value) (n := 4) (Nat.le_of_ble_eq_true rfl)
  rw [lg_entry_eq]
  generalize (lg_sl ([.ref (ad 9), .ref (ad 8), .ref (ad 6)] : List Value) ++ List.replicate (4 - (lg_sl ([.ref (ad 9), .ref (ad 8), .ref (ad 6)] : List Value)).length) Slot.unset).toArray = ls at hl ⊢
  have hl : lv_has ls 4 [(0, .ref (ad 9)), (1, .ref (ad 8)), (2, .ref (ad 6))] := hl
  obtain ⟨⟨hn0, hn, hn1⟩, ⟨hkp, hkl⟩, hw8, hww⟩ := id hW
  refine lv_aload_n hx hb dX1_pickEachByWeights_0 rfl (lv_at hl 0 rfl) ?_
  refine lv_aload_n hx hb dX1_pickEachByWeights_1 rfl (lv_at hl 1 rfl) ?_
  refine va_calli (va_runV (As := [.ref (ad 8)]) (rest := []) ⟨hx, hb, hml, hown, hts⟩ (c_X1_firstPickBehindKept l hJ M n kp w hW h10) (cwV 1 hts gX1_pickEachByWeights_X1_firstPickBehindKept rfl rfl rfl (by decide +kernel) ⟨Nat.le_of_ble_eq_true rfl, Nat.le_of_ble_eq_true rfl⟩) ⟨fl_blind, va_recv hK hP (ci := 3) (q0 := 9) rfl (fl_at (by decide) rfl), fl_pre hP hK hN⟩ rfl rfl hl.1 rfl (lv_room (Nat.le_of_ble_eq_true rfl)) dX1_pickEachByWeights_2 ⟨Nat.le_of_ble_eq_true rfl, Nat.le_of_ble_eq_true rfl⟩) hS (fun _ _ h => h) (fun _ h => h) (fun r2 M2 t H1 locs ht hvm hw hB hz1 hk1 hS => ?_)
  have hP : va_P D vwCl (fcP cI cII ad M2) H1 := by rw [← ht]; exact hB
  clear hB hk1 hz1 hvm ht t
  obtain ⟨rfl, hrow0, he1⟩ := hw
  have hD0 : fc_D d M2 := hd.eq he1 (by decide) (by decide)
  have he0 : fl_eq fc_PP M M2 := he1.mono (fun c hc => hc.2.1)
  refine lv_istore_n (lv' := [(3, .int (nI (a_k0 kp))), (0, .ref (ad 9)), (1, .ref (ad 8)), (2, .ref (ad 6))]) hx hb dX1_pickEachByWeights_5 rfl hl (by decide) rfl (fun ls hl => ?_)
  suffices KL6 : ∀ (f : Nat) (k : Nat) (M3 : fl_M) (q : (Nat → Nat) × a_D) (hk : k ≤ n) (hrow : fl_row (M3.1 10) q.1 n (k + 1)) (hD : fc_D q.2 M3) (hinv : a_pick (a_f0 w n) (n - k) k q = a_pick (a_f0 w n) (n - a_k0 kp) (a_k0 kp) (a_t0 kp, d)) (he : fl_eq fc_PP M M3) (hf : n + 1 ≤ k + f), ∀ (H : Heap) (locs : List Loc), va_P D vwCl (fcP cI cII ad M3) H → va_S (fl_A 62 ad) s.heap H locs → ∀ (ls : Array Slot), lv_has ls 4 [(0, .ref (ad 9)), (1, .ref (ad 8)), (2, .ref (ad 6)), (3, .int (nI k))] → W p l e (headSpec wsX1_pickEachByWeights ({ frames := 3, cells := 0, slots := 0, locals := 67 } : Room)).room s m ([.ref (ad 9), .ref (ad 8), .ref (ad 6)] : List Value).toArray below meth c H locs 0 0 (MQ below (va_Qv (fun M2 => fl_row (M2.1 10) (a_pick (a_f0 w n) (n - a_k0 kp) (a_k0 kp) (a_t0 kp, d)).1 n 64 ∧ fc_D (a_pick (a_f0 w n) (n - a_k0 kp) (a_k0 kp) (a_t0 kp, d)).2 M2 ∧ fl_eq fc_PP M M2) (fcQ D cI cII ad) (fl_A 62 ad)) ([.ref (ad 9), .ref (ad 8), .ref (ad 6)] : List Value).toArray s 0 0 (fl_A 62 ad)) (F0 m 6 ls []) from KL6 (n + 1) (a_k0 kp) _ (a_t0 kp, d) (a_k0_le hkl) hrow0 hD0 rfl he0 (by have := a_k0_le hkl; omega) _ _ hP hS ls (lv_sub hl [1, 2, 3, 0] rfl)
  intro f
  induction f with
  | zero =>
    intro k M3 q hk hrow hD hinv he hf
    omega
  | succ f ih6 =>
    intro k M3 q hk hrow hD hinv he hf H locs hP hS ls hl
    have hW3 := hW.eq he
    obtain ⟨⟨-, -, hn3⟩, -, hw83, hww3⟩ := id hW3
    refine lv_iload_n hx hb dX1_pickEachByWeights_6 rfl (lv_at hl 3 rfl) ?_
    refine lv_aload_n hx hb dX1_pickEachByWeights_7 rfl (lv_at hl 1 rfl) ?_
    refine va_get (D := D) (ci := 4) (v := .int (M3.1 8 2)) (C := RX2) (T := TX2) (N := 13) hx hb hts inX2 hown hK hP 8 (fl_at (by decide) rfl) rfl 2 (by decide) (hts (.fieldLink RX1 43 "ResampledRows$Run" "n" "I") (by decide +kernel)) (fun _ h9 => h9) rfl dX1_pickEachByWeights_8 ?_
    refine fl_ti (y := nI n) hn3 ?_
    refine lv_icmp_ge (tgt := 36) hx hb dX1_pickEachByWeights_11 (by decide) (fun hc11 => ?_) (fun hc11 => ?_)
    · have e11 : k = n := Nat.le_antisymm hk ((nI_leI (by omega) (by omega)).mp hc11)
      have hfin : q = a_pick (a_f0 w n) (n - a_k0 kp) (a_k0 kp) (a_t0 kp, d) := by rw [← hinv, e11, Nat.sub_self]; rfl
      exact W.vret hx hb hr (fun t ht hW => ⟨⟨M3, rfl, ⟨by rw [← hfin]; exact hrow.lt (by omega), by rw [← hfin]; exact hD, he⟩, fl_qi ht hP⟩, hS.F ht⟩) hS.2.2 dX1_pickEachByWeights_36
    · have l11 : k < n := Nat.lt_of_not_le (fun q => hc11 ((nI_leI (by omega) (by omega)).mpr q))
      have lK := l11
      refine lv_aload_n hx hb dX1_pickEachByWeights_14 rfl (lv_at hl 0 rfl) ?_
      refine lv_aload_n hx hb dX1_pickEachByWeights_15 rfl (lv_at hl 2 rfl) ?_
      refine lv_aload_n hx hb dX1_pickEachByWeights_16 rfl (lv_at hl 1 rfl) ?_
      refine va_get (D := D) (ci := 4) (v := .ref (ad (M3.2.2.2 8 8))) (C := RX2) (T := TX2) (N := 13) hx hb hts inX2 hown hK hP 8 (fl_at (by decide) rfl) rfl 8 (by decide) (hts (.fieldLink RX1 59 "ResampledRows$Run" "weights" "[I") (by decide +kernel)) (fun _ h9 => h9) rfl dX1_pickEachByWeights_17 ?_
      refine lv_aload_n hx hb dX1_pickEachByWeights_20 rfl (lv_at hl 1 rfl) ?_
      refine va_get (D := D) (ci := 4) (v := .int (M3.1 8 2)) (C := RX2) (T := TX2) (N := 13) hx hb hts inX2 hown hK hP 8 (fl_at (by decide) rfl) rfl 2 (by decide) (hts (.fieldLink RX1 43 "ResampledRows$Run" "n" "I") (by decide +kernel)) (fun _ h9 => h9) rfl dX1_pickEachByWeights_21 ?_
      refine fl_ti (y := nI n) hn3 ?_
      refine va_calli (va_runV (As := [.ref (ad (M3.2.2.2 8 8)), .int (nI n)]) (rest := [.ref (ad 9)]) ⟨hx, hb, hml, hown, hts⟩ (c_X0_byWeights l hJ M3 q.2 _ 16 n w hW3.l8 (by decide) hn (by omega) (fun j hj => ⟨(hww3 j hj).1, by have := (hww3 j hj).2; omega⟩) (by have := a_row_le (B := 1000000) hww3; omega) hD) (cwV 2 hts gX1_pickEachByWeights_X0_byWeights rfl rfl rfl (by decide +kernel) ⟨Nat.le_of_ble_eq_true rfl, Nat.le_of_ble_eq_true rfl⟩) ⟨fl_blind, va_recv hK hP (ci := 2) (q0 := 6) rfl (fl_at (by decide) rfl), fl_pre hP hK hN⟩ rfl rfl hl.1 rfl (lv_room (Nat.le_of_ble_eq_true rfl)) dX1_pickEachByWeights_24 ⟨Nat.le_of_ble_eq_true rfl, Nat.le_of_ble_eq_true rfl⟩) hS (fun _ _ h => h) (fun _ h => h) (fun r24 M24 t H1 locs ht hvm hw hB hz1 hk1 hS => ?_)
      have hP : va_P D vwCl (fcP cI cII ad M24) H1 := by rw [← ht]; exact hB
      clear hB hk1 hz1 hvm ht t
      obtain ⟨rfl, hDb, heb⟩ := hw
      obtain ⟨x, hx0⟩ : ∃ x, x = (a_f0 w n k q.2).1 := ⟨_, rfl⟩
      have hxn : x < n := by rw [hx0]; exact a_f0_lt hT0 k q.2
      refine fl_ti (y := nI x) (by rw [hx0, a_by_some (by omega)]; rfl) ?_
      refine va_callv (va_runV (As := [.int (nI x)]) (rest := []) ⟨hx, hb, hml, hown, hts⟩ (c_X1_add l hJ M24 x (by omega)) (cwV 1 hts gX1_pickEachByWeights_X1_add rfl rfl rfl (by decide +kernel) ⟨Nat.le_of_ble_eq_true rfl, Nat.le_of_ble_eq_true rfl⟩) ⟨fl_blind, va_recv hK hP (ci := 3) (q0 := 9) rfl (fl_at (by decide) rfl), fl_pre hP hK hN⟩ rfl rfl hl.1 rfl (lv_room (Nat.le_of_ble_eq_true rfl)) dX1_pickEachByWeights_27 ⟨Nat.le_of_ble_eq_true rfl, Nat.le_of_ble_eq_true rfl⟩) hS (fun _ _ h => h) (fun _ h => h) (fun M27 t H1 locs ht hvm hw hB hz1 hk1 hS => ?_)
      have hP : va_P D vwCl (fcP cI cII ad M27) H1 := by rw [← ht]; exact hB
      clear hB hk1 hz1 hvm ht t
      rw [hw] at hP
      have hrow4 : fl_row ((fl_sI M24 10 x (M24.1 10 x + 1)).1 10) (a_bump q.1 (a_f0 w n k q.2).1) n (k + 1 + 1) := by
        rw [fl_sI_same, ← hx0]
        exact (hrow.cast (heb 10 (by decide)).1).bump hxn
      have hD4 : fc_D (a_f0 w n k q.2).2 (fl_sI M24 10 x (M24.1 10 x + 1)) := hDb.eq (P := fun c => c = 6 ∨ c = 7) (fl_eq.rf.sI (by decide) _ _) (Or.inl rfl) (Or.inr rfl)
      have he4 : fl_eq fc_PP M (fl_sI M24 10 x (M24.1 10 x + 1)) := (he.tr (heb.mono (fun c hc => hc.1))).sI (fun q => q.2.1 rfl) _ _
      refine lv_iinc (v := nI (k + 1)) (lv' := [(3, .int (nI (k + 1))), (0, .ref (ad 9)), (1, .ref (ad 8)), (2, .ref (ad 6))]) hx hb dX1_pickEachByWeights_30 hl (k := 3) rfl (fl_inc k) (by decide) rfl (fun ls hl => ?_)
      refine lv_goto (tgt := 6) hx hb dX1_pickEachByWeights_33 (by decide) ?_
      exact ih6 (k + 1) (fl_sI M24 10 x (M24.1 10 x + 1)) (a_bump q.1 ((a_f0 w n) k q.2).1, ((a_f0 w n) k q.2).2) (by omega) hrow4 hD4 (by rw [← hinv, a_pick_s lK]) he4 (by omega) _ _ hP hS ls (lv_sub hl [1, 2, 3, 0] rfl)

set_option maxHeartbeats 4000000 in
set_option maxRecDepth 100000 in
theorem c_X1_pickWithDrawsOfTheirOwn (l : Launch) {D : va_G} {cI cJ cII : ClassId} {ad : Nat → Nat} (hJ : fl_inj 62 ad) (M : fl_M) (n : Nat) (kp : Option Nat) (w : Nat → Nat) (hW : fc_W n kp w M) (d : a_D) (hd : fc_D d M) (hT0 : 0 < a_sum w n) (h10 : fl_row (M.1 10) (fun _ => 0) n 1) : Met l yX1_pickWithDrawsOfTheirOwn wsX1_pickWithDrawsOfTheirOwn ({ frames := 2, cells := 0, slots := 0, locals := 44 } : Room) (fcPc D cI cJ cII ad M [.ref (ad 9), .ref (ad 8), .ref (ad 6)]) (va_Qv (fun M2 => fl_row (M2.1 10) (a_pick (a_f1 w n) (n - a_k0 kp) (a_k0 kp) (a_t0 kp, d)).1 n 64 ∧ fc_D (a_pick (a_f1 w n) (n - a_k0 kp) (a_k0 kp) (a_t0 kp, d)).2 M2 ∧ fl_eq fc_PP M M2) (fcQ D cI cII ad) (fl_A 62 ad)) 0 0 (fl_A 62 ad) := by
  refine Met.ofW (cc := cX1_pickWithDrawsOfTheirOwn) (maxL := 6) (ret := none) (by decide) rfl ?_
  intro p e s m args below meth c s₁ B hml hv
  obtain ⟨rfl, hP, hK, hN⟩ := hv
  have hx := B.exec
  have hb := B.bytes
  have hr := B.returns
  have hts := atoms_spec (ws := wsX1_pickWithDrawsOfTheirOwn) B.pre
  have hown : s.vm.findClass RX1 = some m.cls := findClass_of_methodNamed B.named
  have hlocks := B.notSynchronized
  have inX2 : ∀ w ∈ u_ws RX2 TX2 13, w ∈ wsX1_pickWithDrawsOfTheirOwn := by decide +kernel
  have hS : va_S (fl_A 62 ad) s.heap s.heap [] := va_S.rf
  have hl := lv_entry ([.ref (ad 9), .ref (ad 8), .ref (ad 6)] : List Value) (n := 6) (Nat.le_of_ble_eq_true rfl)
  rw [lg_entry_eq]
  generalize (lg_sl ([.ref (ad 9), .ref (ad 8), .ref (ad 6)] : List Value) ++ List.replicate (6 - (lg_sl ([.ref (ad 9), .ref (ad 8), .ref (ad 6)] : List Value)).length) Slot.unset).toArray = ls at hl ⊢
  have hl : lv_has ls 6 [(0, .ref (ad 9)), (1, .ref (ad 8)), (2, .ref (ad 6))] := hl
  obtain ⟨⟨hn0, hn, hn1⟩, ⟨hkp, hkl⟩, hw8, hww⟩ := id hW
  have hTl : a_sum w n ≤ 16000000 := by have := a_row_le (B := 1000000) hww; omega
  refine lv_aload_n hx hb dX1_pickWithDrawsOfTheirOwn_0 rfl (lv_at hl 1 rfl) ?_
  refine va_calll (va_runV (As := []) (rest := []) ⟨hx, hb, hml, hown, hts⟩ (c_X2_total l hJ M n w hn hn1 hW.l8 hww) (cwV 0 hts gX1_pickWithDrawsOfTheirOwn_X2_total rfl rfl rfl (by decide +kernel) ⟨Nat.le_of_ble_eq_true rfl, Nat.le_of_ble_eq_true rfl⟩) ⟨fl_blind, va_recv hK hP (ci := 4) (q0 := 8) rfl (fl_at (by decide) rfl), fl_pre hP hK hN⟩ rfl rfl hl.1 rfl (lv_room (Nat.le_of_ble_eq_true rfl)) dX1_pickWithDrawsOfTheirOwn_1 ⟨Nat.le_of_ble_eq_true rfl, Nat.le_of_ble_eq_true rfl⟩) hS (fun _ _ h => h) (fun _ h => h) (fun r1 M1 t H1 locs ht hvm hw hB hz1 hk1 hS => ?_)
  have hP : va_P D vwCl (fcP cI cII ad M1) H1 := by rw [← ht]; exact hB
  clear hB hk1 hz1 hvm ht t
  obtain ⟨rfl, hE⟩ := hw
  rw [hE] at hP
  refine lv_lstore_n (lv' := [(3, .long (lN (a_sum w n))), (0, .ref (ad 9)), (1, .ref (ad 8)), (2, .ref (ad 6))]) hx hb dX1_pickWithDrawsOfTheirOwn_4 rfl hl (by decide) rfl (fun ls hl => ?_)
  refine lv_aload_n hx hb dX1_pickWithDrawsOfTheirOwn_5 rfl (lv_at hl 1 rfl) ?_
  refine lv_aload_n hx hb dX1_pickWithDrawsOfTheirOwn_6 rfl (lv_at hl 2 rfl) ?_
  refine va_calli (va_runV (As := [.ref (ad 8)]) (rest := []) ⟨hx, hb, hml, hown, hts⟩ (c_X1_firstPickBehindKept l hJ M n kp w hW h10) (cwV 1 hts gX1_pickWithDrawsOfTheirOwn_X1_firstPickBehindKept rfl rfl rfl (by decide +kernel) ⟨Nat.le_of_ble_eq_true rfl, Nat.le_of_ble_eq_true rfl⟩) ⟨fl_blind, va_recv hK hP (ci := 3) (q0 := 9) rfl (fl_at (by decide) rfl), fl_pre hP hK hN⟩ rfl rfl hl.1 rfl (lv_room (Nat.le_of_ble_eq_true rfl)) dX1_pickWithDrawsOfTheirOwn_7 ⟨Nat.le_of_ble_eq_true rfl, Nat.le_of_ble_eq_true rfl⟩) hS (fun _ _ h => h) (fun _ h => h) (fun r7 M7 t H1 locs ht hvm hw hB hz1 hk1 hS => ?_)
  have hP : va_P D vwCl (fcP cI cII ad M7) H1 := by rw [← ht]; exact hB
  clear hB hk1 hz1 hvm ht t
  obtain ⟨rfl, hrow0, he1⟩ := hw
  have hD0 : fc_D d M7 := hd.eq he1 (by decide) (by decide)
  have he0 : fl_eq fc_PP M M7 := he1.mono (fun c hc => hc.2.1)
  refine lv_istore (lv' := [(5, .int (nI (a_k0 kp))), (3, .long (lN (a_sum w n))), (0, .ref (ad 9)), (1, .ref (ad 8)), (2, .ref (ad 6))]) hx hb dX1_pickWithDrawsOfTheirOwn_10 hl (by decide) rfl (fun ls hl => ?_)
  suffices KL12 : ∀ (f : Nat) (k : Nat) (M3 : fl_M) (q : (Nat → Nat) × a_D) (hk : k ≤ n) (hrow : fl_row (M3.1 10) q.1 n (k + 1)) (hD : fc_D q.2 M3) (hinv : a_pick (a_f1 w n) (n - k) k q = a_pick (a_f1 w n) (n - a_k0 kp) (a_k0 kp) (a_t0 kp, d)) (he : fl_eq fc_PP M M3) (hf : n + 1 ≤ k + f), ∀ (H : Heap) (locs : List Loc), va_P D vwCl (fcP cI cII ad M3) H → va_S (fl_A 62 ad) s.heap H locs → ∀ (ls : Array Slot), lv_has ls 6 [(0, .ref (ad 9)), (1, .ref (ad 8)), (2, .ref (ad 6)), (3, .long (lN (a_sum w n))), (5, .int (nI k))] → W p l e (headSpec wsX1_pickWithDrawsOfTheirOwn ({ frames := 2, cells := 0, slots := 0, locals := 44 } : Room)).room s m ([.ref (ad 9), .ref (ad 8), .ref (ad 6)] : List Value).toArray below meth c H locs 0 0 (MQ below (va_Qv (fun M2 => fl_row (M2.1 10) (a_pick (a_f1 w n) (n - a_k0 kp) (a_k0 kp) (a_t0 kp, d)).1 n 64 ∧ fc_D (a_pick (a_f1 w n) (n - a_k0 kp) (a_k0 kp) (a_t0 kp, d)).2 M2 ∧ fl_eq fc_PP M M2) (fcQ D cI cII ad) (fl_A 62 ad)) ([.ref (ad 9), .ref (ad 8), .ref (ad 6)] : List Value).toArray s 0 0 (fl_A 62 ad)) (F0 m 12 ls []) from KL12 (n + 1) (a_k0 kp) _ (a_t0 kp, d) (a_k0_le hkl) hrow0 hD0 rfl he0 (by have := a_k0_le hkl; omega) _ _ hP hS ls (lv_sub hl [2, 3, 4, 1, 0] rfl)
  intro f
  induction f with
  | zero =>
    intro k M3 q hk hrow hD hinv he hf
    omega
  | succ f ih12 =>
    intro k M3 q hk hrow hD hinv he hf H locs hP hS ls hl
    have hW3 := hW.eq he
    obtain ⟨⟨-, -, hn3⟩, -, hw83, hww3⟩ := id hW3
    refine lv_iload hx hb dX1_pickWithDrawsOfTheirOwn_12 (lv_at hl 4 rfl) ?_
    refine lv_aload_n hx hb dX1_pickWithDrawsOfTheirOwn_14 rfl (lv_at hl 1 rfl) ?_
    refine va_get (D := D) (ci := 4) (v := .int (M3.1 8 2)) (C := RX2) (T := TX2) (N := 13) hx hb hts inX2 hown hK hP 8 (fl_at (by decide) rfl) rfl 2 (by decide) (hts (.fieldLink RX1 43 "ResampledRows$Run" "n" "I") (by decide +kernel)) (fun _ h9 => h9) rfl dX1_pickWithDrawsOfTheirOwn_15 ?_
    refine fl_ti (y := nI n) hn3 ?_
    refine lv_icmp_ge (tgt := 58) hx hb dX1_pickWithDrawsOfTheirOwn_18 (by decide) (fun hc18 => ?_) (fun hc18 => ?_)
    · have e18 : k = n := Nat.le_antisymm hk ((nI_leI (by omega) (by omega)).mp hc18)
      have hfin : q = a_pick (a_f1 w n) (n - a_k0 kp) (a_k0 kp) (a_t0 kp, d) := by rw [← hinv, e18, Nat.sub_self]; rfl
      exact W.vret hx hb hr (fun t ht hW => ⟨⟨M3, rfl, ⟨by rw [← hfin]; exact hrow.lt (by omega), by rw [← hfin]; exact hD, he⟩, fl_qi ht hP⟩, hS.F ht⟩) hS.2.2 dX1_pickWithDrawsOfTheirOwn_58
    · have l18 : k < n := Nat.lt_of_not_le (fun q => hc18 ((nI_leI (by omega) (by omega)).mpr q))
      have lK := l18
      refine lv_aload_n hx hb dX1_pickWithDrawsOfTheirOwn_21 rfl (lv_at hl 0 rfl) ?_
      refine lv_iload hx hb dX1_pickWithDrawsOfTheirOwn_22 (lv_at hl 4 rfl) ?_
      refine lv_i2l (v := (nI k).toInt64) hx hb dX1_pickWithDrawsOfTheirOwn_24 rfl ?_
      refine fl_tl (y := lN k) (nI_l (by omega)) ?_
      refine lv_lload_n hx hb dX1_pickWithDrawsOfTheirOwn_25 rfl (lv_at hl 3 rfl) ?_
      refine lv_lmul hx hb dX1_pickWithDrawsOfTheirOwn_26 ?_
      refine fl_tl (y := lN (k * a_sum w n)) (lN_mul _ _) ?_
      refine lv_aload_n hx hb dX1_pickWithDrawsOfTheirOwn_27 rfl (lv_at hl 2 rfl) ?_
      refine lv_lload_n hx hb dX1_pickWithDrawsOfTheirOwn_28 rfl (lv_at hl 3 rfl) ?_
      refine va_calll (va_runV (As := [.long (lN (a_sum w n))]) (rest := [.long (lN (k * a_sum w n)), .ref (ad 9)]) ⟨hx, hb, hml, hown, hts⟩ (c_X0_below l hJ M3 q.2 (a_sum w n) hT0 (by omega) hD) (cwV 1 hts gX1_pickWithDrawsOfTheirOwn_X0_below rfl rfl rfl (by decide +kernel) ⟨Nat.le_of_ble_eq_true rfl, Nat.le_of_ble_eq_true rfl⟩) ⟨fl_blind, va_recv hK hP (ci := 2) (q0 := 6) rfl (fl_at (by decide) rfl), fl_pre hP hK hN⟩ rfl rfl hl.1 rfl (lv_room (Nat.le_of_ble_eq_true rfl)) dX1_pickWithDrawsOfTheirOwn_29 ⟨Nat.le_of_ble_eq_true rfl, Nat.le_of_ble_eq_true rfl⟩) hS (fun _ _ h => h) (fun _ h => h) (fun r29 M29 t H1 locs ht hvm hw hB hz1 hk1 hS => ?_)
      have hP : va_P D vwCl (fcP cI cII ad M29) H1 := by rw [← ht]; exact hB
      clear hB hk1 hz1 hvm ht t
      obtain ⟨rfl, hDb, heb⟩ := hw
      obtain ⟨b, hb0⟩ : ∃ b, b = (a_next q.2).1 % a_sum w n := ⟨_, rfl⟩
      have hDR : b < a_sum w n := by rw [hb0]; exact Nat.mod_lt _ hT0
      have hb1 : k * a_sum w n +  b < n * a_sum w n := a_kT lK hDR
      have hb2 : n * a_sum w n ≤ 16 * 16000000 := Nat.mul_le_mul hn (by have := a_row_le (B := 1000000) hww; omega)
      have hW29 := hW.eq (he.tr (heb.mono (fun c hc => hc.1)))
      obtain ⟨⟨-, -, hn29⟩, -, hw829, hww29⟩ := id hW29
      refine fl_tl (y := lN b) (by rw [hb0]) ?_
      obtain ⟨x, hx0⟩ : ∃ x, x = (a_f1 w n k q.2).1 := ⟨_, rfl⟩
      have hxe : x = a_first w n (k * a_sum w n + b) n := by rw [hx0, hb0]; rfl
      have hxn : x < n := by rw [hx0]; exact a_f1_lt hT0 lK q.2
      refine lv_ladd hx hb dX1_pickWithDrawsOfTheirOwn_32 ?_
      refine fl_tl (y := lN (k * a_sum w n + b)) (lN_add _ _) ?_
      refine lv_aload_n hx hb dX1_pickWithDrawsOfTheirOwn_33 rfl (lv_at hl 1 rfl) ?_
      refine va_get (D := D) (ci := 4) (v := .int (M29.1 8 2)) (C := RX2) (T := TX2) (N := 13) hx hb hts inX2 hown hK hP 8 (fl_at (by decide) rfl) rfl 2 (by decide) (hts (.fieldLink RX1 43 "ResampledRows$Run" "n" "I") (by decide +kernel)) (fun _ h9 => h9) rfl dX1_pickWithDrawsOfTheirOwn_34 ?_
      refine fl_ti (y := nI n) hn29 ?_
      refine lv_i2l (v := (nI n).toInt64) hx hb dX1_pickWithDrawsOfTheirOwn_37 rfl ?_
      refine fl_tl (y := lN n) (nI_l (by omega)) ?_
      refine lv_aload_n hx hb dX1_pickWithDrawsOfTheirOwn_38 rfl (lv_at hl 1 rfl) ?_
      refine va_get (D := D) (ci := 4) (v := .ref (ad (M29.2.2.2 8 8))) (C := RX2) (T := TX2) (N := 13) hx hb hts inX2 hown hK hP 8 (fl_at (by decide) rfl) rfl 8 (by decide) (hts (.fieldLink RX1 59 "ResampledRows$Run" "weights" "[I") (by decide +kernel)) (fun _ h9 => h9) rfl dX1_pickWithDrawsOfTheirOwn_39 ?_
      refine lv_aload_n hx hb dX1_pickWithDrawsOfTheirOwn_42 rfl (lv_at hl 1 rfl) ?_
      refine va_get (D := D) (ci := 4) (v := .int (M29.1 8 2)) (C := RX2) (T := TX2) (N := 13) hx hb hts inX2 hown hK hP 8 (fl_at (by decide) rfl) rfl 2 (by decide) (hts (.fieldLink RX1 43 "ResampledRows$Run" "n" "I") (by decide +kernel)) (fun _ h9 => h9) rfl dX1_pickWithDrawsOfTheirOwn_43 ?_
      refine fl_ti (y := nI n) hn29 ?_
      refine va_calli (va_runSN (As := [.long (lN (k * a_sum w n + b)), .long (lN n), .ref (ad (M29.2.2.2 8 8)), .int (nI n)]) (rest := [.ref (ad 9)]) ⟨hx, hb, hml, hown, hts⟩ (c_X4_firstAbove l hJ M29 _ 16 n (k * a_sum w n + b) n w hW29.l8 (by decide) hn (fun j hj => ⟨(hww29 j hj).1, by have := (hww29 j hj).2; omega⟩) (by omega) (by omega)) ⟨va_cnB 4 hts gX1_pickWithDrawsOfTheirOwn_X4_firstAbove_n76 rfl rfl rfl hN.2.2.1 (hts (.initialized RX4) (by decide +kernel)) (by decide +kernel) ⟨Nat.le_of_ble_eq_true rfl, Nat.le_of_ble_eq_true rfl⟩, hts (.static yX4_firstAbove) (by decide +kernel), trivial⟩ ⟨fl_blind, fl_pre hP hK hN⟩ rfl rfl hl.1 rfl (lv_room (Nat.le_of_ble_eq_true rfl)) dX1_pickWithDrawsOfTheirOwn_46 ⟨Nat.le_of_ble_eq_true rfl, Nat.le_of_ble_eq_true rfl⟩) hS (fun _ _ h => h) (fun _ h => h) (fun r46 M46 t H1 locs ht hvm hw hB hz1 hk1 hS => ?_)
      have hP : va_P D vwCl (fcP cI cII ad M46) H1 := by rw [← ht]; exact hB
      clear hB hk1 hz1 hvm ht t
      obtain ⟨rfl, hE⟩ := hw
      rw [hE] at hP
      refine fl_ti (y := nI x) (by rw [if_pos hb1, hxe]) ?_
      refine va_callv (va_runV (As := [.int (nI x)]) (rest := []) ⟨hx, hb, hml, hown, hts⟩ (c_X1_add l hJ M29 x (by omega)) (cwV 1 hts gX1_pickWithDrawsOfTheirOwn_X1_add rfl rfl rfl (by decide +kernel) ⟨Nat.le_of_ble_eq_true rfl, Nat.le_of_ble_eq_true rfl⟩) ⟨fl_blind, va_recv hK hP (ci := 3) (q0 := 9) rfl (fl_at (by decide) rfl), fl_pre hP hK hN⟩ rfl rfl hl.1 rfl (lv_room (Nat.le_of_ble_eq_true rfl)) dX1_pickWithDrawsOfTheirOwn_49 ⟨Nat.le_of_ble_eq_true rfl, Nat.le_of_ble_eq_true rfl⟩) hS (fun _ _ h => h) (fun _ h => h) (fun M49 t H1 locs ht hvm hw hB hz1 hk1 hS => ?_)
      have hP : va_P D vwCl (fcP cI cII ad M49) H1 := by rw [← ht]; exact hB
      clear hB hk1 hz1 hvm ht t
      rw [hw] at hP
      have hrow4 : fl_row ((fl_sI M29 10 x (M29.1 10 x + 1)).1 10) (a_bump q.1 (a_f1 w n k q.2).1) n (k + 1 + 1) := by
        rw [fl_sI_same, ← hx0]
        exact (hrow.cast (heb 10 (by decide)).1).bump hxn
      have hD4 : fc_D (a_f1 w n k q.2).2 (fl_sI M29 10 x (M29.1 10 x + 1)) := hDb.eq (P := fun c => c = 6 ∨ c = 7) (fl_eq.rf.sI (by decide) _ _) (Or.inl rfl) (Or.inr rfl)
      have he4 : fl_eq fc_PP M (fl_sI M29 10 x (M29.1 10 x + 1)) := (he.tr (heb.mono (fun c hc => hc.1))).sI (fun q => q.2.1 rfl) _ _
      refine lv_iinc (v := nI (k + 1)) (lv' := [(5, .int (nI (k + 1))), (0, .ref (ad 9)), (1, .ref (ad 8)), (2, .ref (ad 6)), (3, .long (lN (a_sum w n)))]) hx hb dX1_pickWithDrawsOfTheirOwn_52 hl (k := 4) rfl (fl_inc k) (by decide) rfl (fun ls hl => ?_)
      refine lv_goto (tgt := 12) hx hb dX1_pickWithDrawsOfTheirOwn_55 (by decide) ?_
      exact ih12 (k + 1) (fl_sI M29 10 x (M29.1 10 x + 1)) (a_bump q.1 ((a_f1 w n) k q.2).1, ((a_f1 w n) k q.2).2) (by omega) hrow4 hD4 (by rw [← hinv, a_pick_s lK]) he4 (by omega) _ _ hP hS ls (lv_sub hl [1, 2, 3, 4, 0] rfl)

set_option maxHeartbeats 4000000 in
set_option maxRecDepth 100000 in
theorem c_X1_pickWithOneDraw (l : Launch) {D : va_G} {cI cJ cII : ClassId} {ad : Nat → Nat} (hJ : fl_inj 62 ad) (M : fl_M) (n : Nat) (kp : Option Nat) (w : Nat → Nat) (hW : fc_W n kp w M) (d : a_D) (hd : fc_D d M) (hT0 : 0 < a_sum w n) (h10 : fl_row (M.1 10) (fun _ => 0) n 1) : Met l yX1_pickWithOneDraw wsX1_pickWithOneDraw ({ frames := 2, cells := 0, slots := 0, locals := 44 } : Room) (fcPc D cI cJ cII ad M [.ref (ad 9), .ref (ad 8), .ref (ad 6)]) (va_Qv (fun M2 => fl_row (M2.1 10) (a_pick (a_f2 w n ((a_next d).1 % a_sum w n)) (n - a_k0 kp) (a_k0 kp) (a_t0 kp, (a_next d).2)).1 n 64 ∧ fc_D (a_pick (a_f2 w n ((a_next d).1 % a_sum w n)) (n - a_k0 kp) (a_k0 kp) (a_t0 kp, (a_next d).2)).2 M2 ∧ fl_eq fc_PP M M2) (fcQ D cI cII ad) (fl_A 62 ad)) 0 0 (fl_A 62 ad) := by
  refine Met.ofW (cc := cX1_pickWithOneDraw) (maxL := 8) (ret := none) (by decide) rfl ?_
  intro p e s m args below meth c s₁ B hml hv
  obtain ⟨rfl, hP, hK, hN⟩ := hv
  have hx := B.exec
  have hb := B.bytes
  have hr := B.returns
  have hts := atoms_spec (ws := wsX1_pickWithOneDraw) B.pre
  have hown : s.vm.findClass RX1 = some m.cls := findClass_of_methodNamed B.named
  have hlocks := B.notSynchronized
  have inX2 : ∀ w ∈ u_ws RX2 TX2 13, w ∈ wsX1_pickWithOneDraw := by decide +kernel
  have hS : va_S (fl_A 62 ad) s.heap s.heap [] := va_S.rf
  have hl := lv_entry ([.ref (ad 9), .ref (ad 8), .ref (ad 6)] : List Value) (n := 8) (Nat.le_of_ble_eq_true rfl)
  rw [lg_entry_eq]
  generalize (lg_sl ([.ref (ad 9), .ref (ad 8), .ref (ad 6)] : List Value) ++ List.replicate (8 - (lg_sl ([.ref (ad 9), .ref (ad 8), .ref (ad 6)] : List Value)).length) Slot.unset).toArray = ls at hl ⊢
  have hl : lv_has ls 8 [(0, .ref (ad 9)), (1, .ref (ad 8)), (2, .ref (ad 6))] := hl
  obtain ⟨⟨hn0, hn, hn1⟩, ⟨hkp, hkl⟩, hw8, hww⟩ := id hW
  have hTl : a_sum w n ≤ 16000000 := by have := a_row_le (B := 1000000) hww; omega
  refine lv_aload_n hx hb dX1_pickWithOneDraw_0 rfl (lv_at hl 1 rfl) ?_
  refine va_calll (va_runV (As := []) (rest := []) ⟨hx, hb, hml, hown, hts⟩ (c_X2_total l hJ M n w hn hn1 hW.l8 hww) (cwV 0 hts gX1_pickWithOneDraw_X2_total rfl rfl rfl (by decide +kernel) ⟨Nat.le_of_ble_eq_true rfl, Nat.le_of_ble_eq_true rfl⟩) ⟨fl_blind, va_recv hK hP (ci := 4) (q0 := 8) rfl (fl_at (by decide) rfl), fl_pre hP hK hN⟩ rfl rfl hl.1 rfl (lv_room (Nat.le_of_ble_eq_true rfl)) dX1_pickWithOneDraw_1 ⟨Nat.le_of_ble_eq_true rfl, Nat.le_of_ble_eq_true rfl⟩) hS (fun _ _ h => h) (fun _ h => h) (fun r1 M1 t H1 locs ht hvm hw hB hz1 hk1 hS => ?_)
  have hP : va_P D vwCl (fcP cI cII ad M1) H1 := by rw [← ht]; exact hB
  clear hB hk1 hz1 hvm ht t
  obtain ⟨rfl, hE⟩ := hw
  rw [hE] at hP
  refine lv_lstore_n (lv' := [(3, .long (lN (a_sum w n))), (0, .ref (ad 9)), (1, .ref (ad 8)), (2, .ref (ad 6))]) hx hb dX1_pickWithOneDraw_4 rfl hl (by decide) rfl (fun ls hl => ?_)
  refine lv_aload_n hx hb dX1_pickWithOneDraw_5 rfl (lv_at hl 3 rfl) ?_
  refine lv_lload_n hx hb dX1_pickWithOneDraw_6 rfl (lv_at hl 0 rfl) ?_
  refine va_calll (va_runV (As := [.long (lN (a_sum w n))]) (rest := []) ⟨hx, hb, hml, hown, hts⟩ (c_X0_below l hJ M d (a_sum w n) hT0 (by omega) hd) (cwV 1 hts gX1_pickWithOneDraw_X0_below rfl rfl rfl (by decide +kernel) ⟨Nat.le_of_ble_eq_true rfl, Nat.le_of_ble_eq_true rfl⟩) ⟨fl_blind, va_recv hK hP (ci := 2) (q0 := 6) rfl (fl_at (by decide) rfl), fl_pre hP hK hN⟩ rfl rfl hl.1 rfl (lv_room (Nat.le_of_ble_eq_true rfl)) dX1_pickWithOneDraw_7 ⟨Nat.le_of_ble_eq_true rfl, Nat.le_of_ble_eq_true rfl⟩) hS (fun _ _ h => h) (fun _ h => h) (fun r7 M7 t H1 locs ht hvm hw hB hz1 hk1 hS => ?_)
  have hP : va_P D vwCl (fcP cI cII ad M7) H1 := by rw [← ht]; exact hB
  clear hB hk1 hz1 hvm ht t
  obtain ⟨rfl, hDb, heb⟩ := hw
  obtain ⟨b, hb0⟩ : ∃ b, b = (a_next d).1 % a_sum w n := ⟨_, rfl⟩
  have hDR : b < a_sum w n := by rw [hb0]; exact Nat.mod_lt _ hT0
  have hW7 := hW.eq (heb.mono (fun c hc => hc.1))
  refine fl_tl (y := lN b) (by rw [hb0]) ?_
  refine lv_lstore (lv' := [(5, .long (lN b)), (3, .long (lN (a_sum w n))), (0, .ref (ad 9)), (1, .ref (ad 8)), (2, .ref (ad 6))]) hx hb dX1_pickWithOneDraw_10 hl (by decide) rfl (fun ls hl => ?_)
  refine lv_aload_n hx hb dX1_pickWithOneDraw_12 rfl (lv_at hl 2 rfl) ?_
  refine lv_aload_n hx hb dX1_pickWithOneDraw_13 rfl (lv_at hl 3 rfl) ?_
  refine va_calli (va_runV (As := [.ref (ad 8)]) (rest := []) ⟨hx, hb, hml, hown, hts⟩ (c_X1_firstPickBehindKept l hJ M7 n kp w hW7 (h10.cast (heb 10 (by decide)).1)) (cwV 1 hts gX1_pickWithOneDraw_X1_firstPickBehindKept rfl rfl rfl (by decide +kernel) ⟨Nat.le_of_ble_eq_true rfl, Nat.le_of_ble_eq_true rfl⟩) ⟨fl_blind, va_recv hK hP (ci := 3) (q0 := 9) rfl (fl_at (by decide) rfl), fl_pre hP hK hN⟩ rfl rfl hl.1 rfl (lv_room (Nat.le_of_ble_eq_true rfl)) dX1_pickWithOneDraw_14 ⟨Nat.le_of_ble_eq_true rfl, Nat.le_of_ble_eq_true rfl⟩) hS (fun _ _ h => h) (fun _ h => h) (fun r14 M14 t H1 locs ht hvm hw hB hz1 hk1 hS => ?_)
  have hP : va_P D vwCl (fcP cI cII ad M14) H1 := by rw [← ht]; exact hB
  clear hB hk1 hz1 hvm ht t
  obtain ⟨rfl, hrow0, he1⟩ := hw
  have hD0 : fc_D (a_next d).2 M14 := hDb.eq he1 (by decide) (by decide)
  have he0 : fl_eq fc_PP M M14 := (heb.mono (fun c hc => hc.1)).tr (he1.mono (fun c hc => hc.2.1))
  refine lv_istore (lv' := [(7, .int (nI (a_k0 kp))), (5, .long (lN b)), (3, .long (lN (a_sum w n))), (0, .ref (ad 9)), (1, .ref (ad 8)), (2, .ref (ad 6))]) hx hb dX1_pickWithOneDraw_17 hl (by decide) rfl (fun ls hl => ?_)
  suffices KL19 : ∀ (f : Nat) (k : Nat) (M3 : fl_M) (q : (Nat → Nat) × a_D) (hk : k ≤ n) (hrow : fl_row (M3.1 10) q.1 n (k + 1)) (hD : fc_D q.2 M3) (hinv : a_pick (a_f2 w n b) (n - k) k q = a_pick (a_f2 w n b) (n - a_k0 kp) (a_k0 kp) (a_t0 kp, (a_next d).2)) (he : fl_eq fc_PP M M3) (hf : n + 1 ≤ k + f), ∀ (H : Heap) (locs : List Loc), va_P D vwCl (fcP cI cII ad M3) H → va_S (fl_A 62 ad) s.heap H locs → ∀ (ls : Array Slot), lv_has ls 8 [(0, .ref (ad 9)), (1, .ref (ad 8)), (2, .ref (ad 6)), (3, .long (lN (a_sum w n))), (5, .long (lN b)), (7, .int (nI k))] → W p l e (headSpec wsX1_pickWithOneDraw ({ frames := 2, cells := 0, slots := 0, locals := 44 } : Room)).room s m ([.ref (ad 9), .ref (ad 8), .ref (ad 6)] : List Value).toArray below meth c H locs 0 0 (MQ below (va_Qv (fun M2 => fl_row (M2.1 10) (a_pick (a_f2 w n ((a_next d).1 % a_sum w n)) (n - a_k0 kp) (a_k0 kp) (a_t0 kp, (a_next d).2)).1 n 64 ∧ fc_D (a_pick (a_f2 w n ((a_next d).1 % a_sum w n)) (n - a_k0 kp) (a_k0 kp) (a_t0 kp, (a_next d).2)).2 M2 ∧ fl_eq fc_PP M M2) (fcQ D cI cII ad) (fl_A 62 ad)) ([.ref (ad 9), .ref (ad 8), .ref (ad 6)] : List Value).toArray s 0 0 (fl_A 62 ad)) (F0 m 19 ls []) from KL19 (n + 1) (a_k0 kp) _ (a_t0 kp, (a_next d).2) (a_k0_le hkl) hrow0 hD0 rfl he0 (by have := a_k0_le hkl; omega) _ _ hP hS ls (lv_sub hl [3, 4, 5, 2, 1, 0] rfl)
  intro f
  induction f with
  | zero =>
    intro k M3 q hk hrow hD hinv he hf
    omega
  | succ f ih19 =>
    intro k M3 q hk hrow hD hinv he hf H locs hP hS ls hl
    have hW3 := hW.eq he
    obtain ⟨⟨-, -, hn3⟩, -, hw83, hww3⟩ := id hW3
    refine lv_iload hx hb dX1_pickWithOneDraw_19 (lv_at hl 5 rfl) ?_
    refine lv_aload_n hx hb dX1_pickWithOneDraw_21 rfl (lv_at hl 1 rfl) ?_
    refine va_get (D := D) (ci := 4) (v := .int (M3.1 8 2)) (C := RX2) (T := TX2) (N := 13) hx hb hts inX2 hown hK hP 8 (fl_at (by decide) rfl) rfl 2 (by decide) (hts (.fieldLink RX1 43 "ResampledRows$Run" "n" "I") (by decide +kernel)) (fun _ h9 => h9) rfl dX1_pickWithOneDraw_22 ?_
    refine fl_ti (y := nI n) hn3 ?_
    refine lv_icmp_ge (tgt := 62) hx hb dX1_pickWithOneDraw_25 (by decide) (fun hc25 => ?_) (fun hc25 => ?_)
    · have e25 : k = n := Nat.le_antisymm hk ((nI_leI (by omega) (by omega)).mp hc25)
      have hfin : q = a_pick (a_f2 w n ((a_next d).1 % a_sum w n)) (n - a_k0 kp) (a_k0 kp) (a_t0 kp, (a_next d).2) := by rw [← hb0, ← hinv, e25, Nat.sub_self]; rfl
      exact W.vret hx hb hr (fun t ht hW => ⟨⟨M3, rfl, ⟨by rw [← hfin]; exact hrow.lt (by omega), by rw [← hfin]; exact hD, he⟩, fl_qi ht hP⟩, hS.F ht⟩) hS.2.2 dX1_pickWithOneDraw_62
    · have l25 : k < n := Nat.lt_of_not_le (fun q => hc25 ((nI_leI (by omega) (by omega)).mpr q))
      have lK := l25
      have hb1 : k * a_sum w n +  b < n * a_sum w n := a_kT lK hDR
      have hb2 : n * a_sum w n ≤ 16 * 16000000 := Nat.mul_le_mul hn (by have := a_row_le (B := 1000000) hww; omega)
      obtain ⟨x, hx0⟩ : ∃ x, x = (a_f2 w n b k q.2).1 := ⟨_, rfl⟩
      have hxe : x = a_first w n (k * a_sum w n + b) n := hx0
      have hxn : x < n := by rw [hx0]; exact a_f2_lt hDR lK q.2
      refine lv_aload_n hx hb dX1_pickWithOneDraw_28 rfl (lv_at hl 0 rfl) ?_
      refine lv_iload hx hb dX1_pickWithOneDraw_29 (lv_at hl 5 rfl) ?_
      refine lv_i2l (v := (nI k).toInt64) hx hb dX1_pickWithOneDraw_31 rfl ?_
      refine fl_tl (y := lN k) (nI_l (by omega)) ?_
      refine lv_lload_n hx hb dX1_pickWithOneDraw_32 rfl (lv_at hl 3 rfl) ?_
      refine lv_lmul hx hb dX1_pickWithOneDraw_33 ?_
      refine fl_tl (y := lN (k * a_sum w n)) (lN_mul _ _) ?_
      refine lv_lload hx hb dX1_pickWithOneDraw_34 (lv_at hl 4 rfl) ?_
      refine lv_ladd hx hb dX1_pickWithOneDraw_36 ?_
      refine fl_tl (y := lN (k * a_sum w n + b)) (lN_add _ _) ?_
      refine lv_aload_n hx hb dX1_pickWithOneDraw_37 rfl (lv_at hl 1 rfl) ?_
      refine va_get (D := D) (ci := 4) (v := .int (M3.1 8 2)) (C := RX2) (T := TX2) (N := 13) hx hb hts inX2 hown hK hP 8 (fl_at (by decide) rfl) rfl 2 (by decide) (hts (.fieldLink RX1 43 "ResampledRows$Run" "n" "I") (by decide +kernel)) (fun _ h9 => h9) rfl dX1_pickWithOneDraw_38 ?_
      refine fl_ti (y := nI n) hn3 ?_
      refine lv_i2l (v := (nI n).toInt64) hx hb dX1_pickWithOneDraw_41 rfl ?_
      refine fl_tl (y := lN n) (nI_l (by omega)) ?_
      refine lv_aload_n hx hb dX1_pickWithOneDraw_42 rfl (lv_at hl 1 rfl) ?_
      refine va_get (D := D) (ci := 4) (v := .ref (ad (M3.2.2.2 8 8))) (C := RX2) (T := TX2) (N := 13) hx hb hts inX2 hown hK hP 8 (fl_at (by decide) rfl) rfl 8 (by decide) (hts (.fieldLink RX1 59 "ResampledRows$Run" "weights" "[I") (by decide +kernel)) (fun _ h9 => h9) rfl dX1_pickWithOneDraw_43 ?_
      refine lv_aload_n hx hb dX1_pickWithOneDraw_46 rfl (lv_at hl 1 rfl) ?_
      refine va_get (D := D) (ci := 4) (v := .int (M3.1 8 2)) (C := RX2) (T := TX2) (N := 13) hx hb hts inX2 hown hK hP 8 (fl_at (by decide) rfl) rfl 2 (by decide) (hts (.fieldLink RX1 43 "ResampledRows$Run" "n" "I") (by decide +kernel)) (fun _ h9 => h9) rfl dX1_pickWithOneDraw_47 ?_
      refine fl_ti (y := nI n) hn3 ?_
      refine va_calli (va_runSN (As := [.long (lN (k * a_sum w n + b)), .long (lN n), .ref (ad (M3.2.2.2 8 8)), .int (nI n)]) (rest := [.ref (ad 9)]) ⟨hx, hb, hml, hown, hts⟩ (c_X4_firstAbove l hJ M3 _ 16 n (k * a_sum w n + b) n w hW3.l8 (by decide) hn (fun j hj => ⟨(hww3 j hj).1, by have := (hww3 j hj).2; omega⟩) (by omega) (by omega)) ⟨va_cnB 4 hts gX1_pickWithOneDraw_X4_firstAbove_n76 rfl rfl rfl hN.2.2.1 (hts (.initialized RX4) (by decide +kernel)) (by decide +kernel) ⟨Nat.le_of_ble_eq_true rfl, Nat.le_of_ble_eq_true rfl⟩, hts (.static yX4_firstAbove) (by decide +kernel), trivial⟩ ⟨fl_blind, fl_pre hP hK hN⟩ rfl rfl hl.1 rfl (lv_room (Nat.le_of_ble_eq_true rfl)) dX1_pickWithOneDraw_50 ⟨Nat.le_of_ble_eq_true rfl, Nat.le_of_ble_eq_true rfl⟩) hS (fun _ _ h => h) (fun _ h => h) (fun r50 M50 t H1 locs ht hvm hw hB hz1 hk1 hS => ?_)
      have hP : va_P D vwCl (fcP cI cII ad M50) H1 := by rw [← ht]; exact hB
      clear hB hk1 hz1 hvm ht t
      obtain ⟨rfl, hE⟩ := hw
      rw [hE] at hP
      refine fl_ti (y := nI x) (by rw [if_pos hb1, hxe]) ?_
      refine va_callv (va_runV (As := [.int (nI x)]) (rest := []) ⟨hx, hb, hml, hown, hts⟩ (c_X1_add l hJ M3 x (by omega)) (cwV 1 hts gX1_pickWithOneDraw_X1_add rfl rfl rfl (by decide +kernel) ⟨Nat.le_of_ble_eq_true rfl, Nat.le_of_ble_eq_true rfl⟩) ⟨fl_blind, va_recv hK hP (ci := 3) (q0 := 9) rfl (fl_at (by decide) rfl), fl_pre hP hK hN⟩ rfl rfl hl.1 rfl (lv_room (Nat.le_of_ble_eq_true rfl)) dX1_pickWithOneDraw_53 ⟨Nat.le_of_ble_eq_true rfl, Nat.le_of_ble_eq_true rfl⟩) hS (fun _ _ h => h) (fun _ h => h) (fun M53 t H1 locs ht hvm hw hB hz1 hk1 hS => ?_)
      have hP : va_P D vwCl (fcP cI cII ad M53) H1 := by rw [← ht]; exact hB
      clear hB hk1 hz1 hvm ht t
      rw [hw] at hP
      have hrow4 : fl_row ((fl_sI M3 10 x (M3.1 10 x + 1)).1 10) (a_bump q.1 (a_f2 w n b k q.2).1) n (k + 1 + 1) := by
        rw [fl_sI_same, ← hx0]
        exact hrow.bump hxn
      have hD4 : fc_D (a_f2 w n b k q.2).2 (fl_sI M3 10 x (M3.1 10 x + 1)) := hD.eq (P := fun c => c = 6 ∨ c = 7) (fl_eq.rf.sI (by decide) _ _) (Or.inl rfl) (Or.inr rfl)
      have he4 : fl_eq fc_PP M (fl_sI M3 10 x (M3.1 10 x + 1)) := he.sI (fun q => q.2.1 rfl) _ _
      refine lv_iinc (v := nI (k + 1)) (lv' := [(7, .int (nI (k + 1))), (0, .ref (ad 9)), (1, .ref (ad 8)), (2, .ref (ad 6)), (3, .long (lN (a_sum w n))), (5, .long (lN b))]) hx hb dX1_pickWithOneDraw_56 hl (k := 5) rfl (fl_inc k) (by decide) rfl (fun ls hl => ?_)
      refine lv_goto (tgt := 19) hx hb dX1_pickWithOneDraw_59 (by decide) ?_
      exact ih19 (k + 1) (fl_sI M3 10 x (M3.1 10 x + 1)) (a_bump q.1 ((a_f2 w n b) k q.2).1, ((a_f2 w n b) k q.2).2) (by omega) hrow4 hD4 (by rw [← hinv, a_pick_s lK]) he4 (by omega) _ _ hP hS ls (lv_sub hl [1, 2, 3, 4, 5, 0] rfl)

