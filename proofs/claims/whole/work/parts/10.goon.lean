theorem fl_rdI (M : fl_M) (c k : Nat) (v : Int32) : (fl_sI M c k v).1 c k = v := by rw [fl_sI_same, pk_us]
theorem fl_rdJ (M : fl_M) (c k : Nat) (v : Int64) : (fl_sJ M c k v).2.1 c k = v := by rw [fl_sJ_same, pk_uLs]
theorem nI_nneg {v : Nat} (h : v < 2 ^ 31) {z : Int32} (hz : z < 0) : ¬ nI v = z := fun q => nI_pos h (q ▸ hz)
theorem a_oI_st {W : Nat → Nat → Nat} {d : a_D} {k : Nat} {z : Int32} (h : a_sum (W k) 6 ≠ 0) : a_oI (a_by (W k) 6 (a_dl W d k)).1 z = nI (a_st W d k) := by
  rw [a_by_some h]
  rfl
theorem a_oI_none {w : Nat → Nat} {n : Nat} {d : a_D} {z : Int32} (h : a_sum w n = 0) : a_oI (a_by w n d).1 z = z := by
  rw [a_by_none h]
  rfl

theorem fc_hh {M : fl_M} {b k3 sp : Nat} {st : Nat → Nat} (hh : ∀ k, k < k3 → M.1 (b + k) sp = nI (st k)) : ∀ k, k < k3 + 1 → (fl_sI M (b + k3) sp (nI (st k3))).1 (b + k) sp = nI (st k) := fun k hk => by
  by_cases e : k = k3
  · subst e
    rw [fl_sI_same, pk_us]
  · rw [fl_sI_ne _ _ _ _ (by omega)]
    exact hh k (by omega)
theorem fc_ho {M M4 : fl_M} {b k3 sp : Nat} {v : Int32} (ho : ∀ k, k < 16 → ∀ z, z ≠ sp → M.1 (b + k) z = M4.1 (b + k) z) : ∀ k, k < 16 → ∀ z, z ≠ sp → (fl_sI M (b + k3) sp v).1 (b + k) z = M4.1 (b + k) z := fun k hk z hz => by
  by_cases e : k = k3
  · subst e
    rw [fl_sI_same, pk_un hz]
    exact ho k hk z hz
  · rw [fl_sI_ne _ _ _ _ (by omega)]
    exact ho k hk z hz

set_option maxHeartbeats 4000000 in
set_option maxRecDepth 100000 in
theorem c_X2_beginWith (l : Launch) {D : va_G} {cI cJ cII : ClassId} {ad : Nat → Nat} (hJ : fl_inj 62 ad) (M : fl_M) (d : a_D) (n : Nat) (ss : Nat → Nat) (hn0 : 0 < n) (hn : n ≤ 16) (hd : fc_D d M) (hss : fl_row (M.1 2) ss 6 10) (hsw : fc_sw (M.2.2.2 8)) : Met l yX2_beginWith wsX2_beginWith ({ frames := 3, cells := 0, slots := 0, locals := 67 } : Room) (fcPc D cI cJ cII ad M [.ref (ad 8), .int (nI n), .ref (ad 2), .ref (ad 6)]) (va_Qi (fun r M2 => (a_sum ss 6 = 0 ∧ r = -1000004 ∧ fc_D d M2 ∧ fc_R a_r0 M2 ∧ fl_eq fc_PB M M2) ∨ (a_sum ss 6 ≠ 0 ∧ r = nI n ∧ fc_D (a_dl (fun _ => ss) d n) M2 ∧ fc_R (a_rB n (a_st (fun _ => ss) d)) M2 ∧ fl_eq fc_PB M M2)) (fcQ D cI cII ad) (fl_A 62 ad)) 0 0 (fl_A 62 ad) := by
  refine Met.ofW (cc := cX2_beginWith) (maxL := 6) (ret := (some .int)) (by decide) rfl ?_
  intro p e s m args below meth c s₁ B hml hv
  obtain ⟨rfl, hP, hK, hN⟩ := hv
  have hx := B.exec
  have hb := B.bytes
  have hr := B.returns
  have hts := atoms_spec (ws := wsX2_beginWith) B.pre
  have hown : s.vm.findClass RX2 = some m.cls := findClass_of_methodNamed B.named
  have hlocks := B.notSynchronized
  have inX2 : ∀ w ∈ u_ws RX2 TX2 13, w ∈ wsX2_beginWith := by decide +kernel
  have hS : va_S (fl_A 62 ad) s.heap s.heap [] := va_S.rf
  have hl := lv_entry ([.ref (ad 8), .int (nI n), .ref (ad 2), .ref (ad 6)] : List Value) (n := 6) (Nat.le_of_ble_eq_true rfl)
  rw [lg_entry_eq]
  generalize (lg_sl ([.ref (ad 8), .int (nI n), .ref (ad 2), .ref (ad 6)] : List Value) ++ List.replicate (6 - (lg_sl ([.ref (ad 8), .int (nI n), .ref (ad 2), .ref (ad 6)] : List Value)).length) Slot.unset).toArray = ls at hl ⊢
  have hl : lv_has ls 6 [(0, .ref (ad 8)), (1, .int (nI n)), (2, .ref (ad 2)), (3, .ref (ad 6))] := hl
  have s1 := hsw.s1
  have s2 := hsw.s2
  refine lv_aload_n hx hb dX2_beginWith_0 rfl (lv_at hl 0 rfl) ?_
  refine va_callv (va_runV (As := []) (rest := []) ⟨hx, hb, hml, hown, hts⟩ (c_X2_end l hJ M) (cwV 0 hts gX2_beginWith_X2_end rfl rfl rfl (by decide +kernel) ⟨Nat.le_of_ble_eq_true rfl, Nat.le_of_ble_eq_true rfl⟩) ⟨fl_blind, va_recv hK hP (ci := 4) (q0 := 8) rfl (fl_at (by decide) rfl), fl_pre hP hK hN⟩ rfl rfl hl.1 rfl (lv_room (Nat.le_of_ble_eq_true rfl)) dX2_beginWith_1 ⟨Nat.le_of_ble_eq_true rfl, Nat.le_of_ble_eq_true rfl⟩) hS (fun _ _ h => h) (fun _ h => h) (fun M1 t H1 locs ht hvm hw hB hz1 hk1 hS => ?_)
  have hP : va_P D vwCl (fcP cI cII ad M1) H1 := by rw [← ht]; exact hB
  clear hB hk1 hz1 hvm ht t
  rw [hw] at hP
  refine lv_iconst (v := 0) hx hb dX2_beginWith_4 (by decide) ?_
  refine lv_istore (lv' := [(4, .int 0), (0, .ref (ad 8)), (1, .int (nI n)), (2, .ref (ad 2)), (3, .ref (ad 6))]) hx hb dX2_beginWith_5 hl (by decide) rfl (fun ls hl => ?_)
  suffices KL7 : ∀ (f : Nat) (i : Nat) (M3 : fl_M) (hi : i ≤ n) (hB : fc_BG M d ss i M3) (hz : i = 0 ∨ a_sum ss 6 ≠ 0) (hf : n + 1 ≤ i + f), ∀ (H : Heap) (locs : List Loc), va_P D vwCl (fcP cI cII ad M3) H → va_S (fl_A 62 ad) s.heap H locs → ∀ (ls : Array Slot), lv_has ls 6 [(0, .ref (ad 8)), (1, .int (nI n)), (2, .ref (ad 2)), (3, .ref (ad 6)), (4, .int (nI i))] → W p l e (headSpec wsX2_beginWith ({ frames := 3, cells := 0, slots := 0, locals := 67 } : Room)).room s m ([.ref (ad 8), .int (nI n), .ref (ad 2), .ref (ad 6)] : List Value).toArray below meth c H locs 0 0 (MQ below (va_Qi (fun r M2 => (a_sum ss 6 = 0 ∧ r = -1000004 ∧ fc_D d M2 ∧ fc_R a_r0 M2 ∧ fl_eq fc_PB M M2) ∨ (a_sum ss 6 ≠ 0 ∧ r = nI n ∧ fc_D (a_dl (fun _ => ss) d n) M2 ∧ fc_R (a_rB n (a_st (fun _ => ss) d)) M2 ∧ fl_eq fc_PB M M2)) (fcQ D cI cII ad) (fl_A 62 ad)) ([.ref (ad 8), .int (nI n), .ref (ad 2), .ref (ad 6)] : List Value).toArray s 0 0 (fl_A 62 ad)) (F0 m 7 ls []) from KL7 (n + 1) 0 _ (Nat.zero_le n) (fc_BG_0 hd) (Or.inl rfl) (by omega) _ _ hP hS ls (lv_sub hl [1, 2, 3, 4, 0] rfl)
  intro f
  induction f with
  | zero =>
    intro i M3 hi hB hz hf
    omega
  | succ f ih7 =>
    intro i M3 hi hB hz hf H locs hP hS ls hl
    refine lv_iload hx hb dX2_beginWith_7 (lv_at hl 4 rfl) ?_
    refine lv_iload_n hx hb dX2_beginWith_9 rfl (lv_at hl 1 rfl) ?_
    refine lv_icmp_ge (tgt := 66) hx hb dX2_beginWith_10 (by decide) (fun hc10 => ?_) (fun hc10 => ?_)
    · have e10 : i = n := Nat.le_antisymm hi ((nI_leI (by omega) (by omega)).mp hc10)
      have h0 : a_sum ss 6 ≠ 0 := hz.resolve_left (by omega)
      have hBn : fc_BG M d ss n M3 := e10 ▸ hB
      refine lv_aload_n hx hb dX2_beginWith_66 rfl (lv_at hl 0 rfl) ?_
      refine lv_iload_n hx hb dX2_beginWith_67 rfl (lv_at hl 1 rfl) ?_
      refine fl_put (ci := 4) (ty := .int) (v := .int (nI n)) (C := RX2) (T := TX2) (Nf := 13) hx hb hts inX2 tyX2 tyX2_ok nmX2 hown hK hJ hP hS 8 (by decide) (fl_sI M3 8 2 (nI n)) rfl rfl 2 (by decide) (hts (.fieldLink RX2 51 "ResampledRows$Run" "n" "I") (by decide +kernel)) (fun _ h9 => h9) rfl (by decide +kernel) rfl rfl (Nat.le_of_ble_eq_true rfl) rfl (fl_sI_o (fc_loc cI cII ad) _ _ _ _) dX2_beginWith_68 (fun H locs hP hS => ?_)
      refine lv_iload_n hx hb dX2_beginWith_71 rfl (lv_at hl 1 rfl) ?_
      exact W.iret (v := nI n) hx hb hr (fun t ht hW => ⟨⟨nI n, (fl_sI M3 8 2 (nI n)), rfl, Or.inr ⟨h0, rfl, hBn.1.eq (P := fun c => c = 6 ∨ c = 7) (fl_eq.rf.sI (by decide) _ _) (Or.inl rfl) (Or.inr rfl), fc_BG_R hn hsw h0 hBn, hBn.2.2.2.2.2.2.sI (by unfold fc_PB; omega) _ _⟩, fl_qi ht hP⟩, hS.F ht⟩) hS.2.2 dX2_beginWith_72
    · have l10 : i < n := Nat.lt_of_not_le (fun q => hc10 ((nI_leI (by omega) (by omega)).mpr q))
      have hrow : ∀ k, k < 6 → M3.1 2 k = nI (ss k) ∧ ss k < 2 ^ 31 := fun k hk => by
        rw [(hB.2.2.2.2.2.2 2 (by unfold fc_PB; omega)).1]
        exact ⟨(hss k hk).1, by have := (hss k hk).2; omega⟩
      have hT : a_sum ss 6 < 2 ^ 31 := by have := a_row_le (B := 9) hss; omega
      refine lv_aload_n hx hb dX2_beginWith_13 rfl (lv_at hl 3 rfl) ?_
      refine lv_aload_n hx hb dX2_beginWith_14 rfl (lv_at hl 2 rfl) ?_
      refine lv_bipush (v := 6) hx hb dX2_beginWith_15 (by decide) ?_
      refine fl_ti (y := nI 6) rfl ?_
      refine va_calli (va_runV (As := [.ref (ad 2), .int (nI 6)]) (rest := []) ⟨hx, hb, hml, hown, hts⟩ (c_X0_byWeights l hJ M3 (a_dl (fun _ => ss) d i) 2 6 6 ss rfl (by decide) (by decide) (by decide) hrow hT hB.1) (cwV 2 hts gX2_beginWith_X0_byWeights rfl rfl rfl (by decide +kernel) ⟨Nat.le_of_ble_eq_true rfl, Nat.le_of_ble_eq_true rfl⟩) ⟨fl_blind, va_recv hK hP (ci := 2) (q0 := 6) rfl (fl_at (by decide) rfl), fl_pre hP hK hN⟩ rfl rfl hl.1 rfl (lv_room (Nat.le_of_ble_eq_true rfl)) dX2_beginWith_17 ⟨Nat.le_of_ble_eq_true rfl, Nat.le_of_ble_eq_true rfl⟩) hS (fun _ _ h => h) (fun _ h => h) (fun r17 M17 t H1 locs ht hvm hw hB hz1 hk1 hS => ?_)
      have hP : va_P D vwCl (fcP cI cII ad M17) H1 := by rw [← ht]; exact hB
      clear hB hk1 hz1 hvm ht t
      obtain ⟨rfl, hD4, he4⟩ := hw
      by_cases h0 : a_sum ss 6 = 0
      · have i0 : i = 0 := hz.resolve_right (fun q => q h0)
        refine fl_ti (y := -1000004) (a_oI_none h0) ?_
        refine lv_istore (lv' := [(5, .int (-1000004)), (0, .ref (ad 8)), (1, .int (nI n)), (2, .ref (ad 2)), (3, .ref (ad 6)), (4, .int (nI i))]) hx hb dX2_beginWith_20 hl (by decide) rfl (fun ls hl => ?_)
        refine lv_iload hx hb dX2_beginWith_22 (lv_at hl 0 rfl) ?_
        refine lv_ldc (v := -1000004) hx hb hown (hts (.constant RX2 73 (-1000004)) (by decide +kernel)) dX2_beginWith_24 ?_
        refine lv_icmp_ne (tgt := 32) hx hb dX2_beginWith_26 (by decide) (fun hc26 => ?_) (fun hc26 => ?_)
        · exact absurd rfl hc26
        · refine lv_ldc (v := -1000004) hx hb hown (hts (.constant RX2 73 (-1000004)) (by decide +kernel)) dX2_beginWith_29 ?_
          exact W.iret (v := (-1000004)) hx hb hr (fun t ht hW => ⟨⟨(-1000004), M17, rfl, Or.inl ⟨h0, rfl, by rw [a_by_none h0, i0] at hD4; exact hD4, (fc_BG_L hsw hB).eq he4 (fun c hc => by omega), hB.2.2.2.2.2.2.tr (he4.mono (fun c hc => by unfold fc_PB at hc; omega))⟩, fl_qi ht hP⟩, hS.F ht⟩) hS.2.2 dX2_beginWith_31
      · obtain ⟨v, hv⟩ : ∃ v, v = a_st (fun _ => ss) d i := ⟨_, rfl⟩
        have hv6 : v < 6 := by rw [hv]; exact a_st_lt (W := fun _ => ss) h0
        refine fl_ti (y := nI v) (by rw [hv]; exact a_oI_st (W := fun _ => ss) h0) ?_
        have hR17 : M17.2.2.2 8 = M.2.2.2 8 := (he4 8 (by decide)).2.2.2.trans hB.2.2.1
        refine lv_istore (lv' := [(5, .int (nI v)), (0, .ref (ad 8)), (1, .int (nI n)), (2, .ref (ad 2)), (3, .ref (ad 6)), (4, .int (nI i))]) hx hb dX2_beginWith_20 hl (by decide) rfl (fun ls hl => ?_)
        refine lv_iload hx hb dX2_beginWith_22 (lv_at hl 0 rfl) ?_
        refine lv_ldc (v := -1000004) hx hb hown (hts (.constant RX2 73 (-1000004)) (by decide +kernel)) dX2_beginWith_24 ?_
        refine lv_icmp_ne (tgt := 32) hx hb dX2_beginWith_26 (by decide) (fun hc26 => ?_) (fun hc26 => ?_)
        · refine lv_aload_n hx hb dX2_beginWith_32 rfl (lv_at hl 1 rfl) ?_
          refine va_get (D := D) (ci := 4) (v := .ref (ad (M17.2.2.2 8 7))) (C := RX2) (T := TX2) (N := 13) hx hb hts inX2 hown hK hP 8 (fl_at (by decide) rfl) rfl 7 (by decide) (hts (.fieldLink RX2 31 "ResampledRows$Run" "states" "[I") (by decide +kernel)) (fun _ h9 => h9) rfl dX2_beginWith_33 ?_
          refine fl_top (y := .ref (ad (M.2.2.2 8 7))) (by rw [hR17]) ?_
          refine lv_iload hx hb dX2_beginWith_36 (lv_at hl 5 rfl) ?_
          refine lv_iload hx hb dX2_beginWith_38 (lv_at hl 0 rfl) ?_
          refine fl_ist (n := 16) (k := i) (x := nI v) hx hb hK hJ hP hS (fc_loc cI cII ad) (fc_a cI cII ad _ hsw.l7 (by decide)) (fc_arr cI cII ad _ hsw.l7 (by decide)).2 rfl rfl (by omega) (by decide) dX2_beginWith_40 (fun H locs hP hS => ?_)
          refine lv_aload_n hx hb dX2_beginWith_41 rfl (lv_at hl 1 rfl) ?_
          refine va_get (D := D) (ci := 4) (v := .ref (ad (M17.2.2.2 8 8))) (C := RX2) (T := TX2) (N := 13) hx hb hts inX2 hown hK hP 8 (fl_at (by decide) rfl) rfl 8 (by decide) (hts (.fieldLink RX2 34 "ResampledRows$Run" "weights" "[I") (by decide +kernel)) (fun _ h9 => h9) rfl dX2_beginWith_42 ?_
          refine fl_top (y := .ref (ad (M.2.2.2 8 8))) (by rw [hR17]) ?_
          refine lv_iload hx hb dX2_beginWith_45 (lv_at hl 5 rfl) ?_
          refine lv_iconst (v := 1) hx hb dX2_beginWith_47 (by decide) ?_
          refine fl_ist (n := 16) (k := i) (x := 1) hx hb hK hJ hP hS (fc_loc cI cII ad) (fc_a cI cII ad _ hsw.l8 (by decide)) (fc_arr cI cII ad _ hsw.l8 (by decide)).2 rfl rfl (by omega) (by decide) dX2_beginWith_48 (fun H locs hP hS => ?_)
          refine lv_aload_n hx hb dX2_beginWith_49 rfl (lv_at hl 1 rfl) ?_
          refine va_get (D := D) (ci := 4) (v := .ref (ad (M17.2.2.2 8 9))) (C := RX2) (T := TX2) (N := 13) hx hb hts inX2 hown hK hP 8 (fl_at (by decide) rfl) rfl 9 (by decide) (hts (.fieldLink RX2 39 "ResampledRows$Run" "histories" "[[I") (by decide +kernel)) (fun _ h9 => h9) rfl dX2_beginWith_50 ?_
          refine fl_top (y := .ref (ad (M.2.2.2 8 9))) (by rw [hR17]) ?_
          refine lv_iload hx hb dX2_beginWith_53 (lv_at hl 5 rfl) ?_
          refine fl_ald (k := i) (f := fun j => ad (fc_hb (M.2.2.2 8 9) + j)) hx hb hK hP (fc_hat cI cII ad _ hsw.s3.1) rfl rfl (by omega) (by decide) dX2_beginWith_55 ?_
          refine lv_iconst (v := 0) hx hb dX2_beginWith_56 (by decide) ?_
          refine lv_iload hx hb dX2_beginWith_57 (lv_at hl 0 rfl) ?_
          refine fl_ist (n := 31) (k := 0) (x := nI v) hx hb hK hJ hP hS (fc_loc cI cII ad) (fc_a cI cII ad _ (fc_hb_len (by omega)) (by decide)) (fc_arr cI cII ad _ (fc_hb_len (by omega)) (by decide)).2 rfl rfl (by omega) (by decide) dX2_beginWith_59 (fun H locs hP hS => ?_)
          refine lv_iinc (v := nI (i + 1)) (lv' := [(4, .int (nI (i + 1))), (5, .int (nI v)), (0, .ref (ad 8)), (1, .int (nI n)), (2, .ref (ad 2)), (3, .ref (ad 6))]) hx hb dX2_beginWith_60 hl (k := 5) rfl (fl_inc i) (by decide) rfl (fun ls hl => ?_)
          refine lv_goto (tgt := 7) hx hb dX2_beginWith_63 (by decide) ?_
          exact ih7 (i + 1) (fl_sI (fl_sI (fl_sI M17 (M.2.2.2 8 7) i (nI v)) (M.2.2.2 8 8) i 1) (fc_hb (M.2.2.2 8 9) + i) 0 (nI v)) (by omega) (fc_BG_s hsw (by omega) hB h0 hv hD4 he4) (Or.inr h0) (by omega) _ _ hP hS ls (lv_sub hl [2, 3, 4, 5, 0] rfl)
        · exact absurd hc26 (nI_nneg (by omega) (by decide))

set_option maxHeartbeats 4000000 in
set_option maxRecDepth 100000 in
theorem c_X2_goOn (l : Launch) {D : va_G} {cI cJ cII : ClassId} {ad : Nat → Nat} (hJ : fl_inj 62 ad) (M : fl_M) (d : a_D) (r : a_R) (mv : Nat → Nat → Nat) (sg : Nat → Nat) (j : Nat) (hj : j < 5) (hr0 : fc_R r M) (hsp : r_sp r < 30) (hd : fc_D d M) (hmv : ∀ i, i < 6 → fl_row (M.1 (19 + i)) (mv i) 6 10) (hsg : fl_row (M.1 (25 + j)) sg 6 10) : Met l yX2_goOn wsX2_goOn ({ frames := 3, cells := 0, slots := 0, locals := 67 } : Room) (fcPc D cI cJ cII ad M [.ref (ad 8), .ref (ad 3), .ref (ad (25 + j)), .ref (ad 6)]) (va_Qi (fun r2 M2 => r2 = (a_go mv sg d r).1 ∧ fc_D (a_go mv sg d r).2.1 M2 ∧ fc_R (a_go mv sg d r).2.2 M2 ∧ fl_eq fc_PB M M2) (fcQ D cI cII ad) (fl_A 62 ad)) 0 0 (fl_A 62 ad) := by
  refine Met.ofW (cc := cX2_goOn) (maxL := 6) (ret := (some .int)) (by decide) rfl ?_
  intro p e s m args below meth c s₁ B hml hv
  obtain ⟨rfl, hP, hK, hN⟩ := hv
  have hx := B.exec
  have hb := B.bytes
  have hr := B.returns
  have hts := atoms_spec (ws := wsX2_goOn) B.pre
  have hown : s.vm.findClass RX2 = some m.cls := findClass_of_methodNamed B.named
  have hlocks := B.notSynchronized
  have inX2 : ∀ w ∈ u_ws RX2 TX2 13, w ∈ wsX2_goOn := by decide +kernel
  have hS : va_S (fl_A 62 ad) s.heap s.heap [] := va_S.rf
  have hl := lv_entry ([.ref (ad 8), .ref (ad 3), .ref (ad (25 + j)), .ref (ad 6)] : List Value) (n := 6) (Nat.le_of_ble_eq_true rfl)
  rw [lg_entry_eq]
  generalize (lg_sl ([.ref (ad 8), .ref (ad 3), .ref (ad (25 + j)), .ref (ad 6)] : List Value) ++ List.replicate (6 - (lg_sl ([.ref (ad 8), .ref (ad 3), .ref (ad (25 + j)), .ref (ad 6)] : List Value)).length) Slot.unset).toArray = ls at hl ⊢
  have hl : lv_has ls 6 [(0, .ref (ad 8)), (1, .ref (ad 3)), (2, .ref (ad (25 + j))), (3, .ref (ad 6))] := hl
  obtain ⟨⟨h1, h2⟩, ⟨h3, h4⟩, -, -, -, h10, h11, h12, -, -⟩ := id hr0
  have s1 := h10.s1
  have s2 := h10.s2
  refine lv_iconst (v := 0) hx hb dX2_goOn_0 (by decide) ?_
  refine lv_istore (lv' := [(4, .int 0), (0, .ref (ad 8)), (1, .ref (ad 3)), (2, .ref (ad (25 + j))), (3, .ref (ad 6))]) hx hb dX2_goOn_1 hl (by decide) rfl (fun ls hl => ?_)
  suffices KL3 : ∀ (f : Nat) (i : Nat) (M3 : fl_M) (hi : i ≤ r_n r) (hD : fc_D (a_dl (fun k => mv (r_st r k)) d i) M3) (hrow : fl_row (M3.1 (M.2.2.2 8 10)) (a_st (fun k => mv (r_st r k)) d) i 6) (hnf : a_find (fun i => a_sum (mv (r_st r i)) 6) 0 i = none) (he : fl_eq (fun c => c ≠ 6 ∧ c ≠ M.2.2.2 8 10) M M3) (hf : r_n r + 1 ≤ i + f), ∀ (H : Heap) (locs : List Loc), va_P D vwCl (fcP cI cII ad M3) H → va_S (fl_A 62 ad) s.heap H locs → ∀ (ls : Array Slot), lv_has ls 6 [(0, .ref (ad 8)), (1, .ref (ad 3)), (2, .ref (ad (25 + j))), (3, .ref (ad 6)), (4, .int (nI i))] → W p l e (headSpec wsX2_goOn ({ frames := 3, cells := 0, slots := 0, locals := 67 } : Room)).room s m ([.ref (ad 8), .ref (ad 3), .ref (ad (25 + j)), .ref (ad 6)] : List Value).toArray below meth c H locs 0 0 (MQ below (va_Qi (fun r2 M2 => r2 = (a_go mv sg d r).1 ∧ fc_D (a_go mv sg d r).2.1 M2 ∧ fc_R (a_go mv sg d r).2.2 M2 ∧ fl_eq fc_PB M M2) (fcQ D cI cII ad) (fl_A 62 ad)) ([.ref (ad 8), .ref (ad 3), .ref (ad (25 + j)), .ref (ad 6)] : List Value).toArray s 0 0 (fl_A 62 ad)) (F0 m 3 ls []) from KL3 (r_n r + 1) 0 M (Nat.zero_le _) hd (fun k hk => absurd hk (Nat.not_lt_zero k)) rfl fl_eq.rf (by omega) _ _ hP hS ls (lv_sub hl [1, 2, 3, 4, 0] rfl)
  intro f
  induction f with
  | zero =>
    intro i M3 hi hD hrow hnf he hf
    omega
  | succ f ih3 =>
    intro i M3 hi hD hrow hnf he hf H locs hP hS ls hl
    have hn3 : M3.1 8 2 = nI (r_n r) := by rw [(he 8 (by omega)).1]; exact h2
    have hR3 : M3.2.2.2 8 = M.2.2.2 8 := (he 8 (by omega)).2.2.2
    refine lv_iload hx hb dX2_goOn_3 (lv_at hl 4 rfl) ?_
    refine lv_aload_n hx hb dX2_goOn_5 rfl (lv_at hl 0 rfl) ?_
    refine va_get (D := D) (ci := 4) (v := .int (M3.1 8 2)) (C := RX2) (T := TX2) (N := 13) hx hb hts inX2 hown hK hP 8 (fl_at (by decide) rfl) rfl 2 (by decide) (hts (.fieldLink RX2 51 "ResampledRows$Run" "n" "I") (by decide +kernel)) (fun _ h9 => h9) rfl dX2_goOn_6 ?_
    refine fl_ti (y := nI (r_n r)) hn3 ?_
    refine lv_icmp_ge (tgt := 54) hx hb dX2_goOn_9 (by decide) (fun hc9 => ?_) (fun hc9 => ?_)
    · have e9 : i = r_n r := Nat.le_antisymm hi ((nI_leI (by omega) (by omega)).mp hc9)
      have hrowN : fl_row (M3.1 (M.2.2.2 8 10)) (a_st (fun k => mv (r_st r k)) d) (r_n r) 6 := e9 ▸ hrow
      have hnfN : a_find (fun i => a_sum (mv (r_st r i)) 6) 0 (r_n r) = none := e9 ▸ hnf
      have hDN : fc_D (a_dl (fun k => mv (r_st r k)) d (r_n r)) M3 := e9 ▸ hD
      refine lv_iconst (v := 0) hx hb dX2_goOn_54 (by decide) ?_
      refine lv_istore (lv' := [(4, .int 0), (0, .ref (ad 8)), (1, .ref (ad 3)), (2, .ref (ad (25 + j))), (3, .ref (ad 6))]) hx hb dX2_goOn_55 hl (by decide) rfl (fun ls hl => ?_)
      suffices KL57 : ∀ (f : Nat) (k2 : Nat) (M4 : fl_M) (hi2 : k2 ≤ r_n r) (hrow2 : fl_row (M4.1 (M.2.2.2 8 11)) (fun k => r_wt r k * sg (a_st (fun k => mv (r_st r k)) d k)) k2 1000001) (hall : a_all (fun k => decide (r_wt r k * sg (a_st (fun k => mv (r_st r k)) d k) ≤ 1000000)) k2 = true) (he2 : fl_eq (fun c => c ≠ M.2.2.2 8 11) M3 M4) (hf2 : r_n r + 1 ≤ k2 + f), ∀ (H : Heap) (locs : List Loc), va_P D vwCl (fcP cI cII ad M4) H → va_S (fl_A 62 ad) s.heap H locs → ∀ (ls : Array Slot), lv_has ls 6 [(0, .ref (ad 8)), (1, .ref (ad 3)), (2, .ref (ad (25 + j))), (3, .ref (ad 6)), (4, .int (nI k2))] → W p l e (headSpec wsX2_goOn ({ frames := 3, cells := 0, slots := 0, locals := 67 } : Room)).room s m ([.ref (ad 8), .ref (ad 3), .ref (ad (25 + j)), .ref (ad 6)] : List Value).toArray below meth c H locs 0 0 (MQ below (va_Qi (fun r2 M2 => r2 = (a_go mv sg d r).1 ∧ fc_D (a_go mv sg d r).2.1 M2 ∧ fc_R (a_go mv sg d r).2.2 M2 ∧ fl_eq fc_PB M M2) (fcQ D cI cII ad) (fl_A 62 ad)) ([.ref (ad 8), .ref (ad 3), .ref (ad (25 + j)), .ref (ad 6)] : List Value).toArray s 0 0 (fl_A 62 ad)) (F0 m 57 ls []) from KL57 (r_n r + 1) 0 M3 (Nat.zero_le _) (fun k hk => absurd hk (Nat.not_lt_zero k)) rfl fl_eq.rf (by omega) _ _ hP hS ls (lv_sub hl [1, 2, 3, 4, 0] rfl)
      intro f
      induction f with
      | zero =>
        intro k2 M4 hi2 hrow2 hall he2 hf2
        omega
      | succ f ih57 =>
        intro k2 M4 hi2 hrow2 hall he2 hf2 H locs hP hS ls hl
        have hn4 : M4.1 8 2 = nI (r_n r) := by rw [(he2 8 (by omega)).1]; exact hn3
        have hR4 : M4.2.2.2 8 = M.2.2.2 8 := (he2 8 (by omega)).2.2.2.trans hR3
        refine lv_iload hx hb dX2_goOn_57 (lv_at hl 4 rfl) ?_
        refine lv_aload_n hx hb dX2_goOn_59 rfl (lv_at hl 0 rfl) ?_
        refine va_get (D := D) (ci := 4) (v := .int (M4.1 8 2)) (C := RX2) (T := TX2) (N := 13) hx hb hts inX2 hown hK hP 8 (fl_at (by decide) rfl) rfl 2 (by decide) (hts (.fieldLink RX2 51 "ResampledRows$Run" "n" "I") (by decide +kernel)) (fun _ h9 => h9) rfl dX2_goOn_60 ?_
        refine fl_ti (y := nI (r_n r)) hn4 ?_
        refine lv_icmp_ge (tgt := 111) hx hb dX2_goOn_63 (by decide) (fun hc63 => ?_) (fun hc63 => ?_)
        · have e63 : k2 = r_n r := Nat.le_antisymm hi2 ((nI_leI (by omega) (by omega)).mp hc63)
          have hallN : a_all (fun k => decide (r_wt r k * sg (a_st (fun k => mv (r_st r k)) d k) ≤ 1000000)) (r_n r) = true := e63 ▸ hall
          have hrow2N : fl_row (M4.1 (M.2.2.2 8 11)) (fun k => r_wt r k * sg (a_st (fun k => mv (r_st r k)) d k)) (r_n r) 1000001 := e63 ▸ hrow2
          have hs4 : (fc_swp M4).1 8 3 = nI (r_sp r) := by show M4.1 8 3 = _; rw [(he2 8 (by omega)).1, (he 8 (by omega)).1]; exact h4
          refine lv_aload_n hx hb dX2_goOn_111 rfl (lv_at hl 0 rfl) ?_
          refine va_callv (va_runV (As := []) (rest := []) ⟨hx, hb, hml, hown, hts⟩ (c_X2_takeNextStatesAndWeights l hJ M4) (cwV 0 hts gX2_goOn_X2_takeNextStatesAndWeights rfl rfl rfl (by decide +kernel) ⟨Nat.le_of_ble_eq_true rfl, Nat.le_of_ble_eq_true rfl⟩) ⟨fl_blind, va_recv hK hP (ci := 4) (q0 := 8) rfl (fl_at (by decide) rfl), fl_pre hP hK hN⟩ rfl rfl hl.1 rfl (lv_room (Nat.le_of_ble_eq_true rfl)) dX2_goOn_112 ⟨Nat.le_of_ble_eq_true rfl, Nat.le_of_ble_eq_true rfl⟩) hS (fun _ _ h => h) (fun _ h => h) (fun M112 t H1 locs ht hvm hw hB hz1 hk1 hS => ?_)
          have hP : va_P D vwCl (fcP cI cII ad M112) H1 := by rw [← ht]; exact hB
          clear hB hk1 hz1 hvm ht t
          rw [hw] at hP
          refine lv_aload_n hx hb dX2_goOn_115 rfl (lv_at hl 0 rfl) ?_
          refine lv_dup hx hb dX2_goOn_116 rfl ?_
          refine va_get (D := D) (ci := 4) (v := .int ((fc_swp M4).1 8 3)) (C := RX2) (T := TX2) (N := 13) hx hb hts inX2 hown hK hP 8 (fl_at (by decide) rfl) rfl 3 (by decide) (hts (.fieldLink RX2 54 "ResampledRows$Run" "steps" "I") (by decide +kernel)) (fun _ h9 => h9) rfl dX2_goOn_117 ?_
          refine fl_ti (y := nI (r_sp r)) hs4 ?_
          refine lv_iconst (v := 1) hx hb dX2_goOn_120 (by decide) ?_
          refine lv_iadd hx hb dX2_goOn_121 ?_
          refine fl_ti (y := nI (r_sp r + 1)) (nI_1 _) ?_
          refine fl_put (ci := 4) (ty := .int) (v := .int (nI (r_sp r + 1))) (C := RX2) (T := TX2) (Nf := 13) hx hb hts inX2 tyX2 tyX2_ok nmX2 hown hK hJ hP hS 8 (by decide) (fl_sI (fc_swp M4) 8 3 (nI (r_sp r + 1))) rfl rfl 3 (by decide) (hts (.fieldLink RX2 54 "ResampledRows$Run" "steps" "I") (by decide +kernel)) (fun _ h9 => h9) rfl (by decide +kernel) rfl rfl (Nat.le_of_ble_eq_true rfl) rfl (fl_sI_o (fc_loc cI cII ad) _ _ _ _) dX2_goOn_122 (fun H locs hP hS => ?_)
          refine lv_iconst (v := 0) hx hb dX2_goOn_125 (by decide) ?_
          refine lv_istore (lv' := [(4, .int 0), (0, .ref (ad 8)), (1, .ref (ad 3)), (2, .ref (ad (25 + j))), (3, .ref (ad 6))]) hx hb dX2_goOn_126 hl (by decide) rfl (fun ls hl => ?_)
          suffices KL128 : ∀ (f : Nat) (k3 : Nat) (M5 : fl_M) (hi3 : k3 ≤ r_n r) (he5 : fl_eq (fun c => c < 30) (fl_sI (fc_swp M4) 8 3 (nI (r_sp r + 1))) M5) (hh : ∀ k, k < k3 → M5.1 (fc_hb (M.2.2.2 8 9) + k) (r_sp r + 1) = nI (a_st (fun k => mv (r_st r k)) d k)) (ho : ∀ k, k < 16 → ∀ z, z ≠ r_sp r + 1 → M5.1 (fc_hb (M.2.2.2 8 9) + k) z = M4.1 (fc_hb (M.2.2.2 8 9) + k) z) (hf3 : r_n r + 1 ≤ k3 + f), ∀ (H : Heap) (locs : List Loc), va_P D vwCl (fcP cI cII ad M5) H → va_S (fl_A 62 ad) s.heap H locs → ∀ (ls : Array Slot), lv_has ls 6 [(0, .ref (ad 8)), (1, .ref (ad 3)), (2, .ref (ad (25 + j))), (3, .ref (ad 6)), (4, .int (nI k3))] → W p l e (headSpec wsX2_goOn ({ frames := 3, cells := 0, slots := 0, locals := 67 } : Room)).room s m ([.ref (ad 8), .ref (ad 3), .ref (ad (25 + j)), .ref (ad 6)] : List Value).toArray below meth c H locs 0 0 (MQ below (va_Qi (fun r2 M2 => r2 = (a_go mv sg d r).1 ∧ fc_D (a_go mv sg d r).2.1 M2 ∧ fc_R (a_go mv sg d r).2.2 M2 ∧ fl_eq fc_PB M M2) (fcQ D cI cII ad) (fl_A 62 ad)) ([.ref (ad 8), .ref (ad 3), .ref (ad (25 + j)), .ref (ad 6)] : List Value).toArray s 0 0 (fl_A 62 ad)) (F0 m 128 ls []) from KL128 (r_n r + 1) 0 _ (Nat.zero_le _) fl_eq.rf (fun k hk => absurd hk (Nat.not_lt_zero k)) (fun k hk z hz => by have := fc_hb_in (M.2.2.2 8 9) k hk; rw [fl_sI_ne _ _ _ _ (by omega)]; rfl) (by omega) _ _ hP hS ls (lv_sub hl [1, 2, 3, 4, 0] rfl)
          intro f
          induction f with
          | zero =>
            intro k3 M5 hi3 he5 hh ho hf3
            omega
          | succ f ih128 =>
            intro k3 M5 hi3 he5 hh ho hf3 H locs hP hS ls hl
            have hn5 : M5.1 8 2 = nI (r_n r) := by rw [(he5 8 (by omega)).1]; exact hn4
            have hs5 : M5.1 8 3 = nI (r_sp r + 1) := by rw [(he5 8 (by omega)).1]; rfl
            have q9 : M5.2.2.2 8 9 = M.2.2.2 8 9 := by rw [(he5 8 (by omega)).2.2.2]; show M4.2.2.2 8 9 = _; rw [hR4]
            have q7 : M5.2.2.2 8 7 = M.2.2.2 8 10 := by rw [(he5 8 (by omega)).2.2.2]; show M4.2.2.2 8 10 = _; rw [hR4]
            have hst5 : M5.1 (M.2.2.2 8 10) = M3.1 (M.2.2.2 8 10) := by rw [(he5 (M.2.2.2 8 10) (by omega)).1, fl_sI_ne _ _ _ _ (by omega)]; exact (he2 (M.2.2.2 8 10) (by omega)).1
            refine lv_iload hx hb dX2_goOn_128 (lv_at hl 4 rfl) ?_
            refine lv_aload_n hx hb dX2_goOn_130 rfl (lv_at hl 0 rfl) ?_
            refine va_get (D := D) (ci := 4) (v := .int (M5.1 8 2)) (C := RX2) (T := TX2) (N := 13) hx hb hts inX2 hown hK hP 8 (fl_at (by decide) rfl) rfl 2 (by decide) (hts (.fieldLink RX2 51 "ResampledRows$Run" "n" "I") (by decide +kernel)) (fun _ h9 => h9) rfl dX2_goOn_131 ?_
            refine fl_ti (y := nI (r_n r)) hn5 ?_
            refine lv_icmp_ge (tgt := 162) hx hb dX2_goOn_134 (by decide) (fun hc134 => ?_) (fun hc134 => ?_)
            · have e134 : k3 = r_n r := Nat.le_antisymm hi3 ((nI_leI (by omega) (by omega)).mp hc134)
              have hgo : a_go mv sg d r = (nI (r_sp r + 1), a_dl (fun k => mv (r_st r k)) d (r_n r), (r_n r, r_sp r + 1, r_an r, r_kp r, r_mu r, a_st (fun k => mv (r_st r k)) d, (fun k => r_wt r k * sg (a_st (fun k => mv (r_st r k)) d k)), (fun k i => if i = r_sp r + 1 then a_st (fun k => mv (r_st r k)) d k else r_hi r k i), r_og r)) := by
                unfold a_go
                rw [hnfN]
                exact if_pos hallN
              have he45 : fl_eq (fun c => c ≠ 6 ∧ c ≠ M.2.2.2 8 10 ∧ c ≠ M.2.2.2 8 11) M M4 := (he.mono (fun c hc => ⟨hc.1, hc.2.1⟩)).tr (he2.mono (fun c hc => hc.2.2))
              have he6 : fl_eq (fun c => c < 30 ∧ c ≠ 8) M4 M5 := fl_eq.tr (M2 := fl_sI (fc_swp M4) 8 3 (nI (r_sp r + 1))) (((((fl_eq.rf.sR (by omega) _ _).sR (by omega) _ _).sR (by omega) _ _).sR (by omega) _ _).sI (by omega) _ _) (he5.mono (fun c hc => hc.1))
              refine lv_aload_n hx hb dX2_goOn_162 rfl (lv_at hl 0 rfl) ?_
              refine va_get (D := D) (ci := 4) (v := .int (M5.1 8 3)) (C := RX2) (T := TX2) (N := 13) hx hb hts inX2 hown hK hP 8 (fl_at (by decide) rfl) rfl 3 (by decide) (hts (.fieldLink RX2 54 "ResampledRows$Run" "steps" "I") (by decide +kernel)) (fun _ h9 => h9) rfl dX2_goOn_163 ?_
              refine fl_ti (y := nI (r_sp r + 1)) hs5 ?_
              exact W.iret (v := nI (r_sp r + 1)) hx hb hr (fun t ht hW => ⟨⟨nI (r_sp r + 1), M5, rfl, ⟨by rw [hgo], by rw [hgo]; exact hDN.eq (P := fun c => c = 6 ∨ c = 7) ((he2.mono (fun c hc => by omega)).tr (he6.mono (fun c hc => by omega))) (Or.inl rfl) (Or.inr rfl), by rw [hgo]; exact fc_step_R hr0 hsp he45 (by rw [(he2 (M.2.2.2 8 10) (by omega)).1]; exact hrowN) hrow2N he5 (e134 ▸ hh) ho, (he45.mono (fun c hc => by unfold fc_PB at hc; omega)).tr (he6.mono (fun c hc => by unfold fc_PB at hc; omega))⟩, fl_qi ht hP⟩, hS.F ht⟩) hS.2.2 dX2_goOn_166
            · have l134 : k3 < r_n r := Nat.lt_of_not_le (fun q => hc134 ((nI_leI (by omega) (by omega)).mpr q))
              have hbk := fc_hb_in (M.2.2.2 8 9) k3 (by omega)
              refine lv_aload_n hx hb dX2_goOn_137 rfl (lv_at hl 0 rfl) ?_
              refine va_get (D := D) (ci := 4) (v := .ref (ad (M5.2.2.2 8 9))) (C := RX2) (T := TX2) (N := 13) hx hb hts inX2 hown hK hP 8 (fl_at (by decide) rfl) rfl 9 (by decide) (hts (.fieldLink RX2 39 "ResampledRows$Run" "histories" "[[I") (by decide +kernel)) (fun _ h9 => h9) rfl dX2_goOn_138 ?_
              refine fl_top (y := .ref (ad (M.2.2.2 8 9))) (by rw [q9]) ?_
              refine lv_iload hx hb dX2_goOn_141 (lv_at hl 4 rfl) ?_
              refine fl_ald (k := k3) (f := fun j => ad (fc_hb (M.2.2.2 8 9) + j)) hx hb hK hP (fc_hat cI cII ad _ h10.s3.1) rfl rfl (by omega) (by decide) dX2_goOn_143 ?_
              refine lv_aload_n hx hb dX2_goOn_144 rfl (lv_at hl 0 rfl) ?_
              refine va_get (D := D) (ci := 4) (v := .int (M5.1 8 3)) (C := RX2) (T := TX2) (N := 13) hx hb hts inX2 hown hK hP 8 (fl_at (by decide) rfl) rfl 3 (by decide) (hts (.fieldLink RX2 54 "ResampledRows$Run" "steps" "I") (by decide +kernel)) (fun _ h9 => h9) rfl dX2_goOn_145 ?_
              refine fl_ti (y := nI (r_sp r + 1)) hs5 ?_
              refine lv_aload_n hx hb dX2_goOn_148 rfl (lv_at hl 0 rfl) ?_
              refine va_get (D := D) (ci := 4) (v := .ref (ad (M5.2.2.2 8 7))) (C := RX2) (T := TX2) (N := 13) hx hb hts inX2 hown hK hP 8 (fl_at (by decide) rfl) rfl 7 (by decide) (hts (.fieldLink RX2 31 "ResampledRows$Run" "states" "[I") (by decide +kernel)) (fun _ h9 => h9) rfl dX2_goOn_149 ?_
              refine fl_top (y := .ref (ad (M.2.2.2 8 10))) (by rw [q7]) ?_
              refine lv_iload hx hb dX2_goOn_152 (lv_at hl 4 rfl) ?_
              refine fl_ild (n := 16) (k := k3) hx hb hK hP (fc_a cI cII ad _ h10.l10 (by decide)) rfl rfl (by omega) (by decide) dX2_goOn_154 ?_
              refine fl_ti (y := nI (a_st (fun k => mv (r_st r k)) d k3)) (by rw [hst5]; exact (hrowN k3 l134).1) ?_
              refine fl_ist (n := 31) (k := (r_sp r + 1)) (x := nI (a_st (fun k => mv (r_st r k)) d k3)) hx hb hK hJ hP hS (fc_loc cI cII ad) (fc_a cI cII ad _ (fc_hb_len (by omega)) (by decide)) (fc_arr cI cII ad _ (fc_hb_len (by omega)) (by decide)).2 rfl rfl (by omega) (by decide) dX2_goOn_155 (fun H locs hP hS => ?_)
              refine lv_iinc (v := nI (k3 + 1)) (lv' := [(4, .int (nI (k3 + 1))), (0, .ref (ad 8)), (1, .ref (ad 3)), (2, .ref (ad (25 + j))), (3, .ref (ad 6))]) hx hb dX2_goOn_156 hl (k := 4) rfl (fl_inc k3) (by decide) rfl (fun ls hl => ?_)
              refine lv_goto (tgt := 128) hx hb dX2_goOn_159 (by decide) ?_
              exact ih128 (k3 + 1) (fl_sI M5 (fc_hb (M.2.2.2 8 9) + k3) (r_sp r + 1) (nI (a_st (fun k => mv (r_st r k)) d k3))) (by omega) (he5.sI (by omega) _ _) (fun k hk => fc_hh hh k hk) (fun k hk z hz => fc_ho ho k hk z hz) (by omega) _ _ hP hS ls (lv_sub hl [1, 2, 3, 4, 0] rfl)
        · have l63 : k2 < r_n r := Nat.lt_of_not_le (fun q => hc63 ((nI_leI (by omega) (by omega)).mpr q))
          have ha6 : a_st (fun k => mv (r_st r k)) d k2 < 6 := (hrowN k2 l63).2
          have hpr : r_wt r k2 * sg (a_st (fun k => mv (r_st r k)) d k2) ≤ 1000000 * 9 := Nat.mul_le_mul (Nat.le_of_lt_succ (h12 k2 l63).2) (Nat.le_of_lt_succ (hsg _ ha6).2)
          refine lv_aload_n hx hb dX2_goOn_66 rfl (lv_at hl 0 rfl) ?_
          refine va_get (D := D) (ci := 4) (v := .ref (ad (M4.2.2.2 8 11))) (C := RX2) (T := TX2) (N := 13) hx hb hts inX2 hown hK hP 8 (fl_at (by decide) rfl) rfl 11 (by decide) (hts (.fieldLink RX2 45 "ResampledRows$Run" "nextWeights" "[I") (by decide +kernel)) (fun _ h9 => h9) rfl dX2_goOn_67 ?_
          refine fl_top (y := .ref (ad (M.2.2.2 8 11))) (by rw [hR4]) ?_
          refine lv_iload hx hb dX2_goOn_70 (lv_at hl 4 rfl) ?_
          refine lv_aload_n hx hb dX2_goOn_72 rfl (lv_at hl 0 rfl) ?_
          refine va_get (D := D) (ci := 4) (v := .ref (ad (M4.2.2.2 8 8))) (C := RX2) (T := TX2) (N := 13) hx hb hts inX2 hown hK hP 8 (fl_at (by decide) rfl) rfl 8 (by decide) (hts (.fieldLink RX2 34 "ResampledRows$Run" "weights" "[I") (by decide +kernel)) (fun _ h9 => h9) rfl dX2_goOn_73 ?_
          refine fl_top (y := .ref (ad (M.2.2.2 8 8))) (by rw [hR4]) ?_
          refine lv_iload hx hb dX2_goOn_76 (lv_at hl 4 rfl) ?_
          refine fl_ild (n := 16) (k := k2) hx hb hK hP (fc_a cI cII ad _ h10.l8 (by decide)) rfl rfl (by omega) (by decide) dX2_goOn_78 ?_
          refine fl_ti (y := nI (r_wt r k2)) (by rw [(he2 (M.2.2.2 8 8) (by omega)).1, (he (M.2.2.2 8 8) (by omega)).1]; exact (h12 k2 l63).1) ?_
          refine lv_aload_n hx hb dX2_goOn_79 rfl (lv_at hl 2 rfl) ?_
          refine lv_aload_n hx hb dX2_goOn_80 rfl (lv_at hl 0 rfl) ?_
          refine va_get (D := D) (ci := 4) (v := .ref (ad (M4.2.2.2 8 10))) (C := RX2) (T := TX2) (N := 13) hx hb hts inX2 hown hK hP 8 (fl_at (by decide) rfl) rfl 10 (by decide) (hts (.fieldLink RX2 42 "ResampledRows$Run" "nextStates" "[I") (by decide +kernel)) (fun _ h9 => h9) rfl dX2_goOn_81 ?_
          refine fl_top (y := .ref (ad (M.2.2.2 8 10))) (by rw [hR4]) ?_
          refine lv_iload hx hb dX2_goOn_84 (lv_at hl 4 rfl) ?_
          refine fl_ild (n := 16) (k := k2) hx hb hK hP (fc_a cI cII ad _ h10.l10 (by decide)) rfl rfl (by omega) (by decide) dX2_goOn_86 ?_
          refine fl_ti (y := nI (a_st (fun k => mv (r_st r k)) d k2)) (by rw [(he2 (M.2.2.2 8 10) (by omega)).1]; exact (hrowN k2 l63).1) ?_
          refine fl_ild (n := 6) (k := (a_st (fun k => mv (r_st r k)) d k2)) hx hb hK hP (fc_a cI cII ad _ (fc_row_len (by omega) (by omega)) (by decide)) rfl rfl ha6 (by decide) dX2_goOn_87 ?_
          refine fl_ti (y := nI (sg (a_st (fun k => mv (r_st r k)) d k2))) (by rw [(he2 (25 + j) (by omega)).1, (he (25 + j) (by omega)).1]; exact (hsg _ ha6).1) ?_
          refine lv_imul hx hb dX2_goOn_88 ?_
          refine fl_ti (y := nI (r_wt r k2 * sg (a_st (fun k => mv (r_st r k)) d k2))) (pk_mul _ _) ?_
          refine fl_ist (n := 16) (k := k2) (x := nI (r_wt r k2 * sg (a_st (fun k => mv (r_st r k)) d k2))) hx hb hK hJ hP hS (fc_loc cI cII ad) (fc_a cI cII ad _ h10.l11 (by decide)) (fc_arr cI cII ad _ h10.l11 (by decide)).2 rfl rfl (by omega) (by decide) dX2_goOn_89 (fun H locs hP hS => ?_)
          refine lv_aload_n hx hb dX2_goOn_90 rfl (lv_at hl 0 rfl) ?_
          refine va_get (D := D) (ci := 4) (v := .ref (ad (M4.2.2.2 8 11))) (C := RX2) (T := TX2) (N := 13) hx hb hts inX2 hown hK hP 8 (fl_at (by decide) rfl) rfl 11 (by decide) (hts (.fieldLink RX2 45 "ResampledRows$Run" "nextWeights" "[I") (by decide +kernel)) (fun _ h9 => h9) rfl dX2_goOn_91 ?_
          refine fl_top (y := .ref (ad (M.2.2.2 8 11))) (by rw [hR4]) ?_
          refine lv_iload hx hb dX2_goOn_94 (lv_at hl 4 rfl) ?_
          refine fl_ild (n := 16) (k := k2) hx hb hK hP (fc_a cI cII ad _ h10.l11 (by decide)) rfl rfl (by omega) (by decide) dX2_goOn_96 ?_
          refine fl_ti (y := nI (r_wt r k2 * sg (a_st (fun k => mv (r_st r k)) d k2))) (fl_rdI _ _ _ _) ?_
          refine lv_ldc (v := 1000000) hx hb hown (hts (.constant RX2 74 (1000000)) (by decide +kernel)) dX2_goOn_97 ?_
          refine lv_icmp_le (tgt := 105) hx hb dX2_goOn_99 (by decide) (fun hc99 => ?_) (fun hc99 => ?_)
          · have g99 : r_wt r k2 * sg (a_st (fun k => mv (r_st r k)) d k2) ≤ 1000000 := (nI_leI (b := 1000000) (by omega) (by decide)).mp hc99
            refine lv_iinc (v := nI (k2 + 1)) (lv' := [(4, .int (nI (k2 + 1))), (0, .ref (ad 8)), (1, .ref (ad 3)), (2, .ref (ad (25 + j))), (3, .ref (ad 6))]) hx hb dX2_goOn_105 hl (k := 4) rfl (fl_inc k2) (by decide) rfl (fun ls hl => ?_)
            refine lv_goto (tgt := 57) hx hb dX2_goOn_108 (by decide) ?_
            exact ih57 (k2 + 1) (fl_sI M4 (M.2.2.2 8 11) k2 (nI (r_wt r k2 * sg (a_st (fun k => mv (r_st r k)) d k2)))) (by omega) (by rw [fl_sI_same]; exact hrow2.push rfl (by omega)) (by show (a_all _ k2 && _) = true; rw [hall, Bool.true_and]; exact decide_eq_true g99) (he2.sI (fun q => q rfl) _ _) (by omega) _ _ hP hS ls (lv_sub hl [1, 2, 3, 4, 0] rfl)
          · have g99 : ¬ r_wt r k2 * sg (a_st (fun k => mv (r_st r k)) d k2) ≤ 1000000 := fun q => hc99 ((nI_leI (b := 1000000) (by omega) (by decide)).mpr q)
            have hgo : a_go mv sg d r = (-1000005, a_dl (fun k => mv (r_st r k)) d (r_n r), r) := by
              unfold a_go
              rw [hnfN]
              exact if_neg (by rw [a_all_false (i := k2) (decide_eq_false g99) (r_n r) l63]; decide)
            refine lv_ldc (v := -1000005) hx hb hown (hts (.constant RX2 75 (-1000005)) (by decide +kernel)) dX2_goOn_102 ?_
            exact W.iret (v := (-1000005)) hx hb hr (fun t ht hW => ⟨⟨(-1000005), (fl_sI M4 (M.2.2.2 8 11) k2 (nI (r_wt r k2 * sg (a_st (fun k => mv (r_st r k)) d k2)))), rfl, ⟨by rw [hgo], by rw [hgo]; exact hDN.eq (P := fun c => c = 6 ∨ c = 7) ((he2.mono (fun c hc => by omega)).sI (by omega) _ _) (Or.inl rfl) (Or.inr rfl), by rw [hgo]; exact hr0.scratch (((he.mono (fun c hc => ⟨hc.1, hc.2.1⟩)).tr (he2.mono (fun c hc => hc.2.2))).sI (fun q => q.2.2 rfl) _ _), ((he.mono (fun c hc => by unfold fc_PB at hc; omega)).tr (he2.mono (fun c hc => by unfold fc_PB at hc; omega))).sI (by unfold fc_PB; omega) _ _⟩, fl_qi ht hP⟩, hS.F ht⟩) hS.2.2 dX2_goOn_104
    · have l9 : i < r_n r := Nat.lt_of_not_le (fun q => hc9 ((nI_leI (by omega) (by omega)).mpr q))
      have hsi : r_st r i < 6 := (h11 i l9).2
      refine lv_aload_n hx hb dX2_goOn_12 rfl (lv_at hl 3 rfl) ?_
      refine lv_aload_n hx hb dX2_goOn_13 rfl (lv_at hl 1 rfl) ?_
      refine lv_aload_n hx hb dX2_goOn_14 rfl (lv_at hl 0 rfl) ?_
      refine va_get (D := D) (ci := 4) (v := .ref (ad (M3.2.2.2 8 7))) (C := RX2) (T := TX2) (N := 13) hx hb hts inX2 hown hK hP 8 (fl_at (by decide) rfl) rfl 7 (by decide) (hts (.fieldLink RX2 31 "ResampledRows$Run" "states" "[I") (by decide +kernel)) (fun _ h9 => h9) rfl dX2_goOn_15 ?_
      refine fl_top (y := .ref (ad (M.2.2.2 8 7))) (by rw [hR3]) ?_
      refine lv_iload hx hb dX2_goOn_18 (lv_at hl 4 rfl) ?_
      refine fl_ild (n := 16) (k := i) hx hb hK hP (fc_a cI cII ad _ h10.l7 (by decide)) rfl rfl (by omega) (by decide) dX2_goOn_20 ?_
      refine fl_ti (y := nI (r_st r i)) (by rw [(he (M.2.2.2 8 7) (by omega)).1]; exact (h11 i l9).1) ?_
      refine fl_ald (k := (r_st r i)) (f := fun j => ad (19 + j)) hx hb hK hP (fl_at (by decide) rfl) rfl rfl hsi (by decide) dX2_goOn_21 ?_
      refine lv_bipush (v := 6) hx hb dX2_goOn_22 (by decide) ?_
      have hrw : ∀ k, k < 6 → M3.1 (19 + r_st r i) k = nI (mv (r_st r i) k) ∧ mv (r_st r i) k < 2 ^ 31 := fun k hk => by
        rw [(he (19 + r_st r i) (by omega)).1]
        exact ⟨(hmv _ hsi k hk).1, by have := (hmv _ hsi k hk).2; omega⟩
      have hT : a_sum (mv (r_st r i)) 6 < 2 ^ 31 := by have := a_row_le (B := 9) (hmv _ hsi); omega
      refine fl_ti (y := nI 6) rfl ?_
      refine va_calli (va_runV (As := [.ref (ad (19 + (r_st r i))), .int (nI 6)]) (rest := []) ⟨hx, hb, hml, hown, hts⟩ (c_X0_byWeights l hJ M3 (a_dl (fun k => mv (r_st r k)) d i) (19 + r_st r i) 6 6 (mv (r_st r i)) (fc_row_len (by omega) (by omega)) (by decide) (by decide) (by omega) hrw hT hD) (cwV 2 hts gX2_goOn_X0_byWeights rfl rfl rfl (by decide +kernel) ⟨Nat.le_of_ble_eq_true rfl, Nat.le_of_ble_eq_true rfl⟩) ⟨fl_blind, va_recv hK hP (ci := 2) (q0 := 6) rfl (fl_at (by decide) rfl), fl_pre hP hK hN⟩ rfl rfl hl.1 rfl (lv_room (Nat.le_of_ble_eq_true rfl)) dX2_goOn_24 ⟨Nat.le_of_ble_eq_true rfl, Nat.le_of_ble_eq_true rfl⟩) hS (fun _ _ h => h) (fun _ h => h) (fun r24 M24 t H1 locs ht hvm hw hB hz1 hk1 hS => ?_)
      have hP : va_P D vwCl (fcP cI cII ad M24) H1 := by rw [← ht]; exact hB
      clear hB hk1 hz1 hvm ht t
      obtain ⟨rfl, hD4, he4⟩ := hw
      by_cases h0 : a_sum (mv (r_st r i)) 6 = 0
      · have hgo : a_go mv sg d r = (-1000004, a_dl (fun k => mv (r_st r k)) d i, r) := by unfold a_go; rw [a_find_some0 hnf h0 l9]
        refine fl_ti (y := -1000004) (a_oI_none h0) ?_
        refine lv_istore (lv' := [(5, .int (-1000004)), (0, .ref (ad 8)), (1, .ref (ad 3)), (2, .ref (ad (25 + j))), (3, .ref (ad 6)), (4, .int (nI i))]) hx hb dX2_goOn_27 hl (by decide) rfl (fun ls hl => ?_)
        refine lv_iload hx hb dX2_goOn_29 (lv_at hl 0 rfl) ?_
        refine lv_ldc (v := -1000004) hx hb hown (hts (.constant RX2 73 (-1000004)) (by decide +kernel)) dX2_goOn_31 ?_
        refine lv_icmp_ne (tgt := 39) hx hb dX2_goOn_33 (by decide) (fun hc33 => ?_) (fun hc33 => ?_)
        · exact absurd rfl hc33
        · refine lv_ldc (v := -1000004) hx hb hown (hts (.constant RX2 73 (-1000004)) (by decide +kernel)) dX2_goOn_36 ?_
          exact W.iret (v := (-1000004)) hx hb hr (fun t ht hW => ⟨⟨(-1000004), M24, rfl, ⟨by rw [hgo], by rw [hgo]; rw [a_by_none h0] at hD4; exact hD4, by rw [hgo]; exact hr0.scratch ((he.mono (fun c hc => ⟨hc.1, hc.2.1⟩)).tr (he4.mono (fun c hc => hc.1))), (he.mono (fun c hc => by unfold fc_PB at hc; omega)).tr (he4.mono (fun c hc => by unfold fc_PB at hc; omega))⟩, fl_qi ht hP⟩, hS.F ht⟩) hS.2.2 dX2_goOn_38
      · obtain ⟨v, hv⟩ : ∃ v, v = a_st (fun k => mv (r_st r k)) d i := ⟨_, rfl⟩
        have hv6 : v < 6 := by rw [hv]; exact a_st_lt (W := (fun k => mv (r_st r k))) h0
        refine fl_ti (y := nI v) (by rw [hv]; exact a_oI_st (W := (fun k => mv (r_st r k))) h0) ?_
        have hR24 : M24.2.2.2 8 = M.2.2.2 8 := (he4 8 (by decide)).2.2.2.trans hR3
        refine lv_istore (lv' := [(5, .int (nI v)), (0, .ref (ad 8)), (1, .ref (ad 3)), (2, .ref (ad (25 + j))), (3, .ref (ad 6)), (4, .int (nI i))]) hx hb dX2_goOn_27 hl (by decide) rfl (fun ls hl => ?_)
        refine lv_iload hx hb dX2_goOn_29 (lv_at hl 0 rfl) ?_
        refine lv_ldc (v := -1000004) hx hb hown (hts (.constant RX2 73 (-1000004)) (by decide +kernel)) dX2_goOn_31 ?_
        refine lv_icmp_ne (tgt := 39) hx hb dX2_goOn_33 (by decide) (fun hc33 => ?_) (fun hc33 => ?_)
        · refine lv_aload_n hx hb dX2_goOn_39 rfl (lv_at hl 1 rfl) ?_
          refine va_get (D := D) (ci := 4) (v := .ref (ad (M24.2.2.2 8 10))) (C := RX2) (T := TX2) (N := 13) hx hb hts inX2 hown hK hP 8 (fl_at (by decide) rfl) rfl 10 (by decide) (hts (.fieldLink RX2 42 "ResampledRows$Run" "nextStates" "[I") (by decide +kernel)) (fun _ h9 => h9) rfl dX2_goOn_40 ?_
          refine fl_top (y := .ref (ad (M.2.2.2 8 10))) (by rw [hR24]) ?_
          refine lv_iload hx hb dX2_goOn_43 (lv_at hl 5 rfl) ?_
          refine lv_iload hx hb dX2_goOn_45 (lv_at hl 0 rfl) ?_
          refine fl_ist (n := 16) (k := i) (x := nI v) hx hb hK hJ hP hS (fc_loc cI cII ad) (fc_a cI cII ad _ h10.l10 (by decide)) (fc_arr cI cII ad _ h10.l10 (by decide)).2 rfl rfl (by omega) (by decide) dX2_goOn_47 (fun H locs hP hS => ?_)
          refine lv_iinc (v := nI (i + 1)) (lv' := [(4, .int (nI (i + 1))), (5, .int (nI v)), (0, .ref (ad 8)), (1, .ref (ad 3)), (2, .ref (ad (25 + j))), (3, .ref (ad 6))]) hx hb dX2_goOn_48 hl (k := 5) rfl (fl_inc i) (by decide) rfl (fun ls hl => ?_)
          refine lv_goto (tgt := 3) hx hb dX2_goOn_51 (by decide) ?_
          exact ih3 (i + 1) (fl_sI M24 (M.2.2.2 8 10) i (nI v)) (by omega) (fc_D.eq (P := fun c => c = 6 ∨ c = 7) hD4 (fl_eq.rf.sI (by omega) _ _) (Or.inl rfl) (Or.inr rfl)) (by rw [fl_sI_same, (he4 _ (by omega)).1]; exact hrow.push hv hv6) (a_find_none hnf h0) ((he.tr (he4.mono (fun c hc => hc.1))).sI (fun q => q.2 rfl) _ _) (by omega) _ _ hP hS ls (lv_sub hl [2, 3, 4, 5, 0] rfl)
        · exact absurd hc33 (nI_nneg (by omega) (by decide))

