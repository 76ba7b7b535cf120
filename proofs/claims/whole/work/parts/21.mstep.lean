def fm_BG (α : a_A) (sd : Int64) (i : Nat) (M3 : fl_M) : Prop := fm_D (a_dl (fun _ => α.1.1) (α.2.1.1, sd) i) M3 ∧ (M3.1 0 7 = 0 ∧ M3.1 0 12 = 0 ∧ M3.1 0 13 = 0 ∧ M3.1 0 14 = -1000009 ∧ M3.1 0 17 = 0) ∧ fl_row (M3.1 6) (a_st (fun _ => α.1.1) (α.2.1.1, sd)) i 6 ∧ fl_rowJ (M3.2.1 7) (fun _ => 1) i 1000001 ∧ (∀ k, k < i → M3.1 8 (31 * k) = nI (a_st (fun _ => α.1.1) (α.2.1.1, sd) k)) ∧ fm_T α.1 M3
theorem fm_BG_0 {α : a_A} {M : fl_M} (hT : fm_T α.1 M) (hQ : fm_Q α.2.1.1 M) (sd : Int64) : fm_BG α sd 0 (fl_sJ (fl_sI (fl_sI (fl_sI (fl_sI (fl_sI M 0 7 0) 0 12 0) 0 13 0) 0 14 (-1000009)) 0 17 0) 0 8 sd) :=
  ⟨⟨⟨hQ.1, hQ.2.1, hQ.2.2⟩, rfl⟩, ⟨rfl, rfl, rfl, rfl, rfl⟩, fun k hk => absurd hk (Nat.not_lt_zero k), fun k hk => absurd hk (Nat.not_lt_zero k), fun k hk => absurd hk (Nat.not_lt_zero k), hT⟩
def fm_PE (c k : Nat) : Prop := c ≠ 10 ∧ c ≠ 11 ∧ fm_PD c k
theorem fm_BG_s {α : a_A} {sd : Int64} {M3 M5 : fl_M} {i v : Nat} (h : fm_BG α sd i M3) (he : fp fm_PE M3 M5) (h0 : a_sum α.1.1 6 ≠ 0) (hv : v = a_st (fun _ => α.1.1) (α.2.1.1, sd) i) (hD : fm_D (a_by α.1.1 6 (a_dl (fun _ => α.1.1) (α.2.1.1, sd) i)).2 M5) : fm_BG α sd (i + 1) (fl_sI (fl_sJ (fl_sI M5 6 i (nI v)) 7 i (lN 1)) 8 (31 * i) (nI v)) := by
  obtain ⟨-, ⟨g1, g2, g3, g4, g5⟩, g6, g7, g8, g9⟩ := h
  have hvl : v < 6 := by rw [hv]; exact a_st_lt (W := fun _ => α.1.1) h0
  have e0 : ∀ k, k ≠ 6 → k ≠ 8 → M5.1 0 k = M3.1 0 k := fun k a b => (he 0 k (by unfold fm_PE fm_PD; omega)).1
  refine ⟨⟨⟨hD.1.1, hD.1.2.1, hD.1.2.2⟩, hD.2⟩, ⟨(e0 7 (by decide) (by decide)).trans g1, (e0 12 (by decide) (by decide)).trans g2, (e0 13 (by decide) (by decide)).trans g3, (e0 14 (by decide) (by decide)).trans g4, (e0 17 (by decide) (by decide)).trans g5⟩, ?_, ?_, fun k hk => ?_, ?_⟩
  · have e6 : M5.1 6 = M3.1 6 := funext fun k => (he 6 k (by unfold fm_PE fm_PD; omega)).1
    show fl_row (upd (M5.1 6) i (nI v)) _ _ _
    rw [e6]
    exact g6.push hv hvl
  · have e7 : M5.2.1 7 = M3.2.1 7 := funext fun k => (he 7 k (by unfold fm_PE fm_PD; omega)).2.1
    show fl_rowJ (vp_updL (M5.2.1 7) i (lN 1)) _ _ _
    rw [e7]
    exact fl_rowJ.push (v := 1) g7 rfl (by decide)
  · show upd (M5.1 8) (31 * i) (nI v) (31 * k) = _
    by_cases e : k = i
    · subst e
      rw [pk_us, hv]
    · rw [pk_un (by omega), (he 8 _ (by unfold fm_PE fm_PD; omega)).1]
      exact g8 k (by omega)
  · have ht5 : fm_T α.1 M5 := g9.eq he (fun c k a b => by unfold fm_PE fm_PD; omega)
    exact ⟨ht5.1, ht5.2.1, ht5.2.2.1, ht5.2.2.2⟩
theorem fm_BG_E {α : a_A} {sd : Int64} {M3 : fl_M} {n : Nat} (h : fm_BG α sd n M3) (hn : n ≤ 16) (h0 : a_sum α.1.1 6 ≠ 0) : fm_A (α.1, a_dl (fun _ => α.1.1) (α.2.1.1, sd) n, a_rB n (a_st (fun _ => α.1.1) (α.2.1.1, sd))) (fl_sG (fl_sI M3 0 7 (nI n)) 0 FP.dconst1) := by
  obtain ⟨hD, ⟨g1, g2, g3, g4, g5⟩, g6, g7, g8, g9⟩ := h
  refine ⟨⟨g9.1, g9.2.1, g9.2.2.1, g9.2.2.2⟩, ⟨hD.1.1, hD.1.2.1, hD.1.2.2⟩, fun _ => hD.2, ⟨hn, rfl⟩, ⟨Nat.zero_le _, g2⟩, ⟨(by decide : (0 : Nat) < 2 ^ 30), g3⟩, ⟨g4, fun k hk => nomatch hk⟩, fun _ => alike64_refl _, g6, g7, fun k hk i hi => ?_, fun z => absurd rfl z, fun _ => g5⟩
  have hi' : i < 0 + 1 := hi
  have e : i = 0 := by omega
  subst e
  exact ⟨g8 k hk, a_st_lt (W := fun _ => α.1.1) (d := (α.2.1.1, sd)) (k := k) h0⟩
theorem fm_BG_L {α : a_A} {sd : Int64} {M3 M5 : fl_M} {i : Nat} (h : fm_BG α sd i M3) (he : fp fm_PE M3 M5) (hD : fm_D (α.2.1.1, sd) M5) : fm_A (α.1, (α.2.1.1, sd), a_r0) M5 := by
  obtain ⟨-, ⟨g1, g2, g3, g4, g5⟩, g6, g7, g8, g9⟩ := h
  have e0 : ∀ k, k ≠ 6 → k ≠ 8 → M5.1 0 k = M3.1 0 k := fun k a b => (he 0 k (by unfold fm_PE fm_PD; omega)).1
  exact ⟨g9.eq he (fun c k a b => by unfold fm_PE fm_PD; omega), hD.1, fun z => absurd rfl z, ⟨Nat.zero_le _, (e0 7 (by decide) (by decide)).trans g1⟩, ⟨Nat.zero_le _, (e0 12 (by decide) (by decide)).trans g2⟩, ⟨(by decide : (0 : Nat) < 2 ^ 30), (e0 13 (by decide) (by decide)).trans g3⟩, ⟨(e0 14 (by decide) (by decide)).trans g4, fun k hk => nomatch hk⟩, fun z => absurd rfl z, fun k hk => absurd hk (Nat.not_lt_zero k), fun k hk => absurd hk (Nat.not_lt_zero k), fun k hk => absurd hk (Nat.not_lt_zero k), fun z => absurd rfl z, fun _ => (e0 17 (by decide) (by decide)).trans g5⟩
theorem fl_in1 {x : Int32} (h0 : ¬ x < 0) (h : ¬ ((1 : Int32) ≤ x ∧ x ≤ 16)) : x = 0 ∨ ¬ x ≤ 16 := by
  by_cases h1 : x ≤ 16
  · left
    have a1 : ¬ x.toInt < 0 := fun q => h0 (fl_ltT.mpr q)
    have a2 : ¬ (1 : Int32).toInt ≤ x.toInt := fun q => h ⟨fl_leT.mpr q, h1⟩
    have a3 : (1 : Int32).toInt = 1 := rfl
    exact Int32.toInt_inj.mp (by show x.toInt = 0; omega)
  · exact Or.inr h1
theorem fl_in1p {x : Int32} (h : (1 : Int32) ≤ x) : ¬ x = 0 := fun q => by subst q; exact absurd h (by decide)
theorem fm_by {M4 : fl_M} {w : Nat → Nat} {j : Nat} (h : ∀ k, k < j → M4.2.1 10 k = lN (w k)) {v : Int64} (hv : v = lN (w j)) : ∀ k, k < j + 1 → (fl_sJ M4 10 j v).2.1 10 k = lN (w k) := fun k hk => by
  rw [fl_sJ_same]
  by_cases e : k = j
  · subst e
    rw [pk_uLs, hv]
  · rw [pk_uLn e]
    exact h k (by omega)

set_option maxHeartbeats 4000000 in
set_option maxRecDepth 100000 in
theorem c_X5_begin (l : Launch) {D : va_G} {cI cJ cII : ClassId} {ad : Nat → Nat} (hJ : fl_inj 15 ad) (M : fl_M) (α : a_A) (hA : fm_A α M) (x : Int32) (sd : Int64) : Met l yX5_begin wsX5_begin ({ frames := 2, cells := 0, slots := 0, locals := 53 } : Room) (fmPc D cI cJ cII ad M [.ref (ad 0), .int x, .long sd]) (va_Qi (fun r M2 => r = (o_begin α x sd).1 ∧ fm_A (o_begin α x sd).2 M2) (fmQ D cI cJ ad) (fl_A 15 ad)) 0 0 (fl_A 15 ad) := by
  refine Met.ofW (cc := cX5_begin) (maxL := 6) (ret := (some .int)) (by decide) rfl ?_
  intro p e s m args below meth c s₁ B hml hv
  obtain ⟨rfl, hP, hK, hN⟩ := hv
  have hx := B.exec
  have hb := B.bytes
  have hr := B.returns
  have hts := atoms_spec (ws := wsX5_begin) B.pre
  have hown : s.vm.findClass RX5 = some m.cls := findClass_of_methodNamed B.named
  have hlocks := B.notSynchronized
  have inX5 : ∀ w ∈ u_ws RX5 TX5 23, w ∈ wsX5_begin := by decide +kernel
  have hS : va_S (fl_A 15 ad) s.heap s.heap [] := va_S.rf
  have hl := lv_entry ([.ref (ad 0), .int x, .long sd] : List Value) (n := 6) (Nat.le_of_ble_eq_true rfl)
  rw [lg_entry_eq]
  generalize (lg_sl ([.ref (ad 0), .int x, .long sd] : List Value) ++ List.replicate (6 - (lg_sl ([.ref (ad 0), .int x, .long sd] : List Value)).length) Slot.unset).toArray = ls at hl ⊢
  have hl : lv_has ls 6 [(0, .ref (ad 0)), (1, .int x), (2, .long sd)] := hl
  obtain ⟨hT, hQ, hsd, hR⟩ := id hA
  refine lv_iload_n hx hb dX5_begin_0 rfl (lv_at hl 1 rfl) ?_
  refine lv_if_ge (tgt := 7) hx hb dX5_begin_1 (by decide) (fun hc1 => ?_) (fun hc1 => ?_)
  · have hx0 : ¬ x < 0 := Int32.not_lt.mpr hc1
    refine lv_iload_n hx hb dX5_begin_7 rfl (lv_at hl 1 rfl) ?_
    refine lv_iconst (v := 1) hx hb dX5_begin_8 (by decide) ?_
    refine lv_bipush (v := 16) hx hb dX5_begin_9 (by decide) ?_
    refine va_calli (va_runS (As := [.int x, .int 1, .int 16]) (rest := []) ⟨hx, hb, hml, hown, hts⟩ (c_X5_in l hJ M x 1 16) (va_cwS 3 hts gX5_begin_X5_in rfl rfl rfl (by decide +kernel) ⟨Nat.le_of_ble_eq_true rfl, Nat.le_of_ble_eq_true rfl⟩) ⟨fl_blind, fl_pre hP hK hN⟩ rfl rfl hl.1 rfl (lv_room (Nat.le_of_ble_eq_true rfl)) dX5_begin_11 ⟨Nat.le_of_ble_eq_true rfl, Nat.le_of_ble_eq_true rfl⟩) hS (fun _ _ h => h) (fun _ h => h) (fun r11 M11 t H1 locs ht hvm hw hB hz1 hk1 hS => ?_)
    have hP : va_P D vwCl (fmP cI cJ ad M11) H1 := by rw [← ht]; exact hB
    clear hB hk1 hz1 hvm ht t
    obtain ⟨rfl, hE⟩ := hw
    rw [hE] at hP
    by_cases hin : (1 : Int32) ≤ x ∧ x ≤ 16
    · obtain ⟨k, hk1, hk2, hk3⟩ := a_ix_pos (n := 16) (by decide) hx0 (fl_in1p hin.1) hin.2
      refine fl_ti (y := 1) (if_pos hin) ?_
      refine lv_if_ne (tgt := 20) hx hb dX5_begin_14 (by decide) (fun _ => ?_) (fun hz => absurd hz (by decide))
      refine lv_aload_n hx hb dX5_begin_20 rfl (lv_at hl 0 rfl) ?_
      refine va_callv (va_runV (As := []) (rest := []) ⟨hx, hb, hml, hown, hts⟩ (c_X5_noRun l hJ M) (cwV 0 hts gX5_begin_X5_noRun rfl rfl rfl (by decide +kernel) ⟨Nat.le_of_ble_eq_true rfl, Nat.le_of_ble_eq_true rfl⟩) ⟨fl_blind, va_recv hK hP (ci := 7) (q0 := 0) rfl (fl_at (by decide) rfl), fl_pre hP hK hN⟩ rfl rfl hl.1 rfl (lv_room (Nat.le_of_ble_eq_true rfl)) dX5_begin_21 ⟨Nat.le_of_ble_eq_true rfl, Nat.le_of_ble_eq_true rfl⟩) hS (fun _ _ h => h) (fun _ h => h) (fun M21 t H1 locs ht hvm hw hB hz1 hk1 hS => ?_)
      have hP : va_P D vwCl (fmP cI cJ ad M21) H1 := by rw [← ht]; exact hB
      clear hB hk1 hz1 hvm ht t
      rw [hw] at hP
      refine lv_aload_n hx hb dX5_begin_24 rfl (lv_at hl 0 rfl) ?_
      refine lv_lload_n hx hb dX5_begin_25 rfl (lv_at hl 2 rfl) ?_
      refine fl_put (ci := 7) (ty := .long) (v := .long sd) (C := RX5) (T := TX5) (Nf := 23) hx hb hts inX5 tyX5 tyX5_ok nmX5 hown hK hJ hP hS 0 (by decide) (fl_sJ (fl_sI (fl_sI (fl_sI (fl_sI (fl_sI M 0 7 0) 0 12 0) 0 13 0) 0 14 (-1000009)) 0 17 0) 0 8 sd) rfl rfl 8 (by decide) (hts (.fieldLink RX5 93 "ResampledRowsModel" "seed" "J") (by decide +kernel)) (fun _ h9 => h9) rfl (by decide +kernel) rfl rfl (Nat.le_of_ble_eq_true rfl) rfl (fl_sJ_o (fm_loc cI cJ ad) _ _ _ _) dX5_begin_26 (fun H locs hP hS => ?_)
      refine lv_iconst (v := 0) hx hb dX5_begin_29 (by decide) ?_
      refine lv_istore (lv' := [(4, .int 0), (0, .ref (ad 0)), (1, .int x), (2, .long sd)]) hx hb dX5_begin_30 hl (by decide) rfl (fun ls hl => ?_)
      suffices KL32 : ∀ (f : Nat) (i : Nat) (M3 : fl_M) (hi : i ≤ k + 1) (hB : fm_BG α sd i M3) (hz : i = 0 ∨ a_sum α.1.1 6 ≠ 0) (hf : k + 1 + 1 ≤ i + f), ∀ (H : Heap) (locs : List Loc), va_P D vwCl (fmP cI cJ ad M3) H → va_S (fl_A 15 ad) s.heap H locs → ∀ (ls : Array Slot), lv_has ls 6 [(0, .ref (ad 0)), (1, .int x), (4, .int (nI i))] → W p l e (headSpec wsX5_begin ({ frames := 2, cells := 0, slots := 0, locals := 53 } : Room)).room s m ([.ref (ad 0), .int x, .long sd] : List Value).toArray below meth c H locs 0 0 (MQ below (va_Qi (fun r M2 => r = (o_begin α x sd).1 ∧ fm_A (o_begin α x sd).2 M2) (fmQ D cI cJ ad) (fl_A 15 ad)) ([.ref (ad 0), .int x, .long sd] : List Value).toArray s 0 0 (fl_A 15 ad)) (F0 m 32 ls []) from KL32 (k + 1 + 1) 0 (fl_sJ (fl_sI (fl_sI (fl_sI (fl_sI (fl_sI M 0 7 0) 0 12 0) 0 13 0) 0 14 (-1000009)) 0 17 0) 0 8 sd) (Nat.zero_le _) (fm_BG_0 hT hQ sd) (Or.inl rfl) (by omega) _ _ hP hS ls (lv_sub hl [1, 2, 0] rfl)
      intro f
      induction f with
      | zero =>
        intro i M3 hi hB hz hf
        omega
      | succ f ih32 =>
        intro i M3 hi hB hz hf H locs hP hS ls hl
        refine lv_iload hx hb dX5_begin_32 (lv_at hl 2 rfl) ?_
        refine lv_iload_n hx hb dX5_begin_34 rfl (lv_at hl 1 rfl) ?_
        refine fl_ti (y := nI (k + 1)) hk2 ?_
        refine lv_icmp_ge (tgt := 120) hx hb dX5_begin_35 (by decide) (fun hc35 => ?_) (fun hc35 => ?_)
        · have e35 : i = k + 1 := Nat.le_antisymm hi ((nI_leI (by omega) (by omega)).mp hc35)
          have h0 : a_sum α.1.1 6 ≠ 0 := hz.resolve_left (by omega)
          have hBn : fm_BG α sd (k + 1) M3 := e35 ▸ hB
          have ho : o_begin α x sd = (nI (k + 1), (α.1, a_dl (fun _ => α.1.1) (α.2.1.1, sd) (k + 1), a_rB (k + 1) (a_st (fun _ => α.1.1) (α.2.1.1, sd)))) := by
            unfold o_begin
            rw [if_neg hx0, hk3]
            exact if_neg h0
          refine lv_aload_n hx hb dX5_begin_120 rfl (lv_at hl 0 rfl) ?_
          refine lv_iload_n hx hb dX5_begin_121 rfl (lv_at hl 1 rfl) ?_
          refine fl_ti (y := nI (k + 1)) hk2 ?_
          refine fl_put (ci := 7) (ty := .int) (v := .int (nI (k + 1))) (C := RX5) (T := TX5) (Nf := 23) hx hb hts inX5 tyX5 tyX5_ok nmX5 hown hK hJ hP hS 0 (by decide) (fl_sI M3 0 7 (nI (k + 1))) rfl rfl 7 (by decide) (hts (.fieldLink RX5 66 "ResampledRowsModel" "rows" "I") (by decide +kernel)) (fun _ h9 => h9) rfl (by decide +kernel) rfl rfl (Nat.le_of_ble_eq_true rfl) rfl (fl_sI_o (fm_loc cI cJ ad) _ _ _ _) dX5_begin_122 (fun H locs hP hS => ?_)
          refine lv_aload_n hx hb dX5_begin_125 rfl (lv_at hl 0 rfl) ?_
          refine lv_dconst1 hx hb dX5_begin_126 ?_
          refine fl_put (ci := 7) (ty := .double) (v := .double FP.dconst1) (C := RX5) (T := TX5) (Nf := 23) hx hb hts inX5 tyX5 tyX5_ok nmX5 hown hK hJ hP hS 0 (by decide) (fl_sG (fl_sI M3 0 7 (nI (k + 1))) 0 FP.dconst1) rfl rfl 15 (by decide) (hts (.fieldLink RX5 115 "ResampledRowsModel" "product" "D") (by decide +kernel)) (fun _ h9 => h9) rfl (by decide +kernel) rfl rfl (Nat.le_of_ble_eq_true rfl) rfl (fl_sG_o (fm_loc cI cJ ad) _ _ _) dX5_begin_127 (fun H locs hP hS => ?_)
          refine lv_iload_n hx hb dX5_begin_130 rfl (lv_at hl 1 rfl) ?_
          refine fl_ti (y := nI (k + 1)) hk2 ?_
          exact W.iret (v := nI (k + 1)) hx hb hr (fun t ht hW => ⟨⟨nI (k + 1), (fl_sG (fl_sI M3 0 7 (nI (k + 1))) 0 FP.dconst1), rfl, (by rw [ho]; exact ⟨rfl, fm_BG_E hBn hk1 h0⟩), fl_qi ht hP⟩, hS.F ht⟩) hS.2.2 dX5_begin_131
        · have l35 : i < k + 1 := Nat.lt_of_not_le (fun q => hc35 ((nI_leI (by omega) (by omega)).mpr q))
          refine lv_iconst (v := 0) hx hb dX5_begin_38 (by decide) ?_
          refine lv_istore (lv' := [(5, .int 0), (0, .ref (ad 0)), (1, .int x), (4, .int (nI i))]) hx hb dX5_begin_39 hl (by decide) rfl (fun ls hl => ?_)
          suffices KL41 : ∀ (f : Nat) (j : Nat) (M4 : fl_M) (hj : j ≤ 6) (hby : ∀ k, k < j → M4.2.1 10 k = lN (α.1.1 k)) (he4 : fp (fun c _ => c ≠ 10) M3 M4) (hf4 : 6 + 1 ≤ j + f), ∀ (H : Heap) (locs : List Loc), va_P D vwCl (fmP cI cJ ad M4) H → va_S (fl_A 15 ad) s.heap H locs → ∀ (ls : Array Slot), lv_has ls 6 [(0, .ref (ad 0)), (1, .int x), (4, .int (nI i)), (5, .int (nI j))] → W p l e (headSpec wsX5_begin ({ frames := 2, cells := 0, slots := 0, locals := 53 } : Room)).room s m ([.ref (ad 0), .int x, .long sd] : List Value).toArray below meth c H locs 0 0 (MQ below (va_Qi (fun r M2 => r = (o_begin α x sd).1 ∧ fm_A (o_begin α x sd).2 M2) (fmQ D cI cJ ad) (fl_A 15 ad)) ([.ref (ad 0), .int x, .long sd] : List Value).toArray s 0 0 (fl_A 15 ad)) (F0 m 41 ls []) from KL41 (6 + 1) 0 M3 (Nat.zero_le _) (fun k hk => absurd hk (Nat.not_lt_zero k)) fp.rf (by omega) _ _ hP hS ls (lv_sub hl [1, 2, 3, 0] rfl)
          intro f
          induction f with
          | zero =>
            intro j M4 hj hby he4 hf4
            omega
          | succ f ih41 =>
            intro j M4 hj hby he4 hf4 H locs hP hS ls hl
            have hT4 : fm_T α.1 M4 := hB.2.2.2.2.2.eq he4 (fun c k a b => by omega)
            refine lv_iload hx hb dX5_begin_41 (lv_at hl 3 rfl) ?_
            refine lv_bipush (v := 6) hx hb dX5_begin_43 (by decide) ?_
            refine fl_ti (y := nI 6) rfl ?_
            refine lv_icmp_ge (tgt := 69) hx hb dX5_begin_45 (by decide) (fun hc45 => ?_) (fun hc45 => ?_)
            · have e45 : j = 6 := Nat.le_antisymm hj ((nI_leI (by omega) (by omega)).mp hc45)
              have hby6 : ∀ k, k < 6 → M4.2.1 10 k = lN (α.1.1 k) := e45 ▸ hby
              have hTs : a_sum α.1.1 6 < 2 ^ 31 := by have := a_row_le (B := 9) hT4.1; omega
              have hD4 : fm_D (a_dl (fun _ => α.1.1) (α.2.1.1, sd) i) M4 := hB.1.eq he4 (by decide) (by decide) (fun k => by decide)
              refine lv_aload_n hx hb dX5_begin_69 rfl (lv_at hl 0 rfl) ?_
              refine lv_bipush (v := 6) hx hb dX5_begin_70 (by decide) ?_
              refine fl_ti (y := nI 6) rfl ?_
              refine va_calli (va_runV (As := [.int (nI 6)]) (rest := []) ⟨hx, hb, hml, hown, hts⟩ (c_X5_drawBy l hJ M4 (a_dl (fun _ => α.1.1) (α.2.1.1, sd) i) 6 α.1.1 (by decide) hby6 hTs hD4) (cwV 1 hts gX5_begin_X5_drawBy rfl rfl rfl (by decide +kernel) ⟨Nat.le_of_ble_eq_true rfl, Nat.le_of_ble_eq_true rfl⟩) ⟨fl_blind, va_recv hK hP (ci := 7) (q0 := 0) rfl (fl_at (by decide) rfl), fl_pre hP hK hN⟩ rfl rfl hl.1 rfl (lv_room (Nat.le_of_ble_eq_true rfl)) dX5_begin_72 ⟨Nat.le_of_ble_eq_true rfl, Nat.le_of_ble_eq_true rfl⟩) hS (fun _ _ h => h) (fun _ h => h) (fun r72 M72 t H1 locs ht hvm hw hB hz1 hk1 hS => ?_)
              have hP : va_P D vwCl (fmP cI cJ ad M72) H1 := by rw [← ht]; exact hB
              clear hB hk1 hz1 hvm ht t
              obtain ⟨rfl, hD5, he72⟩ := hw
              have he5 : fp fm_PE M3 M72 := (he4.mono (fun c k hc => hc.1)).tr (he72.mono (fun c k hc => hc.2.2))
              by_cases h0 : a_sum α.1.1 6 = 0
              · have i0 : i = 0 := hz.resolve_right (fun z => z h0)
                have ho : o_begin α x sd = (-1000004, (α.1, (α.2.1.1, sd), a_r0)) := by
                  unfold o_begin
                  rw [if_neg hx0, hk3]
                  exact if_pos h0
                refine fl_ti (y := -1) (a_oI_none h0) ?_
                refine lv_istore (lv' := [(5, .int (-1)), (0, .ref (ad 0)), (1, .int x), (4, .int (nI i))]) hx hb dX5_begin_75 hl (by decide) rfl (fun ls hl => ?_)
                refine lv_iload hx hb dX5_begin_77 (lv_at hl 0 rfl) ?_
                refine lv_if_ge (tgt := 85) hx hb dX5_begin_79 (by decide) (fun hz => absurd hz (by decide)) (fun _ => ?_)
                refine lv_ldc (v := -1000004) hx hb hown (hts (.constant RX5 114 (-1000004)) (by decide +kernel)) dX5_begin_82 ?_
                exact W.iret (v := (-1000004)) hx hb hr (fun t ht hW => ⟨⟨(-1000004), M72, rfl, (by rw [ho]; exact ⟨rfl, fm_BG_L hB he5 (by rw [a_by_none h0, i0] at hD5; exact hD5)⟩), fl_qi ht hP⟩, hS.F ht⟩) hS.2.2 dX5_begin_84
              · obtain ⟨v, hv⟩ : ∃ v, v = a_st (fun _ => α.1.1) (α.2.1.1, sd) i := ⟨_, rfl⟩
                have hv6 : v < 6 := by rw [hv]; exact a_st_lt (W := fun _ => α.1.1) h0
                refine fl_ti (y := nI v) (by rw [hv]; exact a_oI_st (W := fun _ => α.1.1) h0) ?_
                refine lv_istore (lv' := [(5, .int (nI v)), (0, .ref (ad 0)), (1, .int x), (4, .int (nI i))]) hx hb dX5_begin_75 hl (by decide) rfl (fun ls hl => ?_)
                refine lv_iload hx hb dX5_begin_77 (lv_at hl 0 rfl) ?_
                refine lv_if_ge (tgt := 85) hx hb dX5_begin_79 (by decide) (fun hc79 => ?_) (fun hc79 => ?_)
                · refine lv_aload_n hx hb dX5_begin_85 rfl (lv_at hl 1 rfl) ?_
                  refine va_get (D := D) (ci := 7) (v := .ref (ad 6)) (C := RX5) (T := TX5) (N := 23) hx hb hts inX5 hown hK hP 0 (fl_at (by decide) rfl) rfl 9 (by decide) (hts (.fieldLink RX5 25 "ResampledRowsModel" "states" "[I") (by decide +kernel)) (fun _ h9 => h9) rfl dX5_begin_86 ?_
                  refine lv_iload hx hb dX5_begin_89 (lv_at hl 3 rfl) ?_
                  refine lv_iload hx hb dX5_begin_91 (lv_at hl 0 rfl) ?_
                  refine fl_ist (n := 16) (k := i) (x := nI v) hx hb hK hJ hP hS (fm_loc cI cJ ad) (fl_at (by decide) rfl) rfl rfl rfl (by omega) (by decide) dX5_begin_93 (fun H locs hP hS => ?_)
                  refine lv_aload_n hx hb dX5_begin_94 rfl (lv_at hl 1 rfl) ?_
                  refine va_get (D := D) (ci := 7) (v := .ref (ad 7)) (C := RX5) (T := TX5) (N := 23) hx hb hts inX5 hown hK hP 0 (fl_at (by decide) rfl) rfl 10 (by decide) (hts (.fieldLink RX5 28 "ResampledRowsModel" "weights" "[J") (by decide +kernel)) (fun _ h9 => h9) rfl dX5_begin_95 ?_
                  refine lv_iload hx hb dX5_begin_98 (lv_at hl 3 rfl) ?_
                  refine lv_lconst (v := 1) hx hb dX5_begin_100 (by decide) ?_
                  refine fl_tl (y := lN 1) rfl ?_
                  refine fl_jst (n := 16) (k := i) (x := lN 1) hx hb hK hJ hP hS (fm_loc cI cJ ad) (fl_at (by decide) rfl) rfl rfl rfl (by omega) (by decide) dX5_begin_101 (fun H locs hP hS => ?_)
                  refine lv_aload_n hx hb dX5_begin_102 rfl (lv_at hl 1 rfl) ?_
                  refine va_get (D := D) (ci := 7) (v := .ref (ad 8)) (C := RX5) (T := TX5) (N := 23) hx hb hts inX5 hown hK hP 0 (fl_at (by decide) rfl) rfl 11 (by decide) (hts (.fieldLink RX5 32 "ResampledRowsModel" "histories" "[I") (by decide +kernel)) (fun _ h9 => h9) rfl dX5_begin_103 ?_
                  refine lv_bipush (v := 31) hx hb dX5_begin_106 (by decide) ?_
                  refine lv_iload hx hb dX5_begin_108 (lv_at hl 3 rfl) ?_
                  refine lv_imul hx hb dX5_begin_110 ?_
                  refine fl_ti (y := nI (31 * i)) (pk_mul 31 i) ?_
                  refine lv_iload hx hb dX5_begin_111 (lv_at hl 0 rfl) ?_
                  refine fl_ist (n := 496) (k := (31 * i)) (x := nI v) hx hb hK hJ hP hS (fm_loc cI cJ ad) (fl_at (by decide) rfl) rfl rfl rfl (by omega) (by decide) dX5_begin_113 (fun H locs hP hS => ?_)
                  refine lv_iinc (v := nI (i + 1)) (lv' := [(4, .int (nI (i + 1))), (5, .int (nI v)), (0, .ref (ad 0)), (1, .int x)]) hx hb dX5_begin_114 hl (k := 3) rfl (fl_inc i) (by decide) rfl (fun ls hl => ?_)
                  refine lv_goto (tgt := 32) hx hb dX5_begin_117 (by decide) ?_
                  exact ih32 (i + 1) (fl_sI (fl_sJ (fl_sI M72 6 i (nI v)) 7 i (lN 1)) 8 (31 * i) (nI v)) (by omega) (fm_BG_s hB he5 h0 hv hD5) (Or.inr h0) (by omega) _ _ hP hS ls (lv_sub hl [2, 3, 0] rfl)
                · exact absurd (Int32.not_lt.mp (nI_pos (by omega))) hc79
            · have l45 : j < 6 := Nat.lt_of_not_le (fun q => hc45 ((nI_leI (by omega) (by omega)).mpr q))
              refine lv_aload_n hx hb dX5_begin_48 rfl (lv_at hl 0 rfl) ?_
              refine va_get (D := D) (ci := 7) (v := .ref (ad 10)) (C := RX5) (T := TX5) (N := 23) hx hb hts inX5 hown hK hP 0 (fl_at (by decide) rfl) rfl 18 (by decide) (hts (.fieldLink RX5 38 "ResampledRowsModel" "by" "[J") (by decide +kernel)) (fun _ h9 => h9) rfl dX5_begin_49 ?_
              refine lv_iload hx hb dX5_begin_52 (lv_at hl 3 rfl) ?_
              refine lv_aload_n hx hb dX5_begin_54 rfl (lv_at hl 0 rfl) ?_
              refine va_get (D := D) (ci := 7) (v := .ref (ad 1)) (C := RX5) (T := TX5) (N := 23) hx hb hts inX5 hown hK hP 0 (fl_at (by decide) rfl) rfl 1 (by decide) (hts (.fieldLink RX5 7 "ResampledRowsModel" "starts" "[I") (by decide +kernel)) (fun _ h9 => h9) rfl dX5_begin_55 ?_
              refine lv_iload hx hb dX5_begin_58 (lv_at hl 3 rfl) ?_
              refine fl_ild (n := 6) (k := j) hx hb hK hP (fl_at (by decide) rfl) rfl rfl (by omega) (by decide) dX5_begin_60 ?_
              refine fl_ti (y := nI (α.1.1 j)) ((hT4.1 j l45).1) ?_
              refine lv_i2l (v := (nI (α.1.1 j)).toInt64) hx hb dX5_begin_61 rfl ?_
              refine fl_tl (y := lN (α.1.1 j)) (nI_l (by have := (hT4.1 j l45).2; omega)) ?_
              refine fl_jst (n := 16) (k := j) (x := lN (α.1.1 j)) hx hb hK hJ hP hS (fm_loc cI cJ ad) (fl_at (by decide) rfl) rfl rfl rfl (by omega) (by decide) dX5_begin_62 (fun H locs hP hS => ?_)
              refine lv_iinc (v := nI (j + 1)) (lv' := [(5, .int (nI (j + 1))), (0, .ref (ad 0)), (1, .int x), (4, .int (nI i))]) hx hb dX5_begin_63 hl (k := 3) rfl (fl_inc j) (by decide) rfl (fun ls hl => ?_)
              refine lv_goto (tgt := 41) hx hb dX5_begin_66 (by decide) ?_
              exact ih41 (j + 1) (fl_sJ M4 10 j (lN (α.1.1 j))) (by omega) (fm_by hby rfl) (he4.sJ (fun z => z rfl) _) (by omega) _ _ hP hS ls (lv_sub hl [1, 2, 3, 0] rfl)
    · have ho := o_begin_out (α := α) (sd := sd) hx0 (fl_in1 hx0 hin)
      refine fl_ti (y := 0) (if_neg hin) ?_
      refine lv_if_ne (tgt := 20) hx hb dX5_begin_14 (by decide) (fun hz => absurd hz (by decide)) (fun _ => ?_)
      refine lv_ldc (v := -1000002) hx hb hown (hts (.constant RX5 92 (-1000002)) (by decide +kernel)) dX5_begin_17 ?_
      exact W.iret (v := (-1000002)) hx hb hr (fun t ht hW => ⟨⟨(-1000002), M, rfl, (by rw [ho]; exact ⟨rfl, hA⟩), fl_qi ht hP⟩, hS.F ht⟩) hS.2.2 dX5_begin_19
  · have hx0 : x < 0 := Int32.not_le.mp hc1
    refine lv_ldc (v := -1000010) hx hb hown (hts (.constant RX5 109 (-1000010)) (by decide +kernel)) dX5_begin_4 ?_
    exact W.iret (v := (-1000010)) hx hb hr (fun t ht hW => ⟨⟨(-1000010), M, rfl, (by have ho : o_begin α x sd = ((-1000010), α) := (by unfold o_begin; first | (rw [if_pos hx0] <;> rfl) | (simp only [if_pos hx0])); rw [ho]; exact ⟨rfl, hA⟩), fl_qi ht hP⟩, hS.F ht⟩) hS.2.2 dX5_begin_6

theorem st_u0 {u : Int32} {c : Prop} (ic : Decidable c) {q : Nat → Bool} {i : Nat} (hu : u = (if c ∧ a_all q i = true then 1 else 0)) (h : u = 0) : (0 : Int32) = (if c ∧ a_all q (i + 1) = true then 1 else 0) := by
  rw [if_neg]
  rintro ⟨h1, h2⟩
  have h3 : (a_all q i && q i) = true := h2
  rw [Bool.and_eq_true] at h3
  rw [hu, if_pos ⟨h1, h3.1⟩] at h
  exact absurd h (by decide)
theorem st_u1 {u : Int32} {c : Prop} (ic : Decidable c) {q : Nat → Bool} {i : Nat} (hu : u = (if c ∧ a_all q i = true then 1 else 0)) (h : ¬ u = 0) (hq : q i = true) : (1 : Int32) = (if c ∧ a_all q (i + 1) = true then 1 else 0) := by
  by_cases hc : c ∧ a_all q i = true
  · rw [if_pos ⟨hc.1, (show (a_all q i && q i) = true by rw [hc.2, hq]; rfl)⟩]
  · rw [if_neg hc] at hu
    exact absurd hu h
theorem st_u2 {c : Prop} (ic : Decidable c) {q : Nat → Bool} {i : Nat} (hq : q i = false) : (0 : Int32) = (if c ∧ a_all q (i + 1) = true then 1 else 0) := by
  rw [if_neg]
  rintro ⟨h1, h2⟩
  have h3 : (a_all q i && q i) = true := h2
  rw [hq, Bool.and_false] at h3
  exact absurd h3 (by decide)
theorem fm_rp {f : Nat → Int32} {w : Nat → Nat} {n B : Nat} (h : fl_row f w n B) {v : Nat} (hv : v = w n) (hB : v < B) : fl_row (upd f n (nI v)) w (n + 1) B := h.push hv hB
theorem fm_step_A {α : a_A} {g : Nat} {M3 M6 : fl_M} {st wt : Nat → Nat} (h1 : fm_T α.1 M3) (hR : fm_R α.2.2 M3) (hD : fm_D (a_dl (fun k => α.1.2.1 (r_st α.2.2 k)) α.2.1 (r_n α.2.2)) M3) (hsp : r_sp α.2.2 < 30) (he : fp (fun c _ => c ≠ 6 ∧ c ≠ 7 ∧ c ≠ 8) (fl_sI M3 0 12 (nI (r_sp α.2.2 + 1))) M6) (hs : fl_row (M6.1 6) st (r_n α.2.2) 6) (hw : fl_rowJ (M6.2.1 7) wt (r_n α.2.2) 1000001) (hh : ∀ k, k < r_n α.2.2 → M6.1 8 (31 * k + (r_sp α.2.2 + 1)) = nI (st k)) (ho : ∀ k z, z < 31 → z ≠ r_sp α.2.2 + 1 → M6.1 8 (31 * k + z) = M3.1 8 (31 * k + z)) : fm_T α.1 M6 ∧ fm_D (a_dl (fun k => α.1.2.1 (r_st α.2.2 k)) α.2.1 (r_n α.2.2)) M6 ∧ fm_R (r_n α.2.2, r_sp α.2.2 + 1, r_an α.2.2, r_kp α.2.2, r_mu α.2.2, st, wt, (fun k i => if i = r_sp α.2.2 + 1 then st k else r_hi α.2.2 k i), r_og α.2.2) M6 := by
  obtain ⟨⟨h4, h5⟩, ⟨h6, h7⟩, ⟨h8, h9⟩, ⟨h10, h11⟩, h12, h13, h14, h15, h16, h17⟩ := hR
  have e0 : ∀ k, M6.1 0 k = (fl_sI M3 0 12 (nI (r_sp α.2.2 + 1))).1 0 k := fun k => (he 0 k (by omega)).1
  have e9 : M6.1 9 = M3.1 9 := funext fun k => (he 9 k (by omega)).1
  refine ⟨?_, ?_, ⟨h4, (e0 7).trans h5⟩, ⟨(show r_sp α.2.2 + 1 ≤ 30 by omega), (e0 12).trans rfl⟩, ⟨h8, (e0 13).trans h9⟩, ⟨(e0 14).trans h10, h11⟩, fun hn => by rw [(he 0 15 (by omega)).2.2 rfl]; exact h12 hn, hs, hw, fun k hk i hi => ?_, fun ha => ⟨(e0 17).trans (h16 ha).1, by rw [e9]; exact (h16 ha).2⟩, fun ha => (e0 17).trans (h17 ha)⟩
  · exact fm_T.eq (P := fun c _ => 1 ≤ c ∧ c ≤ 4) h1 (fp.tr (M2 := fl_sI M3 0 12 (nI (r_sp α.2.2 + 1))) (fp.rf.sI (by omega) _) (he.mono (fun c k hc => by omega))) (fun c k a b => ⟨a, b⟩)
  · exact hD.eq (P := fun c k => c = 5 ∨ (c = 0 ∧ (k = 6 ∨ k = 8))) (fp.tr (M2 := fl_sI M3 0 12 (nI (r_sp α.2.2 + 1))) (fp.rf.sI (by omega) _) (he.mono (fun c k hc => by omega))) (by decide) (by decide) (fun k => Or.inl rfl)
  · have hk' : k < r_n α.2.2 := hk
    have hi' : i < r_sp α.2.2 + 1 + 1 := hi
    show M6.1 8 (31 * k + i) = nI (if i = r_sp α.2.2 + 1 then st k else r_hi α.2.2 k i) ∧ (if i = r_sp α.2.2 + 1 then st k else r_hi α.2.2 k i) < 6
    by_cases e : i = r_sp α.2.2 + 1
    · subst e
      rw [if_pos rfl]
      exact ⟨hh k hk', (hs k hk').2⟩
    · rw [if_neg e, ho k i (by omega) e]
      exact h15 k hk' i (by omega)
theorem fm_A.pe {α : a_A} {M M3 : fl_M} (h : fm_A α M) (he : fp fm_PE M M3) {d : a_D} (hD : fm_D d M3) : fm_A (α.1, d, α.2.2) M3 := by
  obtain ⟨h1, h2, h3, h4⟩ := h
  exact ⟨h1.eq he (fun c k a b => by unfold fm_PE fm_PD; omega), hD.1, fun _ => hD.2, h4.eq he (fun k a b c => by unfold fm_PE fm_PD; omega) (fun c k a b => by unfold fm_PE fm_PD; omega)⟩

set_option maxHeartbeats 4000000 in
set_option maxRecDepth 100000 in
theorem c_X5_step (l : Launch) {D : va_G} {cI cJ cII : ClassId} {ad : Nat → Nat} (hJ : fl_inj 15 ad) (M : fl_M) (α : a_A) (hA : fm_A α M) (x y : Int32) : Met l yX5_step wsX5_step ({ frames := 2, cells := 0, slots := 0, locals := 53 } : Room) (fmPc D cI cJ cII ad M [.ref (ad 0), .int x, .int y]) (va_Qi (fun r M2 => r = (o_step α x y).1 ∧ fm_A (o_step α x y).2 M2) (fmQ D cI cJ ad) (fl_A 15 ad)) 0 0 (fl_A 15 ad) := by
  refine Met.ofW (cc := cX5_step) (maxL := 6) (ret := (some .int)) (by decide) rfl ?_
  intro p e s m args below meth c s₁ B hml hv
  obtain ⟨rfl, hP, hK, hN⟩ := hv
  have hx := B.exec
  have hb := B.bytes
  have hr := B.returns
  have hts := atoms_spec (ws := wsX5_step) B.pre
  have hown : s.vm.findClass RX5 = some m.cls := findClass_of_methodNamed B.named
  have hlocks := B.notSynchronized
  have inX5 : ∀ w ∈ u_ws RX5 TX5 23, w ∈ wsX5_step := by decide +kernel
  have hS : va_S (fl_A 15 ad) s.heap s.heap [] := va_S.rf
  have hl := lv_entry ([.ref (ad 0), .int x, .int y] : List Value) (n := 6) (Nat.le_of_ble_eq_true rfl)
  rw [lg_entry_eq]
  generalize (lg_sl ([.ref (ad 0), .int x, .int y] : List Value) ++ List.replicate (6 - (lg_sl ([.ref (ad 0), .int x, .int y] : List Value)).length) Slot.unset).toArray = ls at hl ⊢
  have hl : lv_has ls 6 [(0, .ref (ad 0)), (1, .int x), (2, .int y)] := hl
  obtain ⟨hT, hQ, hsd, hR⟩ := id hA
  refine lv_aload_n hx hb dX5_step_0 rfl (lv_at hl 0 rfl) ?_
  refine va_get (D := D) (ci := 7) (v := .int (M.1 0 7)) (C := RX5) (T := TX5) (N := 23) hx hb hts inX5 hown hK hP 0 (fl_at (by decide) rfl) rfl 7 (by decide) (hts (.fieldLink RX5 66 "ResampledRowsModel" "rows" "I") (by decide +kernel)) (fun _ h9 => h9) rfl dX5_step_1 ?_
  refine fl_ti (y := nI (r_n α.2.2)) hR.1.2 ?_
  refine lv_if_ne (tgt := 10) hx hb dX5_step_4 (by decide) (fun hc4 => ?_) (fun hc4 => ?_)
  · have hn0 : ¬ r_n α.2.2 = 0 := fun z => hc4 (by rw [z]; rfl)
    refine lv_iload_n hx hb dX5_step_10 rfl (lv_at hl 1 rfl) ?_
    refine lv_iconst (v := 0) hx hb dX5_step_11 (by decide) ?_
    refine lv_iconst (v := 4) hx hb dX5_step_12 (by decide) ?_
    refine va_calli (va_runS (As := [.int x, .int 0, .int 4]) (rest := []) ⟨hx, hb, hml, hown, hts⟩ (c_X5_in l hJ M x 0 4) (va_cwS 3 hts gX5_step_X5_in rfl rfl rfl (by decide +kernel) ⟨Nat.le_of_ble_eq_true rfl, Nat.le_of_ble_eq_true rfl⟩) ⟨fl_blind, fl_pre hP hK hN⟩ rfl rfl hl.1 rfl (lv_room (Nat.le_of_ble_eq_true rfl)) dX5_step_13 ⟨Nat.le_of_ble_eq_true rfl, Nat.le_of_ble_eq_true rfl⟩) hS (fun _ _ h => h) (fun _ h => h) (fun r13 M13 t H1 locs ht hvm hw hB hz1 hk1 hS => ?_)
    have hP : va_P D vwCl (fmP cI cJ ad M13) H1 := by rw [← ht]; exact hB
    clear hB hk1 hz1 hvm ht t
    obtain ⟨rfl, hE⟩ := hw
    rw [hE] at hP
    refine fl_ti (y := a_b (a_ix x 5)) (a_in0 (n := 4) (by decide)) ?_
    rcases q1 : a_ix x 5 with _ | g
    · refine fl_ti (y := 0) (by first | rfl | (rw [q1]; rfl)) ?_
      refine lv_if_ne (tgt := 22) hx hb dX5_step_16 (by decide) (fun hz => absurd hz (by decide)) (fun _ => ?_)
      refine lv_ldc (v := -1000001) hx hb hown (hts (.constant RX5 91 (-1000001)) (by decide +kernel)) dX5_step_19 ?_
      exact W.iret (v := (-1000001)) hx hb hr (fun t ht hW => ⟨⟨(-1000001), M, rfl, (by have ho : o_step α x y = ((-1000001), α) := (by unfold o_step; first | (rw [if_neg hn0, q1] <;> rfl) | (simp only [if_neg hn0, q1])); rw [ho]; exact ⟨rfl, hA⟩), fl_qi ht hP⟩, hS.F ht⟩) hS.2.2 dX5_step_21
    · obtain ⟨q1_1, q1_2, q1_3⟩ := a_ix_some q1
      refine fl_ti (y := 1) (by first | rfl | (rw [q1]; rfl)) ?_
      refine lv_if_ne (tgt := 22) hx hb dX5_step_16 (by decide) (fun _ => ?_) (fun hz => absurd hz (by decide))
      refine lv_iload_n hx hb dX5_step_22 rfl (lv_at hl 2 rfl) ?_
      refine lv_iconst (v := 0) hx hb dX5_step_23 (by decide) ?_
      refine lv_iconst (v := 3) hx hb dX5_step_24 (by decide) ?_
      refine va_calli (va_runS (As := [.int y, .int 0, .int 3]) (rest := []) ⟨hx, hb, hml, hown, hts⟩ (c_X5_in l hJ M y 0 3) (va_cwS 3 hts gX5_step_X5_in rfl rfl rfl (by decide +kernel) ⟨Nat.le_of_ble_eq_true rfl, Nat.le_of_ble_eq_true rfl⟩) ⟨fl_blind, fl_pre hP hK hN⟩ rfl rfl hl.1 rfl (lv_room (Nat.le_of_ble_eq_true rfl)) dX5_step_25 ⟨Nat.le_of_ble_eq_true rfl, Nat.le_of_ble_eq_true rfl⟩) hS (fun _ _ h => h) (fun _ h => h) (fun r25 M25 t H1 locs ht hvm hw hB hz1 hk1 hS => ?_)
      have hP : va_P D vwCl (fmP cI cJ ad M25) H1 := by rw [← ht]; exact hB
      clear hB hk1 hz1 hvm ht t
      obtain ⟨rfl, hE⟩ := hw
      rw [hE] at hP
      refine fl_ti (y := a_b (a_ix y 4)) (a_in0 (n := 3) (by decide)) ?_
      rcases q2 : a_ix y 4 with _ | b
      · refine fl_ti (y := 0) (by first | rfl | (rw [q2]; rfl)) ?_
        refine lv_if_ne (tgt := 34) hx hb dX5_step_28 (by decide) (fun hz => absurd hz (by decide)) (fun _ => ?_)
        refine lv_ldc (v := -1000002) hx hb hown (hts (.constant RX5 92 (-1000002)) (by decide +kernel)) dX5_step_31 ?_
        exact W.iret (v := (-1000002)) hx hb hr (fun t ht hW => ⟨⟨(-1000002), M, rfl, (by have ho : o_step α x y = ((-1000002), α) := (by unfold o_step; first | (rw [if_neg hn0, q1, q2] <;> rfl) | (simp only [if_neg hn0, q1, q2])); rw [ho]; exact ⟨rfl, hA⟩), fl_qi ht hP⟩, hS.F ht⟩) hS.2.2 dX5_step_33
      · obtain ⟨q2_1, q2_2, q2_3⟩ := a_ix_some q2
        refine fl_ti (y := 1) (by first | rfl | (rw [q2]; rfl)) ?_
        refine lv_if_ne (tgt := 34) hx hb dX5_step_28 (by decide) (fun _ => ?_) (fun hz => absurd hz (by decide))
        refine lv_aload_n hx hb dX5_step_34 rfl (lv_at hl 0 rfl) ?_
        refine va_get (D := D) (ci := 7) (v := .int (M.1 0 12)) (C := RX5) (T := TX5) (N := 23) hx hb hts inX5 hown hK hP 0 (fl_at (by decide) rfl) rfl 12 (by decide) (hts (.fieldLink RX5 69 "ResampledRowsModel" "steps" "I") (by decide +kernel)) (fun _ h9 => h9) rfl dX5_step_35 ?_
        refine fl_ti (y := nI (r_sp α.2.2)) hR.2.1.2 ?_
        refine lv_bipush (v := 30) hx hb dX5_step_38 (by decide) ?_
        suffices KJ48 : ∀ (u0 : Int32) (hj48 : u0 = (if r_sp α.2.2 < 30 then 1 else 0)), W p l e (headSpec wsX5_step ({ frames := 2, cells := 0, slots := 0, locals := 53 } : Room)).room s m ([.ref (ad 0), .int x, .int y] : List Value).toArray below meth c H1 locs 0 0 (MQ below (va_Qi (fun r M2 => r = (o_step α x y).1 ∧ fm_A (o_step α x y).2 M2) (fmQ D cI cJ ad) (fl_A 15 ad)) ([.ref (ad 0), .int x, .int y] : List Value).toArray s 0 0 (fl_A 15 ad)) (F0 m 48 ls (.int u0 :: [])) from (by
          refine lv_icmp_ge (tgt := 47) hx hb dX5_step_40 (by decide) (fun hc40 => ?_) (fun hc40 => ?_)
          · have hs30 : ¬ r_sp α.2.2 < 30 := Nat.not_lt.mpr ((nI_leI (a := 30) (by decide) (by have := hR.2.1.1; omega)).mp hc40)
            refine lv_iconst (v := 0) hx hb dX5_step_47 (by decide) ?_
            exact KJ48 _ ((if_neg hs30).symm)
          · have hs30 : r_sp α.2.2 < 30 := Nat.lt_of_not_le (fun z => hc40 ((nI_leI (a := 30) (by decide) (by have := hR.2.1.1; omega)).mpr z))
            refine lv_iconst (v := 1) hx hb dX5_step_43 (by decide) ?_
            refine lv_goto (tgt := 48) hx hb dX5_step_44 (by decide) ?_
            exact KJ48 _ ((if_pos hs30).symm))
        intro u0 hj48
        refine lv_istore_n (lv' := [(3, .int u0), (0, .ref (ad 0)), (1, .int x), (2, .int y)]) hx hb dX5_step_48 rfl hl (by decide) rfl (fun ls hl => ?_)
        refine lv_iconst (v := 0) hx hb dX5_step_49 (by decide) ?_
        refine lv_istore (lv' := [(4, .int 0), (3, .int u0), (0, .ref (ad 0)), (1, .int x), (2, .int y)]) hx hb dX5_step_50 hl (by decide) rfl (fun ls hl => ?_)
        suffices KL52 : ∀ (f : Nat) (i : Nat) (u : Int32) (hi : i ≤ r_n α.2.2) (hu : u = (if r_sp α.2.2 < 30 ∧ a_all (fun k => α.1.2.2.2 (r_st α.2.2 k) == b) i = true then 1 else 0)) (hf : r_n α.2.2 + 1 ≤ i + f), ∀ (H : Heap) (locs : List Loc), va_P D vwCl (fmP cI cJ ad M) H → va_S (fl_A 15 ad) s.heap H locs → ∀ (ls : Array Slot), lv_has ls 6 [(0, .ref (ad 0)), (1, .int x), (2, .int y), (3, .int u), (4, .int (nI i))] → W p l e (headSpec wsX5_step ({ frames := 2, cells := 0, slots := 0, locals := 53 } : Room)).room s m ([.ref (ad 0), .int x, .int y] : List Value).toArray below meth c H locs 0 0 (MQ below (va_Qi (fun r M2 => r = (o_step α x y).1 ∧ fm_A (o_step α x y).2 M2) (fmQ D cI cJ ad) (fl_A 15 ad)) ([.ref (ad 0), .int x, .int y] : List Value).toArray s 0 0 (fl_A 15 ad)) (F0 m 52 ls []) from KL52 (r_n α.2.2 + 1) 0 u0 (Nat.zero_le _) (by rw [hj48]; by_cases h : r_sp α.2.2 < 30 <;> simp [h, a_all]) (by omega) _ _ hP hS ls (lv_sub hl [2, 3, 4, 1, 0] rfl)
        intro f
        induction f with
        | zero =>
          intro i u hi hu hf
          omega
        | succ f ih52 =>
          intro i u hi hu hf H locs hP hS ls hl
          refine lv_iload hx hb dX5_step_52 (lv_at hl 4 rfl) ?_
          refine lv_aload_n hx hb dX5_step_54 rfl (lv_at hl 0 rfl) ?_
          refine va_get (D := D) (ci := 7) (v := .int (M.1 0 7)) (C := RX5) (T := TX5) (N := 23) hx hb hts inX5 hown hK hP 0 (fl_at (by decide) rfl) rfl 7 (by decide) (hts (.fieldLink RX5 66 "ResampledRowsModel" "rows" "I") (by decide +kernel)) (fun _ h9 => h9) rfl dX5_step_55 ?_
          refine fl_ti (y := nI (r_n α.2.2)) hR.1.2 ?_
          have hn16 := hR.1.1
          refine lv_icmp_ge (tgt := 93) hx hb dX5_step_58 (by decide) (fun hc58 => ?_) (fun hc58 => ?_)
          · have e58 : i = r_n α.2.2 := Nat.le_antisymm hi ((nI_leI (by omega) (by omega)).mp hc58)
            have huN : u = (if r_sp α.2.2 < 30 ∧ a_all (fun k => α.1.2.2.2 (r_st α.2.2 k) == b) (r_n α.2.2) = true then 1 else 0) := e58 ▸ hu
            refine lv_iload_n hx hb dX5_step_93 rfl (lv_at hl 3 rfl) ?_
            refine lv_if_ne (tgt := 100) hx hb dX5_step_94 (by decide) (fun hc94 => ?_) (fun hc94 => ?_)
            · have hall2 : r_sp α.2.2 < 30 ∧ a_all (fun k => α.1.2.2.2 (r_st α.2.2 k) == b) (r_n α.2.2) = true := Classical.byContradiction (fun z => hc94 (huN.trans (if_neg z)))
              obtain ⟨hs30, hall⟩ := hall2
              have hostep : o_step α x y = ((a_go α.1.2.1 (α.1.2.2.1 g) α.2.1 α.2.2).1, (α.1, (a_go α.1.2.1 (α.1.2.2.1 g) α.2.1 α.2.2).2.1, (a_go α.1.2.1 (α.1.2.2.1 g) α.2.1 α.2.2).2.2)) := by
                unfold o_step
                simp only [if_neg hn0, q1, q2, if_pos hs30, if_pos hall]
              refine lv_iconst (v := 0) hx hb dX5_step_100 (by decide) ?_
              refine lv_istore (lv' := [(4, .int 0), (0, .ref (ad 0)), (1, .int x), (2, .int y), (3, .int u)]) hx hb dX5_step_101 hl (by decide) rfl (fun ls hl => ?_)
              suffices KL103 : ∀ (f : Nat) (r : Nat) (M3 : fl_M) (hr3 : r ≤ r_n α.2.2) (hD : fm_D (a_dl (fun k => α.1.2.1 (r_st α.2.2 k)) α.2.1 r) M3) (hrow : fl_row (M3.1 11) (a_st (fun k => α.1.2.1 (r_st α.2.2 k)) α.2.1) r 6) (hnf : a_find (fun i => a_sum (α.1.2.1 (r_st α.2.2 i)) 6) 0 r = none) (he : fp fm_PE M M3) (hf3 : r_n α.2.2 + 1 ≤ r + f), ∀ (H : Heap) (locs : List Loc), va_P D vwCl (fmP cI cJ ad M3) H → va_S (fl_A 15 ad) s.heap H locs → ∀ (ls : Array Slot), lv_has ls 6 [(0, .ref (ad 0)), (1, .int x), (2, .int y), (4, .int (nI r))] → W p l e (headSpec wsX5_step ({ frames := 2, cells := 0, slots := 0, locals := 53 } : Room)).room s m ([.ref (ad 0), .int x, .int y] : List Value).toArray below meth c H locs 0 0 (MQ below (va_Qi (fun r M2 => r = (o_step α x y).1 ∧ fm_A (o_step α x y).2 M2) (fmQ D cI cJ ad) (fl_A 15 ad)) ([.ref (ad 0), .int x, .int y] : List Value).toArray s 0 0 (fl_A 15 ad)) (F0 m 103 ls []) from KL103 (r_n α.2.2 + 1) 0 M (Nat.zero_le _) (⟨hQ, hsd hn0⟩) (fun k hk => absurd hk (Nat.not_lt_zero k)) rfl fp.rf (by omega) _ _ hP hS ls (lv_sub hl [1, 2, 3, 0] rfl)
              intro f
              induction f with
              | zero =>
                intro r M3 hr3 hD hrow hnf he hf3
                omega
              | succ f ih103 =>
                intro r M3 hr3 hD hrow hnf he hf3 H locs hP hS ls hl
                have hA3 := hA.pe he hD
                have hR3 : fm_R α.2.2 M3 := hA3.2.2.2
                have hT3 : fm_T α.1 M3 := hA3.1
                refine lv_iload hx hb dX5_step_103 (lv_at hl 3 rfl) ?_
                refine lv_aload_n hx hb dX5_step_105 rfl (lv_at hl 0 rfl) ?_
                refine va_get (D := D) (ci := 7) (v := .int (M3.1 0 7)) (C := RX5) (T := TX5) (N := 23) hx hb hts inX5 hown hK hP 0 (fl_at (by decide) rfl) rfl 7 (by decide) (hts (.fieldLink RX5 66 "ResampledRowsModel" "rows" "I") (by decide +kernel)) (fun _ h9 => h9) rfl dX5_step_106 ?_
                refine fl_ti (y := nI (r_n α.2.2)) hR3.1.2 ?_
                refine lv_icmp_ge (tgt := 186) hx hb dX5_step_109 (by decide) (fun hc109 => ?_) (fun hc109 => ?_)
                · have e109 : r = r_n α.2.2 := Nat.le_antisymm hr3 ((nI_leI (by omega) (by omega)).mp hc109)
                  have hrowN : fl_row (M3.1 11) (a_st (fun k => α.1.2.1 (r_st α.2.2 k)) α.2.1) (r_n α.2.2) 6 := e109 ▸ hrow
                  have hnfN : a_find (fun i => a_sum (α.1.2.1 (r_st α.2.2 i)) 6) 0 (r_n α.2.2) = none := e109 ▸ hnf
                  have hDN : fm_D (a_dl (fun k => α.1.2.1 (r_st α.2.2 k)) α.2.1 (r_n α.2.2)) M3 := e109 ▸ hD
                  refine lv_iconst (v := 0) hx hb dX5_step_186 (by decide) ?_
                  refine lv_istore (lv' := [(4, .int 0), (0, .ref (ad 0)), (1, .int x), (2, .int y)]) hx hb dX5_step_187 hl (by decide) rfl (fun ls hl => ?_)
                  suffices KL189 : ∀ (f : Nat) (k3 : Nat) (hk3 : k3 ≤ r_n α.2.2) (hal : a_all (fun k => decide (r_wt α.2.2 k * α.1.2.2.1 g (a_st (fun k => α.1.2.1 (r_st α.2.2 k)) α.2.1 k) ≤ 1000000)) k3 = true) (hf5 : r_n α.2.2 + 1 ≤ k3 + f), ∀ (H : Heap) (locs : List Loc), va_P D vwCl (fmP cI cJ ad M3) H → va_S (fl_A 15 ad) s.heap H locs → ∀ (ls : Array Slot), lv_has ls 6 [(0, .ref (ad 0)), (1, .int x), (2, .int y), (4, .int (nI k3))] → W p l e (headSpec wsX5_step ({ frames := 2, cells := 0, slots := 0, locals := 53 } : Room)).room s m ([.ref (ad 0), .int x, .int y] : List Value).toArray below meth c H locs 0 0 (MQ below (va_Qi (fun r M2 => r = (o_step α x y).1 ∧ fm_A (o_step α x y).2 M2) (fmQ D cI cJ ad) (fl_A 15 ad)) ([.ref (ad 0), .int x, .int y] : List Value).toArray s 0 0 (fl_A 15 ad)) (F0 m 189 ls []) from KL189 (r_n α.2.2 + 1) 0 (Nat.zero_le _) rfl (by omega) _ _ hP hS ls (lv_sub hl [1, 2, 3, 0] rfl)
                  intro f
                  induction f with
                  | zero =>
                    intro k3 hk3 hal hf5
                    omega
                  | succ f ih189 =>
                    intro k3 hk3 hal hf5 H locs hP hS ls hl
                    refine lv_iload hx hb dX5_step_189 (lv_at hl 3 rfl) ?_
                    refine lv_aload_n hx hb dX5_step_191 rfl (lv_at hl 0 rfl) ?_
                    refine va_get (D := D) (ci := 7) (v := .int (M3.1 0 7)) (C := RX5) (T := TX5) (N := 23) hx hb hts inX5 hown hK hP 0 (fl_at (by decide) rfl) rfl 7 (by decide) (hts (.fieldLink RX5 66 "ResampledRowsModel" "rows" "I") (by decide +kernel)) (fun _ h9 => h9) rfl dX5_step_192 ?_
                    refine fl_ti (y := nI (r_n α.2.2)) hR3.1.2 ?_
                    refine lv_icmp_ge (tgt := 240) hx hb dX5_step_195 (by decide) (fun hc195 => ?_) (fun hc195 => ?_)
                    · have e195 : k3 = r_n α.2.2 := Nat.le_antisymm hk3 ((nI_leI (by omega) (by omega)).mp hc195)
                      have halN : a_all (fun k => decide (r_wt α.2.2 k * α.1.2.2.1 g (a_st (fun k => α.1.2.1 (r_st α.2.2 k)) α.2.1 k) ≤ 1000000)) (r_n α.2.2) = true := e195 ▸ hal
                      refine lv_aload_n hx hb dX5_step_240 rfl (lv_at hl 0 rfl) ?_
                      refine lv_dup hx hb dX5_step_241 rfl ?_
                      refine va_get (D := D) (ci := 7) (v := .int (M3.1 0 12)) (C := RX5) (T := TX5) (N := 23) hx hb hts inX5 hown hK hP 0 (fl_at (by decide) rfl) rfl 12 (by decide) (hts (.fieldLink RX5 69 "ResampledRowsModel" "steps" "I") (by decide +kernel)) (fun _ h9 => h9) rfl dX5_step_242 ?_
                      refine fl_ti (y := nI (r_sp α.2.2)) hR3.2.1.2 ?_
                      refine lv_iconst (v := 1) hx hb dX5_step_245 (by decide) ?_
                      refine lv_iadd hx hb dX5_step_246 ?_
                      refine fl_ti (y := nI (r_sp α.2.2 + 1)) (nI_1 _) ?_
                      refine fl_put (ci := 7) (ty := .int) (v := .int (nI (r_sp α.2.2 + 1))) (C := RX5) (T := TX5) (Nf := 23) hx hb hts inX5 tyX5 tyX5_ok nmX5 hown hK hJ hP hS 0 (by decide) (fl_sI M3 0 12 (nI (r_sp α.2.2 + 1))) rfl rfl 12 (by decide) (hts (.fieldLink RX5 69 "ResampledRowsModel" "steps" "I") (by decide +kernel)) (fun _ h9 => h9) rfl (by decide +kernel) rfl rfl (Nat.le_of_ble_eq_true rfl) rfl (fl_sI_o (fm_loc cI cJ ad) _ _ _ _) dX5_step_247 (fun H locs hP hS => ?_)
                      refine lv_iconst (v := 0) hx hb dX5_step_250 (by decide) ?_
                      refine lv_istore (lv' := [(4, .int 0), (0, .ref (ad 0)), (1, .int x), (2, .int y)]) hx hb dX5_step_251 hl (by decide) rfl (fun ls hl => ?_)
                      suffices KL253 : ∀ (f : Nat) (k4 : Nat) (M6 : fl_M) (hk4 : k4 ≤ r_n α.2.2) (he6 : fp (fun c _ => c ≠ 6 ∧ c ≠ 7 ∧ c ≠ 8) (fl_sI M3 0 12 (nI (r_sp α.2.2 + 1))) M6) (hs : fl_row (M6.1 6) (a_st (fun k => α.1.2.1 (r_st α.2.2 k)) α.2.1) k4 6) (hw : fl_rowJ (M6.2.1 7) (fun k => r_wt α.2.2 k * α.1.2.2.1 g (a_st (fun k => α.1.2.1 (r_st α.2.2 k)) α.2.1 k)) k4 1000001) (hwo : ∀ k, k4 ≤ k → M6.2.1 7 k = M3.2.1 7 k) (hh : ∀ k, k < k4 → M6.1 8 (31 * k + (r_sp α.2.2 + 1)) = nI (a_st (fun k => α.1.2.1 (r_st α.2.2 k)) α.2.1 k)) (hho : ∀ k z, z < 31 → z ≠ r_sp α.2.2 + 1 → M6.1 8 (31 * k + z) = M3.1 8 (31 * k + z)) (hf6 : r_n α.2.2 + 1 ≤ k4 + f), ∀ (H : Heap) (locs : List Loc), va_P D vwCl (fmP cI cJ ad M6) H → va_S (fl_A 15 ad) s.heap H locs → ∀ (ls : Array Slot), lv_has ls 6 [(0, .ref (ad 0)), (1, .int x), (2, .int y), (4, .int (nI k4))] → W p l e (headSpec wsX5_step ({ frames := 2, cells := 0, slots := 0, locals := 53 } : Room)).room s m ([.ref (ad 0), .int x, .int y] : List Value).toArray below meth c H locs 0 0 (MQ below (va_Qi (fun r M2 => r = (o_step α x y).1 ∧ fm_A (o_step α x y).2 M2) (fmQ D cI cJ ad) (fl_A 15 ad)) ([.ref (ad 0), .int x, .int y] : List Value).toArray s 0 0 (fl_A 15 ad)) (F0 m 253 ls []) from KL253 (r_n α.2.2 + 1) 0 (fl_sI M3 0 12 (nI (r_sp α.2.2 + 1))) (Nat.zero_le _) fp.rf (fun k hk => absurd hk (Nat.not_lt_zero k)) (fun k hk => absurd hk (Nat.not_lt_zero k)) (fun k _ => rfl) (fun k hk => absurd hk (Nat.not_lt_zero k)) (fun k z _ _ => rfl) (by omega) _ _ hP hS ls (lv_sub hl [1, 2, 3, 0] rfl)
                      intro f
                      induction f with
                      | zero =>
                        intro k4 M6 hk4 he6 hs hw hwo hh hho hf6
                        omega
                      | succ f ih253 =>
                        intro k4 M6 hk4 he6 hs hw hwo hh hho hf6 H locs hP hS ls hl
                        have hn6 : M6.1 0 7 = nI (r_n α.2.2) := (he6 0 7 (by decide)).1.trans hR3.1.2
                        have hs6 : M6.1 0 12 = nI (r_sp α.2.2 + 1) := (he6 0 12 (by decide)).1
                        have h116 : ∀ k, M6.1 11 k = M3.1 11 k := fun k => (he6 11 k ⟨by decide, by decide, by decide⟩).1
                        have hT6 : ∀ k, M6.1 3 k = M3.1 3 k := fun k => (he6 3 k ⟨by decide, by decide, by decide⟩).1
                        refine lv_iload hx hb dX5_step_253 (lv_at hl 3 rfl) ?_
                        refine lv_aload_n hx hb dX5_step_255 rfl (lv_at hl 0 rfl) ?_
                        refine va_get (D := D) (ci := 7) (v := .int (M6.1 0 7)) (C := RX5) (T := TX5) (N := 23) hx hb hts inX5 hown hK hP 0 (fl_at (by decide) rfl) rfl 7 (by decide) (hts (.fieldLink RX5 66 "ResampledRowsModel" "rows" "I") (by decide +kernel)) (fun _ h9 => h9) rfl dX5_step_256 ?_
                        refine fl_ti (y := nI (r_n α.2.2)) hn6 ?_
                        refine lv_icmp_ge (tgt := 332) hx hb dX5_step_259 (by decide) (fun hc259 => ?_) (fun hc259 => ?_)
                        · have e259 : k4 = r_n α.2.2 := Nat.le_antisymm hk4 ((nI_leI (by omega) (by omega)).mp hc259)
                          have hgo : (a_go α.1.2.1 (α.1.2.2.1 g) α.2.1 α.2.2) = (nI (r_sp α.2.2 + 1), a_dl (fun k => α.1.2.1 (r_st α.2.2 k)) α.2.1 (r_n α.2.2), (r_n α.2.2, r_sp α.2.2 + 1, r_an α.2.2, r_kp α.2.2, r_mu α.2.2, a_st (fun k => α.1.2.1 (r_st α.2.2 k)) α.2.1, (fun k => r_wt α.2.2 k * α.1.2.2.1 g (a_st (fun k => α.1.2.1 (r_st α.2.2 k)) α.2.1 k)), (fun k i => if i = r_sp α.2.2 + 1 then a_st (fun k => α.1.2.1 (r_st α.2.2 k)) α.2.1 k else r_hi α.2.2 k i), r_og α.2.2)) := by
                            unfold a_go
                            rw [hnfN]
                            exact if_pos halN
                          obtain ⟨z1, z2, z3⟩ := fm_step_A (g := g) hT3 hR3 hDN hs30 he6 (e259 ▸ hs) (e259 ▸ hw) (e259 ▸ hh) hho
                          refine lv_aload_n hx hb dX5_step_332 rfl (lv_at hl 0 rfl) ?_
                          refine va_get (D := D) (ci := 7) (v := .int (M6.1 0 12)) (C := RX5) (T := TX5) (N := 23) hx hb hts inX5 hown hK hP 0 (fl_at (by decide) rfl) rfl 12 (by decide) (hts (.fieldLink RX5 69 "ResampledRowsModel" "steps" "I") (by decide +kernel)) (fun _ h9 => h9) rfl dX5_step_333 ?_
                          refine fl_ti (y := nI (r_sp α.2.2 + 1)) hs6 ?_
                          exact W.iret (v := nI (r_sp α.2.2 + 1)) hx hb hr (fun t ht hW => ⟨⟨nI (r_sp α.2.2 + 1), M6, rfl, (by rw [hostep, hgo]; exact ⟨rfl, z1, z2.1, fun _ => z2.2, z3⟩), fl_qi ht hP⟩, hS.F ht⟩) hS.2.2 dX5_step_336
                        · have l259 : k4 < r_n α.2.2 := Nat.lt_of_not_le (fun q => hc259 ((nI_leI (by omega) (by omega)).mpr q))
                          have ha6 : a_st (fun k => α.1.2.1 (r_st α.2.2 k)) α.2.1 k4 < 6 := (hrowN k4 l259).2
                          refine lv_aload_n hx hb dX5_step_262 rfl (lv_at hl 0 rfl) ?_
                          refine va_get (D := D) (ci := 7) (v := .ref (ad 6)) (C := RX5) (T := TX5) (N := 23) hx hb hts inX5 hown hK hP 0 (fl_at (by decide) rfl) rfl 9 (by decide) (hts (.fieldLink RX5 25 "ResampledRowsModel" "states" "[I") (by decide +kernel)) (fun _ h9 => h9) rfl dX5_step_263 ?_
                          refine lv_iload hx hb dX5_step_266 (lv_at hl 3 rfl) ?_
                          refine lv_aload_n hx hb dX5_step_268 rfl (lv_at hl 0 rfl) ?_
                          refine va_get (D := D) (ci := 7) (v := .ref (ad 11)) (C := RX5) (T := TX5) (N := 23) hx hb hts inX5 hown hK hP 0 (fl_at (by decide) rfl) rfl 19 (by decide) (hts (.fieldLink RX5 41 "ResampledRowsModel" "drawn" "[I") (by decide +kernel)) (fun _ h9 => h9) rfl dX5_step_269 ?_
                          refine lv_iload hx hb dX5_step_272 (lv_at hl 3 rfl) ?_
                          refine fl_ild (n := 16) (k := k4) hx hb hK hP (fl_at (by decide) rfl) rfl rfl (by omega) (by decide) dX5_step_274 ?_
                          refine fl_ti (y := nI (a_st (fun k => α.1.2.1 (r_st α.2.2 k)) α.2.1 k4)) (by rw [h116]; exact (hrowN k4 l259).1) ?_
                          refine fl_ist (n := 16) (k := k4) (x := nI (a_st (fun k => α.1.2.1 (r_st α.2.2 k)) α.2.1 k4)) hx hb hK hJ hP hS (fm_loc cI cJ ad) (fl_at (by decide) rfl) rfl rfl rfl (by omega) (by decide) dX5_step_275 (fun H locs hP hS => ?_)
                          refine lv_aload_n hx hb dX5_step_276 rfl (lv_at hl 0 rfl) ?_
                          refine va_get (D := D) (ci := 7) (v := .ref (ad 7)) (C := RX5) (T := TX5) (N := 23) hx hb hts inX5 hown hK hP 0 (fl_at (by decide) rfl) rfl 10 (by decide) (hts (.fieldLink RX5 28 "ResampledRowsModel" "weights" "[J") (by decide +kernel)) (fun _ h9 => h9) rfl dX5_step_277 ?_
                          refine lv_iload hx hb dX5_step_280 (lv_at hl 3 rfl) ?_
                          refine lv_dup2_11 hx hb dX5_step_282 rfl rfl ?_
                          refine fl_jld (n := 16) (k := k4) hx hb hK hP (fl_at (by decide) rfl) rfl rfl (by omega) (by decide) dX5_step_283 ?_
                          refine fl_tl (y := M6.2.1 7 k4) rfl ?_
                          refine fl_tl (y := lN (r_wt α.2.2 k4)) (by rw [hwo k4 (Nat.le_refl _)]; exact (hR3.2.2.2.2.2.2.1 k4 l259).1) ?_
                          refine lv_aload_n hx hb dX5_step_284 rfl (lv_at hl 0 rfl) ?_
                          refine va_get (D := D) (ci := 7) (v := .ref (ad 3)) (C := RX5) (T := TX5) (N := 23) hx hb hts inX5 hown hK hP 0 (fl_at (by decide) rfl) rfl 3 (by decide) (hts (.fieldLink RX5 16 "ResampledRowsModel" "sights" "[I") (by decide +kernel)) (fun _ h9 => h9) rfl dX5_step_285 ?_
                          refine lv_bipush (v := 6) hx hb dX5_step_288 (by decide) ?_
                          refine lv_iload_n hx hb dX5_step_290 rfl (lv_at hl 1 rfl) ?_
                          refine fl_ti (y := nI g) q1_2 ?_
                          refine lv_imul hx hb dX5_step_291 ?_
                          refine fl_ti (y := nI (6 * g)) (pk_mul 6 g) ?_
                          refine lv_aload_n hx hb dX5_step_292 rfl (lv_at hl 0 rfl) ?_
                          refine va_get (D := D) (ci := 7) (v := .ref (ad 11)) (C := RX5) (T := TX5) (N := 23) hx hb hts inX5 hown hK hP 0 (fl_at (by decide) rfl) rfl 19 (by decide) (hts (.fieldLink RX5 41 "ResampledRowsModel" "drawn" "[I") (by decide +kernel)) (fun _ h9 => h9) rfl dX5_step_293 ?_
                          refine lv_iload hx hb dX5_step_296 (lv_at hl 3 rfl) ?_
                          refine fl_ild (n := 16) (k := k4) hx hb hK hP (fl_at (by decide) rfl) rfl rfl (by omega) (by decide) dX5_step_298 ?_
                          refine fl_ti (y := M6.1 11 k4) rfl ?_
                          refine fl_ti (y := nI (a_st (fun k => α.1.2.1 (r_st α.2.2 k)) α.2.1 k4)) (by rw [h116]; exact (hrowN k4 l259).1) ?_
                          refine lv_iadd hx hb dX5_step_299 ?_
                          refine fl_ti (y := nI (6 * g + a_st (fun k => α.1.2.1 (r_st α.2.2 k)) α.2.1 k4)) (nI_add _ _) ?_
                          refine fl_ild (n := 30) (k := (6 * g + a_st (fun k => α.1.2.1 (r_st α.2.2 k)) α.2.1 k4)) hx hb hK hP (fl_at (by decide) rfl) rfl rfl (by omega) (by decide) dX5_step_300 ?_
                          refine fl_ti (y := M6.1 3 (6 * g + a_st (fun k => α.1.2.1 (r_st α.2.2 k)) α.2.1 k4)) rfl ?_
                          refine fl_ti (y := nI (α.1.2.2.1 g (a_st (fun k => α.1.2.1 (r_st α.2.2 k)) α.2.1 k4))) (by rw [hT6]; exact (hT3.2.2.1 g q1_1 _ ha6).1) ?_
                          refine lv_i2l (v := (nI (α.1.2.2.1 g (a_st (fun k => α.1.2.1 (r_st α.2.2 k)) α.2.1 k4))).toInt64) hx hb dX5_step_301 rfl ?_
                          refine fl_tl (y := lN (α.1.2.2.1 g (a_st (fun k => α.1.2.1 (r_st α.2.2 k)) α.2.1 k4))) (nI_l (by have := (hT3.2.2.1 g q1_1 _ ha6).2; omega)) ?_
                          refine lv_lmul hx hb dX5_step_302 ?_
                          refine fl_tl (y := lN (r_wt α.2.2 k4 * α.1.2.2.1 g (a_st (fun k => α.1.2.1 (r_st α.2.2 k)) α.2.1 k4))) (lN_mul _ _) ?_
                          refine fl_jst (n := 16) (k := k4) (x := lN (r_wt α.2.2 k4 * α.1.2.2.1 g (a_st (fun k => α.1.2.1 (r_st α.2.2 k)) α.2.1 k4))) hx hb hK hJ hP hS (fm_loc cI cJ ad) (fl_at (by decide) rfl) rfl rfl rfl (by omega) (by decide) dX5_step_303 (fun H locs hP hS => ?_)
                          refine lv_aload_n hx hb dX5_step_304 rfl (lv_at hl 0 rfl) ?_
                          refine va_get (D := D) (ci := 7) (v := .ref (ad 8)) (C := RX5) (T := TX5) (N := 23) hx hb hts inX5 hown hK hP 0 (fl_at (by decide) rfl) rfl 11 (by decide) (hts (.fieldLink RX5 32 "ResampledRowsModel" "histories" "[I") (by decide +kernel)) (fun _ h9 => h9) rfl dX5_step_305 ?_
                          refine lv_bipush (v := 31) hx hb dX5_step_308 (by decide) ?_
                          refine lv_iload hx hb dX5_step_310 (lv_at hl 3 rfl) ?_
                          refine lv_imul hx hb dX5_step_312 ?_
                          refine fl_ti (y := nI (31 * k4)) (pk_mul 31 k4) ?_
                          refine lv_aload_n hx hb dX5_step_313 rfl (lv_at hl 0 rfl) ?_
                          refine va_get (D := D) (ci := 7) (v := .int (M6.1 0 12)) (C := RX5) (T := TX5) (N := 23) hx hb hts inX5 hown hK hP 0 (fl_at (by decide) rfl) rfl 12 (by decide) (hts (.fieldLink RX5 69 "ResampledRowsModel" "steps" "I") (by decide +kernel)) (fun _ h9 => h9) rfl dX5_step_314 ?_
                          refine fl_ti (y := nI (r_sp α.2.2 + 1)) hs6 ?_
                          refine lv_iadd hx hb dX5_step_317 ?_
                          refine fl_ti (y := nI (31 * k4 + (r_sp α.2.2 + 1))) (nI_add _ _) ?_
                          refine lv_aload_n hx hb dX5_step_318 rfl (lv_at hl 0 rfl) ?_
                          refine va_get (D := D) (ci := 7) (v := .ref (ad 11)) (C := RX5) (T := TX5) (N := 23) hx hb hts inX5 hown hK hP 0 (fl_at (by decide) rfl) rfl 19 (by decide) (hts (.fieldLink RX5 41 "ResampledRowsModel" "drawn" "[I") (by decide +kernel)) (fun _ h9 => h9) rfl dX5_step_319 ?_
                          refine lv_iload hx hb dX5_step_322 (lv_at hl 3 rfl) ?_
                          refine fl_ild (n := 16) (k := k4) hx hb hK hP (fl_at (by decide) rfl) rfl rfl (by omega) (by decide) dX5_step_324 ?_
                          refine fl_ti (y := M6.1 11 k4) rfl ?_
                          refine fl_ti (y := nI (a_st (fun k => α.1.2.1 (r_st α.2.2 k)) α.2.1 k4)) (by rw [h116]; exact (hrowN k4 l259).1) ?_
                          refine fl_ist (n := 496) (k := (31 * k4 + (r_sp α.2.2 + 1))) (x := nI (a_st (fun k => α.1.2.1 (r_st α.2.2 k)) α.2.1 k4)) hx hb hK hJ hP hS (fm_loc cI cJ ad) (fl_at (by decide) rfl) rfl rfl rfl (by omega) (by decide) dX5_step_325 (fun H locs hP hS => ?_)
                          refine lv_iinc (v := nI (k4 + 1)) (lv' := [(4, .int (nI (k4 + 1))), (0, .ref (ad 0)), (1, .int x), (2, .int y)]) hx hb dX5_step_326 hl (k := 3) rfl (fl_inc k4) (by decide) rfl (fun ls hl => ?_)
                          refine lv_goto (tgt := 253) hx hb dX5_step_329 (by decide) ?_
                          exact ih253 (k4 + 1) (fl_sI (fl_sJ (fl_sI M6 6 k4 (nI (a_st (fun k => α.1.2.1 (r_st α.2.2 k)) α.2.1 k4))) 7 k4 (lN (r_wt α.2.2 k4 * α.1.2.2.1 g (a_st (fun k => α.1.2.1 (r_st α.2.2 k)) α.2.1 k4)))) 8 (31 * k4 + (r_sp α.2.2 + 1)) (nI (a_st (fun k => α.1.2.1 (r_st α.2.2 k)) α.2.1 k4))) (by omega) (((he6.sI (fun z => z.1 rfl) _).sJ (fun z => z.2.1 rfl) _).sI (fun z => z.2.2 rfl) _) (hs.push rfl ha6) (hw.push rfl (by have := decide_eq_true_iff.mp (a_all_true halN k4 l259); omega)) (fun k hk => by show vp_updL (M6.2.1 7) k4 _ k = _; rw [pk_uLn (by omega)]; exact hwo k (by omega)) (fun k hk => by show upd (M6.1 8) _ _ _ = _; (by_cases e : k = k4); (subst e; rw [pk_us]); (rw [pk_un (by omega)]; exact hh k (by omega))) (fun k z hz1 hz2 => by show upd (M6.1 8) _ _ _ = _; rw [pk_un (by omega)]; exact hho k z hz1 hz2) (by omega) _ _ hP hS ls (lv_sub hl [1, 2, 3, 0] rfl)
                    · have l195 : k3 < r_n α.2.2 := Nat.lt_of_not_le (fun q => hc195 ((nI_leI (by omega) (by omega)).mpr q))
                      have ha6 : a_st (fun k => α.1.2.1 (r_st α.2.2 k)) α.2.1 k3 < 6 := (hrowN k3 l195).2
                      have hpr : r_wt α.2.2 k3 * α.1.2.2.1 g (a_st (fun k => α.1.2.1 (r_st α.2.2 k)) α.2.1 k3) ≤ 1000000 * 9 := Nat.mul_le_mul (Nat.le_of_lt_succ (hR.2.2.2.2.2.2.1 k3 l195).2) (Nat.le_of_lt_succ (hT.2.2.1 g q1_1 _ ha6).2)
                      refine lv_aload_n hx hb dX5_step_198 rfl (lv_at hl 0 rfl) ?_
                      refine va_get (D := D) (ci := 7) (v := .ref (ad 7)) (C := RX5) (T := TX5) (N := 23) hx hb hts inX5 hown hK hP 0 (fl_at (by decide) rfl) rfl 10 (by decide) (hts (.fieldLink RX5 28 "ResampledRowsModel" "weights" "[J") (by decide +kernel)) (fun _ h9 => h9) rfl dX5_step_199 ?_
                      refine lv_iload hx hb dX5_step_202 (lv_at hl 3 rfl) ?_
                      refine fl_jld (n := 16) (k := k3) hx hb hK hP (fl_at (by decide) rfl) rfl rfl (by omega) (by decide) dX5_step_204 ?_
                      refine fl_tl (y := lN (r_wt α.2.2 k3)) ((hR3.2.2.2.2.2.2.1 k3 l195).1) ?_
                      refine lv_aload_n hx hb dX5_step_205 rfl (lv_at hl 0 rfl) ?_
                      refine va_get (D := D) (ci := 7) (v := .ref (ad 3)) (C := RX5) (T := TX5) (N := 23) hx hb hts inX5 hown hK hP 0 (fl_at (by decide) rfl) rfl 3 (by decide) (hts (.fieldLink RX5 16 "ResampledRowsModel" "sights" "[I") (by decide +kernel)) (fun _ h9 => h9) rfl dX5_step_206 ?_
                      refine lv_bipush (v := 6) hx hb dX5_step_209 (by decide) ?_
                      refine lv_iload_n hx hb dX5_step_211 rfl (lv_at hl 1 rfl) ?_
                      refine fl_ti (y := nI g) q1_2 ?_
                      refine lv_imul hx hb dX5_step_212 ?_
                      refine fl_ti (y := nI (6 * g)) (pk_mul 6 g) ?_
                      refine lv_aload_n hx hb dX5_step_213 rfl (lv_at hl 0 rfl) ?_
                      refine va_get (D := D) (ci := 7) (v := .ref (ad 11)) (C := RX5) (T := TX5) (N := 23) hx hb hts inX5 hown hK hP 0 (fl_at (by decide) rfl) rfl 19 (by decide) (hts (.fieldLink RX5 41 "ResampledRowsModel" "drawn" "[I") (by decide +kernel)) (fun _ h9 => h9) rfl dX5_step_214 ?_
                      refine lv_iload hx hb dX5_step_217 (lv_at hl 3 rfl) ?_
                      refine fl_ild (n := 16) (k := k3) hx hb hK hP (fl_at (by decide) rfl) rfl rfl (by omega) (by decide) dX5_step_219 ?_
                      refine fl_ti (y := nI (a_st (fun k => α.1.2.1 (r_st α.2.2 k)) α.2.1 k3)) ((hrowN k3 l195).1) ?_
                      refine lv_iadd hx hb dX5_step_220 ?_
                      refine fl_ti (y := nI (6 * g + a_st (fun k => α.1.2.1 (r_st α.2.2 k)) α.2.1 k3)) (nI_add _ _) ?_
                      refine fl_ild (n := 30) (k := (6 * g + a_st (fun k => α.1.2.1 (r_st α.2.2 k)) α.2.1 k3)) hx hb hK hP (fl_at (by decide) rfl) rfl rfl (by omega) (by decide) dX5_step_221 ?_
                      refine fl_ti (y := nI (α.1.2.2.1 g (a_st (fun k => α.1.2.1 (r_st α.2.2 k)) α.2.1 k3))) ((hT3.2.2.1 g q1_1 _ ha6).1) ?_
                      refine lv_i2l (v := (nI (α.1.2.2.1 g (a_st (fun k => α.1.2.1 (r_st α.2.2 k)) α.2.1 k3))).toInt64) hx hb dX5_step_222 rfl ?_
                      refine fl_tl (y := lN (α.1.2.2.1 g (a_st (fun k => α.1.2.1 (r_st α.2.2 k)) α.2.1 k3))) (nI_l (by have := (hT3.2.2.1 g q1_1 _ ha6).2; omega)) ?_
                      refine lv_lmul hx hb dX5_step_223 ?_
                      refine fl_tl (y := lN (r_wt α.2.2 k3 * α.1.2.2.1 g (a_st (fun k => α.1.2.1 (r_st α.2.2 k)) α.2.1 k3))) (lN_mul _ _) ?_
                      refine lv_ldc2 (v := 1000000) hx hb hown (hts (.constantLong RX5 123 (1000000)) (by decide +kernel)) dX5_step_224 ?_
                      refine fl_lle (tgt := 234) hx hb dX5_step_227 dX5_step_228 (by decide) (fun hc227 => ?_) (fun hc227 => ?_)
                      · have g227 : r_wt α.2.2 k3 * α.1.2.2.1 g (a_st (fun k => α.1.2.1 (r_st α.2.2 k)) α.2.1 k3) ≤ 1000000 := (pk_lLE (b := 1000000) (by omega) (by decide)).mp hc227
                        refine lv_iinc (v := nI (k3 + 1)) (lv' := [(4, .int (nI (k3 + 1))), (0, .ref (ad 0)), (1, .int x), (2, .int y)]) hx hb dX5_step_234 hl (k := 3) rfl (fl_inc k3) (by decide) rfl (fun ls hl => ?_)
                        refine lv_goto (tgt := 189) hx hb dX5_step_237 (by decide) ?_
                        exact ih189 (k3 + 1) (by omega) (by show (a_all _ k3 && _) = true; rw [hal, Bool.true_and]; exact decide_eq_true g227) (by omega) _ _ hP hS ls (lv_sub hl [1, 2, 3, 0] rfl)
                      · have g227 : ¬ r_wt α.2.2 k3 * α.1.2.2.1 g (a_st (fun k => α.1.2.1 (r_st α.2.2 k)) α.2.1 k3) ≤ 1000000 := fun z => hc227 ((pk_lLE (b := 1000000) (by omega) (by decide)).mpr z)
                        have hgo : (a_go α.1.2.1 (α.1.2.2.1 g) α.2.1 α.2.2) = (-1000005, a_dl (fun k => α.1.2.1 (r_st α.2.2 k)) α.2.1 (r_n α.2.2), α.2.2) := by
                          unfold a_go
                          rw [hnfN]
                          exact if_neg (by rw [a_all_false (i := k3) (decide_eq_false g227) (r_n α.2.2) l195]; decide)
                        refine lv_ldc (v := -1000005) hx hb hown (hts (.constant RX5 125 (-1000005)) (by decide +kernel)) dX5_step_231 ?_
                        exact W.iret (v := (-1000005)) hx hb hr (fun t ht hW => ⟨⟨(-1000005), M3, rfl, (by rw [hostep, hgo]; exact ⟨rfl, hA.pe he hDN⟩), fl_qi ht hP⟩, hS.F ht⟩) hS.2.2 dX5_step_233
                · have l109 : r < r_n α.2.2 := Nat.lt_of_not_le (fun q => hc109 ((nI_leI (by omega) (by omega)).mpr q))
                  have hsi : r_st α.2.2 r < 6 := (hR.2.2.2.2.2.1 r l109).2
                  refine lv_iconst (v := 0) hx hb dX5_step_112 (by decide) ?_
                  refine lv_istore (lv' := [(5, .int 0), (0, .ref (ad 0)), (1, .int x), (2, .int y), (4, .int (nI r))]) hx hb dX5_step_113 hl (by decide) rfl (fun ls hl => ?_)
                  suffices KL115 : ∀ (f : Nat) (j : Nat) (M4 : fl_M) (hj : j ≤ 6) (hby : ∀ k, k < j → M4.2.1 10 k = lN (α.1.2.1 (r_st α.2.2 r) k)) (he4 : fp (fun c _ => c ≠ 10) M3 M4) (hf4 : 6 + 1 ≤ j + f), ∀ (H : Heap) (locs : List Loc), va_P D vwCl (fmP cI cJ ad M4) H → va_S (fl_A 15 ad) s.heap H locs → ∀ (ls : Array Slot), lv_has ls 6 [(0, .ref (ad 0)), (1, .int x), (2, .int y), (4, .int (nI r)), (5, .int (nI j))] → W p l e (headSpec wsX5_step ({ frames := 2, cells := 0, slots := 0, locals := 53 } : Room)).room s m ([.ref (ad 0), .int x, .int y] : List Value).toArray below meth c H locs 0 0 (MQ below (va_Qi (fun r M2 => r = (o_step α x y).1 ∧ fm_A (o_step α x y).2 M2) (fmQ D cI cJ ad) (fl_A 15 ad)) ([.ref (ad 0), .int x, .int y] : List Value).toArray s 0 0 (fl_A 15 ad)) (F0 m 115 ls []) from KL115 (6 + 1) 0 M3 (Nat.zero_le _) (fun k hk => absurd hk (Nat.not_lt_zero k)) fp.rf (by omega) _ _ hP hS ls (lv_sub hl [1, 2, 3, 4, 0] rfl)
                  intro f
                  induction f with
                  | zero =>
                    intro j M4 hj hby he4 hf4
                    omega
                  | succ f ih115 =>
                    intro j M4 hj hby he4 hf4 H locs hP hS ls hl
                    have hT4 : fm_T α.1 M4 := hT3.eq he4 (fun c k a b => by omega)
                    have hs4 : M4.1 6 r = nI (r_st α.2.2 r) := by rw [(he4 6 r (by decide : (6 : Nat) ≠ 10)).1]; exact (hR3.2.2.2.2.2.1 r l109).1
                    refine lv_iload hx hb dX5_step_115 (lv_at hl 4 rfl) ?_
                    refine lv_bipush (v := 6) hx hb dX5_step_117 (by decide) ?_
                    refine fl_ti (y := nI 6) rfl ?_
                    refine lv_icmp_ge (tgt := 154) hx hb dX5_step_119 (by decide) (fun hc119 => ?_) (fun hc119 => ?_)
                    · have e119 : j = 6 := Nat.le_antisymm hj ((nI_leI (by omega) (by omega)).mp hc119)
                      have hby6 : ∀ k, k < 6 → M4.2.1 10 k = lN (α.1.2.1 (r_st α.2.2 r) k) := e119 ▸ hby
                      have hTs : a_sum (α.1.2.1 (r_st α.2.2 r)) 6 < 2 ^ 31 := by have := a_sum_le (α.1.2.1 (r_st α.2.2 r)) (B := 9) 6 (fun k hk => Nat.le_of_lt_succ (hT.2.1 _ hsi k hk).2); omega
                      have hD4 : fm_D (a_dl (fun k => α.1.2.1 (r_st α.2.2 k)) α.2.1 r) M4 := hD.eq he4 (by decide) (by decide) (fun k => by decide)
                      refine lv_aload_n hx hb dX5_step_154 rfl (lv_at hl 0 rfl) ?_
                      refine va_get (D := D) (ci := 7) (v := .ref (ad 11)) (C := RX5) (T := TX5) (N := 23) hx hb hts inX5 hown hK hP 0 (fl_at (by decide) rfl) rfl 19 (by decide) (hts (.fieldLink RX5 41 "ResampledRowsModel" "drawn" "[I") (by decide +kernel)) (fun _ h9 => h9) rfl dX5_step_155 ?_
                      refine lv_iload hx hb dX5_step_158 (lv_at hl 3 rfl) ?_
                      refine lv_aload_n hx hb dX5_step_160 rfl (lv_at hl 0 rfl) ?_
                      refine lv_bipush (v := 6) hx hb dX5_step_161 (by decide) ?_
                      refine fl_ti (y := nI 6) rfl ?_
                      refine va_calli (va_runV (As := [.int (nI 6)]) (rest := [.int (nI r), .ref (ad 11)]) ⟨hx, hb, hml, hown, hts⟩ (c_X5_drawBy l hJ M4 (a_dl (fun k => α.1.2.1 (r_st α.2.2 k)) α.2.1 r) 6 (α.1.2.1 (r_st α.2.2 r)) (by decide) hby6 hTs hD4) (cwV 1 hts gX5_step_X5_drawBy rfl rfl rfl (by decide +kernel) ⟨Nat.le_of_ble_eq_true rfl, Nat.le_of_ble_eq_true rfl⟩) ⟨fl_blind, va_recv hK hP (ci := 7) (q0 := 0) rfl (fl_at (by decide) rfl), fl_pre hP hK hN⟩ rfl rfl hl.1 rfl (lv_room (Nat.le_of_ble_eq_true rfl)) dX5_step_163 ⟨Nat.le_of_ble_eq_true rfl, Nat.le_of_ble_eq_true rfl⟩) hS (fun _ _ h => h) (fun _ h => h) (fun r163 M163 t H1 locs ht hvm hw hB hz1 hk1 hS => ?_)
                      have hP : va_P D vwCl (fmP cI cJ ad M163) H1 := by rw [← ht]; exact hB
                      clear hB hk1 hz1 hvm ht t
                      obtain ⟨rfl, hD5, he163⟩ := hw
                      have he5 : fp fm_PE M M163 := he.tr ((he4.mono (fun c k hc => hc.1)).tr (he163.mono (fun c k hc => hc.2.2)))
                      by_cases h0 : a_sum (α.1.2.1 (r_st α.2.2 r)) 6 = 0
                      · have hgo : (a_go α.1.2.1 (α.1.2.2.1 g) α.2.1 α.2.2) = (-1000004, a_dl (fun k => α.1.2.1 (r_st α.2.2 k)) α.2.1 r, α.2.2) := by unfold a_go; rw [a_find_some0 hnf h0 l109]
                        refine fl_ti (y := -1) (a_oI_none h0) ?_
                        refine fl_ist (n := 16) (k := r) (x := (-1)) hx hb hK hJ hP hS (fm_loc cI cJ ad) (fl_at (by decide) rfl) rfl rfl rfl (by omega) (by decide) dX5_step_166 (fun H locs hP hS => ?_)
                        refine lv_aload_n hx hb dX5_step_167 rfl (lv_at hl 0 rfl) ?_
                        refine va_get (D := D) (ci := 7) (v := .ref (ad 11)) (C := RX5) (T := TX5) (N := 23) hx hb hts inX5 hown hK hP 0 (fl_at (by decide) rfl) rfl 19 (by decide) (hts (.fieldLink RX5 41 "ResampledRowsModel" "drawn" "[I") (by decide +kernel)) (fun _ h9 => h9) rfl dX5_step_168 ?_
                        refine lv_iload hx hb dX5_step_171 (lv_at hl 3 rfl) ?_
                        refine fl_ild (n := 16) (k := r) hx hb hK hP (fl_at (by decide) rfl) rfl rfl (by omega) (by decide) dX5_step_173 ?_
                        refine fl_ti (y := (-1)) (fl_rdI _ _ _ _) ?_
                        refine lv_if_ge (tgt := 180) hx hb dX5_step_174 (by decide) (fun hz => absurd hz (by decide)) (fun _ => ?_)
                        refine lv_ldc (v := -1000004) hx hb hown (hts (.constant RX5 114 (-1000004)) (by decide +kernel)) dX5_step_177 ?_
                        exact W.iret (v := (-1000004)) hx hb hr (fun t ht hW => ⟨⟨(-1000004), (fl_sI M163 11 r (-1)), rfl, (by rw [hostep, hgo]; exact ⟨rfl, hA.pe (he5.sI (by unfold fm_PE; omega) _) (by rw [a_by_none h0] at hD5; exact hD5.eq (P := fun c k => c ≠ 11) (fp.rf.sI (fun z => z rfl) _) (by decide) (by decide) (fun k => by decide))⟩), fl_qi ht hP⟩, hS.F ht⟩) hS.2.2 dX5_step_179
                      · obtain ⟨v, hv⟩ : ∃ v, v = a_st (fun k => α.1.2.1 (r_st α.2.2 k)) α.2.1 r := ⟨_, rfl⟩
                        have hv6 : v < 6 := by rw [hv]; exact a_st_lt (W := (fun k => α.1.2.1 (r_st α.2.2 k))) h0
                        refine fl_ti (y := nI v) (by rw [hv]; exact a_oI_st (W := (fun k => α.1.2.1 (r_st α.2.2 k))) h0) ?_
                        refine fl_ist (n := 16) (k := r) (x := nI v) hx hb hK hJ hP hS (fm_loc cI cJ ad) (fl_at (by decide) rfl) rfl rfl rfl (by omega) (by decide) dX5_step_166 (fun H locs hP hS => ?_)
                        refine lv_aload_n hx hb dX5_step_167 rfl (lv_at hl 0 rfl) ?_
                        refine va_get (D := D) (ci := 7) (v := .ref (ad 11)) (C := RX5) (T := TX5) (N := 23) hx hb hts inX5 hown hK hP 0 (fl_at (by decide) rfl) rfl 19 (by decide) (hts (.fieldLink RX5 41 "ResampledRowsModel" "drawn" "[I") (by decide +kernel)) (fun _ h9 => h9) rfl dX5_step_168 ?_
                        refine lv_iload hx hb dX5_step_171 (lv_at hl 3 rfl) ?_
                        refine fl_ild (n := 16) (k := r) hx hb hK hP (fl_at (by decide) rfl) rfl rfl (by omega) (by decide) dX5_step_173 ?_
                        refine fl_ti (y := nI v) (fl_rdI _ _ _ _) ?_
                        refine lv_if_ge (tgt := 180) hx hb dX5_step_174 (by decide) (fun hc174 => ?_) (fun hc174 => ?_)
                        · refine lv_iinc (v := nI (r + 1)) (lv' := [(4, .int (nI (r + 1))), (0, .ref (ad 0)), (1, .int x), (2, .int y), (5, .int (nI j))]) hx hb dX5_step_180 hl (k := 3) rfl (fl_inc r) (by decide) rfl (fun ls hl => ?_)
                          refine lv_goto (tgt := 103) hx hb dX5_step_183 (by decide) ?_
                          exact ih103 (r + 1) (fl_sI M163 11 r (nI v)) (by omega) (hD5.eq (P := fun c k => c ≠ 11) (fp.rf.sI (fun z => z rfl) _) (by decide) (by decide) (fun k => by decide)) (by show fl_row (upd (M163.1 11) r (nI v)) _ _ _; rw [show M163.1 11 = M3.1 11 from funext fun k => (he163 11 k (by unfold fm_PD; omega)).1.trans (he4 11 k (by decide : (11 : Nat) ≠ 10)).1]; exact hrow.push hv hv6) (a_find_none hnf h0) (he5.sI (by unfold fm_PE; omega) _) (by omega) _ _ hP hS ls (lv_sub hl [1, 2, 3, 0] rfl)
                        · exact absurd (Int32.not_lt.mp (nI_pos (by omega))) hc174
                    · have l119 : j < 6 := Nat.lt_of_not_le (fun q => hc119 ((nI_leI (by omega) (by omega)).mpr q))
                      refine lv_aload_n hx hb dX5_step_122 rfl (lv_at hl 0 rfl) ?_
                      refine va_get (D := D) (ci := 7) (v := .ref (ad 10)) (C := RX5) (T := TX5) (N := 23) hx hb hts inX5 hown hK hP 0 (fl_at (by decide) rfl) rfl 18 (by decide) (hts (.fieldLink RX5 38 "ResampledRowsModel" "by" "[J") (by decide +kernel)) (fun _ h9 => h9) rfl dX5_step_123 ?_
                      refine lv_iload hx hb dX5_step_126 (lv_at hl 4 rfl) ?_
                      refine lv_aload_n hx hb dX5_step_128 rfl (lv_at hl 0 rfl) ?_
                      refine va_get (D := D) (ci := 7) (v := .ref (ad 2)) (C := RX5) (T := TX5) (N := 23) hx hb hts inX5 hown hK hP 0 (fl_at (by decide) rfl) rfl 2 (by decide) (hts (.fieldLink RX5 13 "ResampledRowsModel" "moves" "[I") (by decide +kernel)) (fun _ h9 => h9) rfl dX5_step_129 ?_
                      refine lv_bipush (v := 6) hx hb dX5_step_132 (by decide) ?_
                      refine lv_aload_n hx hb dX5_step_134 rfl (lv_at hl 0 rfl) ?_
                      refine va_get (D := D) (ci := 7) (v := .ref (ad 6)) (C := RX5) (T := TX5) (N := 23) hx hb hts inX5 hown hK hP 0 (fl_at (by decide) rfl) rfl 9 (by decide) (hts (.fieldLink RX5 25 "ResampledRowsModel" "states" "[I") (by decide +kernel)) (fun _ h9 => h9) rfl dX5_step_135 ?_
                      refine lv_iload hx hb dX5_step_138 (lv_at hl 3 rfl) ?_
                      refine fl_ild (n := 16) (k := r) hx hb hK hP (fl_at (by decide) rfl) rfl rfl (by omega) (by decide) dX5_step_140 ?_
                      refine fl_ti (y := nI (r_st α.2.2 r)) hs4 ?_
                      refine lv_imul hx hb dX5_step_141 ?_
                      refine fl_ti (y := nI (6 * r_st α.2.2 r)) (pk_mul 6 _) ?_
                      refine lv_iload hx hb dX5_step_142 (lv_at hl 4 rfl) ?_
                      refine lv_iadd hx hb dX5_step_144 ?_
                      refine fl_ti (y := nI (6 * r_st α.2.2 r + j)) (nI_add _ _) ?_
                      refine fl_ild (n := 36) (k := (6 * r_st α.2.2 r + j)) hx hb hK hP (fl_at (by decide) rfl) rfl rfl (by omega) (by decide) dX5_step_145 ?_
                      refine fl_ti (y := nI (α.1.2.1 (r_st α.2.2 r) j)) ((hT4.2.1 _ hsi j l119).1) ?_
                      refine lv_i2l (v := (nI (α.1.2.1 (r_st α.2.2 r) j)).toInt64) hx hb dX5_step_146 rfl ?_
                      refine fl_tl (y := lN (α.1.2.1 (r_st α.2.2 r) j)) (nI_l (by have := (hT4.2.1 _ hsi j l119).2; omega)) ?_
                      refine fl_jst (n := 16) (k := j) (x := lN (α.1.2.1 (r_st α.2.2 r) j)) hx hb hK hJ hP hS (fm_loc cI cJ ad) (fl_at (by decide) rfl) rfl rfl rfl (by omega) (by decide) dX5_step_147 (fun H locs hP hS => ?_)
                      refine lv_iinc (v := nI (j + 1)) (lv' := [(5, .int (nI (j + 1))), (0, .ref (ad 0)), (1, .int x), (2, .int y), (4, .int (nI r))]) hx hb dX5_step_148 hl (k := 4) rfl (fl_inc j) (by decide) rfl (fun ls hl => ?_)
                      refine lv_goto (tgt := 115) hx hb dX5_step_151 (by decide) ?_
                      exact ih115 (j + 1) (fl_sJ M4 10 j (lN (α.1.2.1 (r_st α.2.2 r) j))) (by omega) (fm_by hby rfl) (he4.sJ (fun z => z rfl) _) (by omega) _ _ hP hS ls (lv_sub hl [1, 2, 3, 4, 0] rfl)
            · have hno : ¬ (r_sp α.2.2 < 30 ∧ a_all (fun k => α.1.2.2.2 (r_st α.2.2 k) == b) (r_n α.2.2) = true) := fun z => by rw [huN, if_pos z] at hc94; exact absurd hc94 (by decide)
              have ho : o_step α x y = (-1000003, α) := by
                unfold o_step
                by_cases hs30 : r_sp α.2.2 < 30
                · have hnall : ¬ a_all (fun k => α.1.2.2.2 (r_st α.2.2 k) == b) (r_n α.2.2) = true := fun z => hno ⟨hs30, z⟩
                  simp only [if_neg hn0, q1, q2, if_pos hs30, if_neg hnall]
                · simp only [if_neg hn0, q1, q2, if_neg hs30]
              refine lv_ldc (v := -1000003) hx hb hown (hts (.constant RX5 119 (-1000003)) (by decide +kernel)) dX5_step_97 ?_
              exact W.iret (v := (-1000003)) hx hb hr (fun t ht hW => ⟨⟨(-1000003), M, rfl, (by rw [ho]; exact ⟨rfl, hA⟩), fl_qi ht hP⟩, hS.F ht⟩) hS.2.2 dX5_step_99
          · have l58 : i < r_n α.2.2 := Nat.lt_of_not_le (fun q => hc58 ((nI_leI (by omega) (by omega)).mpr q))
            refine lv_iload_n hx hb dX5_step_61 rfl (lv_at hl 3 rfl) ?_
            refine lv_if_eq (tgt := 85) hx hb dX5_step_62 (by decide) (fun hc62 => ?_) (fun hc62 => ?_)
            · refine lv_iconst (v := 0) hx hb dX5_step_85 (by decide) ?_
              refine lv_istore_n (lv' := [(3, .int 0), (0, .ref (ad 0)), (1, .int x), (2, .int y), (4, .int (nI i))]) hx hb dX5_step_86 rfl hl (by decide) rfl (fun ls hl => ?_)
              refine lv_iinc (v := nI (i + 1)) (lv' := [(4, .int (nI (i + 1))), (3, .int 0), (0, .ref (ad 0)), (1, .int x), (2, .int y)]) hx hb dX5_step_87 hl (k := 4) rfl (fl_inc i) (by decide) rfl (fun ls hl => ?_)
              refine lv_goto (tgt := 52) hx hb dX5_step_90 (by decide) ?_
              exact ih52 (i + 1) 0 (by omega) (st_u0 _ hu hc62) (by omega) _ _ hP hS ls (lv_sub hl [2, 3, 4, 1, 0] rfl)
            · refine lv_aload_n hx hb dX5_step_65 rfl (lv_at hl 0 rfl) ?_
              refine va_get (D := D) (ci := 7) (v := .ref (ad 4)) (C := RX5) (T := TX5) (N := 23) hx hb hts inX5 hown hK hP 0 (fl_at (by decide) rfl) rfl 4 (by decide) (hts (.fieldLink RX5 19 "ResampledRowsModel" "names" "[I") (by decide +kernel)) (fun _ h9 => h9) rfl dX5_step_66 ?_
              refine lv_aload_n hx hb dX5_step_69 rfl (lv_at hl 0 rfl) ?_
              refine va_get (D := D) (ci := 7) (v := .ref (ad 6)) (C := RX5) (T := TX5) (N := 23) hx hb hts inX5 hown hK hP 0 (fl_at (by decide) rfl) rfl 9 (by decide) (hts (.fieldLink RX5 25 "ResampledRowsModel" "states" "[I") (by decide +kernel)) (fun _ h9 => h9) rfl dX5_step_70 ?_
              refine lv_iload hx hb dX5_step_73 (lv_at hl 4 rfl) ?_
              refine fl_ild (n := 16) (k := i) hx hb hK hP (fl_at (by decide) rfl) rfl rfl (by omega) (by decide) dX5_step_75 ?_
              refine fl_ti (y := nI (r_st α.2.2 i)) ((hR.2.2.2.2.2.1 i l58).1) ?_
              refine fl_ild (n := 6) (k := (r_st α.2.2 i)) hx hb hK hP (fl_at (by decide) rfl) rfl rfl ((hR.2.2.2.2.2.1 i l58).2) (by decide) dX5_step_76 ?_
              refine fl_ti (y := nI (α.1.2.2.2 (r_st α.2.2 i))) ((hT.2.2.2 _ (hR.2.2.2.2.2.1 i l58).2).1) ?_
              refine lv_iload_n hx hb dX5_step_77 rfl (lv_at hl 2 rfl) ?_
              refine fl_ti (y := nI b) q2_2 ?_
              refine lv_icmp_ne (tgt := 85) hx hb dX5_step_78 (by decide) (fun hc78 => ?_) (fun hc78 => ?_)
              · have g78 : ¬ α.1.2.2.2 (r_st α.2.2 i) = b := fun z => hc78 (by rw [z])
                refine lv_iconst (v := 0) hx hb dX5_step_85 (by decide) ?_
                refine lv_istore_n (lv' := [(3, .int 0), (0, .ref (ad 0)), (1, .int x), (2, .int y), (4, .int (nI i))]) hx hb dX5_step_86 rfl hl (by decide) rfl (fun ls hl => ?_)
                refine lv_iinc (v := nI (i + 1)) (lv' := [(4, .int (nI (i + 1))), (3, .int 0), (0, .ref (ad 0)), (1, .int x), (2, .int y)]) hx hb dX5_step_87 hl (k := 4) rfl (fl_inc i) (by decide) rfl (fun ls hl => ?_)
                refine lv_goto (tgt := 52) hx hb dX5_step_90 (by decide) ?_
                exact ih52 (i + 1) 0 (by omega) (st_u2 _ (beq_false_of_ne g78)) (by omega) _ _ hP hS ls (lv_sub hl [2, 3, 4, 1, 0] rfl)
              · have g78 : α.1.2.2.2 (r_st α.2.2 i) = b := (nI_eq (by have := (hT.2.2.2 _ (hR.2.2.2.2.2.1 i l58).2).2; omega) q2_3).mp hc78
                refine lv_iconst (v := 1) hx hb dX5_step_81 (by decide) ?_
                refine lv_goto (tgt := 86) hx hb dX5_step_82 (by decide) ?_
                refine lv_istore_n (lv' := [(3, .int 1), (0, .ref (ad 0)), (1, .int x), (2, .int y), (4, .int (nI i))]) hx hb dX5_step_86 rfl hl (by decide) rfl (fun ls hl => ?_)
                refine lv_iinc (v := nI (i + 1)) (lv' := [(4, .int (nI (i + 1))), (3, .int 1), (0, .ref (ad 0)), (1, .int x), (2, .int y)]) hx hb dX5_step_87 hl (k := 4) rfl (fl_inc i) (by decide) rfl (fun ls hl => ?_)
                refine lv_goto (tgt := 52) hx hb dX5_step_90 (by decide) ?_
                exact ih52 (i + 1) 1 (by omega) (st_u1 _ hu hc62 (beq_iff_eq.mpr g78)) (by omega) _ _ hP hS ls (lv_sub hl [2, 3, 4, 1, 0] rfl)
  · have hn0 : r_n α.2.2 = 0 := (nI_eq (b := 0) (by have := hR.1.1; omega) (by decide)).mp hc4
    refine lv_ldc (v := -1000003) hx hb hown (hts (.constant RX5 119 (-1000003)) (by decide +kernel)) dX5_step_7 ?_
    exact W.iret (v := (-1000003)) hx hb hr (fun t ht hW => ⟨⟨(-1000003), M, rfl, (by have ho : o_step α x y = ((-1000003), α) := (by unfold o_step; first | (rw [if_pos hn0] <;> rfl) | (simp only [if_pos hn0])); rw [ho]; exact ⟨rfl, hA⟩), fl_qi ht hP⟩, hS.F ht⟩) hS.2.2 dX5_step_9

