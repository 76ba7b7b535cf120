theorem a_parts_lt {w : Nat → Nat} {n i : Nat} (hi : i < n) : a_parts w n i ≤ n := by
  refine Nat.div_le_of_le_mul ?_
  rw [Nat.mul_comm (a_sum w n)]
  exact Nat.mul_le_mul_left n (a_sum_ge w hi)
theorem fl_pred {n : Nat} (h : 0 < n) : nI n - 1 = nI (n - 1) := by
  obtain ⟨q, rfl⟩ : ∃ q, n = q + 1 := ⟨n - 1, by omega⟩
  exact nI_pred q
theorem fl_dec {n : Nat} (h : 0 < n) : nI n + Int32.ofInt (-1) = nI (n - 1) := by
  obtain ⟨q, rfl⟩ : ∃ q, n = q + 1 := ⟨n - 1, by omega⟩
  exact pk_m1 q
theorem a_putin_none {n : Nat} {t : Nat → Nat} {kp : Option Nat} (h : kp = none) : a_putin kp n t = t := by subst h; rfl
theorem a_putin_pos {n k : Nat} {t : Nat → Nat} {kp : Option Nat} (h : kp = some k) (h0 : 0 < t k) : a_putin kp n t = t := by
  subst h
  exact if_neg (by omega)
theorem a_putin_zero {n k : Nat} {t : Nat → Nat} {kp : Option Nat} (h : kp = some k) (h0 : t k = 0) : a_putin kp n t = a_bump (a_dec t (a_last t n)) k := by
  subst h
  exact if_pos h0
theorem a_oI_lt {o : Option Nat} {z : Int32} {n : Nat} (hk : ∀ k, o = some k → k < n) (hn : n ≤ 16) (h : a_oI o z < 0) : o = none := by
  cases o with
  | none => rfl
  | some k => exact absurd h (nI_pos (by have := hk k rfl; omega))
theorem a_oI_nlt {o : Option Nat} {z : Int32} (hz : z < 0) (h : ¬ a_oI o z < 0) : ∃ k, o = some k := by
  cases o with
  | none => exact absurd hz h
  | some k => exact ⟨k, rfl⟩

theorem fc_ordp {f : Nat → Int32} {g : Nat → Nat} {k v : Nat} (h : ∀ x, x < k → f x = nI (g x)) (hv : g k = v) : ∀ x, x < k + 1 → upd f k (nI v) x = nI (g x) := fun x hx => by
  by_cases e : x = k
  · subst e
    rw [pk_us, hv]
  · rw [pk_un e]
    exact h x (by omega)
theorem fl_lvr {ls : Array Slot} {nL : Nat} {i : Nat} {v v2 : Value} {q : List (Nat × Value)} (e : v = v2) (h : lv_has ls nL ((i, v) :: q)) : lv_has ls nL ((i, v2) :: q) := e ▸ h

set_option maxHeartbeats 4000000 in
set_option maxRecDepth 100000 in
theorem c_X1_pickByPartsAndRests (l : Launch) {D : va_G} {cI cJ cII : ClassId} {ad : Nat → Nat} (hJ : fl_inj 62 ad) (M : fl_M) (n : Nat) (kp : Option Nat) (w : Nat → Nat) (hW : fc_W n kp w M) (d : a_D) (hd : fc_D d M) (hT0 : 0 < a_sum w n) : Met l yX1_pickByPartsAndRests wsX1_pickByPartsAndRests ({ frames := 3, cells := 0, slots := 0, locals := 67 } : Room) (fcPc D cI cJ cII ad M [.ref (ad 9), .ref (ad 8), .ref (ad 6)]) (va_Qv (fun M2 => fl_row (M2.1 10) (a_pick (a_f0 (a_rests w n) n) (n - a_sum (a_parts w n) n) 0 (a_parts w n, d)).1 n 64 ∧ fc_D (a_pick (a_f0 (a_rests w n) n) (n - a_sum (a_parts w n) n) 0 (a_parts w n, d)).2 M2 ∧ fl_eq fc_PP M M2) (fcQ D cI cII ad) (fl_A 62 ad)) 0 0 (fl_A 62 ad) := by
  refine Met.ofW (cc := cX1_pickByPartsAndRests) (maxL := 9) (ret := none) (by decide) rfl ?_
  intro p e s m args below meth c s₁ B hml hv
  obtain ⟨rfl, hP, hK, hN⟩ := hv
  have hx := B.exec
  have hb := B.bytes
  have hr := B.returns
  have hts := atoms_spec (ws := wsX1_pickByPartsAndRests) B.pre
  have hown : s.vm.findClass RX1 = some m.cls := findClass_of_methodNamed B.named
  have hlocks := B.notSynchronized
  have inX1 : ∀ w ∈ u_ws RX1 TX1 2, w ∈ wsX1_pickByPartsAndRests := by decide +kernel
  have inX2 : ∀ w ∈ u_ws RX2 TX2 13, w ∈ wsX1_pickByPartsAndRests := by decide +kernel
  have hS : va_S (fl_A 62 ad) s.heap s.heap [] := va_S.rf
  have hl := lv_entry ([.ref (ad 9), .ref (ad 8), .ref (ad 6)] : List Value) (n := 9) (Nat.le_of_ble_eq_true rfl)
  rw [lg_entry_eq]
  generalize (lg_sl ([.ref (ad 9), .ref (ad 8), .ref (ad 6)] : List Value) ++ List.replicate (9 - (lg_sl ([.ref (ad 9), .ref (ad 8), .ref (ad 6)] : List Value)).length) Slot.unset).toArray = ls at hl ⊢
  have hl : lv_has ls 9 [(0, .ref (ad 9)), (1, .ref (ad 8)), (2, .ref (ad 6))] := hl
  obtain ⟨⟨hn0, hn, hn1⟩, ⟨hkp, hkl⟩, hw8, hww⟩ := id hW
  have hTl : a_sum w n ≤ 16000000 := by have := a_row_le (B := 1000000) hww; omega
  have hpl := a_parts_le hT0
  refine lv_aload_n hx hb dX1_pickByPartsAndRests_0 rfl (lv_at hl 1 rfl) ?_
  refine va_calll (va_runV (As := []) (rest := []) ⟨hx, hb, hml, hown, hts⟩ (c_X2_total l hJ M n w hn hn1 hW.l8 hww) (cwV 0 hts gX1_pickByPartsAndRests_X2_total rfl rfl rfl (by decide +kernel) ⟨Nat.le_of_ble_eq_true rfl, Nat.le_of_ble_eq_true rfl⟩) ⟨fl_blind, va_recv hK hP (ci := 4) (q0 := 8) rfl (fl_at (by decide) rfl), fl_pre hP hK hN⟩ rfl rfl hl.1 rfl (lv_room (Nat.le_of_ble_eq_true rfl)) dX1_pickByPartsAndRests_1 ⟨Nat.le_of_ble_eq_true rfl, Nat.le_of_ble_eq_true rfl⟩) hS (fun _ _ h => h) (fun _ h => h) (fun r1 M1 t H1 locs ht hvm hw hB hz1 hk1 hS => ?_)
  have hP : va_P D vwCl (fcP cI cII ad M1) H1 := by rw [← ht]; exact hB
  clear hB hk1 hz1 hvm ht t
  obtain ⟨rfl, hE⟩ := hw
  rw [hE] at hP
  refine lv_lstore_n (lv' := [(3, .long (lN (a_sum w n))), (0, .ref (ad 9)), (1, .ref (ad 8)), (2, .ref (ad 6))]) hx hb dX1_pickByPartsAndRests_4 rfl hl (by decide) rfl (fun ls hl => ?_)
  refine lv_lload_n hx hb dX1_pickByPartsAndRests_5 rfl (lv_at hl 0 rfl) ?_
  refine lv_lconst (v := 0) hx hb dX1_pickByPartsAndRests_6 (by decide) ?_
  refine fl_lgt (tgt := 12) hx hb dX1_pickByPartsAndRests_7 dX1_pickByPartsAndRests_8 (by decide) (fun hc7 => ?_) (fun hc7 => ?_)
  · refine lv_aload_n hx hb dX1_pickByPartsAndRests_12 rfl (lv_at hl 2 rfl) ?_
    refine va_get (D := D) (ci := 4) (v := .int (M.1 8 2)) (C := RX2) (T := TX2) (N := 13) hx hb hts inX2 hown hK hP 8 (fl_at (by decide) rfl) rfl 2 (by decide) (hts (.fieldLink RX1 43 "ResampledRows$Run" "n" "I") (by decide +kernel)) (fun _ h9 => h9) rfl dX1_pickByPartsAndRests_13 ?_
    refine fl_ti (y := nI n) hn1 ?_
    refine lv_istore (lv' := [(5, .int (nI n)), (3, .long (lN (a_sum w n))), (0, .ref (ad 9)), (1, .ref (ad 8)), (2, .ref (ad 6))]) hx hb dX1_pickByPartsAndRests_16 hl (by decide) rfl (fun ls hl => ?_)
    refine lv_iconst (v := 0) hx hb dX1_pickByPartsAndRests_18 (by decide) ?_
    refine lv_istore (lv' := [(6, .int 0), (5, .int (nI n)), (3, .long (lN (a_sum w n))), (0, .ref (ad 9)), (1, .ref (ad 8)), (2, .ref (ad 6))]) hx hb dX1_pickByPartsAndRests_19 hl (by decide) rfl (fun ls hl => ?_)
    suffices KL21 : ∀ (f : Nat) (i : Nat) (M3 : fl_M) (hi : i ≤ n) (hr1 : fl_row (M3.1 10) (a_parts w n) i 17) (hr2 : fl_row (M3.1 11) (a_rests w n) i 16000001) (he : fl_eq (fun c => c ≠ 10 ∧ c ≠ 11) M M3) (hf : n + 1 ≤ i + f), ∀ (H : Heap) (locs : List Loc), va_P D vwCl (fcP cI cII ad M3) H → va_S (fl_A 62 ad) s.heap H locs → ∀ (ls : Array Slot), lv_has ls 9 [(0, .ref (ad 9)), (1, .ref (ad 8)), (2, .ref (ad 6)), (3, .long (lN (a_sum w n))), (5, .int (nI (n - a_sum (a_parts w n) i))), (6, .int (nI i))] → W p l e (headSpec wsX1_pickByPartsAndRests ({ frames := 3, cells := 0, slots := 0, locals := 67 } : Room)).room s m ([.ref (ad 9), .ref (ad 8), .ref (ad 6)] : List Value).toArray below meth c H locs 0 0 (MQ below (va_Qv (fun M2 => fl_row (M2.1 10) (a_pick (a_f0 (a_rests w n) n) (n - a_sum (a_parts w n) n) 0 (a_parts w n, d)).1 n 64 ∧ fc_D (a_pick (a_f0 (a_rests w n) n) (n - a_sum (a_parts w n) n) 0 (a_parts w n, d)).2 M2 ∧ fl_eq fc_PP M M2) (fcQ D cI cII ad) (fl_A 62 ad)) ([.ref (ad 9), .ref (ad 8), .ref (ad 6)] : List Value).toArray s 0 0 (fl_A 62 ad)) (F0 m 21 ls []) from KL21 (n + 1) 0 M (Nat.zero_le n) (fun k hk => absurd hk (Nat.not_lt_zero k)) (fun k hk => absurd hk (Nat.not_lt_zero k)) fl_eq.rf (by omega) _ _ hP hS ls (lv_sub hl [3, 4, 5, 2, 1, 0] rfl)
    intro f
    induction f with
    | zero =>
      intro i M3 hi hr1 hr2 he hf
      omega
    | succ f ih21 =>
      intro i M3 hi hr1 hr2 he hf H locs hP hS ls hl
      have hW3 := hW.eq (he.mono (fun c hc => ⟨hc.2.1, hc.2.2⟩))
      obtain ⟨⟨-, -, hn3⟩, -, hw83, hww3⟩ := id hW3
      refine lv_iload hx hb dX1_pickByPartsAndRests_21 (lv_at hl 5 rfl) ?_
      refine lv_aload_n hx hb dX1_pickByPartsAndRests_23 rfl (lv_at hl 1 rfl) ?_
      refine va_get (D := D) (ci := 4) (v := .int (M3.1 8 2)) (C := RX2) (T := TX2) (N := 13) hx hb hts inX2 hown hK hP 8 (fl_at (by decide) rfl) rfl 2 (by decide) (hts (.fieldLink RX1 43 "ResampledRows$Run" "n" "I") (by decide +kernel)) (fun _ h9 => h9) rfl dX1_pickByPartsAndRests_24 ?_
      refine fl_ti (y := nI n) hn3 ?_
      refine lv_icmp_ge (tgt := 88) hx hb dX1_pickByPartsAndRests_27 (by decide) (fun hc27 => ?_) (fun hc27 => ?_)
      · have e27 : i = n := Nat.le_antisymm hi ((nI_leI (by omega) (by omega)).mp hc27)
        have hr1N : fl_row (M3.1 10) (a_parts w n) n 17 := e27 ▸ hr1
        have hr2N : fl_row (M3.1 11) (a_rests w n) n 16000001 := e27 ▸ hr2
        have hd3 : fc_D d M3 := hd.eq he (by decide) (by decide)
        refine lv_iconst (v := 0) hx hb dX1_pickByPartsAndRests_88 (by decide) ?_
        refine lv_istore (lv' := [(6, .int 0), (0, .ref (ad 9)), (1, .ref (ad 8)), (2, .ref (ad 6)), (3, .long (lN (a_sum w n))), (5, .int (nI (n - a_sum (a_parts w n) i)))]) hx hb dX1_pickByPartsAndRests_89 hl (by decide) rfl (fun ls hl => ?_)
        suffices KL91 : ∀ (f : Nat) (k : Nat) (M4 : fl_M) (q : (Nat → Nat) × a_D) (hk : k ≤ n - a_sum (a_parts w n) i) (hrow : fl_row (M4.1 10) q.1 n (17 + k)) (hD : fc_D q.2 M4) (hinv : a_pick (a_f0 (a_rests w n) n) (n - a_sum (a_parts w n) i - k) k q = a_pick (a_f0 (a_rests w n) n) (n - a_sum (a_parts w n) i) 0 (a_parts w n, d)) (he2 : fl_eq (fun c => c ≠ 6 ∧ c ≠ 10) M3 M4) (hf2 : n - a_sum (a_parts w n) i + 1 ≤ k + f), ∀ (H : Heap) (locs : List Loc), va_P D vwCl (fcP cI cII ad M4) H → va_S (fl_A 62 ad) s.heap H locs → ∀ (ls : Array Slot), lv_has ls 9 [(0, .ref (ad 9)), (1, .ref (ad 8)), (2, .ref (ad 6)), (3, .long (lN (a_sum w n))), (5, .int (nI (n - a_sum (a_parts w n) i))), (6, .int (nI k))] → W p l e (headSpec wsX1_pickByPartsAndRests ({ frames := 3, cells := 0, slots := 0, locals := 67 } : Room)).room s m ([.ref (ad 9), .ref (ad 8), .ref (ad 6)] : List Value).toArray below meth c H locs 0 0 (MQ below (va_Qv (fun M2 => fl_row (M2.1 10) (a_pick (a_f0 (a_rests w n) n) (n - a_sum (a_parts w n) n) 0 (a_parts w n, d)).1 n 64 ∧ fc_D (a_pick (a_f0 (a_rests w n) n) (n - a_sum (a_parts w n) n) 0 (a_parts w n, d)).2 M2 ∧ fl_eq fc_PP M M2) (fcQ D cI cII ad) (fl_A 62 ad)) ([.ref (ad 9), .ref (ad 8), .ref (ad 6)] : List Value).toArray s 0 0 (fl_A 62 ad)) (F0 m 91 ls []) from KL91 (n - a_sum (a_parts w n) i + 1) 0 M3 (a_parts w n, d) (Nat.zero_le _) hr1N hd3 rfl fl_eq.rf (by omega) _ _ hP hS ls (lv_sub hl [1, 2, 3, 4, 5, 0] rfl)
        intro f
        induction f with
        | zero =>
          intro k M4 q hk hrow hD hinv he2 hf2
          omega
        | succ f ih91 =>
          intro k M4 q hk hrow hD hinv he2 hf2 H locs hP hS ls hl
          have hn4 : M4.1 8 2 = nI n := by rw [(he2 8 (by decide)).1]; exact hn3
          refine lv_iload hx hb dX1_pickByPartsAndRests_91 (lv_at hl 5 rfl) ?_
          refine lv_iload hx hb dX1_pickByPartsAndRests_93 (lv_at hl 4 rfl) ?_
          refine lv_icmp_ge (tgt := 120) hx hb dX1_pickByPartsAndRests_95 (by decide) (fun hc95 => ?_) (fun hc95 => ?_)
          · have e95 : k = n - a_sum (a_parts w n) i := Nat.le_antisymm hk ((nI_leI (by omega) (by omega)).mp hc95)
            have hfin : q = a_pick (a_f0 (a_rests w n) n) (n - a_sum (a_parts w n) n) 0 (a_parts w n, d) := by
              have h7 := hinv
              rw [e95, Nat.sub_self, e27] at h7
              exact h7
            exact W.vret hx hb hr (fun t ht hW => ⟨⟨M4, rfl, ⟨by rw [← hfin]; exact hrow.lt (by omega), by rw [← hfin]; exact hD, (he.mono (fun c hc => ⟨hc.2.1, hc.2.2⟩)).tr (he2.mono (fun c hc => ⟨hc.1, hc.2.1⟩))⟩, fl_qi ht hP⟩, hS.F ht⟩) hS.2.2 dX1_pickByPartsAndRests_120
          · have l95 : k < n - a_sum (a_parts w n) i := Nat.lt_of_not_le (fun q => hc95 ((nI_leI (by omega) (by omega)).mpr q))
            have hrp : 0 < a_sum (a_rests w n) n := a_rests_pos hT0 (by rw [e27] at l95; omega)
            refine lv_aload_n hx hb dX1_pickByPartsAndRests_98 rfl (lv_at hl 0 rfl) ?_
            refine lv_aload_n hx hb dX1_pickByPartsAndRests_99 rfl (lv_at hl 2 rfl) ?_
            refine lv_aload_n hx hb dX1_pickByPartsAndRests_100 rfl (lv_at hl 0 rfl) ?_
            refine va_get (D := D) (ci := 3) (v := .ref (ad 11)) (C := RX1) (T := TX1) (N := 2) hx hb hts inX1 hown hK hP 9 (fl_at (by decide) rfl) rfl 1 (by decide) (hts (.fieldLink RX1 15 "ResampledRows$Picks" "rests" "[I") (by decide +kernel)) (fun _ h9 => h9) rfl dX1_pickByPartsAndRests_101 ?_
            refine lv_aload_n hx hb dX1_pickByPartsAndRests_104 rfl (lv_at hl 1 rfl) ?_
            refine va_get (D := D) (ci := 4) (v := .int (M4.1 8 2)) (C := RX2) (T := TX2) (N := 13) hx hb hts inX2 hown hK hP 8 (fl_at (by decide) rfl) rfl 2 (by decide) (hts (.fieldLink RX1 43 "ResampledRows$Run" "n" "I") (by decide +kernel)) (fun _ h9 => h9) rfl dX1_pickByPartsAndRests_105 ?_
            refine fl_ti (y := nI n) hn4 ?_
            refine va_calli (va_runV (As := [.ref (ad 11), .int (nI n)]) (rest := [.ref (ad 9)]) ⟨hx, hb, hml, hown, hts⟩ (c_X0_byWeights l hJ M4 q.2 11 16 n (a_rests w n) rfl (by decide) hn (by decide) (fun j hj => by rw [(he2 11 (by decide)).1]; exact ⟨(hr2N j hj).1, by have := (hr2N j hj).2; omega⟩) (by have := a_row_le (B := 16000000) hr2N; omega) hD) (cwV 2 hts gX1_pickByPartsAndRests_X0_byWeights rfl rfl rfl (by decide +kernel) ⟨Nat.le_of_ble_eq_true rfl, Nat.le_of_ble_eq_true rfl⟩) ⟨fl_blind, va_recv hK hP (ci := 2) (q0 := 6) rfl (fl_at (by decide) rfl), fl_pre hP hK hN⟩ rfl rfl hl.1 rfl (lv_room (Nat.le_of_ble_eq_true rfl)) dX1_pickByPartsAndRests_108 ⟨Nat.le_of_ble_eq_true rfl, Nat.le_of_ble_eq_true rfl⟩) hS (fun _ _ h => h) (fun _ h => h) (fun r108 M108 t H1 locs ht hvm hw hB hz1 hk1 hS => ?_)
            have hP : va_P D vwCl (fcP cI cII ad M108) H1 := by rw [← ht]; exact hB
            clear hB hk1 hz1 hvm ht t
            obtain ⟨rfl, hDb, heb⟩ := hw
            obtain ⟨x, hx0⟩ : ∃ x, x = ((a_f0 (a_rests w n) n) k q.2).1 := ⟨_, rfl⟩
            have hxn : x < n := by rw [hx0]; exact a_f0_lt hrp k q.2
            refine fl_ti (y := nI x) (by rw [hx0, a_by_some (by omega)]; rfl) ?_
            refine va_callv (va_runV (As := [.int (nI x)]) (rest := []) ⟨hx, hb, hml, hown, hts⟩ (c_X1_add l hJ M108 x (by omega)) (cwV 1 hts gX1_pickByPartsAndRests_X1_add rfl rfl rfl (by decide +kernel) ⟨Nat.le_of_ble_eq_true rfl, Nat.le_of_ble_eq_true rfl⟩) ⟨fl_blind, va_recv hK hP (ci := 3) (q0 := 9) rfl (fl_at (by decide) rfl), fl_pre hP hK hN⟩ rfl rfl hl.1 rfl (lv_room (Nat.le_of_ble_eq_true rfl)) dX1_pickByPartsAndRests_111 ⟨Nat.le_of_ble_eq_true rfl, Nat.le_of_ble_eq_true rfl⟩) hS (fun _ _ h => h) (fun _ h => h) (fun M111 t H1 locs ht hvm hw hB hz1 hk1 hS => ?_)
            have hP : va_P D vwCl (fcP cI cII ad M111) H1 := by rw [← ht]; exact hB
            clear hB hk1 hz1 hvm ht t
            rw [hw] at hP
            have hrow4 : fl_row ((fl_sI M108 10 x (M108.1 10 x + 1)).1 10) (a_bump q.1 ((a_f0 (a_rests w n) n) k q.2).1) n (17 + (k + 1)) := by
              rw [fl_sI_same, ← hx0]
              exact (hrow.cast (heb 10 (by decide)).1).bump hxn
            have hD4 : fc_D ((a_f0 (a_rests w n) n) k q.2).2 (fl_sI M108 10 x (M108.1 10 x + 1)) := hDb.eq (P := fun c => c = 6 ∨ c = 7) (fl_eq.rf.sI (by decide) _ _) (Or.inl rfl) (Or.inr rfl)
            have he4 : fl_eq (fun c => c ≠ 6 ∧ c ≠ 10) M3 (fl_sI M108 10 x (M108.1 10 x + 1)) := (he2.tr (heb.mono (fun c hc => hc.1))).sI (fun z => z.2 rfl) _ _
            refine lv_iinc (v := nI (k + 1)) (lv' := [(6, .int (nI (k + 1))), (0, .ref (ad 9)), (1, .ref (ad 8)), (2, .ref (ad 6)), (3, .long (lN (a_sum w n))), (5, .int (nI (n - a_sum (a_parts w n) i)))]) hx hb dX1_pickByPartsAndRests_114 hl (k := 5) rfl (fl_inc k) (by decide) rfl (fun ls hl => ?_)
            refine lv_goto (tgt := 91) hx hb dX1_pickByPartsAndRests_117 (by decide) ?_
            exact ih91 (k + 1) (fl_sI M108 10 x (M108.1 10 x + 1)) (a_bump q.1 ((a_f0 (a_rests w n) n) k q.2).1, ((a_f0 (a_rests w n) n) k q.2).2) (by omega) hrow4 hD4 (by rw [← hinv, a_pick_s l95]) he4 (by omega) _ _ hP hS ls (lv_sub hl [1, 2, 3, 4, 5, 0] rfl)
      · have l27 : i < n := Nat.lt_of_not_le (fun q => hc27 ((nI_leI (by omega) (by omega)).mpr q))
        have hwi := (hww i l27).2
        have hnw : n * w i ≤ 16 * 1000000 := Nat.mul_le_mul hn (by omega)
        have hps : a_sum (a_parts w n) (i + 1) ≤ a_sum (a_parts w n) n := a_sum_mono _ l27
        have hpe : a_sum (a_parts w n) (i + 1) = a_sum (a_parts w n) i + a_parts w n i := rfl
        refine lv_aload_n hx hb dX1_pickByPartsAndRests_30 rfl (lv_at hl 1 rfl) ?_
        refine va_get (D := D) (ci := 4) (v := .int (M3.1 8 2)) (C := RX2) (T := TX2) (N := 13) hx hb hts inX2 hown hK hP 8 (fl_at (by decide) rfl) rfl 2 (by decide) (hts (.fieldLink RX1 43 "ResampledRows$Run" "n" "I") (by decide +kernel)) (fun _ h9 => h9) rfl dX1_pickByPartsAndRests_31 ?_
        refine fl_ti (y := nI n) hn3 ?_
        refine lv_i2l (v := (nI n).toInt64) hx hb dX1_pickByPartsAndRests_34 rfl ?_
        refine fl_tl (y := lN n) (nI_l (by omega)) ?_
        refine lv_aload_n hx hb dX1_pickByPartsAndRests_35 rfl (lv_at hl 1 rfl) ?_
        refine va_get (D := D) (ci := 4) (v := .ref (ad (M3.2.2.2 8 8))) (C := RX2) (T := TX2) (N := 13) hx hb hts inX2 hown hK hP 8 (fl_at (by decide) rfl) rfl 8 (by decide) (hts (.fieldLink RX1 59 "ResampledRows$Run" "weights" "[I") (by decide +kernel)) (fun _ h9 => h9) rfl dX1_pickByPartsAndRests_36 ?_
        refine lv_iload hx hb dX1_pickByPartsAndRests_39 (lv_at hl 5 rfl) ?_
        refine fl_ild (n := 16) (k := i) hx hb hK hP (fc_a cI cII ad _ hW3.l8 (by decide)) rfl rfl (by omega) (by decide) dX1_pickByPartsAndRests_41 ?_
        refine fl_ti (y := nI (w i)) ((hww3 i l27).1) ?_
        refine lv_i2l (v := (nI (w i)).toInt64) hx hb dX1_pickByPartsAndRests_42 rfl ?_
        refine fl_tl (y := lN (w i)) (nI_l (by omega)) ?_
        refine lv_lmul hx hb dX1_pickByPartsAndRests_43 ?_
        refine fl_tl (y := lN (n * w i)) (lN_mul _ _) ?_
        refine lv_lstore (lv' := [(7, .long (lN (n * w i))), (0, .ref (ad 9)), (1, .ref (ad 8)), (2, .ref (ad 6)), (3, .long (lN (a_sum w n))), (5, .int (nI (n - a_sum (a_parts w n) i))), (6, .int (nI i))]) hx hb dX1_pickByPartsAndRests_44 hl (by decide) rfl (fun ls hl => ?_)
        refine lv_aload_n hx hb dX1_pickByPartsAndRests_46 rfl (lv_at hl 1 rfl) ?_
        refine va_get (D := D) (ci := 3) (v := .ref (ad 10)) (C := RX1) (T := TX1) (N := 2) hx hb hts inX1 hown hK hP 9 (fl_at (by decide) rfl) rfl 0 (by decide) (hts (.fieldLink RX1 9 "ResampledRows$Picks" "times" "[I") (by decide +kernel)) (fun _ h9 => h9) rfl dX1_pickByPartsAndRests_47 ?_
        refine lv_iload hx hb dX1_pickByPartsAndRests_50 (lv_at hl 6 rfl) ?_
        refine lv_lload hx hb dX1_pickByPartsAndRests_52 (lv_at hl 0 rfl) ?_
        refine lv_lload_n hx hb dX1_pickByPartsAndRests_54 rfl (lv_at hl 4 rfl) ?_
        refine lv_ldiv hx hb dX1_pickByPartsAndRests_55 (fun z => absurd ((pk_lEQ (b := 0) (by omega) (by decide)).mp z) (by omega)) ?_
        refine fl_tl (y := lN (n * w i / a_sum w n)) (pk_lDiv (by omega) hT0 (by omega)) ?_
        refine lv_l2i (v := (lN (n * w i / a_sum w n)).toInt32) hx hb dX1_pickByPartsAndRests_56 rfl ?_
        refine fl_ti (y := nI (a_parts w n i)) (lN_i _) ?_
        refine fl_ist (n := 16) (k := i) (x := nI (a_parts w n i)) hx hb hK hJ hP hS (fc_loc cI cII ad) (fc_a cI cII ad _ rfl (by decide)) (fc_arr cI cII ad _ rfl (by decide)).2 rfl rfl (by omega) (by decide) dX1_pickByPartsAndRests_57 (fun H locs hP hS => ?_)
        refine lv_aload_n hx hb dX1_pickByPartsAndRests_58 rfl (lv_at hl 1 rfl) ?_
        refine va_get (D := D) (ci := 3) (v := .ref (ad 11)) (C := RX1) (T := TX1) (N := 2) hx hb hts inX1 hown hK hP 9 (fl_at (by decide) rfl) rfl 1 (by decide) (hts (.fieldLink RX1 15 "ResampledRows$Picks" "rests" "[I") (by decide +kernel)) (fun _ h9 => h9) rfl dX1_pickByPartsAndRests_59 ?_
        refine lv_iload hx hb dX1_pickByPartsAndRests_62 (lv_at hl 6 rfl) ?_
        refine lv_lload hx hb dX1_pickByPartsAndRests_64 (lv_at hl 0 rfl) ?_
        refine lv_lload_n hx hb dX1_pickByPartsAndRests_66 rfl (lv_at hl 4 rfl) ?_
        refine lv_lrem hx hb dX1_pickByPartsAndRests_67 (fun z => absurd ((pk_lEQ (b := 0) (by omega) (by decide)).mp z) (by omega)) ?_
        refine fl_tl (y := lN (n * w i % a_sum w n)) (pk_lRem (by omega) hT0 (by omega)) ?_
        refine lv_l2i (v := (lN (n * w i % a_sum w n)).toInt32) hx hb dX1_pickByPartsAndRests_68 rfl ?_
        refine fl_ti (y := nI (a_rests w n i)) (lN_i _) ?_
        refine fl_ist (n := 16) (k := i) (x := nI (a_rests w n i)) hx hb hK hJ hP hS (fc_loc cI cII ad) (fc_a cI cII ad _ rfl (by decide)) (fc_arr cI cII ad _ rfl (by decide)).2 rfl rfl (by omega) (by decide) dX1_pickByPartsAndRests_69 (fun H locs hP hS => ?_)
        refine lv_iload hx hb dX1_pickByPartsAndRests_70 (lv_at hl 5 rfl) ?_
        refine lv_aload_n hx hb dX1_pickByPartsAndRests_72 rfl (lv_at hl 1 rfl) ?_
        refine va_get (D := D) (ci := 3) (v := .ref (ad 10)) (C := RX1) (T := TX1) (N := 2) hx hb hts inX1 hown hK hP 9 (fl_at (by decide) rfl) rfl 0 (by decide) (hts (.fieldLink RX1 9 "ResampledRows$Picks" "times" "[I") (by decide +kernel)) (fun _ h9 => h9) rfl dX1_pickByPartsAndRests_73 ?_
        refine lv_iload hx hb dX1_pickByPartsAndRests_76 (lv_at hl 6 rfl) ?_
        refine fl_ild (n := 16) (k := i) hx hb hK hP (fc_a cI cII ad _ rfl (by decide)) rfl rfl (by omega) (by decide) dX1_pickByPartsAndRests_78 ?_
        refine fl_ti (y := nI (a_parts w n i)) (fl_rdI M3 10 i (nI (a_parts w n i))) ?_
        refine lv_isub hx hb dX1_pickByPartsAndRests_79 ?_
        refine fl_ti (y := nI (n - a_sum (a_parts w n) (i + 1))) (by rw [pk_sub (by omega), Nat.sub_sub]; rfl) ?_
        refine lv_istore (lv' := [(5, .int (nI (n - a_sum (a_parts w n) (i + 1)))), (7, .long (lN (n * w i))), (0, .ref (ad 9)), (1, .ref (ad 8)), (2, .ref (ad 6)), (3, .long (lN (a_sum w n))), (6, .int (nI i))]) hx hb dX1_pickByPartsAndRests_80 hl (by decide) rfl (fun ls hl => ?_)
        refine lv_iinc (v := nI (i + 1)) (lv' := [(6, .int (nI (i + 1))), (5, .int (nI (n - a_sum (a_parts w n) (i + 1)))), (7, .long (lN (n * w i))), (0, .ref (ad 9)), (1, .ref (ad 8)), (2, .ref (ad 6)), (3, .long (lN (a_sum w n)))]) hx hb dX1_pickByPartsAndRests_82 hl (k := 6) rfl (fl_inc i) (by decide) rfl (fun ls hl => ?_)
        refine lv_goto (tgt := 21) hx hb dX1_pickByPartsAndRests_85 (by decide) ?_
        exact ih21 (i + 1) (fl_sI (fl_sI M3 10 i (nI (a_parts w n i))) 11 i (nI (a_rests w n i))) (by omega) (hr1.push rfl (by have := a_parts_lt (w := w) l27; omega)) (hr2.push rfl (by have := Nat.mod_lt (n * w i) hT0; show n * w i % a_sum w n < 16000001; omega)) ((he.sI (fun z => z.1 rfl) _ _).sI (fun z => z.2 rfl) _ _) (by omega) _ _ hP hS ls (lv_sub hl [3, 4, 5, 6, 1, 0] rfl)
  · exact absurd ((pk_lLT (a := 0) (by decide) (by omega)).mpr hT0) hc7

set_option maxHeartbeats 4000000 in
set_option maxRecDepth 100000 in
theorem c_X1_putIn (l : Launch) {D : va_G} {cI cJ cII : ClassId} {ad : Nat → Nat} (hJ : fl_inj 62 ad) (M : fl_M) (n : Nat) (kp : Option Nat) (t0 : Nat → Nat) (hn0 : 0 < n) (hn : n ≤ 16) (hkl : ∀ k, kp = some k → k < n) (h10 : fl_row (M.1 10) t0 n 64) (hpos : 0 < a_sum t0 n) : Met l yX1_putIn wsX1_putIn ({ frames := 0, cells := 0, slots := 0, locals := 0 } : Room) (fcPc D cI cJ cII ad M [.ref (ad 9), .int (a_oI kp (-1000009)), .int (nI n)]) (va_Qv (fun M2 => fl_row (M2.1 10) (a_putin kp n t0) n 65 ∧ fl_eq (fun c => c ≠ 10) M M2) (fcQ D cI cII ad) (fl_A 62 ad)) 0 0 (fl_A 62 ad) := by
  refine Met.ofW (cc := cX1_putIn) (maxL := 4) (ret := none) (by decide) rfl ?_
  intro p e s m args below meth c s₁ B hml hv
  obtain ⟨rfl, hP, hK, hN⟩ := hv
  have hx := B.exec
  have hb := B.bytes
  have hr := B.returns
  have hts := atoms_spec (ws := wsX1_putIn) B.pre
  have hown : s.vm.findClass RX1 = some m.cls := findClass_of_methodNamed B.named
  have hlocks := B.notSynchronized
  have inX1 : ∀ w ∈ u_ws RX1 TX1 2, w ∈ wsX1_putIn := by decide +kernel
  have hS : va_S (fl_A 62 ad) s.heap s.heap [] := va_S.rf
  have hl := lv_entry ([.ref (ad 9), .int (a_oI kp (-1000009)), .int (nI n)] : List Value) (n := 4) (Nat.le_of_ble_eq_true rfl)
  rw [lg_entry_eq]
  generalize (lg_sl ([.ref (ad 9), .int (a_oI kp (-1000009)), .int (nI n)] : List Value) ++ List.replicate (4 - (lg_sl ([.ref (ad 9), .int (a_oI kp (-1000009)), .int (nI n)] : List Value)).length) Slot.unset).toArray = ls at hl ⊢
  have hl : lv_has ls 4 [(0, .ref (ad 9)), (1, .int (a_oI kp (-1000009))), (2, .int (nI n))] := hl
  refine lv_iload_n hx hb dX1_putIn_0 rfl (lv_at hl 1 rfl) ?_
  refine lv_if_lt (tgt := 18) hx hb dX1_putIn_1 (by decide) (fun hc1 => ?_) (fun hc1 => ?_)
  · have hres : a_putin kp n t0 = t0 := a_putin_none (a_oI_lt hkl hn hc1)
    exact W.vret hx hb hr (fun t ht hW => ⟨⟨M, rfl, ⟨by rw [hres]; exact h10.lt (by decide), fl_eq.rf⟩, fl_qi ht hP⟩, hS.F ht⟩) hS.2.2 dX1_putIn_18
  · obtain ⟨k, hk⟩ := a_oI_nlt (by decide) hc1
    have hkn := hkl k hk
    refine lv_iload_n hx hb dX1_putIn_4 rfl (lv_at hl 1 rfl) ?_
    refine fl_ti (y := nI k) (by rw [hk]; rfl) ?_
    refine lv_iload_n hx hb dX1_putIn_5 rfl (lv_at hl 2 rfl) ?_
    refine lv_icmp_ge (tgt := 18) hx hb dX1_putIn_6 (by decide) (fun hc6 => ?_) (fun hc6 => ?_)
    · exact absurd ((nI_leI (by omega) (by omega)).mp hc6) (by omega)
    · refine lv_aload_n hx hb dX1_putIn_9 rfl (lv_at hl 0 rfl) ?_
      refine va_get (D := D) (ci := 3) (v := .ref (ad 10)) (C := RX1) (T := TX1) (N := 2) hx hb hts inX1 hown hK hP 9 (fl_at (by decide) rfl) rfl 0 (by decide) (hts (.fieldLink RX1 9 "ResampledRows$Picks" "times" "[I") (by decide +kernel)) (fun _ h9 => h9) rfl dX1_putIn_10 ?_
      refine lv_iload_n hx hb dX1_putIn_13 rfl (lv_at hl 1 rfl) ?_
      refine fl_ti (y := nI k) (by rw [hk]; rfl) ?_
      refine fl_ild (n := 16) (k := k) hx hb hK hP (fc_a cI cII ad _ rfl (by decide)) rfl rfl (by omega) (by decide) dX1_putIn_14 ?_
      refine fl_ti (y := nI (t0 k)) ((h10 k hkn).1) ?_
      refine lv_if_le (tgt := 19) hx hb dX1_putIn_15 (by decide) (fun hc15 => ?_) (fun hc15 => ?_)
      · have z15 : t0 k = 0 := fl_len0 (by have := (h10 k hkn).2; omega) hc15
        refine lv_iload_n hx hb dX1_putIn_19 rfl (lv_at hl 2 rfl) ?_
        refine lv_iconst (v := 1) hx hb dX1_putIn_20 (by decide) ?_
        refine lv_isub hx hb dX1_putIn_21 ?_
        refine fl_ti (y := nI (n - 1)) (fl_pred hn0) ?_
        refine lv_istore_n (lv' := [(3, .int (nI (n - 1))), (0, .ref (ad 9)), (1, .int (a_oI kp (-1000009))), (2, .int (nI n))]) hx hb dX1_putIn_22 rfl hl (by decide) rfl (fun ls hl => ?_)
        suffices KL23 : ∀ (f : Nat) (q : Nat) (hq : q < n) (hlast : a_last t0 n = a_last t0 (q + 1)) (hsum : 0 < a_sum t0 (q + 1)) (hf : q + 1 ≤ f), ∀ (H : Heap) (locs : List Loc), va_P D vwCl (fcP cI cII ad M) H → va_S (fl_A 62 ad) s.heap H locs → ∀ (ls : Array Slot), lv_has ls 4 [(0, .ref (ad 9)), (1, .int (a_oI kp (-1000009))), (2, .int (nI n)), (3, .int (nI q))] → W p l e (headSpec wsX1_putIn ({ frames := 0, cells := 0, slots := 0, locals := 0 } : Room)).room s m ([.ref (ad 9), .int (a_oI kp (-1000009)), .int (nI n)] : List Value).toArray below meth c H locs 0 0 (MQ below (va_Qv (fun M2 => fl_row (M2.1 10) (a_putin kp n t0) n 65 ∧ fl_eq (fun c => c ≠ 10) M M2) (fcQ D cI cII ad) (fl_A 62 ad)) ([.ref (ad 9), .int (a_oI kp (-1000009)), .int (nI n)] : List Value).toArray s 0 0 (fl_A 62 ad)) (F0 m 23 ls []) from KL23 n (n - 1) (by omega) (by rw [Nat.sub_add_cancel hn0]) (by rw [Nat.sub_add_cancel hn0]; exact hpos) (by omega) _ _ hP hS ls (lv_sub hl [1, 2, 3, 0] rfl)
        intro f
        induction f with
        | zero =>
          intro q hq hlast hsum hf
          omega
        | succ f ih23 =>
          intro q hq hlast hsum hf H locs hP hS ls hl
          refine lv_iload_n hx hb dX1_putIn_23 rfl (lv_at hl 3 rfl) ?_
          refine lv_if_lt (tgt := 63) hx hb dX1_putIn_24 (by decide) (fun hc24 => ?_) (fun hc24 => ?_)
          · exact absurd hc24 (nI_pos (by omega))
          · refine lv_aload_n hx hb dX1_putIn_27 rfl (lv_at hl 0 rfl) ?_
            refine va_get (D := D) (ci := 3) (v := .ref (ad 10)) (C := RX1) (T := TX1) (N := 2) hx hb hts inX1 hown hK hP 9 (fl_at (by decide) rfl) rfl 0 (by decide) (hts (.fieldLink RX1 9 "ResampledRows$Picks" "times" "[I") (by decide +kernel)) (fun _ h9 => h9) rfl dX1_putIn_28 ?_
            refine lv_iload_n hx hb dX1_putIn_31 rfl (lv_at hl 3 rfl) ?_
            refine fl_ild (n := 16) (k := q) hx hb hK hP (fc_a cI cII ad _ rfl (by decide)) rfl rfl (by omega) (by decide) dX1_putIn_32 ?_
            refine fl_ti (y := nI (t0 q)) ((h10 q hq).1) ?_
            refine lv_if_le (tgt := 57) hx hb dX1_putIn_33 (by decide) (fun hc33 => ?_) (fun hc33 => ?_)
            · have z33 : t0 q = 0 := fl_len0 (by have := (h10 q hq).2; omega) hc33
              have hse : a_sum t0 (q + 1) = a_sum t0 q + t0 q := rfl
              have hsq : 0 < a_sum t0 q := by omega
              have hq0 : 0 < q := Nat.pos_of_ne_zero (fun z => by subst z; exact absurd hsq (Nat.lt_irrefl 0))
              refine lv_iinc (v := nI (q - 1)) (lv' := [(3, .int (nI (q - 1))), (0, .ref (ad 9)), (1, .int (a_oI kp (-1000009))), (2, .int (nI n))]) hx hb dX1_putIn_57 hl (k := 3) rfl (fl_dec hq0) (by decide) rfl (fun ls hl => ?_)
              refine lv_goto (tgt := 23) hx hb dX1_putIn_60 (by decide) ?_
              exact ih23 (q - 1) (by omega) (by rw [hlast, Nat.sub_add_cancel hq0]; exact if_neg (by omega)) (by rw [Nat.sub_add_cancel hq0]; exact hsq) (by omega) _ _ hP hS ls (lv_sub hl [1, 2, 3, 0] rfl)
            · have g33 : 0 < t0 q := fl_len1 (by have := (h10 q hq).2; omega) hc33
              have hla : a_last t0 n = q := by rw [hlast]; exact if_pos g33
              refine lv_aload_n hx hb dX1_putIn_36 rfl (lv_at hl 0 rfl) ?_
              refine va_get (D := D) (ci := 3) (v := .ref (ad 10)) (C := RX1) (T := TX1) (N := 2) hx hb hts inX1 hown hK hP 9 (fl_at (by decide) rfl) rfl 0 (by decide) (hts (.fieldLink RX1 9 "ResampledRows$Picks" "times" "[I") (by decide +kernel)) (fun _ h9 => h9) rfl dX1_putIn_37 ?_
              refine lv_iload_n hx hb dX1_putIn_40 rfl (lv_at hl 3 rfl) ?_
              refine lv_dup2_11 hx hb dX1_putIn_41 rfl rfl ?_
              refine fl_ild (n := 16) (k := q) hx hb hK hP (fc_a cI cII ad _ rfl (by decide)) rfl rfl (by omega) (by decide) dX1_putIn_42 ?_
              refine lv_iconst (v := 1) hx hb dX1_putIn_43 (by decide) ?_
              refine lv_isub hx hb dX1_putIn_44 ?_
              refine fl_ist (n := 16) (k := q) (x := (M.1 10 q) - 1) hx hb hK hJ hP hS (fc_loc cI cII ad) (fc_a cI cII ad _ rfl (by decide)) (fc_arr cI cII ad _ rfl (by decide)).2 rfl rfl (by omega) (by decide) dX1_putIn_45 (fun H locs hP hS => ?_)
              refine lv_aload_n hx hb dX1_putIn_46 rfl (lv_at hl 0 rfl) ?_
              refine va_get (D := D) (ci := 3) (v := .ref (ad 10)) (C := RX1) (T := TX1) (N := 2) hx hb hts inX1 hown hK hP 9 (fl_at (by decide) rfl) rfl 0 (by decide) (hts (.fieldLink RX1 9 "ResampledRows$Picks" "times" "[I") (by decide +kernel)) (fun _ h9 => h9) rfl dX1_putIn_47 ?_
              refine lv_iload_n hx hb dX1_putIn_50 rfl (lv_at hl 1 rfl) ?_
              refine fl_ti (y := nI k) (by rw [hk]; rfl) ?_
              refine lv_dup2_11 hx hb dX1_putIn_51 rfl rfl ?_
              refine fl_ild (n := 16) (k := k) hx hb hK hP (fc_a cI cII ad _ rfl (by decide)) rfl rfl (by omega) (by decide) dX1_putIn_52 ?_
              refine lv_iconst (v := 1) hx hb dX1_putIn_53 (by decide) ?_
              refine lv_iadd hx hb dX1_putIn_54 ?_
              refine fl_ist (n := 16) (k := k) (x := ((fl_sI M 10 q ((M.1 10 q) - 1)).1 10 k) + 1) hx hb hK hJ hP hS (fc_loc cI cII ad) (fc_a cI cII ad _ rfl (by decide)) (fc_arr cI cII ad _ rfl (by decide)).2 rfl rfl (by omega) (by decide) dX1_putIn_55 (fun H locs hP hS => ?_)
              exact W.vret hx hb hr (fun t ht hW => ⟨⟨(fl_sI (fl_sI M 10 q ((M.1 10 q) - 1)) 10 k (((fl_sI M 10 q ((M.1 10 q) - 1)).1 10 k) + 1)), rfl, ⟨by rw [a_putin_zero hk z15, hla]; exact (h10.dec hq g33).bump hkn, (fl_eq.rf.sI (fun z => z rfl) _ _).sI (fun z => z rfl) _ _⟩, fl_qi ht hP⟩, hS.F ht⟩) hS.2.2 dX1_putIn_56
      · have hres : a_putin kp n t0 = t0 := a_putin_pos hk (fl_len1 (by have := (h10 k hkn).2; omega) hc15)
        exact W.vret hx hb hr (fun t ht hW => ⟨⟨M, rfl, ⟨by rw [hres]; exact h10.lt (by decide), fl_eq.rf⟩, fl_qi ht hP⟩, hS.F ht⟩) hS.2.2 dX1_putIn_18

set_option maxHeartbeats 4000000 in
set_option maxRecDepth 100000 in
theorem c_X1_putInOrder (l : Launch) {D : va_G} {cI cJ cII : ClassId} {ad : Nat → Nat} (hJ : fl_inj 62 ad) (M : fl_M) (n : Nat) (t0 : Nat → Nat) (hn : n ≤ 16) (h10 : fl_row (M.1 10) t0 n 65) (hs : a_sum t0 n = n) : Met l yX1_putInOrder wsX1_putInOrder ({ frames := 0, cells := 0, slots := 0, locals := 0 } : Room) (fcPc D cI cJ cII ad M [.ref (ad 9), .ref (ad 12), .int (nI n)]) (va_Qv (fun M2 => fl_row (M2.1 12) (a_ord t0 n) n 16 ∧ fl_eq (fun c => c ≠ 12) M M2) (fcQ D cI cII ad) (fl_A 62 ad)) 0 0 (fl_A 62 ad) := by
  refine Met.ofW (cc := cX1_putInOrder) (maxL := 6) (ret := none) (by decide) rfl ?_
  intro p e s m args below meth c s₁ B hml hv
  obtain ⟨rfl, hP, hK, hN⟩ := hv
  have hx := B.exec
  have hb := B.bytes
  have hr := B.returns
  have hts := atoms_spec (ws := wsX1_putInOrder) B.pre
  have hown : s.vm.findClass RX1 = some m.cls := findClass_of_methodNamed B.named
  have hlocks := B.notSynchronized
  have inX1 : ∀ w ∈ u_ws RX1 TX1 2, w ∈ wsX1_putInOrder := by decide +kernel
  have hS : va_S (fl_A 62 ad) s.heap s.heap [] := va_S.rf
  have hl := lv_entry ([.ref (ad 9), .ref (ad 12), .int (nI n)] : List Value) (n := 6) (Nat.le_of_ble_eq_true rfl)
  rw [lg_entry_eq]
  generalize (lg_sl ([.ref (ad 9), .ref (ad 12), .int (nI n)] : List Value) ++ List.replicate (6 - (lg_sl ([.ref (ad 9), .ref (ad 12), .int (nI n)] : List Value)).length) Slot.unset).toArray = ls at hl ⊢
  have hl : lv_has ls 6 [(0, .ref (ad 9)), (1, .ref (ad 12)), (2, .int (nI n))] := hl
  refine lv_iconst (v := 0) hx hb dX1_putInOrder_0 (by decide) ?_
  refine lv_istore_n (lv' := [(3, .int 0), (0, .ref (ad 9)), (1, .ref (ad 12)), (2, .int (nI n))]) hx hb dX1_putInOrder_1 rfl hl (by decide) rfl (fun ls hl => ?_)
  refine lv_iconst (v := 0) hx hb dX1_putInOrder_2 (by decide) ?_
  refine lv_istore (lv' := [(4, .int 0), (3, .int 0), (0, .ref (ad 9)), (1, .ref (ad 12)), (2, .int (nI n))]) hx hb dX1_putInOrder_3 hl (by decide) rfl (fun ls hl => ?_)
  suffices KL5 : ∀ (f : Nat) (i : Nat) (M3 : fl_M) (hi : i ≤ n) (ho : ∀ x, x < a_sum t0 i → M3.1 12 x = nI (a_ord t0 n x)) (he : fl_eq (fun c => c ≠ 12) M M3) (hf : n + 1 ≤ i + f), ∀ (H : Heap) (locs : List Loc), va_P D vwCl (fcP cI cII ad M3) H → va_S (fl_A 62 ad) s.heap H locs → ∀ (ls : Array Slot), lv_has ls 6 [(0, .ref (ad 9)), (1, .ref (ad 12)), (2, .int (nI n)), (3, .int (nI (a_sum t0 i))), (4, .int (nI i))] → W p l e (headSpec wsX1_putInOrder ({ frames := 0, cells := 0, slots := 0, locals := 0 } : Room)).room s m ([.ref (ad 9), .ref (ad 12), .int (nI n)] : List Value).toArray below meth c H locs 0 0 (MQ below (va_Qv (fun M2 => fl_row (M2.1 12) (a_ord t0 n) n 16 ∧ fl_eq (fun c => c ≠ 12) M M2) (fcQ D cI cII ad) (fl_A 62 ad)) ([.ref (ad 9), .ref (ad 12), .int (nI n)] : List Value).toArray s 0 0 (fl_A 62 ad)) (F0 m 5 ls []) from KL5 (n + 1) 0 M (Nat.zero_le n) (fun x hx => absurd hx (Nat.not_lt_zero x)) fl_eq.rf (by omega) _ _ hP hS ls (lv_sub hl [2, 3, 4, 1, 0] rfl)
  intro f
  induction f with
  | zero =>
    intro i M3 hi ho he hf
    omega
  | succ f ih5 =>
    intro i M3 hi ho he hf H locs hP hS ls hl
    refine lv_iload hx hb dX1_putInOrder_5 (lv_at hl 4 rfl) ?_
    refine lv_iload_n hx hb dX1_putInOrder_7 rfl (lv_at hl 2 rfl) ?_
    refine lv_icmp_ge (tgt := 51) hx hb dX1_putInOrder_8 (by decide) (fun hc8 => ?_) (fun hc8 => ?_)
    · have e8 : i = n := Nat.le_antisymm hi ((nI_leI (by omega) (by omega)).mp hc8)
      exact W.vret hx hb hr (fun t ht hW => ⟨⟨M3, rfl, ⟨fun k hk => ⟨by rw [e8, hs] at ho; exact ho k hk, by have := a_ord_lt hs hk; omega⟩, he⟩, fl_qi ht hP⟩, hS.F ht⟩) hS.2.2 dX1_putInOrder_51
    · have l8 : i < n := Nat.lt_of_not_le (fun q => hc8 ((nI_leI (by omega) (by omega)).mpr q))
      have hsm : a_sum t0 (i + 1) ≤ a_sum t0 n := a_sum_mono _ l8
      have hse : a_sum t0 (i + 1) = a_sum t0 i + t0 i := rfl
      refine lv_iconst (v := 0) hx hb dX1_putInOrder_11 (by decide) ?_
      refine lv_istore (lv' := [(5, .int 0), (0, .ref (ad 9)), (1, .ref (ad 12)), (2, .int (nI n)), (3, .int (nI (a_sum t0 i))), (4, .int (nI i))]) hx hb dX1_putInOrder_12 hl (by decide) rfl (fun ls hl => ?_)
      suffices KL14 : ∀ (f : Nat) (j : Nat) (M4 : fl_M) (hj : j ≤ t0 i) (ho2 : ∀ x, x < a_sum t0 i + j → M4.1 12 x = nI (a_ord t0 n x)) (he2 : fl_eq (fun c => c ≠ 12) M M4) (hf2 : t0 i + 1 ≤ j + f), ∀ (H : Heap) (locs : List Loc), va_P D vwCl (fcP cI cII ad M4) H → va_S (fl_A 62 ad) s.heap H locs → ∀ (ls : Array Slot), lv_has ls 6 [(0, .ref (ad 9)), (1, .ref (ad 12)), (2, .int (nI n)), (3, .int (nI (a_sum t0 i + j))), (4, .int (nI i)), (5, .int (nI j))] → W p l e (headSpec wsX1_putInOrder ({ frames := 0, cells := 0, slots := 0, locals := 0 } : Room)).room s m ([.ref (ad 9), .ref (ad 12), .int (nI n)] : List Value).toArray below meth c H locs 0 0 (MQ below (va_Qv (fun M2 => fl_row (M2.1 12) (a_ord t0 n) n 16 ∧ fl_eq (fun c => c ≠ 12) M M2) (fcQ D cI cII ad) (fl_A 62 ad)) ([.ref (ad 9), .ref (ad 12), .int (nI n)] : List Value).toArray s 0 0 (fl_A 62 ad)) (F0 m 14 ls []) from KL14 (t0 i + 1) 0 M3 (Nat.zero_le _) ho he (by omega) _ _ hP hS ls (lv_sub hl [1, 2, 3, 4, 5, 0] rfl)
      intro f
      induction f with
      | zero =>
        intro j M4 hj ho2 he2 hf2
        omega
      | succ f ih14 =>
        intro j M4 hj ho2 he2 hf2 H locs hP hS ls hl
        refine lv_iload hx hb dX1_putInOrder_14 (lv_at hl 5 rfl) ?_
        refine lv_aload_n hx hb dX1_putInOrder_16 rfl (lv_at hl 0 rfl) ?_
        refine va_get (D := D) (ci := 3) (v := .ref (ad 10)) (C := RX1) (T := TX1) (N := 2) hx hb hts inX1 hown hK hP 9 (fl_at (by decide) rfl) rfl 0 (by decide) (hts (.fieldLink RX1 9 "ResampledRows$Picks" "times" "[I") (by decide +kernel)) (fun _ h9 => h9) rfl dX1_putInOrder_17 ?_
        refine lv_iload hx hb dX1_putInOrder_20 (lv_at hl 4 rfl) ?_
        refine fl_ild (n := 16) (k := i) hx hb hK hP (fc_a cI cII ad _ rfl (by decide)) rfl rfl (by omega) (by decide) dX1_putInOrder_22 ?_
        have ht65 := (h10 i l8).2
        refine fl_ti (y := nI (t0 i)) (by rw [(he2 10 (by decide)).1]; exact (h10 i l8).1) ?_
        refine lv_icmp_ge (tgt := 45) hx hb dX1_putInOrder_23 (by decide) (fun hc23 => ?_) (fun hc23 => ?_)
        · have e23 : j = t0 i := Nat.le_antisymm hj ((nI_leI (by omega) (by omega)).mp hc23)
          have hl : lv_has ls 6 [(0, .ref (ad 9)), (1, .ref (ad 12)), (2, .int (nI n)), (3, .int (nI (a_sum t0 (i + 1)))), (4, .int (nI i))] := by
            have h7 : lv_has ls 6 [(0, .ref (ad 9)), (1, .ref (ad 12)), (2, .int (nI n)), (3, .int (nI (a_sum t0 i + j))), (4, .int (nI i))] := lv_sub hl [0, 1, 2, 3, 4] rfl
            rw [e23] at h7
            exact h7
          refine lv_iinc (v := nI (i + 1)) (lv' := [(4, .int (nI (i + 1))), (0, .ref (ad 9)), (1, .ref (ad 12)), (2, .int (nI n)), (3, .int (nI (a_sum t0 (i + 1))))]) hx hb dX1_putInOrder_45 hl (k := 4) rfl (fl_inc i) (by decide) rfl (fun ls hl => ?_)
          refine lv_goto (tgt := 5) hx hb dX1_putInOrder_48 (by decide) ?_
          exact ih5 (i + 1) M4 (by omega) (by rw [e23] at ho2; exact ho2) he2 (by omega) _ _ hP hS ls (lv_sub hl [1, 2, 3, 4, 0] rfl)
        · have l23 : j < t0 i := Nat.lt_of_not_le (fun q => hc23 ((nI_leI (by omega) (by omega)).mpr q))
          refine lv_iload_n hx hb dX1_putInOrder_26 rfl (lv_at hl 3 rfl) ?_
          refine lv_iload_n hx hb dX1_putInOrder_27 rfl (lv_at hl 2 rfl) ?_
          refine lv_icmp_ge (tgt := 45) hx hb dX1_putInOrder_28 (by decide) (fun hc28 => ?_) (fun hc28 => ?_)
          · exact absurd ((nI_leI (by omega) (by omega)).mp hc28) (by omega)
          · refine lv_aload_n hx hb dX1_putInOrder_31 rfl (lv_at hl 1 rfl) ?_
            refine lv_iload_n hx hb dX1_putInOrder_32 rfl (lv_at hl 3 rfl) ?_
            refine lv_iload hx hb dX1_putInOrder_33 (lv_at hl 4 rfl) ?_
            refine fl_ist (n := 16) (k := (a_sum t0 i + j)) (x := nI i) hx hb hK hJ hP hS (fc_loc cI cII ad) (fc_a cI cII ad _ rfl (by decide)) (fc_arr cI cII ad _ rfl (by decide)).2 rfl rfl (by omega) (by decide) dX1_putInOrder_35 (fun H locs hP hS => ?_)
            refine lv_iinc (v := nI ((a_sum t0 i + j) + 1)) (lv' := [(3, .int (nI ((a_sum t0 i + j) + 1))), (0, .ref (ad 9)), (1, .ref (ad 12)), (2, .int (nI n)), (4, .int (nI i)), (5, .int (nI j))]) hx hb dX1_putInOrder_36 hl (k := 3) rfl (fl_inc (a_sum t0 i + j)) (by decide) rfl (fun ls hl => ?_)
            refine lv_iinc (v := nI (j + 1)) (lv' := [(5, .int (nI (j + 1))), (3, .int (nI ((a_sum t0 i + j) + 1))), (0, .ref (ad 9)), (1, .ref (ad 12)), (2, .int (nI n)), (4, .int (nI i))]) hx hb dX1_putInOrder_39 hl (k := 5) rfl (fl_inc j) (by decide) rfl (fun ls hl => ?_)
            refine lv_goto (tgt := 14) hx hb dX1_putInOrder_42 (by decide) ?_
            exact ih14 (j + 1) (fl_sI M4 12 (a_sum t0 i + j) (nI i)) (by omega) (fun x hx => by rw [fl_sI_same]; exact fc_ordp ho2 (a_ord_eq (by omega) (by omega) l8) x hx) (he2.sI (fun z => z rfl) _ _) (by omega) _ _ hP hS ls (lv_sub hl [2, 3, 4, 1, 5, 0] rfl)

set_option maxHeartbeats 4000000 in
set_option maxRecDepth 100000 in
theorem c_X1_unlike (l : Launch) {D : va_G} {cI cJ cII : ClassId} {ad : Nat → Nat} (hJ : fl_inj 62 ad) (M : fl_M) (n : Nat) (t0 : Nat → Nat) (hn : n ≤ 16) (h10 : fl_row (M.1 10) t0 n 65) : Met l yX1_unlike wsX1_unlike ({ frames := 0, cells := 0, slots := 0, locals := 0 } : Room) (fcPc D cI cJ cII ad M [.ref (ad 9), .int (nI n)]) (va_Qi (fun r M2 => r = nI (a_unl t0 n) ∧ M2 = M) (fcQ D cI cII ad) (fl_A 62 ad)) 0 0 (fl_A 62 ad) := by
  refine Met.ofW (cc := cX1_unlike) (maxL := 4) (ret := (some .int)) (by decide) rfl ?_
  intro p e s m args below meth c s₁ B hml hv
  obtain ⟨rfl, hP, hK, hN⟩ := hv
  have hx := B.exec
  have hb := B.bytes
  have hr := B.returns
  have hts := atoms_spec (ws := wsX1_unlike) B.pre
  have hown : s.vm.findClass RX1 = some m.cls := findClass_of_methodNamed B.named
  have hlocks := B.notSynchronized
  have inX1 : ∀ w ∈ u_ws RX1 TX1 2, w ∈ wsX1_unlike := by decide +kernel
  have hS : va_S (fl_A 62 ad) s.heap s.heap [] := va_S.rf
  have hl := lv_entry ([.ref (ad 9), .int (nI n)] : List Value) (n := 4) (Nat.le_of_ble_eq_true rfl)
  rw [lg_entry_eq]
  generalize (lg_sl ([.ref (ad 9), .int (nI n)] : List Value) ++ List.replicate (4 - (lg_sl ([.ref (ad 9), .int (nI n)] : List Value)).length) Slot.unset).toArray = ls at hl ⊢
  have hl : lv_has ls 4 [(0, .ref (ad 9)), (1, .int (nI n))] := hl
  refine lv_iconst (v := 0) hx hb dX1_unlike_0 (by decide) ?_
  refine lv_istore_n (lv' := [(2, .int 0), (0, .ref (ad 9)), (1, .int (nI n))]) hx hb dX1_unlike_1 rfl hl (by decide) rfl (fun ls hl => ?_)
  refine lv_iconst (v := 0) hx hb dX1_unlike_2 (by decide) ?_
  refine lv_istore_n (lv' := [(3, .int 0), (2, .int 0), (0, .ref (ad 9)), (1, .int (nI n))]) hx hb dX1_unlike_3 rfl hl (by decide) rfl (fun ls hl => ?_)
  suffices KL4 : ∀ (f : Nat) (i : Nat) (u : Nat) (hi : i ≤ n) (hu : u = a_unl t0 i) (hf : n + 1 ≤ i + f), ∀ (H : Heap) (locs : List Loc), va_P D vwCl (fcP cI cII ad M) H → va_S (fl_A 62 ad) s.heap H locs → ∀ (ls : Array Slot), lv_has ls 4 [(0, .ref (ad 9)), (1, .int (nI n)), (2, .int (nI u)), (3, .int (nI i))] → W p l e (headSpec wsX1_unlike ({ frames := 0, cells := 0, slots := 0, locals := 0 } : Room)).room s m ([.ref (ad 9), .int (nI n)] : List Value).toArray below meth c H locs 0 0 (MQ below (va_Qi (fun r M2 => r = nI (a_unl t0 n) ∧ M2 = M) (fcQ D cI cII ad) (fl_A 62 ad)) ([.ref (ad 9), .int (nI n)] : List Value).toArray s 0 0 (fl_A 62 ad)) (F0 m 4 ls []) from KL4 (n + 1) 0 0 (Nat.zero_le n) rfl (by omega) _ _ hP hS ls (lv_sub hl [2, 3, 1, 0] rfl)
  intro f
  induction f with
  | zero =>
    intro i u hi hu hf
    omega
  | succ f ih4 =>
    intro i u hi hu hf H locs hP hS ls hl
    refine lv_iload_n hx hb dX1_unlike_4 rfl (lv_at hl 3 rfl) ?_
    refine lv_iload_n hx hb dX1_unlike_5 rfl (lv_at hl 1 rfl) ?_
    refine lv_icmp_ge (tgt := 27) hx hb dX1_unlike_6 (by decide) (fun hc6 => ?_) (fun hc6 => ?_)
    · have e6 : i = n := Nat.le_antisymm hi ((nI_leI (by omega) (by omega)).mp hc6)
      refine lv_iload_n hx hb dX1_unlike_27 rfl (lv_at hl 2 rfl) ?_
      exact W.iret (v := nI u) hx hb hr (fun t ht hW => ⟨⟨nI u, M, rfl, ⟨by rw [hu, e6], rfl⟩, fl_qi ht hP⟩, hS.F ht⟩) hS.2.2 dX1_unlike_28
    · have l6 : i < n := Nat.lt_of_not_le (fun q => hc6 ((nI_leI (by omega) (by omega)).mpr q))
      refine lv_aload_n hx hb dX1_unlike_9 rfl (lv_at hl 0 rfl) ?_
      refine va_get (D := D) (ci := 3) (v := .ref (ad 10)) (C := RX1) (T := TX1) (N := 2) hx hb hts inX1 hown hK hP 9 (fl_at (by decide) rfl) rfl 0 (by decide) (hts (.fieldLink RX1 9 "ResampledRows$Picks" "times" "[I") (by decide +kernel)) (fun _ h9 => h9) rfl dX1_unlike_10 ?_
      refine lv_iload_n hx hb dX1_unlike_13 rfl (lv_at hl 3 rfl) ?_
      refine fl_ild (n := 16) (k := i) hx hb hK hP (fc_a cI cII ad _ rfl (by decide)) rfl rfl (by omega) (by decide) dX1_unlike_14 ?_
      refine fl_ti (y := nI (t0 i)) ((h10 i l6).1) ?_
      refine lv_if_le (tgt := 21) hx hb dX1_unlike_15 (by decide) (fun hc15 => ?_) (fun hc15 => ?_)
      · have g15 : t0 i = 0 := fl_len0 (by have := (h10 i l6).2; omega) hc15
        refine lv_iinc (v := nI (i + 1)) (lv' := [(3, .int (nI (i + 1))), (0, .ref (ad 9)), (1, .int (nI n)), (2, .int (nI u))]) hx hb dX1_unlike_21 hl (k := 3) rfl (fl_inc i) (by decide) rfl (fun ls hl => ?_)
        refine lv_goto (tgt := 4) hx hb dX1_unlike_24 (by decide) ?_
        exact ih4 (i + 1) u (by omega) (by rw [hu]; show a_unl t0 i = a_unl t0 i + (if 0 < t0 i then 1 else 0); rw [if_neg (by omega)]; rfl) (by omega) _ _ hP hS ls (lv_sub hl [1, 2, 3, 0] rfl)
      · have g15 : 0 < t0 i := fl_len1 (by have := (h10 i l6).2; omega) hc15
        refine lv_iinc (v := nI (u + 1)) (lv' := [(2, .int (nI (u + 1))), (0, .ref (ad 9)), (1, .int (nI n)), (3, .int (nI i))]) hx hb dX1_unlike_18 hl (k := 2) rfl (fl_inc u) (by decide) rfl (fun ls hl => ?_)
        refine lv_iinc (v := nI (i + 1)) (lv' := [(3, .int (nI (i + 1))), (2, .int (nI (u + 1))), (0, .ref (ad 9)), (1, .int (nI n))]) hx hb dX1_unlike_21 hl (k := 3) rfl (fl_inc i) (by decide) rfl (fun ls hl => ?_)
        refine lv_goto (tgt := 4) hx hb dX1_unlike_24 (by decide) ?_
        exact ih4 (i + 1) (u + 1) (by omega) (by rw [hu]; show a_unl t0 i + 1 = a_unl t0 i + (if 0 < t0 i then 1 else 0); rw [if_pos g15]) (by omega) _ _ hP hS ls (lv_sub hl [2, 3, 1, 0] rfl)

