def a_fw (wy : Nat) (w : Nat → Nat) (n b : Nat) : Nat → a_D → Nat × a_D := if wy = 0 then a_f0 w n else if wy = 1 then a_f1 w n else a_f2 w n b
theorem a_fw0 {wy : Nat} {w : Nat → Nat} {n b : Nat} (h : wy = 0) : a_fw wy w n b = a_f0 w n := if_pos h
theorem a_fw1 {wy : Nat} {w : Nat → Nat} {n b : Nat} (h : wy = 1) : a_fw wy w n b = a_f1 w n := by subst h; rfl
theorem a_fw2 {wy : Nat} {w : Nat → Nat} {n b : Nat} (h : wy = 2) : a_fw wy w n b = a_f2 w n b := by subst h; rfl
theorem a_k0_le1 (kp : Option Nat) : a_k0 kp ≤ 1 := by
  cases kp with
  | none => exact Nat.zero_le 1
  | some k => exact Nat.le_refl 1
theorem a_pi0 {kp : Option Nat} {F : Nat → a_D → Nat × a_D} {n : Nat} {d : a_D} : (0 < a_k0 kp ∧ ((fun _ => 0, d) : (Nat → Nat) × a_D) = (fun _ => 0, d)) ∨ (a_k0 kp ≤ 0 ∧ a_pick F (n - 0) 0 (fun _ => 0, d) = a_pick F (n - a_k0 kp) (a_k0 kp) (a_t0 kp, d)) := by
  cases kp with
  | none => exact Or.inr ⟨Nat.le_refl 0, rfl⟩
  | some z => exact Or.inl ⟨Nat.zero_lt_one, rfl⟩
def fm_W (n : Nat) (kp : Option Nat) (w : Nat → Nat) (M : fl_M) : Prop := (0 < n ∧ n ≤ 16 ∧ M.1 0 7 = nI n) ∧ (M.1 0 14 = a_oI kp (-1000009) ∧ ∀ k, kp = some k → k < n) ∧ fl_rowJ (M.2.1 7) w n 1000001
def fm_PP (c k : Nat) : Prop := c ≠ 10 ∧ c ≠ 12 ∧ fm_PD c k
theorem fm_W.eq {n : Nat} {kp : Option Nat} {w : Nat → Nat} {M M2 : fl_M} (h : fm_W n kp w M) (he : fp fm_PP M M2) : fm_W n kp w M2 := by
  obtain ⟨⟨h1, h2, h3⟩, ⟨h4, h5⟩, h7⟩ := h
  have e7 : M2.2.1 7 = M.2.1 7 := funext fun k => (he 7 k (by unfold fm_PP fm_PD; omega)).2.1
  exact ⟨⟨h1, h2, (he 0 7 (by unfold fm_PP fm_PD; omega)).1.trans h3⟩, ⟨(he 0 14 (by unfold fm_PP fm_PD; omega)).1.trans h4, h5⟩, by rw [e7]; exact h7⟩
theorem fm_byw {M4 : fl_M} {w : Nat → Nat} {j : Nat} (h : ∀ k, k < j → M4.2.1 10 k = lN (w k)) {v : Nat} (hv : v = w j) : ∀ k, k < j + 1 → (fl_sJ M4 10 j (lN v)).2.1 10 k = lN (w k) := fm_by h (by rw [hv])
theorem a_fwl {wy : Nat} {w : Nat → Nat} {n b k : Nat} {d : a_D} (h : 0 < a_sum w n) (hk : k < n) (hb : wy = 2 → b < a_sum w n) (hw : wy < 3) : (a_fw wy w n b k d).1 < n := by
  rcases (show wy = 0 ∨ wy = 1 ∨ wy = 2 by omega) with e | e | e
  · rw [a_fw0 e]; exact a_f0_lt h k d
  · rw [a_fw1 e]; exact a_f1_lt h hk d
  · rw [a_fw2 e]; exact a_f2_lt (hb e) hk d

set_option maxHeartbeats 4000000 in
set_option maxRecDepth 100000 in
theorem c_X5_pickBy (l : Launch) {D : va_G} {cI cJ cII : ClassId} {ad : Nat → Nat} (hJ : fl_inj 15 ad) (M : fl_M) (n : Nat) (kp : Option Nat) (w : Nat → Nat) (hW : fm_W n kp w M) (d : a_D) (hd : fm_D d M) (hT0 : 0 < a_sum w n) (wy : Nat) (hwy : wy < 3) (h12 : fl_row (M.1 12) (fun _ => 0) n 1) : Met l yX5_pickBy wsX5_pickBy ({ frames := 2, cells := 0, slots := 0, locals := 53 } : Room) (fmPc D cI cJ cII ad M [.ref (ad 0), .int (nI wy), .long (lN (a_sum w n))]) (va_Qv (fun M2 => fl_row (M2.1 12) (a_picks wy kp n w d).1 n 64 ∧ fm_D (a_picks wy kp n w d).2 M2 ∧ fp fm_PP M M2) (fmQ D cI cJ ad) (fl_A 15 ad)) 0 0 (fl_A 15 ad) := by
  refine Met.ofW (cc := cX5_pickBy) (maxL := 8) (ret := none) (by decide) rfl ?_
  intro p e s m args below meth c s₁ B hml hv
  obtain ⟨rfl, hP, hK, hN⟩ := hv
  have hx := B.exec
  have hb := B.bytes
  have hr := B.returns
  have hts := atoms_spec (ws := wsX5_pickBy) B.pre
  have hown : s.vm.findClass RX5 = some m.cls := findClass_of_methodNamed B.named
  have hlocks := B.notSynchronized
  have inX5 : ∀ w ∈ u_ws RX5 TX5 23, w ∈ wsX5_pickBy := by decide +kernel
  have hS : va_S (fl_A 15 ad) s.heap s.heap [] := va_S.rf
  have hl := lv_entry ([.ref (ad 0), .int (nI wy), .long (lN (a_sum w n))] : List Value) (n := 8) (Nat.le_of_ble_eq_true rfl)
  rw [lg_entry_eq]
  generalize (lg_sl ([.ref (ad 0), .int (nI wy), .long (lN (a_sum w n))] : List Value) ++ List.replicate (8 - (lg_sl ([.ref (ad 0), .int (nI wy), .long (lN (a_sum w n))] : List Value)).length) Slot.unset).toArray = ls at hl ⊢
  have hl : lv_has ls 8 [(0, .ref (ad 0)), (1, .int (nI wy)), (2, .long (lN (a_sum w n)))] := hl
  obtain ⟨⟨hn0, hn, hn1⟩, ⟨hkp, hkl⟩, hww⟩ := id hW
  have hTl : a_sum w n ≤ 16000000 := by have := hww.le (B := 1000000); omega
  refine lv_iload_n hx hb dX5_pickBy_0 rfl (lv_at hl 1 rfl) ?_
  refine lv_iconst (v := 2) hx hb dX5_pickBy_1 (by decide) ?_
  refine lv_icmp_ne (tgt := 13) hx hb dX5_pickBy_2 (by decide) (fun hc2 => ?_) (fun hc2 => ?_)
  · have w2 : ¬ wy = 2 := fun z => hc2 (by rw [z]; rfl)
    obtain ⟨b, hb0⟩ : ∃ b : Nat, b = 0 := ⟨_, rfl⟩
    obtain ⟨d1, hd1⟩ : ∃ d1, d1 = d := ⟨_, rfl⟩
    have hbw : wy = 2 → b < a_sum w n := fun z => absurd z w2
    have hD1 : fm_D d1 M := by rw [hd1]; exact hd
    have he0 : fp fm_PP M M := fp.rf
    have h120 := h12
    have hfin0 : a_picks wy kp n w d = a_pick (a_fw wy w n b) (n - a_k0 kp) (a_k0 kp) (a_t0 kp, d1) := by
      rw [hd1]
      rcases (show wy = 0 ∨ wy = 1 by omega) with e | e
      · subst e; rfl
      · subst e; rfl
    refine lv_lconst (v := 0) hx hb dX5_pickBy_13 (by decide) ?_
    refine fl_tl (y := lN b) (by rw [hb0]; rfl) ?_
    refine lv_lstore (lv' := [(4, .long (lN b)), (0, .ref (ad 0)), (1, .int (nI wy)), (2, .long (lN (a_sum w n)))]) hx hb dX5_pickBy_14 hl (by decide) rfl (fun ls hl => ?_)
    refine lv_iconst (v := 0) hx hb dX5_pickBy_16 (by decide) ?_
    refine lv_istore (lv' := [(6, .int 0), (4, .long (lN b)), (0, .ref (ad 0)), (1, .int (nI wy)), (2, .long (lN (a_sum w n)))]) hx hb dX5_pickBy_17 hl (by decide) rfl (fun ls hl => ?_)
    suffices KL19 : ∀ (f : Nat) (k : Nat) (M3 : fl_M) (q : (Nat → Nat) × a_D) (hk : k ≤ n) (hrow : fl_row (M3.1 12) q.1 n (k + 1)) (hD : fm_D q.2 M3) (hinv : (k < a_k0 kp ∧ q = (fun _ => 0, d1)) ∨ (a_k0 kp ≤ k ∧ a_pick (a_fw wy w n b) (n - k) k q = a_pick (a_fw wy w n b) (n - a_k0 kp) (a_k0 kp) (a_t0 kp, d1))) (he : fp fm_PP M M3) (hf : n + 1 ≤ k + f), ∀ (H : Heap) (locs : List Loc), va_P D vwCl (fmP cI cJ ad M3) H → va_S (fl_A 15 ad) s.heap H locs → ∀ (ls : Array Slot), lv_has ls 8 [(0, .ref (ad 0)), (1, .int (nI wy)), (2, .long (lN (a_sum w n))), (4, .long (lN b)), (6, .int (nI k))] → W p l e (headSpec wsX5_pickBy ({ frames := 2, cells := 0, slots := 0, locals := 53 } : Room)).room s m ([.ref (ad 0), .int (nI wy), .long (lN (a_sum w n))] : List Value).toArray below meth c H locs 0 0 (MQ below (va_Qv (fun M2 => fl_row (M2.1 12) (a_picks wy kp n w d).1 n 64 ∧ fm_D (a_picks wy kp n w d).2 M2 ∧ fp fm_PP M M2) (fmQ D cI cJ ad) (fl_A 15 ad)) ([.ref (ad 0), .int (nI wy), .long (lN (a_sum w n))] : List Value).toArray s 0 0 (fl_A 15 ad)) (F0 m 19 ls []) from KL19 (n + 1) 0 M (fun _ => 0, d1) (Nat.zero_le n) h120 hD1 a_pi0 he0 (by omega) _ _ hP hS ls (lv_sub hl [2, 3, 4, 1, 0] rfl)
    intro f
    induction f with
    | zero =>
      intro k M3 q hk hrow hD hinv he hf
      omega
    | succ f ih19 =>
      intro k M3 q hk hrow hD hinv he hf H locs hP hS ls hl
      obtain ⟨⟨-, -, hn3⟩, ⟨hk3, -⟩, hww3⟩ := hW.eq he
      refine lv_iload hx hb dX5_pickBy_19 (lv_at hl 4 rfl) ?_
      refine lv_aload_n hx hb dX5_pickBy_21 rfl (lv_at hl 0 rfl) ?_
      refine va_get (D := D) (ci := 7) (v := .int (M3.1 0 7)) (C := RX5) (T := TX5) (N := 23) hx hb hts inX5 hown hK hP 0 (fl_at (by decide) rfl) rfl 7 (by decide) (hts (.fieldLink RX5 66 "ResampledRowsModel" "rows" "I") (by decide +kernel)) (fun _ h9 => h9) rfl dX5_pickBy_22 ?_
      refine fl_ti (y := nI n) hn3 ?_
      refine lv_icmp_ge (tgt := 139) hx hb dX5_pickBy_25 (by decide) (fun hc25 => ?_) (fun hc25 => ?_)
      · have e25 : k = n := Nat.le_antisymm hk ((nI_leI (by omega) (by omega)).mp hc25)
        have hfin : q = a_picks wy kp n w d := by
          rw [hfin0]
          have hin : a_pick (a_fw wy w n b) (n - k) k q = a_pick (a_fw wy w n b) (n - a_k0 kp) (a_k0 kp) (a_t0 kp, d1) := hinv.elim (fun h => absurd h.1 (by have := a_k0_le hkl; omega)) (fun h => h.2)
          rw [← hin, e25, Nat.sub_self]
          rfl
        exact W.vret hx hb hr (fun t ht hW => ⟨⟨M3, rfl, ⟨by rw [← hfin]; exact hrow.lt (by omega), by rw [← hfin]; exact hD, he⟩, fl_qi ht hP⟩, hS.F ht⟩) hS.2.2 dX5_pickBy_139
      · have l25 : k < n := Nat.lt_of_not_le (fun q => hc25 ((nI_leI (by omega) (by omega)).mpr q))
        refine lv_iload hx hb dX5_pickBy_28 (lv_at hl 4 rfl) ?_
        refine lv_if_ne (tgt := 53) hx hb dX5_pickBy_30 (by decide) (fun hc30 => ?_) (fun hc30 => ?_)
        · have k0 : ¬ k = 0 := fun z => hc30 (by rw [z]; rfl)
          have hin : a_pick (a_fw wy w n b) (n - k) k q = a_pick (a_fw wy w n b) (n - a_k0 kp) (a_k0 kp) (a_t0 kp, d1) := hinv.elim (fun h => absurd h.1 (by have := a_k0_le1 kp; omega)) (fun h => h.2)
          refine lv_iload_n hx hb dX5_pickBy_53 rfl (lv_at hl 1 rfl) ?_
          refine lv_if_ne (tgt := 104) hx hb dX5_pickBy_54 (by decide) (fun hc54 => ?_) (fun hc54 => ?_)
          · have w0 : ¬ wy = 0 := fun z => hc54 (by rw [z]; rfl)
            obtain ⟨x, hx0⟩ : ∃ x, x = ((a_fw wy w n b) k q.2).1 := ⟨_, rfl⟩
            have hxn : x < n := by rw [hx0]; exact a_fwl hT0 l25 hbw hwy
            refine lv_aload_n hx hb dX5_pickBy_104 rfl (lv_at hl 0 rfl) ?_
            refine lv_aload_n hx hb dX5_pickBy_105 rfl (lv_at hl 0 rfl) ?_
            refine lv_iload hx hb dX5_pickBy_106 (lv_at hl 4 rfl) ?_
            refine lv_i2l (v := (nI k).toInt64) hx hb dX5_pickBy_108 rfl ?_
            refine fl_tl (y := lN k) (nI_l (by omega)) ?_
            refine lv_lload_n hx hb dX5_pickBy_109 rfl (lv_at hl 2 rfl) ?_
            refine lv_lmul hx hb dX5_pickBy_110 ?_
            refine fl_tl (y := lN (k * a_sum w n)) (lN_mul _ _) ?_
            refine lv_iload_n hx hb dX5_pickBy_111 rfl (lv_at hl 1 rfl) ?_
            refine lv_iconst (v := 1) hx hb dX5_pickBy_112 (by decide) ?_
            refine lv_icmp_ne (tgt := 124) hx hb dX5_pickBy_113 (by decide) (fun hc113 => ?_) (fun hc113 => ?_)
            · have w1 : ¬ wy = 1 := fun z => hc113 (by rw [z]; rfl)
              have hfw : (a_fw wy w n b) = a_f2 w n b := a_fw2 (by omega)
              have hb1 : k * a_sum w n + b < n * a_sum w n := a_kT l25 (hbw (by omega))
              have hxe : x = a_first w n (k * a_sum w n + b) n := by rw [hx0, hfw]; rfl
              have hDb2 : fm_D ((a_fw wy w n b) k q.2).2 M3 := by rw [hfw]; exact hD
              refine lv_lload hx hb dX5_pickBy_124 (lv_at hl 3 rfl) ?_
              refine lv_ladd hx hb dX5_pickBy_126 ?_
              refine fl_tl (y := lN (k * a_sum w n + b)) (lN_add _ _) ?_
              refine va_calli (va_runV (As := [.long (lN (k * a_sum w n + b))]) (rest := [.ref (ad 0)]) ⟨hx, hb, hml, hown, hts⟩ (c_X5_rowAt l hJ M3 n w hn hn3 hww3 (k * a_sum w n + b) hb1) (cwV 1 hts gX5_pickBy_X5_rowAt rfl rfl rfl (by decide +kernel) ⟨Nat.le_of_ble_eq_true rfl, Nat.le_of_ble_eq_true rfl⟩) ⟨fl_blind, va_recv hK hP (ci := 7) (q0 := 0) rfl (fl_at (by decide) rfl), fl_pre hP hK hN⟩ rfl rfl hl.1 rfl (lv_room (Nat.le_of_ble_eq_true rfl)) dX5_pickBy_127 ⟨Nat.le_of_ble_eq_true rfl, Nat.le_of_ble_eq_true rfl⟩) hS (fun _ _ h => h) (fun _ h => h) (fun r127 M127 t H1 locs ht hvm hw hB hz1 hk1 hS => ?_)
              have hP : va_P D vwCl (fmP cI cJ ad M127) H1 := by rw [← ht]; exact hB
              clear hB hk1 hz1 hvm ht t
              obtain ⟨rfl, hE⟩ := hw
              rw [hE] at hP
              refine fl_ti (y := nI x) (by rw [hxe]) ?_
              refine va_callv (va_runV (As := [.int (nI x)]) (rest := []) ⟨hx, hb, hml, hown, hts⟩ (c_X5_pick l hJ M3 x (by omega)) (cwV 1 hts gX5_pickBy_X5_pick rfl rfl rfl (by decide +kernel) ⟨Nat.le_of_ble_eq_true rfl, Nat.le_of_ble_eq_true rfl⟩) ⟨fl_blind, va_recv hK hP (ci := 7) (q0 := 0) rfl (fl_at (by decide) rfl), fl_pre hP hK hN⟩ rfl rfl hl.1 rfl (lv_room (Nat.le_of_ble_eq_true rfl)) dX5_pickBy_130 ⟨Nat.le_of_ble_eq_true rfl, Nat.le_of_ble_eq_true rfl⟩) hS (fun _ _ h => h) (fun _ h => h) (fun M130 t H1 locs ht hvm hw hB hz1 hk1 hS => ?_)
              have hP : va_P D vwCl (fmP cI cJ ad M130) H1 := by rw [← ht]; exact hB
              clear hB hk1 hz1 hvm ht t
              rw [hw] at hP
              have hrow4 : fl_row ((fl_sI M3 12 x (M3.1 12 x + 1)).1 12) (a_bump q.1 ((a_fw wy w n b) k q.2).1) n (k + 1 + 1) := by
                rw [fl_sI_same, ← hx0]
                exact (hrow).bump hxn
              have hD4 : fm_D ((a_fw wy w n b) k q.2).2 (fl_sI M3 12 x (M3.1 12 x + 1)) := (hDb2).eq (P := fun c k => c ≠ 12) (fp.rf.sI (fun z => z rfl) _) (by decide) (by decide) (fun k => by decide)
              have he4 : fp fm_PP M (fl_sI M3 12 x (M3.1 12 x + 1)) := (he).sI (by unfold fm_PP; omega) _
              refine lv_iinc (v := nI (k + 1)) (lv' := [(6, .int (nI (k + 1))), (0, .ref (ad 0)), (1, .int (nI wy)), (2, .long (lN (a_sum w n))), (4, .long (lN b))]) hx hb dX5_pickBy_133 hl (k := 4) rfl (fl_inc k) (by decide) rfl (fun ls hl => ?_)
              refine lv_goto (tgt := 19) hx hb dX5_pickBy_136 (by decide) ?_
              exact ih19 (k + 1) (fl_sI M3 12 x (M3.1 12 x + 1)) (a_bump q.1 ((a_fw wy w n b) k q.2).1, ((a_fw wy w n b) k q.2).2) (by omega) hrow4 hD4 (Or.inr ⟨by have := a_k0_le1 kp; omega, by rw [← hin, a_pick_s l25]⟩) he4 (by omega) _ _ hP hS ls (lv_sub hl [1, 2, 3, 4, 0] rfl)
            · have w1 : wy = 1 := (nI_eq (b := 1) (by omega) (by decide)).mp hc113
              have hfw : (a_fw wy w n b) = a_f1 w n := a_fw1 w1
              refine lv_aload_n hx hb dX5_pickBy_116 rfl (lv_at hl 0 rfl) ?_
              refine lv_lload_n hx hb dX5_pickBy_117 rfl (lv_at hl 2 rfl) ?_
              refine va_calll (va_runV (As := [.long (lN (a_sum w n))]) (rest := [.long (lN (k * a_sum w n)), .ref (ad 0), .ref (ad 0)]) ⟨hx, hb, hml, hown, hts⟩ (c_X5_draw l hJ M3 q.2 (a_sum w n) hT0 (by omega) hD) (cwV 1 hts gX5_pickBy_X5_draw rfl rfl rfl (by decide +kernel) ⟨Nat.le_of_ble_eq_true rfl, Nat.le_of_ble_eq_true rfl⟩) ⟨fl_blind, va_recv hK hP (ci := 7) (q0 := 0) rfl (fl_at (by decide) rfl), fl_pre hP hK hN⟩ rfl rfl hl.1 rfl (lv_room (Nat.le_of_ble_eq_true rfl)) dX5_pickBy_118 ⟨Nat.le_of_ble_eq_true rfl, Nat.le_of_ble_eq_true rfl⟩) hS (fun _ _ h => h) (fun _ h => h) (fun r118 M118 t H1 locs ht hvm hw hB hz1 hk1 hS => ?_)
              have hP : va_P D vwCl (fmP cI cJ ad M118) H1 := by rw [← ht]; exact hB
              clear hB hk1 hz1 hvm ht t
              obtain ⟨rfl, hDb, heb⟩ := hw
              obtain ⟨bb, hbb⟩ : ∃ bb : Nat, bb = (a_next q.2).1 % a_sum w n := ⟨_, rfl⟩
              have hb1 : k * a_sum w n + bb < n * a_sum w n := a_kT l25 (by rw [hbb]; exact Nat.mod_lt _ hT0)
              have hxe : x = a_first w n (k * a_sum w n + bb) n := by rw [hx0, hfw, hbb]; rfl
              have hebb : fp fm_PP M M118 := he.tr (heb.mono (fun c k hc => hc.2.2))
              have hrb : fl_row (M118.1 12) q.1 n (k + 1) := hrow.cast (funext fun k => (heb 12 k (by unfold fm_PD; omega)).1)
              have hDb2 : fm_D ((a_fw wy w n b) k q.2).2 M118 := by rw [hfw]; exact hDb
              obtain ⟨⟨-, -, hn118⟩, ⟨-, -⟩, hww118⟩ := hW.eq hebb
              refine fl_tl (y := lN bb) (by rw [hbb]) ?_
              refine lv_goto (tgt := 126) hx hb dX5_pickBy_121 (by decide) ?_
              refine lv_ladd hx hb dX5_pickBy_126 ?_
              refine fl_tl (y := lN (k * a_sum w n + bb)) (lN_add _ _) ?_
              refine va_calli (va_runV (As := [.long (lN (k * a_sum w n + bb))]) (rest := [.ref (ad 0)]) ⟨hx, hb, hml, hown, hts⟩ (c_X5_rowAt l hJ M118 n w hn hn118 hww118 (k * a_sum w n + bb) hb1) (cwV 1 hts gX5_pickBy_X5_rowAt rfl rfl rfl (by decide +kernel) ⟨Nat.le_of_ble_eq_true rfl, Nat.le_of_ble_eq_true rfl⟩) ⟨fl_blind, va_recv hK hP (ci := 7) (q0 := 0) rfl (fl_at (by decide) rfl), fl_pre hP hK hN⟩ rfl rfl hl.1 rfl (lv_room (Nat.le_of_ble_eq_true rfl)) dX5_pickBy_127 ⟨Nat.le_of_ble_eq_true rfl, Nat.le_of_ble_eq_true rfl⟩) hS (fun _ _ h => h) (fun _ h => h) (fun r127 M127 t H1 locs ht hvm hw hB hz1 hk1 hS => ?_)
              have hP : va_P D vwCl (fmP cI cJ ad M127) H1 := by rw [← ht]; exact hB
              clear hB hk1 hz1 hvm ht t
              obtain ⟨rfl, hE⟩ := hw
              rw [hE] at hP
              refine fl_ti (y := nI x) (by rw [hxe]) ?_
              refine va_callv (va_runV (As := [.int (nI x)]) (rest := []) ⟨hx, hb, hml, hown, hts⟩ (c_X5_pick l hJ M118 x (by omega)) (cwV 1 hts gX5_pickBy_X5_pick rfl rfl rfl (by decide +kernel) ⟨Nat.le_of_ble_eq_true rfl, Nat.le_of_ble_eq_true rfl⟩) ⟨fl_blind, va_recv hK hP (ci := 7) (q0 := 0) rfl (fl_at (by decide) rfl), fl_pre hP hK hN⟩ rfl rfl hl.1 rfl (lv_room (Nat.le_of_ble_eq_true rfl)) dX5_pickBy_130 ⟨Nat.le_of_ble_eq_true rfl, Nat.le_of_ble_eq_true rfl⟩) hS (fun _ _ h => h) (fun _ h => h) (fun M130 t H1 locs ht hvm hw hB hz1 hk1 hS => ?_)
              have hP : va_P D vwCl (fmP cI cJ ad M130) H1 := by rw [← ht]; exact hB
              clear hB hk1 hz1 hvm ht t
              rw [hw] at hP
              have hrow4 : fl_row ((fl_sI M118 12 x (M118.1 12 x + 1)).1 12) (a_bump q.1 ((a_fw wy w n b) k q.2).1) n (k + 1 + 1) := by
                rw [fl_sI_same, ← hx0]
                exact (hrb).bump hxn
              have hD4 : fm_D ((a_fw wy w n b) k q.2).2 (fl_sI M118 12 x (M118.1 12 x + 1)) := (hDb2).eq (P := fun c k => c ≠ 12) (fp.rf.sI (fun z => z rfl) _) (by decide) (by decide) (fun k => by decide)
              have he4 : fp fm_PP M (fl_sI M118 12 x (M118.1 12 x + 1)) := (hebb).sI (by unfold fm_PP; omega) _
              refine lv_iinc (v := nI (k + 1)) (lv' := [(6, .int (nI (k + 1))), (0, .ref (ad 0)), (1, .int (nI wy)), (2, .long (lN (a_sum w n))), (4, .long (lN b))]) hx hb dX5_pickBy_133 hl (k := 4) rfl (fl_inc k) (by decide) rfl (fun ls hl => ?_)
              refine lv_goto (tgt := 19) hx hb dX5_pickBy_136 (by decide) ?_
              exact ih19 (k + 1) (fl_sI M118 12 x (M118.1 12 x + 1)) (a_bump q.1 ((a_fw wy w n b) k q.2).1, ((a_fw wy w n b) k q.2).2) (by omega) hrow4 hD4 (Or.inr ⟨by have := a_k0_le1 kp; omega, by rw [← hin, a_pick_s l25]⟩) he4 (by omega) _ _ hP hS ls (lv_sub hl [1, 2, 3, 4, 0] rfl)
          · have w0 : wy = 0 := (nI_eq (b := 0) (by omega) (by decide)).mp hc54
            obtain ⟨x, hx0⟩ : ∃ x, x = ((a_fw wy w n b) k q.2).1 := ⟨_, rfl⟩
            have hxn : x < n := by rw [hx0]; exact a_fwl hT0 l25 hbw hwy
            have hfw : (a_fw wy w n b) = a_f0 w n := a_fw0 w0
            refine lv_iconst (v := 0) hx hb dX5_pickBy_57 (by decide) ?_
            refine lv_istore (lv' := [(7, .int 0), (0, .ref (ad 0)), (1, .int (nI wy)), (2, .long (lN (a_sum w n))), (4, .long (lN b)), (6, .int (nI k))]) hx hb dX5_pickBy_58 hl (by decide) rfl (fun ls hl => ?_)
            suffices KL60 : ∀ (f : Nat) (j : Nat) (M4 : fl_M) (hj : j ≤ n) (hby : ∀ k, k < j → M4.2.1 10 k = lN (w k)) (he5 : fp (fun c _ => c ≠ 10) M3 M4) (hf5 : n + 1 ≤ j + f), ∀ (H : Heap) (locs : List Loc), va_P D vwCl (fmP cI cJ ad M4) H → va_S (fl_A 15 ad) s.heap H locs → ∀ (ls : Array Slot), lv_has ls 8 [(0, .ref (ad 0)), (1, .int (nI wy)), (2, .long (lN (a_sum w n))), (4, .long (lN b)), (6, .int (nI k)), (7, .int (nI j))] → W p l e (headSpec wsX5_pickBy ({ frames := 2, cells := 0, slots := 0, locals := 53 } : Room)).room s m ([.ref (ad 0), .int (nI wy), .long (lN (a_sum w n))] : List Value).toArray below meth c H locs 0 0 (MQ below (va_Qv (fun M2 => fl_row (M2.1 12) (a_picks wy kp n w d).1 n 64 ∧ fm_D (a_picks wy kp n w d).2 M2 ∧ fp fm_PP M M2) (fmQ D cI cJ ad) (fl_A 15 ad)) ([.ref (ad 0), .int (nI wy), .long (lN (a_sum w n))] : List Value).toArray s 0 0 (fl_A 15 ad)) (F0 m 60 ls []) from KL60 (n + 1) 0 M3 (Nat.zero_le _) (fun k hk => absurd hk (Nat.not_lt_zero k)) fp.rf (by omega) _ _ hP hS ls (lv_sub hl [1, 2, 3, 4, 5, 0] rfl)
            intro f
            induction f with
            | zero =>
              intro j M4 hj hby he5 hf5
              omega
            | succ f ih60 =>
              intro j M4 hj hby he5 hf5 H locs hP hS ls hl
              have hn4 : M4.1 0 7 = nI n := (he5 0 7 (by decide : (0 : Nat) ≠ 10)).1.trans hn3
              refine lv_iload hx hb dX5_pickBy_60 (lv_at hl 5 rfl) ?_
              refine lv_aload_n hx hb dX5_pickBy_62 rfl (lv_at hl 0 rfl) ?_
              refine va_get (D := D) (ci := 7) (v := .int (M4.1 0 7)) (C := RX5) (T := TX5) (N := 23) hx hb hts inX5 hown hK hP 0 (fl_at (by decide) rfl) rfl 7 (by decide) (hts (.fieldLink RX5 66 "ResampledRowsModel" "rows" "I") (by decide +kernel)) (fun _ h9 => h9) rfl dX5_pickBy_63 ?_
              refine fl_ti (y := nI n) hn4 ?_
              refine lv_icmp_ge (tgt := 89) hx hb dX5_pickBy_66 (by decide) (fun hc66 => ?_) (fun hc66 => ?_)
              · have e66 : j = n := Nat.le_antisymm hj ((nI_leI (by omega) (by omega)).mp hc66)
                have hbyN : ∀ k, k < n → M4.2.1 10 k = lN (w k) := e66 ▸ hby
                have hDj : fm_D q.2 M4 := hD.eq he5 (by decide) (by decide) (fun k => by decide)
                refine lv_aload_n hx hb dX5_pickBy_89 rfl (lv_at hl 0 rfl) ?_
                refine lv_aload_n hx hb dX5_pickBy_90 rfl (lv_at hl 0 rfl) ?_
                refine lv_aload_n hx hb dX5_pickBy_91 rfl (lv_at hl 0 rfl) ?_
                refine va_get (D := D) (ci := 7) (v := .int (M4.1 0 7)) (C := RX5) (T := TX5) (N := 23) hx hb hts inX5 hown hK hP 0 (fl_at (by decide) rfl) rfl 7 (by decide) (hts (.fieldLink RX5 66 "ResampledRowsModel" "rows" "I") (by decide +kernel)) (fun _ h9 => h9) rfl dX5_pickBy_92 ?_
                refine fl_ti (y := nI n) hn4 ?_
                refine va_calli (va_runV (As := [.int (nI n)]) (rest := [.ref (ad 0)]) ⟨hx, hb, hml, hown, hts⟩ (c_X5_drawBy l hJ M4 q.2 n w hn hbyN (by omega) hDj) (cwV 1 hts gX5_pickBy_X5_drawBy rfl rfl rfl (by decide +kernel) ⟨Nat.le_of_ble_eq_true rfl, Nat.le_of_ble_eq_true rfl⟩) ⟨fl_blind, va_recv hK hP (ci := 7) (q0 := 0) rfl (fl_at (by decide) rfl), fl_pre hP hK hN⟩ rfl rfl hl.1 rfl (lv_room (Nat.le_of_ble_eq_true rfl)) dX5_pickBy_95 ⟨Nat.le_of_ble_eq_true rfl, Nat.le_of_ble_eq_true rfl⟩) hS (fun _ _ h => h) (fun _ h => h) (fun r95 M95 t H1 locs ht hvm hw hB hz1 hk1 hS => ?_)
                have hP : va_P D vwCl (fmP cI cJ ad M95) H1 := by rw [← ht]; exact hB
                clear hB hk1 hz1 hvm ht t
                obtain ⟨rfl, hDb, heb⟩ := hw
                refine fl_ti (y := nI x) (by rw [hx0, hfw, a_by_some (by omega)]; rfl) ?_
                have hebb : fp fm_PP M M95 := (he.tr (he5.mono (fun c k hc => hc.1))).tr (heb.mono (fun c k hc => hc.2.2))
                have hrb : fl_row (M95.1 12) q.1 n (k + 1) := hrow.cast (funext fun k => (heb 12 k (by unfold fm_PD; omega)).1.trans (he5 12 k (by decide : (12 : Nat) ≠ 10)).1)
                have hDb2 : fm_D ((a_fw wy w n b) k q.2).2 M95 := by rw [hfw]; exact hDb
                refine va_callv (va_runV (As := [.int (nI x)]) (rest := []) ⟨hx, hb, hml, hown, hts⟩ (c_X5_pick l hJ M95 x (by omega)) (cwV 1 hts gX5_pickBy_X5_pick rfl rfl rfl (by decide +kernel) ⟨Nat.le_of_ble_eq_true rfl, Nat.le_of_ble_eq_true rfl⟩) ⟨fl_blind, va_recv hK hP (ci := 7) (q0 := 0) rfl (fl_at (by decide) rfl), fl_pre hP hK hN⟩ rfl rfl hl.1 rfl (lv_room (Nat.le_of_ble_eq_true rfl)) dX5_pickBy_98 ⟨Nat.le_of_ble_eq_true rfl, Nat.le_of_ble_eq_true rfl⟩) hS (fun _ _ h => h) (fun _ h => h) (fun M98 t H1 locs ht hvm hw hB hz1 hk1 hS => ?_)
                have hP : va_P D vwCl (fmP cI cJ ad M98) H1 := by rw [← ht]; exact hB
                clear hB hk1 hz1 hvm ht t
                rw [hw] at hP
                have hrow4 : fl_row ((fl_sI M95 12 x (M95.1 12 x + 1)).1 12) (a_bump q.1 ((a_fw wy w n b) k q.2).1) n (k + 1 + 1) := by
                  rw [fl_sI_same, ← hx0]
                  exact (hrb).bump hxn
                have hD4 : fm_D ((a_fw wy w n b) k q.2).2 (fl_sI M95 12 x (M95.1 12 x + 1)) := (hDb2).eq (P := fun c k => c ≠ 12) (fp.rf.sI (fun z => z rfl) _) (by decide) (by decide) (fun k => by decide)
                have he4 : fp fm_PP M (fl_sI M95 12 x (M95.1 12 x + 1)) := (hebb).sI (by unfold fm_PP; omega) _
                refine lv_goto (tgt := 133) hx hb dX5_pickBy_101 (by decide) ?_
                refine lv_iinc (v := nI (k + 1)) (lv' := [(6, .int (nI (k + 1))), (0, .ref (ad 0)), (1, .int (nI wy)), (2, .long (lN (a_sum w n))), (4, .long (lN b)), (7, .int (nI j))]) hx hb dX5_pickBy_133 hl (k := 4) rfl (fl_inc k) (by decide) rfl (fun ls hl => ?_)
                refine lv_goto (tgt := 19) hx hb dX5_pickBy_136 (by decide) ?_
                exact ih19 (k + 1) (fl_sI M95 12 x (M95.1 12 x + 1)) (a_bump q.1 ((a_fw wy w n b) k q.2).1, ((a_fw wy w n b) k q.2).2) (by omega) hrow4 hD4 (Or.inr ⟨by have := a_k0_le1 kp; omega, by rw [← hin, a_pick_s l25]⟩) he4 (by omega) _ _ hP hS ls (lv_sub hl [1, 2, 3, 4, 0] rfl)
              · have l66 : j < n := Nat.lt_of_not_le (fun q => hc66 ((nI_leI (by omega) (by omega)).mpr q))
                refine lv_aload_n hx hb dX5_pickBy_69 rfl (lv_at hl 0 rfl) ?_
                refine va_get (D := D) (ci := 7) (v := .ref (ad 10)) (C := RX5) (T := TX5) (N := 23) hx hb hts inX5 hown hK hP 0 (fl_at (by decide) rfl) rfl 18 (by decide) (hts (.fieldLink RX5 38 "ResampledRowsModel" "by" "[J") (by decide +kernel)) (fun _ h9 => h9) rfl dX5_pickBy_70 ?_
                refine lv_iload hx hb dX5_pickBy_73 (lv_at hl 5 rfl) ?_
                refine lv_aload_n hx hb dX5_pickBy_75 rfl (lv_at hl 0 rfl) ?_
                refine va_get (D := D) (ci := 7) (v := .ref (ad 7)) (C := RX5) (T := TX5) (N := 23) hx hb hts inX5 hown hK hP 0 (fl_at (by decide) rfl) rfl 10 (by decide) (hts (.fieldLink RX5 28 "ResampledRowsModel" "weights" "[J") (by decide +kernel)) (fun _ h9 => h9) rfl dX5_pickBy_76 ?_
                refine lv_iload hx hb dX5_pickBy_79 (lv_at hl 5 rfl) ?_
                refine fl_jld (n := 16) (k := j) hx hb hK hP (fl_at (by decide) rfl) rfl rfl (by omega) (by decide) dX5_pickBy_81 ?_
                refine fl_tl (y := lN (w j)) (by rw [(he5 7 j (by decide : (7 : Nat) ≠ 10)).2.1]; exact (hww3 j l66).1) ?_
                refine fl_jst (n := 16) (k := j) (x := lN (w j)) hx hb hK hJ hP hS (fm_loc cI cJ ad) (fl_at (by decide) rfl) rfl rfl rfl (by omega) (by decide) dX5_pickBy_82 (fun H locs hP hS => ?_)
                refine lv_iinc (v := nI (j + 1)) (lv' := [(7, .int (nI (j + 1))), (0, .ref (ad 0)), (1, .int (nI wy)), (2, .long (lN (a_sum w n))), (4, .long (lN b)), (6, .int (nI k))]) hx hb dX5_pickBy_83 hl (k := 5) rfl (fl_inc j) (by decide) rfl (fun ls hl => ?_)
                refine lv_goto (tgt := 60) hx hb dX5_pickBy_86 (by decide) ?_
                exact ih60 (j + 1) (fl_sJ M4 10 j (lN (w j))) (by omega) (fm_by hby rfl) (he5.sJ (fun z => z rfl) _) (by omega) _ _ hP hS ls (lv_sub hl [1, 2, 3, 4, 5, 0] rfl)
        · have k0 : k = 0 := (nI_eq (b := 0) (by omega) (by decide)).mp hc30
          refine lv_aload_n hx hb dX5_pickBy_33 rfl (lv_at hl 0 rfl) ?_
          refine va_get (D := D) (ci := 7) (v := .int (M3.1 0 14)) (C := RX5) (T := TX5) (N := 23) hx hb hts inX5 hown hK hP 0 (fl_at (by decide) rfl) rfl 14 (by decide) (hts (.fieldLink RX5 76 "ResampledRowsModel" "kept" "I") (by decide +kernel)) (fun _ h9 => h9) rfl dX5_pickBy_34 ?_
          refine fl_ti (y := a_oI kp (-1000009)) hk3 ?_
          refine lv_ldc (v := -1000009) hx hb hown (hts (.constant RX5 75 (-1000009)) (by decide +kernel)) dX5_pickBy_37 ?_
          refine lv_icmp_eq (tgt := 53) hx hb dX5_pickBy_39 (by decide) (fun hc39 => ?_) (fun hc39 => ?_)
          · have hkn := a_oI_eq (by decide) hkl hn hc39
            have hin : a_pick (a_fw wy w n b) (n - k) k q = a_pick (a_fw wy w n b) (n - a_k0 kp) (a_k0 kp) (a_t0 kp, d1) := hinv.elim (fun h => absurd h.1 (by rw [hkn]; exact Nat.not_lt_zero _)) (fun h => h.2)
            refine lv_iload_n hx hb dX5_pickBy_53 rfl (lv_at hl 1 rfl) ?_
            refine lv_if_ne (tgt := 104) hx hb dX5_pickBy_54 (by decide) (fun hc54 => ?_) (fun hc54 => ?_)
            · have w0 : ¬ wy = 0 := fun z => hc54 (by rw [z]; rfl)
              obtain ⟨x, hx0⟩ : ∃ x, x = ((a_fw wy w n b) k q.2).1 := ⟨_, rfl⟩
              have hxn : x < n := by rw [hx0]; exact a_fwl hT0 l25 hbw hwy
              refine lv_aload_n hx hb dX5_pickBy_104 rfl (lv_at hl 0 rfl) ?_
              refine lv_aload_n hx hb dX5_pickBy_105 rfl (lv_at hl 0 rfl) ?_
              refine lv_iload hx hb dX5_pickBy_106 (lv_at hl 4 rfl) ?_
              refine lv_i2l (v := (nI k).toInt64) hx hb dX5_pickBy_108 rfl ?_
              refine fl_tl (y := lN k) (nI_l (by omega)) ?_
              refine lv_lload_n hx hb dX5_pickBy_109 rfl (lv_at hl 2 rfl) ?_
              refine lv_lmul hx hb dX5_pickBy_110 ?_
              refine fl_tl (y := lN (k * a_sum w n)) (lN_mul _ _) ?_
              refine lv_iload_n hx hb dX5_pickBy_111 rfl (lv_at hl 1 rfl) ?_
              refine lv_iconst (v := 1) hx hb dX5_pickBy_112 (by decide) ?_
              refine lv_icmp_ne (tgt := 124) hx hb dX5_pickBy_113 (by decide) (fun hc113 => ?_) (fun hc113 => ?_)
              · have w1 : ¬ wy = 1 := fun z => hc113 (by rw [z]; rfl)
                have hfw : (a_fw wy w n b) = a_f2 w n b := a_fw2 (by omega)
                have hb1 : k * a_sum w n + b < n * a_sum w n := a_kT l25 (hbw (by omega))
                have hxe : x = a_first w n (k * a_sum w n + b) n := by rw [hx0, hfw]; rfl
                have hDb2 : fm_D ((a_fw wy w n b) k q.2).2 M3 := by rw [hfw]; exact hD
                refine lv_lload hx hb dX5_pickBy_124 (lv_at hl 3 rfl) ?_
                refine lv_ladd hx hb dX5_pickBy_126 ?_
                refine fl_tl (y := lN (k * a_sum w n + b)) (lN_add _ _) ?_
                refine va_calli (va_runV (As := [.long (lN (k * a_sum w n + b))]) (rest := [.ref (ad 0)]) ⟨hx, hb, hml, hown, hts⟩ (c_X5_rowAt l hJ M3 n w hn hn3 hww3 (k * a_sum w n + b) hb1) (cwV 1 hts gX5_pickBy_X5_rowAt rfl rfl rfl (by decide +kernel) ⟨Nat.le_of_ble_eq_true rfl, Nat.le_of_ble_eq_true rfl⟩) ⟨fl_blind, va_recv hK hP (ci := 7) (q0 := 0) rfl (fl_at (by decide) rfl), fl_pre hP hK hN⟩ rfl rfl hl.1 rfl (lv_room (Nat.le_of_ble_eq_true rfl)) dX5_pickBy_127 ⟨Nat.le_of_ble_eq_true rfl, Nat.le_of_ble_eq_true rfl⟩) hS (fun _ _ h => h) (fun _ h => h) (fun r127 M127 t H1 locs ht hvm hw hB hz1 hk1 hS => ?_)
                have hP : va_P D vwCl (fmP cI cJ ad M127) H1 := by rw [← ht]; exact hB
                clear hB hk1 hz1 hvm ht t
                obtain ⟨rfl, hE⟩ := hw
                rw [hE] at hP
                refine fl_ti (y := nI x) (by rw [hxe]) ?_
                refine va_callv (va_runV (As := [.int (nI x)]) (rest := []) ⟨hx, hb, hml, hown, hts⟩ (c_X5_pick l hJ M3 x (by omega)) (cwV 1 hts gX5_pickBy_X5_pick rfl rfl rfl (by decide +kernel) ⟨Nat.le_of_ble_eq_true rfl, Nat.le_of_ble_eq_true rfl⟩) ⟨fl_blind, va_recv hK hP (ci := 7) (q0 := 0) rfl (fl_at (by decide) rfl), fl_pre hP hK hN⟩ rfl rfl hl.1 rfl (lv_room (Nat.le_of_ble_eq_true rfl)) dX5_pickBy_130 ⟨Nat.le_of_ble_eq_true rfl, Nat.le_of_ble_eq_true rfl⟩) hS (fun _ _ h => h) (fun _ h => h) (fun M130 t H1 locs ht hvm hw hB hz1 hk1 hS => ?_)
                have hP : va_P D vwCl (fmP cI cJ ad M130) H1 := by rw [← ht]; exact hB
                clear hB hk1 hz1 hvm ht t
                rw [hw] at hP
                have hrow4 : fl_row ((fl_sI M3 12 x (M3.1 12 x + 1)).1 12) (a_bump q.1 ((a_fw wy w n b) k q.2).1) n (k + 1 + 1) := by
                  rw [fl_sI_same, ← hx0]
                  exact (hrow).bump hxn
                have hD4 : fm_D ((a_fw wy w n b) k q.2).2 (fl_sI M3 12 x (M3.1 12 x + 1)) := (hDb2).eq (P := fun c k => c ≠ 12) (fp.rf.sI (fun z => z rfl) _) (by decide) (by decide) (fun k => by decide)
                have he4 : fp fm_PP M (fl_sI M3 12 x (M3.1 12 x + 1)) := (he).sI (by unfold fm_PP; omega) _
                refine lv_iinc (v := nI (k + 1)) (lv' := [(6, .int (nI (k + 1))), (0, .ref (ad 0)), (1, .int (nI wy)), (2, .long (lN (a_sum w n))), (4, .long (lN b))]) hx hb dX5_pickBy_133 hl (k := 4) rfl (fl_inc k) (by decide) rfl (fun ls hl => ?_)
                refine lv_goto (tgt := 19) hx hb dX5_pickBy_136 (by decide) ?_
                exact ih19 (k + 1) (fl_sI M3 12 x (M3.1 12 x + 1)) (a_bump q.1 ((a_fw wy w n b) k q.2).1, ((a_fw wy w n b) k q.2).2) (by omega) hrow4 hD4 (Or.inr ⟨by have := a_k0_le1 kp; omega, by rw [← hin, a_pick_s l25]⟩) he4 (by omega) _ _ hP hS ls (lv_sub hl [1, 2, 3, 4, 0] rfl)
              · have w1 : wy = 1 := (nI_eq (b := 1) (by omega) (by decide)).mp hc113
                have hfw : (a_fw wy w n b) = a_f1 w n := a_fw1 w1
                refine lv_aload_n hx hb dX5_pickBy_116 rfl (lv_at hl 0 rfl) ?_
                refine lv_lload_n hx hb dX5_pickBy_117 rfl (lv_at hl 2 rfl) ?_
                refine va_calll (va_runV (As := [.long (lN (a_sum w n))]) (rest := [.long (lN (k * a_sum w n)), .ref (ad 0), .ref (ad 0)]) ⟨hx, hb, hml, hown, hts⟩ (c_X5_draw l hJ M3 q.2 (a_sum w n) hT0 (by omega) hD) (cwV 1 hts gX5_pickBy_X5_draw rfl rfl rfl (by decide +kernel) ⟨Nat.le_of_ble_eq_true rfl, Nat.le_of_ble_eq_true rfl⟩) ⟨fl_blind, va_recv hK hP (ci := 7) (q0 := 0) rfl (fl_at (by decide) rfl), fl_pre hP hK hN⟩ rfl rfl hl.1 rfl (lv_room (Nat.le_of_ble_eq_true rfl)) dX5_pickBy_118 ⟨Nat.le_of_ble_eq_true rfl, Nat.le_of_ble_eq_true rfl⟩) hS (fun _ _ h => h) (fun _ h => h) (fun r118 M118 t H1 locs ht hvm hw hB hz1 hk1 hS => ?_)
                have hP : va_P D vwCl (fmP cI cJ ad M118) H1 := by rw [← ht]; exact hB
                clear hB hk1 hz1 hvm ht t
                obtain ⟨rfl, hDb, heb⟩ := hw
                obtain ⟨bb, hbb⟩ : ∃ bb : Nat, bb = (a_next q.2).1 % a_sum w n := ⟨_, rfl⟩
                have hb1 : k * a_sum w n + bb < n * a_sum w n := a_kT l25 (by rw [hbb]; exact Nat.mod_lt _ hT0)
                have hxe : x = a_first w n (k * a_sum w n + bb) n := by rw [hx0, hfw, hbb]; rfl
                have hebb : fp fm_PP M M118 := he.tr (heb.mono (fun c k hc => hc.2.2))
                have hrb : fl_row (M118.1 12) q.1 n (k + 1) := hrow.cast (funext fun k => (heb 12 k (by unfold fm_PD; omega)).1)
                have hDb2 : fm_D ((a_fw wy w n b) k q.2).2 M118 := by rw [hfw]; exact hDb
                obtain ⟨⟨-, -, hn118⟩, ⟨-, -⟩, hww118⟩ := hW.eq hebb
                refine fl_tl (y := lN bb) (by rw [hbb]) ?_
                refine lv_goto (tgt := 126) hx hb dX5_pickBy_121 (by decide) ?_
                refine lv_ladd hx hb dX5_pickBy_126 ?_
                refine fl_tl (y := lN (k * a_sum w n + bb)) (lN_add _ _) ?_
                refine va_calli (va_runV (As := [.long (lN (k * a_sum w n + bb))]) (rest := [.ref (ad 0)]) ⟨hx, hb, hml, hown, hts⟩ (c_X5_rowAt l hJ M118 n w hn hn118 hww118 (k * a_sum w n + bb) hb1) (cwV 1 hts gX5_pickBy_X5_rowAt rfl rfl rfl (by decide +kernel) ⟨Nat.le_of_ble_eq_true rfl, Nat.le_of_ble_eq_true rfl⟩) ⟨fl_blind, va_recv hK hP (ci := 7) (q0 := 0) rfl (fl_at (by decide) rfl), fl_pre hP hK hN⟩ rfl rfl hl.1 rfl (lv_room (Nat.le_of_ble_eq_true rfl)) dX5_pickBy_127 ⟨Nat.le_of_ble_eq_true rfl, Nat.le_of_ble_eq_true rfl⟩) hS (fun _ _ h => h) (fun _ h => h) (fun r127 M127 t H1 locs ht hvm hw hB hz1 hk1 hS => ?_)
                have hP : va_P D vwCl (fmP cI cJ ad M127) H1 := by rw [← ht]; exact hB
                clear hB hk1 hz1 hvm ht t
                obtain ⟨rfl, hE⟩ := hw
                rw [hE] at hP
                refine fl_ti (y := nI x) (by rw [hxe]) ?_
                refine va_callv (va_runV (As := [.int (nI x)]) (rest := []) ⟨hx, hb, hml, hown, hts⟩ (c_X5_pick l hJ M118 x (by omega)) (cwV 1 hts gX5_pickBy_X5_pick rfl rfl rfl (by decide +kernel) ⟨Nat.le_of_ble_eq_true rfl, Nat.le_of_ble_eq_true rfl⟩) ⟨fl_blind, va_recv hK hP (ci := 7) (q0 := 0) rfl (fl_at (by decide) rfl), fl_pre hP hK hN⟩ rfl rfl hl.1 rfl (lv_room (Nat.le_of_ble_eq_true rfl)) dX5_pickBy_130 ⟨Nat.le_of_ble_eq_true rfl, Nat.le_of_ble_eq_true rfl⟩) hS (fun _ _ h => h) (fun _ h => h) (fun M130 t H1 locs ht hvm hw hB hz1 hk1 hS => ?_)
                have hP : va_P D vwCl (fmP cI cJ ad M130) H1 := by rw [← ht]; exact hB
                clear hB hk1 hz1 hvm ht t
                rw [hw] at hP
                have hrow4 : fl_row ((fl_sI M118 12 x (M118.1 12 x + 1)).1 12) (a_bump q.1 ((a_fw wy w n b) k q.2).1) n (k + 1 + 1) := by
                  rw [fl_sI_same, ← hx0]
                  exact (hrb).bump hxn
                have hD4 : fm_D ((a_fw wy w n b) k q.2).2 (fl_sI M118 12 x (M118.1 12 x + 1)) := (hDb2).eq (P := fun c k => c ≠ 12) (fp.rf.sI (fun z => z rfl) _) (by decide) (by decide) (fun k => by decide)
                have he4 : fp fm_PP M (fl_sI M118 12 x (M118.1 12 x + 1)) := (hebb).sI (by unfold fm_PP; omega) _
                refine lv_iinc (v := nI (k + 1)) (lv' := [(6, .int (nI (k + 1))), (0, .ref (ad 0)), (1, .int (nI wy)), (2, .long (lN (a_sum w n))), (4, .long (lN b))]) hx hb dX5_pickBy_133 hl (k := 4) rfl (fl_inc k) (by decide) rfl (fun ls hl => ?_)
                refine lv_goto (tgt := 19) hx hb dX5_pickBy_136 (by decide) ?_
                exact ih19 (k + 1) (fl_sI M118 12 x (M118.1 12 x + 1)) (a_bump q.1 ((a_fw wy w n b) k q.2).1, ((a_fw wy w n b) k q.2).2) (by omega) hrow4 hD4 (Or.inr ⟨by have := a_k0_le1 kp; omega, by rw [← hin, a_pick_s l25]⟩) he4 (by omega) _ _ hP hS ls (lv_sub hl [1, 2, 3, 4, 0] rfl)
            · have w0 : wy = 0 := (nI_eq (b := 0) (by omega) (by decide)).mp hc54
              obtain ⟨x, hx0⟩ : ∃ x, x = ((a_fw wy w n b) k q.2).1 := ⟨_, rfl⟩
              have hxn : x < n := by rw [hx0]; exact a_fwl hT0 l25 hbw hwy
              have hfw : (a_fw wy w n b) = a_f0 w n := a_fw0 w0
              refine lv_iconst (v := 0) hx hb dX5_pickBy_57 (by decide) ?_
              refine lv_istore (lv' := [(7, .int 0), (0, .ref (ad 0)), (1, .int (nI wy)), (2, .long (lN (a_sum w n))), (4, .long (lN b)), (6, .int (nI k))]) hx hb dX5_pickBy_58 hl (by decide) rfl (fun ls hl => ?_)
              suffices KL60 : ∀ (f : Nat) (j : Nat) (M4 : fl_M) (hj : j ≤ n) (hby : ∀ k, k < j → M4.2.1 10 k = lN (w k)) (he5 : fp (fun c _ => c ≠ 10) M3 M4) (hf5 : n + 1 ≤ j + f), ∀ (H : Heap) (locs : List Loc), va_P D vwCl (fmP cI cJ ad M4) H → va_S (fl_A 15 ad) s.heap H locs → ∀ (ls : Array Slot), lv_has ls 8 [(0, .ref (ad 0)), (1, .int (nI wy)), (2, .long (lN (a_sum w n))), (4, .long (lN b)), (6, .int (nI k)), (7, .int (nI j))] → W p l e (headSpec wsX5_pickBy ({ frames := 2, cells := 0, slots := 0, locals := 53 } : Room)).room s m ([.ref (ad 0), .int (nI wy), .long (lN (a_sum w n))] : List Value).toArray below meth c H locs 0 0 (MQ below (va_Qv (fun M2 => fl_row (M2.1 12) (a_picks wy kp n w d).1 n 64 ∧ fm_D (a_picks wy kp n w d).2 M2 ∧ fp fm_PP M M2) (fmQ D cI cJ ad) (fl_A 15 ad)) ([.ref (ad 0), .int (nI wy), .long (lN (a_sum w n))] : List Value).toArray s 0 0 (fl_A 15 ad)) (F0 m 60 ls []) from KL60 (n + 1) 0 M3 (Nat.zero_le _) (fun k hk => absurd hk (Nat.not_lt_zero k)) fp.rf (by omega) _ _ hP hS ls (lv_sub hl [1, 2, 3, 4, 5, 0] rfl)
              intro f
              induction f with
              | zero =>
                intro j M4 hj hby he5 hf5
                omega
              | succ f ih60 =>
                intro j M4 hj hby he5 hf5 H locs hP hS ls hl
                have hn4 : M4.1 0 7 = nI n := (he5 0 7 (by decide : (0 : Nat) ≠ 10)).1.trans hn3
                refine lv_iload hx hb dX5_pickBy_60 (lv_at hl 5 rfl) ?_
                refine lv_aload_n hx hb dX5_pickBy_62 rfl (lv_at hl 0 rfl) ?_
                refine va_get (D := D) (ci := 7) (v := .int (M4.1 0 7)) (C := RX5) (T := TX5) (N := 23) hx hb hts inX5 hown hK hP 0 (fl_at (by decide) rfl) rfl 7 (by decide) (hts (.fieldLink RX5 66 "ResampledRowsModel" "rows" "I") (by decide +kernel)) (fun _ h9 => h9) rfl dX5_pickBy_63 ?_
                refine fl_ti (y := nI n) hn4 ?_
                refine lv_icmp_ge (tgt := 89) hx hb dX5_pickBy_66 (by decide) (fun hc66 => ?_) (fun hc66 => ?_)
                · have e66 : j = n := Nat.le_antisymm hj ((nI_leI (by omega) (by omega)).mp hc66)
                  have hbyN : ∀ k, k < n → M4.2.1 10 k = lN (w k) := e66 ▸ hby
                  have hDj : fm_D q.2 M4 := hD.eq he5 (by decide) (by decide) (fun k => by decide)
                  refine lv_aload_n hx hb dX5_pickBy_89 rfl (lv_at hl 0 rfl) ?_
                  refine lv_aload_n hx hb dX5_pickBy_90 rfl (lv_at hl 0 rfl) ?_
                  refine lv_aload_n hx hb dX5_pickBy_91 rfl (lv_at hl 0 rfl) ?_
                  refine va_get (D := D) (ci := 7) (v := .int (M4.1 0 7)) (C := RX5) (T := TX5) (N := 23) hx hb hts inX5 hown hK hP 0 (fl_at (by decide) rfl) rfl 7 (by decide) (hts (.fieldLink RX5 66 "ResampledRowsModel" "rows" "I") (by decide +kernel)) (fun _ h9 => h9) rfl dX5_pickBy_92 ?_
                  refine fl_ti (y := nI n) hn4 ?_
                  refine va_calli (va_runV (As := [.int (nI n)]) (rest := [.ref (ad 0)]) ⟨hx, hb, hml, hown, hts⟩ (c_X5_drawBy l hJ M4 q.2 n w hn hbyN (by omega) hDj) (cwV 1 hts gX5_pickBy_X5_drawBy rfl rfl rfl (by decide +kernel) ⟨Nat.le_of_ble_eq_true rfl, Nat.le_of_ble_eq_true rfl⟩) ⟨fl_blind, va_recv hK hP (ci := 7) (q0 := 0) rfl (fl_at (by decide) rfl), fl_pre hP hK hN⟩ rfl rfl hl.1 rfl (lv_room (Nat.le_of_ble_eq_true rfl)) dX5_pickBy_95 ⟨Nat.le_of_ble_eq_true rfl, Nat.le_of_ble_eq_true rfl⟩) hS (fun _ _ h => h) (fun _ h => h) (fun r95 M95 t H1 locs ht hvm hw hB hz1 hk1 hS => ?_)
                  have hP : va_P D vwCl (fmP cI cJ ad M95) H1 := by rw [← ht]; exact hB
                  clear hB hk1 hz1 hvm ht t
                  obtain ⟨rfl, hDb, heb⟩ := hw
                  refine fl_ti (y := nI x) (by rw [hx0, hfw, a_by_some (by omega)]; rfl) ?_
                  have hebb : fp fm_PP M M95 := (he.tr (he5.mono (fun c k hc => hc.1))).tr (heb.mono (fun c k hc => hc.2.2))
                  have hrb : fl_row (M95.1 12) q.1 n (k + 1) := hrow.cast (funext fun k => (heb 12 k (by unfold fm_PD; omega)).1.trans (he5 12 k (by decide : (12 : Nat) ≠ 10)).1)
                  have hDb2 : fm_D ((a_fw wy w n b) k q.2).2 M95 := by rw [hfw]; exact hDb
                  refine va_callv (va_runV (As := [.int (nI x)]) (rest := []) ⟨hx, hb, hml, hown, hts⟩ (c_X5_pick l hJ M95 x (by omega)) (cwV 1 hts gX5_pickBy_X5_pick rfl rfl rfl (by decide +kernel) ⟨Nat.le_of_ble_eq_true rfl, Nat.le_of_ble_eq_true rfl⟩) ⟨fl_blind, va_recv hK hP (ci := 7) (q0 := 0) rfl (fl_at (by decide) rfl), fl_pre hP hK hN⟩ rfl rfl hl.1 rfl (lv_room (Nat.le_of_ble_eq_true rfl)) dX5_pickBy_98 ⟨Nat.le_of_ble_eq_true rfl, Nat.le_of_ble_eq_true rfl⟩) hS (fun _ _ h => h) (fun _ h => h) (fun M98 t H1 locs ht hvm hw hB hz1 hk1 hS => ?_)
                  have hP : va_P D vwCl (fmP cI cJ ad M98) H1 := by rw [← ht]; exact hB
                  clear hB hk1 hz1 hvm ht t
                  rw [hw] at hP
                  have hrow4 : fl_row ((fl_sI M95 12 x (M95.1 12 x + 1)).1 12) (a_bump q.1 ((a_fw wy w n b) k q.2).1) n (k + 1 + 1) := by
                    rw [fl_sI_same, ← hx0]
                    exact (hrb).bump hxn
                  have hD4 : fm_D ((a_fw wy w n b) k q.2).2 (fl_sI M95 12 x (M95.1 12 x + 1)) := (hDb2).eq (P := fun c k => c ≠ 12) (fp.rf.sI (fun z => z rfl) _) (by decide) (by decide) (fun k => by decide)
                  have he4 : fp fm_PP M (fl_sI M95 12 x (M95.1 12 x + 1)) := (hebb).sI (by unfold fm_PP; omega) _
                  refine lv_goto (tgt := 133) hx hb dX5_pickBy_101 (by decide) ?_
                  refine lv_iinc (v := nI (k + 1)) (lv' := [(6, .int (nI (k + 1))), (0, .ref (ad 0)), (1, .int (nI wy)), (2, .long (lN (a_sum w n))), (4, .long (lN b)), (7, .int (nI j))]) hx hb dX5_pickBy_133 hl (k := 4) rfl (fl_inc k) (by decide) rfl (fun ls hl => ?_)
                  refine lv_goto (tgt := 19) hx hb dX5_pickBy_136 (by decide) ?_
                  exact ih19 (k + 1) (fl_sI M95 12 x (M95.1 12 x + 1)) (a_bump q.1 ((a_fw wy w n b) k q.2).1, ((a_fw wy w n b) k q.2).2) (by omega) hrow4 hD4 (Or.inr ⟨by have := a_k0_le1 kp; omega, by rw [← hin, a_pick_s l25]⟩) he4 (by omega) _ _ hP hS ls (lv_sub hl [1, 2, 3, 4, 0] rfl)
                · have l66 : j < n := Nat.lt_of_not_le (fun q => hc66 ((nI_leI (by omega) (by omega)).mpr q))
                  refine lv_aload_n hx hb dX5_pickBy_69 rfl (lv_at hl 0 rfl) ?_
                  refine va_get (D := D) (ci := 7) (v := .ref (ad 10)) (C := RX5) (T := TX5) (N := 23) hx hb hts inX5 hown hK hP 0 (fl_at (by decide) rfl) rfl 18 (by decide) (hts (.fieldLink RX5 38 "ResampledRowsModel" "by" "[J") (by decide +kernel)) (fun _ h9 => h9) rfl dX5_pickBy_70 ?_
                  refine lv_iload hx hb dX5_pickBy_73 (lv_at hl 5 rfl) ?_
                  refine lv_aload_n hx hb dX5_pickBy_75 rfl (lv_at hl 0 rfl) ?_
                  refine va_get (D := D) (ci := 7) (v := .ref (ad 7)) (C := RX5) (T := TX5) (N := 23) hx hb hts inX5 hown hK hP 0 (fl_at (by decide) rfl) rfl 10 (by decide) (hts (.fieldLink RX5 28 "ResampledRowsModel" "weights" "[J") (by decide +kernel)) (fun _ h9 => h9) rfl dX5_pickBy_76 ?_
                  refine lv_iload hx hb dX5_pickBy_79 (lv_at hl 5 rfl) ?_
                  refine fl_jld (n := 16) (k := j) hx hb hK hP (fl_at (by decide) rfl) rfl rfl (by omega) (by decide) dX5_pickBy_81 ?_
                  refine fl_tl (y := lN (w j)) (by rw [(he5 7 j (by decide : (7 : Nat) ≠ 10)).2.1]; exact (hww3 j l66).1) ?_
                  refine fl_jst (n := 16) (k := j) (x := lN (w j)) hx hb hK hJ hP hS (fm_loc cI cJ ad) (fl_at (by decide) rfl) rfl rfl rfl (by omega) (by decide) dX5_pickBy_82 (fun H locs hP hS => ?_)
                  refine lv_iinc (v := nI (j + 1)) (lv' := [(7, .int (nI (j + 1))), (0, .ref (ad 0)), (1, .int (nI wy)), (2, .long (lN (a_sum w n))), (4, .long (lN b)), (6, .int (nI k))]) hx hb dX5_pickBy_83 hl (k := 5) rfl (fl_inc j) (by decide) rfl (fun ls hl => ?_)
                  refine lv_goto (tgt := 60) hx hb dX5_pickBy_86 (by decide) ?_
                  exact ih60 (j + 1) (fl_sJ M4 10 j (lN (w j))) (by omega) (fm_by hby rfl) (he5.sJ (fun z => z rfl) _) (by omega) _ _ hP hS ls (lv_sub hl [1, 2, 3, 4, 5, 0] rfl)
          · obtain ⟨z, hks⟩ := a_oI_ne hc39
            have hzl := hkl z hks
            have hk1 : a_k0 kp = 1 := by rw [hks]; rfl
            have hq0 : q = (fun _ => 0, d1) := hinv.elim (fun h => h.2) (fun h => absurd h.1 (by omega))
            refine lv_aload_n hx hb dX5_pickBy_42 rfl (lv_at hl 0 rfl) ?_
            refine lv_aload_n hx hb dX5_pickBy_43 rfl (lv_at hl 0 rfl) ?_
            refine va_get (D := D) (ci := 7) (v := .int (M3.1 0 14)) (C := RX5) (T := TX5) (N := 23) hx hb hts inX5 hown hK hP 0 (fl_at (by decide) rfl) rfl 14 (by decide) (hts (.fieldLink RX5 76 "ResampledRowsModel" "kept" "I") (by decide +kernel)) (fun _ h9 => h9) rfl dX5_pickBy_44 ?_
            refine fl_ti (y := a_oI kp (-1000009)) hk3 ?_
            refine fl_ti (y := nI z) (by rw [hks]; rfl) ?_
            refine va_callv (va_runV (As := [.int (nI z)]) (rest := []) ⟨hx, hb, hml, hown, hts⟩ (c_X5_pick l hJ M3 z (by omega)) (cwV 1 hts gX5_pickBy_X5_pick rfl rfl rfl (by decide +kernel) ⟨Nat.le_of_ble_eq_true rfl, Nat.le_of_ble_eq_true rfl⟩) ⟨fl_blind, va_recv hK hP (ci := 7) (q0 := 0) rfl (fl_at (by decide) rfl), fl_pre hP hK hN⟩ rfl rfl hl.1 rfl (lv_room (Nat.le_of_ble_eq_true rfl)) dX5_pickBy_47 ⟨Nat.le_of_ble_eq_true rfl, Nat.le_of_ble_eq_true rfl⟩) hS (fun _ _ h => h) (fun _ h => h) (fun M47 t H1 locs ht hvm hw hB hz1 hk1 hS => ?_)
            have hP : va_P D vwCl (fmP cI cJ ad M47) H1 := by rw [← ht]; exact hB
            clear hB hk1 hz1 hvm ht t
            rw [hw] at hP
            have hrow4 : fl_row ((fl_sI M3 12 z (M3.1 12 z + 1)).1 12) (a_t0 kp) n (k + 1 + 1) := by
              rw [fl_sI_same, hks]
              rw [hq0] at hrow
              exact hrow.bump hzl
            have hD4 : fm_D d1 (fl_sI M3 12 z (M3.1 12 z + 1)) := by
              rw [hq0] at hD
              exact hD.eq (P := fun c k => c ≠ 12) (fp.rf.sI (fun z => z rfl) _) (by decide) (by decide) (fun k => by decide)
            have he4 : fp fm_PP M (fl_sI M3 12 z (M3.1 12 z + 1)) := he.sI (by unfold fm_PP; omega) _
            refine lv_goto (tgt := 133) hx hb dX5_pickBy_50 (by decide) ?_
            refine lv_iinc (v := nI (k + 1)) (lv' := [(6, .int (nI (k + 1))), (0, .ref (ad 0)), (1, .int (nI wy)), (2, .long (lN (a_sum w n))), (4, .long (lN b))]) hx hb dX5_pickBy_133 hl (k := 4) rfl (fl_inc k) (by decide) rfl (fun ls hl => ?_)
            refine lv_goto (tgt := 19) hx hb dX5_pickBy_136 (by decide) ?_
            exact ih19 (k + 1) (fl_sI M3 12 z (M3.1 12 z + 1)) (a_t0 kp, d1) (by omega) hrow4 hD4 (Or.inr ⟨by rw [hk1]; omega, by rw [hk1, k0]⟩) he4 (by omega) _ _ hP hS ls (lv_sub hl [1, 2, 3, 4, 0] rfl)
  · have w2 : wy = 2 := (nI_eq (b := 2) (by omega) (by decide)).mp hc2
    refine lv_aload_n hx hb dX5_pickBy_5 rfl (lv_at hl 0 rfl) ?_
    refine lv_lload_n hx hb dX5_pickBy_6 rfl (lv_at hl 2 rfl) ?_
    refine va_calll (va_runV (As := [.long (lN (a_sum w n))]) (rest := []) ⟨hx, hb, hml, hown, hts⟩ (c_X5_draw l hJ M d (a_sum w n) hT0 (by omega) hd) (cwV 1 hts gX5_pickBy_X5_draw rfl rfl rfl (by decide +kernel) ⟨Nat.le_of_ble_eq_true rfl, Nat.le_of_ble_eq_true rfl⟩) ⟨fl_blind, va_recv hK hP (ci := 7) (q0 := 0) rfl (fl_at (by decide) rfl), fl_pre hP hK hN⟩ rfl rfl hl.1 rfl (lv_room (Nat.le_of_ble_eq_true rfl)) dX5_pickBy_7 ⟨Nat.le_of_ble_eq_true rfl, Nat.le_of_ble_eq_true rfl⟩) hS (fun _ _ h => h) (fun _ h => h) (fun r7 M7 t H1 locs ht hvm hw hB hz1 hk1 hS => ?_)
    have hP : va_P D vwCl (fmP cI cJ ad M7) H1 := by rw [← ht]; exact hB
    clear hB hk1 hz1 hvm ht t
    obtain ⟨rfl, hD1, he7⟩ := hw
    obtain ⟨b, hb0⟩ : ∃ b : Nat, b = (a_next d).1 % a_sum w n := ⟨_, rfl⟩
    obtain ⟨d1, hd1⟩ : ∃ d1, d1 = (a_next d).2 := ⟨_, rfl⟩
    have hbw : wy = 2 → b < a_sum w n := fun _ => by rw [hb0]; exact Nat.mod_lt _ hT0
    rw [← hd1] at hD1
    have he0 : fp fm_PP M M7 := he7.mono (fun c k hc => hc.2.2)
    have h120 : fl_row (M7.1 12) (fun _ => 0) n 1 := h12.cast (funext fun k => (he7 12 k (by unfold fm_PD; omega)).1)
    have hfin0 : a_picks wy kp n w d = a_pick (a_fw wy w n b) (n - a_k0 kp) (a_k0 kp) (a_t0 kp, d1) := by
      rw [hd1, hb0]
      subst w2
      rfl
    refine fl_tl (y := lN b) (by rw [hb0]) ?_
    refine lv_goto (tgt := 14) hx hb dX5_pickBy_10 (by decide) ?_
    refine lv_lstore (lv' := [(4, .long (lN b)), (0, .ref (ad 0)), (1, .int (nI wy)), (2, .long (lN (a_sum w n)))]) hx hb dX5_pickBy_14 hl (by decide) rfl (fun ls hl => ?_)
    refine lv_iconst (v := 0) hx hb dX5_pickBy_16 (by decide) ?_
    refine lv_istore (lv' := [(6, .int 0), (4, .long (lN b)), (0, .ref (ad 0)), (1, .int (nI wy)), (2, .long (lN (a_sum w n)))]) hx hb dX5_pickBy_17 hl (by decide) rfl (fun ls hl => ?_)
    suffices KL19 : ∀ (f : Nat) (k : Nat) (M3 : fl_M) (q : (Nat → Nat) × a_D) (hk : k ≤ n) (hrow : fl_row (M3.1 12) q.1 n (k + 1)) (hD : fm_D q.2 M3) (hinv : (k < a_k0 kp ∧ q = (fun _ => 0, d1)) ∨ (a_k0 kp ≤ k ∧ a_pick (a_fw wy w n b) (n - k) k q = a_pick (a_fw wy w n b) (n - a_k0 kp) (a_k0 kp) (a_t0 kp, d1))) (he : fp fm_PP M M3) (hf : n + 1 ≤ k + f), ∀ (H : Heap) (locs : List Loc), va_P D vwCl (fmP cI cJ ad M3) H → va_S (fl_A 15 ad) s.heap H locs → ∀ (ls : Array Slot), lv_has ls 8 [(0, .ref (ad 0)), (1, .int (nI wy)), (2, .long (lN (a_sum w n))), (4, .long (lN b)), (6, .int (nI k))] → W p l e (headSpec wsX5_pickBy ({ frames := 2, cells := 0, slots := 0, locals := 53 } : Room)).room s m ([.ref (ad 0), .int (nI wy), .long (lN (a_sum w n))] : List Value).toArray below meth c H locs 0 0 (MQ below (va_Qv (fun M2 => fl_row (M2.1 12) (a_picks wy kp n w d).1 n 64 ∧ fm_D (a_picks wy kp n w d).2 M2 ∧ fp fm_PP M M2) (fmQ D cI cJ ad) (fl_A 15 ad)) ([.ref (ad 0), .int (nI wy), .long (lN (a_sum w n))] : List Value).toArray s 0 0 (fl_A 15 ad)) (F0 m 19 ls []) from KL19 (n + 1) 0 M7 (fun _ => 0, d1) (Nat.zero_le n) h120 hD1 a_pi0 he0 (by omega) _ _ hP hS ls (lv_sub hl [2, 3, 4, 1, 0] rfl)
    intro f
    induction f with
    | zero =>
      intro k M3 q hk hrow hD hinv he hf
      omega
    | succ f ih19 =>
      intro k M3 q hk hrow hD hinv he hf H locs hP hS ls hl
      obtain ⟨⟨-, -, hn3⟩, ⟨hk3, -⟩, hww3⟩ := hW.eq he
      refine lv_iload hx hb dX5_pickBy_19 (lv_at hl 4 rfl) ?_
      refine lv_aload_n hx hb dX5_pickBy_21 rfl (lv_at hl 0 rfl) ?_
      refine va_get (D := D) (ci := 7) (v := .int (M3.1 0 7)) (C := RX5) (T := TX5) (N := 23) hx hb hts inX5 hown hK hP 0 (fl_at (by decide) rfl) rfl 7 (by decide) (hts (.fieldLink RX5 66 "ResampledRowsModel" "rows" "I") (by decide +kernel)) (fun _ h9 => h9) rfl dX5_pickBy_22 ?_
      refine fl_ti (y := nI n) hn3 ?_
      refine lv_icmp_ge (tgt := 139) hx hb dX5_pickBy_25 (by decide) (fun hc25 => ?_) (fun hc25 => ?_)
      · have e25 : k = n := Nat.le_antisymm hk ((nI_leI (by omega) (by omega)).mp hc25)
        have hfin : q = a_picks wy kp n w d := by
          rw [hfin0]
          have hin : a_pick (a_fw wy w n b) (n - k) k q = a_pick (a_fw wy w n b) (n - a_k0 kp) (a_k0 kp) (a_t0 kp, d1) := hinv.elim (fun h => absurd h.1 (by have := a_k0_le hkl; omega)) (fun h => h.2)
          rw [← hin, e25, Nat.sub_self]
          rfl
        exact W.vret hx hb hr (fun t ht hW => ⟨⟨M3, rfl, ⟨by rw [← hfin]; exact hrow.lt (by omega), by rw [← hfin]; exact hD, he⟩, fl_qi ht hP⟩, hS.F ht⟩) hS.2.2 dX5_pickBy_139
      · have l25 : k < n := Nat.lt_of_not_le (fun q => hc25 ((nI_leI (by omega) (by omega)).mpr q))
        refine lv_iload hx hb dX5_pickBy_28 (lv_at hl 4 rfl) ?_
        refine lv_if_ne (tgt := 53) hx hb dX5_pickBy_30 (by decide) (fun hc30 => ?_) (fun hc30 => ?_)
        · have k0 : ¬ k = 0 := fun z => hc30 (by rw [z]; rfl)
          have hin : a_pick (a_fw wy w n b) (n - k) k q = a_pick (a_fw wy w n b) (n - a_k0 kp) (a_k0 kp) (a_t0 kp, d1) := hinv.elim (fun h => absurd h.1 (by have := a_k0_le1 kp; omega)) (fun h => h.2)
          refine lv_iload_n hx hb dX5_pickBy_53 rfl (lv_at hl 1 rfl) ?_
          refine lv_if_ne (tgt := 104) hx hb dX5_pickBy_54 (by decide) (fun hc54 => ?_) (fun hc54 => ?_)
          · have w0 : ¬ wy = 0 := fun z => hc54 (by rw [z]; rfl)
            obtain ⟨x, hx0⟩ : ∃ x, x = ((a_fw wy w n b) k q.2).1 := ⟨_, rfl⟩
            have hxn : x < n := by rw [hx0]; exact a_fwl hT0 l25 hbw hwy
            refine lv_aload_n hx hb dX5_pickBy_104 rfl (lv_at hl 0 rfl) ?_
            refine lv_aload_n hx hb dX5_pickBy_105 rfl (lv_at hl 0 rfl) ?_
            refine lv_iload hx hb dX5_pickBy_106 (lv_at hl 4 rfl) ?_
            refine lv_i2l (v := (nI k).toInt64) hx hb dX5_pickBy_108 rfl ?_
            refine fl_tl (y := lN k) (nI_l (by omega)) ?_
            refine lv_lload_n hx hb dX5_pickBy_109 rfl (lv_at hl 2 rfl) ?_
            refine lv_lmul hx hb dX5_pickBy_110 ?_
            refine fl_tl (y := lN (k * a_sum w n)) (lN_mul _ _) ?_
            refine lv_iload_n hx hb dX5_pickBy_111 rfl (lv_at hl 1 rfl) ?_
            refine lv_iconst (v := 1) hx hb dX5_pickBy_112 (by decide) ?_
            refine lv_icmp_ne (tgt := 124) hx hb dX5_pickBy_113 (by decide) (fun hc113 => ?_) (fun hc113 => ?_)
            · have w1 : ¬ wy = 1 := fun z => hc113 (by rw [z]; rfl)
              have hfw : (a_fw wy w n b) = a_f2 w n b := a_fw2 (by omega)
              have hb1 : k * a_sum w n + b < n * a_sum w n := a_kT l25 (hbw (by omega))
              have hxe : x = a_first w n (k * a_sum w n + b) n := by rw [hx0, hfw]; rfl
              have hDb2 : fm_D ((a_fw wy w n b) k q.2).2 M3 := by rw [hfw]; exact hD
              refine lv_lload hx hb dX5_pickBy_124 (lv_at hl 3 rfl) ?_
              refine lv_ladd hx hb dX5_pickBy_126 ?_
              refine fl_tl (y := lN (k * a_sum w n + b)) (lN_add _ _) ?_
              refine va_calli (va_runV (As := [.long (lN (k * a_sum w n + b))]) (rest := [.ref (ad 0)]) ⟨hx, hb, hml, hown, hts⟩ (c_X5_rowAt l hJ M3 n w hn hn3 hww3 (k * a_sum w n + b) hb1) (cwV 1 hts gX5_pickBy_X5_rowAt rfl rfl rfl (by decide +kernel) ⟨Nat.le_of_ble_eq_true rfl, Nat.le_of_ble_eq_true rfl⟩) ⟨fl_blind, va_recv hK hP (ci := 7) (q0 := 0) rfl (fl_at (by decide) rfl), fl_pre hP hK hN⟩ rfl rfl hl.1 rfl (lv_room (Nat.le_of_ble_eq_true rfl)) dX5_pickBy_127 ⟨Nat.le_of_ble_eq_true rfl, Nat.le_of_ble_eq_true rfl⟩) hS (fun _ _ h => h) (fun _ h => h) (fun r127 M127 t H1 locs ht hvm hw hB hz1 hk1 hS => ?_)
              have hP : va_P D vwCl (fmP cI cJ ad M127) H1 := by rw [← ht]; exact hB
              clear hB hk1 hz1 hvm ht t
              obtain ⟨rfl, hE⟩ := hw
              rw [hE] at hP
              refine fl_ti (y := nI x) (by rw [hxe]) ?_
              refine va_callv (va_runV (As := [.int (nI x)]) (rest := []) ⟨hx, hb, hml, hown, hts⟩ (c_X5_pick l hJ M3 x (by omega)) (cwV 1 hts gX5_pickBy_X5_pick rfl rfl rfl (by decide +kernel) ⟨Nat.le_of_ble_eq_true rfl, Nat.le_of_ble_eq_true rfl⟩) ⟨fl_blind, va_recv hK hP (ci := 7) (q0 := 0) rfl (fl_at (by decide) rfl), fl_pre hP hK hN⟩ rfl rfl hl.1 rfl (lv_room (Nat.le_of_ble_eq_true rfl)) dX5_pickBy_130 ⟨Nat.le_of_ble_eq_true rfl, Nat.le_of_ble_eq_true rfl⟩) hS (fun _ _ h => h) (fun _ h => h) (fun M130 t H1 locs ht hvm hw hB hz1 hk1 hS => ?_)
              have hP : va_P D vwCl (fmP cI cJ ad M130) H1 := by rw [← ht]; exact hB
              clear hB hk1 hz1 hvm ht t
              rw [hw] at hP
              have hrow4 : fl_row ((fl_sI M3 12 x (M3.1 12 x + 1)).1 12) (a_bump q.1 ((a_fw wy w n b) k q.2).1) n (k + 1 + 1) := by
                rw [fl_sI_same, ← hx0]
                exact (hrow).bump hxn
              have hD4 : fm_D ((a_fw wy w n b) k q.2).2 (fl_sI M3 12 x (M3.1 12 x + 1)) := (hDb2).eq (P := fun c k => c ≠ 12) (fp.rf.sI (fun z => z rfl) _) (by decide) (by decide) (fun k => by decide)
              have he4 : fp fm_PP M (fl_sI M3 12 x (M3.1 12 x + 1)) := (he).sI (by unfold fm_PP; omega) _
              refine lv_iinc (v := nI (k + 1)) (lv' := [(6, .int (nI (k + 1))), (0, .ref (ad 0)), (1, .int (nI wy)), (2, .long (lN (a_sum w n))), (4, .long (lN b))]) hx hb dX5_pickBy_133 hl (k := 4) rfl (fl_inc k) (by decide) rfl (fun ls hl => ?_)
              refine lv_goto (tgt := 19) hx hb dX5_pickBy_136 (by decide) ?_
              exact ih19 (k + 1) (fl_sI M3 12 x (M3.1 12 x + 1)) (a_bump q.1 ((a_fw wy w n b) k q.2).1, ((a_fw wy w n b) k q.2).2) (by omega) hrow4 hD4 (Or.inr ⟨by have := a_k0_le1 kp; omega, by rw [← hin, a_pick_s l25]⟩) he4 (by omega) _ _ hP hS ls (lv_sub hl [1, 2, 3, 4, 0] rfl)
            · have w1 : wy = 1 := (nI_eq (b := 1) (by omega) (by decide)).mp hc113
              have hfw : (a_fw wy w n b) = a_f1 w n := a_fw1 w1
              refine lv_aload_n hx hb dX5_pickBy_116 rfl (lv_at hl 0 rfl) ?_
              refine lv_lload_n hx hb dX5_pickBy_117 rfl (lv_at hl 2 rfl) ?_
              refine va_calll (va_runV (As := [.long (lN (a_sum w n))]) (rest := [.long (lN (k * a_sum w n)), .ref (ad 0), .ref (ad 0)]) ⟨hx, hb, hml, hown, hts⟩ (c_X5_draw l hJ M3 q.2 (a_sum w n) hT0 (by omega) hD) (cwV 1 hts gX5_pickBy_X5_draw rfl rfl rfl (by decide +kernel) ⟨Nat.le_of_ble_eq_true rfl, Nat.le_of_ble_eq_true rfl⟩) ⟨fl_blind, va_recv hK hP (ci := 7) (q0 := 0) rfl (fl_at (by decide) rfl), fl_pre hP hK hN⟩ rfl rfl hl.1 rfl (lv_room (Nat.le_of_ble_eq_true rfl)) dX5_pickBy_118 ⟨Nat.le_of_ble_eq_true rfl, Nat.le_of_ble_eq_true rfl⟩) hS (fun _ _ h => h) (fun _ h => h) (fun r118 M118 t H1 locs ht hvm hw hB hz1 hk1 hS => ?_)
              have hP : va_P D vwCl (fmP cI cJ ad M118) H1 := by rw [← ht]; exact hB
              clear hB hk1 hz1 hvm ht t
              obtain ⟨rfl, hDb, heb⟩ := hw
              obtain ⟨bb, hbb⟩ : ∃ bb : Nat, bb = (a_next q.2).1 % a_sum w n := ⟨_, rfl⟩
              have hb1 : k * a_sum w n + bb < n * a_sum w n := a_kT l25 (by rw [hbb]; exact Nat.mod_lt _ hT0)
              have hxe : x = a_first w n (k * a_sum w n + bb) n := by rw [hx0, hfw, hbb]; rfl
              have hebb : fp fm_PP M M118 := he.tr (heb.mono (fun c k hc => hc.2.2))
              have hrb : fl_row (M118.1 12) q.1 n (k + 1) := hrow.cast (funext fun k => (heb 12 k (by unfold fm_PD; omega)).1)
              have hDb2 : fm_D ((a_fw wy w n b) k q.2).2 M118 := by rw [hfw]; exact hDb
              obtain ⟨⟨-, -, hn118⟩, ⟨-, -⟩, hww118⟩ := hW.eq hebb
              refine fl_tl (y := lN bb) (by rw [hbb]) ?_
              refine lv_goto (tgt := 126) hx hb dX5_pickBy_121 (by decide) ?_
              refine lv_ladd hx hb dX5_pickBy_126 ?_
              refine fl_tl (y := lN (k * a_sum w n + bb)) (lN_add _ _) ?_
              refine va_calli (va_runV (As := [.long (lN (k * a_sum w n + bb))]) (rest := [.ref (ad 0)]) ⟨hx, hb, hml, hown, hts⟩ (c_X5_rowAt l hJ M118 n w hn hn118 hww118 (k * a_sum w n + bb) hb1) (cwV 1 hts gX5_pickBy_X5_rowAt rfl rfl rfl (by decide +kernel) ⟨Nat.le_of_ble_eq_true rfl, Nat.le_of_ble_eq_true rfl⟩) ⟨fl_blind, va_recv hK hP (ci := 7) (q0 := 0) rfl (fl_at (by decide) rfl), fl_pre hP hK hN⟩ rfl rfl hl.1 rfl (lv_room (Nat.le_of_ble_eq_true rfl)) dX5_pickBy_127 ⟨Nat.le_of_ble_eq_true rfl, Nat.le_of_ble_eq_true rfl⟩) hS (fun _ _ h => h) (fun _ h => h) (fun r127 M127 t H1 locs ht hvm hw hB hz1 hk1 hS => ?_)
              have hP : va_P D vwCl (fmP cI cJ ad M127) H1 := by rw [← ht]; exact hB
              clear hB hk1 hz1 hvm ht t
              obtain ⟨rfl, hE⟩ := hw
              rw [hE] at hP
              refine fl_ti (y := nI x) (by rw [hxe]) ?_
              refine va_callv (va_runV (As := [.int (nI x)]) (rest := []) ⟨hx, hb, hml, hown, hts⟩ (c_X5_pick l hJ M118 x (by omega)) (cwV 1 hts gX5_pickBy_X5_pick rfl rfl rfl (by decide +kernel) ⟨Nat.le_of_ble_eq_true rfl, Nat.le_of_ble_eq_true rfl⟩) ⟨fl_blind, va_recv hK hP (ci := 7) (q0 := 0) rfl (fl_at (by decide) rfl), fl_pre hP hK hN⟩ rfl rfl hl.1 rfl (lv_room (Nat.le_of_ble_eq_true rfl)) dX5_pickBy_130 ⟨Nat.le_of_ble_eq_true rfl, Nat.le_of_ble_eq_true rfl⟩) hS (fun _ _ h => h) (fun _ h => h) (fun M130 t H1 locs ht hvm hw hB hz1 hk1 hS => ?_)
              have hP : va_P D vwCl (fmP cI cJ ad M130) H1 := by rw [← ht]; exact hB
              clear hB hk1 hz1 hvm ht t
              rw [hw] at hP
              have hrow4 : fl_row ((fl_sI M118 12 x (M118.1 12 x + 1)).1 12) (a_bump q.1 ((a_fw wy w n b) k q.2).1) n (k + 1 + 1) := by
                rw [fl_sI_same, ← hx0]
                exact (hrb).bump hxn
              have hD4 : fm_D ((a_fw wy w n b) k q.2).2 (fl_sI M118 12 x (M118.1 12 x + 1)) := (hDb2).eq (P := fun c k => c ≠ 12) (fp.rf.sI (fun z => z rfl) _) (by decide) (by decide) (fun k => by decide)
              have he4 : fp fm_PP M (fl_sI M118 12 x (M118.1 12 x + 1)) := (hebb).sI (by unfold fm_PP; omega) _
              refine lv_iinc (v := nI (k + 1)) (lv' := [(6, .int (nI (k + 1))), (0, .ref (ad 0)), (1, .int (nI wy)), (2, .long (lN (a_sum w n))), (4, .long (lN b))]) hx hb dX5_pickBy_133 hl (k := 4) rfl (fl_inc k) (by decide) rfl (fun ls hl => ?_)
              refine lv_goto (tgt := 19) hx hb dX5_pickBy_136 (by decide) ?_
              exact ih19 (k + 1) (fl_sI M118 12 x (M118.1 12 x + 1)) (a_bump q.1 ((a_fw wy w n b) k q.2).1, ((a_fw wy w n b) k q.2).2) (by omega) hrow4 hD4 (Or.inr ⟨by have := a_k0_le1 kp; omega, by rw [← hin, a_pick_s l25]⟩) he4 (by omega) _ _ hP hS ls (lv_sub hl [1, 2, 3, 4, 0] rfl)
          · have w0 : wy = 0 := (nI_eq (b := 0) (by omega) (by decide)).mp hc54
            obtain ⟨x, hx0⟩ : ∃ x, x = ((a_fw wy w n b) k q.2).1 := ⟨_, rfl⟩
            have hxn : x < n := by rw [hx0]; exact a_fwl hT0 l25 hbw hwy
            have hfw : (a_fw wy w n b) = a_f0 w n := a_fw0 w0
            refine lv_iconst (v := 0) hx hb dX5_pickBy_57 (by decide) ?_
            refine lv_istore (lv' := [(7, .int 0), (0, .ref (ad 0)), (1, .int (nI wy)), (2, .long (lN (a_sum w n))), (4, .long (lN b)), (6, .int (nI k))]) hx hb dX5_pickBy_58 hl (by decide) rfl (fun ls hl => ?_)
            suffices KL60 : ∀ (f : Nat) (j : Nat) (M4 : fl_M) (hj : j ≤ n) (hby : ∀ k, k < j → M4.2.1 10 k = lN (w k)) (he5 : fp (fun c _ => c ≠ 10) M3 M4) (hf5 : n + 1 ≤ j + f), ∀ (H : Heap) (locs : List Loc), va_P D vwCl (fmP cI cJ ad M4) H → va_S (fl_A 15 ad) s.heap H locs → ∀ (ls : Array Slot), lv_has ls 8 [(0, .ref (ad 0)), (1, .int (nI wy)), (2, .long (lN (a_sum w n))), (4, .long (lN b)), (6, .int (nI k)), (7, .int (nI j))] → W p l e (headSpec wsX5_pickBy ({ frames := 2, cells := 0, slots := 0, locals := 53 } : Room)).room s m ([.ref (ad 0), .int (nI wy), .long (lN (a_sum w n))] : List Value).toArray below meth c H locs 0 0 (MQ below (va_Qv (fun M2 => fl_row (M2.1 12) (a_picks wy kp n w d).1 n 64 ∧ fm_D (a_picks wy kp n w d).2 M2 ∧ fp fm_PP M M2) (fmQ D cI cJ ad) (fl_A 15 ad)) ([.ref (ad 0), .int (nI wy), .long (lN (a_sum w n))] : List Value).toArray s 0 0 (fl_A 15 ad)) (F0 m 60 ls []) from KL60 (n + 1) 0 M3 (Nat.zero_le _) (fun k hk => absurd hk (Nat.not_lt_zero k)) fp.rf (by omega) _ _ hP hS ls (lv_sub hl [1, 2, 3, 4, 5, 0] rfl)
            intro f
            induction f with
            | zero =>
              intro j M4 hj hby he5 hf5
              omega
            | succ f ih60 =>
              intro j M4 hj hby he5 hf5 H locs hP hS ls hl
              have hn4 : M4.1 0 7 = nI n := (he5 0 7 (by decide : (0 : Nat) ≠ 10)).1.trans hn3
              refine lv_iload hx hb dX5_pickBy_60 (lv_at hl 5 rfl) ?_
              refine lv_aload_n hx hb dX5_pickBy_62 rfl (lv_at hl 0 rfl) ?_
              refine va_get (D := D) (ci := 7) (v := .int (M4.1 0 7)) (C := RX5) (T := TX5) (N := 23) hx hb hts inX5 hown hK hP 0 (fl_at (by decide) rfl) rfl 7 (by decide) (hts (.fieldLink RX5 66 "ResampledRowsModel" "rows" "I") (by decide +kernel)) (fun _ h9 => h9) rfl dX5_pickBy_63 ?_
              refine fl_ti (y := nI n) hn4 ?_
              refine lv_icmp_ge (tgt := 89) hx hb dX5_pickBy_66 (by decide) (fun hc66 => ?_) (fun hc66 => ?_)
              · have e66 : j = n := Nat.le_antisymm hj ((nI_leI (by omega) (by omega)).mp hc66)
                have hbyN : ∀ k, k < n → M4.2.1 10 k = lN (w k) := e66 ▸ hby
                have hDj : fm_D q.2 M4 := hD.eq he5 (by decide) (by decide) (fun k => by decide)
                refine lv_aload_n hx hb dX5_pickBy_89 rfl (lv_at hl 0 rfl) ?_
                refine lv_aload_n hx hb dX5_pickBy_90 rfl (lv_at hl 0 rfl) ?_
                refine lv_aload_n hx hb dX5_pickBy_91 rfl (lv_at hl 0 rfl) ?_
                refine va_get (D := D) (ci := 7) (v := .int (M4.1 0 7)) (C := RX5) (T := TX5) (N := 23) hx hb hts inX5 hown hK hP 0 (fl_at (by decide) rfl) rfl 7 (by decide) (hts (.fieldLink RX5 66 "ResampledRowsModel" "rows" "I") (by decide +kernel)) (fun _ h9 => h9) rfl dX5_pickBy_92 ?_
                refine fl_ti (y := nI n) hn4 ?_
                refine va_calli (va_runV (As := [.int (nI n)]) (rest := [.ref (ad 0)]) ⟨hx, hb, hml, hown, hts⟩ (c_X5_drawBy l hJ M4 q.2 n w hn hbyN (by omega) hDj) (cwV 1 hts gX5_pickBy_X5_drawBy rfl rfl rfl (by decide +kernel) ⟨Nat.le_of_ble_eq_true rfl, Nat.le_of_ble_eq_true rfl⟩) ⟨fl_blind, va_recv hK hP (ci := 7) (q0 := 0) rfl (fl_at (by decide) rfl), fl_pre hP hK hN⟩ rfl rfl hl.1 rfl (lv_room (Nat.le_of_ble_eq_true rfl)) dX5_pickBy_95 ⟨Nat.le_of_ble_eq_true rfl, Nat.le_of_ble_eq_true rfl⟩) hS (fun _ _ h => h) (fun _ h => h) (fun r95 M95 t H1 locs ht hvm hw hB hz1 hk1 hS => ?_)
                have hP : va_P D vwCl (fmP cI cJ ad M95) H1 := by rw [← ht]; exact hB
                clear hB hk1 hz1 hvm ht t
                obtain ⟨rfl, hDb, heb⟩ := hw
                refine fl_ti (y := nI x) (by rw [hx0, hfw, a_by_some (by omega)]; rfl) ?_
                have hebb : fp fm_PP M M95 := (he.tr (he5.mono (fun c k hc => hc.1))).tr (heb.mono (fun c k hc => hc.2.2))
                have hrb : fl_row (M95.1 12) q.1 n (k + 1) := hrow.cast (funext fun k => (heb 12 k (by unfold fm_PD; omega)).1.trans (he5 12 k (by decide : (12 : Nat) ≠ 10)).1)
                have hDb2 : fm_D ((a_fw wy w n b) k q.2).2 M95 := by rw [hfw]; exact hDb
                refine va_callv (va_runV (As := [.int (nI x)]) (rest := []) ⟨hx, hb, hml, hown, hts⟩ (c_X5_pick l hJ M95 x (by omega)) (cwV 1 hts gX5_pickBy_X5_pick rfl rfl rfl (by decide +kernel) ⟨Nat.le_of_ble_eq_true rfl, Nat.le_of_ble_eq_true rfl⟩) ⟨fl_blind, va_recv hK hP (ci := 7) (q0 := 0) rfl (fl_at (by decide) rfl), fl_pre hP hK hN⟩ rfl rfl hl.1 rfl (lv_room (Nat.le_of_ble_eq_true rfl)) dX5_pickBy_98 ⟨Nat.le_of_ble_eq_true rfl, Nat.le_of_ble_eq_true rfl⟩) hS (fun _ _ h => h) (fun _ h => h) (fun M98 t H1 locs ht hvm hw hB hz1 hk1 hS => ?_)
                have hP : va_P D vwCl (fmP cI cJ ad M98) H1 := by rw [← ht]; exact hB
                clear hB hk1 hz1 hvm ht t
                rw [hw] at hP
                have hrow4 : fl_row ((fl_sI M95 12 x (M95.1 12 x + 1)).1 12) (a_bump q.1 ((a_fw wy w n b) k q.2).1) n (k + 1 + 1) := by
                  rw [fl_sI_same, ← hx0]
                  exact (hrb).bump hxn
                have hD4 : fm_D ((a_fw wy w n b) k q.2).2 (fl_sI M95 12 x (M95.1 12 x + 1)) := (hDb2).eq (P := fun c k => c ≠ 12) (fp.rf.sI (fun z => z rfl) _) (by decide) (by decide) (fun k => by decide)
                have he4 : fp fm_PP M (fl_sI M95 12 x (M95.1 12 x + 1)) := (hebb).sI (by unfold fm_PP; omega) _
                refine lv_goto (tgt := 133) hx hb dX5_pickBy_101 (by decide) ?_
                refine lv_iinc (v := nI (k + 1)) (lv' := [(6, .int (nI (k + 1))), (0, .ref (ad 0)), (1, .int (nI wy)), (2, .long (lN (a_sum w n))), (4, .long (lN b)), (7, .int (nI j))]) hx hb dX5_pickBy_133 hl (k := 4) rfl (fl_inc k) (by decide) rfl (fun ls hl => ?_)
                refine lv_goto (tgt := 19) hx hb dX5_pickBy_136 (by decide) ?_
                exact ih19 (k + 1) (fl_sI M95 12 x (M95.1 12 x + 1)) (a_bump q.1 ((a_fw wy w n b) k q.2).1, ((a_fw wy w n b) k q.2).2) (by omega) hrow4 hD4 (Or.inr ⟨by have := a_k0_le1 kp; omega, by rw [← hin, a_pick_s l25]⟩) he4 (by omega) _ _ hP hS ls (lv_sub hl [1, 2, 3, 4, 0] rfl)
              · have l66 : j < n := Nat.lt_of_not_le (fun q => hc66 ((nI_leI (by omega) (by omega)).mpr q))
                refine lv_aload_n hx hb dX5_pickBy_69 rfl (lv_at hl 0 rfl) ?_
                refine va_get (D := D) (ci := 7) (v := .ref (ad 10)) (C := RX5) (T := TX5) (N := 23) hx hb hts inX5 hown hK hP 0 (fl_at (by decide) rfl) rfl 18 (by decide) (hts (.fieldLink RX5 38 "ResampledRowsModel" "by" "[J") (by decide +kernel)) (fun _ h9 => h9) rfl dX5_pickBy_70 ?_
                refine lv_iload hx hb dX5_pickBy_73 (lv_at hl 5 rfl) ?_
                refine lv_aload_n hx hb dX5_pickBy_75 rfl (lv_at hl 0 rfl) ?_
                refine va_get (D := D) (ci := 7) (v := .ref (ad 7)) (C := RX5) (T := TX5) (N := 23) hx hb hts inX5 hown hK hP 0 (fl_at (by decide) rfl) rfl 10 (by decide) (hts (.fieldLink RX5 28 "ResampledRowsModel" "weights" "[J") (by decide +kernel)) (fun _ h9 => h9) rfl dX5_pickBy_76 ?_
                refine lv_iload hx hb dX5_pickBy_79 (lv_at hl 5 rfl) ?_
                refine fl_jld (n := 16) (k := j) hx hb hK hP (fl_at (by decide) rfl) rfl rfl (by omega) (by decide) dX5_pickBy_81 ?_
                refine fl_tl (y := lN (w j)) (by rw [(he5 7 j (by decide : (7 : Nat) ≠ 10)).2.1]; exact (hww3 j l66).1) ?_
                refine fl_jst (n := 16) (k := j) (x := lN (w j)) hx hb hK hJ hP hS (fm_loc cI cJ ad) (fl_at (by decide) rfl) rfl rfl rfl (by omega) (by decide) dX5_pickBy_82 (fun H locs hP hS => ?_)
                refine lv_iinc (v := nI (j + 1)) (lv' := [(7, .int (nI (j + 1))), (0, .ref (ad 0)), (1, .int (nI wy)), (2, .long (lN (a_sum w n))), (4, .long (lN b)), (6, .int (nI k))]) hx hb dX5_pickBy_83 hl (k := 5) rfl (fl_inc j) (by decide) rfl (fun ls hl => ?_)
                refine lv_goto (tgt := 60) hx hb dX5_pickBy_86 (by decide) ?_
                exact ih60 (j + 1) (fl_sJ M4 10 j (lN (w j))) (by omega) (fm_by hby rfl) (he5.sJ (fun z => z rfl) _) (by omega) _ _ hP hS ls (lv_sub hl [1, 2, 3, 4, 5, 0] rfl)
        · have k0 : k = 0 := (nI_eq (b := 0) (by omega) (by decide)).mp hc30
          refine lv_aload_n hx hb dX5_pickBy_33 rfl (lv_at hl 0 rfl) ?_
          refine va_get (D := D) (ci := 7) (v := .int (M3.1 0 14)) (C := RX5) (T := TX5) (N := 23) hx hb hts inX5 hown hK hP 0 (fl_at (by decide) rfl) rfl 14 (by decide) (hts (.fieldLink RX5 76 "ResampledRowsModel" "kept" "I") (by decide +kernel)) (fun _ h9 => h9) rfl dX5_pickBy_34 ?_
          refine fl_ti (y := a_oI kp (-1000009)) hk3 ?_
          refine lv_ldc (v := -1000009) hx hb hown (hts (.constant RX5 75 (-1000009)) (by decide +kernel)) dX5_pickBy_37 ?_
          refine lv_icmp_eq (tgt := 53) hx hb dX5_pickBy_39 (by decide) (fun hc39 => ?_) (fun hc39 => ?_)
          · have hkn := a_oI_eq (by decide) hkl hn hc39
            have hin : a_pick (a_fw wy w n b) (n - k) k q = a_pick (a_fw wy w n b) (n - a_k0 kp) (a_k0 kp) (a_t0 kp, d1) := hinv.elim (fun h => absurd h.1 (by rw [hkn]; exact Nat.not_lt_zero _)) (fun h => h.2)
            refine lv_iload_n hx hb dX5_pickBy_53 rfl (lv_at hl 1 rfl) ?_
            refine lv_if_ne (tgt := 104) hx hb dX5_pickBy_54 (by decide) (fun hc54 => ?_) (fun hc54 => ?_)
            · have w0 : ¬ wy = 0 := fun z => hc54 (by rw [z]; rfl)
              obtain ⟨x, hx0⟩ : ∃ x, x = ((a_fw wy w n b) k q.2).1 := ⟨_, rfl⟩
              have hxn : x < n := by rw [hx0]; exact a_fwl hT0 l25 hbw hwy
              refine lv_aload_n hx hb dX5_pickBy_104 rfl (lv_at hl 0 rfl) ?_
              refine lv_aload_n hx hb dX5_pickBy_105 rfl (lv_at hl 0 rfl) ?_
              refine lv_iload hx hb dX5_pickBy_106 (lv_at hl 4 rfl) ?_
              refine lv_i2l (v := (nI k).toInt64) hx hb dX5_pickBy_108 rfl ?_
              refine fl_tl (y := lN k) (nI_l (by omega)) ?_
              refine lv_lload_n hx hb dX5_pickBy_109 rfl (lv_at hl 2 rfl) ?_
              refine lv_lmul hx hb dX5_pickBy_110 ?_
              refine fl_tl (y := lN (k * a_sum w n)) (lN_mul _ _) ?_
              refine lv_iload_n hx hb dX5_pickBy_111 rfl (lv_at hl 1 rfl) ?_
              refine lv_iconst (v := 1) hx hb dX5_pickBy_112 (by decide) ?_
              refine lv_icmp_ne (tgt := 124) hx hb dX5_pickBy_113 (by decide) (fun hc113 => ?_) (fun hc113 => ?_)
              · have w1 : ¬ wy = 1 := fun z => hc113 (by rw [z]; rfl)
                have hfw : (a_fw wy w n b) = a_f2 w n b := a_fw2 (by omega)
                have hb1 : k * a_sum w n + b < n * a_sum w n := a_kT l25 (hbw (by omega))
                have hxe : x = a_first w n (k * a_sum w n + b) n := by rw [hx0, hfw]; rfl
                have hDb2 : fm_D ((a_fw wy w n b) k q.2).2 M3 := by rw [hfw]; exact hD
                refine lv_lload hx hb dX5_pickBy_124 (lv_at hl 3 rfl) ?_
                refine lv_ladd hx hb dX5_pickBy_126 ?_
                refine fl_tl (y := lN (k * a_sum w n + b)) (lN_add _ _) ?_
                refine va_calli (va_runV (As := [.long (lN (k * a_sum w n + b))]) (rest := [.ref (ad 0)]) ⟨hx, hb, hml, hown, hts⟩ (c_X5_rowAt l hJ M3 n w hn hn3 hww3 (k * a_sum w n + b) hb1) (cwV 1 hts gX5_pickBy_X5_rowAt rfl rfl rfl (by decide +kernel) ⟨Nat.le_of_ble_eq_true rfl, Nat.le_of_ble_eq_true rfl⟩) ⟨fl_blind, va_recv hK hP (ci := 7) (q0 := 0) rfl (fl_at (by decide) rfl), fl_pre hP hK hN⟩ rfl rfl hl.1 rfl (lv_room (Nat.le_of_ble_eq_true rfl)) dX5_pickBy_127 ⟨Nat.le_of_ble_eq_true rfl, Nat.le_of_ble_eq_true rfl⟩) hS (fun _ _ h => h) (fun _ h => h) (fun r127 M127 t H1 locs ht hvm hw hB hz1 hk1 hS => ?_)
                have hP : va_P D vwCl (fmP cI cJ ad M127) H1 := by rw [← ht]; exact hB
                clear hB hk1 hz1 hvm ht t
                obtain ⟨rfl, hE⟩ := hw
                rw [hE] at hP
                refine fl_ti (y := nI x) (by rw [hxe]) ?_
                refine va_callv (va_runV (As := [.int (nI x)]) (rest := []) ⟨hx, hb, hml, hown, hts⟩ (c_X5_pick l hJ M3 x (by omega)) (cwV 1 hts gX5_pickBy_X5_pick rfl rfl rfl (by decide +kernel) ⟨Nat.le_of_ble_eq_true rfl, Nat.le_of_ble_eq_true rfl⟩) ⟨fl_blind, va_recv hK hP (ci := 7) (q0 := 0) rfl (fl_at (by decide) rfl), fl_pre hP hK hN⟩ rfl rfl hl.1 rfl (lv_room (Nat.le_of_ble_eq_true rfl)) dX5_pickBy_130 ⟨Nat.le_of_ble_eq_true rfl, Nat.le_of_ble_eq_true rfl⟩) hS (fun _ _ h => h) (fun _ h => h) (fun M130 t H1 locs ht hvm hw hB hz1 hk1 hS => ?_)
                have hP : va_P D vwCl (fmP cI cJ ad M130) H1 := by rw [← ht]; exact hB
                clear hB hk1 hz1 hvm ht t
                rw [hw] at hP
                have hrow4 : fl_row ((fl_sI M3 12 x (M3.1 12 x + 1)).1 12) (a_bump q.1 ((a_fw wy w n b) k q.2).1) n (k + 1 + 1) := by
                  rw [fl_sI_same, ← hx0]
                  exact (hrow).bump hxn
                have hD4 : fm_D ((a_fw wy w n b) k q.2).2 (fl_sI M3 12 x (M3.1 12 x + 1)) := (hDb2).eq (P := fun c k => c ≠ 12) (fp.rf.sI (fun z => z rfl) _) (by decide) (by decide) (fun k => by decide)
                have he4 : fp fm_PP M (fl_sI M3 12 x (M3.1 12 x + 1)) := (he).sI (by unfold fm_PP; omega) _
                refine lv_iinc (v := nI (k + 1)) (lv' := [(6, .int (nI (k + 1))), (0, .ref (ad 0)), (1, .int (nI wy)), (2, .long (lN (a_sum w n))), (4, .long (lN b))]) hx hb dX5_pickBy_133 hl (k := 4) rfl (fl_inc k) (by decide) rfl (fun ls hl => ?_)
                refine lv_goto (tgt := 19) hx hb dX5_pickBy_136 (by decide) ?_
                exact ih19 (k + 1) (fl_sI M3 12 x (M3.1 12 x + 1)) (a_bump q.1 ((a_fw wy w n b) k q.2).1, ((a_fw wy w n b) k q.2).2) (by omega) hrow4 hD4 (Or.inr ⟨by have := a_k0_le1 kp; omega, by rw [← hin, a_pick_s l25]⟩) he4 (by omega) _ _ hP hS ls (lv_sub hl [1, 2, 3, 4, 0] rfl)
              · have w1 : wy = 1 := (nI_eq (b := 1) (by omega) (by decide)).mp hc113
                have hfw : (a_fw wy w n b) = a_f1 w n := a_fw1 w1
                refine lv_aload_n hx hb dX5_pickBy_116 rfl (lv_at hl 0 rfl) ?_
                refine lv_lload_n hx hb dX5_pickBy_117 rfl (lv_at hl 2 rfl) ?_
                refine va_calll (va_runV (As := [.long (lN (a_sum w n))]) (rest := [.long (lN (k * a_sum w n)), .ref (ad 0), .ref (ad 0)]) ⟨hx, hb, hml, hown, hts⟩ (c_X5_draw l hJ M3 q.2 (a_sum w n) hT0 (by omega) hD) (cwV 1 hts gX5_pickBy_X5_draw rfl rfl rfl (by decide +kernel) ⟨Nat.le_of_ble_eq_true rfl, Nat.le_of_ble_eq_true rfl⟩) ⟨fl_blind, va_recv hK hP (ci := 7) (q0 := 0) rfl (fl_at (by decide) rfl), fl_pre hP hK hN⟩ rfl rfl hl.1 rfl (lv_room (Nat.le_of_ble_eq_true rfl)) dX5_pickBy_118 ⟨Nat.le_of_ble_eq_true rfl, Nat.le_of_ble_eq_true rfl⟩) hS (fun _ _ h => h) (fun _ h => h) (fun r118 M118 t H1 locs ht hvm hw hB hz1 hk1 hS => ?_)
                have hP : va_P D vwCl (fmP cI cJ ad M118) H1 := by rw [← ht]; exact hB
                clear hB hk1 hz1 hvm ht t
                obtain ⟨rfl, hDb, heb⟩ := hw
                obtain ⟨bb, hbb⟩ : ∃ bb : Nat, bb = (a_next q.2).1 % a_sum w n := ⟨_, rfl⟩
                have hb1 : k * a_sum w n + bb < n * a_sum w n := a_kT l25 (by rw [hbb]; exact Nat.mod_lt _ hT0)
                have hxe : x = a_first w n (k * a_sum w n + bb) n := by rw [hx0, hfw, hbb]; rfl
                have hebb : fp fm_PP M M118 := he.tr (heb.mono (fun c k hc => hc.2.2))
                have hrb : fl_row (M118.1 12) q.1 n (k + 1) := hrow.cast (funext fun k => (heb 12 k (by unfold fm_PD; omega)).1)
                have hDb2 : fm_D ((a_fw wy w n b) k q.2).2 M118 := by rw [hfw]; exact hDb
                obtain ⟨⟨-, -, hn118⟩, ⟨-, -⟩, hww118⟩ := hW.eq hebb
                refine fl_tl (y := lN bb) (by rw [hbb]) ?_
                refine lv_goto (tgt := 126) hx hb dX5_pickBy_121 (by decide) ?_
                refine lv_ladd hx hb dX5_pickBy_126 ?_
                refine fl_tl (y := lN (k * a_sum w n + bb)) (lN_add _ _) ?_
                refine va_calli (va_runV (As := [.long (lN (k * a_sum w n + bb))]) (rest := [.ref (ad 0)]) ⟨hx, hb, hml, hown, hts⟩ (c_X5_rowAt l hJ M118 n w hn hn118 hww118 (k * a_sum w n + bb) hb1) (cwV 1 hts gX5_pickBy_X5_rowAt rfl rfl rfl (by decide +kernel) ⟨Nat.le_of_ble_eq_true rfl, Nat.le_of_ble_eq_true rfl⟩) ⟨fl_blind, va_recv hK hP (ci := 7) (q0 := 0) rfl (fl_at (by decide) rfl), fl_pre hP hK hN⟩ rfl rfl hl.1 rfl (lv_room (Nat.le_of_ble_eq_true rfl)) dX5_pickBy_127 ⟨Nat.le_of_ble_eq_true rfl, Nat.le_of_ble_eq_true rfl⟩) hS (fun _ _ h => h) (fun _ h => h) (fun r127 M127 t H1 locs ht hvm hw hB hz1 hk1 hS => ?_)
                have hP : va_P D vwCl (fmP cI cJ ad M127) H1 := by rw [← ht]; exact hB
                clear hB hk1 hz1 hvm ht t
                obtain ⟨rfl, hE⟩ := hw
                rw [hE] at hP
                refine fl_ti (y := nI x) (by rw [hxe]) ?_
                refine va_callv (va_runV (As := [.int (nI x)]) (rest := []) ⟨hx, hb, hml, hown, hts⟩ (c_X5_pick l hJ M118 x (by omega)) (cwV 1 hts gX5_pickBy_X5_pick rfl rfl rfl (by decide +kernel) ⟨Nat.le_of_ble_eq_true rfl, Nat.le_of_ble_eq_true rfl⟩) ⟨fl_blind, va_recv hK hP (ci := 7) (q0 := 0) rfl (fl_at (by decide) rfl), fl_pre hP hK hN⟩ rfl rfl hl.1 rfl (lv_room (Nat.le_of_ble_eq_true rfl)) dX5_pickBy_130 ⟨Nat.le_of_ble_eq_true rfl, Nat.le_of_ble_eq_true rfl⟩) hS (fun _ _ h => h) (fun _ h => h) (fun M130 t H1 locs ht hvm hw hB hz1 hk1 hS => ?_)
                have hP : va_P D vwCl (fmP cI cJ ad M130) H1 := by rw [← ht]; exact hB
                clear hB hk1 hz1 hvm ht t
                rw [hw] at hP
                have hrow4 : fl_row ((fl_sI M118 12 x (M118.1 12 x + 1)).1 12) (a_bump q.1 ((a_fw wy w n b) k q.2).1) n (k + 1 + 1) := by
                  rw [fl_sI_same, ← hx0]
                  exact (hrb).bump hxn
                have hD4 : fm_D ((a_fw wy w n b) k q.2).2 (fl_sI M118 12 x (M118.1 12 x + 1)) := (hDb2).eq (P := fun c k => c ≠ 12) (fp.rf.sI (fun z => z rfl) _) (by decide) (by decide) (fun k => by decide)
                have he4 : fp fm_PP M (fl_sI M118 12 x (M118.1 12 x + 1)) := (hebb).sI (by unfold fm_PP; omega) _
                refine lv_iinc (v := nI (k + 1)) (lv' := [(6, .int (nI (k + 1))), (0, .ref (ad 0)), (1, .int (nI wy)), (2, .long (lN (a_sum w n))), (4, .long (lN b))]) hx hb dX5_pickBy_133 hl (k := 4) rfl (fl_inc k) (by decide) rfl (fun ls hl => ?_)
                refine lv_goto (tgt := 19) hx hb dX5_pickBy_136 (by decide) ?_
                exact ih19 (k + 1) (fl_sI M118 12 x (M118.1 12 x + 1)) (a_bump q.1 ((a_fw wy w n b) k q.2).1, ((a_fw wy w n b) k q.2).2) (by omega) hrow4 hD4 (Or.inr ⟨by have := a_k0_le1 kp; omega, by rw [← hin, a_pick_s l25]⟩) he4 (by omega) _ _ hP hS ls (lv_sub hl [1, 2, 3, 4, 0] rfl)
            · have w0 : wy = 0 := (nI_eq (b := 0) (by omega) (by decide)).mp hc54
              obtain ⟨x, hx0⟩ : ∃ x, x = ((a_fw wy w n b) k q.2).1 := ⟨_, rfl⟩
              have hxn : x < n := by rw [hx0]; exact a_fwl hT0 l25 hbw hwy
              have hfw : (a_fw wy w n b) = a_f0 w n := a_fw0 w0
              refine lv_iconst (v := 0) hx hb dX5_pickBy_57 (by decide) ?_
              refine lv_istore (lv' := [(7, .int 0), (0, .ref (ad 0)), (1, .int (nI wy)), (2, .long (lN (a_sum w n))), (4, .long (lN b)), (6, .int (nI k))]) hx hb dX5_pickBy_58 hl (by decide) rfl (fun ls hl => ?_)
              suffices KL60 : ∀ (f : Nat) (j : Nat) (M4 : fl_M) (hj : j ≤ n) (hby : ∀ k, k < j → M4.2.1 10 k = lN (w k)) (he5 : fp (fun c _ => c ≠ 10) M3 M4) (hf5 : n + 1 ≤ j + f), ∀ (H : Heap) (locs : List Loc), va_P D vwCl (fmP cI cJ ad M4) H → va_S (fl_A 15 ad) s.heap H locs → ∀ (ls : Array Slot), lv_has ls 8 [(0, .ref (ad 0)), (1, .int (nI wy)), (2, .long (lN (a_sum w n))), (4, .long (lN b)), (6, .int (nI k)), (7, .int (nI j))] → W p l e (headSpec wsX5_pickBy ({ frames := 2, cells := 0, slots := 0, locals := 53 } : Room)).room s m ([.ref (ad 0), .int (nI wy), .long (lN (a_sum w n))] : List Value).toArray below meth c H locs 0 0 (MQ below (va_Qv (fun M2 => fl_row (M2.1 12) (a_picks wy kp n w d).1 n 64 ∧ fm_D (a_picks wy kp n w d).2 M2 ∧ fp fm_PP M M2) (fmQ D cI cJ ad) (fl_A 15 ad)) ([.ref (ad 0), .int (nI wy), .long (lN (a_sum w n))] : List Value).toArray s 0 0 (fl_A 15 ad)) (F0 m 60 ls []) from KL60 (n + 1) 0 M3 (Nat.zero_le _) (fun k hk => absurd hk (Nat.not_lt_zero k)) fp.rf (by omega) _ _ hP hS ls (lv_sub hl [1, 2, 3, 4, 5, 0] rfl)
              intro f
              induction f with
              | zero =>
                intro j M4 hj hby he5 hf5
                omega
              | succ f ih60 =>
                intro j M4 hj hby he5 hf5 H locs hP hS ls hl
                have hn4 : M4.1 0 7 = nI n := (he5 0 7 (by decide : (0 : Nat) ≠ 10)).1.trans hn3
                refine lv_iload hx hb dX5_pickBy_60 (lv_at hl 5 rfl) ?_
                refine lv_aload_n hx hb dX5_pickBy_62 rfl (lv_at hl 0 rfl) ?_
                refine va_get (D := D) (ci := 7) (v := .int (M4.1 0 7)) (C := RX5) (T := TX5) (N := 23) hx hb hts inX5 hown hK hP 0 (fl_at (by decide) rfl) rfl 7 (by decide) (hts (.fieldLink RX5 66 "ResampledRowsModel" "rows" "I") (by decide +kernel)) (fun _ h9 => h9) rfl dX5_pickBy_63 ?_
                refine fl_ti (y := nI n) hn4 ?_
                refine lv_icmp_ge (tgt := 89) hx hb dX5_pickBy_66 (by decide) (fun hc66 => ?_) (fun hc66 => ?_)
                · have e66 : j = n := Nat.le_antisymm hj ((nI_leI (by omega) (by omega)).mp hc66)
                  have hbyN : ∀ k, k < n → M4.2.1 10 k = lN (w k) := e66 ▸ hby
                  have hDj : fm_D q.2 M4 := hD.eq he5 (by decide) (by decide) (fun k => by decide)
                  refine lv_aload_n hx hb dX5_pickBy_89 rfl (lv_at hl 0 rfl) ?_
                  refine lv_aload_n hx hb dX5_pickBy_90 rfl (lv_at hl 0 rfl) ?_
                  refine lv_aload_n hx hb dX5_pickBy_91 rfl (lv_at hl 0 rfl) ?_
                  refine va_get (D := D) (ci := 7) (v := .int (M4.1 0 7)) (C := RX5) (T := TX5) (N := 23) hx hb hts inX5 hown hK hP 0 (fl_at (by decide) rfl) rfl 7 (by decide) (hts (.fieldLink RX5 66 "ResampledRowsModel" "rows" "I") (by decide +kernel)) (fun _ h9 => h9) rfl dX5_pickBy_92 ?_
                  refine fl_ti (y := nI n) hn4 ?_
                  refine va_calli (va_runV (As := [.int (nI n)]) (rest := [.ref (ad 0)]) ⟨hx, hb, hml, hown, hts⟩ (c_X5_drawBy l hJ M4 q.2 n w hn hbyN (by omega) hDj) (cwV 1 hts gX5_pickBy_X5_drawBy rfl rfl rfl (by decide +kernel) ⟨Nat.le_of_ble_eq_true rfl, Nat.le_of_ble_eq_true rfl⟩) ⟨fl_blind, va_recv hK hP (ci := 7) (q0 := 0) rfl (fl_at (by decide) rfl), fl_pre hP hK hN⟩ rfl rfl hl.1 rfl (lv_room (Nat.le_of_ble_eq_true rfl)) dX5_pickBy_95 ⟨Nat.le_of_ble_eq_true rfl, Nat.le_of_ble_eq_true rfl⟩) hS (fun _ _ h => h) (fun _ h => h) (fun r95 M95 t H1 locs ht hvm hw hB hz1 hk1 hS => ?_)
                  have hP : va_P D vwCl (fmP cI cJ ad M95) H1 := by rw [← ht]; exact hB
                  clear hB hk1 hz1 hvm ht t
                  obtain ⟨rfl, hDb, heb⟩ := hw
                  refine fl_ti (y := nI x) (by rw [hx0, hfw, a_by_some (by omega)]; rfl) ?_
                  have hebb : fp fm_PP M M95 := (he.tr (he5.mono (fun c k hc => hc.1))).tr (heb.mono (fun c k hc => hc.2.2))
                  have hrb : fl_row (M95.1 12) q.1 n (k + 1) := hrow.cast (funext fun k => (heb 12 k (by unfold fm_PD; omega)).1.trans (he5 12 k (by decide : (12 : Nat) ≠ 10)).1)
                  have hDb2 : fm_D ((a_fw wy w n b) k q.2).2 M95 := by rw [hfw]; exact hDb
                  refine va_callv (va_runV (As := [.int (nI x)]) (rest := []) ⟨hx, hb, hml, hown, hts⟩ (c_X5_pick l hJ M95 x (by omega)) (cwV 1 hts gX5_pickBy_X5_pick rfl rfl rfl (by decide +kernel) ⟨Nat.le_of_ble_eq_true rfl, Nat.le_of_ble_eq_true rfl⟩) ⟨fl_blind, va_recv hK hP (ci := 7) (q0 := 0) rfl (fl_at (by decide) rfl), fl_pre hP hK hN⟩ rfl rfl hl.1 rfl (lv_room (Nat.le_of_ble_eq_true rfl)) dX5_pickBy_98 ⟨Nat.le_of_ble_eq_true rfl, Nat.le_of_ble_eq_true rfl⟩) hS (fun _ _ h => h) (fun _ h => h) (fun M98 t H1 locs ht hvm hw hB hz1 hk1 hS => ?_)
                  have hP : va_P D vwCl (fmP cI cJ ad M98) H1 := by rw [← ht]; exact hB
                  clear hB hk1 hz1 hvm ht t
                  rw [hw] at hP
                  have hrow4 : fl_row ((fl_sI M95 12 x (M95.1 12 x + 1)).1 12) (a_bump q.1 ((a_fw wy w n b) k q.2).1) n (k + 1 + 1) := by
                    rw [fl_sI_same, ← hx0]
                    exact (hrb).bump hxn
                  have hD4 : fm_D ((a_fw wy w n b) k q.2).2 (fl_sI M95 12 x (M95.1 12 x + 1)) := (hDb2).eq (P := fun c k => c ≠ 12) (fp.rf.sI (fun z => z rfl) _) (by decide) (by decide) (fun k => by decide)
                  have he4 : fp fm_PP M (fl_sI M95 12 x (M95.1 12 x + 1)) := (hebb).sI (by unfold fm_PP; omega) _
                  refine lv_goto (tgt := 133) hx hb dX5_pickBy_101 (by decide) ?_
                  refine lv_iinc (v := nI (k + 1)) (lv' := [(6, .int (nI (k + 1))), (0, .ref (ad 0)), (1, .int (nI wy)), (2, .long (lN (a_sum w n))), (4, .long (lN b)), (7, .int (nI j))]) hx hb dX5_pickBy_133 hl (k := 4) rfl (fl_inc k) (by decide) rfl (fun ls hl => ?_)
                  refine lv_goto (tgt := 19) hx hb dX5_pickBy_136 (by decide) ?_
                  exact ih19 (k + 1) (fl_sI M95 12 x (M95.1 12 x + 1)) (a_bump q.1 ((a_fw wy w n b) k q.2).1, ((a_fw wy w n b) k q.2).2) (by omega) hrow4 hD4 (Or.inr ⟨by have := a_k0_le1 kp; omega, by rw [← hin, a_pick_s l25]⟩) he4 (by omega) _ _ hP hS ls (lv_sub hl [1, 2, 3, 4, 0] rfl)
                · have l66 : j < n := Nat.lt_of_not_le (fun q => hc66 ((nI_leI (by omega) (by omega)).mpr q))
                  refine lv_aload_n hx hb dX5_pickBy_69 rfl (lv_at hl 0 rfl) ?_
                  refine va_get (D := D) (ci := 7) (v := .ref (ad 10)) (C := RX5) (T := TX5) (N := 23) hx hb hts inX5 hown hK hP 0 (fl_at (by decide) rfl) rfl 18 (by decide) (hts (.fieldLink RX5 38 "ResampledRowsModel" "by" "[J") (by decide +kernel)) (fun _ h9 => h9) rfl dX5_pickBy_70 ?_
                  refine lv_iload hx hb dX5_pickBy_73 (lv_at hl 5 rfl) ?_
                  refine lv_aload_n hx hb dX5_pickBy_75 rfl (lv_at hl 0 rfl) ?_
                  refine va_get (D := D) (ci := 7) (v := .ref (ad 7)) (C := RX5) (T := TX5) (N := 23) hx hb hts inX5 hown hK hP 0 (fl_at (by decide) rfl) rfl 10 (by decide) (hts (.fieldLink RX5 28 "ResampledRowsModel" "weights" "[J") (by decide +kernel)) (fun _ h9 => h9) rfl dX5_pickBy_76 ?_
                  refine lv_iload hx hb dX5_pickBy_79 (lv_at hl 5 rfl) ?_
                  refine fl_jld (n := 16) (k := j) hx hb hK hP (fl_at (by decide) rfl) rfl rfl (by omega) (by decide) dX5_pickBy_81 ?_
                  refine fl_tl (y := lN (w j)) (by rw [(he5 7 j (by decide : (7 : Nat) ≠ 10)).2.1]; exact (hww3 j l66).1) ?_
                  refine fl_jst (n := 16) (k := j) (x := lN (w j)) hx hb hK hJ hP hS (fm_loc cI cJ ad) (fl_at (by decide) rfl) rfl rfl rfl (by omega) (by decide) dX5_pickBy_82 (fun H locs hP hS => ?_)
                  refine lv_iinc (v := nI (j + 1)) (lv' := [(7, .int (nI (j + 1))), (0, .ref (ad 0)), (1, .int (nI wy)), (2, .long (lN (a_sum w n))), (4, .long (lN b)), (6, .int (nI k))]) hx hb dX5_pickBy_83 hl (k := 5) rfl (fl_inc j) (by decide) rfl (fun ls hl => ?_)
                  refine lv_goto (tgt := 60) hx hb dX5_pickBy_86 (by decide) ?_
                  exact ih60 (j + 1) (fl_sJ M4 10 j (lN (w j))) (by omega) (fm_by hby rfl) (he5.sJ (fun z => z rfl) _) (by omega) _ _ hP hS ls (lv_sub hl [1, 2, 3, 4, 5, 0] rfl)
          · obtain ⟨z, hks⟩ := a_oI_ne hc39
            have hzl := hkl z hks
            have hk1 : a_k0 kp = 1 := by rw [hks]; rfl
            have hq0 : q = (fun _ => 0, d1) := hinv.elim (fun h => h.2) (fun h => absurd h.1 (by omega))
            refine lv_aload_n hx hb dX5_pickBy_42 rfl (lv_at hl 0 rfl) ?_
            refine lv_aload_n hx hb dX5_pickBy_43 rfl (lv_at hl 0 rfl) ?_
            refine va_get (D := D) (ci := 7) (v := .int (M3.1 0 14)) (C := RX5) (T := TX5) (N := 23) hx hb hts inX5 hown hK hP 0 (fl_at (by decide) rfl) rfl 14 (by decide) (hts (.fieldLink RX5 76 "ResampledRowsModel" "kept" "I") (by decide +kernel)) (fun _ h9 => h9) rfl dX5_pickBy_44 ?_
            refine fl_ti (y := a_oI kp (-1000009)) hk3 ?_
            refine fl_ti (y := nI z) (by rw [hks]; rfl) ?_
            refine va_callv (va_runV (As := [.int (nI z)]) (rest := []) ⟨hx, hb, hml, hown, hts⟩ (c_X5_pick l hJ M3 z (by omega)) (cwV 1 hts gX5_pickBy_X5_pick rfl rfl rfl (by decide +kernel) ⟨Nat.le_of_ble_eq_true rfl, Nat.le_of_ble_eq_true rfl⟩) ⟨fl_blind, va_recv hK hP (ci := 7) (q0 := 0) rfl (fl_at (by decide) rfl), fl_pre hP hK hN⟩ rfl rfl hl.1 rfl (lv_room (Nat.le_of_ble_eq_true rfl)) dX5_pickBy_47 ⟨Nat.le_of_ble_eq_true rfl, Nat.le_of_ble_eq_true rfl⟩) hS (fun _ _ h => h) (fun _ h => h) (fun M47 t H1 locs ht hvm hw hB hz1 hk1 hS => ?_)
            have hP : va_P D vwCl (fmP cI cJ ad M47) H1 := by rw [← ht]; exact hB
            clear hB hk1 hz1 hvm ht t
            rw [hw] at hP
            have hrow4 : fl_row ((fl_sI M3 12 z (M3.1 12 z + 1)).1 12) (a_t0 kp) n (k + 1 + 1) := by
              rw [fl_sI_same, hks]
              rw [hq0] at hrow
              exact hrow.bump hzl
            have hD4 : fm_D d1 (fl_sI M3 12 z (M3.1 12 z + 1)) := by
              rw [hq0] at hD
              exact hD.eq (P := fun c k => c ≠ 12) (fp.rf.sI (fun z => z rfl) _) (by decide) (by decide) (fun k => by decide)
            have he4 : fp fm_PP M (fl_sI M3 12 z (M3.1 12 z + 1)) := he.sI (by unfold fm_PP; omega) _
            refine lv_goto (tgt := 133) hx hb dX5_pickBy_50 (by decide) ?_
            refine lv_iinc (v := nI (k + 1)) (lv' := [(6, .int (nI (k + 1))), (0, .ref (ad 0)), (1, .int (nI wy)), (2, .long (lN (a_sum w n))), (4, .long (lN b))]) hx hb dX5_pickBy_133 hl (k := 4) rfl (fl_inc k) (by decide) rfl (fun ls hl => ?_)
            refine lv_goto (tgt := 19) hx hb dX5_pickBy_136 (by decide) ?_
            exact ih19 (k + 1) (fl_sI M3 12 z (M3.1 12 z + 1)) (a_t0 kp, d1) (by omega) hrow4 hD4 (Or.inr ⟨by rw [hk1]; omega, by rw [hk1, k0]⟩) he4 (by omega) _ _ hP hS ls (lv_sub hl [1, 2, 3, 4, 0] rfl)

set_option maxHeartbeats 4000000 in
set_option maxRecDepth 100000 in
theorem c_X5_pickWhole (l : Launch) {D : va_G} {cI cJ cII : ClassId} {ad : Nat → Nat} (hJ : fl_inj 15 ad) (M : fl_M) (n : Nat) (kp : Option Nat) (w : Nat → Nat) (hW : fm_W n kp w M) (d : a_D) (hd : fm_D d M) (hT0 : 0 < a_sum w n) : Met l yX5_pickWhole wsX5_pickWhole ({ frames := 2, cells := 0, slots := 0, locals := 53 } : Room) (fmPc D cI cJ cII ad M [.ref (ad 0), .long (lN (a_sum w n))]) (va_Qv (fun M2 => fl_row (M2.1 12) (a_picks 3 kp n w d).1 n 65 ∧ fm_D (a_picks 3 kp n w d).2 M2 ∧ fp fm_PP M M2) (fmQ D cI cJ ad) (fl_A 15 ad)) 0 0 (fl_A 15 ad) := by
  refine Met.ofW (cc := cX5_pickWhole) (maxL := 6) (ret := none) (by decide) rfl ?_
  intro p e s m args below meth c s₁ B hml hv
  obtain ⟨rfl, hP, hK, hN⟩ := hv
  have hx := B.exec
  have hb := B.bytes
  have hr := B.returns
  have hts := atoms_spec (ws := wsX5_pickWhole) B.pre
  have hown : s.vm.findClass RX5 = some m.cls := findClass_of_methodNamed B.named
  have hlocks := B.notSynchronized
  have inX5 : ∀ w ∈ u_ws RX5 TX5 23, w ∈ wsX5_pickWhole := by decide +kernel
  have hS : va_S (fl_A 15 ad) s.heap s.heap [] := va_S.rf
  have hl := lv_entry ([.ref (ad 0), .long (lN (a_sum w n))] : List Value) (n := 6) (Nat.le_of_ble_eq_true rfl)
  rw [lg_entry_eq]
  generalize (lg_sl ([.ref (ad 0), .long (lN (a_sum w n))] : List Value) ++ List.replicate (6 - (lg_sl ([.ref (ad 0), .long (lN (a_sum w n))] : List Value)).length) Slot.unset).toArray = ls at hl ⊢
  have hl : lv_has ls 6 [(0, .ref (ad 0)), (1, .long (lN (a_sum w n)))] := hl
  obtain ⟨⟨hn0, hn, hn1⟩, ⟨hkp, hkl⟩, hww⟩ := id hW
  have hTl : a_sum w n ≤ 16000000 := by have := hww.le (B := 1000000); omega
  have hpl := a_parts_le hT0
  refine lv_aload_n hx hb dX5_pickWhole_0 rfl (lv_at hl 0 rfl) ?_
  refine va_get (D := D) (ci := 7) (v := .int (M.1 0 7)) (C := RX5) (T := TX5) (N := 23) hx hb hts inX5 hown hK hP 0 (fl_at (by decide) rfl) rfl 7 (by decide) (hts (.fieldLink RX5 66 "ResampledRowsModel" "rows" "I") (by decide +kernel)) (fun _ h9 => h9) rfl dX5_pickWhole_1 ?_
  refine fl_ti (y := nI n) hn1 ?_
  refine lv_istore_n (lv' := [(3, .int (nI n)), (0, .ref (ad 0)), (1, .long (lN (a_sum w n)))]) hx hb dX5_pickWhole_4 rfl hl (by decide) rfl (fun ls hl => ?_)
  refine lv_iconst (v := 0) hx hb dX5_pickWhole_5 (by decide) ?_
  refine lv_istore (lv' := [(4, .int 0), (3, .int (nI n)), (0, .ref (ad 0)), (1, .long (lN (a_sum w n)))]) hx hb dX5_pickWhole_6 hl (by decide) rfl (fun ls hl => ?_)
  suffices KL8 : ∀ (f : Nat) (i : Nat) (M3 : fl_M) (hi : i ≤ n) (hr1 : fl_row (M3.1 12) (a_parts w n) i 17) (he : fp (fun c _ => c ≠ 12) M M3) (hf : n + 1 ≤ i + f), ∀ (H : Heap) (locs : List Loc), va_P D vwCl (fmP cI cJ ad M3) H → va_S (fl_A 15 ad) s.heap H locs → ∀ (ls : Array Slot), lv_has ls 6 [(0, .ref (ad 0)), (1, .long (lN (a_sum w n))), (3, .int (nI (n - a_sum (a_parts w n) i))), (4, .int (nI i))] → W p l e (headSpec wsX5_pickWhole ({ frames := 2, cells := 0, slots := 0, locals := 53 } : Room)).room s m ([.ref (ad 0), .long (lN (a_sum w n))] : List Value).toArray below meth c H locs 0 0 (MQ below (va_Qv (fun M2 => fl_row (M2.1 12) (a_picks 3 kp n w d).1 n 65 ∧ fm_D (a_picks 3 kp n w d).2 M2 ∧ fp fm_PP M M2) (fmQ D cI cJ ad) (fl_A 15 ad)) ([.ref (ad 0), .long (lN (a_sum w n))] : List Value).toArray s 0 0 (fl_A 15 ad)) (F0 m 8 ls []) from KL8 (n + 1) 0 M (Nat.zero_le n) (fun k hk => absurd hk (Nat.not_lt_zero k)) fp.rf (by omega) _ _ hP hS ls (lv_sub hl [2, 3, 1, 0] rfl)
  intro f
  induction f with
  | zero =>
    intro i M3 hi hr1 he hf
    omega
  | succ f ih8 =>
    intro i M3 hi hr1 he hf H locs hP hS ls hl
    have hn3 : M3.1 0 7 = nI n := (he 0 7 (by decide : (0 : Nat) ≠ 12)).1.trans hn1
    have hww3 : ∀ k, M3.2.1 7 k = M.2.1 7 k := fun k => (he 7 k (by decide : (7 : Nat) ≠ 12)).2.1
    refine lv_iload hx hb dX5_pickWhole_8 (lv_at hl 3 rfl) ?_
    refine lv_aload_n hx hb dX5_pickWhole_10 rfl (lv_at hl 0 rfl) ?_
    refine va_get (D := D) (ci := 7) (v := .int (M3.1 0 7)) (C := RX5) (T := TX5) (N := 23) hx hb hts inX5 hown hK hP 0 (fl_at (by decide) rfl) rfl 7 (by decide) (hts (.fieldLink RX5 66 "ResampledRowsModel" "rows" "I") (by decide +kernel)) (fun _ h9 => h9) rfl dX5_pickWhole_11 ?_
    refine fl_ti (y := nI n) hn3 ?_
    refine lv_icmp_ge (tgt := 56) hx hb dX5_pickWhole_14 (by decide) (fun hc14 => ?_) (fun hc14 => ?_)
    · have e14 : i = n := Nat.le_antisymm hi ((nI_leI (by omega) (by omega)).mp hc14)
      have hr1N : fl_row (M3.1 12) (a_parts w n) n 17 := e14 ▸ hr1
      have hd3 : fm_D d M3 := hd.eq he (by decide) (by decide) (fun k => by decide)
      refine lv_iconst (v := 0) hx hb dX5_pickWhole_56 (by decide) ?_
      refine lv_istore (lv' := [(4, .int 0), (0, .ref (ad 0)), (1, .long (lN (a_sum w n))), (3, .int (nI (n - a_sum (a_parts w n) i)))]) hx hb dX5_pickWhole_57 hl (by decide) rfl (fun ls hl => ?_)
      suffices KL59 : ∀ (f : Nat) (k : Nat) (M4 : fl_M) (q : (Nat → Nat) × a_D) (hk : k ≤ n - a_sum (a_parts w n) i) (hrow : fl_row (M4.1 12) q.1 n (17 + k)) (hD : fm_D q.2 M4) (hinv : a_pick (a_f0 (a_rests w n) n) (n - a_sum (a_parts w n) i - k) k q = a_pick (a_f0 (a_rests w n) n) (n - a_sum (a_parts w n) i) 0 (a_parts w n, d)) (he2 : fp fm_PP M M4) (hf2 : n - a_sum (a_parts w n) i + 1 ≤ k + f), ∀ (H : Heap) (locs : List Loc), va_P D vwCl (fmP cI cJ ad M4) H → va_S (fl_A 15 ad) s.heap H locs → ∀ (ls : Array Slot), lv_has ls 6 [(0, .ref (ad 0)), (1, .long (lN (a_sum w n))), (3, .int (nI (n - a_sum (a_parts w n) i))), (4, .int (nI k))] → W p l e (headSpec wsX5_pickWhole ({ frames := 2, cells := 0, slots := 0, locals := 53 } : Room)).room s m ([.ref (ad 0), .long (lN (a_sum w n))] : List Value).toArray below meth c H locs 0 0 (MQ below (va_Qv (fun M2 => fl_row (M2.1 12) (a_picks 3 kp n w d).1 n 65 ∧ fm_D (a_picks 3 kp n w d).2 M2 ∧ fp fm_PP M M2) (fmQ D cI cJ ad) (fl_A 15 ad)) ([.ref (ad 0), .long (lN (a_sum w n))] : List Value).toArray s 0 0 (fl_A 15 ad)) (F0 m 59 ls []) from KL59 (n - a_sum (a_parts w n) i + 1) 0 M3 (a_parts w n, d) (Nat.zero_le _) hr1N hd3 rfl (he.mono (fun c k hc => hc.2.1)) (by omega) _ _ hP hS ls (lv_sub hl [1, 2, 3, 0] rfl)
      intro f
      induction f with
      | zero =>
        intro k M4 q hk hrow hD hinv he2 hf2
        omega
      | succ f ih59 =>
        intro k M4 q hk hrow hD hinv he2 hf2 H locs hP hS ls hl
        obtain ⟨⟨-, -, hn4⟩, ⟨hk4, -⟩, hww4⟩ := hW.eq he2
        refine lv_iload hx hb dX5_pickWhole_59 (lv_at hl 3 rfl) ?_
        refine lv_iload_n hx hb dX5_pickWhole_61 rfl (lv_at hl 2 rfl) ?_
        refine lv_icmp_ge (tgt := 123) hx hb dX5_pickWhole_62 (by decide) (fun hc62 => ?_) (fun hc62 => ?_)
        · have e62 : k = n - a_sum (a_parts w n) i := Nat.le_antisymm hk ((nI_leI (by omega) (by omega)).mp hc62)
          have hfin : q = a_pick (a_f0 (a_rests w n) n) (n - a_sum (a_parts w n) n) 0 (a_parts w n, d) := by
            have h7 := hinv
            rw [e62, Nat.sub_self, e14] at h7
            exact h7
          have hqs : a_sum q.1 n = n := by rw [hfin]; exact a_parts_sum hT0
          have hp3 : a_picks 3 kp n w d = (a_putin kp n q.1, q.2) := by rw [hfin]; rfl
          have hrow64 : fl_row (M4.1 12) q.1 n 64 := hrow.lt (by omega)
          refine lv_aload_n hx hb dX5_pickWhole_123 rfl (lv_at hl 0 rfl) ?_
          refine va_get (D := D) (ci := 7) (v := .int (M4.1 0 14)) (C := RX5) (T := TX5) (N := 23) hx hb hts inX5 hown hK hP 0 (fl_at (by decide) rfl) rfl 14 (by decide) (hts (.fieldLink RX5 76 "ResampledRowsModel" "kept" "I") (by decide +kernel)) (fun _ h9 => h9) rfl dX5_pickWhole_124 ?_
          refine fl_ti (y := a_oI kp (-1000009)) hk4 ?_
          refine lv_ldc (v := -1000009) hx hb hown (hts (.constant RX5 75 (-1000009)) (by decide +kernel)) dX5_pickWhole_127 ?_
          refine lv_icmp_eq (tgt := 192) hx hb dX5_pickWhole_129 (by decide) (fun hc129 => ?_) (fun hc129 => ?_)
          · have hres : a_putin kp n q.1 = q.1 := a_putin_none (a_oI_eq (by decide) hkl hn hc129)
            exact W.vret hx hb hr (fun t ht hW => ⟨⟨M4, rfl, ⟨by rw [hp3]; show fl_row _ (a_putin kp n q.1) _ _; rw [hres]; exact hrow64.lt (by decide), by rw [hp3]; exact hD, he2⟩, fl_qi ht hP⟩, hS.F ht⟩) hS.2.2 dX5_pickWhole_192
          · obtain ⟨z, hks⟩ := a_oI_ne hc129
            have hzl := hkl z hks
            refine lv_aload_n hx hb dX5_pickWhole_132 rfl (lv_at hl 0 rfl) ?_
            refine va_get (D := D) (ci := 7) (v := .ref (ad 12)) (C := RX5) (T := TX5) (N := 23) hx hb hts inX5 hown hK hP 0 (fl_at (by decide) rfl) rfl 20 (by decide) (hts (.fieldLink RX5 44 "ResampledRowsModel" "times" "[I") (by decide +kernel)) (fun _ h9 => h9) rfl dX5_pickWhole_133 ?_
            refine lv_aload_n hx hb dX5_pickWhole_136 rfl (lv_at hl 0 rfl) ?_
            refine va_get (D := D) (ci := 7) (v := .int (M4.1 0 14)) (C := RX5) (T := TX5) (N := 23) hx hb hts inX5 hown hK hP 0 (fl_at (by decide) rfl) rfl 14 (by decide) (hts (.fieldLink RX5 76 "ResampledRowsModel" "kept" "I") (by decide +kernel)) (fun _ h9 => h9) rfl dX5_pickWhole_137 ?_
            refine fl_ti (y := a_oI kp (-1000009)) hk4 ?_
            refine fl_ti (y := nI z) (by rw [hks]; rfl) ?_
            refine fl_ild (n := 16) (k := z) hx hb hK hP (fl_at (by decide) rfl) rfl rfl (by omega) (by decide) dX5_pickWhole_140 ?_
            refine fl_ti (y := nI (q.1 z)) ((hrow64 z hzl).1) ?_
            refine lv_if_ne (tgt := 192) hx hb dX5_pickWhole_141 (by decide) (fun hc141 => ?_) (fun hc141 => ?_)
            · have hres : a_putin kp n q.1 = q.1 := a_putin_pos hks (Nat.pos_of_ne_zero (fun y => hc141 (by rw [y]; rfl)))
              exact W.vret hx hb hr (fun t ht hW => ⟨⟨M4, rfl, ⟨by rw [hp3]; show fl_row _ (a_putin kp n q.1) _ _; rw [hres]; exact hrow64.lt (by decide), by rw [hp3]; exact hD, he2⟩, fl_qi ht hP⟩, hS.F ht⟩) hS.2.2 dX5_pickWhole_192
            · have z0 : q.1 z = 0 := (nI_eq (b := 0) (by have := (hrow64 z hzl).2; omega) (by decide)).mp hc141
              refine lv_aload_n hx hb dX5_pickWhole_144 rfl (lv_at hl 0 rfl) ?_
              refine va_get (D := D) (ci := 7) (v := .int (M4.1 0 7)) (C := RX5) (T := TX5) (N := 23) hx hb hts inX5 hown hK hP 0 (fl_at (by decide) rfl) rfl 7 (by decide) (hts (.fieldLink RX5 66 "ResampledRowsModel" "rows" "I") (by decide +kernel)) (fun _ h9 => h9) rfl dX5_pickWhole_145 ?_
              refine fl_ti (y := nI n) hn4 ?_
              refine lv_iconst (v := 1) hx hb dX5_pickWhole_148 (by decide) ?_
              refine lv_isub hx hb dX5_pickWhole_149 ?_
              refine fl_ti (y := nI (n - 1)) (fl_pred hn0) ?_
              refine lv_istore (lv' := [(4, .int (nI (n - 1))), (0, .ref (ad 0)), (1, .long (lN (a_sum w n))), (3, .int (nI (n - a_sum (a_parts w n) i)))]) hx hb dX5_pickWhole_150 hl (by decide) rfl (fun ls hl => ?_)
              suffices KL152 : ∀ (f : Nat) (y : Nat) (hy : y < n) (hlast : a_last q.1 n = a_last q.1 (y + 1)) (hsum : 0 < a_sum q.1 (y + 1)) (hf7 : y + 1 ≤ f), ∀ (H : Heap) (locs : List Loc), va_P D vwCl (fmP cI cJ ad M4) H → va_S (fl_A 15 ad) s.heap H locs → ∀ (ls : Array Slot), lv_has ls 6 [(0, .ref (ad 0)), (1, .long (lN (a_sum w n))), (4, .int (nI y))] → W p l e (headSpec wsX5_pickWhole ({ frames := 2, cells := 0, slots := 0, locals := 53 } : Room)).room s m ([.ref (ad 0), .long (lN (a_sum w n))] : List Value).toArray below meth c H locs 0 0 (MQ below (va_Qv (fun M2 => fl_row (M2.1 12) (a_picks 3 kp n w d).1 n 65 ∧ fm_D (a_picks 3 kp n w d).2 M2 ∧ fp fm_PP M M2) (fmQ D cI cJ ad) (fl_A 15 ad)) ([.ref (ad 0), .long (lN (a_sum w n))] : List Value).toArray s 0 0 (fl_A 15 ad)) (F0 m 152 ls []) from KL152 n (n - 1) (by omega) (by rw [Nat.sub_add_cancel hn0]) (by rw [Nat.sub_add_cancel hn0, hqs]; exact hn0) (by omega) _ _ hP hS ls (lv_sub hl [1, 2, 0] rfl)
              intro f
              induction f with
              | zero =>
                intro y hy hlast hsum hf7
                omega
              | succ f ih152 =>
                intro y hy hlast hsum hf7 H locs hP hS ls hl
                refine lv_aload_n hx hb dX5_pickWhole_152 rfl (lv_at hl 0 rfl) ?_
                refine va_get (D := D) (ci := 7) (v := .ref (ad 12)) (C := RX5) (T := TX5) (N := 23) hx hb hts inX5 hown hK hP 0 (fl_at (by decide) rfl) rfl 20 (by decide) (hts (.fieldLink RX5 44 "ResampledRowsModel" "times" "[I") (by decide +kernel)) (fun _ h9 => h9) rfl dX5_pickWhole_153 ?_
                refine lv_iload hx hb dX5_pickWhole_156 (lv_at hl 2 rfl) ?_
                refine fl_ild (n := 16) (k := y) hx hb hK hP (fl_at (by decide) rfl) rfl rfl (by omega) (by decide) dX5_pickWhole_158 ?_
                refine fl_ti (y := nI (q.1 y)) ((hrow64 y hy).1) ?_
                refine lv_if_ne (tgt := 168) hx hb dX5_pickWhole_159 (by decide) (fun hc159 => ?_) (fun hc159 => ?_)
                · have g159 : 0 < q.1 y := Nat.pos_of_ne_zero (fun e => hc159 (by rw [e]; rfl))
                  have hla : a_last q.1 n = y := by rw [hlast]; exact if_pos g159
                  refine lv_aload_n hx hb dX5_pickWhole_168 rfl (lv_at hl 0 rfl) ?_
                  refine va_get (D := D) (ci := 7) (v := .ref (ad 12)) (C := RX5) (T := TX5) (N := 23) hx hb hts inX5 hown hK hP 0 (fl_at (by decide) rfl) rfl 20 (by decide) (hts (.fieldLink RX5 44 "ResampledRowsModel" "times" "[I") (by decide +kernel)) (fun _ h9 => h9) rfl dX5_pickWhole_169 ?_
                  refine lv_iload hx hb dX5_pickWhole_172 (lv_at hl 2 rfl) ?_
                  refine lv_dup2_11 hx hb dX5_pickWhole_174 rfl rfl ?_
                  refine fl_ild (n := 16) (k := y) hx hb hK hP (fl_at (by decide) rfl) rfl rfl (by omega) (by decide) dX5_pickWhole_175 ?_
                  refine lv_iconst (v := 1) hx hb dX5_pickWhole_176 (by decide) ?_
                  refine lv_isub hx hb dX5_pickWhole_177 ?_
                  refine fl_ist (n := 16) (k := y) (x := (M4.1 12 y) - 1) hx hb hK hJ hP hS (fm_loc cI cJ ad) (fl_at (by decide) rfl) rfl rfl rfl (by omega) (by decide) dX5_pickWhole_178 (fun H locs hP hS => ?_)
                  refine lv_aload_n hx hb dX5_pickWhole_179 rfl (lv_at hl 0 rfl) ?_
                  refine va_get (D := D) (ci := 7) (v := .ref (ad 12)) (C := RX5) (T := TX5) (N := 23) hx hb hts inX5 hown hK hP 0 (fl_at (by decide) rfl) rfl 20 (by decide) (hts (.fieldLink RX5 44 "ResampledRowsModel" "times" "[I") (by decide +kernel)) (fun _ h9 => h9) rfl dX5_pickWhole_180 ?_
                  refine lv_aload_n hx hb dX5_pickWhole_183 rfl (lv_at hl 0 rfl) ?_
                  refine va_get (D := D) (ci := 7) (v := .int (M4.1 0 14)) (C := RX5) (T := TX5) (N := 23) hx hb hts inX5 hown hK hP 0 (fl_at (by decide) rfl) rfl 14 (by decide) (hts (.fieldLink RX5 76 "ResampledRowsModel" "kept" "I") (by decide +kernel)) (fun _ h9 => h9) rfl dX5_pickWhole_184 ?_
                  refine fl_ti (y := a_oI kp (-1000009)) hk4 ?_
                  refine fl_ti (y := nI z) (by rw [hks]; rfl) ?_
                  refine lv_dup2_11 hx hb dX5_pickWhole_187 rfl rfl ?_
                  refine fl_ild (n := 16) (k := z) hx hb hK hP (fl_at (by decide) rfl) rfl rfl (by omega) (by decide) dX5_pickWhole_188 ?_
                  refine lv_iconst (v := 1) hx hb dX5_pickWhole_189 (by decide) ?_
                  refine lv_iadd hx hb dX5_pickWhole_190 ?_
                  refine fl_ist (n := 16) (k := z) (x := ((fl_sI M4 12 y ((M4.1 12 y) - 1)).1 12 z) + 1) hx hb hK hJ hP hS (fm_loc cI cJ ad) (fl_at (by decide) rfl) rfl rfl rfl (by omega) (by decide) dX5_pickWhole_191 (fun H locs hP hS => ?_)
                  exact W.vret hx hb hr (fun t ht hW => ⟨⟨(fl_sI (fl_sI M4 12 y ((M4.1 12 y) - 1)) 12 z (((fl_sI M4 12 y ((M4.1 12 y) - 1)).1 12 z) + 1)), rfl, ⟨by rw [hp3]; show fl_row _ (a_putin kp n q.1) _ _; rw [a_putin_zero hks z0, hla]; exact (hrow64.dec hy g159).bump hzl, by rw [hp3]; exact hD.eq (P := fun c k => c ≠ 12) ((fp.rf.sI (fun z => z rfl) _).sI (fun z => z rfl) _) (by decide) (by decide) (fun k => by decide), (he2.sI (by unfold fm_PP; omega) _).sI (by unfold fm_PP; omega) _⟩, fl_qi ht hP⟩, hS.F ht⟩) hS.2.2 dX5_pickWhole_192
                · have z159 : q.1 y = 0 := (nI_eq (b := 0) (by have := (hrow64 y hy).2; omega) (by decide)).mp hc159
                  have hse : a_sum q.1 (y + 1) = a_sum q.1 y + q.1 y := rfl
                  have hsy : 0 < a_sum q.1 y := by omega
                  have hy0 : 0 < y := Nat.pos_of_ne_zero (fun e => by subst e; exact absurd hsy (Nat.lt_irrefl 0))
                  refine lv_iinc (v := nI (y - 1)) (lv' := [(4, .int (nI (y - 1))), (0, .ref (ad 0)), (1, .long (lN (a_sum w n)))]) hx hb dX5_pickWhole_162 hl (k := 2) rfl (fl_dec hy0) (by decide) rfl (fun ls hl => ?_)
                  refine lv_goto (tgt := 152) hx hb dX5_pickWhole_165 (by decide) ?_
                  exact ih152 (y - 1) (by omega) (by rw [hlast, Nat.sub_add_cancel hy0]; exact if_neg (by omega)) (by rw [Nat.sub_add_cancel hy0]; exact hsy) (by omega) _ _ hP hS ls (lv_sub hl [1, 2, 0] rfl)
        · have l62 : k < n - a_sum (a_parts w n) i := Nat.lt_of_not_le (fun q => hc62 ((nI_leI (by omega) (by omega)).mpr q))
          have hrp : 0 < a_sum (a_rests w n) n := a_rests_pos hT0 (by rw [e14] at l62; omega)
          refine lv_iconst (v := 0) hx hb dX5_pickWhole_65 (by decide) ?_
          refine lv_istore (lv' := [(5, .int 0), (0, .ref (ad 0)), (1, .long (lN (a_sum w n))), (3, .int (nI (n - a_sum (a_parts w n) i))), (4, .int (nI k))]) hx hb dX5_pickWhole_66 hl (by decide) rfl (fun ls hl => ?_)
          suffices KL68 : ∀ (f : Nat) (j : Nat) (M5 : fl_M) (hj : j ≤ n) (hby : ∀ k, k < j → M5.2.1 10 k = lN (a_rests w n k)) (he5 : fp (fun c _ => c ≠ 10) M4 M5) (hf5 : n + 1 ≤ j + f), ∀ (H : Heap) (locs : List Loc), va_P D vwCl (fmP cI cJ ad M5) H → va_S (fl_A 15 ad) s.heap H locs → ∀ (ls : Array Slot), lv_has ls 6 [(0, .ref (ad 0)), (1, .long (lN (a_sum w n))), (3, .int (nI (n - a_sum (a_parts w n) i))), (4, .int (nI k)), (5, .int (nI j))] → W p l e (headSpec wsX5_pickWhole ({ frames := 2, cells := 0, slots := 0, locals := 53 } : Room)).room s m ([.ref (ad 0), .long (lN (a_sum w n))] : List Value).toArray below meth c H locs 0 0 (MQ below (va_Qv (fun M2 => fl_row (M2.1 12) (a_picks 3 kp n w d).1 n 65 ∧ fm_D (a_picks 3 kp n w d).2 M2 ∧ fp fm_PP M M2) (fmQ D cI cJ ad) (fl_A 15 ad)) ([.ref (ad 0), .long (lN (a_sum w n))] : List Value).toArray s 0 0 (fl_A 15 ad)) (F0 m 68 ls []) from KL68 (n + 1) 0 M4 (Nat.zero_le _) (fun k hk => absurd hk (Nat.not_lt_zero k)) fp.rf (by omega) _ _ hP hS ls (lv_sub hl [1, 2, 3, 4, 0] rfl)
          intro f
          induction f with
          | zero =>
            intro j M5 hj hby he5 hf5
            omega
          | succ f ih68 =>
            intro j M5 hj hby he5 hf5 H locs hP hS ls hl
            have hn5 : M5.1 0 7 = nI n := (he5 0 7 (by decide : (0 : Nat) ≠ 10)).1.trans hn4
            refine lv_iload hx hb dX5_pickWhole_68 (lv_at hl 4 rfl) ?_
            refine lv_aload_n hx hb dX5_pickWhole_70 rfl (lv_at hl 0 rfl) ?_
            refine va_get (D := D) (ci := 7) (v := .int (M5.1 0 7)) (C := RX5) (T := TX5) (N := 23) hx hb hts inX5 hown hK hP 0 (fl_at (by decide) rfl) rfl 7 (by decide) (hts (.fieldLink RX5 66 "ResampledRowsModel" "rows" "I") (by decide +kernel)) (fun _ h9 => h9) rfl dX5_pickWhole_71 ?_
            refine fl_ti (y := nI n) hn5 ?_
            refine lv_icmp_ge (tgt := 105) hx hb dX5_pickWhole_74 (by decide) (fun hc74 => ?_) (fun hc74 => ?_)
            · have e74 : j = n := Nat.le_antisymm hj ((nI_leI (by omega) (by omega)).mp hc74)
              have hbyN : ∀ k, k < n → M5.2.1 10 k = lN (a_rests w n k) := e74 ▸ hby
              have hDj : fm_D q.2 M5 := hD.eq he5 (by decide) (by decide) (fun k => by decide)
              have hrs : a_sum (a_rests w n) n ≤ 16 * 16000000 := Nat.le_trans (a_sum_le (a_rests w n) (B := 16000000) n (fun j _ => by have := Nat.mod_lt (n * w j) hT0; show n * w j % a_sum w n ≤ _; omega)) (Nat.mul_le_mul_right _ hn)
              refine lv_aload_n hx hb dX5_pickWhole_105 rfl (lv_at hl 0 rfl) ?_
              refine lv_aload_n hx hb dX5_pickWhole_106 rfl (lv_at hl 0 rfl) ?_
              refine lv_aload_n hx hb dX5_pickWhole_107 rfl (lv_at hl 0 rfl) ?_
              refine va_get (D := D) (ci := 7) (v := .int (M5.1 0 7)) (C := RX5) (T := TX5) (N := 23) hx hb hts inX5 hown hK hP 0 (fl_at (by decide) rfl) rfl 7 (by decide) (hts (.fieldLink RX5 66 "ResampledRowsModel" "rows" "I") (by decide +kernel)) (fun _ h9 => h9) rfl dX5_pickWhole_108 ?_
              refine fl_ti (y := nI n) hn5 ?_
              refine va_calli (va_runV (As := [.int (nI n)]) (rest := [.ref (ad 0)]) ⟨hx, hb, hml, hown, hts⟩ (c_X5_drawBy l hJ M5 q.2 n (a_rests w n) hn hbyN (by omega) hDj) (cwV 1 hts gX5_pickWhole_X5_drawBy rfl rfl rfl (by decide +kernel) ⟨Nat.le_of_ble_eq_true rfl, Nat.le_of_ble_eq_true rfl⟩) ⟨fl_blind, va_recv hK hP (ci := 7) (q0 := 0) rfl (fl_at (by decide) rfl), fl_pre hP hK hN⟩ rfl rfl hl.1 rfl (lv_room (Nat.le_of_ble_eq_true rfl)) dX5_pickWhole_111 ⟨Nat.le_of_ble_eq_true rfl, Nat.le_of_ble_eq_true rfl⟩) hS (fun _ _ h => h) (fun _ h => h) (fun r111 M111 t H1 locs ht hvm hw hB hz1 hk1 hS => ?_)
              have hP : va_P D vwCl (fmP cI cJ ad M111) H1 := by rw [← ht]; exact hB
              clear hB hk1 hz1 hvm ht t
              obtain ⟨rfl, hDb, heb⟩ := hw
              obtain ⟨x, hx0⟩ : ∃ x, x = ((a_f0 (a_rests w n) n) k q.2).1 := ⟨_, rfl⟩
              have hxn : x < n := by rw [hx0]; exact a_f0_lt hrp k q.2
              refine fl_ti (y := nI x) (by rw [hx0, a_by_some (by omega)]; rfl) ?_
              refine va_callv (va_runV (As := [.int (nI x)]) (rest := []) ⟨hx, hb, hml, hown, hts⟩ (c_X5_pick l hJ M111 x (by omega)) (cwV 1 hts gX5_pickWhole_X5_pick rfl rfl rfl (by decide +kernel) ⟨Nat.le_of_ble_eq_true rfl, Nat.le_of_ble_eq_true rfl⟩) ⟨fl_blind, va_recv hK hP (ci := 7) (q0 := 0) rfl (fl_at (by decide) rfl), fl_pre hP hK hN⟩ rfl rfl hl.1 rfl (lv_room (Nat.le_of_ble_eq_true rfl)) dX5_pickWhole_114 ⟨Nat.le_of_ble_eq_true rfl, Nat.le_of_ble_eq_true rfl⟩) hS (fun _ _ h => h) (fun _ h => h) (fun M114 t H1 locs ht hvm hw hB hz1 hk1 hS => ?_)
              have hP : va_P D vwCl (fmP cI cJ ad M114) H1 := by rw [← ht]; exact hB
              clear hB hk1 hz1 hvm ht t
              rw [hw] at hP
              have hrow4 : fl_row ((fl_sI M111 12 x (M111.1 12 x + 1)).1 12) (a_bump q.1 ((a_f0 (a_rests w n) n) k q.2).1) n (17 + (k + 1)) := by
                rw [fl_sI_same, ← hx0]
                exact (hrow.cast (funext fun k => (heb 12 k (by unfold fm_PD; omega)).1.trans (he5 12 k (by decide : (12 : Nat) ≠ 10)).1)).bump hxn
              have hD4 : fm_D ((a_f0 (a_rests w n) n) k q.2).2 (fl_sI M111 12 x (M111.1 12 x + 1)) := hDb.eq (P := fun c k => c ≠ 12) (fp.rf.sI (fun z => z rfl) _) (by decide) (by decide) (fun k => by decide)
              have he4 : fp fm_PP M (fl_sI M111 12 x (M111.1 12 x + 1)) := ((he2.tr (he5.mono (fun c k hc => hc.1))).tr (heb.mono (fun c k hc => hc.2.2))).sI (by unfold fm_PP; omega) _
              refine lv_iinc (v := nI (k + 1)) (lv' := [(4, .int (nI (k + 1))), (0, .ref (ad 0)), (1, .long (lN (a_sum w n))), (3, .int (nI (n - a_sum (a_parts w n) i))), (5, .int (nI j))]) hx hb dX5_pickWhole_117 hl (k := 3) rfl (fl_inc k) (by decide) rfl (fun ls hl => ?_)
              refine lv_goto (tgt := 59) hx hb dX5_pickWhole_120 (by decide) ?_
              exact ih59 (k + 1) (fl_sI M111 12 x (M111.1 12 x + 1)) (a_bump q.1 ((a_f0 (a_rests w n) n) k q.2).1, ((a_f0 (a_rests w n) n) k q.2).2) (by omega) hrow4 hD4 (by rw [← hinv, a_pick_s l62]) he4 (by omega) _ _ hP hS ls (lv_sub hl [1, 2, 3, 0] rfl)
            · have l74 : j < n := Nat.lt_of_not_le (fun q => hc74 ((nI_leI (by omega) (by omega)).mpr q))
              have hwj := (hww j l74).2
              have hnwj : n * w j ≤ 16 * 1000000 := Nat.mul_le_mul hn (by omega)
              refine lv_aload_n hx hb dX5_pickWhole_77 rfl (lv_at hl 0 rfl) ?_
              refine va_get (D := D) (ci := 7) (v := .ref (ad 10)) (C := RX5) (T := TX5) (N := 23) hx hb hts inX5 hown hK hP 0 (fl_at (by decide) rfl) rfl 18 (by decide) (hts (.fieldLink RX5 38 "ResampledRowsModel" "by" "[J") (by decide +kernel)) (fun _ h9 => h9) rfl dX5_pickWhole_78 ?_
              refine lv_iload hx hb dX5_pickWhole_81 (lv_at hl 4 rfl) ?_
              refine lv_aload_n hx hb dX5_pickWhole_83 rfl (lv_at hl 0 rfl) ?_
              refine va_get (D := D) (ci := 7) (v := .int (M5.1 0 7)) (C := RX5) (T := TX5) (N := 23) hx hb hts inX5 hown hK hP 0 (fl_at (by decide) rfl) rfl 7 (by decide) (hts (.fieldLink RX5 66 "ResampledRowsModel" "rows" "I") (by decide +kernel)) (fun _ h9 => h9) rfl dX5_pickWhole_84 ?_
              refine fl_ti (y := nI n) hn5 ?_
              refine lv_i2l (v := (nI n).toInt64) hx hb dX5_pickWhole_87 rfl ?_
              refine fl_tl (y := lN n) (nI_l (by omega)) ?_
              refine lv_aload_n hx hb dX5_pickWhole_88 rfl (lv_at hl 0 rfl) ?_
              refine va_get (D := D) (ci := 7) (v := .ref (ad 7)) (C := RX5) (T := TX5) (N := 23) hx hb hts inX5 hown hK hP 0 (fl_at (by decide) rfl) rfl 10 (by decide) (hts (.fieldLink RX5 28 "ResampledRowsModel" "weights" "[J") (by decide +kernel)) (fun _ h9 => h9) rfl dX5_pickWhole_89 ?_
              refine lv_iload hx hb dX5_pickWhole_92 (lv_at hl 4 rfl) ?_
              refine fl_jld (n := 16) (k := j) hx hb hK hP (fl_at (by decide) rfl) rfl rfl (by omega) (by decide) dX5_pickWhole_94 ?_
              refine fl_tl (y := lN (w j)) (by rw [(he5 7 j (by decide : (7 : Nat) ≠ 10)).2.1]; exact (hww4 j l74).1) ?_
              refine lv_lmul hx hb dX5_pickWhole_95 ?_
              refine fl_tl (y := lN (n * w j)) (lN_mul _ _) ?_
              refine lv_lload_n hx hb dX5_pickWhole_96 rfl (lv_at hl 1 rfl) ?_
              refine lv_lrem hx hb dX5_pickWhole_97 (fun z => absurd ((pk_lEQ (b := 0) (by omega) (by decide)).mp z) (by omega)) ?_
              refine fl_tl (y := lN (a_rests w n j)) (pk_lRem (by omega) hT0 (by omega)) ?_
              refine fl_jst (n := 16) (k := j) (x := lN (a_rests w n j)) hx hb hK hJ hP hS (fm_loc cI cJ ad) (fl_at (by decide) rfl) rfl rfl rfl (by omega) (by decide) dX5_pickWhole_98 (fun H locs hP hS => ?_)
              refine lv_iinc (v := nI (j + 1)) (lv' := [(5, .int (nI (j + 1))), (0, .ref (ad 0)), (1, .long (lN (a_sum w n))), (3, .int (nI (n - a_sum (a_parts w n) i))), (4, .int (nI k))]) hx hb dX5_pickWhole_99 hl (k := 4) rfl (fl_inc j) (by decide) rfl (fun ls hl => ?_)
              refine lv_goto (tgt := 68) hx hb dX5_pickWhole_102 (by decide) ?_
              exact ih68 (j + 1) (fl_sJ M5 10 j (lN (a_rests w n j))) (by omega) (fm_by hby rfl) (he5.sJ (fun z => z rfl) _) (by omega) _ _ hP hS ls (lv_sub hl [1, 2, 3, 4, 0] rfl)
    · have l14 : i < n := Nat.lt_of_not_le (fun q => hc14 ((nI_leI (by omega) (by omega)).mpr q))
      have hwi := (hww i l14).2
      have hnw : n * w i ≤ 16 * 1000000 := Nat.mul_le_mul hn (by omega)
      have hps : a_sum (a_parts w n) (i + 1) ≤ a_sum (a_parts w n) n := a_sum_mono _ l14
      have hpe : a_sum (a_parts w n) (i + 1) = a_sum (a_parts w n) i + a_parts w n i := rfl
      refine lv_aload_n hx hb dX5_pickWhole_17 rfl (lv_at hl 0 rfl) ?_
      refine va_get (D := D) (ci := 7) (v := .ref (ad 12)) (C := RX5) (T := TX5) (N := 23) hx hb hts inX5 hown hK hP 0 (fl_at (by decide) rfl) rfl 20 (by decide) (hts (.fieldLink RX5 44 "ResampledRowsModel" "times" "[I") (by decide +kernel)) (fun _ h9 => h9) rfl dX5_pickWhole_18 ?_
      refine lv_iload hx hb dX5_pickWhole_21 (lv_at hl 3 rfl) ?_
      refine lv_aload_n hx hb dX5_pickWhole_23 rfl (lv_at hl 0 rfl) ?_
      refine va_get (D := D) (ci := 7) (v := .int (M3.1 0 7)) (C := RX5) (T := TX5) (N := 23) hx hb hts inX5 hown hK hP 0 (fl_at (by decide) rfl) rfl 7 (by decide) (hts (.fieldLink RX5 66 "ResampledRowsModel" "rows" "I") (by decide +kernel)) (fun _ h9 => h9) rfl dX5_pickWhole_24 ?_
      refine fl_ti (y := nI n) hn3 ?_
      refine lv_i2l (v := (nI n).toInt64) hx hb dX5_pickWhole_27 rfl ?_
      refine fl_tl (y := lN n) (nI_l (by omega)) ?_
      refine lv_aload_n hx hb dX5_pickWhole_28 rfl (lv_at hl 0 rfl) ?_
      refine va_get (D := D) (ci := 7) (v := .ref (ad 7)) (C := RX5) (T := TX5) (N := 23) hx hb hts inX5 hown hK hP 0 (fl_at (by decide) rfl) rfl 10 (by decide) (hts (.fieldLink RX5 28 "ResampledRowsModel" "weights" "[J") (by decide +kernel)) (fun _ h9 => h9) rfl dX5_pickWhole_29 ?_
      refine lv_iload hx hb dX5_pickWhole_32 (lv_at hl 3 rfl) ?_
      refine fl_jld (n := 16) (k := i) hx hb hK hP (fl_at (by decide) rfl) rfl rfl (by omega) (by decide) dX5_pickWhole_34 ?_
      refine fl_tl (y := lN (w i)) (by rw [hww3]; exact (hww i l14).1) ?_
      refine lv_lmul hx hb dX5_pickWhole_35 ?_
      refine fl_tl (y := lN (n * w i)) (lN_mul _ _) ?_
      refine lv_lload_n hx hb dX5_pickWhole_36 rfl (lv_at hl 1 rfl) ?_
      refine lv_ldiv hx hb dX5_pickWhole_37 (fun z => absurd ((pk_lEQ (b := 0) (by omega) (by decide)).mp z) (by omega)) ?_
      refine fl_tl (y := lN (n * w i / a_sum w n)) (pk_lDiv (by omega) hT0 (by omega)) ?_
      refine lv_l2i (v := (lN (n * w i / a_sum w n)).toInt32) hx hb dX5_pickWhole_38 rfl ?_
      refine fl_ti (y := nI (a_parts w n i)) (lN_i _) ?_
      refine fl_ist (n := 16) (k := i) (x := nI (a_parts w n i)) hx hb hK hJ hP hS (fm_loc cI cJ ad) (fl_at (by decide) rfl) rfl rfl rfl (by omega) (by decide) dX5_pickWhole_39 (fun H locs hP hS => ?_)
      refine lv_iload_n hx hb dX5_pickWhole_40 rfl (lv_at hl 2 rfl) ?_
      refine lv_aload_n hx hb dX5_pickWhole_41 rfl (lv_at hl 0 rfl) ?_
      refine va_get (D := D) (ci := 7) (v := .ref (ad 12)) (C := RX5) (T := TX5) (N := 23) hx hb hts inX5 hown hK hP 0 (fl_at (by decide) rfl) rfl 20 (by decide) (hts (.fieldLink RX5 44 "ResampledRowsModel" "times" "[I") (by decide +kernel)) (fun _ h9 => h9) rfl dX5_pickWhole_42 ?_
      refine lv_iload hx hb dX5_pickWhole_45 (lv_at hl 3 rfl) ?_
      refine fl_ild (n := 16) (k := i) hx hb hK hP (fl_at (by decide) rfl) rfl rfl (by omega) (by decide) dX5_pickWhole_47 ?_
      refine fl_ti (y := nI (a_parts w n i)) (fl_rdI _ _ _ _) ?_
      refine lv_isub hx hb dX5_pickWhole_48 ?_
      refine fl_ti (y := nI (n - a_sum (a_parts w n) (i + 1))) (by rw [pk_sub (by omega), Nat.sub_sub]; rfl) ?_
      refine lv_istore_n (lv' := [(3, .int (nI (n - a_sum (a_parts w n) (i + 1)))), (0, .ref (ad 0)), (1, .long (lN (a_sum w n))), (4, .int (nI i))]) hx hb dX5_pickWhole_49 rfl hl (by decide) rfl (fun ls hl => ?_)
      refine lv_iinc (v := nI (i + 1)) (lv' := [(4, .int (nI (i + 1))), (3, .int (nI (n - a_sum (a_parts w n) (i + 1)))), (0, .ref (ad 0)), (1, .long (lN (a_sum w n)))]) hx hb dX5_pickWhole_50 hl (k := 3) rfl (fl_inc i) (by decide) rfl (fun ls hl => ?_)
      refine lv_goto (tgt := 8) hx hb dX5_pickWhole_53 (by decide) ?_
      exact ih8 (i + 1) (fl_sI M3 12 i (nI (a_parts w n i))) (by omega) (hr1.push rfl (by have := a_parts_lt (w := w) l14; omega)) (he.sI (fun z => z rfl) _) (by omega) _ _ hP hS ls (lv_sub hl [2, 3, 1, 0] rfl)

