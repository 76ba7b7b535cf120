def fm_DA (M6 : fl_M) (og : Nat → Nat) (x : Nat) (M7 : fl_M) : Prop := (∀ k, k < x → M7.1 9 k = nI (og k)) ∧ (∀ k, k < x → M7.1 6 k = M6.1 13 (og k)) ∧ (∀ k, k < x → M7.2.1 7 k = 1) ∧ (∀ k, k < x → ∀ z, z < 31 → M7.1 8 (31 * k + z) = M6.1 14 (31 * og k + z)) ∧ fp (fun c _ => c ≠ 6 ∧ c ≠ 7 ∧ c ≠ 8 ∧ c ≠ 9) M6 M7
theorem fm_DA_s {M6 M8 M10 : fl_M} {og : Nat → Nat} {x i : Nat} (h : fm_DA M6 og x M8) (hx : og x = i) (he : fp (fun c k => ¬ (c = 8 ∧ 31 * x ≤ k ∧ k < 31 * x + 31)) (fl_sJ (fl_sI (fl_sI M8 9 x (nI i)) 6 x (M8.1 13 i)) 7 x 1) M10) (hh : ∀ y, y < 31 → M10.1 8 (31 * x + y) = M6.1 14 (31 * i + y)) : fm_DA M6 og (x + 1) M10 := by
  obtain ⟨g1, g2, g3, g4, g5⟩ := h
  have e13 : M8.1 13 i = M6.1 13 i := (g5 13 i (by omega)).1
  refine ⟨fun k hk => ?_, fun k hk => ?_, fun k hk => ?_, fun k hk z hz => ?_, fun c k hc => ?_⟩
  · rw [(he 9 k (by omega)).1]
    show upd (M8.1 9) x (nI i) k = _
    by_cases e : k = x
    · subst e
      rw [pk_us, hx]
    · rw [pk_un e]
      exact g1 k (by omega)
  · rw [(he 6 k (by omega)).1]
    show upd (M8.1 6) x (M8.1 13 i) k = _
    by_cases e : k = x
    · subst e
      rw [pk_us, hx, e13]
    · rw [pk_un e]
      exact g2 k (by omega)
  · rw [(he 7 k (by omega)).2.1]
    show vp_updL (M8.2.1 7) x 1 k = _
    by_cases e : k = x
    · subst e
      rw [pk_uLs]
    · rw [pk_uLn e]
      exact g3 k (by omega)
  · by_cases e : k = x
    · subst e
      rw [hx]
      exact hh z hz
    · rw [(he 8 (31 * k + z) (by omega)).1]
      exact g4 k (by omega) z hz
  · have h1 := he c k (by omega)
    have h2 := g5 c k hc
    have a1 : (fl_sJ (fl_sI (fl_sI M8 9 x (nI i)) 6 x (M8.1 13 i)) 7 x 1).1 c k = M8.1 c k := by
      show (fl_sI (fl_sI M8 9 x (nI i)) 6 x (M8.1 13 i)).1 c k = _
      rw [fl_sI_ne _ _ _ _ (by omega), fl_sI_ne _ _ _ _ (by omega)]
    have a2 : (fl_sJ (fl_sI (fl_sI M8 9 x (nI i)) 6 x (M8.1 13 i)) 7 x 1).2.1 c k = M8.2.1 c k := by
      rw [fl_sJ_ne _ _ _ _ (by omega)]
      rfl
    exact ⟨(h1.1.trans a1).trans h2.1, (h1.2.1.trans a2).trans h2.2.1, fun e => ((h1.2.2 e).trans rfl).trans (h2.2.2 e)⟩
theorem kp_ne {kp : Option Nat} {og : Nat → Nat} {x i : Nat} (hi : i < 2 ^ 31) (hx : og x = i) (h : ¬ nI i = a_oI kp (-1000009)) : a_kp kp og (x + 1) = a_kp kp og x := by
  cases kp with
  | none => rfl
  | some k =>
    have hk : ¬ og x = k := fun e => h (by rw [← hx, e]; rfl)
    show (match a_find og k x with | some i => some i | none => if og x = k then some x else none) = a_find og k x
    cases a_find og k x with
    | none => exact if_neg hk
    | some y => rfl
theorem kp_some {kp : Option Nat} {og : Nat → Nat} {x : Nat} {z : Int32} (hz : z = a_oI (a_kp kp og x) (-1000009)) (h : ¬ z = -1000009) : a_kp kp og (x + 1) = a_kp kp og x := by
  cases kp with
  | none => rfl
  | some k =>
    show (match a_find og k x with | some i => some i | none => if og x = k then some x else none) = a_find og k x
    cases hq : a_find og k x with
    | none =>
      have : a_kp (some k) og x = none := hq
      rw [this] at hz
      exact absurd hz h
    | some y => rfl
theorem kp_new {kp : Option Nat} {og : Nat → Nat} {n x i : Nat} {z : Int32} (hkl : ∀ k, kp = some k → k < n) (hn : n ≤ 16) (hi : i < 16) (hx : og x = i) (h : nI i = a_oI kp (-1000009)) (hz : z = a_oI (a_kp kp og x) (-1000009)) (h0 : z = -1000009) (hx16 : x < 2 ^ 31) : a_oI (a_kp kp og (x + 1)) (-1000009) = nI x := by
  cases kp with
  | none => exact absurd h (nI_nneg (by omega) (by decide))
  | some k =>
    have hk : k < n := hkl k rfl
    have e : i = k := (nI_eq (by omega) (by omega)).mp h
    have hq : a_find og k x = none := by
      cases hq : a_find og k x with
      | none => rfl
      | some y =>
        have hk2 : a_kp (some k) og x = some y := hq
        rw [hk2] at hz
        have hy := (a_find_spec hq).1
        exact absurd (hz.symm.trans h0) (nI_nneg (by omega) (by decide))
    have h2 : a_kp (some k) og (x + 1) = some x := a_find_some hq (hx.trans e) (x + 1) (Nat.le_refl _)
    rw [h2]
    rfl
theorem a_kp_lt {kp : Option Nat} {og : Nat → Nat} {n : Nat} : ∀ k, a_kp kp og n = some k → k < n := fun k hk => by
  cases kp with
  | none => cases hk
  | some z => exact (a_find_spec hk).1
theorem fm_DA_E {α : a_A} {M9 M5 M6 M7 M8 : fl_M} {tt : Nat → Nat} {dd : a_D} {x2 : UInt64} (hT : fm_T α.1 M9) (hR : fm_R α.2.2 M9) (hD : fm_D dd M9) (hn0 : ¬ r_n α.2.2 = 0) (han : r_an α.2.2 + 1 < 2 ^ 30) (hs : a_sum tt (r_n α.2.2) = r_n α.2.2)
    (h5 : ∀ k, k < 496 → M5.1 14 k = M9.1 8 k) (he5 : fp (fun c _ => c ≠ 14) M9 M5) (h6 : ∀ k, k < r_n α.2.2 → M6.1 13 k = M5.1 6 k) (he6 : fp (fun c _ => c ≠ 13) M5 M6) (hA : fm_DA M6 (a_ord tt (r_n α.2.2)) (r_n α.2.2) M7)
    (hx2 : alike64 x2 (a_ev (r_mu α.2.2) (r_wt α.2.2) (r_n α.2.2)) = true) (hM8 : M8 = fl_sG (fl_sI (fl_sI (fl_sI M7 0 14 (a_oI (a_kp (r_kp α.2.2) (a_ord tt (r_n α.2.2)) (r_n α.2.2)) (-1000009))) 0 17 1) 0 13 (nI (r_an α.2.2 + 1))) 0 x2) : fm_A (α.1, dd, a_rA α.2.2 tt) M8 := by
  subst hM8
  obtain ⟨g1, g2, g3, g4, g5⟩ := hA
  have hE : fp (fun c _ => c ≠ 6 ∧ c ≠ 7 ∧ c ≠ 8 ∧ c ≠ 9 ∧ c ≠ 13 ∧ c ≠ 14) M9 M7 := (he5.mono (fun c k hc => hc.2.2.2.2.2)).tr ((he6.mono (fun c k hc => hc.2.2.2.2.1)).tr (g5.mono (fun c k hc => ⟨hc.1, hc.2.1, hc.2.2.1, hc.2.2.2.1⟩)))
  have e0 : ∀ k, M7.1 0 k = M9.1 0 k := fun k => (hE 0 k (by omega)).1
  have ho : ∀ k, k < r_n α.2.2 → a_ord tt (r_n α.2.2) k < r_n α.2.2 := fun k hk => a_ord_lt hs hk
  obtain ⟨⟨k1, k2⟩, ⟨k3, k4⟩, ⟨k5, k6⟩, ⟨k7, k8⟩, k9, k11, k12, k13, k14, k15⟩ := hR
  have hT7 : fm_T α.1 M7 := hT.eq hE (fun c k a b => by omega)
  have hD7 : fm_D dd M7 := hD.eq hE (by omega) (by omega) (fun k => by omega)
  refine ⟨⟨hT7.1, hT7.2.1, hT7.2.2.1, hT7.2.2.2⟩, ⟨hD7.1.1, hD7.1.2.1, hD7.1.2.2⟩, fun _ => hD7.2, ⟨k1, (e0 7).trans k2⟩, ⟨k3, (e0 12).trans k4⟩, ⟨han, rfl⟩, ⟨rfl, a_kp_lt⟩, fun _ => hx2, fun k hk => ?_, fun k hk => ?_, fun k hk i hi => ?_, fun _ => ⟨rfl, fun k hk => ?_⟩, fun z => absurd z (Nat.succ_ne_zero _)⟩
  · have hk' : k < r_n α.2.2 := hk
    show M7.1 6 k = _ ∧ _
    rw [g2 k hk', h6 _ (ho k hk'), (he5 6 _ (by decide : (6 : Nat) ≠ 14)).1]
    exact k11 _ (ho k hk')
  · have hk' : k < r_n α.2.2 := hk
    show M7.2.1 7 k = lN 1 ∧ 1 < 1000001
    exact ⟨g3 k hk', by decide⟩
  · have hk' : k < r_n α.2.2 := hk
    have hi' : i < r_sp α.2.2 + 1 := hi
    have hok := ho k hk'
    show M7.1 8 (31 * k + i) = _ ∧ _
    rw [g4 k hk' i (by omega), (he6 14 _ (by decide : (14 : Nat) ≠ 13)).1, h5 _ (by omega)]
    exact k13 _ hok i hi'
  · have hk' : k < r_n α.2.2 := hk
    show M7.1 9 k = _ ∧ _
    exact ⟨g1 k hk', Nat.lt_of_lt_of_le (ho k hk') k1⟩
theorem fm_cp {M9 M5 : fl_M} {c b i : Nat} (h : ∀ k, k < i → M5.1 c k = M9.1 b k) {v : Int32} (hv : v = M9.1 b i) : ∀ k, k < i + 1 → (fl_sI M5 c i v).1 c k = M9.1 b k := fun k hk => by
  rw [fl_sI_same]
  by_cases e : k = i
  · subst e
    rw [pk_us, hv]
  · rw [pk_un e]
    exact h k (by omega)
theorem fm_cp8 {M6 M10 : fl_M} {x i y : Nat} (h : ∀ z, z < y → M10.1 8 (31 * x + z) = M6.1 14 (31 * i + z)) {v : Int32} (hv : v = M6.1 14 (31 * i + y)) : ∀ z, z < y + 1 → (fl_sI M10 8 (31 * x + y) v).1 8 (31 * x + z) = M6.1 14 (31 * i + z) := fun z hz => by
  rw [fl_sI_same]
  by_cases e : z = y
  · subst e
    rw [pk_us, hv]
  · rw [pk_un (by omega)]
    exact h z (by omega)

set_option maxHeartbeats 4000000 in
set_option maxRecDepth 100000 in
theorem c_X5_drawAnew (l : Launch) {D : va_G} {cI cJ cII : ClassId} {ad : Nat → Nat} (hJ : fl_inj 15 ad) (M : fl_M) (α : a_A) (hA : fm_A α M) (hn0 : ¬ r_n α.2.2 = 0) (han : r_an α.2.2 + 1 < 2 ^ 30) (wy : Nat) (hwy : wy < 4) : MetD lw_cs l yX5_drawAnew wsX5_drawAnew ({ frames := 3, cells := 0, slots := 0, locals := 80 } : Room) (fmPc D cI cJ cII ad M [.ref (ad 0), .int (nI wy)]) (va_Qi (fun r M2 => r = (o_anew α wy).1 ∧ fm_A (o_anew α wy).2 M2) (fmQ D cI cJ ad) (fl_A 15 ad)) 0 0 (fl_A 15 ad) := by
  refine MetD.ofW (cc := cX5_drawAnew) (maxL := 10) (ret := (some .int)) (by decide) rfl ?_
  intro p e s m args below meth c s₁ B hml hv hd0
  obtain ⟨rfl, hP, hK, hN⟩ := hv
  have hx := B.exec
  have hb := B.bytes
  have hr := B.returns
  have hts0 := atoms_spec (ws := wsX5_drawAnew) B.pre
  have hts := dr_words hts0 s.drawn
  have hown : s.vm.findClass RX5 = some m.cls := findClass_of_methodNamed B.named
  have hlocks := B.notSynchronized
  have inX5 : ∀ w ∈ u_ws RX5 TX5 23, w ∈ wsX5_drawAnew := by decide +kernel
  have hS : va_S (fl_A 15 ad) s.heap s.heap [] := va_S.rf
  have hl := lv_entry ([.ref (ad 0), .int (nI wy)] : List Value) (n := 10) (Nat.le_of_ble_eq_true rfl)
  rw [lg_entry_eq]
  generalize (lg_sl ([.ref (ad 0), .int (nI wy)] : List Value) ++ List.replicate (10 - (lg_sl ([.ref (ad 0), .int (nI wy)] : List Value)).length) Slot.unset).toArray = ls at hl ⊢
  have hl : lv_has ls 10 [(0, .ref (ad 0)), (1, .int (nI wy))] := hl
  have hd0 := hd0
  obtain ⟨hT, hQ, hsd, hR⟩ := id hA
  have hTl := (a_QJ_le hR.2.2.2.2.2.2.1 hR.1.1).2.1
  have hn16 := hR.1.1
  refine lv_aload_n hx hb dX5_drawAnew_0 rfl (lv_at hl 0 rfl) ?_
  refine va_calll (va_runV (As := []) (rest := []) ⟨hx, hb, hml, hown, hts⟩ (c_X5_total l hJ M (r_n α.2.2) (r_wt α.2.2) hR.1.1 hR.1.2 hR.2.2.2.2.2.2.1) (cwV 0 hts gX5_drawAnew_X5_total rfl rfl rfl (by decide +kernel) ⟨Nat.le_of_ble_eq_true rfl, Nat.le_of_ble_eq_true rfl⟩) ⟨fl_blind, va_recv hK hP (ci := 7) (q0 := 0) rfl (fl_at (by decide) rfl), fl_pre hP hK hN⟩ rfl rfl hl.1 rfl (lv_room (Nat.le_of_ble_eq_true rfl)) dX5_drawAnew_1 ⟨Nat.le_of_ble_eq_true rfl, Nat.le_of_ble_eq_true rfl⟩) hS (fun _ _ h => h) (fun _ h => h) (fun r1 M1 t H1 locs ht hvm hw hB hz1 hk1 hS => ?_)
  have hP : va_P D vwCl (fmP cI cJ ad M1) H1 := by rw [← ht]; exact hB
  clear hB hk1 hz1 hvm ht t
  obtain ⟨rfl, hE⟩ := hw
  rw [hE] at hP
  refine lv_lstore_n (lv' := [(2, .long (lN (a_sum (r_wt α.2.2) (r_n α.2.2)))), (0, .ref (ad 0)), (1, .int (nI wy))]) hx hb dX5_drawAnew_4 rfl hl (by decide) rfl (fun ls hl => ?_)
  refine lv_lload_n hx hb dX5_drawAnew_5 rfl (lv_at hl 0 rfl) ?_
  refine lv_lconst (v := 0) hx hb dX5_drawAnew_6 (by decide) ?_
  refine fl_lne (tgt := 14) hx hb dX5_drawAnew_7 dX5_drawAnew_8 (by decide) (fun hc7 => ?_) (fun hc7 => ?_)
  · have hT0 : 0 < a_sum (r_wt α.2.2) (r_n α.2.2) := Nat.pos_of_ne_zero (fun z => hc7 (by rw [z]; rfl))
    obtain ⟨tt, htt⟩ : ∃ tt, tt = (a_picks wy (r_kp α.2.2) (r_n α.2.2) (r_wt α.2.2) α.2.1).1 := ⟨_, rfl⟩
    obtain ⟨dd, hdd⟩ : ∃ dd, dd = (a_picks wy (r_kp α.2.2) (r_n α.2.2) (r_wt α.2.2) α.2.1).2 := ⟨_, rfl⟩
    have hsum : a_sum tt (r_n α.2.2) = r_n α.2.2 := by rw [htt]; exact a_picks_sum (Nat.pos_of_ne_zero hn0) hR.2.2.2.1.2 hT0
    have ho : o_anew α wy = (nI (a_unl tt (r_n α.2.2)), (α.1, dd, a_rA α.2.2 tt)) := by
      unfold o_anew a_anew
      rw [if_neg (by omega), htt, hdd]
    refine lv_iconst (v := 0) hx hb dX5_drawAnew_14 (by decide) ?_
    refine lv_istore (lv' := [(4, .int 0), (2, .long (lN (a_sum (r_wt α.2.2) (r_n α.2.2)))), (0, .ref (ad 0)), (1, .int (nI wy))]) hx hb dX5_drawAnew_15 hl (by decide) rfl (fun ls hl => ?_)
    suffices KL17 : ∀ (f : Nat) (i0 : Nat) (M3 : fl_M) (hi0 : i0 ≤ 16) (h12 : ∀ k, k < i0 → True → M3.1 12 k = 0) (he3 : fp (fun c _ => c ≠ 12) M M3) (hf0 : 16 + 1 ≤ i0 + f) (d0 : Drawn) (hd0 : s.drawn.sameBut d0 lw_cs), ∀ (H : Heap) (locs : List Loc), va_P D vwCl (fmP cI cJ ad M3) H → va_S (fl_A 15 ad) s.heap H locs → ∀ (ls : Array Slot), lv_has ls 10 [(0, .ref (ad 0)), (1, .int (nI wy)), (2, .long (lN (a_sum (r_wt α.2.2) (r_n α.2.2)))), (4, .int (nI i0))] → W p l e (headSpec wsX5_drawAnew ({ frames := 3, cells := 0, slots := 0, locals := 80 } : Room)).room (s.setDrawn d0) m ([.ref (ad 0), .int (nI wy)] : List Value).toArray below meth c H locs 0 0 (MQD lw_cs below (va_Qi (fun r M2 => r = (o_anew α wy).1 ∧ fm_A (o_anew α wy).2 M2) (fmQ D cI cJ ad) (fl_A 15 ad)) ([.ref (ad 0), .int (nI wy)] : List Value).toArray s 0 0 (fl_A 15 ad)) (F0 m 17 ls []) from KL17 (16 + 1) 0 M (Nat.zero_le _) (fun k hk => absurd hk (Nat.not_lt_zero k)) fp.rf (by omega) _ hd0 _ _ hP hS ls (lv_sub hl [2, 3, 1, 0] rfl)
    intro f
    induction f with
    | zero =>
      intro i0 M3 hi0 h12 he3 hf0
      omega
    | succ f ih17 =>
      intro i0 M3 hi0 h12 he3 hf0 d0 hd0 H locs hP hS ls hl
      have hts := dr_words hts0 d0
      refine lv_iload hx hb dX5_drawAnew_17 (lv_at hl 3 rfl) ?_
      refine lv_bipush (v := 16) hx hb dX5_drawAnew_19 (by decide) ?_
      refine fl_ti (y := nI 16) rfl ?_
      refine lv_icmp_ge (tgt := 38) hx hb dX5_drawAnew_21 (by decide) (fun hc21 => ?_) (fun hc21 => ?_)
      · have e21 : i0 = 16 := Nat.le_antisymm hi0 ((nI_leI (by omega) (by omega)).mp hc21)
        have h12z : fl_row (M3.1 12) (fun _ => 0) (r_n α.2.2) 1 := fun k hk => ⟨h12 k (by omega) trivial, Nat.zero_lt_one⟩
        have hW3 : fm_W (r_n α.2.2) (r_kp α.2.2) (r_wt α.2.2) M3 := ⟨⟨Nat.pos_of_ne_zero hn0, hR.1.1, (he3 0 7 (by decide : (0 : Nat) ≠ 12)).1.trans hR.1.2⟩, ⟨(he3 0 14 (by decide : (0 : Nat) ≠ 12)).1.trans hR.2.2.2.1.1, hR.2.2.2.1.2⟩, fun k hk => by rw [(he3 7 k (by decide : (7 : Nat) ≠ 12)).2.1]; exact hR.2.2.2.2.2.2.1 k hk⟩
        have hD3 : fm_D α.2.1 M3 := (show fm_D α.2.1 M from ⟨hQ, hsd hn0⟩).eq he3 (by decide) (by decide) (fun k => by decide)
        refine lv_iload_n hx hb dX5_drawAnew_38 rfl (lv_at hl 1 rfl) ?_
        refine lv_iconst (v := 3) hx hb dX5_drawAnew_39 (by decide) ?_
        refine lv_icmp_ge (tgt := 52) hx hb dX5_drawAnew_40 (by decide) (fun hc40 => ?_) (fun hc40 => ?_)
        · have w3 : wy = 3 := by have := (nI_leI (a := 3) (by decide) (by omega)).mp hc40; omega
          refine lv_aload_n hx hb dX5_drawAnew_52 rfl (lv_at hl 0 rfl) ?_
          refine lv_lload_n hx hb dX5_drawAnew_53 rfl (lv_at hl 2 rfl) ?_
          refine va_callv (va_runV (As := [.long (lN (a_sum (r_wt α.2.2) (r_n α.2.2)))]) (rest := []) ⟨hx, hb, hml, hown, hts⟩ (c_X5_pickWhole l hJ M3 (r_n α.2.2) (r_kp α.2.2) (r_wt α.2.2) hW3 α.2.1 hD3 hT0) (cwV 1 hts gX5_drawAnew_X5_pickWhole rfl rfl rfl (by decide +kernel) ⟨Nat.le_of_ble_eq_true rfl, Nat.le_of_ble_eq_true rfl⟩) ⟨fl_blind, va_recv hK hP (ci := 7) (q0 := 0) rfl (fl_at (by decide) rfl), fl_pre hP hK hN⟩ rfl rfl hl.1 rfl (lv_room (Nat.le_of_ble_eq_true rfl)) dX5_drawAnew_54 ⟨Nat.le_of_ble_eq_true rfl, Nat.le_of_ble_eq_true rfl⟩) hS (fun _ _ h => h) (fun _ h => h) (fun M9 t H1 locs ht hvm hw hB hz1 hk1 hS => ?_)
          have hP : va_P D vwCl (fmP cI cJ ad M9) H1 := by rw [← ht]; exact hB
          clear hB hk1 hz1 hvm ht t
          rw [w3] at htt hdd
          obtain ⟨hrow0, hD9, he9⟩ := hw
          rw [← htt] at hrow0
          rw [← hdd] at hD9
          have hrow9 : fl_row (M9.1 12) tt (r_n α.2.2) 65 := hrow0
          have hE9 : fp fm_PP M M9 := (he3.mono (fun c k hc => hc.2.1)).tr he9
          have hT9 : fm_T α.1 M9 := hT.eq hE9 (fun c k a b => by unfold fm_PP fm_PD; omega)
          have hR9 : fm_R α.2.2 M9 := hR.eq hE9 (fun k a b c => by unfold fm_PP fm_PD; omega) (fun c k a b => by unfold fm_PP fm_PD; omega)
          have hn9 := hR9.1.2
          refine lv_iconst (v := 0) hx hb dX5_drawAnew_57 (by decide) ?_
          refine lv_istore (lv' := [(4, .int 0), (0, .ref (ad 0)), (1, .int (nI wy)), (2, .long (lN (a_sum (r_wt α.2.2) (r_n α.2.2))))]) hx hb dX5_drawAnew_58 hl (by decide) rfl (fun ls hl => ?_)
          suffices KL60 : ∀ (f : Nat) (i2 : Nat) (M5 : fl_M) (hi2 : i2 ≤ 496) (h5 : ∀ k, k < i2 → M5.1 14 k = M9.1 8 k) (he5 : fp (fun c _ => c ≠ 14) M9 M5) (hf2 : 496 + 1 ≤ i2 + f) (d0 : Drawn) (hd0 : s.drawn.sameBut d0 lw_cs), ∀ (H : Heap) (locs : List Loc), va_P D vwCl (fmP cI cJ ad M5) H → va_S (fl_A 15 ad) s.heap H locs → ∀ (ls : Array Slot), lv_has ls 10 [(0, .ref (ad 0)), (2, .long (lN (a_sum (r_wt α.2.2) (r_n α.2.2)))), (4, .int (nI i2))] → W p l e (headSpec wsX5_drawAnew ({ frames := 3, cells := 0, slots := 0, locals := 80 } : Room)).room (s.setDrawn d0) m ([.ref (ad 0), .int (nI wy)] : List Value).toArray below meth c H locs 0 0 (MQD lw_cs below (va_Qi (fun r M2 => r = (o_anew α wy).1 ∧ fm_A (o_anew α wy).2 M2) (fmQ D cI cJ ad) (fl_A 15 ad)) ([.ref (ad 0), .int (nI wy)] : List Value).toArray s 0 0 (fl_A 15 ad)) (F0 m 60 ls []) from KL60 (496 + 1) 0 M9 (Nat.zero_le _) (fun k hk => absurd hk (Nat.not_lt_zero k)) fp.rf (by omega) _ hd0 _ _ hP hS ls (lv_sub hl [1, 3, 0] rfl)
          intro f
          induction f with
          | zero =>
            intro i2 M5 hi2 h5 he5 hf2
            omega
          | succ f ih60 =>
            intro i2 M5 hi2 h5 he5 hf2 d0 hd0 H locs hP hS ls hl
            have hts := dr_words hts0 d0
            refine lv_iload hx hb dX5_drawAnew_60 (lv_at hl 2 rfl) ?_
            refine lv_sipush (v := 496) hx hb dX5_drawAnew_62 (by decide) ?_
            refine fl_ti (y := nI 496) rfl ?_
            refine lv_icmp_ge (tgt := 88) hx hb dX5_drawAnew_65 (by decide) (fun hc65 => ?_) (fun hc65 => ?_)
            · have e65 : i2 = 496 := Nat.le_antisymm hi2 ((nI_leI (by omega) (by omega)).mp hc65)
              have h5N : ∀ k, k < 496 → M5.1 14 k = M9.1 8 k := e65 ▸ h5
              have hn5 : M5.1 0 7 = nI (r_n α.2.2) := (he5 0 7 (by decide : (0 : Nat) ≠ 14)).1.trans hn9
              refine lv_iconst (v := 0) hx hb dX5_drawAnew_88 (by decide) ?_
              refine lv_istore (lv' := [(4, .int 0), (0, .ref (ad 0)), (2, .long (lN (a_sum (r_wt α.2.2) (r_n α.2.2))))]) hx hb dX5_drawAnew_89 hl (by decide) rfl (fun ls hl => ?_)
              suffices KL91 : ∀ (f : Nat) (i3 : Nat) (M6 : fl_M) (hi3 : i3 ≤ r_n α.2.2) (h6 : ∀ k, k < i3 → M6.1 13 k = M5.1 6 k) (he6 : fp (fun c _ => c ≠ 13) M5 M6) (hf3 : r_n α.2.2 + 1 ≤ i3 + f) (d0 : Drawn) (hd0 : s.drawn.sameBut d0 lw_cs), ∀ (H : Heap) (locs : List Loc), va_P D vwCl (fmP cI cJ ad M6) H → va_S (fl_A 15 ad) s.heap H locs → ∀ (ls : Array Slot), lv_has ls 10 [(0, .ref (ad 0)), (2, .long (lN (a_sum (r_wt α.2.2) (r_n α.2.2)))), (4, .int (nI i3))] → W p l e (headSpec wsX5_drawAnew ({ frames := 3, cells := 0, slots := 0, locals := 80 } : Room)).room (s.setDrawn d0) m ([.ref (ad 0), .int (nI wy)] : List Value).toArray below meth c H locs 0 0 (MQD lw_cs below (va_Qi (fun r M2 => r = (o_anew α wy).1 ∧ fm_A (o_anew α wy).2 M2) (fmQ D cI cJ ad) (fl_A 15 ad)) ([.ref (ad 0), .int (nI wy)] : List Value).toArray s 0 0 (fl_A 15 ad)) (F0 m 91 ls []) from KL91 (r_n α.2.2 + 1) 0 M5 (Nat.zero_le _) (fun k hk => absurd hk (Nat.not_lt_zero k)) fp.rf (by omega) _ hd0 _ _ hP hS ls (lv_sub hl [1, 2, 0] rfl)
              intro f
              induction f with
              | zero =>
                intro i3 M6 hi3 h6 he6 hf3
                omega
              | succ f ih91 =>
                intro i3 M6 hi3 h6 he6 hf3 d0 hd0 H locs hP hS ls hl
                have hts := dr_words hts0 d0
                have hn6 : M6.1 0 7 = nI (r_n α.2.2) := (he6 0 7 (by decide : (0 : Nat) ≠ 13)).1.trans hn5
                refine lv_iload hx hb dX5_drawAnew_91 (lv_at hl 2 rfl) ?_
                refine lv_aload_n hx hb dX5_drawAnew_93 rfl (lv_at hl 0 rfl) ?_
                refine va_get (D := D) (ci := 7) (v := .int (M6.1 0 7)) (C := RX5) (T := TX5) (N := 23) hx hb hts inX5 hown hK hP 0 (fl_at (by decide) rfl) rfl 7 (by decide) (hts (.fieldLink RX5 66 "ResampledRowsModel" "rows" "I") (by decide +kernel)) (fun _ h9 => h9) rfl dX5_drawAnew_94 ?_
                refine fl_ti (y := nI (r_n α.2.2)) hn6 ?_
                refine lv_icmp_ge (tgt := 120) hx hb dX5_drawAnew_97 (by decide) (fun hc97 => ?_) (fun hc97 => ?_)
                · have e97 : i3 = r_n α.2.2 := Nat.le_antisymm hi3 ((nI_leI (by omega) (by omega)).mp hc97)
                  have h6N : ∀ k, k < r_n α.2.2 → M6.1 13 k = M5.1 6 k := e97 ▸ h6
                  have ht6 : ∀ k, M6.1 12 k = M9.1 12 k := fun k => (he6 12 k (by decide : (12 : Nat) ≠ 13)).1.trans (he5 12 k (by decide : (12 : Nat) ≠ 14)).1
                  have h06 : ∀ k, M6.1 0 k = M9.1 0 k := fun k => (he6 0 k (by decide : (0 : Nat) ≠ 13)).1.trans (he5 0 k (by decide : (0 : Nat) ≠ 14)).1
                  refine lv_iconst (v := 0) hx hb dX5_drawAnew_120 (by decide) ?_
                  refine lv_istore (lv' := [(4, .int 0), (0, .ref (ad 0)), (2, .long (lN (a_sum (r_wt α.2.2) (r_n α.2.2))))]) hx hb dX5_drawAnew_121 hl (by decide) rfl (fun ls hl => ?_)
                  refine lv_iconst (v := 0) hx hb dX5_drawAnew_123 (by decide) ?_
                  refine lv_istore (lv' := [(5, .int 0), (4, .int 0), (0, .ref (ad 0)), (2, .long (lN (a_sum (r_wt α.2.2) (r_n α.2.2))))]) hx hb dX5_drawAnew_124 hl (by decide) rfl (fun ls hl => ?_)
                  refine lv_ldc (v := -1000009) hx hb hown (hts (.constant RX5 75 (-1000009)) (by decide +kernel)) dX5_drawAnew_126 ?_
                  refine lv_istore (lv' := [(6, .int (-1000009)), (5, .int 0), (4, .int 0), (0, .ref (ad 0)), (2, .long (lN (a_sum (r_wt α.2.2) (r_n α.2.2))))]) hx hb dX5_drawAnew_128 hl (by decide) rfl (fun ls hl => ?_)
                  refine lv_iconst (v := 0) hx hb dX5_drawAnew_130 (by decide) ?_
                  refine lv_istore (lv' := [(7, .int 0), (6, .int (-1000009)), (5, .int 0), (4, .int 0), (0, .ref (ad 0)), (2, .long (lN (a_sum (r_wt α.2.2) (r_n α.2.2))))]) hx hb dX5_drawAnew_131 hl (by decide) rfl (fun ls hl => ?_)
                  suffices KL133 : ∀ (f : Nat) (i : Nat) (M7 : fl_M) (u : Nat) (z : Int32) (hi : i ≤ r_n α.2.2) (hu : u = a_unl tt i) (hz : z = a_oI (a_kp (r_kp α.2.2) (a_ord tt (r_n α.2.2)) (a_sum tt i)) (-1000009)) (hDA : fm_DA M6 (a_ord tt (r_n α.2.2)) (a_sum tt i) M7) (hf7 : r_n α.2.2 + 1 ≤ i + f) (d0 : Drawn) (hd0 : s.drawn.sameBut d0 lw_cs), ∀ (H : Heap) (locs : List Loc), va_P D vwCl (fmP cI cJ ad M7) H → va_S (fl_A 15 ad) s.heap H locs → ∀ (ls : Array Slot), lv_has ls 10 [(0, .ref (ad 0)), (2, .long (lN (a_sum (r_wt α.2.2) (r_n α.2.2)))), (4, .int (nI u)), (5, .int (nI (a_sum tt i))), (6, .int z), (7, .int (nI i))] → W p l e (headSpec wsX5_drawAnew ({ frames := 3, cells := 0, slots := 0, locals := 80 } : Room)).room (s.setDrawn d0) m ([.ref (ad 0), .int (nI wy)] : List Value).toArray below meth c H locs 0 0 (MQD lw_cs below (va_Qi (fun r M2 => r = (o_anew α wy).1 ∧ fm_A (o_anew α wy).2 M2) (fmQ D cI cJ ad) (fl_A 15 ad)) ([.ref (ad 0), .int (nI wy)] : List Value).toArray s 0 0 (fl_A 15 ad)) (F0 m 133 ls []) from KL133 (r_n α.2.2 + 1) 0 M6 0 (-1000009) (Nat.zero_le _) rfl (by cases r_kp α.2.2 <;> rfl) (⟨fun k hk => absurd hk (Nat.not_lt_zero k), fun k hk => absurd hk (Nat.not_lt_zero k), fun k hk => absurd hk (Nat.not_lt_zero k), fun k hk => absurd hk (Nat.not_lt_zero k), fp.rf⟩) (by omega) _ hd0 _ _ hP hS ls (lv_sub hl [4, 5, 3, 2, 1, 0] rfl)
                  intro f
                  induction f with
                  | zero =>
                    intro i M7 u z hi hu hz hDA hf7
                    omega
                  | succ f ih133 =>
                    intro i M7 u z hi hu hz hDA hf7 d0 hd0 H locs hP hS ls hl
                    have hts := dr_words hts0 d0
                    have h07 : ∀ k, M7.1 0 k = M9.1 0 k := fun k => (hDA.2.2.2.2 0 k (by omega)).1.trans (h06 k)
                    have hn7 : M7.1 0 7 = nI (r_n α.2.2) := (h07 7).trans hn9
                    have ha7 : M7.1 0 13 = nI (r_an α.2.2) := (h07 13).trans hR9.2.2.1.2
                    refine lv_iload hx hb dX5_drawAnew_133 (lv_at hl 5 rfl) ?_
                    refine lv_aload_n hx hb dX5_drawAnew_135 rfl (lv_at hl 0 rfl) ?_
                    refine va_get (D := D) (ci := 7) (v := .int (M7.1 0 7)) (C := RX5) (T := TX5) (N := 23) hx hb hts inX5 hown hK hP 0 (fl_at (by decide) rfl) rfl 7 (by decide) (hts (.fieldLink RX5 66 "ResampledRowsModel" "rows" "I") (by decide +kernel)) (fun _ h9 => h9) rfl dX5_drawAnew_136 ?_
                    refine fl_ti (y := nI (r_n α.2.2)) hn7 ?_
                    refine lv_icmp_ge (tgt := 290) hx hb dX5_drawAnew_139 (by decide) (fun hc139 => ?_) (fun hc139 => ?_)
                    · have e139 : i = r_n α.2.2 := Nat.le_antisymm hi ((nI_leI (by omega) (by omega)).mp hc139)
                      have hDAn : fm_DA M6 (a_ord tt (r_n α.2.2)) (r_n α.2.2) M7 := by rw [e139, hsum] at hDA; exact hDA
                      have hzn : z = a_oI (a_kp (r_kp α.2.2) (a_ord tt (r_n α.2.2)) (r_n α.2.2)) (-1000009) := by rw [e139, hsum] at hz; exact hz
                      refine lv_aload_n hx hb dX5_drawAnew_290 rfl (lv_at hl 0 rfl) ?_
                      refine lv_iload hx hb dX5_drawAnew_291 (lv_at hl 4 rfl) ?_
                      refine fl_ti (y := a_oI (a_kp (r_kp α.2.2) (a_ord tt (r_n α.2.2)) (r_n α.2.2)) (-1000009)) hzn ?_
                      refine fl_put (ci := 7) (ty := .int) (v := .int (a_oI (a_kp (r_kp α.2.2) (a_ord tt (r_n α.2.2)) (r_n α.2.2)) (-1000009))) (C := RX5) (T := TX5) (Nf := 23) hx hb hts inX5 tyX5 tyX5_ok nmX5 hown hK hJ hP hS 0 (by decide) (fl_sI M7 0 14 (a_oI (a_kp (r_kp α.2.2) (a_ord tt (r_n α.2.2)) (r_n α.2.2)) (-1000009))) rfl rfl 14 (by decide) (hts (.fieldLink RX5 76 "ResampledRowsModel" "kept" "I") (by decide +kernel)) (fun _ h9 => h9) rfl (by decide +kernel) rfl rfl (Nat.le_of_ble_eq_true rfl) rfl (fl_sI_o (fm_loc cI cJ ad) _ _ _ _) dX5_drawAnew_293 (fun H locs hP hS => ?_)
                      refine lv_aload_n hx hb dX5_drawAnew_296 rfl (lv_at hl 0 rfl) ?_
                      refine lv_iconst (v := 1) hx hb dX5_drawAnew_297 (by decide) ?_
                      refine fl_put (ci := 7) (ty := .boolean) (v := .int 1) (C := RX5) (T := TX5) (Nf := 23) hx hb hts inX5 tyX5 tyX5_ok nmX5 hown hK hJ hP hS 0 (by decide) (fl_sI (fl_sI M7 0 14 (a_oI (a_kp (r_kp α.2.2) (a_ord tt (r_n α.2.2)) (r_n α.2.2)) (-1000009))) 0 17 1) rfl rfl 17 (by decide) (hts (.fieldLink RX5 79 "ResampledRowsModel" "hasFroms" "Z") (by decide +kernel)) (fun _ h9 => h9) rfl (by decide +kernel) rfl rfl (Nat.le_of_ble_eq_true rfl) rfl (fl_sI_o (fm_loc cI cJ ad) _ _ _ _) dX5_drawAnew_298 (fun H locs hP hS => ?_)
                      refine lv_aload_n hx hb dX5_drawAnew_301 rfl (lv_at hl 0 rfl) ?_
                      refine lv_dup hx hb dX5_drawAnew_302 rfl ?_
                      refine va_get (D := D) (ci := 7) (v := .int (M7.1 0 13)) (C := RX5) (T := TX5) (N := 23) hx hb hts inX5 hown hK hP 0 (fl_at (by decide) rfl) rfl 13 (by decide) (hts (.fieldLink RX5 72 "ResampledRowsModel" "anew" "I") (by decide +kernel)) (fun _ h9 => h9) rfl dX5_drawAnew_303 ?_
                      refine fl_ti (y := nI (r_an α.2.2)) ha7 ?_
                      refine lv_iconst (v := 1) hx hb dX5_drawAnew_306 (by decide) ?_
                      refine lv_iadd hx hb dX5_drawAnew_307 ?_
                      refine fl_ti (y := nI (r_an α.2.2 + 1)) (nI_1 _) ?_
                      refine fl_put (ci := 7) (ty := .int) (v := .int (nI (r_an α.2.2 + 1))) (C := RX5) (T := TX5) (Nf := 23) hx hb hts inX5 tyX5 tyX5_ok nmX5 hown hK hJ hP hS 0 (by decide) (fl_sI (fl_sI (fl_sI M7 0 14 (a_oI (a_kp (r_kp α.2.2) (a_ord tt (r_n α.2.2)) (r_n α.2.2)) (-1000009))) 0 17 1) 0 13 (nI (r_an α.2.2 + 1))) rfl rfl 13 (by decide) (hts (.fieldLink RX5 72 "ResampledRowsModel" "anew" "I") (by decide +kernel)) (fun _ h9 => h9) rfl (by decide +kernel) rfl rfl (Nat.le_of_ble_eq_true rfl) rfl (fl_sI_o (fm_loc cI cJ ad) _ _ _ _) dX5_drawAnew_308 (fun H locs hP hS => ?_)
                      refine lv_aload_n hx hb dX5_drawAnew_311 rfl (lv_at hl 0 rfl) ?_
                      refine lv_dup hx hb dX5_drawAnew_312 rfl ?_
                      refine va_get (D := D) (ci := 7) (v := .double (M7.2.2.1 0)) (C := RX5) (T := TX5) (N := 23) hx hb hts inX5 hown hK hP 0 (fl_at (by decide) rfl) rfl 15 (by decide) (hts (.fieldLink RX5 115 "ResampledRowsModel" "product" "D") (by decide +kernel)) (fun _ h9 => h9) rfl dX5_drawAnew_313 ?_
                      refine lv_lload_n hx hb dX5_drawAnew_316 rfl (lv_at hl 1 rfl) ?_
                      refine lv_l2d hx hb dX5_drawAnew_317 ?_
                      refine lv_aload_n hx hb dX5_drawAnew_318 rfl (lv_at hl 0 rfl) ?_
                      refine va_get (D := D) (ci := 7) (v := .int (M7.1 0 7)) (C := RX5) (T := TX5) (N := 23) hx hb hts inX5 hown hK hP 0 (fl_at (by decide) rfl) rfl 7 (by decide) (hts (.fieldLink RX5 66 "ResampledRowsModel" "rows" "I") (by decide +kernel)) (fun _ h9 => h9) rfl dX5_drawAnew_319 ?_
                      refine fl_ti (y := nI (r_n α.2.2)) hn7 ?_
                      refine lv_i2d hx hb dX5_drawAnew_322 ?_
                      refine lv_ddiv_any hd0 lw_bits hx hb dX5_drawAnew_323 (fun x1 d1 ha1 hd1 => ?_)
                      have hd0 := hd1
                      have hts := dr_words hts0 d1
                      refine lv_dmul_any hd0 lw_bits hx hb dX5_drawAnew_324 (fun x2 d2 ha2 hd2 => ?_)
                      have hd0 := hd2
                      have hts := dr_words hts0 d2
                      refine fl_put (ci := 7) (ty := .double) (v := .double x2) (C := RX5) (T := TX5) (Nf := 23) hx hb hts inX5 tyX5 tyX5_ok nmX5 hown hK hJ hP hS 0 (by decide) (fl_sG (fl_sI (fl_sI (fl_sI M7 0 14 (a_oI (a_kp (r_kp α.2.2) (a_ord tt (r_n α.2.2)) (r_n α.2.2)) (-1000009))) 0 17 1) 0 13 (nI (r_an α.2.2 + 1))) 0 x2) rfl rfl 15 (by decide) (hts (.fieldLink RX5 115 "ResampledRowsModel" "product" "D") (by decide +kernel)) (fun _ h9 => h9) rfl (by decide +kernel) rfl rfl (Nat.le_of_ble_eq_true rfl) rfl (fl_sG_o (fm_loc cI cJ ad) _ _ _) dX5_drawAnew_325 (fun H locs hP hS => ?_)
                      refine lv_iload hx hb dX5_drawAnew_328 (lv_at hl 2 rfl) ?_
                      refine fl_ti (y := nI (a_unl tt (r_n α.2.2))) (by rw [hu, e139]) ?_
                      refine W.endD hd0 ?_
                      exact W.iret (v := nI (a_unl tt (r_n α.2.2))) hx hb hr (fun t ht hW => ⟨⟨nI (a_unl tt (r_n α.2.2)), (fl_sG (fl_sI (fl_sI (fl_sI M7 0 14 (a_oI (a_kp (r_kp α.2.2) (a_ord tt (r_n α.2.2)) (r_n α.2.2)) (-1000009))) 0 17 1) 0 13 (nI (r_an α.2.2 + 1))) 0 x2), rfl, (by rw [ho]; exact ⟨rfl, fm_DA_E hT9 hR9 hD9 hn0 han hsum h5N he5 h6N he6 hDAn (al_trans ha2 (al_mul (by rw [show M7.2.2.1 0 = M9.2.2.1 0 from ((hDAn.2.2.2.2 0 15 (by omega)).2.2 rfl).trans (((he6 0 15 (by decide : (0 : Nat) ≠ 13)).2.2 rfl).trans ((he5 0 15 (by decide : (0 : Nat) ≠ 14)).2.2 rfl))]; exact hR9.2.2.2.2.1 hn0) ha1)) rfl⟩), fl_qi ht hP⟩, hS.F ht⟩) hS.2.2 dX5_drawAnew_330
                    · have l139 : i < r_n α.2.2 := Nat.lt_of_not_le (fun q => hc139 ((nI_leI (by omega) (by omega)).mpr q))
                      have hti := hrow9 i l139
                      have ht7 : M7.1 12 i = nI (tt i) := ((hDA.2.2.2.2 12 i (by omega)).1.trans (ht6 i)).trans hti.1
                      have hsm : a_sum tt (i + 1) ≤ a_sum tt (r_n α.2.2) := a_sum_mono _ l139
                      have hse : a_sum tt (i + 1) = a_sum tt i + tt i := rfl
                      refine lv_iload hx hb dX5_drawAnew_142 (lv_at hl 2 rfl) ?_
                      refine lv_aload_n hx hb dX5_drawAnew_144 rfl (lv_at hl 0 rfl) ?_
                      refine va_get (D := D) (ci := 7) (v := .ref (ad 12)) (C := RX5) (T := TX5) (N := 23) hx hb hts inX5 hown hK hP 0 (fl_at (by decide) rfl) rfl 20 (by decide) (hts (.fieldLink RX5 44 "ResampledRowsModel" "times" "[I") (by decide +kernel)) (fun _ h9 => h9) rfl dX5_drawAnew_145 ?_
                      refine lv_iload hx hb dX5_drawAnew_148 (lv_at hl 5 rfl) ?_
                      refine fl_ild (a := 12) (n := 16) (k := i) hx hb (by exact hK) hP (fl_at (by decide) rfl) (by rfl) rfl (by omega) (by decide) dX5_drawAnew_150 ?_
                      refine fl_ti (y := nI (tt i)) (by first | exact ht7 | rfl) ?_
                      suffices KJ159 : ∀ (cc : Int32) (hj159 : cc = nI (if 0 < tt i then 1 else 0)), W p l e (headSpec wsX5_drawAnew ({ frames := 3, cells := 0, slots := 0, locals := 80 } : Room)).room (s.setDrawn d0) m ([.ref (ad 0), .int (nI wy)] : List Value).toArray below meth c H locs 0 0 (MQD lw_cs below (va_Qi (fun r M2 => r = (o_anew α wy).1 ∧ fm_A (o_anew α wy).2 M2) (fmQ D cI cJ ad) (fl_A 15 ad)) ([.ref (ad 0), .int (nI wy)] : List Value).toArray s 0 0 (fl_A 15 ad)) (F0 m 159 ls (.int cc :: [.int (nI u)])) from (by
                        refine fl_ti (y := nI (tt i)) (by first | exact ht7 | rfl) ?_
                        refine lv_if_le (tgt := 158) hx hb dX5_drawAnew_151 (by decide) (fun hc151 => ?_) (fun hc151 => ?_)
                        · have g151 : tt i = 0 := fl_len0 (by omega) hc151
                          refine lv_iconst (v := 0) hx hb dX5_drawAnew_158 (by decide) ?_
                          exact KJ159 _ (by rw [if_neg (by omega)]; rfl)
                        · have g151 : 0 < tt i := fl_len1 (by omega) hc151
                          refine lv_iconst (v := 1) hx hb dX5_drawAnew_154 (by decide) ?_
                          refine lv_goto (tgt := 159) hx hb dX5_drawAnew_155 (by decide) ?_
                          exact KJ159 _ (by rw [if_pos g151]; rfl))
                      intro cc hj159
                      refine lv_iadd hx hb dX5_drawAnew_159 ?_
                      refine fl_ti (y := nI (a_unl tt (i + 1))) (by rw [hj159, hu]; exact nI_add _ _) ?_
                      refine lv_istore (lv' := [(4, .int (nI (a_unl tt (i + 1)))), (0, .ref (ad 0)), (2, .long (lN (a_sum (r_wt α.2.2) (r_n α.2.2)))), (5, .int (nI (a_sum tt i))), (6, .int z), (7, .int (nI i))]) hx hb dX5_drawAnew_160 hl (by decide) rfl (fun ls hl => ?_)
                      refine lv_iconst (v := 0) hx hb dX5_drawAnew_162 (by decide) ?_
                      refine lv_istore (lv' := [(8, .int 0), (4, .int (nI (a_unl tt (i + 1)))), (0, .ref (ad 0)), (2, .long (lN (a_sum (r_wt α.2.2) (r_n α.2.2)))), (5, .int (nI (a_sum tt i))), (6, .int z), (7, .int (nI i))]) hx hb dX5_drawAnew_163 hl (by decide) rfl (fun ls hl => ?_)
                      suffices KL165 : ∀ (f : Nat) (j : Nat) (M8 : fl_M) (z8 : Int32) (hj : j ≤ tt i) (hz8 : z8 = a_oI (a_kp (r_kp α.2.2) (a_ord tt (r_n α.2.2)) (a_sum tt i + j)) (-1000009)) (hD8 : fm_DA M6 (a_ord tt (r_n α.2.2)) (a_sum tt i + j) M8) (hf8 : tt i + 1 ≤ j + f) (d0 : Drawn) (hd0 : s.drawn.sameBut d0 lw_cs), ∀ (H : Heap) (locs : List Loc), va_P D vwCl (fmP cI cJ ad M8) H → va_S (fl_A 15 ad) s.heap H locs → ∀ (ls : Array Slot), lv_has ls 10 [(0, .ref (ad 0)), (2, .long (lN (a_sum (r_wt α.2.2) (r_n α.2.2)))), (4, .int (nI (a_unl tt (i + 1)))), (5, .int (nI (a_sum tt i + j))), (6, .int z8), (7, .int (nI i)), (8, .int (nI j))] → W p l e (headSpec wsX5_drawAnew ({ frames := 3, cells := 0, slots := 0, locals := 80 } : Room)).room (s.setDrawn d0) m ([.ref (ad 0), .int (nI wy)] : List Value).toArray below meth c H locs 0 0 (MQD lw_cs below (va_Qi (fun r M2 => r = (o_anew α wy).1 ∧ fm_A (o_anew α wy).2 M2) (fmQ D cI cJ ad) (fl_A 15 ad)) ([.ref (ad 0), .int (nI wy)] : List Value).toArray s 0 0 (fl_A 15 ad)) (F0 m 165 ls []) from KL165 (tt i + 1) 0 M7 z (Nat.zero_le _) hz hDA (by omega) _ hd0 _ _ hP hS ls (lv_sub hl [2, 3, 1, 4, 5, 6, 0] rfl)
                      intro f
                      induction f with
                      | zero =>
                        intro j M8 z8 hj hz8 hD8 hf8
                        omega
                      | succ f ih165 =>
                        intro j M8 z8 hj hz8 hD8 hf8 d0 hd0 H locs hP hS ls hl
                        have hts := dr_words hts0 d0
                        have ht8 : M8.1 12 i = nI (tt i) := ((hD8.2.2.2.2 12 i (by omega)).1.trans (ht6 i)).trans hti.1
                        have hk8 : M8.1 0 14 = a_oI (r_kp α.2.2) (-1000009) := ((hD8.2.2.2.2 0 14 (by omega)).1.trans (h06 14)).trans hR9.2.2.2.1.1
                        refine lv_iload hx hb dX5_drawAnew_165 (lv_at hl 6 rfl) ?_
                        refine lv_aload_n hx hb dX5_drawAnew_167 rfl (lv_at hl 0 rfl) ?_
                        refine va_get (D := D) (ci := 7) (v := .ref (ad 12)) (C := RX5) (T := TX5) (N := 23) hx hb hts inX5 hown hK hP 0 (fl_at (by decide) rfl) rfl 20 (by decide) (hts (.fieldLink RX5 44 "ResampledRowsModel" "times" "[I") (by decide +kernel)) (fun _ h9 => h9) rfl dX5_drawAnew_168 ?_
                        refine lv_iload hx hb dX5_drawAnew_171 (lv_at hl 5 rfl) ?_
                        refine fl_ild (a := 12) (n := 16) (k := i) hx hb (by exact hK) hP (fl_at (by decide) rfl) (by rfl) rfl (by omega) (by decide) dX5_drawAnew_173 ?_
                        refine fl_ti (y := nI (tt i)) ht8 ?_
                        refine lv_icmp_ge (tgt := 284) hx hb dX5_drawAnew_174 (by decide) (fun hc174 => ?_) (fun hc174 => ?_)
                        · have e174 : j = tt i := Nat.le_antisymm hj ((nI_leI (by omega) (by omega)).mp hc174)
                          have hl : lv_has ls 10 [(0, .ref (ad 0)), (2, .long (lN (a_sum (r_wt α.2.2) (r_n α.2.2)))), (4, .int (nI (a_unl tt (i + 1)))), (5, .int (nI (a_sum tt (i + 1)))), (6, .int z8), (7, .int (nI i))] := by
                            have h7 : lv_has ls 10 [(0, .ref (ad 0)), (2, .long (lN (a_sum (r_wt α.2.2) (r_n α.2.2)))), (4, .int (nI (a_unl tt (i + 1)))), (5, .int (nI (a_sum tt i + j))), (6, .int z8), (7, .int (nI i))] := lv_sub hl [0, 1, 2, 3, 4, 5] rfl
                            rw [e174] at h7
                            exact h7
                          refine lv_iinc (v := nI (i + 1)) (lv' := [(7, .int (nI (i + 1))), (0, .ref (ad 0)), (2, .long (lN (a_sum (r_wt α.2.2) (r_n α.2.2)))), (4, .int (nI (a_unl tt (i + 1)))), (5, .int (nI (a_sum tt (i + 1)))), (6, .int z8)]) hx hb dX5_drawAnew_284 hl (k := 5) rfl (fl_inc i) (by decide) rfl (fun ls hl => ?_)
                          refine lv_goto (tgt := 133) hx hb dX5_drawAnew_287 (by decide) ?_
                          exact ih133 (i + 1) M8 (a_unl tt (i + 1)) z8 (by omega) rfl (by rw [e174] at hz8; exact hz8) (by rw [e174] at hD8; exact hD8) (by omega) _ hd0 _ _ hP hS ls (lv_sub hl [1, 2, 3, 4, 5, 0] rfl)
                        · have l174 : j < tt i := Nat.lt_of_not_le (fun q => hc174 ((nI_leI (by omega) (by omega)).mpr q))
                          have hox : (a_ord tt (r_n α.2.2)) (a_sum tt i + j) = i := a_ord_eq (by omega) (by omega) l139
                          refine lv_aload_n hx hb dX5_drawAnew_177 rfl (lv_at hl 0 rfl) ?_
                          refine va_get (D := D) (ci := 7) (v := .ref (ad 9)) (C := RX5) (T := TX5) (N := 23) hx hb hts inX5 hown hK hP 0 (fl_at (by decide) rfl) rfl 16 (by decide) (hts (.fieldLink RX5 35 "ResampledRowsModel" "froms" "[I") (by decide +kernel)) (fun _ h9 => h9) rfl dX5_drawAnew_178 ?_
                          refine lv_iload hx hb dX5_drawAnew_181 (lv_at hl 3 rfl) ?_
                          refine lv_iload hx hb dX5_drawAnew_183 (lv_at hl 5 rfl) ?_
                          refine fl_ist (a := 9) (n := 16) (k := (a_sum tt i + j)) (x := nI i) hx hb (by exact hK) hJ hP hS (fm_loc cI cJ ad) (fl_at (by decide) rfl) rfl (by rfl) rfl (by omega) (by decide) dX5_drawAnew_185 (fun H locs hP hS => ?_)
                          refine lv_iload hx hb dX5_drawAnew_186 (lv_at hl 5 rfl) ?_
                          refine lv_aload_n hx hb dX5_drawAnew_188 rfl (lv_at hl 0 rfl) ?_
                          refine va_get (D := D) (ci := 7) (v := .int (M8.1 0 14)) (C := RX5) (T := TX5) (N := 23) hx hb hts inX5 hown hK hP 0 (fl_at (by decide) rfl) rfl 14 (by decide) (hts (.fieldLink RX5 76 "ResampledRowsModel" "kept" "I") (by decide +kernel)) (fun _ h9 => h9) rfl dX5_drawAnew_189 ?_
                          refine fl_ti (y := a_oI (r_kp α.2.2) (-1000009)) hk8 ?_
                          suffices KJ209 : ∀ (zn : Int32) (hj209 : zn = a_oI (a_kp (r_kp α.2.2) (a_ord tt (r_n α.2.2)) (a_sum tt i + j + 1)) (-1000009)), W p l e (headSpec wsX5_drawAnew ({ frames := 3, cells := 0, slots := 0, locals := 80 } : Room)).room (s.setDrawn d0) m ([.ref (ad 0), .int (nI wy)] : List Value).toArray below meth c H locs 0 0 (MQD lw_cs below (va_Qi (fun r M2 => r = (o_anew α wy).1 ∧ fm_A (o_anew α wy).2 M2) (fmQ D cI cJ ad) (fl_A 15 ad)) ([.ref (ad 0), .int (nI wy)] : List Value).toArray s 0 0 (fl_A 15 ad)) (F0 m 209 ls (.int zn :: [])) from (by
                            refine lv_icmp_ne (tgt := 207) hx hb dX5_drawAnew_192 (by decide) (fun hc192 => ?_) (fun hc192 => ?_)
                            · refine lv_iload hx hb dX5_drawAnew_207 (lv_at hl 4 rfl) ?_
                              exact KJ209 _ (by rw [kp_ne (by omega) hox hc192]; exact hz8)
                            · refine lv_iload hx hb dX5_drawAnew_195 (lv_at hl 4 rfl) ?_
                              refine lv_ldc (v := -1000009) hx hb hown (hts (.constant RX5 75 (-1000009)) (by decide +kernel)) dX5_drawAnew_197 ?_
                              refine lv_icmp_ne (tgt := 207) hx hb dX5_drawAnew_199 (by decide) (fun hc199 => ?_) (fun hc199 => ?_)
                              · refine lv_iload hx hb dX5_drawAnew_207 (lv_at hl 4 rfl) ?_
                                exact KJ209 _ (by rw [kp_some hz8 hc199]; exact hz8)
                              · refine lv_iload hx hb dX5_drawAnew_202 (lv_at hl 3 rfl) ?_
                                refine lv_goto (tgt := 209) hx hb dX5_drawAnew_204 (by decide) ?_
                                exact KJ209 _ ((kp_new hR.2.2.2.1.2 hR.1.1 (by omega) hox hc192 hz8 hc199 (by omega)).symm))
                          intro zn hj209
                          refine lv_istore (lv' := [(6, .int zn), (0, .ref (ad 0)), (2, .long (lN (a_sum (r_wt α.2.2) (r_n α.2.2)))), (4, .int (nI (a_unl tt (i + 1)))), (5, .int (nI (a_sum tt i + j))), (7, .int (nI i)), (8, .int (nI j))]) hx hb dX5_drawAnew_209 hl (by decide) rfl (fun ls hl => ?_)
                          refine lv_aload_n hx hb dX5_drawAnew_211 rfl (lv_at hl 1 rfl) ?_
                          refine va_get (D := D) (ci := 7) (v := .ref (ad 6)) (C := RX5) (T := TX5) (N := 23) hx hb hts inX5 hown hK hP 0 (fl_at (by decide) rfl) rfl 9 (by decide) (hts (.fieldLink RX5 25 "ResampledRowsModel" "states" "[I") (by decide +kernel)) (fun _ h9 => h9) rfl dX5_drawAnew_212 ?_
                          refine lv_iload hx hb dX5_drawAnew_215 (lv_at hl 4 rfl) ?_
                          refine lv_aload_n hx hb dX5_drawAnew_217 rfl (lv_at hl 1 rfl) ?_
                          refine va_get (D := D) (ci := 7) (v := .ref (ad 13)) (C := RX5) (T := TX5) (N := 23) hx hb hts inX5 hown hK hP 0 (fl_at (by decide) rfl) rfl 21 (by decide) (hts (.fieldLink RX5 47 "ResampledRowsModel" "oldStates" "[I") (by decide +kernel)) (fun _ h9 => h9) rfl dX5_drawAnew_218 ?_
                          refine lv_iload hx hb dX5_drawAnew_221 (lv_at hl 5 rfl) ?_
                          refine fl_ild (a := 13) (n := 16) (k := i) hx hb (by exact hK) hP (fl_at (by decide) rfl) (by rfl) rfl (by omega) (by decide) dX5_drawAnew_223 ?_
                          refine fl_ti (y := M8.1 13 i) rfl ?_
                          refine fl_ist (a := 6) (n := 16) (k := (a_sum tt i + j)) (x := M8.1 13 i) hx hb (by exact hK) hJ hP hS (fm_loc cI cJ ad) (fl_at (by decide) rfl) rfl (by rfl) rfl (by omega) (by decide) dX5_drawAnew_224 (fun H locs hP hS => ?_)
                          refine lv_aload_n hx hb dX5_drawAnew_225 rfl (lv_at hl 1 rfl) ?_
                          refine va_get (D := D) (ci := 7) (v := .ref (ad 7)) (C := RX5) (T := TX5) (N := 23) hx hb hts inX5 hown hK hP 0 (fl_at (by decide) rfl) rfl 10 (by decide) (hts (.fieldLink RX5 28 "ResampledRowsModel" "weights" "[J") (by decide +kernel)) (fun _ h9 => h9) rfl dX5_drawAnew_226 ?_
                          refine lv_iload hx hb dX5_drawAnew_229 (lv_at hl 4 rfl) ?_
                          refine lv_lconst (v := 1) hx hb dX5_drawAnew_231 (by decide) ?_
                          refine fl_jst (a := 7) (n := 16) (k := (a_sum tt i + j)) (x := 1) hx hb (by exact hK) hJ hP hS (fm_loc cI cJ ad) (fl_at (by decide) rfl) rfl (by rfl) rfl (by omega) (by decide) dX5_drawAnew_232 (fun H locs hP hS => ?_)
                          refine lv_iconst (v := 0) hx hb dX5_drawAnew_233 (by decide) ?_
                          refine lv_istore (lv' := [(9, .int 0), (6, .int zn), (0, .ref (ad 0)), (2, .long (lN (a_sum (r_wt α.2.2) (r_n α.2.2)))), (4, .int (nI (a_unl tt (i + 1)))), (5, .int (nI (a_sum tt i + j))), (7, .int (nI i)), (8, .int (nI j))]) hx hb dX5_drawAnew_234 hl (by decide) rfl (fun ls hl => ?_)
                          suffices KL236 : ∀ (f : Nat) (y : Nat) (M10 : fl_M) (hy : y ≤ 31) (hY : ∀ w, w < y → M10.1 8 (31 * (a_sum tt i + j) + w) = M6.1 14 (31 * i + w)) (hC : fp (fun c k => ¬ (c = 8 ∧ 31 * (a_sum tt i + j) ≤ k ∧ k < 31 * (a_sum tt i + j) + 31)) (fl_sJ (fl_sI (fl_sI M8 9 (a_sum tt i + j) (nI i)) 6 (a_sum tt i + j) (M8.1 13 i)) 7 (a_sum tt i + j) 1) M10) (hf10 : 31 + 1 ≤ y + f) (d0 : Drawn) (hd0 : s.drawn.sameBut d0 lw_cs), ∀ (H : Heap) (locs : List Loc), va_P D vwCl (fmP cI cJ ad M10) H → va_S (fl_A 15 ad) s.heap H locs → ∀ (ls : Array Slot), lv_has ls 10 [(0, .ref (ad 0)), (2, .long (lN (a_sum (r_wt α.2.2) (r_n α.2.2)))), (4, .int (nI (a_unl tt (i + 1)))), (5, .int (nI (a_sum tt i + j))), (6, .int zn), (7, .int (nI i)), (8, .int (nI j)), (9, .int (nI y))] → W p l e (headSpec wsX5_drawAnew ({ frames := 3, cells := 0, slots := 0, locals := 80 } : Room)).room (s.setDrawn d0) m ([.ref (ad 0), .int (nI wy)] : List Value).toArray below meth c H locs 0 0 (MQD lw_cs below (va_Qi (fun r M2 => r = (o_anew α wy).1 ∧ fm_A (o_anew α wy).2 M2) (fmQ D cI cJ ad) (fl_A 15 ad)) ([.ref (ad 0), .int (nI wy)] : List Value).toArray s 0 0 (fl_A 15 ad)) (F0 m 236 ls []) from KL236 (31 + 1) 0 (fl_sJ (fl_sI (fl_sI M8 9 (a_sum tt i + j) (nI i)) 6 (a_sum tt i + j) (M8.1 13 i)) 7 (a_sum tt i + j) 1) (Nat.zero_le _) (fun k hk => absurd hk (Nat.not_lt_zero k)) fp.rf (by omega) _ hd0 _ _ hP hS ls (lv_sub hl [2, 3, 4, 5, 1, 6, 7, 0] rfl)
                          intro f
                          induction f with
                          | zero =>
                            intro y M10 hy hY hC hf10
                            omega
                          | succ f ih236 =>
                            intro y M10 hy hY hC hf10 d0 hd0 H locs hP hS ls hl
                            have hts := dr_words hts0 d0
                            have h1410 : ∀ k, M10.1 14 k = M6.1 14 k := fun k => (hC 14 k (by omega)).1.trans (hD8.2.2.2.2 14 k (by omega)).1
                            refine lv_iload hx hb dX5_drawAnew_236 (lv_at hl 7 rfl) ?_
                            refine lv_bipush (v := 31) hx hb dX5_drawAnew_238 (by decide) ?_
                            refine fl_ti (y := nI 31) rfl ?_
                            refine lv_icmp_ge (tgt := 275) hx hb dX5_drawAnew_240 (by decide) (fun hc240 => ?_) (fun hc240 => ?_)
                            · have e240 : y = 31 := Nat.le_antisymm hy ((nI_leI (by omega) (by omega)).mp hc240)
                              refine lv_iinc (v := nI ((a_sum tt i + j) + 1)) (lv' := [(5, .int (nI ((a_sum tt i + j) + 1))), (0, .ref (ad 0)), (2, .long (lN (a_sum (r_wt α.2.2) (r_n α.2.2)))), (4, .int (nI (a_unl tt (i + 1)))), (6, .int zn), (7, .int (nI i)), (8, .int (nI j)), (9, .int (nI y))]) hx hb dX5_drawAnew_275 hl (k := 3) rfl (fl_inc (a_sum tt i + j)) (by decide) rfl (fun ls hl => ?_)
                              refine lv_iinc (v := nI (j + 1)) (lv' := [(8, .int (nI (j + 1))), (5, .int (nI ((a_sum tt i + j) + 1))), (0, .ref (ad 0)), (2, .long (lN (a_sum (r_wt α.2.2) (r_n α.2.2)))), (4, .int (nI (a_unl tt (i + 1)))), (6, .int zn), (7, .int (nI i)), (9, .int (nI y))]) hx hb dX5_drawAnew_278 hl (k := 6) rfl (fl_inc j) (by decide) rfl (fun ls hl => ?_)
                              refine lv_goto (tgt := 165) hx hb dX5_drawAnew_281 (by decide) ?_
                              exact ih165 (j + 1) M10 zn (by omega) hj209 (fm_DA_s hD8 hox hC (e240 ▸ hY)) (by omega) _ hd0 _ _ hP hS ls (lv_sub hl [2, 3, 4, 1, 5, 6, 0] rfl)
                            · have l240 : y < 31 := Nat.lt_of_not_le (fun q => hc240 ((nI_leI (by omega) (by omega)).mpr q))
                              refine lv_aload_n hx hb dX5_drawAnew_243 rfl (lv_at hl 0 rfl) ?_
                              refine va_get (D := D) (ci := 7) (v := .ref (ad 8)) (C := RX5) (T := TX5) (N := 23) hx hb hts inX5 hown hK hP 0 (fl_at (by decide) rfl) rfl 11 (by decide) (hts (.fieldLink RX5 32 "ResampledRowsModel" "histories" "[I") (by decide +kernel)) (fun _ h9 => h9) rfl dX5_drawAnew_244 ?_
                              refine lv_bipush (v := 31) hx hb dX5_drawAnew_247 (by decide) ?_
                              refine lv_iload hx hb dX5_drawAnew_249 (lv_at hl 3 rfl) ?_
                              refine lv_imul hx hb dX5_drawAnew_251 ?_
                              refine fl_ti (y := nI (31 * (a_sum tt i + j))) (pk_mul 31 _) ?_
                              refine lv_iload hx hb dX5_drawAnew_252 (lv_at hl 7 rfl) ?_
                              refine lv_iadd hx hb dX5_drawAnew_254 ?_
                              refine fl_ti (y := nI (31 * (a_sum tt i + j) + y)) (nI_add _ _) ?_
                              refine lv_aload_n hx hb dX5_drawAnew_255 rfl (lv_at hl 0 rfl) ?_
                              refine va_get (D := D) (ci := 7) (v := .ref (ad 14)) (C := RX5) (T := TX5) (N := 23) hx hb hts inX5 hown hK hP 0 (fl_at (by decide) rfl) rfl 22 (by decide) (hts (.fieldLink RX5 50 "ResampledRowsModel" "oldHistories" "[I") (by decide +kernel)) (fun _ h9 => h9) rfl dX5_drawAnew_256 ?_
                              refine lv_bipush (v := 31) hx hb dX5_drawAnew_259 (by decide) ?_
                              refine lv_iload hx hb dX5_drawAnew_261 (lv_at hl 5 rfl) ?_
                              refine lv_imul hx hb dX5_drawAnew_263 ?_
                              refine fl_ti (y := nI (31 * i)) (pk_mul 31 _) ?_
                              refine lv_iload hx hb dX5_drawAnew_264 (lv_at hl 7 rfl) ?_
                              refine lv_iadd hx hb dX5_drawAnew_266 ?_
                              refine fl_ti (y := nI (31 * i + y)) (nI_add _ _) ?_
                              refine fl_ild (a := 14) (n := 496) (k := (31 * i + y)) hx hb (by exact hK) hP (fl_at (by decide) rfl) (by rfl) rfl (by omega) (by decide) dX5_drawAnew_267 ?_
                              refine fl_ist (a := 8) (n := 496) (k := (31 * (a_sum tt i + j) + y)) (x := M10.1 14 (31 * i + y)) hx hb (by exact hK) hJ hP hS (fm_loc cI cJ ad) (fl_at (by decide) rfl) rfl (by rfl) rfl (by omega) (by decide) dX5_drawAnew_268 (fun H locs hP hS => ?_)
                              refine lv_iinc (v := nI (y + 1)) (lv' := [(9, .int (nI (y + 1))), (0, .ref (ad 0)), (2, .long (lN (a_sum (r_wt α.2.2) (r_n α.2.2)))), (4, .int (nI (a_unl tt (i + 1)))), (5, .int (nI (a_sum tt i + j))), (6, .int zn), (7, .int (nI i)), (8, .int (nI j))]) hx hb dX5_drawAnew_269 hl (k := 7) rfl (fl_inc y) (by decide) rfl (fun ls hl => ?_)
                              refine lv_goto (tgt := 236) hx hb dX5_drawAnew_272 (by decide) ?_
                              exact ih236 (y + 1) (fl_sI M10 8 (31 * (a_sum tt i + j) + y) (M10.1 14 (31 * i + y))) (by omega) (fm_cp8 hY (h1410 _)) (hC.sI (by omega) _) (by omega) _ hd0 _ _ hP hS ls (lv_sub hl [1, 2, 3, 4, 5, 6, 7, 0] rfl)
                · have l97 : i3 < r_n α.2.2 := Nat.lt_of_not_le (fun q => hc97 ((nI_leI (by omega) (by omega)).mpr q))
                  refine lv_aload_n hx hb dX5_drawAnew_100 rfl (lv_at hl 0 rfl) ?_
                  refine va_get (D := D) (ci := 7) (v := .ref (ad 13)) (C := RX5) (T := TX5) (N := 23) hx hb hts inX5 hown hK hP 0 (fl_at (by decide) rfl) rfl 21 (by decide) (hts (.fieldLink RX5 47 "ResampledRowsModel" "oldStates" "[I") (by decide +kernel)) (fun _ h9 => h9) rfl dX5_drawAnew_101 ?_
                  refine lv_iload hx hb dX5_drawAnew_104 (lv_at hl 2 rfl) ?_
                  refine lv_aload_n hx hb dX5_drawAnew_106 rfl (lv_at hl 0 rfl) ?_
                  refine va_get (D := D) (ci := 7) (v := .ref (ad 6)) (C := RX5) (T := TX5) (N := 23) hx hb hts inX5 hown hK hP 0 (fl_at (by decide) rfl) rfl 9 (by decide) (hts (.fieldLink RX5 25 "ResampledRowsModel" "states" "[I") (by decide +kernel)) (fun _ h9 => h9) rfl dX5_drawAnew_107 ?_
                  refine lv_iload hx hb dX5_drawAnew_110 (lv_at hl 2 rfl) ?_
                  refine fl_ild (a := 6) (n := 16) (k := i3) hx hb (by exact hK) hP (fl_at (by decide) rfl) (by rfl) rfl (by omega) (by decide) dX5_drawAnew_112 ?_
                  refine fl_ti (y := M5.1 6 i3) ((he6 6 i3 (by decide : (6 : Nat) ≠ 13)).1) ?_
                  refine fl_ist (a := 13) (n := 16) (k := i3) (x := M5.1 6 i3) hx hb (by exact hK) hJ hP hS (fm_loc cI cJ ad) (fl_at (by decide) rfl) rfl (by rfl) rfl (by omega) (by decide) dX5_drawAnew_113 (fun H locs hP hS => ?_)
                  refine lv_iinc (v := nI (i3 + 1)) (lv' := [(4, .int (nI (i3 + 1))), (0, .ref (ad 0)), (2, .long (lN (a_sum (r_wt α.2.2) (r_n α.2.2))))]) hx hb dX5_drawAnew_114 hl (k := 2) rfl (fl_inc i3) (by decide) rfl (fun ls hl => ?_)
                  refine lv_goto (tgt := 91) hx hb dX5_drawAnew_117 (by decide) ?_
                  exact ih91 (i3 + 1) (fl_sI M6 13 i3 (M5.1 6 i3)) (by omega) (fm_cp h6 rfl) (he6.sI (fun z => z rfl) _) (by omega) _ hd0 _ _ hP hS ls (lv_sub hl [1, 2, 0] rfl)
            · have l65 : i2 < 496 := Nat.lt_of_not_le (fun q => hc65 ((nI_leI (by omega) (by omega)).mpr q))
              refine lv_aload_n hx hb dX5_drawAnew_68 rfl (lv_at hl 0 rfl) ?_
              refine va_get (D := D) (ci := 7) (v := .ref (ad 14)) (C := RX5) (T := TX5) (N := 23) hx hb hts inX5 hown hK hP 0 (fl_at (by decide) rfl) rfl 22 (by decide) (hts (.fieldLink RX5 50 "ResampledRowsModel" "oldHistories" "[I") (by decide +kernel)) (fun _ h9 => h9) rfl dX5_drawAnew_69 ?_
              refine lv_iload hx hb dX5_drawAnew_72 (lv_at hl 2 rfl) ?_
              refine lv_aload_n hx hb dX5_drawAnew_74 rfl (lv_at hl 0 rfl) ?_
              refine va_get (D := D) (ci := 7) (v := .ref (ad 8)) (C := RX5) (T := TX5) (N := 23) hx hb hts inX5 hown hK hP 0 (fl_at (by decide) rfl) rfl 11 (by decide) (hts (.fieldLink RX5 32 "ResampledRowsModel" "histories" "[I") (by decide +kernel)) (fun _ h9 => h9) rfl dX5_drawAnew_75 ?_
              refine lv_iload hx hb dX5_drawAnew_78 (lv_at hl 2 rfl) ?_
              refine fl_ild (a := 8) (n := 496) (k := i2) hx hb (by exact hK) hP (fl_at (by decide) rfl) (by rfl) rfl (by omega) (by decide) dX5_drawAnew_80 ?_
              refine fl_ti (y := M9.1 8 i2) ((he5 8 i2 (by decide : (8 : Nat) ≠ 14)).1) ?_
              refine fl_ist (a := 14) (n := 496) (k := i2) (x := M9.1 8 i2) hx hb (by exact hK) hJ hP hS (fm_loc cI cJ ad) (fl_at (by decide) rfl) rfl (by rfl) rfl (by omega) (by decide) dX5_drawAnew_81 (fun H locs hP hS => ?_)
              refine lv_iinc (v := nI (i2 + 1)) (lv' := [(4, .int (nI (i2 + 1))), (0, .ref (ad 0)), (2, .long (lN (a_sum (r_wt α.2.2) (r_n α.2.2))))]) hx hb dX5_drawAnew_82 hl (k := 2) rfl (fl_inc i2) (by decide) rfl (fun ls hl => ?_)
              refine lv_goto (tgt := 60) hx hb dX5_drawAnew_85 (by decide) ?_
              exact ih60 (i2 + 1) (fl_sI M5 14 i2 (M9.1 8 i2)) (by omega) (fm_cp h5 rfl) (he5.sI (fun z => z rfl) _) (by omega) _ hd0 _ _ hP hS ls (lv_sub hl [1, 2, 0] rfl)
        · have w3 : wy < 3 := Nat.lt_of_not_le (fun z => hc40 ((nI_leI (a := 3) (by decide) (by omega)).mpr z))
          refine lv_aload_n hx hb dX5_drawAnew_43 rfl (lv_at hl 0 rfl) ?_
          refine lv_iload_n hx hb dX5_drawAnew_44 rfl (lv_at hl 1 rfl) ?_
          refine lv_lload_n hx hb dX5_drawAnew_45 rfl (lv_at hl 2 rfl) ?_
          refine va_callv (va_runV (As := [.int (nI wy), .long (lN (a_sum (r_wt α.2.2) (r_n α.2.2)))]) (rest := []) ⟨hx, hb, hml, hown, hts⟩ (c_X5_pickBy l hJ M3 (r_n α.2.2) (r_kp α.2.2) (r_wt α.2.2) hW3 α.2.1 hD3 hT0 wy w3 h12z) (cwV 2 hts gX5_drawAnew_X5_pickBy rfl rfl rfl (by decide +kernel) ⟨Nat.le_of_ble_eq_true rfl, Nat.le_of_ble_eq_true rfl⟩) ⟨fl_blind, va_recv hK hP (ci := 7) (q0 := 0) rfl (fl_at (by decide) rfl), fl_pre hP hK hN⟩ rfl rfl hl.1 rfl (lv_room (Nat.le_of_ble_eq_true rfl)) dX5_drawAnew_46 ⟨Nat.le_of_ble_eq_true rfl, Nat.le_of_ble_eq_true rfl⟩) hS (fun _ _ h => h) (fun _ h => h) (fun M9 t H1 locs ht hvm hw hB hz1 hk1 hS => ?_)
          have hP : va_P D vwCl (fmP cI cJ ad M9) H1 := by rw [← ht]; exact hB
          clear hB hk1 hz1 hvm ht t
          obtain ⟨hrow0, hD9, he9⟩ := hw
          rw [← htt] at hrow0
          rw [← hdd] at hD9
          have hrow9 : fl_row (M9.1 12) tt (r_n α.2.2) 65 := hrow0.lt (by decide)
          have hE9 : fp fm_PP M M9 := (he3.mono (fun c k hc => hc.2.1)).tr he9
          have hT9 : fm_T α.1 M9 := hT.eq hE9 (fun c k a b => by unfold fm_PP fm_PD; omega)
          have hR9 : fm_R α.2.2 M9 := hR.eq hE9 (fun k a b c => by unfold fm_PP fm_PD; omega) (fun c k a b => by unfold fm_PP fm_PD; omega)
          have hn9 := hR9.1.2
          refine lv_goto (tgt := 57) hx hb dX5_drawAnew_49 (by decide) ?_
          refine lv_iconst (v := 0) hx hb dX5_drawAnew_57 (by decide) ?_
          refine lv_istore (lv' := [(4, .int 0), (0, .ref (ad 0)), (1, .int (nI wy)), (2, .long (lN (a_sum (r_wt α.2.2) (r_n α.2.2))))]) hx hb dX5_drawAnew_58 hl (by decide) rfl (fun ls hl => ?_)
          suffices KL60 : ∀ (f : Nat) (i2 : Nat) (M5 : fl_M) (hi2 : i2 ≤ 496) (h5 : ∀ k, k < i2 → M5.1 14 k = M9.1 8 k) (he5 : fp (fun c _ => c ≠ 14) M9 M5) (hf2 : 496 + 1 ≤ i2 + f) (d0 : Drawn) (hd0 : s.drawn.sameBut d0 lw_cs), ∀ (H : Heap) (locs : List Loc), va_P D vwCl (fmP cI cJ ad M5) H → va_S (fl_A 15 ad) s.heap H locs → ∀ (ls : Array Slot), lv_has ls 10 [(0, .ref (ad 0)), (2, .long (lN (a_sum (r_wt α.2.2) (r_n α.2.2)))), (4, .int (nI i2))] → W p l e (headSpec wsX5_drawAnew ({ frames := 3, cells := 0, slots := 0, locals := 80 } : Room)).room (s.setDrawn d0) m ([.ref (ad 0), .int (nI wy)] : List Value).toArray below meth c H locs 0 0 (MQD lw_cs below (va_Qi (fun r M2 => r = (o_anew α wy).1 ∧ fm_A (o_anew α wy).2 M2) (fmQ D cI cJ ad) (fl_A 15 ad)) ([.ref (ad 0), .int (nI wy)] : List Value).toArray s 0 0 (fl_A 15 ad)) (F0 m 60 ls []) from KL60 (496 + 1) 0 M9 (Nat.zero_le _) (fun k hk => absurd hk (Nat.not_lt_zero k)) fp.rf (by omega) _ hd0 _ _ hP hS ls (lv_sub hl [1, 3, 0] rfl)
          intro f
          induction f with
          | zero =>
            intro i2 M5 hi2 h5 he5 hf2
            omega
          | succ f ih60 =>
            intro i2 M5 hi2 h5 he5 hf2 d0 hd0 H locs hP hS ls hl
            have hts := dr_words hts0 d0
            refine lv_iload hx hb dX5_drawAnew_60 (lv_at hl 2 rfl) ?_
            refine lv_sipush (v := 496) hx hb dX5_drawAnew_62 (by decide) ?_
            refine fl_ti (y := nI 496) rfl ?_
            refine lv_icmp_ge (tgt := 88) hx hb dX5_drawAnew_65 (by decide) (fun hc65 => ?_) (fun hc65 => ?_)
            · have e65 : i2 = 496 := Nat.le_antisymm hi2 ((nI_leI (by omega) (by omega)).mp hc65)
              have h5N : ∀ k, k < 496 → M5.1 14 k = M9.1 8 k := e65 ▸ h5
              have hn5 : M5.1 0 7 = nI (r_n α.2.2) := (he5 0 7 (by decide : (0 : Nat) ≠ 14)).1.trans hn9
              refine lv_iconst (v := 0) hx hb dX5_drawAnew_88 (by decide) ?_
              refine lv_istore (lv' := [(4, .int 0), (0, .ref (ad 0)), (2, .long (lN (a_sum (r_wt α.2.2) (r_n α.2.2))))]) hx hb dX5_drawAnew_89 hl (by decide) rfl (fun ls hl => ?_)
              suffices KL91 : ∀ (f : Nat) (i3 : Nat) (M6 : fl_M) (hi3 : i3 ≤ r_n α.2.2) (h6 : ∀ k, k < i3 → M6.1 13 k = M5.1 6 k) (he6 : fp (fun c _ => c ≠ 13) M5 M6) (hf3 : r_n α.2.2 + 1 ≤ i3 + f) (d0 : Drawn) (hd0 : s.drawn.sameBut d0 lw_cs), ∀ (H : Heap) (locs : List Loc), va_P D vwCl (fmP cI cJ ad M6) H → va_S (fl_A 15 ad) s.heap H locs → ∀ (ls : Array Slot), lv_has ls 10 [(0, .ref (ad 0)), (2, .long (lN (a_sum (r_wt α.2.2) (r_n α.2.2)))), (4, .int (nI i3))] → W p l e (headSpec wsX5_drawAnew ({ frames := 3, cells := 0, slots := 0, locals := 80 } : Room)).room (s.setDrawn d0) m ([.ref (ad 0), .int (nI wy)] : List Value).toArray below meth c H locs 0 0 (MQD lw_cs below (va_Qi (fun r M2 => r = (o_anew α wy).1 ∧ fm_A (o_anew α wy).2 M2) (fmQ D cI cJ ad) (fl_A 15 ad)) ([.ref (ad 0), .int (nI wy)] : List Value).toArray s 0 0 (fl_A 15 ad)) (F0 m 91 ls []) from KL91 (r_n α.2.2 + 1) 0 M5 (Nat.zero_le _) (fun k hk => absurd hk (Nat.not_lt_zero k)) fp.rf (by omega) _ hd0 _ _ hP hS ls (lv_sub hl [1, 2, 0] rfl)
              intro f
              induction f with
              | zero =>
                intro i3 M6 hi3 h6 he6 hf3
                omega
              | succ f ih91 =>
                intro i3 M6 hi3 h6 he6 hf3 d0 hd0 H locs hP hS ls hl
                have hts := dr_words hts0 d0
                have hn6 : M6.1 0 7 = nI (r_n α.2.2) := (he6 0 7 (by decide : (0 : Nat) ≠ 13)).1.trans hn5
                refine lv_iload hx hb dX5_drawAnew_91 (lv_at hl 2 rfl) ?_
                refine lv_aload_n hx hb dX5_drawAnew_93 rfl (lv_at hl 0 rfl) ?_
                refine va_get (D := D) (ci := 7) (v := .int (M6.1 0 7)) (C := RX5) (T := TX5) (N := 23) hx hb hts inX5 hown hK hP 0 (fl_at (by decide) rfl) rfl 7 (by decide) (hts (.fieldLink RX5 66 "ResampledRowsModel" "rows" "I") (by decide +kernel)) (fun _ h9 => h9) rfl dX5_drawAnew_94 ?_
                refine fl_ti (y := nI (r_n α.2.2)) hn6 ?_
                refine lv_icmp_ge (tgt := 120) hx hb dX5_drawAnew_97 (by decide) (fun hc97 => ?_) (fun hc97 => ?_)
                · have e97 : i3 = r_n α.2.2 := Nat.le_antisymm hi3 ((nI_leI (by omega) (by omega)).mp hc97)
                  have h6N : ∀ k, k < r_n α.2.2 → M6.1 13 k = M5.1 6 k := e97 ▸ h6
                  have ht6 : ∀ k, M6.1 12 k = M9.1 12 k := fun k => (he6 12 k (by decide : (12 : Nat) ≠ 13)).1.trans (he5 12 k (by decide : (12 : Nat) ≠ 14)).1
                  have h06 : ∀ k, M6.1 0 k = M9.1 0 k := fun k => (he6 0 k (by decide : (0 : Nat) ≠ 13)).1.trans (he5 0 k (by decide : (0 : Nat) ≠ 14)).1
                  refine lv_iconst (v := 0) hx hb dX5_drawAnew_120 (by decide) ?_
                  refine lv_istore (lv' := [(4, .int 0), (0, .ref (ad 0)), (2, .long (lN (a_sum (r_wt α.2.2) (r_n α.2.2))))]) hx hb dX5_drawAnew_121 hl (by decide) rfl (fun ls hl => ?_)
                  refine lv_iconst (v := 0) hx hb dX5_drawAnew_123 (by decide) ?_
                  refine lv_istore (lv' := [(5, .int 0), (4, .int 0), (0, .ref (ad 0)), (2, .long (lN (a_sum (r_wt α.2.2) (r_n α.2.2))))]) hx hb dX5_drawAnew_124 hl (by decide) rfl (fun ls hl => ?_)
                  refine lv_ldc (v := -1000009) hx hb hown (hts (.constant RX5 75 (-1000009)) (by decide +kernel)) dX5_drawAnew_126 ?_
                  refine lv_istore (lv' := [(6, .int (-1000009)), (5, .int 0), (4, .int 0), (0, .ref (ad 0)), (2, .long (lN (a_sum (r_wt α.2.2) (r_n α.2.2))))]) hx hb dX5_drawAnew_128 hl (by decide) rfl (fun ls hl => ?_)
                  refine lv_iconst (v := 0) hx hb dX5_drawAnew_130 (by decide) ?_
                  refine lv_istore (lv' := [(7, .int 0), (6, .int (-1000009)), (5, .int 0), (4, .int 0), (0, .ref (ad 0)), (2, .long (lN (a_sum (r_wt α.2.2) (r_n α.2.2))))]) hx hb dX5_drawAnew_131 hl (by decide) rfl (fun ls hl => ?_)
                  suffices KL133 : ∀ (f : Nat) (i : Nat) (M7 : fl_M) (u : Nat) (z : Int32) (hi : i ≤ r_n α.2.2) (hu : u = a_unl tt i) (hz : z = a_oI (a_kp (r_kp α.2.2) (a_ord tt (r_n α.2.2)) (a_sum tt i)) (-1000009)) (hDA : fm_DA M6 (a_ord tt (r_n α.2.2)) (a_sum tt i) M7) (hf7 : r_n α.2.2 + 1 ≤ i + f) (d0 : Drawn) (hd0 : s.drawn.sameBut d0 lw_cs), ∀ (H : Heap) (locs : List Loc), va_P D vwCl (fmP cI cJ ad M7) H → va_S (fl_A 15 ad) s.heap H locs → ∀ (ls : Array Slot), lv_has ls 10 [(0, .ref (ad 0)), (2, .long (lN (a_sum (r_wt α.2.2) (r_n α.2.2)))), (4, .int (nI u)), (5, .int (nI (a_sum tt i))), (6, .int z), (7, .int (nI i))] → W p l e (headSpec wsX5_drawAnew ({ frames := 3, cells := 0, slots := 0, locals := 80 } : Room)).room (s.setDrawn d0) m ([.ref (ad 0), .int (nI wy)] : List Value).toArray below meth c H locs 0 0 (MQD lw_cs below (va_Qi (fun r M2 => r = (o_anew α wy).1 ∧ fm_A (o_anew α wy).2 M2) (fmQ D cI cJ ad) (fl_A 15 ad)) ([.ref (ad 0), .int (nI wy)] : List Value).toArray s 0 0 (fl_A 15 ad)) (F0 m 133 ls []) from KL133 (r_n α.2.2 + 1) 0 M6 0 (-1000009) (Nat.zero_le _) rfl (by cases r_kp α.2.2 <;> rfl) (⟨fun k hk => absurd hk (Nat.not_lt_zero k), fun k hk => absurd hk (Nat.not_lt_zero k), fun k hk => absurd hk (Nat.not_lt_zero k), fun k hk => absurd hk (Nat.not_lt_zero k), fp.rf⟩) (by omega) _ hd0 _ _ hP hS ls (lv_sub hl [4, 5, 3, 2, 1, 0] rfl)
                  intro f
                  induction f with
                  | zero =>
                    intro i M7 u z hi hu hz hDA hf7
                    omega
                  | succ f ih133 =>
                    intro i M7 u z hi hu hz hDA hf7 d0 hd0 H locs hP hS ls hl
                    have hts := dr_words hts0 d0
                    have h07 : ∀ k, M7.1 0 k = M9.1 0 k := fun k => (hDA.2.2.2.2 0 k (by omega)).1.trans (h06 k)
                    have hn7 : M7.1 0 7 = nI (r_n α.2.2) := (h07 7).trans hn9
                    have ha7 : M7.1 0 13 = nI (r_an α.2.2) := (h07 13).trans hR9.2.2.1.2
                    refine lv_iload hx hb dX5_drawAnew_133 (lv_at hl 5 rfl) ?_
                    refine lv_aload_n hx hb dX5_drawAnew_135 rfl (lv_at hl 0 rfl) ?_
                    refine va_get (D := D) (ci := 7) (v := .int (M7.1 0 7)) (C := RX5) (T := TX5) (N := 23) hx hb hts inX5 hown hK hP 0 (fl_at (by decide) rfl) rfl 7 (by decide) (hts (.fieldLink RX5 66 "ResampledRowsModel" "rows" "I") (by decide +kernel)) (fun _ h9 => h9) rfl dX5_drawAnew_136 ?_
                    refine fl_ti (y := nI (r_n α.2.2)) hn7 ?_
                    refine lv_icmp_ge (tgt := 290) hx hb dX5_drawAnew_139 (by decide) (fun hc139 => ?_) (fun hc139 => ?_)
                    · have e139 : i = r_n α.2.2 := Nat.le_antisymm hi ((nI_leI (by omega) (by omega)).mp hc139)
                      have hDAn : fm_DA M6 (a_ord tt (r_n α.2.2)) (r_n α.2.2) M7 := by rw [e139, hsum] at hDA; exact hDA
                      have hzn : z = a_oI (a_kp (r_kp α.2.2) (a_ord tt (r_n α.2.2)) (r_n α.2.2)) (-1000009) := by rw [e139, hsum] at hz; exact hz
                      refine lv_aload_n hx hb dX5_drawAnew_290 rfl (lv_at hl 0 rfl) ?_
                      refine lv_iload hx hb dX5_drawAnew_291 (lv_at hl 4 rfl) ?_
                      refine fl_ti (y := a_oI (a_kp (r_kp α.2.2) (a_ord tt (r_n α.2.2)) (r_n α.2.2)) (-1000009)) hzn ?_
                      refine fl_put (ci := 7) (ty := .int) (v := .int (a_oI (a_kp (r_kp α.2.2) (a_ord tt (r_n α.2.2)) (r_n α.2.2)) (-1000009))) (C := RX5) (T := TX5) (Nf := 23) hx hb hts inX5 tyX5 tyX5_ok nmX5 hown hK hJ hP hS 0 (by decide) (fl_sI M7 0 14 (a_oI (a_kp (r_kp α.2.2) (a_ord tt (r_n α.2.2)) (r_n α.2.2)) (-1000009))) rfl rfl 14 (by decide) (hts (.fieldLink RX5 76 "ResampledRowsModel" "kept" "I") (by decide +kernel)) (fun _ h9 => h9) rfl (by decide +kernel) rfl rfl (Nat.le_of_ble_eq_true rfl) rfl (fl_sI_o (fm_loc cI cJ ad) _ _ _ _) dX5_drawAnew_293 (fun H locs hP hS => ?_)
                      refine lv_aload_n hx hb dX5_drawAnew_296 rfl (lv_at hl 0 rfl) ?_
                      refine lv_iconst (v := 1) hx hb dX5_drawAnew_297 (by decide) ?_
                      refine fl_put (ci := 7) (ty := .boolean) (v := .int 1) (C := RX5) (T := TX5) (Nf := 23) hx hb hts inX5 tyX5 tyX5_ok nmX5 hown hK hJ hP hS 0 (by decide) (fl_sI (fl_sI M7 0 14 (a_oI (a_kp (r_kp α.2.2) (a_ord tt (r_n α.2.2)) (r_n α.2.2)) (-1000009))) 0 17 1) rfl rfl 17 (by decide) (hts (.fieldLink RX5 79 "ResampledRowsModel" "hasFroms" "Z") (by decide +kernel)) (fun _ h9 => h9) rfl (by decide +kernel) rfl rfl (Nat.le_of_ble_eq_true rfl) rfl (fl_sI_o (fm_loc cI cJ ad) _ _ _ _) dX5_drawAnew_298 (fun H locs hP hS => ?_)
                      refine lv_aload_n hx hb dX5_drawAnew_301 rfl (lv_at hl 0 rfl) ?_
                      refine lv_dup hx hb dX5_drawAnew_302 rfl ?_
                      refine va_get (D := D) (ci := 7) (v := .int (M7.1 0 13)) (C := RX5) (T := TX5) (N := 23) hx hb hts inX5 hown hK hP 0 (fl_at (by decide) rfl) rfl 13 (by decide) (hts (.fieldLink RX5 72 "ResampledRowsModel" "anew" "I") (by decide +kernel)) (fun _ h9 => h9) rfl dX5_drawAnew_303 ?_
                      refine fl_ti (y := nI (r_an α.2.2)) ha7 ?_
                      refine lv_iconst (v := 1) hx hb dX5_drawAnew_306 (by decide) ?_
                      refine lv_iadd hx hb dX5_drawAnew_307 ?_
                      refine fl_ti (y := nI (r_an α.2.2 + 1)) (nI_1 _) ?_
                      refine fl_put (ci := 7) (ty := .int) (v := .int (nI (r_an α.2.2 + 1))) (C := RX5) (T := TX5) (Nf := 23) hx hb hts inX5 tyX5 tyX5_ok nmX5 hown hK hJ hP hS 0 (by decide) (fl_sI (fl_sI (fl_sI M7 0 14 (a_oI (a_kp (r_kp α.2.2) (a_ord tt (r_n α.2.2)) (r_n α.2.2)) (-1000009))) 0 17 1) 0 13 (nI (r_an α.2.2 + 1))) rfl rfl 13 (by decide) (hts (.fieldLink RX5 72 "ResampledRowsModel" "anew" "I") (by decide +kernel)) (fun _ h9 => h9) rfl (by decide +kernel) rfl rfl (Nat.le_of_ble_eq_true rfl) rfl (fl_sI_o (fm_loc cI cJ ad) _ _ _ _) dX5_drawAnew_308 (fun H locs hP hS => ?_)
                      refine lv_aload_n hx hb dX5_drawAnew_311 rfl (lv_at hl 0 rfl) ?_
                      refine lv_dup hx hb dX5_drawAnew_312 rfl ?_
                      refine va_get (D := D) (ci := 7) (v := .double (M7.2.2.1 0)) (C := RX5) (T := TX5) (N := 23) hx hb hts inX5 hown hK hP 0 (fl_at (by decide) rfl) rfl 15 (by decide) (hts (.fieldLink RX5 115 "ResampledRowsModel" "product" "D") (by decide +kernel)) (fun _ h9 => h9) rfl dX5_drawAnew_313 ?_
                      refine lv_lload_n hx hb dX5_drawAnew_316 rfl (lv_at hl 1 rfl) ?_
                      refine lv_l2d hx hb dX5_drawAnew_317 ?_
                      refine lv_aload_n hx hb dX5_drawAnew_318 rfl (lv_at hl 0 rfl) ?_
                      refine va_get (D := D) (ci := 7) (v := .int (M7.1 0 7)) (C := RX5) (T := TX5) (N := 23) hx hb hts inX5 hown hK hP 0 (fl_at (by decide) rfl) rfl 7 (by decide) (hts (.fieldLink RX5 66 "ResampledRowsModel" "rows" "I") (by decide +kernel)) (fun _ h9 => h9) rfl dX5_drawAnew_319 ?_
                      refine fl_ti (y := nI (r_n α.2.2)) hn7 ?_
                      refine lv_i2d hx hb dX5_drawAnew_322 ?_
                      refine lv_ddiv_any hd0 lw_bits hx hb dX5_drawAnew_323 (fun x1 d1 ha1 hd1 => ?_)
                      have hd0 := hd1
                      have hts := dr_words hts0 d1
                      refine lv_dmul_any hd0 lw_bits hx hb dX5_drawAnew_324 (fun x2 d2 ha2 hd2 => ?_)
                      have hd0 := hd2
                      have hts := dr_words hts0 d2
                      refine fl_put (ci := 7) (ty := .double) (v := .double x2) (C := RX5) (T := TX5) (Nf := 23) hx hb hts inX5 tyX5 tyX5_ok nmX5 hown hK hJ hP hS 0 (by decide) (fl_sG (fl_sI (fl_sI (fl_sI M7 0 14 (a_oI (a_kp (r_kp α.2.2) (a_ord tt (r_n α.2.2)) (r_n α.2.2)) (-1000009))) 0 17 1) 0 13 (nI (r_an α.2.2 + 1))) 0 x2) rfl rfl 15 (by decide) (hts (.fieldLink RX5 115 "ResampledRowsModel" "product" "D") (by decide +kernel)) (fun _ h9 => h9) rfl (by decide +kernel) rfl rfl (Nat.le_of_ble_eq_true rfl) rfl (fl_sG_o (fm_loc cI cJ ad) _ _ _) dX5_drawAnew_325 (fun H locs hP hS => ?_)
                      refine lv_iload hx hb dX5_drawAnew_328 (lv_at hl 2 rfl) ?_
                      refine fl_ti (y := nI (a_unl tt (r_n α.2.2))) (by rw [hu, e139]) ?_
                      refine W.endD hd0 ?_
                      exact W.iret (v := nI (a_unl tt (r_n α.2.2))) hx hb hr (fun t ht hW => ⟨⟨nI (a_unl tt (r_n α.2.2)), (fl_sG (fl_sI (fl_sI (fl_sI M7 0 14 (a_oI (a_kp (r_kp α.2.2) (a_ord tt (r_n α.2.2)) (r_n α.2.2)) (-1000009))) 0 17 1) 0 13 (nI (r_an α.2.2 + 1))) 0 x2), rfl, (by rw [ho]; exact ⟨rfl, fm_DA_E hT9 hR9 hD9 hn0 han hsum h5N he5 h6N he6 hDAn (al_trans ha2 (al_mul (by rw [show M7.2.2.1 0 = M9.2.2.1 0 from ((hDAn.2.2.2.2 0 15 (by omega)).2.2 rfl).trans (((he6 0 15 (by decide : (0 : Nat) ≠ 13)).2.2 rfl).trans ((he5 0 15 (by decide : (0 : Nat) ≠ 14)).2.2 rfl))]; exact hR9.2.2.2.2.1 hn0) ha1)) rfl⟩), fl_qi ht hP⟩, hS.F ht⟩) hS.2.2 dX5_drawAnew_330
                    · have l139 : i < r_n α.2.2 := Nat.lt_of_not_le (fun q => hc139 ((nI_leI (by omega) (by omega)).mpr q))
                      have hti := hrow9 i l139
                      have ht7 : M7.1 12 i = nI (tt i) := ((hDA.2.2.2.2 12 i (by omega)).1.trans (ht6 i)).trans hti.1
                      have hsm : a_sum tt (i + 1) ≤ a_sum tt (r_n α.2.2) := a_sum_mono _ l139
                      have hse : a_sum tt (i + 1) = a_sum tt i + tt i := rfl
                      refine lv_iload hx hb dX5_drawAnew_142 (lv_at hl 2 rfl) ?_
                      refine lv_aload_n hx hb dX5_drawAnew_144 rfl (lv_at hl 0 rfl) ?_
                      refine va_get (D := D) (ci := 7) (v := .ref (ad 12)) (C := RX5) (T := TX5) (N := 23) hx hb hts inX5 hown hK hP 0 (fl_at (by decide) rfl) rfl 20 (by decide) (hts (.fieldLink RX5 44 "ResampledRowsModel" "times" "[I") (by decide +kernel)) (fun _ h9 => h9) rfl dX5_drawAnew_145 ?_
                      refine lv_iload hx hb dX5_drawAnew_148 (lv_at hl 5 rfl) ?_
                      refine fl_ild (a := 12) (n := 16) (k := i) hx hb (by exact hK) hP (fl_at (by decide) rfl) (by rfl) rfl (by omega) (by decide) dX5_drawAnew_150 ?_
                      refine fl_ti (y := nI (tt i)) (by first | exact ht7 | rfl) ?_
                      suffices KJ159 : ∀ (cc : Int32) (hj159 : cc = nI (if 0 < tt i then 1 else 0)), W p l e (headSpec wsX5_drawAnew ({ frames := 3, cells := 0, slots := 0, locals := 80 } : Room)).room (s.setDrawn d0) m ([.ref (ad 0), .int (nI wy)] : List Value).toArray below meth c H locs 0 0 (MQD lw_cs below (va_Qi (fun r M2 => r = (o_anew α wy).1 ∧ fm_A (o_anew α wy).2 M2) (fmQ D cI cJ ad) (fl_A 15 ad)) ([.ref (ad 0), .int (nI wy)] : List Value).toArray s 0 0 (fl_A 15 ad)) (F0 m 159 ls (.int cc :: [.int (nI u)])) from (by
                        refine fl_ti (y := nI (tt i)) (by first | exact ht7 | rfl) ?_
                        refine lv_if_le (tgt := 158) hx hb dX5_drawAnew_151 (by decide) (fun hc151 => ?_) (fun hc151 => ?_)
                        · have g151 : tt i = 0 := fl_len0 (by omega) hc151
                          refine lv_iconst (v := 0) hx hb dX5_drawAnew_158 (by decide) ?_
                          exact KJ159 _ (by rw [if_neg (by omega)]; rfl)
                        · have g151 : 0 < tt i := fl_len1 (by omega) hc151
                          refine lv_iconst (v := 1) hx hb dX5_drawAnew_154 (by decide) ?_
                          refine lv_goto (tgt := 159) hx hb dX5_drawAnew_155 (by decide) ?_
                          exact KJ159 _ (by rw [if_pos g151]; rfl))
                      intro cc hj159
                      refine lv_iadd hx hb dX5_drawAnew_159 ?_
                      refine fl_ti (y := nI (a_unl tt (i + 1))) (by rw [hj159, hu]; exact nI_add _ _) ?_
                      refine lv_istore (lv' := [(4, .int (nI (a_unl tt (i + 1)))), (0, .ref (ad 0)), (2, .long (lN (a_sum (r_wt α.2.2) (r_n α.2.2)))), (5, .int (nI (a_sum tt i))), (6, .int z), (7, .int (nI i))]) hx hb dX5_drawAnew_160 hl (by decide) rfl (fun ls hl => ?_)
                      refine lv_iconst (v := 0) hx hb dX5_drawAnew_162 (by decide) ?_
                      refine lv_istore (lv' := [(8, .int 0), (4, .int (nI (a_unl tt (i + 1)))), (0, .ref (ad 0)), (2, .long (lN (a_sum (r_wt α.2.2) (r_n α.2.2)))), (5, .int (nI (a_sum tt i))), (6, .int z), (7, .int (nI i))]) hx hb dX5_drawAnew_163 hl (by decide) rfl (fun ls hl => ?_)
                      suffices KL165 : ∀ (f : Nat) (j : Nat) (M8 : fl_M) (z8 : Int32) (hj : j ≤ tt i) (hz8 : z8 = a_oI (a_kp (r_kp α.2.2) (a_ord tt (r_n α.2.2)) (a_sum tt i + j)) (-1000009)) (hD8 : fm_DA M6 (a_ord tt (r_n α.2.2)) (a_sum tt i + j) M8) (hf8 : tt i + 1 ≤ j + f) (d0 : Drawn) (hd0 : s.drawn.sameBut d0 lw_cs), ∀ (H : Heap) (locs : List Loc), va_P D vwCl (fmP cI cJ ad M8) H → va_S (fl_A 15 ad) s.heap H locs → ∀ (ls : Array Slot), lv_has ls 10 [(0, .ref (ad 0)), (2, .long (lN (a_sum (r_wt α.2.2) (r_n α.2.2)))), (4, .int (nI (a_unl tt (i + 1)))), (5, .int (nI (a_sum tt i + j))), (6, .int z8), (7, .int (nI i)), (8, .int (nI j))] → W p l e (headSpec wsX5_drawAnew ({ frames := 3, cells := 0, slots := 0, locals := 80 } : Room)).room (s.setDrawn d0) m ([.ref (ad 0), .int (nI wy)] : List Value).toArray below meth c H locs 0 0 (MQD lw_cs below (va_Qi (fun r M2 => r = (o_anew α wy).1 ∧ fm_A (o_anew α wy).2 M2) (fmQ D cI cJ ad) (fl_A 15 ad)) ([.ref (ad 0), .int (nI wy)] : List Value).toArray s 0 0 (fl_A 15 ad)) (F0 m 165 ls []) from KL165 (tt i + 1) 0 M7 z (Nat.zero_le _) hz hDA (by omega) _ hd0 _ _ hP hS ls (lv_sub hl [2, 3, 1, 4, 5, 6, 0] rfl)
                      intro f
                      induction f with
                      | zero =>
                        intro j M8 z8 hj hz8 hD8 hf8
                        omega
                      | succ f ih165 =>
                        intro j M8 z8 hj hz8 hD8 hf8 d0 hd0 H locs hP hS ls hl
                        have hts := dr_words hts0 d0
                        have ht8 : M8.1 12 i = nI (tt i) := ((hD8.2.2.2.2 12 i (by omega)).1.trans (ht6 i)).trans hti.1
                        have hk8 : M8.1 0 14 = a_oI (r_kp α.2.2) (-1000009) := ((hD8.2.2.2.2 0 14 (by omega)).1.trans (h06 14)).trans hR9.2.2.2.1.1
                        refine lv_iload hx hb dX5_drawAnew_165 (lv_at hl 6 rfl) ?_
                        refine lv_aload_n hx hb dX5_drawAnew_167 rfl (lv_at hl 0 rfl) ?_
                        refine va_get (D := D) (ci := 7) (v := .ref (ad 12)) (C := RX5) (T := TX5) (N := 23) hx hb hts inX5 hown hK hP 0 (fl_at (by decide) rfl) rfl 20 (by decide) (hts (.fieldLink RX5 44 "ResampledRowsModel" "times" "[I") (by decide +kernel)) (fun _ h9 => h9) rfl dX5_drawAnew_168 ?_
                        refine lv_iload hx hb dX5_drawAnew_171 (lv_at hl 5 rfl) ?_
                        refine fl_ild (a := 12) (n := 16) (k := i) hx hb (by exact hK) hP (fl_at (by decide) rfl) (by rfl) rfl (by omega) (by decide) dX5_drawAnew_173 ?_
                        refine fl_ti (y := nI (tt i)) ht8 ?_
                        refine lv_icmp_ge (tgt := 284) hx hb dX5_drawAnew_174 (by decide) (fun hc174 => ?_) (fun hc174 => ?_)
                        · have e174 : j = tt i := Nat.le_antisymm hj ((nI_leI (by omega) (by omega)).mp hc174)
                          have hl : lv_has ls 10 [(0, .ref (ad 0)), (2, .long (lN (a_sum (r_wt α.2.2) (r_n α.2.2)))), (4, .int (nI (a_unl tt (i + 1)))), (5, .int (nI (a_sum tt (i + 1)))), (6, .int z8), (7, .int (nI i))] := by
                            have h7 : lv_has ls 10 [(0, .ref (ad 0)), (2, .long (lN (a_sum (r_wt α.2.2) (r_n α.2.2)))), (4, .int (nI (a_unl tt (i + 1)))), (5, .int (nI (a_sum tt i + j))), (6, .int z8), (7, .int (nI i))] := lv_sub hl [0, 1, 2, 3, 4, 5] rfl
                            rw [e174] at h7
                            exact h7
                          refine lv_iinc (v := nI (i + 1)) (lv' := [(7, .int (nI (i + 1))), (0, .ref (ad 0)), (2, .long (lN (a_sum (r_wt α.2.2) (r_n α.2.2)))), (4, .int (nI (a_unl tt (i + 1)))), (5, .int (nI (a_sum tt (i + 1)))), (6, .int z8)]) hx hb dX5_drawAnew_284 hl (k := 5) rfl (fl_inc i) (by decide) rfl (fun ls hl => ?_)
                          refine lv_goto (tgt := 133) hx hb dX5_drawAnew_287 (by decide) ?_
                          exact ih133 (i + 1) M8 (a_unl tt (i + 1)) z8 (by omega) rfl (by rw [e174] at hz8; exact hz8) (by rw [e174] at hD8; exact hD8) (by omega) _ hd0 _ _ hP hS ls (lv_sub hl [1, 2, 3, 4, 5, 0] rfl)
                        · have l174 : j < tt i := Nat.lt_of_not_le (fun q => hc174 ((nI_leI (by omega) (by omega)).mpr q))
                          have hox : (a_ord tt (r_n α.2.2)) (a_sum tt i + j) = i := a_ord_eq (by omega) (by omega) l139
                          refine lv_aload_n hx hb dX5_drawAnew_177 rfl (lv_at hl 0 rfl) ?_
                          refine va_get (D := D) (ci := 7) (v := .ref (ad 9)) (C := RX5) (T := TX5) (N := 23) hx hb hts inX5 hown hK hP 0 (fl_at (by decide) rfl) rfl 16 (by decide) (hts (.fieldLink RX5 35 "ResampledRowsModel" "froms" "[I") (by decide +kernel)) (fun _ h9 => h9) rfl dX5_drawAnew_178 ?_
                          refine lv_iload hx hb dX5_drawAnew_181 (lv_at hl 3 rfl) ?_
                          refine lv_iload hx hb dX5_drawAnew_183 (lv_at hl 5 rfl) ?_
                          refine fl_ist (a := 9) (n := 16) (k := (a_sum tt i + j)) (x := nI i) hx hb (by exact hK) hJ hP hS (fm_loc cI cJ ad) (fl_at (by decide) rfl) rfl (by rfl) rfl (by omega) (by decide) dX5_drawAnew_185 (fun H locs hP hS => ?_)
                          refine lv_iload hx hb dX5_drawAnew_186 (lv_at hl 5 rfl) ?_
                          refine lv_aload_n hx hb dX5_drawAnew_188 rfl (lv_at hl 0 rfl) ?_
                          refine va_get (D := D) (ci := 7) (v := .int (M8.1 0 14)) (C := RX5) (T := TX5) (N := 23) hx hb hts inX5 hown hK hP 0 (fl_at (by decide) rfl) rfl 14 (by decide) (hts (.fieldLink RX5 76 "ResampledRowsModel" "kept" "I") (by decide +kernel)) (fun _ h9 => h9) rfl dX5_drawAnew_189 ?_
                          refine fl_ti (y := a_oI (r_kp α.2.2) (-1000009)) hk8 ?_
                          suffices KJ209 : ∀ (zn : Int32) (hj209 : zn = a_oI (a_kp (r_kp α.2.2) (a_ord tt (r_n α.2.2)) (a_sum tt i + j + 1)) (-1000009)), W p l e (headSpec wsX5_drawAnew ({ frames := 3, cells := 0, slots := 0, locals := 80 } : Room)).room (s.setDrawn d0) m ([.ref (ad 0), .int (nI wy)] : List Value).toArray below meth c H locs 0 0 (MQD lw_cs below (va_Qi (fun r M2 => r = (o_anew α wy).1 ∧ fm_A (o_anew α wy).2 M2) (fmQ D cI cJ ad) (fl_A 15 ad)) ([.ref (ad 0), .int (nI wy)] : List Value).toArray s 0 0 (fl_A 15 ad)) (F0 m 209 ls (.int zn :: [])) from (by
                            refine lv_icmp_ne (tgt := 207) hx hb dX5_drawAnew_192 (by decide) (fun hc192 => ?_) (fun hc192 => ?_)
                            · refine lv_iload hx hb dX5_drawAnew_207 (lv_at hl 4 rfl) ?_
                              exact KJ209 _ (by rw [kp_ne (by omega) hox hc192]; exact hz8)
                            · refine lv_iload hx hb dX5_drawAnew_195 (lv_at hl 4 rfl) ?_
                              refine lv_ldc (v := -1000009) hx hb hown (hts (.constant RX5 75 (-1000009)) (by decide +kernel)) dX5_drawAnew_197 ?_
                              refine lv_icmp_ne (tgt := 207) hx hb dX5_drawAnew_199 (by decide) (fun hc199 => ?_) (fun hc199 => ?_)
                              · refine lv_iload hx hb dX5_drawAnew_207 (lv_at hl 4 rfl) ?_
                                exact KJ209 _ (by rw [kp_some hz8 hc199]; exact hz8)
                              · refine lv_iload hx hb dX5_drawAnew_202 (lv_at hl 3 rfl) ?_
                                refine lv_goto (tgt := 209) hx hb dX5_drawAnew_204 (by decide) ?_
                                exact KJ209 _ ((kp_new hR.2.2.2.1.2 hR.1.1 (by omega) hox hc192 hz8 hc199 (by omega)).symm))
                          intro zn hj209
                          refine lv_istore (lv' := [(6, .int zn), (0, .ref (ad 0)), (2, .long (lN (a_sum (r_wt α.2.2) (r_n α.2.2)))), (4, .int (nI (a_unl tt (i + 1)))), (5, .int (nI (a_sum tt i + j))), (7, .int (nI i)), (8, .int (nI j))]) hx hb dX5_drawAnew_209 hl (by decide) rfl (fun ls hl => ?_)
                          refine lv_aload_n hx hb dX5_drawAnew_211 rfl (lv_at hl 1 rfl) ?_
                          refine va_get (D := D) (ci := 7) (v := .ref (ad 6)) (C := RX5) (T := TX5) (N := 23) hx hb hts inX5 hown hK hP 0 (fl_at (by decide) rfl) rfl 9 (by decide) (hts (.fieldLink RX5 25 "ResampledRowsModel" "states" "[I") (by decide +kernel)) (fun _ h9 => h9) rfl dX5_drawAnew_212 ?_
                          refine lv_iload hx hb dX5_drawAnew_215 (lv_at hl 4 rfl) ?_
                          refine lv_aload_n hx hb dX5_drawAnew_217 rfl (lv_at hl 1 rfl) ?_
                          refine va_get (D := D) (ci := 7) (v := .ref (ad 13)) (C := RX5) (T := TX5) (N := 23) hx hb hts inX5 hown hK hP 0 (fl_at (by decide) rfl) rfl 21 (by decide) (hts (.fieldLink RX5 47 "ResampledRowsModel" "oldStates" "[I") (by decide +kernel)) (fun _ h9 => h9) rfl dX5_drawAnew_218 ?_
                          refine lv_iload hx hb dX5_drawAnew_221 (lv_at hl 5 rfl) ?_
                          refine fl_ild (a := 13) (n := 16) (k := i) hx hb (by exact hK) hP (fl_at (by decide) rfl) (by rfl) rfl (by omega) (by decide) dX5_drawAnew_223 ?_
                          refine fl_ti (y := M8.1 13 i) rfl ?_
                          refine fl_ist (a := 6) (n := 16) (k := (a_sum tt i + j)) (x := M8.1 13 i) hx hb (by exact hK) hJ hP hS (fm_loc cI cJ ad) (fl_at (by decide) rfl) rfl (by rfl) rfl (by omega) (by decide) dX5_drawAnew_224 (fun H locs hP hS => ?_)
                          refine lv_aload_n hx hb dX5_drawAnew_225 rfl (lv_at hl 1 rfl) ?_
                          refine va_get (D := D) (ci := 7) (v := .ref (ad 7)) (C := RX5) (T := TX5) (N := 23) hx hb hts inX5 hown hK hP 0 (fl_at (by decide) rfl) rfl 10 (by decide) (hts (.fieldLink RX5 28 "ResampledRowsModel" "weights" "[J") (by decide +kernel)) (fun _ h9 => h9) rfl dX5_drawAnew_226 ?_
                          refine lv_iload hx hb dX5_drawAnew_229 (lv_at hl 4 rfl) ?_
                          refine lv_lconst (v := 1) hx hb dX5_drawAnew_231 (by decide) ?_
                          refine fl_jst (a := 7) (n := 16) (k := (a_sum tt i + j)) (x := 1) hx hb (by exact hK) hJ hP hS (fm_loc cI cJ ad) (fl_at (by decide) rfl) rfl (by rfl) rfl (by omega) (by decide) dX5_drawAnew_232 (fun H locs hP hS => ?_)
                          refine lv_iconst (v := 0) hx hb dX5_drawAnew_233 (by decide) ?_
                          refine lv_istore (lv' := [(9, .int 0), (6, .int zn), (0, .ref (ad 0)), (2, .long (lN (a_sum (r_wt α.2.2) (r_n α.2.2)))), (4, .int (nI (a_unl tt (i + 1)))), (5, .int (nI (a_sum tt i + j))), (7, .int (nI i)), (8, .int (nI j))]) hx hb dX5_drawAnew_234 hl (by decide) rfl (fun ls hl => ?_)
                          suffices KL236 : ∀ (f : Nat) (y : Nat) (M10 : fl_M) (hy : y ≤ 31) (hY : ∀ w, w < y → M10.1 8 (31 * (a_sum tt i + j) + w) = M6.1 14 (31 * i + w)) (hC : fp (fun c k => ¬ (c = 8 ∧ 31 * (a_sum tt i + j) ≤ k ∧ k < 31 * (a_sum tt i + j) + 31)) (fl_sJ (fl_sI (fl_sI M8 9 (a_sum tt i + j) (nI i)) 6 (a_sum tt i + j) (M8.1 13 i)) 7 (a_sum tt i + j) 1) M10) (hf10 : 31 + 1 ≤ y + f) (d0 : Drawn) (hd0 : s.drawn.sameBut d0 lw_cs), ∀ (H : Heap) (locs : List Loc), va_P D vwCl (fmP cI cJ ad M10) H → va_S (fl_A 15 ad) s.heap H locs → ∀ (ls : Array Slot), lv_has ls 10 [(0, .ref (ad 0)), (2, .long (lN (a_sum (r_wt α.2.2) (r_n α.2.2)))), (4, .int (nI (a_unl tt (i + 1)))), (5, .int (nI (a_sum tt i + j))), (6, .int zn), (7, .int (nI i)), (8, .int (nI j)), (9, .int (nI y))] → W p l e (headSpec wsX5_drawAnew ({ frames := 3, cells := 0, slots := 0, locals := 80 } : Room)).room (s.setDrawn d0) m ([.ref (ad 0), .int (nI wy)] : List Value).toArray below meth c H locs 0 0 (MQD lw_cs below (va_Qi (fun r M2 => r = (o_anew α wy).1 ∧ fm_A (o_anew α wy).2 M2) (fmQ D cI cJ ad) (fl_A 15 ad)) ([.ref (ad 0), .int (nI wy)] : List Value).toArray s 0 0 (fl_A 15 ad)) (F0 m 236 ls []) from KL236 (31 + 1) 0 (fl_sJ (fl_sI (fl_sI M8 9 (a_sum tt i + j) (nI i)) 6 (a_sum tt i + j) (M8.1 13 i)) 7 (a_sum tt i + j) 1) (Nat.zero_le _) (fun k hk => absurd hk (Nat.not_lt_zero k)) fp.rf (by omega) _ hd0 _ _ hP hS ls (lv_sub hl [2, 3, 4, 5, 1, 6, 7, 0] rfl)
                          intro f
                          induction f with
                          | zero =>
                            intro y M10 hy hY hC hf10
                            omega
                          | succ f ih236 =>
                            intro y M10 hy hY hC hf10 d0 hd0 H locs hP hS ls hl
                            have hts := dr_words hts0 d0
                            have h1410 : ∀ k, M10.1 14 k = M6.1 14 k := fun k => (hC 14 k (by omega)).1.trans (hD8.2.2.2.2 14 k (by omega)).1
                            refine lv_iload hx hb dX5_drawAnew_236 (lv_at hl 7 rfl) ?_
                            refine lv_bipush (v := 31) hx hb dX5_drawAnew_238 (by decide) ?_
                            refine fl_ti (y := nI 31) rfl ?_
                            refine lv_icmp_ge (tgt := 275) hx hb dX5_drawAnew_240 (by decide) (fun hc240 => ?_) (fun hc240 => ?_)
                            · have e240 : y = 31 := Nat.le_antisymm hy ((nI_leI (by omega) (by omega)).mp hc240)
                              refine lv_iinc (v := nI ((a_sum tt i + j) + 1)) (lv' := [(5, .int (nI ((a_sum tt i + j) + 1))), (0, .ref (ad 0)), (2, .long (lN (a_sum (r_wt α.2.2) (r_n α.2.2)))), (4, .int (nI (a_unl tt (i + 1)))), (6, .int zn), (7, .int (nI i)), (8, .int (nI j)), (9, .int (nI y))]) hx hb dX5_drawAnew_275 hl (k := 3) rfl (fl_inc (a_sum tt i + j)) (by decide) rfl (fun ls hl => ?_)
                              refine lv_iinc (v := nI (j + 1)) (lv' := [(8, .int (nI (j + 1))), (5, .int (nI ((a_sum tt i + j) + 1))), (0, .ref (ad 0)), (2, .long (lN (a_sum (r_wt α.2.2) (r_n α.2.2)))), (4, .int (nI (a_unl tt (i + 1)))), (6, .int zn), (7, .int (nI i)), (9, .int (nI y))]) hx hb dX5_drawAnew_278 hl (k := 6) rfl (fl_inc j) (by decide) rfl (fun ls hl => ?_)
                              refine lv_goto (tgt := 165) hx hb dX5_drawAnew_281 (by decide) ?_
                              exact ih165 (j + 1) M10 zn (by omega) hj209 (fm_DA_s hD8 hox hC (e240 ▸ hY)) (by omega) _ hd0 _ _ hP hS ls (lv_sub hl [2, 3, 4, 1, 5, 6, 0] rfl)
                            · have l240 : y < 31 := Nat.lt_of_not_le (fun q => hc240 ((nI_leI (by omega) (by omega)).mpr q))
                              refine lv_aload_n hx hb dX5_drawAnew_243 rfl (lv_at hl 0 rfl) ?_
                              refine va_get (D := D) (ci := 7) (v := .ref (ad 8)) (C := RX5) (T := TX5) (N := 23) hx hb hts inX5 hown hK hP 0 (fl_at (by decide) rfl) rfl 11 (by decide) (hts (.fieldLink RX5 32 "ResampledRowsModel" "histories" "[I") (by decide +kernel)) (fun _ h9 => h9) rfl dX5_drawAnew_244 ?_
                              refine lv_bipush (v := 31) hx hb dX5_drawAnew_247 (by decide) ?_
                              refine lv_iload hx hb dX5_drawAnew_249 (lv_at hl 3 rfl) ?_
                              refine lv_imul hx hb dX5_drawAnew_251 ?_
                              refine fl_ti (y := nI (31 * (a_sum tt i + j))) (pk_mul 31 _) ?_
                              refine lv_iload hx hb dX5_drawAnew_252 (lv_at hl 7 rfl) ?_
                              refine lv_iadd hx hb dX5_drawAnew_254 ?_
                              refine fl_ti (y := nI (31 * (a_sum tt i + j) + y)) (nI_add _ _) ?_
                              refine lv_aload_n hx hb dX5_drawAnew_255 rfl (lv_at hl 0 rfl) ?_
                              refine va_get (D := D) (ci := 7) (v := .ref (ad 14)) (C := RX5) (T := TX5) (N := 23) hx hb hts inX5 hown hK hP 0 (fl_at (by decide) rfl) rfl 22 (by decide) (hts (.fieldLink RX5 50 "ResampledRowsModel" "oldHistories" "[I") (by decide +kernel)) (fun _ h9 => h9) rfl dX5_drawAnew_256 ?_
                              refine lv_bipush (v := 31) hx hb dX5_drawAnew_259 (by decide) ?_
                              refine lv_iload hx hb dX5_drawAnew_261 (lv_at hl 5 rfl) ?_
                              refine lv_imul hx hb dX5_drawAnew_263 ?_
                              refine fl_ti (y := nI (31 * i)) (pk_mul 31 _) ?_
                              refine lv_iload hx hb dX5_drawAnew_264 (lv_at hl 7 rfl) ?_
                              refine lv_iadd hx hb dX5_drawAnew_266 ?_
                              refine fl_ti (y := nI (31 * i + y)) (nI_add _ _) ?_
                              refine fl_ild (a := 14) (n := 496) (k := (31 * i + y)) hx hb (by exact hK) hP (fl_at (by decide) rfl) (by rfl) rfl (by omega) (by decide) dX5_drawAnew_267 ?_
                              refine fl_ist (a := 8) (n := 496) (k := (31 * (a_sum tt i + j) + y)) (x := M10.1 14 (31 * i + y)) hx hb (by exact hK) hJ hP hS (fm_loc cI cJ ad) (fl_at (by decide) rfl) rfl (by rfl) rfl (by omega) (by decide) dX5_drawAnew_268 (fun H locs hP hS => ?_)
                              refine lv_iinc (v := nI (y + 1)) (lv' := [(9, .int (nI (y + 1))), (0, .ref (ad 0)), (2, .long (lN (a_sum (r_wt α.2.2) (r_n α.2.2)))), (4, .int (nI (a_unl tt (i + 1)))), (5, .int (nI (a_sum tt i + j))), (6, .int zn), (7, .int (nI i)), (8, .int (nI j))]) hx hb dX5_drawAnew_269 hl (k := 7) rfl (fl_inc y) (by decide) rfl (fun ls hl => ?_)
                              refine lv_goto (tgt := 236) hx hb dX5_drawAnew_272 (by decide) ?_
                              exact ih236 (y + 1) (fl_sI M10 8 (31 * (a_sum tt i + j) + y) (M10.1 14 (31 * i + y))) (by omega) (fm_cp8 hY (h1410 _)) (hC.sI (by omega) _) (by omega) _ hd0 _ _ hP hS ls (lv_sub hl [1, 2, 3, 4, 5, 6, 7, 0] rfl)
                · have l97 : i3 < r_n α.2.2 := Nat.lt_of_not_le (fun q => hc97 ((nI_leI (by omega) (by omega)).mpr q))
                  refine lv_aload_n hx hb dX5_drawAnew_100 rfl (lv_at hl 0 rfl) ?_
                  refine va_get (D := D) (ci := 7) (v := .ref (ad 13)) (C := RX5) (T := TX5) (N := 23) hx hb hts inX5 hown hK hP 0 (fl_at (by decide) rfl) rfl 21 (by decide) (hts (.fieldLink RX5 47 "ResampledRowsModel" "oldStates" "[I") (by decide +kernel)) (fun _ h9 => h9) rfl dX5_drawAnew_101 ?_
                  refine lv_iload hx hb dX5_drawAnew_104 (lv_at hl 2 rfl) ?_
                  refine lv_aload_n hx hb dX5_drawAnew_106 rfl (lv_at hl 0 rfl) ?_
                  refine va_get (D := D) (ci := 7) (v := .ref (ad 6)) (C := RX5) (T := TX5) (N := 23) hx hb hts inX5 hown hK hP 0 (fl_at (by decide) rfl) rfl 9 (by decide) (hts (.fieldLink RX5 25 "ResampledRowsModel" "states" "[I") (by decide +kernel)) (fun _ h9 => h9) rfl dX5_drawAnew_107 ?_
                  refine lv_iload hx hb dX5_drawAnew_110 (lv_at hl 2 rfl) ?_
                  refine fl_ild (a := 6) (n := 16) (k := i3) hx hb (by exact hK) hP (fl_at (by decide) rfl) (by rfl) rfl (by omega) (by decide) dX5_drawAnew_112 ?_
                  refine fl_ti (y := M5.1 6 i3) ((he6 6 i3 (by decide : (6 : Nat) ≠ 13)).1) ?_
                  refine fl_ist (a := 13) (n := 16) (k := i3) (x := M5.1 6 i3) hx hb (by exact hK) hJ hP hS (fm_loc cI cJ ad) (fl_at (by decide) rfl) rfl (by rfl) rfl (by omega) (by decide) dX5_drawAnew_113 (fun H locs hP hS => ?_)
                  refine lv_iinc (v := nI (i3 + 1)) (lv' := [(4, .int (nI (i3 + 1))), (0, .ref (ad 0)), (2, .long (lN (a_sum (r_wt α.2.2) (r_n α.2.2))))]) hx hb dX5_drawAnew_114 hl (k := 2) rfl (fl_inc i3) (by decide) rfl (fun ls hl => ?_)
                  refine lv_goto (tgt := 91) hx hb dX5_drawAnew_117 (by decide) ?_
                  exact ih91 (i3 + 1) (fl_sI M6 13 i3 (M5.1 6 i3)) (by omega) (fm_cp h6 rfl) (he6.sI (fun z => z rfl) _) (by omega) _ hd0 _ _ hP hS ls (lv_sub hl [1, 2, 0] rfl)
            · have l65 : i2 < 496 := Nat.lt_of_not_le (fun q => hc65 ((nI_leI (by omega) (by omega)).mpr q))
              refine lv_aload_n hx hb dX5_drawAnew_68 rfl (lv_at hl 0 rfl) ?_
              refine va_get (D := D) (ci := 7) (v := .ref (ad 14)) (C := RX5) (T := TX5) (N := 23) hx hb hts inX5 hown hK hP 0 (fl_at (by decide) rfl) rfl 22 (by decide) (hts (.fieldLink RX5 50 "ResampledRowsModel" "oldHistories" "[I") (by decide +kernel)) (fun _ h9 => h9) rfl dX5_drawAnew_69 ?_
              refine lv_iload hx hb dX5_drawAnew_72 (lv_at hl 2 rfl) ?_
              refine lv_aload_n hx hb dX5_drawAnew_74 rfl (lv_at hl 0 rfl) ?_
              refine va_get (D := D) (ci := 7) (v := .ref (ad 8)) (C := RX5) (T := TX5) (N := 23) hx hb hts inX5 hown hK hP 0 (fl_at (by decide) rfl) rfl 11 (by decide) (hts (.fieldLink RX5 32 "ResampledRowsModel" "histories" "[I") (by decide +kernel)) (fun _ h9 => h9) rfl dX5_drawAnew_75 ?_
              refine lv_iload hx hb dX5_drawAnew_78 (lv_at hl 2 rfl) ?_
              refine fl_ild (a := 8) (n := 496) (k := i2) hx hb (by exact hK) hP (fl_at (by decide) rfl) (by rfl) rfl (by omega) (by decide) dX5_drawAnew_80 ?_
              refine fl_ti (y := M9.1 8 i2) ((he5 8 i2 (by decide : (8 : Nat) ≠ 14)).1) ?_
              refine fl_ist (a := 14) (n := 496) (k := i2) (x := M9.1 8 i2) hx hb (by exact hK) hJ hP hS (fm_loc cI cJ ad) (fl_at (by decide) rfl) rfl (by rfl) rfl (by omega) (by decide) dX5_drawAnew_81 (fun H locs hP hS => ?_)
              refine lv_iinc (v := nI (i2 + 1)) (lv' := [(4, .int (nI (i2 + 1))), (0, .ref (ad 0)), (2, .long (lN (a_sum (r_wt α.2.2) (r_n α.2.2))))]) hx hb dX5_drawAnew_82 hl (k := 2) rfl (fl_inc i2) (by decide) rfl (fun ls hl => ?_)
              refine lv_goto (tgt := 60) hx hb dX5_drawAnew_85 (by decide) ?_
              exact ih60 (i2 + 1) (fl_sI M5 14 i2 (M9.1 8 i2)) (by omega) (fm_cp h5 rfl) (he5.sI (fun z => z rfl) _) (by omega) _ hd0 _ _ hP hS ls (lv_sub hl [1, 2, 0] rfl)
      · have l21 : i0 < 16 := Nat.lt_of_not_le (fun q => hc21 ((nI_leI (by omega) (by omega)).mpr q))
        refine lv_aload_n hx hb dX5_drawAnew_24 rfl (lv_at hl 0 rfl) ?_
        refine va_get (D := D) (ci := 7) (v := .ref (ad 12)) (C := RX5) (T := TX5) (N := 23) hx hb hts inX5 hown hK hP 0 (fl_at (by decide) rfl) rfl 20 (by decide) (hts (.fieldLink RX5 44 "ResampledRowsModel" "times" "[I") (by decide +kernel)) (fun _ h9 => h9) rfl dX5_drawAnew_25 ?_
        refine lv_iload hx hb dX5_drawAnew_28 (lv_at hl 3 rfl) ?_
        refine lv_iconst (v := 0) hx hb dX5_drawAnew_30 (by decide) ?_
        refine fl_ist (a := 12) (n := 16) (k := i0) (x := 0) hx hb (by exact hK) hJ hP hS (fm_loc cI cJ ad) (fl_at (by decide) rfl) rfl (by rfl) rfl (by omega) (by decide) dX5_drawAnew_31 (fun H locs hP hS => ?_)
        refine lv_iinc (v := nI (i0 + 1)) (lv' := [(4, .int (nI (i0 + 1))), (0, .ref (ad 0)), (1, .int (nI wy)), (2, .long (lN (a_sum (r_wt α.2.2) (r_n α.2.2))))]) hx hb dX5_drawAnew_32 hl (k := 3) rfl (fl_inc i0) (by decide) rfl (fun ls hl => ?_)
        refine lv_goto (tgt := 17) hx hb dX5_drawAnew_35 (by decide) ?_
        exact ih17 (i0 + 1) (fl_sI M3 12 i0 0) (by omega) (fm_up h12) (he3.sI (fun z => z rfl) _) (by omega) _ hd0 _ _ hP hS ls (lv_sub hl [1, 2, 3, 0] rfl)
  · have hT0 : a_sum (r_wt α.2.2) (r_n α.2.2) = 0 := (pk_lEQ (b := 0) (by omega) (by decide)).mp hc7
    have ho : o_anew α wy = (-1000004, α) := by
      unfold o_anew a_anew
      rw [if_pos hT0]
    refine lv_ldc (v := -1000004) hx hb hown (hts (.constant RX5 114 (-1000004)) (by decide +kernel)) dX5_drawAnew_11 ?_
    refine W.endD hd0 ?_
    exact W.iret (v := (-1000004)) hx hb hr (fun t ht hW => ⟨⟨(-1000004), M, rfl, (by rw [ho]; exact ⟨rfl, hA⟩), fl_qi ht hP⟩, hS.F ht⟩) hS.2.2 dX5_drawAnew_13

set_option maxHeartbeats 4000000 in
set_option maxRecDepth 100000 in
theorem c_X5_again (l : Launch) {D : va_G} {cI cJ cII : ClassId} {ad : Nat → Nat} (hJ : fl_inj 15 ad) (M : fl_M) (α : a_A) (hA : fm_A α M) (han : r_an α.2.2 + 1 < 2 ^ 30) (x : Int32) : MetD lw_cs l yX5_again wsX5_again ({ frames := 4, cells := 0, slots := 0, locals := 109 } : Room) (fmPc D cI cJ cII ad M [.ref (ad 0), .int x]) (va_Qi (fun r M2 => r = (o_again α x).1 ∧ fm_A (o_again α x).2 M2) (fmQ D cI cJ ad) (fl_A 15 ad)) 0 0 (fl_A 15 ad) := by
  refine MetD.ofW (cc := cX5_again) (maxL := 2) (ret := (some .int)) (by decide) rfl ?_
  intro p e s m args below meth c s₁ B hml hv hd0
  obtain ⟨rfl, hP, hK, hN⟩ := hv
  have hx := B.exec
  have hb := B.bytes
  have hr := B.returns
  have hts0 := atoms_spec (ws := wsX5_again) B.pre
  have hts := dr_words hts0 s.drawn
  have hown : s.vm.findClass RX5 = some m.cls := findClass_of_methodNamed B.named
  have hlocks := B.notSynchronized
  have inX5 : ∀ w ∈ u_ws RX5 TX5 23, w ∈ wsX5_again := by decide +kernel
  have hS : va_S (fl_A 15 ad) s.heap s.heap [] := va_S.rf
  have hl := lv_entry ([.ref (ad 0), .int x] : List Value) (n := 2) (Nat.le_of_ble_eq_true rfl)
  rw [lg_entry_eq]
  generalize (lg_sl ([.ref (ad 0), .int x] : List Value) ++ List.replicate (2 - (lg_sl ([.ref (ad 0), .int x] : List Value)).length) Slot.unset).toArray = ls at hl ⊢
  have hl : lv_has ls 2 [(0, .ref (ad 0)), (1, .int x)] := hl
  have hd0 := hd0
  obtain ⟨hT, hQ, hsd, hR⟩ := id hA
  refine lv_aload_n hx hb dX5_again_0 rfl (lv_at hl 0 rfl) ?_
  refine va_get (D := D) (ci := 7) (v := .int (M.1 0 7)) (C := RX5) (T := TX5) (N := 23) hx hb hts inX5 hown hK hP 0 (fl_at (by decide) rfl) rfl 7 (by decide) (hts (.fieldLink RX5 66 "ResampledRowsModel" "rows" "I") (by decide +kernel)) (fun _ h9 => h9) rfl dX5_again_1 ?_
  refine fl_ti (y := nI (r_n α.2.2)) hR.1.2 ?_
  refine lv_if_ne (tgt := 10) hx hb dX5_again_4 (by decide) (fun hc4 => ?_) (fun hc4 => ?_)
  · have hn0 : ¬ r_n α.2.2 = 0 := fun z => hc4 (by rw [z]; rfl)
    refine lv_iload_n hx hb dX5_again_10 rfl (lv_at hl 1 rfl) ?_
    refine lv_iconst (v := 0) hx hb dX5_again_11 (by decide) ?_
    refine lv_iconst (v := 3) hx hb dX5_again_12 (by decide) ?_
    refine va_calli (va_runS (As := [.int x, .int 0, .int 3]) (rest := []) ⟨hx, hb, hml, hown, hts⟩ (c_X5_in l hJ M x 0 3) (va_cwS 3 hts gX5_again_X5_in rfl rfl rfl (by decide +kernel) ⟨Nat.le_of_ble_eq_true rfl, Nat.le_of_ble_eq_true rfl⟩) ⟨fl_blind, fl_pre hP hK hN⟩ rfl rfl hl.1 rfl (lv_room (Nat.le_of_ble_eq_true rfl)) dX5_again_13 ⟨Nat.le_of_ble_eq_true rfl, Nat.le_of_ble_eq_true rfl⟩) hS (fun _ _ h => h) (fun _ h => h) (fun r13 M13 t H1 locs ht hvm hw hB hz1 hk1 hS => ?_)
    have hP : va_P D vwCl (fmP cI cJ ad M13) H1 := by rw [← ht]; exact hB
    clear hB hk1 hz1 hvm ht t
    obtain ⟨rfl, hE⟩ := hw
    rw [hE] at hP
    refine fl_ti (y := a_b (a_ix x 4)) (a_in0 (n := 3) (by decide)) ?_
    rcases q1 : a_ix x 4 with _ | wy
    · refine fl_ti (y := 0) (by first | rfl | (rw [q1]; rfl)) ?_
      refine lv_if_eq (tgt := 27) hx hb dX5_again_16 (by decide) (fun _ => ?_) (fun hz => absurd (by decide) hz)
      refine lv_ldc (v := -1000002) hx hb hown (hts (.constant RX5 92 (-1000002)) (by decide +kernel)) dX5_again_27 ?_
      refine W.endD hd0 ?_
      exact W.iret (v := (-1000002)) hx hb hr (fun t ht hW => ⟨⟨(-1000002), M, rfl, (by have ho : o_again α x = ((-1000002), α) := (by unfold o_again; first | (rw [if_neg hn0, q1] <;> rfl) | (simp only [if_neg hn0, q1])); rw [ho]; exact ⟨rfl, hA⟩), fl_qi ht hP⟩, hS.F ht⟩) hS.2.2 dX5_again_29
    · obtain ⟨q1_1, q1_2, q1_3⟩ := a_ix_some q1
      refine fl_ti (y := 1) (by first | rfl | (rw [q1]; rfl)) ?_
      refine lv_if_eq (tgt := 27) hx hb dX5_again_16 (by decide) (fun hz => absurd hz (by decide)) (fun _ => ?_)
      refine lv_aload_n hx hb dX5_again_19 rfl (lv_at hl 0 rfl) ?_
      refine lv_iload_n hx hb dX5_again_20 rfl (lv_at hl 1 rfl) ?_
      refine fl_ti (y := nI wy) q1_2 ?_
      refine va_calliD hd0 (va_runV_D (As := [.int (nI wy)]) (rest := []) ⟨hx, hb, hml, hown, hts⟩ (c_X5_drawAnew l hJ M α hA hn0 han wy q1_1) (cwV 1 hts gX5_again_X5_drawAnew rfl rfl rfl (by decide +kernel) ⟨Nat.le_of_ble_eq_true rfl, Nat.le_of_ble_eq_true rfl⟩) ⟨fl_blind, va_recv hK hP (ci := 7) (q0 := 0) rfl (fl_at (by decide) rfl), fl_pre hP hK hN⟩ rfl rfl hl.1 rfl (lv_room (Nat.le_of_ble_eq_true rfl)) dX5_again_21 ⟨Nat.le_of_ble_eq_true rfl, Nat.le_of_ble_eq_true rfl⟩) hS (fun _ _ h => h) (fun _ h => h) (fun r21 M21 t H1 locs ht hvm hw hB hz1 hk1 hS d21 hd21 => ?_)
      have hP : va_P D vwCl (fmP cI cJ ad M21) H1 := by rw [← ht]; exact hB
      clear hB hk1 hz1 hvm ht t
      have hd0 := hd21
      have hts := dr_words hts0 d21
      obtain ⟨rfl, hA2⟩ := hw
      refine lv_goto (tgt := 29) hx hb dX5_again_24 (by decide) ?_
      refine W.endD hd0 ?_
      exact W.iret (v := (o_anew α wy).1) hx hb hr (fun t ht hW => ⟨⟨(o_anew α wy).1, M21, rfl, (by have ho : o_again α x = o_anew α wy := (by unfold o_again; first | (rw [if_neg hn0, q1] <;> rfl) | (simp only [if_neg hn0, q1])); rw [ho]; exact ⟨rfl, hA2⟩), fl_qi ht hP⟩, hS.F ht⟩) hS.2.2 dX5_again_29
  · have hn0 : r_n α.2.2 = 0 := (nI_eq (b := 0) (by have := hR.1.1; omega) (by decide)).mp hc4
    refine lv_ldc (v := -1000003) hx hb hown (hts (.constant RX5 119 (-1000003)) (by decide +kernel)) dX5_again_7 ?_
    refine W.endD hd0 ?_
    exact W.iret (v := (-1000003)) hx hb hr (fun t ht hW => ⟨⟨(-1000003), M, rfl, (by have ho : o_again α x = ((-1000003), α) := (by unfold o_again; first | (rw [if_pos hn0] <;> rfl) | (simp only [if_pos hn0])); rw [ho]; exact ⟨rfl, hA⟩), fl_qi ht hP⟩, hS.F ht⟩) hS.2.2 dX5_again_9

theorem fl_in100 {y : Int32} (h : ¬ ((1 : Int32) ≤ y ∧ y ≤ 100)) : y < 1 ∨ ¬ y ≤ 100 := by
  by_cases h1 : y ≤ 100
  · exact Or.inl (Int32.not_le.mp (fun q => h ⟨q, h1⟩))
  · exact Or.inr h1

set_option maxHeartbeats 4000000 in
set_option maxRecDepth 100000 in
theorem c_X5_rule (l : Launch) {D : va_G} {cI cJ cII : ClassId} {ad : Nat → Nat} (hJ : fl_inj 15 ad) (M : fl_M) (α : a_A) (hA : fm_A α M) (han : r_an α.2.2 + 1 < 2 ^ 30) (x y : Int32) : MetD lw_cs l yX5_rule wsX5_rule ({ frames := 4, cells := 0, slots := 0, locals := 109 } : Room) (fmPc D cI cJ cII ad M [.ref (ad 0), .int x, .int y]) (va_Qi (fun r M2 => r = (o_rule α x y).1 ∧ fm_A (o_rule α x y).2 M2) (fmQ D cI cJ ad) (fl_A 15 ad)) 0 0 (fl_A 15 ad) := by
  refine MetD.ofW (cc := cX5_rule) (maxL := 5) (ret := (some .int)) (by decide) rfl ?_
  intro p e s m args below meth c s₁ B hml hv hd0
  obtain ⟨rfl, hP, hK, hN⟩ := hv
  have hx := B.exec
  have hb := B.bytes
  have hr := B.returns
  have hts0 := atoms_spec (ws := wsX5_rule) B.pre
  have hts := dr_words hts0 s.drawn
  have hown : s.vm.findClass RX5 = some m.cls := findClass_of_methodNamed B.named
  have hlocks := B.notSynchronized
  have inX5 : ∀ w ∈ u_ws RX5 TX5 23, w ∈ wsX5_rule := by decide +kernel
  have hS : va_S (fl_A 15 ad) s.heap s.heap [] := va_S.rf
  have hl := lv_entry ([.ref (ad 0), .int x, .int y] : List Value) (n := 5) (Nat.le_of_ble_eq_true rfl)
  rw [lg_entry_eq]
  generalize (lg_sl ([.ref (ad 0), .int x, .int y] : List Value) ++ List.replicate (5 - (lg_sl ([.ref (ad 0), .int x, .int y] : List Value)).length) Slot.unset).toArray = ls at hl ⊢
  have hl : lv_has ls 5 [(0, .ref (ad 0)), (1, .int x), (2, .int y)] := hl
  have hd0 := hd0
  obtain ⟨hT, hQ, hsd, hR⟩ := id hA
  obtain ⟨b1, b2, b3⟩ := a_QJ_le hR.2.2.2.2.2.2.1 hR.1.1
  have hn16 := hR.1.1
  refine lv_aload_n hx hb dX5_rule_0 rfl (lv_at hl 0 rfl) ?_
  refine va_get (D := D) (ci := 7) (v := .int (M.1 0 7)) (C := RX5) (T := TX5) (N := 23) hx hb hts inX5 hown hK hP 0 (fl_at (by decide) rfl) rfl 7 (by decide) (hts (.fieldLink RX5 66 "ResampledRowsModel" "rows" "I") (by decide +kernel)) (fun _ h9 => h9) rfl dX5_rule_1 ?_
  refine fl_ti (y := nI (r_n α.2.2)) hR.1.2 ?_
  refine lv_if_ne (tgt := 10) hx hb dX5_rule_4 (by decide) (fun hc4 => ?_) (fun hc4 => ?_)
  · have hn0 : ¬ r_n α.2.2 = 0 := fun z => hc4 (by rw [z]; rfl)
    refine lv_iload_n hx hb dX5_rule_10 rfl (lv_at hl 1 rfl) ?_
    refine lv_iconst (v := 0) hx hb dX5_rule_11 (by decide) ?_
    refine lv_iconst (v := 3) hx hb dX5_rule_12 (by decide) ?_
    refine va_calli (va_runS (As := [.int x, .int 0, .int 3]) (rest := []) ⟨hx, hb, hml, hown, hts⟩ (c_X5_in l hJ M x 0 3) (va_cwS 3 hts gX5_rule_X5_in rfl rfl rfl (by decide +kernel) ⟨Nat.le_of_ble_eq_true rfl, Nat.le_of_ble_eq_true rfl⟩) ⟨fl_blind, fl_pre hP hK hN⟩ rfl rfl hl.1 rfl (lv_room (Nat.le_of_ble_eq_true rfl)) dX5_rule_13 ⟨Nat.le_of_ble_eq_true rfl, Nat.le_of_ble_eq_true rfl⟩) hS (fun _ _ h => h) (fun _ h => h) (fun r13 M13 t H1 locs ht hvm hw hB hz1 hk1 hS => ?_)
    have hP : va_P D vwCl (fmP cI cJ ad M13) H1 := by rw [← ht]; exact hB
    clear hB hk1 hz1 hvm ht t
    obtain ⟨rfl, hE⟩ := hw
    rw [hE] at hP
    refine fl_ti (y := a_b (a_ix x 4)) (a_in0 (n := 3) (by decide)) ?_
    rcases q1 : a_ix x 4 with _ | wy
    · refine fl_ti (y := 0) (by first | rfl | (rw [q1]; rfl)) ?_
      refine lv_if_eq (tgt := 29) hx hb dX5_rule_16 (by decide) (fun _ => ?_) (fun hz => absurd (by decide) hz)
      have ho := o_rule_out (y := y) hn0 (Or.inl q1)
      refine lv_ldc (v := -1000002) hx hb hown (hts (.constant RX5 92 (-1000002)) (by decide +kernel)) dX5_rule_29 ?_
      refine W.endD hd0 ?_
      exact W.iret (v := (-1000002)) hx hb hr (fun t ht hW => ⟨⟨(-1000002), M, rfl, (by rw [ho]; exact ⟨rfl, hA⟩), fl_qi ht hP⟩, hS.F ht⟩) hS.2.2 dX5_rule_31
    · obtain ⟨q1_1, q1_2, q1_3⟩ := a_ix_some q1
      refine fl_ti (y := 1) (by first | rfl | (rw [q1]; rfl)) ?_
      refine lv_if_eq (tgt := 29) hx hb dX5_rule_16 (by decide) (fun hz => absurd hz (by decide)) (fun _ => ?_)
      refine lv_iload_n hx hb dX5_rule_19 rfl (lv_at hl 2 rfl) ?_
      refine lv_iconst (v := 1) hx hb dX5_rule_20 (by decide) ?_
      refine lv_bipush (v := 100) hx hb dX5_rule_21 (by decide) ?_
      refine va_calli (va_runS (As := [.int y, .int 1, .int 100]) (rest := []) ⟨hx, hb, hml, hown, hts⟩ (c_X5_in l hJ M y 1 100) (va_cwS 3 hts gX5_rule_X5_in rfl rfl rfl (by decide +kernel) ⟨Nat.le_of_ble_eq_true rfl, Nat.le_of_ble_eq_true rfl⟩) ⟨fl_blind, fl_pre hP hK hN⟩ rfl rfl hl.1 rfl (lv_room (Nat.le_of_ble_eq_true rfl)) dX5_rule_23 ⟨Nat.le_of_ble_eq_true rfl, Nat.le_of_ble_eq_true rfl⟩) hS (fun _ _ h => h) (fun _ h => h) (fun r23 M23 t H1 locs ht hvm hw hB hz1 hk1 hS => ?_)
      have hP : va_P D vwCl (fmP cI cJ ad M23) H1 := by rw [← ht]; exact hB
      clear hB hk1 hz1 hvm ht t
      obtain ⟨rfl, hE⟩ := hw
      rw [hE] at hP
      by_cases hin : (1 : Int32) ≤ y ∧ y ≤ 100
      · obtain ⟨q, hp1, hp2, hp3⟩ := a_ix_pos (n := 100) (by decide) (fun z => absurd hin.1 (Int32.not_le.mpr (Int32.lt_trans z (by decide)))) (fl_in1p hin.1) hin.2
        refine fl_ti (y := 1) (if_pos hin) ?_
        refine lv_if_ne (tgt := 32) hx hb dX5_rule_26 (by decide) (fun _ => ?_) (fun hz => absurd hz (by decide))
        refine lv_aload_n hx hb dX5_rule_32 rfl (lv_at hl 0 rfl) ?_
        refine va_calll (va_runV (As := []) (rest := []) ⟨hx, hb, hml, hown, hts⟩ (c_X5_total l hJ M (r_n α.2.2) (r_wt α.2.2) hR.1.1 hR.1.2 hR.2.2.2.2.2.2.1) (cwV 0 hts gX5_rule_X5_total rfl rfl rfl (by decide +kernel) ⟨Nat.le_of_ble_eq_true rfl, Nat.le_of_ble_eq_true rfl⟩) ⟨fl_blind, va_recv hK hP (ci := 7) (q0 := 0) rfl (fl_at (by decide) rfl), fl_pre hP hK hN⟩ rfl rfl hl.1 rfl (lv_room (Nat.le_of_ble_eq_true rfl)) dX5_rule_33 ⟨Nat.le_of_ble_eq_true rfl, Nat.le_of_ble_eq_true rfl⟩) hS (fun _ _ h => h) (fun _ h => h) (fun r33 M33 t H1 locs ht hvm hw hB hz1 hk1 hS => ?_)
        have hP : va_P D vwCl (fmP cI cJ ad M33) H1 := by rw [← ht]; exact hB
        clear hB hk1 hz1 hvm ht t
        obtain ⟨rfl, hE⟩ := hw
        rw [hE] at hP
        refine lv_lstore_n (lv' := [(3, .long (lN (a_sum (r_wt α.2.2) (r_n α.2.2)))), (0, .ref (ad 0)), (1, .int x), (2, .int y)]) hx hb dX5_rule_36 rfl hl (by decide) rfl (fun ls hl => ?_)
        refine lv_lload_n hx hb dX5_rule_37 rfl (lv_at hl 0 rfl) ?_
        refine lv_lconst (v := 0) hx hb dX5_rule_38 (by decide) ?_
        refine fl_lne (tgt := 46) hx hb dX5_rule_39 dX5_rule_40 (by decide) (fun hc39 => ?_) (fun hc39 => ?_)
        · have hT0 : ¬ a_sum (r_wt α.2.2) (r_n α.2.2) = 0 := fun z => hc39 (by rw [z]; rfl)
          refine lv_ldc2 (v := 100) hx hb hown (hts (.constantLong RX5 149 (100)) (by decide +kernel)) dX5_rule_46 ?_
          refine lv_lload_n hx hb dX5_rule_49 rfl (lv_at hl 0 rfl) ?_
          refine lv_lmul hx hb dX5_rule_50 ?_
          refine fl_tl (y := lN (100 * a_sum (r_wt α.2.2) (r_n α.2.2))) (lN_mul 100 _) ?_
          refine lv_lload_n hx hb dX5_rule_51 rfl (lv_at hl 0 rfl) ?_
          refine lv_lmul hx hb dX5_rule_52 ?_
          refine fl_tl (y := lN (100 * a_sum (r_wt α.2.2) (r_n α.2.2) * a_sum (r_wt α.2.2) (r_n α.2.2))) (lN_mul _ _) ?_
          refine lv_iload_n hx hb dX5_rule_53 rfl (lv_at hl 3 rfl) ?_
          refine fl_ti (y := nI (q + 1)) hp2 ?_
          refine lv_aload_n hx hb dX5_rule_54 rfl (lv_at hl 1 rfl) ?_
          refine va_get (D := D) (ci := 7) (v := .int (M.1 0 7)) (C := RX5) (T := TX5) (N := 23) hx hb hts inX5 hown hK hP 0 (fl_at (by decide) rfl) rfl 7 (by decide) (hts (.fieldLink RX5 66 "ResampledRowsModel" "rows" "I") (by decide +kernel)) (fun _ h9 => h9) rfl dX5_rule_55 ?_
          refine fl_ti (y := nI (r_n α.2.2)) hR.1.2 ?_
          refine lv_imul hx hb dX5_rule_58 ?_
          have b5 : (q + 1) * r_n α.2.2 ≤ 1600 := Nat.mul_le_mul hp1 hn16
          refine fl_ti (y := nI ((q + 1) * r_n α.2.2)) (pk_mul _ _) ?_
          refine lv_i2l (v := (nI ((q + 1) * r_n α.2.2)).toInt64) hx hb dX5_rule_59 rfl ?_
          refine fl_tl (y := lN ((q + 1) * r_n α.2.2)) (nI_l (by omega)) ?_
          refine lv_aload_n hx hb dX5_rule_60 rfl (lv_at hl 1 rfl) ?_
          refine va_calll (va_runV (As := []) (rest := [.long (lN ((q + 1) * r_n α.2.2)), .long (lN (100 * a_sum (r_wt α.2.2) (r_n α.2.2) * a_sum (r_wt α.2.2) (r_n α.2.2)))]) ⟨hx, hb, hml, hown, hts⟩ (c_X5_squares l hJ M (r_n α.2.2) (r_wt α.2.2) hR.1.1 hR.1.2 hR.2.2.2.2.2.2.1) (cwV 0 hts gX5_rule_X5_squares rfl rfl rfl (by decide +kernel) ⟨Nat.le_of_ble_eq_true rfl, Nat.le_of_ble_eq_true rfl⟩) ⟨fl_blind, va_recv hK hP (ci := 7) (q0 := 0) rfl (fl_at (by decide) rfl), fl_pre hP hK hN⟩ rfl rfl hl.1 rfl (lv_room (Nat.le_of_ble_eq_true rfl)) dX5_rule_61 ⟨Nat.le_of_ble_eq_true rfl, Nat.le_of_ble_eq_true rfl⟩) hS (fun _ _ h => h) (fun _ h => h) (fun r61 M61 t H1 locs ht hvm hw hB hz1 hk1 hS => ?_)
          have hP : va_P D vwCl (fmP cI cJ ad M61) H1 := by rw [← ht]; exact hB
          clear hB hk1 hz1 hvm ht t
          obtain ⟨rfl, hE⟩ := hw
          rw [hE] at hP
          refine lv_lmul hx hb dX5_rule_64 ?_
          have b4 : 100 * a_sum (r_wt α.2.2) (r_n α.2.2) * a_sum (r_wt α.2.2) (r_n α.2.2) ≤ 25600000000000000 := by rw [Nat.mul_assoc]; omega
          have b6 : (q + 1) * r_n α.2.2 * a_Q (r_wt α.2.2) (r_n α.2.2) ≤ 1600 * 16000000000000 := Nat.mul_le_mul b5 b1
          refine fl_tl (y := lN ((q + 1) * r_n α.2.2 * a_Q (r_wt α.2.2) (r_n α.2.2))) (lN_mul _ _) ?_
          refine fl_lge (tgt := 77) hx hb dX5_rule_65 dX5_rule_66 (by decide) (fun hc65 => ?_) (fun hc65 => ?_)
          · have hcn : ¬ 100 * a_sum (r_wt α.2.2) (r_n α.2.2) * a_sum (r_wt α.2.2) (r_n α.2.2) < (q + 1) * r_n α.2.2 * a_Q (r_wt α.2.2) (r_n α.2.2) := Nat.not_lt.mpr ((pk_lLE (by omega) (by omega)).mp hc65)
            refine lv_iconst (v := 0) hx hb dX5_rule_77 (by decide) ?_
            refine W.endD hd0 ?_
            exact W.iret (v := 0) hx hb hr (fun t ht hW => ⟨⟨0, M, rfl, (by have ho : o_rule α x y = (0, α) := (by unfold o_rule; rw [if_neg hn0, q1, hp3]; exact (if_neg hT0).trans (if_neg hcn)); rw [ho]; exact ⟨rfl, hA⟩), fl_qi ht hP⟩, hS.F ht⟩) hS.2.2 dX5_rule_78
          · have hcn : 100 * a_sum (r_wt α.2.2) (r_n α.2.2) * a_sum (r_wt α.2.2) (r_n α.2.2) < (q + 1) * r_n α.2.2 * a_Q (r_wt α.2.2) (r_n α.2.2) := Nat.lt_of_not_le (fun z => hc65 ((pk_lLE (by omega) (by omega)).mpr z))
            refine lv_aload_n hx hb dX5_rule_69 rfl (lv_at hl 1 rfl) ?_
            refine lv_iload_n hx hb dX5_rule_70 rfl (lv_at hl 2 rfl) ?_
            refine fl_ti (y := nI wy) q1_2 ?_
            refine va_calliD hd0 (va_runV_D (As := [.int (nI wy)]) (rest := []) ⟨hx, hb, hml, hown, hts⟩ (c_X5_drawAnew l hJ M α hA hn0 han wy q1_1) (cwV 1 hts gX5_rule_X5_drawAnew rfl rfl rfl (by decide +kernel) ⟨Nat.le_of_ble_eq_true rfl, Nat.le_of_ble_eq_true rfl⟩) ⟨fl_blind, va_recv hK hP (ci := 7) (q0 := 0) rfl (fl_at (by decide) rfl), fl_pre hP hK hN⟩ rfl rfl hl.1 rfl (lv_room (Nat.le_of_ble_eq_true rfl)) dX5_rule_71 ⟨Nat.le_of_ble_eq_true rfl, Nat.le_of_ble_eq_true rfl⟩) hS (fun _ _ h => h) (fun _ h => h) (fun r71 M71 t H1 locs ht hvm hw hB hz1 hk1 hS d71 hd71 => ?_)
            have hP : va_P D vwCl (fmP cI cJ ad M71) H1 := by rw [← ht]; exact hB
            clear hB hk1 hz1 hvm ht t
            have hd0 := hd71
            have hts := dr_words hts0 d71
            obtain ⟨rfl, hA2⟩ := hw
            refine lv_goto (tgt := 78) hx hb dX5_rule_74 (by decide) ?_
            refine W.endD hd0 ?_
            exact W.iret (v := (o_anew α wy).1) hx hb hr (fun t ht hW => ⟨⟨(o_anew α wy).1, M71, rfl, (by have ho : o_rule α x y = o_anew α wy := (by unfold o_rule; rw [if_neg hn0, q1, hp3]; exact (if_neg hT0).trans (if_pos hcn)); rw [ho]; exact ⟨rfl, hA2⟩), fl_qi ht hP⟩, hS.F ht⟩) hS.2.2 dX5_rule_78
        · have hT0 : a_sum (r_wt α.2.2) (r_n α.2.2) = 0 := (pk_lEQ (b := 0) (by omega) (by decide)).mp hc39
          refine lv_ldc (v := -1000004) hx hb hown (hts (.constant RX5 114 (-1000004)) (by decide +kernel)) dX5_rule_43 ?_
          refine W.endD hd0 ?_
          exact W.iret (v := (-1000004)) hx hb hr (fun t ht hW => ⟨⟨(-1000004), M, rfl, (by have ho : o_rule α x y = (-1000004, α) := (by unfold o_rule; rw [if_neg hn0, q1, hp3]; exact (if_pos hT0).trans (by unfold o_anew a_anew; rw [if_pos hT0])); rw [ho]; exact ⟨rfl, hA⟩), fl_qi ht hP⟩, hS.F ht⟩) hS.2.2 dX5_rule_45
      · have ho := o_rule_out (x := x) hn0 (Or.inr (fl_in100 hin))
        refine fl_ti (y := 0) (if_neg hin) ?_
        refine lv_if_ne (tgt := 32) hx hb dX5_rule_26 (by decide) (fun hz => absurd hz (by decide)) (fun _ => ?_)
        refine lv_ldc (v := -1000002) hx hb hown (hts (.constant RX5 92 (-1000002)) (by decide +kernel)) dX5_rule_29 ?_
        refine W.endD hd0 ?_
        exact W.iret (v := (-1000002)) hx hb hr (fun t ht hW => ⟨⟨(-1000002), M, rfl, (by rw [ho]; exact ⟨rfl, hA⟩), fl_qi ht hP⟩, hS.F ht⟩) hS.2.2 dX5_rule_31
  · have hn0 : r_n α.2.2 = 0 := (nI_eq (b := 0) (by have := hR.1.1; omega) (by decide)).mp hc4
    refine lv_ldc (v := -1000003) hx hb hown (hts (.constant RX5 119 (-1000003)) (by decide +kernel)) dX5_rule_7 ?_
    refine W.endD hd0 ?_
    exact W.iret (v := (-1000003)) hx hb hr (fun t ht hW => ⟨⟨(-1000003), M, rfl, (by have ho : o_rule α x y = ((-1000003), α) := (by unfold o_rule; first | (rw [if_pos hn0] <;> rfl) | (simp only [if_pos hn0])); rw [ho]; exact ⟨rfl, hA⟩), fl_qi ht hP⟩, hS.F ht⟩) hS.2.2 dX5_rule_9

