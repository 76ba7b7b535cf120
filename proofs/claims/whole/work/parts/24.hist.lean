/-! THE CLASS'S history: returns, or throws the exception of a place that is not there -/
def hw_L : List Cond := [.declares (Bundle.initS "java/lang/IndexOutOfBoundsException"), .declares (Bundle.initS "java/lang/RuntimeException"), .declares (Bundle.initS "java/lang/Exception"), .declares (Bundle.initS Bundle.tN), .castable RJx00060 RJx00060, .methodLink RX4 144 (Bundle.initS RJx00060)]
abbrev hw_names : List String := ["java/lang/IndexOutOfBoundsException", "java/lang/RuntimeException", "java/lang/Exception"]
def hw_T (sa : Nat) (U : State) : Prop := (∀ w ∈ hw_L, va_Nw w U) ∧ vk_R RX4 142 "there is no such place" sa U
def hw_Z (A : Nat → Prop) (U : State) (H : Heap) : Prop := vx_Zq Bundle.tN "UNASSIGNED_STACK" Bundle.steD A U H ∧ vx_Zq Bundle.tN "SUPPRESSED_SENTINEL" Bundle.listD A U H
theorem hw_dec {y : MethodName} {s U : State} (hW : s.WarmedH U.vm) (h : va_Nw (.declares y) s) : va_Nw (.declares y) U := va_tabs rfl (rfl : (s.setVm U.vm).vm = U.vm) (by rw [Cond.declares_setVm hW.alike]; exact h)
theorem hw_T.warm {sa : Nat} {s U : State} (h : hw_T sa s) (hW : s.WarmedH U.vm) : hw_T sa U := by
  obtain ⟨h1, h2⟩ := h
  unfold hw_L at h1
  rw [List.forall_mem_cons, List.forall_mem_cons, List.forall_mem_cons, List.forall_mem_cons, List.forall_mem_cons, List.forall_mem_cons] at h1
  obtain ⟨a1, a2, a3, a4, a5, a6, -⟩ := h1
  refine ⟨?_, vk_R.warm hW h2⟩
  unfold hw_L
  rw [List.forall_mem_cons, List.forall_mem_cons, List.forall_mem_cons, List.forall_mem_cons, List.forall_mem_cons, List.forall_mem_cons]
  exact ⟨hw_dec hW a1, hw_dec hW a2, hw_dec hW a3, hw_dec hW a4, va_Nw.warmC hW a5, word_at hW (good_of_word (by decide +kernel)) a6, fun _ h => nomatch h⟩
theorem hw_onT : ∀ w ∈ hw_L, w.onTables = true := by decide +kernel
theorem hw_T.same {sa : Nat} {s U : State} (h : hw_T sa s) (e : s.vm = U.vm) : hw_T sa U := ⟨fun w hw => va_Nw.same (hw_onT w hw) e (h.1 w hw), vk_R.same e.symm h.2⟩
theorem hw_Z.moved {A : Nat → Prop} {s U : State} {H : Heap} (h : hw_Z A s H) (hW : s.vm.Alike U.vm) : hw_Z A U H := ⟨vx_Zq.moved hW h.1, vx_Zq.moved hW h.2⟩
theorem hw_Z.kept {A : Nat → Prop} {s : State} {H H1 : Heap} (h : hw_Z A s H) (hq : ∀ a : Nat, a < H.size → ¬ A a → H1[a]? = H[a]?) : hw_Z A s H1 := ⟨vx_Zq.kept h.1 hq, vx_Zq.kept h.2 hq⟩
theorem hw_Z.narrow {A B : Nat → Prop} {s : State} {H : Heap} (h : hw_Z A s H) (hq : ∀ a : Nat, B a → A a) : hw_Z B s H := ⟨vx_Zq.narrow h.1 hq, vx_Zq.narrow h.2 hq⟩
/-- what history's caller brings: the class's things, and what the making of an exception needs -/
def hw_Pc (sa : Nat) (A : Nat → Prop) (Pc : Array Value → State → Prop) : Array Value → State → Prop := fun a U => Pc a U ∧ hw_T sa U ∧ hw_Z A U U.heap
theorem hw_blind {sa : Nat} {A : Nat → Prop} {Pc : Array Value → State → Prop} (h : FrameBlind Pc) : FrameBlind (hw_Pc sa A Pc) := by
  intro a U g mk q
  exact ⟨h a U g mk q.1, q.2.1.same rfl, q.2.2.moved (U := U.calling g mk a) (Vm.Alike.refl U.vm)⟩
theorem hw_wd {p : Program} {l : Launch} {e : Env} {R : Room} {s : State} {m : MethodId} {args : Array Value} {below : List Frame} {meth : Method} {c : Code} {H : Heap} {locs : List Loc} {cells slots : Nat} {Q : State → Prop} {g : JFrame} {k n : Nat} (h1 : cells ≤ k) (h2 : slots ≤ n) (kk : W p l e R s m args below meth c H locs k n Q g) : W p l e R s m args below meth c H locs cells slots Q g := fun T hT X => kk T hT (stand_widen X h1 h2)
theorem hw_in : ∀ w ∈ vx_atS RX4 144 RJx00060 hw_names, w ∈ wsX4_history ∨ w ∈ hw_L := by decide +kernel
theorem hw_ot : ∀ w ∈ Cond.classLink RX4 140 RJx00060 :: Cond.initialized RJx00060 :: vx_atS RX4 144 RJx00060 hw_names, vx_ot w = true := by decide +kernel
set_option maxHeartbeats 4000000 in
set_option maxRecDepth 100000 in
theorem c_X4_history (l : Launch) (hlt : l.stackTraces = false) {D : va_G} {cI cJ cII : ClassId} {ad : Nat → Nat} (hJ : fl_inj 62 ad) (M : fl_M) (α : a_A) (hA : fc_A α M) (sa : Nat) (x y : Int32) : vx_Met l yX4_history wsX4_history ({ frames := 7, cells := 1, slots := 6, locals := 95 } : Room) (hw_Pc sa (fl_A 62 ad) (fcPc D cI cJ cII ad M [.ref (ad 0), .int x, .int y])) (va_Qi (fun r M2 => o_hist α x y = some r ∧ M2 = M) (fcQ D cI cII ad) (fl_A 62 ad)) (vx_X (fun M2 => o_hist α x y = none ∧ M2 = M) (fun E M2 t => E = RJx00060 ∧ fcQ D cI cII ad M2 t) (fl_A 62 ad)) 1 6 (fl_A 62 ad) := by
  refine vx_ofW (cc := cX4_history) (maxL := 3) (ret := (some .int)) (by decide) rfl ?_
  intro p e s m args below meth c s₁ B hml htab hv
  obtain ⟨⟨rfl, hP, hK, hN⟩, hTh, hZh⟩ := hv
  have hx := B.exec
  have hb := B.bytes
  have hr := B.returns
  have hts := atoms_spec (ws := wsX4_history) B.pre
  have hown : s.vm.findClass RX4 = some m.cls := findClass_of_methodNamed B.named
  have hlocks := B.notSynchronized
  have inX2 : ∀ w ∈ u_ws RX2 TX2 13, w ∈ wsX4_history := by decide +kernel
  have inX4 : ∀ w ∈ u_ws RX4 TX4 3, w ∈ wsX4_history := by decide +kernel
  have hS : va_S (fl_A 62 ad) s.heap s.heap [] := va_S.rf
  have hl := lv_entry ([.ref (ad 0), .int x, .int y] : List Value) (n := 3) (Nat.le_of_ble_eq_true rfl)
  rw [lg_entry_eq]
  generalize (lg_sl ([.ref (ad 0), .int x, .int y] : List Value) ++ List.replicate (3 - (lg_sl ([.ref (ad 0), .int x, .int y] : List Value)).length) Slot.unset).toArray = ls at hl ⊢
  have hl : lv_has ls 3 [(0, .ref (ad 0)), (1, .int x), (2, .int y)] := hl
  obtain ⟨hT, hd, hr0⟩ := id hA
  refine lv_aload_n hx hb dX4_history_0 rfl (lv_at hl 0 rfl) ?_
  refine va_get (D := D) (ci := 6) (v := .ref (ad 8)) (C := RX4) (T := TX4) (N := 3) hx hb hts inX4 hown hK hP 0 (fl_at (by decide) rfl) rfl 2 (by decide) (hts (.fieldLink RX4 26 "ResampledRows" "run" "LResampledRows$Run;") (by decide +kernel)) (fun _ h9 => h9) rfl dX4_history_1 ?_
  refine va_calli (va_runV (As := []) (rest := []) ⟨hx, hb, hml, hown, hts⟩ (c_X2_isBegun l hJ M (r_n α.2.2) hr0.1.1 hr0.1.2) (cwV 0 hts gX4_history_X2_isBegun rfl rfl rfl (by decide +kernel) ⟨Nat.le_of_ble_eq_true rfl, Nat.le_of_ble_eq_true rfl⟩) ⟨fl_blind, va_recv hK hP (ci := 4) (q0 := 8) rfl (fl_at (by decide) rfl), fl_pre hP hK hN⟩ rfl rfl hl.1 rfl (lv_room (Nat.le_of_ble_eq_true rfl)) dX4_history_4 ⟨Nat.le_of_ble_eq_true rfl, Nat.le_of_ble_eq_true rfl⟩) hS (fun _ _ h => h) (fun _ h => h) (fun r4 M4 t H1 locs ht hvm hw hB hz1 hk1 hS => ?_)
  have hP : va_P D vwCl (fcP cI cII ad M4) H1 := by rw [← ht]; exact hB
  clear hB hk1 hz1 hvm ht t
  obtain ⟨rfl, hE⟩ := hw
  rw [hE] at hP
  by_cases hn0 : r_n α.2.2 = 0
  · refine fl_ti (y := 0) (if_pos hn0) ?_
    refine lv_if_ne (tgt := 13) hx hb dX4_history_7 (by decide) (fun hz => absurd hz (by decide)) (fun _ => ?_)
    refine lv_ldc (v := -1000003) hx hb hown (hts (.constant RX4 84 (-1000003)) (by decide +kernel)) dX4_history_10 ?_
    refine vx_ret ?_
    refine hw_wd (k := 1) (n := 6) (Nat.zero_le _) (Nat.zero_le _) ?_
    exact W.iret (v := (-1000003)) hx hb hr (fun t ht hW => ⟨⟨(-1000003), M, rfl, ⟨(by unfold o_hist; simp only [if_pos hn0]), rfl⟩, fl_qi ht hP⟩, hS.F ht⟩) hS.2.2 dX4_history_12
  · refine fl_ti (y := 1) (if_neg hn0) ?_
    refine lv_if_ne (tgt := 13) hx hb dX4_history_7 (by decide) (fun _ => ?_) (fun hz => absurd hz (by decide))
    refine lv_aload_n hx hb dX4_history_13 rfl (lv_at hl 0 rfl) ?_
    refine va_get (D := D) (ci := 6) (v := .ref (ad 8)) (C := RX4) (T := TX4) (N := 3) hx hb hts inX4 hown hK hP 0 (fl_at (by decide) rfl) rfl 2 (by decide) (hts (.fieldLink RX4 26 "ResampledRows" "run" "LResampledRows$Run;") (by decide +kernel)) (fun _ h9 => h9) rfl dX4_history_14 ?_
    refine lv_iload_n hx hb dX4_history_17 rfl (lv_at hl 1 rfl) ?_
    refine va_calli (va_runV (As := [.int x]) (rest := []) ⟨hx, hb, hml, hown, hts⟩ (c_X2_hasRow l hJ M (r_n α.2.2) x hr0.1.1 hr0.1.2) (cwV 1 hts gX4_history_X2_hasRow rfl rfl rfl (by decide +kernel) ⟨Nat.le_of_ble_eq_true rfl, Nat.le_of_ble_eq_true rfl⟩) ⟨fl_blind, va_recv hK hP (ci := 4) (q0 := 8) rfl (fl_at (by decide) rfl), fl_pre hP hK hN⟩ rfl rfl hl.1 rfl (lv_room (Nat.le_of_ble_eq_true rfl)) dX4_history_18 ⟨Nat.le_of_ble_eq_true rfl, Nat.le_of_ble_eq_true rfl⟩) hS (fun _ _ h => h) (fun _ h => h) (fun r18 M18 t H1 locs ht hvm hw hB hz1 hk1 hS => ?_)
    have hP : va_P D vwCl (fcP cI cII ad M18) H1 := by rw [← ht]; exact hB
    clear hB hk1 hz1 hvm ht t
    obtain ⟨rfl, hE⟩ := hw
    rw [hE] at hP
    rcases q1 : a_ix x (r_n α.2.2) with _ | j
    · refine fl_ti (y := 0) (by first | rfl | (rw [q1]; rfl)) ?_
      refine lv_if_ne (tgt := 27) hx hb dX4_history_21 (by decide) (fun hz => absurd hz (by decide)) (fun _ => ?_)
      refine lv_ldc (v := -1000001) hx hb hown (hts (.constant RX4 34 (-1000001)) (by decide +kernel)) dX4_history_24 ?_
      refine vx_ret ?_
      refine hw_wd (k := 1) (n := 6) (Nat.zero_le _) (Nat.zero_le _) ?_
      exact W.iret (v := (-1000001)) hx hb hr (fun t ht hW => ⟨⟨(-1000001), M, rfl, ⟨(by unfold o_hist; simp only [if_neg hn0, q1]), rfl⟩, fl_qi ht hP⟩, hS.F ht⟩) hS.2.2 dX4_history_26
    · obtain ⟨q1_1, q1_2, q1_3⟩ := a_ix_some q1
      refine fl_ti (y := 1) (by first | rfl | (rw [q1]; rfl)) ?_
      refine lv_if_ne (tgt := 27) hx hb dX4_history_21 (by decide) (fun _ => ?_) (fun hz => absurd hz (by decide))
      refine lv_aload_n hx hb dX4_history_27 rfl (lv_at hl 0 rfl) ?_
      refine va_get (D := D) (ci := 6) (v := .ref (ad 8)) (C := RX4) (T := TX4) (N := 3) hx hb hts inX4 hown hK hP 0 (fl_at (by decide) rfl) rfl 2 (by decide) (hts (.fieldLink RX4 26 "ResampledRows" "run" "LResampledRows$Run;") (by decide +kernel)) (fun _ h9 => h9) rfl dX4_history_28 ?_
      refine lv_iload_n hx hb dX4_history_31 rfl (lv_at hl 2 rfl) ?_
      refine va_calli (va_runV (As := [.int y]) (rest := []) ⟨hx, hb, hml, hown, hts⟩ (c_X2_hasPlace l hJ M (r_sp α.2.2) y hr0.2.1.1 hr0.2.1.2) (cwV 1 hts gX4_history_X2_hasPlace rfl rfl rfl (by decide +kernel) ⟨Nat.le_of_ble_eq_true rfl, Nat.le_of_ble_eq_true rfl⟩) ⟨fl_blind, va_recv hK hP (ci := 4) (q0 := 8) rfl (fl_at (by decide) rfl), fl_pre hP hK hN⟩ rfl rfl hl.1 rfl (lv_room (Nat.le_of_ble_eq_true rfl)) dX4_history_32 ⟨Nat.le_of_ble_eq_true rfl, Nat.le_of_ble_eq_true rfl⟩) hS (fun _ _ h => h) (fun _ h => h) (fun r32 M32 t H1 locs ht hvm hw hB hz1 hk1 hS => ?_)
      have hP : va_P D vwCl (fcP cI cII ad M32) H1 := by rw [← ht]; exact hB
      clear hB hk1 hz1 hvm ht t
      obtain ⟨rfl, hE⟩ := hw
      rw [hE] at hP
      rcases q3 : a_ix y (r_sp α.2.2 + 1) with _ | i
      · refine fl_ti (y := 0) (by first | rfl | (rw [q3]; rfl)) ?_
        refine lv_if_ne (tgt := 48) hx hb dX4_history_35 (by decide) (fun hz => absurd hz (by decide)) (fun _ => ?_)
        exact vx_throwS (names := hw_names) (A := fl_A 62 ad) hx hb hlt hown (by decide +kernel) (by decide +kernel) (hts (.classLink RX4 140 RJx00060) (by decide +kernel)) (hts (.initialized RJx00060) (by decide +kernel)) hTh.2 (fun w hw => (hw_in w hw).elim (hts w) (fun h => va_Nw.use (hw_onT w h) (hTh.1 w h))) hw_ot hZh.1 hZh.2 hS (hl.1.trans hml.symm) dX4_history_38 dX4_history_41 dX4_history_42 dX4_history_44 dX4_history_47 (fun x9 h9 => (htab x9 h9).elim) (Nat.le_of_ble_eq_true rfl) (Nat.le_of_ble_eq_true rfl) (Nat.le_of_ble_eq_true rfl) (Nat.le_of_ble_eq_true rfl) hlocks (fun t hv9 hz9 hq9 => ⟨M, ⟨(by unfold o_hist; simp only [if_neg hn0, q1, q3]), rfl⟩, ⟨rfl, va_P.kept hP (fun k q hk => hq9 q.1 (vx_lt hP hk))⟩, ⟨Nat.le_trans hS.1 hz9, fun q h1 h2 => (hq9 q (Nat.lt_of_lt_of_le h1 hS.1)).trans (hS.2.1 q h1 h2)⟩⟩) hS.2.2 (Nat.le_refl _) (Nat.le_refl _)
      · obtain ⟨q3_1, q3_2, q3_3⟩ := a_ix_some q3
        refine fl_ti (y := 1) (by first | rfl | (rw [q3]; rfl)) ?_
        refine lv_if_ne (tgt := 48) hx hb dX4_history_35 (by decide) (fun _ => ?_) (fun hz => absurd hz (by decide))
        refine lv_aload_n hx hb dX4_history_48 rfl (lv_at hl 0 rfl) ?_
        refine va_get (D := D) (ci := 6) (v := .ref (ad 8)) (C := RX4) (T := TX4) (N := 3) hx hb hts inX4 hown hK hP 0 (fl_at (by decide) rfl) rfl 2 (by decide) (hts (.fieldLink RX4 26 "ResampledRows" "run" "LResampledRows$Run;") (by decide +kernel)) (fun _ h9 => h9) rfl dX4_history_49 ?_
        refine va_get (D := D) (ci := 4) (v := .ref (ad (M.2.2.2 8 9))) (C := RX2) (T := TX2) (N := 13) hx hb hts inX2 hown hK hP 8 (fl_at (by decide) rfl) rfl 9 (by decide) (hts (.fieldLink RX4 147 "ResampledRows$Run" "histories" "[[I") (by decide +kernel)) (fun _ h9 => h9) rfl dX4_history_52 ?_
        refine lv_iload_n hx hb dX4_history_55 rfl (lv_at hl 1 rfl) ?_
        refine fl_ti (y := nI j) q1_2 ?_
        refine fl_ald (k := j) (f := fun j => ad (fc_hb (M.2.2.2 8 9) + j)) hx hb hK hP (fc_hat cI cII ad _ hr0.2.2.2.2.2.1.s3.1) rfl rfl (by have := hr0.1.1; omega) (by decide) dX4_history_56 ?_
        refine lv_iload_n hx hb dX4_history_57 rfl (lv_at hl 2 rfl) ?_
        refine fl_ti (y := nI i) q3_2 ?_
        have hbj := fc_hb_in (M.2.2.2 8 9) j (by have := hr0.1.1; omega)
        refine fl_ild (a := fc_hb (M.2.2.2 8 9) + j) (n := 31) (k := i) hx hb hK hP (fc_a cI cII ad _ (fc_hb_len (by have := hr0.1.1; omega)) (by decide)) rfl rfl (by have := hr0.2.1.1; omega) (by decide) dX4_history_58 ?_
        refine fl_ti (y := nI (r_hi α.2.2 j i)) ((hr0.2.2.2.2.2.2.2.2.1 j q1_1 i q3_1).1) ?_
        refine vx_ret ?_
        refine hw_wd (k := 1) (n := 6) (Nat.zero_le _) (Nat.zero_le _) ?_
        exact W.iret (v := nI (r_hi α.2.2 j i)) hx hb hr (fun t ht hW => ⟨⟨nI (r_hi α.2.2 j i), M, rfl, ⟨(by unfold o_hist; simp only [if_neg hn0, q1, q3]), rfl⟩, fl_qi ht hP⟩, hS.F ht⟩) hS.2.2 dX4_history_59
