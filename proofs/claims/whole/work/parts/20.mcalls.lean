theorem fm_T.s {t : a_T} {M : fl_M} (h : fm_T t M) {j v : Nat} (hv : v < 10) : fm_T (a_set t.1 j v, t.2) (fl_sI M 1 j (nI v)) := by
  obtain ⟨h1, h2, h3, h4⟩ := h
  exact ⟨h1.set hv, h2, h3, h4⟩
theorem fm_T.nm {t : a_T} {M : fl_M} (h : fm_T t M) {j v : Nat} (hv : v < 4) : fm_T (t.1, t.2.1, t.2.2.1, a_set t.2.2.2 j v) (fl_sI M 4 j (nI v)) := by
  obtain ⟨h1, h2, h3, h4⟩ := h
  exact ⟨h1, h2, h3, h4.set hv⟩
theorem fm_grid {f : Nat → Int32} {g : Nat → Nat → Nat} {N i j v B : Nat} (h : ∀ a, a < N → ∀ b, b < 6 → f (6 * a + b) = nI (g a b) ∧ g a b < B) (hj : j < 6) (hv : v < B) : ∀ a, a < N → ∀ b, b < 6 → upd f (6 * i + j) (nI v) (6 * a + b) = nI (a_set2 g i j v a b) ∧ a_set2 g i j v a b < B := fun a ha b hb => by
  show _ = nI (if a = i then (if b = j then v else g a b) else g a b) ∧ (if a = i then (if b = j then v else g a b) else g a b) < B
  by_cases e : a = i
  · subst e
    rw [if_pos rfl]
    by_cases e2 : b = j
    · subst e2
      rw [if_pos rfl, pk_us]
      exact ⟨rfl, hv⟩
    · rw [if_neg e2, pk_un (by omega)]
      exact h a ha b hb
  · rw [if_neg e, pk_un (by omega)]
    exact h a ha b hb
theorem fm_T.mv {t : a_T} {M : fl_M} (h : fm_T t M) {i j v : Nat} (hj : j < 6) (hv : v < 10) : fm_T (t.1, a_set2 t.2.1 i j v, t.2.2) (fl_sI M 2 (6 * i + j) (nI v)) := by
  obtain ⟨h1, h2, h3, h4⟩ := h
  exact ⟨h1, fm_grid h2 hj hv, h3, h4⟩
theorem fm_T.sn {t : a_T} {M : fl_M} (h : fm_T t M) {i j v : Nat} (hj : j < 6) (hv : v < 10) : fm_T (t.1, t.2.1, a_set2 t.2.2.1 i j v, t.2.2.2) (fl_sI M 3 (6 * i + j) (nI v)) := by
  obtain ⟨h1, h2, h3, h4⟩ := h
  exact ⟨h1, h2, fm_grid h3 hj hv, h4⟩
/-- a table's place is written: the rest of the state stays -/
theorem fm_A.tb {α : a_A} {M : fl_M} (h : fm_A α M) {c k : Nat} {v : Int32} {t : a_T} (hc : 1 ≤ c ∧ c ≤ 4) (ht : fm_T t (fl_sI M c k v)) : fm_A (t, α.2) (fl_sI M c k v) := by
  obtain ⟨h1, h2, h3, h4⟩ := h
  have he : fp (fun a _ => a = 0 ∨ 5 ≤ a) M (fl_sI M c k v) := fp.rf.sI (by omega) _
  exact ⟨ht, h2.eq he (Or.inl rfl) (fun _ => Or.inr (by decide)), fun hn => h3 hn, h4.eq he (fun _ _ _ _ => Or.inl rfl) (fun c k a b => Or.inr (by omega))⟩
theorem fm_R.kp {r : a_R} {M : fl_M} (h : fm_R r M) {kp : Option Nat} {z : Int32} (hz : z = a_oI kp (-1000009)) (hk : ∀ k, kp = some k → k < r_n r) : fm_R (a_wk r kp) (fl_sI M 0 14 z) := by
  obtain ⟨h1, h3, h5, ⟨h7, h8⟩, h9, h11, h12, h13, h14, h15⟩ := h
  exact ⟨h1, h3, h5, ⟨hz, hk⟩, h9, h11, h12, h13, h14, h15⟩
theorem fm_R.wh {r : a_R} {M : fl_M} (h : fm_R r M) {j i v : Nat} (hi : i < r_sp r + 1) (hv : v < 6) : fm_R (a_wh r j i v) (fl_sI M 8 (31 * j + i) (nI v)) := by
  obtain ⟨h1, h3, h5, h7, h9, h11, h12, h13, h14, h15⟩ := h
  refine ⟨h1, h3, h5, h7, h9, h11, h12, fun a ha b hb => ?_, h14, h15⟩
  have ha' : a < r_n r := ha
  have hb' : b < r_sp r + 1 := hb
  show upd (M.1 8) (31 * j + i) (nI v) (31 * a + b) = nI (if a = j then (if b = i then v else r_hi r a b) else r_hi r a b) ∧ (if a = j then (if b = i then v else r_hi r a b) else r_hi r a b) < 6
  have h3' := h3.1
  by_cases e : a = j
  · subst e
    rw [if_pos rfl]
    by_cases e2 : b = i
    · subst e2
      rw [if_pos rfl, pk_us]
      exact ⟨rfl, hv⟩
    · rw [if_neg e2, pk_un (by omega)]
      exact h13 a ha' b hb'
  · rw [if_neg e, pk_un (by omega)]
    exact h13 a ha' b hb'
theorem fm_Q_add {q : List Nat} {k : Nat} {M : fl_M} (h : fm_Q q M) (hl : q.length < 64) (hk : k < 2 ^ 31) : fm_Q (q ++ [k]) (fl_sI (fl_sI M 5 q.length (nI k)) 0 6 (nI (q.length + 1))) := by
  obtain ⟨h1, h2, h3⟩ := h
  refine ⟨?_, by simp; omega, fun j hj => ?_⟩
  · show nI (q.length + 1) = nI (q ++ [k]).length
    simp
  · have hj2 : j < q.length + 1 := by simpa using hj
    show upd (M.1 5) q.length (nI k) j = nI ((q ++ [k]).getD j 0) ∧ (q ++ [k]).getD j 0 < 2 ^ 31
    by_cases e : j = q.length
    · subst e
      have : (q ++ [k]).getD q.length 0 = k := by simp [List.getD]
      rw [this, pk_us]
      exact ⟨rfl, hk⟩
    · have hj3 : j < q.length := by omega
      have : (q ++ [k]).getD j 0 = q.getD j 0 := by simp [List.getD, List.getElem?_append_left hj3]
      rw [this, pk_un e]
      exact h3 j hj3
theorem fm_up {M : fl_M} {c i : Nat} {v : Int32} {P : Nat → Prop} (h : ∀ k, k < i → P k → M.1 c k = v) : ∀ k, k < i + 1 → P k → (fl_sI M c i v).1 c k = v := fun k hk hp => by
  rw [fl_sI_same]
  by_cases e : k = i
  · subst e
    rw [pk_us]
  · rw [pk_un e]
    exact h k (by omega) hp

set_option maxHeartbeats 4000000 in
set_option maxRecDepth 100000 in
theorem c_X5_start (l : Launch) {D : va_G} {cI cJ cII : ClassId} {ad : Nat → Nat} (hJ : fl_inj 15 ad) (M : fl_M) (α : a_A) (hA : fm_A α M) (x w : Int32) : Met l yX5_start wsX5_start ({ frames := 2, cells := 0, slots := 0, locals := 42 } : Room) (fmPc D cI cJ cII ad M [.ref (ad 0), .int x, .int w]) (va_Qi (fun r M2 => r = (o_start α x w).1 ∧ fm_A (o_start α x w).2 M2) (fmQ D cI cJ ad) (fl_A 15 ad)) 0 0 (fl_A 15 ad) := by
  refine Met.ofW (cc := cX5_start) (maxL := 4) (ret := (some .int)) (by decide) rfl ?_
  intro p e s m args below meth c s₁ B hml hv
  obtain ⟨rfl, hP, hK, hN⟩ := hv
  have hx := B.exec
  have hb := B.bytes
  have hr := B.returns
  have hts := atoms_spec (ws := wsX5_start) B.pre
  have hown : s.vm.findClass RX5 = some m.cls := findClass_of_methodNamed B.named
  have hlocks := B.notSynchronized
  have inX5 : ∀ w ∈ u_ws RX5 TX5 23, w ∈ wsX5_start := by decide +kernel
  have hS : va_S (fl_A 15 ad) s.heap s.heap [] := va_S.rf
  have hl := lv_entry ([.ref (ad 0), .int x, .int w] : List Value) (n := 4) (Nat.le_of_ble_eq_true rfl)
  rw [lg_entry_eq]
  generalize (lg_sl ([.ref (ad 0), .int x, .int w] : List Value) ++ List.replicate (4 - (lg_sl ([.ref (ad 0), .int x, .int w] : List Value)).length) Slot.unset).toArray = ls at hl ⊢
  have hl : lv_has ls 4 [(0, .ref (ad 0)), (1, .int x), (2, .int w)] := hl
  obtain ⟨hT, hQ, hsd, hR⟩ := id hA
  refine lv_iload_n hx hb dX5_start_0 rfl (lv_at hl 1 rfl) ?_
  refine va_calli (va_runS (As := [.int x]) (rest := []) ⟨hx, hb, hml, hown, hts⟩ (c_X5_isState l hJ M x) (va_cwS 1 hts gX5_start_X5_isState rfl rfl rfl (by decide +kernel) ⟨Nat.le_of_ble_eq_true rfl, Nat.le_of_ble_eq_true rfl⟩) ⟨fl_blind, fl_pre hP hK hN⟩ rfl rfl hl.1 rfl (lv_room (Nat.le_of_ble_eq_true rfl)) dX5_start_1 ⟨Nat.le_of_ble_eq_true rfl, Nat.le_of_ble_eq_true rfl⟩) hS (fun _ _ h => h) (fun _ h => h) (fun r1 M1 t H1 locs ht hvm hw hB hz1 hk1 hS => ?_)
  have hP : va_P D vwCl (fmP cI cJ ad M1) H1 := by rw [← ht]; exact hB
  clear hB hk1 hz1 hvm ht t
  obtain ⟨rfl, hE⟩ := hw
  rw [hE] at hP
  rcases q1 : a_ix x 6 with _ | j
  · refine fl_ti (y := 0) (by first | rfl | (rw [q1]; rfl)) ?_
    refine lv_if_ne (tgt := 10) hx hb dX5_start_4 (by decide) (fun hz => absurd hz (by decide)) (fun _ => ?_)
    refine lv_ldc (v := -1000001) hx hb hown (hts (.constant RX5 91 (-1000001)) (by decide +kernel)) dX5_start_7 ?_
    exact W.iret (v := (-1000001)) hx hb hr (fun t ht hW => ⟨⟨(-1000001), M, rfl, (by have ho : o_start α x w = ((-1000001), α) := (by unfold o_start; first | (rw [q1] <;> rfl) | (simp only [q1])); rw [ho]; exact ⟨rfl, hA⟩), fl_qi ht hP⟩, hS.F ht⟩) hS.2.2 dX5_start_9
  · obtain ⟨q1_1, q1_2, q1_3⟩ := a_ix_some q1
    refine fl_ti (y := 1) (by first | rfl | (rw [q1]; rfl)) ?_
    refine lv_if_ne (tgt := 10) hx hb dX5_start_4 (by decide) (fun _ => ?_) (fun hz => absurd hz (by decide))
    refine lv_iload_n hx hb dX5_start_10 rfl (lv_at hl 2 rfl) ?_
    refine lv_iconst (v := 0) hx hb dX5_start_11 (by decide) ?_
    refine lv_bipush (v := 9) hx hb dX5_start_12 (by decide) ?_
    refine va_calli (va_runS (As := [.int w, .int 0, .int 9]) (rest := []) ⟨hx, hb, hml, hown, hts⟩ (c_X5_in l hJ M w 0 9) (va_cwS 3 hts gX5_start_X5_in rfl rfl rfl (by decide +kernel) ⟨Nat.le_of_ble_eq_true rfl, Nat.le_of_ble_eq_true rfl⟩) ⟨fl_blind, fl_pre hP hK hN⟩ rfl rfl hl.1 rfl (lv_room (Nat.le_of_ble_eq_true rfl)) dX5_start_14 ⟨Nat.le_of_ble_eq_true rfl, Nat.le_of_ble_eq_true rfl⟩) hS (fun _ _ h => h) (fun _ h => h) (fun r14 M14 t H1 locs ht hvm hw hB hz1 hk1 hS => ?_)
    have hP : va_P D vwCl (fmP cI cJ ad M14) H1 := by rw [← ht]; exact hB
    clear hB hk1 hz1 hvm ht t
    obtain ⟨rfl, hE⟩ := hw
    rw [hE] at hP
    refine fl_ti (y := a_b (a_ix w 10)) (a_in0 (n := 9) (by decide)) ?_
    rcases q2 : a_ix w 10 with _ | v
    · refine fl_ti (y := 0) (by first | rfl | (rw [q2]; rfl)) ?_
      refine lv_if_ne (tgt := 23) hx hb dX5_start_17 (by decide) (fun hz => absurd hz (by decide)) (fun _ => ?_)
      refine lv_ldc (v := -1000002) hx hb hown (hts (.constant RX5 92 (-1000002)) (by decide +kernel)) dX5_start_20 ?_
      exact W.iret (v := (-1000002)) hx hb hr (fun t ht hW => ⟨⟨(-1000002), M, rfl, (by have ho : o_start α x w = ((-1000002), α) := (by unfold o_start; first | (rw [q1, q2] <;> rfl) | (simp only [q1, q2])); rw [ho]; exact ⟨rfl, hA⟩), fl_qi ht hP⟩, hS.F ht⟩) hS.2.2 dX5_start_22
    · obtain ⟨q2_1, q2_2, q2_3⟩ := a_ix_some q2
      refine fl_ti (y := 1) (by first | rfl | (rw [q2]; rfl)) ?_
      refine lv_if_ne (tgt := 23) hx hb dX5_start_17 (by decide) (fun _ => ?_) (fun hz => absurd hz (by decide))
      refine lv_aload_n hx hb dX5_start_23 rfl (lv_at hl 0 rfl) ?_
      refine va_get (D := D) (ci := 7) (v := .ref (ad 1)) (C := RX5) (T := TX5) (N := 23) hx hb hts inX5 hown hK hP 0 (fl_at (by decide) rfl) rfl 1 (by decide) (hts (.fieldLink RX5 7 "ResampledRowsModel" "starts" "[I") (by decide +kernel)) (fun _ h9 => h9) rfl dX5_start_24 ?_
      refine lv_iload_n hx hb dX5_start_27 rfl (lv_at hl 1 rfl) ?_
      refine fl_ti (y := nI j) q1_2 ?_
      refine fl_ild (n := 6) (k := j) hx hb hK hP (fl_at (by decide) rfl) rfl rfl (by omega) (by decide) dX5_start_28 ?_
      refine fl_ti (y := nI (α.1.1 j)) ((hT.1 j q1_1).1) ?_
      refine lv_istore_n (lv' := [(3, .int (nI (α.1.1 j))), (0, .ref (ad 0)), (1, .int x), (2, .int w)]) hx hb dX5_start_29 rfl hl (by decide) rfl (fun ls hl => ?_)
      refine lv_aload_n hx hb dX5_start_30 rfl (lv_at hl 1 rfl) ?_
      refine va_get (D := D) (ci := 7) (v := .ref (ad 1)) (C := RX5) (T := TX5) (N := 23) hx hb hts inX5 hown hK hP 0 (fl_at (by decide) rfl) rfl 1 (by decide) (hts (.fieldLink RX5 7 "ResampledRowsModel" "starts" "[I") (by decide +kernel)) (fun _ h9 => h9) rfl dX5_start_31 ?_
      refine lv_iload_n hx hb dX5_start_34 rfl (lv_at hl 2 rfl) ?_
      refine fl_ti (y := nI j) q1_2 ?_
      refine lv_iload_n hx hb dX5_start_35 rfl (lv_at hl 3 rfl) ?_
      refine fl_ti (y := nI v) q2_2 ?_
      refine fl_ist (n := 6) (k := j) (x := nI v) hx hb hK hJ hP hS (fm_loc cI cJ ad) (fl_at (by decide) rfl) rfl rfl rfl (by omega) (by decide) dX5_start_36 (fun H locs hP hS => ?_)
      refine lv_iload_n hx hb dX5_start_37 rfl (lv_at hl 0 rfl) ?_
      exact W.iret (v := nI (α.1.1 j)) hx hb hr (fun t ht hW => ⟨⟨nI (α.1.1 j), (fl_sI M 1 j (nI v)), rfl, (by have ho : o_start α x w = (nI (α.1.1 j), ((a_set α.1.1 j v, α.1.2), α.2)) := (by unfold o_start; first | (rw [q1, q2] <;> rfl) | (simp only [q1, q2])); rw [ho]; exact ⟨rfl, hA.tb (by decide) (hT.s q2_1)⟩), fl_qi ht hP⟩, hS.F ht⟩) hS.2.2 dX5_start_38

set_option maxHeartbeats 4000000 in
set_option maxRecDepth 100000 in
theorem c_X5_named (l : Launch) {D : va_G} {cI cJ cII : ClassId} {ad : Nat → Nat} (hJ : fl_inj 15 ad) (M : fl_M) (α : a_A) (hA : fm_A α M) (x w : Int32) : Met l yX5_named wsX5_named ({ frames := 2, cells := 0, slots := 0, locals := 42 } : Room) (fmPc D cI cJ cII ad M [.ref (ad 0), .int x, .int w]) (va_Qi (fun r M2 => r = (o_named α x w).1 ∧ fm_A (o_named α x w).2 M2) (fmQ D cI cJ ad) (fl_A 15 ad)) 0 0 (fl_A 15 ad) := by
  refine Met.ofW (cc := cX5_named) (maxL := 4) (ret := (some .int)) (by decide) rfl ?_
  intro p e s m args below meth c s₁ B hml hv
  obtain ⟨rfl, hP, hK, hN⟩ := hv
  have hx := B.exec
  have hb := B.bytes
  have hr := B.returns
  have hts := atoms_spec (ws := wsX5_named) B.pre
  have hown : s.vm.findClass RX5 = some m.cls := findClass_of_methodNamed B.named
  have hlocks := B.notSynchronized
  have inX5 : ∀ w ∈ u_ws RX5 TX5 23, w ∈ wsX5_named := by decide +kernel
  have hS : va_S (fl_A 15 ad) s.heap s.heap [] := va_S.rf
  have hl := lv_entry ([.ref (ad 0), .int x, .int w] : List Value) (n := 4) (Nat.le_of_ble_eq_true rfl)
  rw [lg_entry_eq]
  generalize (lg_sl ([.ref (ad 0), .int x, .int w] : List Value) ++ List.replicate (4 - (lg_sl ([.ref (ad 0), .int x, .int w] : List Value)).length) Slot.unset).toArray = ls at hl ⊢
  have hl : lv_has ls 4 [(0, .ref (ad 0)), (1, .int x), (2, .int w)] := hl
  obtain ⟨hT, hQ, hsd, hR⟩ := id hA
  refine lv_iload_n hx hb dX5_named_0 rfl (lv_at hl 1 rfl) ?_
  refine va_calli (va_runS (As := [.int x]) (rest := []) ⟨hx, hb, hml, hown, hts⟩ (c_X5_isState l hJ M x) (va_cwS 1 hts gX5_named_X5_isState rfl rfl rfl (by decide +kernel) ⟨Nat.le_of_ble_eq_true rfl, Nat.le_of_ble_eq_true rfl⟩) ⟨fl_blind, fl_pre hP hK hN⟩ rfl rfl hl.1 rfl (lv_room (Nat.le_of_ble_eq_true rfl)) dX5_named_1 ⟨Nat.le_of_ble_eq_true rfl, Nat.le_of_ble_eq_true rfl⟩) hS (fun _ _ h => h) (fun _ h => h) (fun r1 M1 t H1 locs ht hvm hw hB hz1 hk1 hS => ?_)
  have hP : va_P D vwCl (fmP cI cJ ad M1) H1 := by rw [← ht]; exact hB
  clear hB hk1 hz1 hvm ht t
  obtain ⟨rfl, hE⟩ := hw
  rw [hE] at hP
  rcases q1 : a_ix x 6 with _ | j
  · refine fl_ti (y := 0) (by first | rfl | (rw [q1]; rfl)) ?_
    refine lv_if_ne (tgt := 10) hx hb dX5_named_4 (by decide) (fun hz => absurd hz (by decide)) (fun _ => ?_)
    refine lv_ldc (v := -1000001) hx hb hown (hts (.constant RX5 91 (-1000001)) (by decide +kernel)) dX5_named_7 ?_
    exact W.iret (v := (-1000001)) hx hb hr (fun t ht hW => ⟨⟨(-1000001), M, rfl, (by have ho : o_named α x w = ((-1000001), α) := (by unfold o_named; first | (rw [q1] <;> rfl) | (simp only [q1])); rw [ho]; exact ⟨rfl, hA⟩), fl_qi ht hP⟩, hS.F ht⟩) hS.2.2 dX5_named_9
  · obtain ⟨q1_1, q1_2, q1_3⟩ := a_ix_some q1
    refine fl_ti (y := 1) (by first | rfl | (rw [q1]; rfl)) ?_
    refine lv_if_ne (tgt := 10) hx hb dX5_named_4 (by decide) (fun _ => ?_) (fun hz => absurd hz (by decide))
    refine lv_iload_n hx hb dX5_named_10 rfl (lv_at hl 2 rfl) ?_
    refine lv_iconst (v := 0) hx hb dX5_named_11 (by decide) ?_
    refine lv_iconst (v := 3) hx hb dX5_named_12 (by decide) ?_
    refine va_calli (va_runS (As := [.int w, .int 0, .int 3]) (rest := []) ⟨hx, hb, hml, hown, hts⟩ (c_X5_in l hJ M w 0 3) (va_cwS 3 hts gX5_named_X5_in rfl rfl rfl (by decide +kernel) ⟨Nat.le_of_ble_eq_true rfl, Nat.le_of_ble_eq_true rfl⟩) ⟨fl_blind, fl_pre hP hK hN⟩ rfl rfl hl.1 rfl (lv_room (Nat.le_of_ble_eq_true rfl)) dX5_named_13 ⟨Nat.le_of_ble_eq_true rfl, Nat.le_of_ble_eq_true rfl⟩) hS (fun _ _ h => h) (fun _ h => h) (fun r13 M13 t H1 locs ht hvm hw hB hz1 hk1 hS => ?_)
    have hP : va_P D vwCl (fmP cI cJ ad M13) H1 := by rw [← ht]; exact hB
    clear hB hk1 hz1 hvm ht t
    obtain ⟨rfl, hE⟩ := hw
    rw [hE] at hP
    refine fl_ti (y := a_b (a_ix w 4)) (a_in0 (n := 3) (by decide)) ?_
    rcases q2 : a_ix w 4 with _ | v
    · refine fl_ti (y := 0) (by first | rfl | (rw [q2]; rfl)) ?_
      refine lv_if_ne (tgt := 22) hx hb dX5_named_16 (by decide) (fun hz => absurd hz (by decide)) (fun _ => ?_)
      refine lv_ldc (v := -1000002) hx hb hown (hts (.constant RX5 92 (-1000002)) (by decide +kernel)) dX5_named_19 ?_
      exact W.iret (v := (-1000002)) hx hb hr (fun t ht hW => ⟨⟨(-1000002), M, rfl, (by have ho : o_named α x w = ((-1000002), α) := (by unfold o_named; first | (rw [q1, q2] <;> rfl) | (simp only [q1, q2])); rw [ho]; exact ⟨rfl, hA⟩), fl_qi ht hP⟩, hS.F ht⟩) hS.2.2 dX5_named_21
    · obtain ⟨q2_1, q2_2, q2_3⟩ := a_ix_some q2
      refine fl_ti (y := 1) (by first | rfl | (rw [q2]; rfl)) ?_
      refine lv_if_ne (tgt := 22) hx hb dX5_named_16 (by decide) (fun _ => ?_) (fun hz => absurd hz (by decide))
      refine lv_aload_n hx hb dX5_named_22 rfl (lv_at hl 0 rfl) ?_
      refine va_get (D := D) (ci := 7) (v := .ref (ad 4)) (C := RX5) (T := TX5) (N := 23) hx hb hts inX5 hown hK hP 0 (fl_at (by decide) rfl) rfl 4 (by decide) (hts (.fieldLink RX5 19 "ResampledRowsModel" "names" "[I") (by decide +kernel)) (fun _ h9 => h9) rfl dX5_named_23 ?_
      refine lv_iload_n hx hb dX5_named_26 rfl (lv_at hl 1 rfl) ?_
      refine fl_ti (y := nI j) q1_2 ?_
      refine fl_ild (n := 6) (k := j) hx hb hK hP (fl_at (by decide) rfl) rfl rfl (by omega) (by decide) dX5_named_27 ?_
      refine fl_ti (y := nI (α.1.2.2.2 j)) ((hT.2.2.2 j q1_1).1) ?_
      refine lv_istore_n (lv' := [(3, .int (nI (α.1.2.2.2 j))), (0, .ref (ad 0)), (1, .int x), (2, .int w)]) hx hb dX5_named_28 rfl hl (by decide) rfl (fun ls hl => ?_)
      refine lv_aload_n hx hb dX5_named_29 rfl (lv_at hl 1 rfl) ?_
      refine va_get (D := D) (ci := 7) (v := .ref (ad 4)) (C := RX5) (T := TX5) (N := 23) hx hb hts inX5 hown hK hP 0 (fl_at (by decide) rfl) rfl 4 (by decide) (hts (.fieldLink RX5 19 "ResampledRowsModel" "names" "[I") (by decide +kernel)) (fun _ h9 => h9) rfl dX5_named_30 ?_
      refine lv_iload_n hx hb dX5_named_33 rfl (lv_at hl 2 rfl) ?_
      refine fl_ti (y := nI j) q1_2 ?_
      refine lv_iload_n hx hb dX5_named_34 rfl (lv_at hl 3 rfl) ?_
      refine fl_ti (y := nI v) q2_2 ?_
      refine fl_ist (n := 6) (k := j) (x := nI v) hx hb hK hJ hP hS (fm_loc cI cJ ad) (fl_at (by decide) rfl) rfl rfl rfl (by omega) (by decide) dX5_named_35 (fun H locs hP hS => ?_)
      refine lv_iload_n hx hb dX5_named_36 rfl (lv_at hl 0 rfl) ?_
      exact W.iret (v := nI (α.1.2.2.2 j)) hx hb hr (fun t ht hW => ⟨⟨nI (α.1.2.2.2 j), (fl_sI M 4 j (nI v)), rfl, (by have ho : o_named α x w = (nI (α.1.2.2.2 j), ((α.1.1, α.1.2.1, α.1.2.2.1, a_set α.1.2.2.2 j v), α.2)) := (by unfold o_named; first | (rw [q1, q2] <;> rfl) | (simp only [q1, q2])); rw [ho]; exact ⟨rfl, hA.tb (by decide) (hT.nm q2_1)⟩), fl_qi ht hP⟩, hS.F ht⟩) hS.2.2 dX5_named_37

set_option maxHeartbeats 4000000 in
set_option maxRecDepth 100000 in
theorem c_X5_move (l : Launch) {D : va_G} {cI cJ cII : ClassId} {ad : Nat → Nat} (hJ : fl_inj 15 ad) (M : fl_M) (α : a_A) (hA : fm_A α M) (x y w : Int32) : Met l yX5_move wsX5_move ({ frames := 2, cells := 0, slots := 0, locals := 42 } : Room) (fmPc D cI cJ cII ad M [.ref (ad 0), .int x, .int y, .int w]) (va_Qi (fun r M2 => r = (o_move α x y w).1 ∧ fm_A (o_move α x y w).2 M2) (fmQ D cI cJ ad) (fl_A 15 ad)) 0 0 (fl_A 15 ad) := by
  refine Met.ofW (cc := cX5_move) (maxL := 5) (ret := (some .int)) (by decide) rfl ?_
  intro p e s m args below meth c s₁ B hml hv
  obtain ⟨rfl, hP, hK, hN⟩ := hv
  have hx := B.exec
  have hb := B.bytes
  have hr := B.returns
  have hts := atoms_spec (ws := wsX5_move) B.pre
  have hown : s.vm.findClass RX5 = some m.cls := findClass_of_methodNamed B.named
  have hlocks := B.notSynchronized
  have inX5 : ∀ w ∈ u_ws RX5 TX5 23, w ∈ wsX5_move := by decide +kernel
  have hS : va_S (fl_A 15 ad) s.heap s.heap [] := va_S.rf
  have hl := lv_entry ([.ref (ad 0), .int x, .int y, .int w] : List Value) (n := 5) (Nat.le_of_ble_eq_true rfl)
  rw [lg_entry_eq]
  generalize (lg_sl ([.ref (ad 0), .int x, .int y, .int w] : List Value) ++ List.replicate (5 - (lg_sl ([.ref (ad 0), .int x, .int y, .int w] : List Value)).length) Slot.unset).toArray = ls at hl ⊢
  have hl : lv_has ls 5 [(0, .ref (ad 0)), (1, .int x), (2, .int y), (3, .int w)] := hl
  obtain ⟨hT, hQ, hsd, hR⟩ := id hA
  refine lv_iload_n hx hb dX5_move_0 rfl (lv_at hl 1 rfl) ?_
  refine va_calli (va_runS (As := [.int x]) (rest := []) ⟨hx, hb, hml, hown, hts⟩ (c_X5_isState l hJ M x) (va_cwS 1 hts gX5_move_X5_isState rfl rfl rfl (by decide +kernel) ⟨Nat.le_of_ble_eq_true rfl, Nat.le_of_ble_eq_true rfl⟩) ⟨fl_blind, fl_pre hP hK hN⟩ rfl rfl hl.1 rfl (lv_room (Nat.le_of_ble_eq_true rfl)) dX5_move_1 ⟨Nat.le_of_ble_eq_true rfl, Nat.le_of_ble_eq_true rfl⟩) hS (fun _ _ h => h) (fun _ h => h) (fun r1 M1 t H1 locs ht hvm hw hB hz1 hk1 hS => ?_)
  have hP : va_P D vwCl (fmP cI cJ ad M1) H1 := by rw [← ht]; exact hB
  clear hB hk1 hz1 hvm ht t
  obtain ⟨rfl, hE⟩ := hw
  rw [hE] at hP
  rcases q1 : a_ix x 6 with _ | i
  · refine fl_ti (y := 0) (by first | rfl | (rw [q1]; rfl)) ?_
    refine lv_if_eq (tgt := 14) hx hb dX5_move_4 (by decide) (fun _ => ?_) (fun hz => absurd (by decide) hz)
    refine lv_ldc (v := -1000001) hx hb hown (hts (.constant RX5 91 (-1000001)) (by decide +kernel)) dX5_move_14 ?_
    exact W.iret (v := (-1000001)) hx hb hr (fun t ht hW => ⟨⟨(-1000001), M, rfl, (by have ho : o_move α x y w = ((-1000001), α) := (by unfold o_move; first | (rw [q1] <;> rfl) | (simp only [q1])); rw [ho]; exact ⟨rfl, hA⟩), fl_qi ht hP⟩, hS.F ht⟩) hS.2.2 dX5_move_16
  · obtain ⟨q1_1, q1_2, q1_3⟩ := a_ix_some q1
    refine fl_ti (y := 1) (by first | rfl | (rw [q1]; rfl)) ?_
    refine lv_if_eq (tgt := 14) hx hb dX5_move_4 (by decide) (fun hz => absurd hz (by decide)) (fun _ => ?_)
    refine lv_iload_n hx hb dX5_move_7 rfl (lv_at hl 2 rfl) ?_
    refine va_calli (va_runS (As := [.int y]) (rest := []) ⟨hx, hb, hml, hown, hts⟩ (c_X5_isState l hJ M y) (va_cwS 1 hts gX5_move_X5_isState rfl rfl rfl (by decide +kernel) ⟨Nat.le_of_ble_eq_true rfl, Nat.le_of_ble_eq_true rfl⟩) ⟨fl_blind, fl_pre hP hK hN⟩ rfl rfl hl.1 rfl (lv_room (Nat.le_of_ble_eq_true rfl)) dX5_move_8 ⟨Nat.le_of_ble_eq_true rfl, Nat.le_of_ble_eq_true rfl⟩) hS (fun _ _ h => h) (fun _ h => h) (fun r8 M8 t H1 locs ht hvm hw hB hz1 hk1 hS => ?_)
    have hP : va_P D vwCl (fmP cI cJ ad M8) H1 := by rw [← ht]; exact hB
    clear hB hk1 hz1 hvm ht t
    obtain ⟨rfl, hE⟩ := hw
    rw [hE] at hP
    rcases q2 : a_ix y 6 with _ | j
    · refine fl_ti (y := 0) (by first | rfl | (rw [q2]; rfl)) ?_
      refine lv_if_ne (tgt := 17) hx hb dX5_move_11 (by decide) (fun hz => absurd hz (by decide)) (fun _ => ?_)
      refine lv_ldc (v := -1000001) hx hb hown (hts (.constant RX5 91 (-1000001)) (by decide +kernel)) dX5_move_14 ?_
      exact W.iret (v := (-1000001)) hx hb hr (fun t ht hW => ⟨⟨(-1000001), M, rfl, (by have ho : o_move α x y w = ((-1000001), α) := (by unfold o_move; first | (rw [q1, q2] <;> rfl) | (simp only [q1, q2])); rw [ho]; exact ⟨rfl, hA⟩), fl_qi ht hP⟩, hS.F ht⟩) hS.2.2 dX5_move_16
    · obtain ⟨q2_1, q2_2, q2_3⟩ := a_ix_some q2
      refine fl_ti (y := 1) (by first | rfl | (rw [q2]; rfl)) ?_
      refine lv_if_ne (tgt := 17) hx hb dX5_move_11 (by decide) (fun _ => ?_) (fun hz => absurd hz (by decide))
      refine lv_iload_n hx hb dX5_move_17 rfl (lv_at hl 3 rfl) ?_
      refine lv_iconst (v := 0) hx hb dX5_move_18 (by decide) ?_
      refine lv_bipush (v := 9) hx hb dX5_move_19 (by decide) ?_
      refine va_calli (va_runS (As := [.int w, .int 0, .int 9]) (rest := []) ⟨hx, hb, hml, hown, hts⟩ (c_X5_in l hJ M w 0 9) (va_cwS 3 hts gX5_move_X5_in rfl rfl rfl (by decide +kernel) ⟨Nat.le_of_ble_eq_true rfl, Nat.le_of_ble_eq_true rfl⟩) ⟨fl_blind, fl_pre hP hK hN⟩ rfl rfl hl.1 rfl (lv_room (Nat.le_of_ble_eq_true rfl)) dX5_move_21 ⟨Nat.le_of_ble_eq_true rfl, Nat.le_of_ble_eq_true rfl⟩) hS (fun _ _ h => h) (fun _ h => h) (fun r21 M21 t H1 locs ht hvm hw hB hz1 hk1 hS => ?_)
      have hP : va_P D vwCl (fmP cI cJ ad M21) H1 := by rw [← ht]; exact hB
      clear hB hk1 hz1 hvm ht t
      obtain ⟨rfl, hE⟩ := hw
      rw [hE] at hP
      refine fl_ti (y := a_b (a_ix w 10)) (a_in0 (n := 9) (by decide)) ?_
      rcases q3 : a_ix w 10 with _ | v
      · refine fl_ti (y := 0) (by first | rfl | (rw [q3]; rfl)) ?_
        refine lv_if_ne (tgt := 30) hx hb dX5_move_24 (by decide) (fun hz => absurd hz (by decide)) (fun _ => ?_)
        refine lv_ldc (v := -1000002) hx hb hown (hts (.constant RX5 92 (-1000002)) (by decide +kernel)) dX5_move_27 ?_
        exact W.iret (v := (-1000002)) hx hb hr (fun t ht hW => ⟨⟨(-1000002), M, rfl, (by have ho : o_move α x y w = ((-1000002), α) := (by unfold o_move; first | (rw [q1, q2, q3] <;> rfl) | (simp only [q1, q2, q3])); rw [ho]; exact ⟨rfl, hA⟩), fl_qi ht hP⟩, hS.F ht⟩) hS.2.2 dX5_move_29
      · obtain ⟨q3_1, q3_2, q3_3⟩ := a_ix_some q3
        refine fl_ti (y := 1) (by first | rfl | (rw [q3]; rfl)) ?_
        refine lv_if_ne (tgt := 30) hx hb dX5_move_24 (by decide) (fun _ => ?_) (fun hz => absurd hz (by decide))
        refine lv_aload_n hx hb dX5_move_30 rfl (lv_at hl 0 rfl) ?_
        refine va_get (D := D) (ci := 7) (v := .ref (ad 2)) (C := RX5) (T := TX5) (N := 23) hx hb hts inX5 hown hK hP 0 (fl_at (by decide) rfl) rfl 2 (by decide) (hts (.fieldLink RX5 13 "ResampledRowsModel" "moves" "[I") (by decide +kernel)) (fun _ h9 => h9) rfl dX5_move_31 ?_
        refine lv_bipush (v := 6) hx hb dX5_move_34 (by decide) ?_
        refine lv_iload_n hx hb dX5_move_36 rfl (lv_at hl 1 rfl) ?_
        refine fl_ti (y := nI i) q1_2 ?_
        refine lv_imul hx hb dX5_move_37 ?_
        refine fl_ti (y := nI (6 * i)) (pk_mul 6 i) ?_
        refine lv_iload_n hx hb dX5_move_38 rfl (lv_at hl 2 rfl) ?_
        refine fl_ti (y := nI j) q2_2 ?_
        refine lv_iadd hx hb dX5_move_39 ?_
        refine fl_ti (y := nI (6 * i + j)) (nI_add _ _) ?_
        refine fl_ild (n := 36) (k := (6 * i + j)) hx hb hK hP (fl_at (by decide) rfl) rfl rfl (by omega) (by decide) dX5_move_40 ?_
        refine fl_ti (y := nI (α.1.2.1 i j)) ((hT.2.1 i q1_1 j q2_1).1) ?_
        refine lv_istore (lv' := [(4, .int (nI (α.1.2.1 i j))), (0, .ref (ad 0)), (1, .int x), (2, .int y), (3, .int w)]) hx hb dX5_move_41 hl (by decide) rfl (fun ls hl => ?_)
        refine lv_aload_n hx hb dX5_move_43 rfl (lv_at hl 1 rfl) ?_
        refine va_get (D := D) (ci := 7) (v := .ref (ad 2)) (C := RX5) (T := TX5) (N := 23) hx hb hts inX5 hown hK hP 0 (fl_at (by decide) rfl) rfl 2 (by decide) (hts (.fieldLink RX5 13 "ResampledRowsModel" "moves" "[I") (by decide +kernel)) (fun _ h9 => h9) rfl dX5_move_44 ?_
        refine lv_bipush (v := 6) hx hb dX5_move_47 (by decide) ?_
        refine lv_iload_n hx hb dX5_move_49 rfl (lv_at hl 2 rfl) ?_
        refine fl_ti (y := nI i) q1_2 ?_
        refine lv_imul hx hb dX5_move_50 ?_
        refine fl_ti (y := nI (6 * i)) (pk_mul 6 i) ?_
        refine lv_iload_n hx hb dX5_move_51 rfl (lv_at hl 3 rfl) ?_
        refine fl_ti (y := nI j) q2_2 ?_
        refine lv_iadd hx hb dX5_move_52 ?_
        refine fl_ti (y := nI (6 * i + j)) (nI_add _ _) ?_
        refine lv_iload_n hx hb dX5_move_53 rfl (lv_at hl 4 rfl) ?_
        refine fl_ti (y := nI v) q3_2 ?_
        refine fl_ist (n := 36) (k := (6 * i + j)) (x := nI v) hx hb hK hJ hP hS (fm_loc cI cJ ad) (fl_at (by decide) rfl) rfl rfl rfl (by omega) (by decide) dX5_move_54 (fun H locs hP hS => ?_)
        refine lv_iload hx hb dX5_move_55 (lv_at hl 0 rfl) ?_
        exact W.iret (v := nI (α.1.2.1 i j)) hx hb hr (fun t ht hW => ⟨⟨nI (α.1.2.1 i j), (fl_sI M 2 (6 * i + j) (nI v)), rfl, (by have ho : o_move α x y w = (nI (α.1.2.1 i j), ((α.1.1, a_set2 α.1.2.1 i j v, α.1.2.2), α.2)) := (by unfold o_move; first | (rw [q1, q2, q3] <;> rfl) | (simp only [q1, q2, q3])); rw [ho]; exact ⟨rfl, hA.tb (by decide) (hT.mv q2_1 q3_1)⟩), fl_qi ht hP⟩, hS.F ht⟩) hS.2.2 dX5_move_57

set_option maxHeartbeats 4000000 in
set_option maxRecDepth 100000 in
theorem c_X5_seen (l : Launch) {D : va_G} {cI cJ cII : ClassId} {ad : Nat → Nat} (hJ : fl_inj 15 ad) (M : fl_M) (α : a_A) (hA : fm_A α M) (x y w : Int32) : Met l yX5_seen wsX5_seen ({ frames := 2, cells := 0, slots := 0, locals := 42 } : Room) (fmPc D cI cJ cII ad M [.ref (ad 0), .int x, .int y, .int w]) (va_Qi (fun r M2 => r = (o_seen α x y w).1 ∧ fm_A (o_seen α x y w).2 M2) (fmQ D cI cJ ad) (fl_A 15 ad)) 0 0 (fl_A 15 ad) := by
  refine Met.ofW (cc := cX5_seen) (maxL := 5) (ret := (some .int)) (by decide) rfl ?_
  intro p e s m args below meth c s₁ B hml hv
  obtain ⟨rfl, hP, hK, hN⟩ := hv
  have hx := B.exec
  have hb := B.bytes
  have hr := B.returns
  have hts := atoms_spec (ws := wsX5_seen) B.pre
  have hown : s.vm.findClass RX5 = some m.cls := findClass_of_methodNamed B.named
  have hlocks := B.notSynchronized
  have inX5 : ∀ w ∈ u_ws RX5 TX5 23, w ∈ wsX5_seen := by decide +kernel
  have hS : va_S (fl_A 15 ad) s.heap s.heap [] := va_S.rf
  have hl := lv_entry ([.ref (ad 0), .int x, .int y, .int w] : List Value) (n := 5) (Nat.le_of_ble_eq_true rfl)
  rw [lg_entry_eq]
  generalize (lg_sl ([.ref (ad 0), .int x, .int y, .int w] : List Value) ++ List.replicate (5 - (lg_sl ([.ref (ad 0), .int x, .int y, .int w] : List Value)).length) Slot.unset).toArray = ls at hl ⊢
  have hl : lv_has ls 5 [(0, .ref (ad 0)), (1, .int x), (2, .int y), (3, .int w)] := hl
  obtain ⟨hT, hQ, hsd, hR⟩ := id hA
  refine lv_iload_n hx hb dX5_seen_0 rfl (lv_at hl 1 rfl) ?_
  refine lv_iconst (v := 0) hx hb dX5_seen_1 (by decide) ?_
  refine lv_iconst (v := 4) hx hb dX5_seen_2 (by decide) ?_
  refine va_calli (va_runS (As := [.int x, .int 0, .int 4]) (rest := []) ⟨hx, hb, hml, hown, hts⟩ (c_X5_in l hJ M x 0 4) (va_cwS 3 hts gX5_seen_X5_in rfl rfl rfl (by decide +kernel) ⟨Nat.le_of_ble_eq_true rfl, Nat.le_of_ble_eq_true rfl⟩) ⟨fl_blind, fl_pre hP hK hN⟩ rfl rfl hl.1 rfl (lv_room (Nat.le_of_ble_eq_true rfl)) dX5_seen_3 ⟨Nat.le_of_ble_eq_true rfl, Nat.le_of_ble_eq_true rfl⟩) hS (fun _ _ h => h) (fun _ h => h) (fun r3 M3 t H1 locs ht hvm hw hB hz1 hk1 hS => ?_)
  have hP : va_P D vwCl (fmP cI cJ ad M3) H1 := by rw [← ht]; exact hB
  clear hB hk1 hz1 hvm ht t
  obtain ⟨rfl, hE⟩ := hw
  rw [hE] at hP
  refine fl_ti (y := a_b (a_ix x 5)) (a_in0 (n := 4) (by decide)) ?_
  rcases q1 : a_ix x 5 with _ | i
  · refine fl_ti (y := 0) (by first | rfl | (rw [q1]; rfl)) ?_
    refine lv_if_eq (tgt := 16) hx hb dX5_seen_6 (by decide) (fun _ => ?_) (fun hz => absurd (by decide) hz)
    refine lv_ldc (v := -1000001) hx hb hown (hts (.constant RX5 91 (-1000001)) (by decide +kernel)) dX5_seen_16 ?_
    exact W.iret (v := (-1000001)) hx hb hr (fun t ht hW => ⟨⟨(-1000001), M, rfl, (by have ho : o_seen α x y w = ((-1000001), α) := (by unfold o_seen; first | (rw [q1] <;> rfl) | (simp only [q1])); rw [ho]; exact ⟨rfl, hA⟩), fl_qi ht hP⟩, hS.F ht⟩) hS.2.2 dX5_seen_18
  · obtain ⟨q1_1, q1_2, q1_3⟩ := a_ix_some q1
    refine fl_ti (y := 1) (by first | rfl | (rw [q1]; rfl)) ?_
    refine lv_if_eq (tgt := 16) hx hb dX5_seen_6 (by decide) (fun hz => absurd hz (by decide)) (fun _ => ?_)
    refine lv_iload_n hx hb dX5_seen_9 rfl (lv_at hl 2 rfl) ?_
    refine va_calli (va_runS (As := [.int y]) (rest := []) ⟨hx, hb, hml, hown, hts⟩ (c_X5_isState l hJ M y) (va_cwS 1 hts gX5_seen_X5_isState rfl rfl rfl (by decide +kernel) ⟨Nat.le_of_ble_eq_true rfl, Nat.le_of_ble_eq_true rfl⟩) ⟨fl_blind, fl_pre hP hK hN⟩ rfl rfl hl.1 rfl (lv_room (Nat.le_of_ble_eq_true rfl)) dX5_seen_10 ⟨Nat.le_of_ble_eq_true rfl, Nat.le_of_ble_eq_true rfl⟩) hS (fun _ _ h => h) (fun _ h => h) (fun r10 M10 t H1 locs ht hvm hw hB hz1 hk1 hS => ?_)
    have hP : va_P D vwCl (fmP cI cJ ad M10) H1 := by rw [← ht]; exact hB
    clear hB hk1 hz1 hvm ht t
    obtain ⟨rfl, hE⟩ := hw
    rw [hE] at hP
    rcases q2 : a_ix y 6 with _ | j
    · refine fl_ti (y := 0) (by first | rfl | (rw [q2]; rfl)) ?_
      refine lv_if_ne (tgt := 19) hx hb dX5_seen_13 (by decide) (fun hz => absurd hz (by decide)) (fun _ => ?_)
      refine lv_ldc (v := -1000001) hx hb hown (hts (.constant RX5 91 (-1000001)) (by decide +kernel)) dX5_seen_16 ?_
      exact W.iret (v := (-1000001)) hx hb hr (fun t ht hW => ⟨⟨(-1000001), M, rfl, (by have ho : o_seen α x y w = ((-1000001), α) := (by unfold o_seen; first | (rw [q1, q2] <;> rfl) | (simp only [q1, q2])); rw [ho]; exact ⟨rfl, hA⟩), fl_qi ht hP⟩, hS.F ht⟩) hS.2.2 dX5_seen_18
    · obtain ⟨q2_1, q2_2, q2_3⟩ := a_ix_some q2
      refine fl_ti (y := 1) (by first | rfl | (rw [q2]; rfl)) ?_
      refine lv_if_ne (tgt := 19) hx hb dX5_seen_13 (by decide) (fun _ => ?_) (fun hz => absurd hz (by decide))
      refine lv_iload_n hx hb dX5_seen_19 rfl (lv_at hl 3 rfl) ?_
      refine lv_iconst (v := 0) hx hb dX5_seen_20 (by decide) ?_
      refine lv_bipush (v := 9) hx hb dX5_seen_21 (by decide) ?_
      refine va_calli (va_runS (As := [.int w, .int 0, .int 9]) (rest := []) ⟨hx, hb, hml, hown, hts⟩ (c_X5_in l hJ M w 0 9) (va_cwS 3 hts gX5_seen_X5_in rfl rfl rfl (by decide +kernel) ⟨Nat.le_of_ble_eq_true rfl, Nat.le_of_ble_eq_true rfl⟩) ⟨fl_blind, fl_pre hP hK hN⟩ rfl rfl hl.1 rfl (lv_room (Nat.le_of_ble_eq_true rfl)) dX5_seen_23 ⟨Nat.le_of_ble_eq_true rfl, Nat.le_of_ble_eq_true rfl⟩) hS (fun _ _ h => h) (fun _ h => h) (fun r23 M23 t H1 locs ht hvm hw hB hz1 hk1 hS => ?_)
      have hP : va_P D vwCl (fmP cI cJ ad M23) H1 := by rw [← ht]; exact hB
      clear hB hk1 hz1 hvm ht t
      obtain ⟨rfl, hE⟩ := hw
      rw [hE] at hP
      refine fl_ti (y := a_b (a_ix w 10)) (a_in0 (n := 9) (by decide)) ?_
      rcases q3 : a_ix w 10 with _ | v
      · refine fl_ti (y := 0) (by first | rfl | (rw [q3]; rfl)) ?_
        refine lv_if_ne (tgt := 32) hx hb dX5_seen_26 (by decide) (fun hz => absurd hz (by decide)) (fun _ => ?_)
        refine lv_ldc (v := -1000002) hx hb hown (hts (.constant RX5 92 (-1000002)) (by decide +kernel)) dX5_seen_29 ?_
        exact W.iret (v := (-1000002)) hx hb hr (fun t ht hW => ⟨⟨(-1000002), M, rfl, (by have ho : o_seen α x y w = ((-1000002), α) := (by unfold o_seen; first | (rw [q1, q2, q3] <;> rfl) | (simp only [q1, q2, q3])); rw [ho]; exact ⟨rfl, hA⟩), fl_qi ht hP⟩, hS.F ht⟩) hS.2.2 dX5_seen_31
      · obtain ⟨q3_1, q3_2, q3_3⟩ := a_ix_some q3
        refine fl_ti (y := 1) (by first | rfl | (rw [q3]; rfl)) ?_
        refine lv_if_ne (tgt := 32) hx hb dX5_seen_26 (by decide) (fun _ => ?_) (fun hz => absurd hz (by decide))
        refine lv_aload_n hx hb dX5_seen_32 rfl (lv_at hl 0 rfl) ?_
        refine va_get (D := D) (ci := 7) (v := .ref (ad 3)) (C := RX5) (T := TX5) (N := 23) hx hb hts inX5 hown hK hP 0 (fl_at (by decide) rfl) rfl 3 (by decide) (hts (.fieldLink RX5 16 "ResampledRowsModel" "sights" "[I") (by decide +kernel)) (fun _ h9 => h9) rfl dX5_seen_33 ?_
        refine lv_bipush (v := 6) hx hb dX5_seen_36 (by decide) ?_
        refine lv_iload_n hx hb dX5_seen_38 rfl (lv_at hl 1 rfl) ?_
        refine fl_ti (y := nI i) q1_2 ?_
        refine lv_imul hx hb dX5_seen_39 ?_
        refine fl_ti (y := nI (6 * i)) (pk_mul 6 i) ?_
        refine lv_iload_n hx hb dX5_seen_40 rfl (lv_at hl 2 rfl) ?_
        refine fl_ti (y := nI j) q2_2 ?_
        refine lv_iadd hx hb dX5_seen_41 ?_
        refine fl_ti (y := nI (6 * i + j)) (nI_add _ _) ?_
        refine fl_ild (n := 30) (k := (6 * i + j)) hx hb hK hP (fl_at (by decide) rfl) rfl rfl (by omega) (by decide) dX5_seen_42 ?_
        refine fl_ti (y := nI (α.1.2.2.1 i j)) ((hT.2.2.1 i q1_1 j q2_1).1) ?_
        refine lv_istore (lv' := [(4, .int (nI (α.1.2.2.1 i j))), (0, .ref (ad 0)), (1, .int x), (2, .int y), (3, .int w)]) hx hb dX5_seen_43 hl (by decide) rfl (fun ls hl => ?_)
        refine lv_aload_n hx hb dX5_seen_45 rfl (lv_at hl 1 rfl) ?_
        refine va_get (D := D) (ci := 7) (v := .ref (ad 3)) (C := RX5) (T := TX5) (N := 23) hx hb hts inX5 hown hK hP 0 (fl_at (by decide) rfl) rfl 3 (by decide) (hts (.fieldLink RX5 16 "ResampledRowsModel" "sights" "[I") (by decide +kernel)) (fun _ h9 => h9) rfl dX5_seen_46 ?_
        refine lv_bipush (v := 6) hx hb dX5_seen_49 (by decide) ?_
        refine lv_iload_n hx hb dX5_seen_51 rfl (lv_at hl 2 rfl) ?_
        refine fl_ti (y := nI i) q1_2 ?_
        refine lv_imul hx hb dX5_seen_52 ?_
        refine fl_ti (y := nI (6 * i)) (pk_mul 6 i) ?_
        refine lv_iload_n hx hb dX5_seen_53 rfl (lv_at hl 3 rfl) ?_
        refine fl_ti (y := nI j) q2_2 ?_
        refine lv_iadd hx hb dX5_seen_54 ?_
        refine fl_ti (y := nI (6 * i + j)) (nI_add _ _) ?_
        refine lv_iload_n hx hb dX5_seen_55 rfl (lv_at hl 4 rfl) ?_
        refine fl_ti (y := nI v) q3_2 ?_
        refine fl_ist (n := 30) (k := (6 * i + j)) (x := nI v) hx hb hK hJ hP hS (fm_loc cI cJ ad) (fl_at (by decide) rfl) rfl rfl rfl (by omega) (by decide) dX5_seen_56 (fun H locs hP hS => ?_)
        refine lv_iload hx hb dX5_seen_57 (lv_at hl 0 rfl) ?_
        exact W.iret (v := nI (α.1.2.2.1 i j)) hx hb hr (fun t ht hW => ⟨⟨nI (α.1.2.2.1 i j), (fl_sI M 3 (6 * i + j) (nI v)), rfl, (by have ho : o_seen α x y w = (nI (α.1.2.2.1 i j), ((α.1.1, α.1.2.1, a_set2 α.1.2.2.1 i j v, α.1.2.2.2), α.2)) := (by unfold o_seen; first | (rw [q1, q2, q3] <;> rfl) | (simp only [q1, q2, q3])); rw [ho]; exact ⟨rfl, hA.tb (by decide) (hT.sn q2_1 q3_1)⟩), fl_qi ht hP⟩, hS.F ht⟩) hS.2.2 dX5_seen_59

set_option maxHeartbeats 4000000 in
set_option maxRecDepth 100000 in
theorem c_X5_force (l : Launch) {D : va_G} {cI cJ cII : ClassId} {ad : Nat → Nat} (hJ : fl_inj 15 ad) (M : fl_M) (α : a_A) (hA : fm_A α M) (x : Int32) : Met l yX5_force wsX5_force ({ frames := 0, cells := 0, slots := 0, locals := 0 } : Room) (fmPc D cI cJ cII ad M [.ref (ad 0), .int x]) (va_Qi (fun r M2 => r = (o_force α x).1 ∧ fm_A (o_force α x).2 M2) (fmQ D cI cJ ad) (fl_A 15 ad)) 0 0 (fl_A 15 ad) := by
  refine Met.ofW (cc := cX5_force) (maxL := 2) (ret := (some .int)) (by decide) rfl ?_
  intro p e s m args below meth c s₁ B hml hv
  obtain ⟨rfl, hP, hK, hN⟩ := hv
  have hx := B.exec
  have hb := B.bytes
  have hr := B.returns
  have hts := atoms_spec (ws := wsX5_force) B.pre
  have hown : s.vm.findClass RX5 = some m.cls := findClass_of_methodNamed B.named
  have hlocks := B.notSynchronized
  have inX5 : ∀ w ∈ u_ws RX5 TX5 23, w ∈ wsX5_force := by decide +kernel
  have hS : va_S (fl_A 15 ad) s.heap s.heap [] := va_S.rf
  have hl := lv_entry ([.ref (ad 0), .int x] : List Value) (n := 2) (Nat.le_of_ble_eq_true rfl)
  rw [lg_entry_eq]
  generalize (lg_sl ([.ref (ad 0), .int x] : List Value) ++ List.replicate (2 - (lg_sl ([.ref (ad 0), .int x] : List Value)).length) Slot.unset).toArray = ls at hl ⊢
  have hl : lv_has ls 2 [(0, .ref (ad 0)), (1, .int x)] := hl
  obtain ⟨hT, hQ, hsd, hR⟩ := id hA
  have hq64 := hQ.2.1
  refine lv_iload_n hx hb dX5_force_0 rfl (lv_at hl 1 rfl) ?_
  refine lv_if_lt (tgt := 13) hx hb dX5_force_1 (by decide) (fun hc1 => ?_) (fun hc1 => ?_)
  · have hq : a_ix x 2147483648 = none := a_ix_neg hc1
    refine lv_ldc (v := -1000002) hx hb hown (hts (.constant RX5 92 (-1000002)) (by decide +kernel)) dX5_force_13 ?_
    exact W.iret (v := (-1000002)) hx hb hr (fun t ht hW => ⟨⟨(-1000002), M, rfl, (by have ho : o_force α x = (-1000002, α) := (by unfold o_force; rw [hq]; skip); rw [ho]; exact ⟨rfl, hA⟩), fl_qi ht hP⟩, hS.F ht⟩) hS.2.2 dX5_force_15
  · have hq := a_ix_big hc1
    obtain ⟨hx1, hx2⟩ := fl_nat hc1
    refine lv_aload_n hx hb dX5_force_4 rfl (lv_at hl 0 rfl) ?_
    refine va_get (D := D) (ci := 7) (v := .int (M.1 0 6)) (C := RX5) (T := TX5) (N := 23) hx hb hts inX5 hown hK hP 0 (fl_at (by decide) rfl) rfl 6 (by decide) (hts (.fieldLink RX5 60 "ResampledRowsModel" "forcedMany" "I") (by decide +kernel)) (fun _ h9 => h9) rfl dX5_force_5 ?_
    refine fl_ti (y := nI α.2.1.1.length) hQ.1 ?_
    refine lv_bipush (v := 64) hx hb dX5_force_8 (by decide) ?_
    refine lv_icmp_ne (tgt := 16) hx hb dX5_force_10 (by decide) (fun hc10 => ?_) (fun hc10 => ?_)
    · have hl6 : α.2.1.1.length < 64 := Nat.lt_of_le_of_ne hq64 (fun z => hc10 (by rw [z]; rfl))
      refine lv_aload_n hx hb dX5_force_16 rfl (lv_at hl 0 rfl) ?_
      refine va_get (D := D) (ci := 7) (v := .ref (ad 5)) (C := RX5) (T := TX5) (N := 23) hx hb hts inX5 hown hK hP 0 (fl_at (by decide) rfl) rfl 5 (by decide) (hts (.fieldLink RX5 22 "ResampledRowsModel" "forced" "[I") (by decide +kernel)) (fun _ h9 => h9) rfl dX5_force_17 ?_
      refine lv_aload_n hx hb dX5_force_20 rfl (lv_at hl 0 rfl) ?_
      refine va_get (D := D) (ci := 7) (v := .int (M.1 0 6)) (C := RX5) (T := TX5) (N := 23) hx hb hts inX5 hown hK hP 0 (fl_at (by decide) rfl) rfl 6 (by decide) (hts (.fieldLink RX5 60 "ResampledRowsModel" "forcedMany" "I") (by decide +kernel)) (fun _ h9 => h9) rfl dX5_force_21 ?_
      refine fl_ti (y := nI α.2.1.1.length) hQ.1 ?_
      refine lv_iload_n hx hb dX5_force_24 rfl (lv_at hl 1 rfl) ?_
      refine fl_ti (y := nI x.toNatClampNeg) hx1 ?_
      refine fl_ist (n := 64) (k := α.2.1.1.length) (x := nI x.toNatClampNeg) hx hb hK hJ hP hS (fm_loc cI cJ ad) (fl_at (by decide) rfl) rfl rfl rfl (by omega) (by decide) dX5_force_25 (fun H locs hP hS => ?_)
      refine lv_aload_n hx hb dX5_force_26 rfl (lv_at hl 0 rfl) ?_
      refine lv_dup hx hb dX5_force_27 rfl ?_
      refine va_get (D := D) (ci := 7) (v := .int (M.1 0 6)) (C := RX5) (T := TX5) (N := 23) hx hb hts inX5 hown hK hP 0 (fl_at (by decide) rfl) rfl 6 (by decide) (hts (.fieldLink RX5 60 "ResampledRowsModel" "forcedMany" "I") (by decide +kernel)) (fun _ h9 => h9) rfl dX5_force_28 ?_
      refine fl_ti (y := nI α.2.1.1.length) hQ.1 ?_
      refine lv_iconst (v := 1) hx hb dX5_force_31 (by decide) ?_
      refine lv_iadd hx hb dX5_force_32 ?_
      refine fl_ti (y := nI (α.2.1.1.length + 1)) (nI_1 _) ?_
      refine fl_put (ci := 7) (ty := .int) (v := .int (nI (α.2.1.1.length + 1))) (C := RX5) (T := TX5) (Nf := 23) hx hb hts inX5 tyX5 tyX5_ok nmX5 hown hK hJ hP hS 0 (by decide) (fl_sI (fl_sI M 5 (α.2.1.1.length) (nI x.toNatClampNeg)) 0 6 (nI (α.2.1.1.length + 1))) rfl rfl 6 (by decide) (hts (.fieldLink RX5 60 "ResampledRowsModel" "forcedMany" "I") (by decide +kernel)) (fun _ h9 => h9) rfl (by decide +kernel) rfl rfl (Nat.le_of_ble_eq_true rfl) rfl (fl_sI_o (fm_loc cI cJ ad) _ _ _ _) dX5_force_33 (fun H locs hP hS => ?_)
      refine lv_aload_n hx hb dX5_force_36 rfl (lv_at hl 0 rfl) ?_
      refine va_get (D := D) (ci := 7) (v := .int (nI (α.2.1.1.length + 1))) (C := RX5) (T := TX5) (N := 23) hx hb hts inX5 hown hK hP 0 (fl_at (by decide) rfl) rfl 6 (by decide) (hts (.fieldLink RX5 60 "ResampledRowsModel" "forcedMany" "I") (by decide +kernel)) (fun _ h9 => h9) rfl dX5_force_37 ?_
      exact W.iret (v := nI (α.2.1.1.length + 1)) hx hb hr (fun t ht hW => ⟨⟨nI (α.2.1.1.length + 1), (fl_sI (fl_sI M 5 (α.2.1.1.length) (nI x.toNatClampNeg)) 0 6 (nI (α.2.1.1.length + 1))), rfl, (by have ho : o_force α x = (nI (α.2.1.1.length + 1), (α.1, (α.2.1.1 ++ [x.toNatClampNeg], α.2.1.2), α.2.2)) := (by unfold o_force; rw [hq]; exact if_pos hl6); have he : fp (fun c k => c ≠ 5 ∧ ¬ (c = 0 ∧ k = 6)) M (fl_sI (fl_sI M 5 α.2.1.1.length (nI x.toNatClampNeg)) 0 6 (nI (α.2.1.1.length + 1))) := (fp.rf.sI (by omega) _).sI (by omega) _; rw [ho]; exact ⟨rfl, hT.eq he (fun c k a b => by omega), fm_Q_add hQ hl6 hx2, fun hn => hsd hn, hR.eq he (fun k a b c => by omega) (fun c k a b => by omega)⟩), fl_qi ht hP⟩, hS.F ht⟩) hS.2.2 dX5_force_40
    · have hl6 : ¬ α.2.1.1.length < 64 := by have := (nI_eq (b := 64) (by omega) (by decide)).mp hc10; omega
      refine lv_ldc (v := -1000002) hx hb hown (hts (.constant RX5 92 (-1000002)) (by decide +kernel)) dX5_force_13 ?_
      exact W.iret (v := (-1000002)) hx hb hr (fun t ht hW => ⟨⟨(-1000002), M, rfl, (by have ho : o_force α x = (-1000002, α) := (by unfold o_force; rw [hq]; exact if_neg hl6); rw [ho]; exact ⟨rfl, hA⟩), fl_qi ht hP⟩, hS.F ht⟩) hS.2.2 dX5_force_15

set_option maxHeartbeats 4000000 in
set_option maxRecDepth 100000 in
theorem c_X5_keep (l : Launch) {D : va_G} {cI cJ cII : ClassId} {ad : Nat → Nat} (hJ : fl_inj 15 ad) (M : fl_M) (α : a_A) (hA : fm_A α M) (x : Int32) : Met l yX5_keep wsX5_keep ({ frames := 2, cells := 0, slots := 0, locals := 43 } : Room) (fmPc D cI cJ cII ad M [.ref (ad 0), .int x]) (va_Qi (fun r M2 => r = (o_keep α x).1 ∧ fm_A (o_keep α x).2 M2) (fmQ D cI cJ ad) (fl_A 15 ad)) 0 0 (fl_A 15 ad) := by
  refine Met.ofW (cc := cX5_keep) (maxL := 3) (ret := (some .int)) (by decide) rfl ?_
  intro p e s m args below meth c s₁ B hml hv
  obtain ⟨rfl, hP, hK, hN⟩ := hv
  have hx := B.exec
  have hb := B.bytes
  have hr := B.returns
  have hts := atoms_spec (ws := wsX5_keep) B.pre
  have hown : s.vm.findClass RX5 = some m.cls := findClass_of_methodNamed B.named
  have hlocks := B.notSynchronized
  have inX5 : ∀ w ∈ u_ws RX5 TX5 23, w ∈ wsX5_keep := by decide +kernel
  have hS : va_S (fl_A 15 ad) s.heap s.heap [] := va_S.rf
  have hl := lv_entry ([.ref (ad 0), .int x] : List Value) (n := 3) (Nat.le_of_ble_eq_true rfl)
  rw [lg_entry_eq]
  generalize (lg_sl ([.ref (ad 0), .int x] : List Value) ++ List.replicate (3 - (lg_sl ([.ref (ad 0), .int x] : List Value)).length) Slot.unset).toArray = ls at hl ⊢
  have hl : lv_has ls 3 [(0, .ref (ad 0)), (1, .int x)] := hl
  obtain ⟨hT, hQ, hsd, hR⟩ := id hA
  refine lv_aload_n hx hb dX5_keep_0 rfl (lv_at hl 0 rfl) ?_
  refine va_get (D := D) (ci := 7) (v := .int (M.1 0 7)) (C := RX5) (T := TX5) (N := 23) hx hb hts inX5 hown hK hP 0 (fl_at (by decide) rfl) rfl 7 (by decide) (hts (.fieldLink RX5 66 "ResampledRowsModel" "rows" "I") (by decide +kernel)) (fun _ h9 => h9) rfl dX5_keep_1 ?_
  refine fl_ti (y := nI (r_n α.2.2)) hR.1.2 ?_
  refine lv_if_ne (tgt := 10) hx hb dX5_keep_4 (by decide) (fun hc4 => ?_) (fun hc4 => ?_)
  · have hn0 : ¬ r_n α.2.2 = 0 := fun z => hc4 (by rw [z]; rfl)
    refine lv_iload_n hx hb dX5_keep_10 rfl (lv_at hl 1 rfl) ?_
    refine lv_ldc (v := -1000009) hx hb hown (hts (.constant RX5 75 (-1000009)) (by decide +kernel)) dX5_keep_11 ?_
    refine lv_icmp_eq (tgt := 27) hx hb dX5_keep_13 (by decide) (fun hc13 => ?_) (fun hc13 => ?_)
    · refine lv_aload_n hx hb dX5_keep_27 rfl (lv_at hl 0 rfl) ?_
      refine va_get (D := D) (ci := 7) (v := .int (M.1 0 14)) (C := RX5) (T := TX5) (N := 23) hx hb hts inX5 hown hK hP 0 (fl_at (by decide) rfl) rfl 14 (by decide) (hts (.fieldLink RX5 76 "ResampledRowsModel" "kept" "I") (by decide +kernel)) (fun _ h9 => h9) rfl dX5_keep_28 ?_
      refine fl_ti (y := a_oI (r_kp α.2.2) (-1000009)) hR.2.2.2.1.1 ?_
      refine lv_istore_n (lv' := [(2, .int (a_oI (r_kp α.2.2) (-1000009))), (0, .ref (ad 0)), (1, .int x)]) hx hb dX5_keep_31 rfl hl (by decide) rfl (fun ls hl => ?_)
      refine lv_aload_n hx hb dX5_keep_32 rfl (lv_at hl 1 rfl) ?_
      refine lv_iload_n hx hb dX5_keep_33 rfl (lv_at hl 2 rfl) ?_
      refine fl_put (ci := 7) (ty := .int) (v := .int x) (C := RX5) (T := TX5) (Nf := 23) hx hb hts inX5 tyX5 tyX5_ok nmX5 hown hK hJ hP hS 0 (by decide) (fl_sI M 0 14 x) rfl rfl 14 (by decide) (hts (.fieldLink RX5 76 "ResampledRowsModel" "kept" "I") (by decide +kernel)) (fun _ h9 => h9) rfl (by decide +kernel) rfl rfl (Nat.le_of_ble_eq_true rfl) rfl (fl_sI_o (fm_loc cI cJ ad) _ _ _ _) dX5_keep_34 (fun H locs hP hS => ?_)
      refine lv_iload_n hx hb dX5_keep_37 rfl (lv_at hl 0 rfl) ?_
      exact W.iret (v := a_oI (r_kp α.2.2) (-1000009)) hx hb hr (fun t ht hW => ⟨⟨a_oI (r_kp α.2.2) (-1000009), (fl_sI M 0 14 x), rfl, (by have ho : o_keep α x = (a_oI (r_kp α.2.2) (-1000009), (α.1, α.2.1, a_wk α.2.2 none)) := (by unfold o_keep; first | (rw [if_neg hn0, if_pos hc13] <;> rfl) | (simp only [if_neg hn0, if_pos hc13])); rw [ho]; exact ⟨rfl, ⟨hT.eq (P := fun c k => c ≠ 0) (fp.rf.sI (fun z => z rfl) _) (fun c k a b => by omega), hQ.eq (P := fun c k => c = 5 ∨ k ≠ 14) (fp.rf.sI (by omega) _) (by decide) (fun k => Or.inl rfl), hsd, hR.kp hc13 (fun k2 hk2 => by cases hk2)⟩⟩), fl_qi ht hP⟩, hS.F ht⟩) hS.2.2 dX5_keep_38
    · refine lv_aload_n hx hb dX5_keep_16 rfl (lv_at hl 0 rfl) ?_
      refine lv_iload_n hx hb dX5_keep_17 rfl (lv_at hl 1 rfl) ?_
      refine va_calli (va_runV (As := [.int x]) (rest := []) ⟨hx, hb, hml, hown, hts⟩ (c_X5_isRow l hJ M (r_n α.2.2) x (by omega) hR.1.1 hR.1.2) (cwV 1 hts gX5_keep_X5_isRow rfl rfl rfl (by decide +kernel) ⟨Nat.le_of_ble_eq_true rfl, Nat.le_of_ble_eq_true rfl⟩) ⟨fl_blind, va_recv hK hP (ci := 7) (q0 := 0) rfl (fl_at (by decide) rfl), fl_pre hP hK hN⟩ rfl rfl hl.1 rfl (lv_room (Nat.le_of_ble_eq_true rfl)) dX5_keep_18 ⟨Nat.le_of_ble_eq_true rfl, Nat.le_of_ble_eq_true rfl⟩) hS (fun _ _ h => h) (fun _ h => h) (fun r18 M18 t H1 locs ht hvm hw hB hz1 hk1 hS => ?_)
      have hP : va_P D vwCl (fmP cI cJ ad M18) H1 := by rw [← ht]; exact hB
      clear hB hk1 hz1 hvm ht t
      obtain ⟨rfl, hE⟩ := hw
      rw [hE] at hP
      rcases q1 : a_ix x (r_n α.2.2) with _ | k
      · refine fl_ti (y := 0) (by first | rfl | (rw [q1]; rfl)) ?_
        refine lv_if_ne (tgt := 27) hx hb dX5_keep_21 (by decide) (fun hz => absurd hz (by decide)) (fun _ => ?_)
        refine lv_ldc (v := -1000001) hx hb hown (hts (.constant RX5 91 (-1000001)) (by decide +kernel)) dX5_keep_24 ?_
        exact W.iret (v := (-1000001)) hx hb hr (fun t ht hW => ⟨⟨(-1000001), M, rfl, (by have ho : o_keep α x = ((-1000001), α) := (by unfold o_keep; first | (rw [if_neg hn0, if_neg hc13, q1] <;> rfl) | (simp only [if_neg hn0, if_neg hc13, q1])); rw [ho]; exact ⟨rfl, hA⟩), fl_qi ht hP⟩, hS.F ht⟩) hS.2.2 dX5_keep_26
      · obtain ⟨q1_1, q1_2, q1_3⟩ := a_ix_some q1
        refine fl_ti (y := 1) (by first | rfl | (rw [q1]; rfl)) ?_
        refine lv_if_ne (tgt := 27) hx hb dX5_keep_21 (by decide) (fun _ => ?_) (fun hz => absurd hz (by decide))
        refine lv_aload_n hx hb dX5_keep_27 rfl (lv_at hl 0 rfl) ?_
        refine va_get (D := D) (ci := 7) (v := .int (M.1 0 14)) (C := RX5) (T := TX5) (N := 23) hx hb hts inX5 hown hK hP 0 (fl_at (by decide) rfl) rfl 14 (by decide) (hts (.fieldLink RX5 76 "ResampledRowsModel" "kept" "I") (by decide +kernel)) (fun _ h9 => h9) rfl dX5_keep_28 ?_
        refine fl_ti (y := a_oI (r_kp α.2.2) (-1000009)) hR.2.2.2.1.1 ?_
        refine lv_istore_n (lv' := [(2, .int (a_oI (r_kp α.2.2) (-1000009))), (0, .ref (ad 0)), (1, .int x)]) hx hb dX5_keep_31 rfl hl (by decide) rfl (fun ls hl => ?_)
        refine lv_aload_n hx hb dX5_keep_32 rfl (lv_at hl 1 rfl) ?_
        refine lv_iload_n hx hb dX5_keep_33 rfl (lv_at hl 2 rfl) ?_
        refine fl_put (ci := 7) (ty := .int) (v := .int x) (C := RX5) (T := TX5) (Nf := 23) hx hb hts inX5 tyX5 tyX5_ok nmX5 hown hK hJ hP hS 0 (by decide) (fl_sI M 0 14 x) rfl rfl 14 (by decide) (hts (.fieldLink RX5 76 "ResampledRowsModel" "kept" "I") (by decide +kernel)) (fun _ h9 => h9) rfl (by decide +kernel) rfl rfl (Nat.le_of_ble_eq_true rfl) rfl (fl_sI_o (fm_loc cI cJ ad) _ _ _ _) dX5_keep_34 (fun H locs hP hS => ?_)
        refine lv_iload_n hx hb dX5_keep_37 rfl (lv_at hl 0 rfl) ?_
        exact W.iret (v := a_oI (r_kp α.2.2) (-1000009)) hx hb hr (fun t ht hW => ⟨⟨a_oI (r_kp α.2.2) (-1000009), (fl_sI M 0 14 x), rfl, (by have ho : o_keep α x = (a_oI (r_kp α.2.2) (-1000009), (α.1, α.2.1, a_wk α.2.2 (some k))) := (by unfold o_keep; first | (rw [if_neg hn0, if_neg hc13, q1] <;> rfl) | (simp only [if_neg hn0, if_neg hc13, q1])); rw [ho]; exact ⟨rfl, ⟨hT.eq (P := fun c k => c ≠ 0) (fp.rf.sI (fun z => z rfl) _) (fun c k a b => by omega), hQ.eq (P := fun c k => c = 5 ∨ k ≠ 14) (fp.rf.sI (by omega) _) (by decide) (fun k => Or.inl rfl), hsd, hR.kp q1_2 (fun k2 hk2 => by cases hk2; exact q1_1)⟩⟩), fl_qi ht hP⟩, hS.F ht⟩) hS.2.2 dX5_keep_38
  · have hn0 : r_n α.2.2 = 0 := (nI_eq (b := 0) (by have := hR.1.1; omega) (by decide)).mp hc4
    refine lv_ldc (v := -1000003) hx hb hown (hts (.constant RX5 119 (-1000003)) (by decide +kernel)) dX5_keep_7 ?_
    exact W.iret (v := (-1000003)) hx hb hr (fun t ht hW => ⟨⟨(-1000003), M, rfl, (by have ho : o_keep α x = ((-1000003), α) := (by unfold o_keep; first | (rw [if_pos hn0] <;> rfl) | (simp only [if_pos hn0])); rw [ho]; exact ⟨rfl, hA⟩), fl_qi ht hP⟩, hS.F ht⟩) hS.2.2 dX5_keep_9

set_option maxHeartbeats 4000000 in
set_option maxRecDepth 100000 in
theorem c_X5_from (l : Launch) {D : va_G} {cI cJ cII : ClassId} {ad : Nat → Nat} (hJ : fl_inj 15 ad) (M : fl_M) (α : a_A) (hA : fm_A α M) (x : Int32) : Met l yX5_from wsX5_from ({ frames := 2, cells := 0, slots := 0, locals := 43 } : Room) (fmPc D cI cJ cII ad M [.ref (ad 0), .int x]) (va_Qi (fun r M2 => r = o_from α x ∧ M2 = M) (fmQ D cI cJ ad) (fl_A 15 ad)) 0 0 (fl_A 15 ad) := by
  refine Met.ofW (cc := cX5_from) (maxL := 2) (ret := (some .int)) (by decide) rfl ?_
  intro p e s m args below meth c s₁ B hml hv
  obtain ⟨rfl, hP, hK, hN⟩ := hv
  have hx := B.exec
  have hb := B.bytes
  have hr := B.returns
  have hts := atoms_spec (ws := wsX5_from) B.pre
  have hown : s.vm.findClass RX5 = some m.cls := findClass_of_methodNamed B.named
  have hlocks := B.notSynchronized
  have inX5 : ∀ w ∈ u_ws RX5 TX5 23, w ∈ wsX5_from := by decide +kernel
  have hS : va_S (fl_A 15 ad) s.heap s.heap [] := va_S.rf
  have hl := lv_entry ([.ref (ad 0), .int x] : List Value) (n := 2) (Nat.le_of_ble_eq_true rfl)
  rw [lg_entry_eq]
  generalize (lg_sl ([.ref (ad 0), .int x] : List Value) ++ List.replicate (2 - (lg_sl ([.ref (ad 0), .int x] : List Value)).length) Slot.unset).toArray = ls at hl ⊢
  have hl : lv_has ls 2 [(0, .ref (ad 0)), (1, .int x)] := hl
  obtain ⟨hT, hQ, hsd, hR⟩ := id hA
  refine lv_aload_n hx hb dX5_from_0 rfl (lv_at hl 0 rfl) ?_
  refine va_get (D := D) (ci := 7) (v := .int (M.1 0 7)) (C := RX5) (T := TX5) (N := 23) hx hb hts inX5 hown hK hP 0 (fl_at (by decide) rfl) rfl 7 (by decide) (hts (.fieldLink RX5 66 "ResampledRowsModel" "rows" "I") (by decide +kernel)) (fun _ h9 => h9) rfl dX5_from_1 ?_
  refine fl_ti (y := nI (r_n α.2.2)) hR.1.2 ?_
  refine lv_if_ne (tgt := 10) hx hb dX5_from_4 (by decide) (fun hc4 => ?_) (fun hc4 => ?_)
  · have hn0 : ¬ r_n α.2.2 = 0 := fun z => hc4 (by rw [z]; rfl)
    refine lv_aload_n hx hb dX5_from_10 rfl (lv_at hl 0 rfl) ?_
    refine va_get (D := D) (ci := 7) (v := .int (M.1 0 17)) (C := RX5) (T := TX5) (N := 23) hx hb hts inX5 hown hK hP 0 (fl_at (by decide) rfl) rfl 17 (by decide) (hts (.fieldLink RX5 79 "ResampledRowsModel" "hasFroms" "Z") (by decide +kernel)) (fun _ h9 => h9) rfl dX5_from_11 ?_
    refine lv_if_eq (tgt := 34) hx hb dX5_from_14 (by decide) (fun hc14 => ?_) (fun hc14 => ?_)
    · have ha0 : r_an α.2.2 = 0 := Classical.byContradiction (fun z => by rw [(hR.2.2.2.2.2.2.2.2.1 z).1] at hc14; exact absurd hc14 (by decide))
      refine lv_ldc (v := -1000001) hx hb hown (hts (.constant RX5 91 (-1000001)) (by decide +kernel)) dX5_from_34 ?_
      exact W.iret (v := (-1000001)) hx hb hr (fun t ht hW => ⟨⟨(-1000001), M, rfl, (by have ho : o_from α x = (-1000001) := (by unfold o_from; first | (rw [if_neg hn0, if_pos ha0] <;> rfl) | (simp only [if_neg hn0, if_pos ha0])); rw [ho]; exact ⟨rfl, rfl⟩), fl_qi ht hP⟩, hS.F ht⟩) hS.2.2 dX5_from_36
    · have ha0 : ¬ r_an α.2.2 = 0 := fun z => hc14 (hR.2.2.2.2.2.2.2.2.2 z)
      refine lv_aload_n hx hb dX5_from_17 rfl (lv_at hl 0 rfl) ?_
      refine lv_iload_n hx hb dX5_from_18 rfl (lv_at hl 1 rfl) ?_
      refine va_calli (va_runV (As := [.int x]) (rest := []) ⟨hx, hb, hml, hown, hts⟩ (c_X5_isRow l hJ M (r_n α.2.2) x (by omega) hR.1.1 hR.1.2) (cwV 1 hts gX5_from_X5_isRow rfl rfl rfl (by decide +kernel) ⟨Nat.le_of_ble_eq_true rfl, Nat.le_of_ble_eq_true rfl⟩) ⟨fl_blind, va_recv hK hP (ci := 7) (q0 := 0) rfl (fl_at (by decide) rfl), fl_pre hP hK hN⟩ rfl rfl hl.1 rfl (lv_room (Nat.le_of_ble_eq_true rfl)) dX5_from_19 ⟨Nat.le_of_ble_eq_true rfl, Nat.le_of_ble_eq_true rfl⟩) hS (fun _ _ h => h) (fun _ h => h) (fun r19 M19 t H1 locs ht hvm hw hB hz1 hk1 hS => ?_)
      have hP : va_P D vwCl (fmP cI cJ ad M19) H1 := by rw [← ht]; exact hB
      clear hB hk1 hz1 hvm ht t
      obtain ⟨rfl, hE⟩ := hw
      rw [hE] at hP
      rcases q1 : a_ix x (r_n α.2.2) with _ | j
      · refine fl_ti (y := 0) (by first | rfl | (rw [q1]; rfl)) ?_
        refine lv_if_eq (tgt := 34) hx hb dX5_from_22 (by decide) (fun _ => ?_) (fun hz => absurd (by decide) hz)
        refine lv_ldc (v := -1000001) hx hb hown (hts (.constant RX5 91 (-1000001)) (by decide +kernel)) dX5_from_34 ?_
        exact W.iret (v := (-1000001)) hx hb hr (fun t ht hW => ⟨⟨(-1000001), M, rfl, (by have ho : o_from α x = (-1000001) := (by unfold o_from; first | (rw [if_neg hn0, if_neg ha0, q1] <;> rfl) | (simp only [if_neg hn0, if_neg ha0, q1])); rw [ho]; exact ⟨rfl, rfl⟩), fl_qi ht hP⟩, hS.F ht⟩) hS.2.2 dX5_from_36
      · obtain ⟨q1_1, q1_2, q1_3⟩ := a_ix_some q1
        refine fl_ti (y := 1) (by first | rfl | (rw [q1]; rfl)) ?_
        refine lv_if_eq (tgt := 34) hx hb dX5_from_22 (by decide) (fun hz => absurd hz (by decide)) (fun _ => ?_)
        refine lv_aload_n hx hb dX5_from_25 rfl (lv_at hl 0 rfl) ?_
        refine va_get (D := D) (ci := 7) (v := .ref (ad 9)) (C := RX5) (T := TX5) (N := 23) hx hb hts inX5 hown hK hP 0 (fl_at (by decide) rfl) rfl 16 (by decide) (hts (.fieldLink RX5 35 "ResampledRowsModel" "froms" "[I") (by decide +kernel)) (fun _ h9 => h9) rfl dX5_from_26 ?_
        refine lv_iload_n hx hb dX5_from_29 rfl (lv_at hl 1 rfl) ?_
        refine fl_ti (y := nI j) q1_2 ?_
        refine fl_ild (n := 16) (k := j) hx hb hK hP (fl_at (by decide) rfl) rfl rfl (by have := hR.1.1; omega) (by decide) dX5_from_30 ?_
        refine fl_ti (y := nI (r_og α.2.2 j)) (((hR.2.2.2.2.2.2.2.2.1 ha0).2 j q1_1).1) ?_
        refine lv_goto (tgt := 36) hx hb dX5_from_31 (by decide) ?_
        exact W.iret (v := nI (r_og α.2.2 j)) hx hb hr (fun t ht hW => ⟨⟨nI (r_og α.2.2 j), M, rfl, (by have ho : o_from α x = nI (r_og α.2.2 j) := (by unfold o_from; first | (rw [if_neg hn0, if_neg ha0, q1] <;> rfl) | (simp only [if_neg hn0, if_neg ha0, q1])); rw [ho]; exact ⟨rfl, rfl⟩), fl_qi ht hP⟩, hS.F ht⟩) hS.2.2 dX5_from_36
  · have hn0 : r_n α.2.2 = 0 := (nI_eq (b := 0) (by have := hR.1.1; omega) (by decide)).mp hc4
    refine lv_ldc (v := -1000003) hx hb hown (hts (.constant RX5 119 (-1000003)) (by decide +kernel)) dX5_from_7 ?_
    exact W.iret (v := (-1000003)) hx hb hr (fun t ht hW => ⟨⟨(-1000003), M, rfl, (by have ho : o_from α x = (-1000003) := (by unfold o_from; first | (rw [if_pos hn0] <;> rfl) | (simp only [if_pos hn0])); rw [ho]; exact ⟨rfl, rfl⟩), fl_qi ht hP⟩, hS.F ht⟩) hS.2.2 dX5_from_9

set_option maxHeartbeats 4000000 in
set_option maxRecDepth 100000 in
theorem c_X5_row (l : Launch) {D : va_G} {cI cJ cII : ClassId} {ad : Nat → Nat} (hJ : fl_inj 15 ad) (M : fl_M) (α : a_A) (hA : fm_A α M) (x y : Int32) : Met l yX5_row wsX5_row ({ frames := 2, cells := 0, slots := 0, locals := 43 } : Room) (fmPc D cI cJ cII ad M [.ref (ad 0), .int x, .int y]) (va_Qi (fun r M2 => r = o_row α x y ∧ M2 = M) (fmQ D cI cJ ad) (fl_A 15 ad)) 0 0 (fl_A 15 ad) := by
  refine Met.ofW (cc := cX5_row) (maxL := 3) (ret := (some .int)) (by decide) rfl ?_
  intro p e s m args below meth c s₁ B hml hv
  obtain ⟨rfl, hP, hK, hN⟩ := hv
  have hx := B.exec
  have hb := B.bytes
  have hr := B.returns
  have hts := atoms_spec (ws := wsX5_row) B.pre
  have hown : s.vm.findClass RX5 = some m.cls := findClass_of_methodNamed B.named
  have hlocks := B.notSynchronized
  have inX5 : ∀ w ∈ u_ws RX5 TX5 23, w ∈ wsX5_row := by decide +kernel
  have hS : va_S (fl_A 15 ad) s.heap s.heap [] := va_S.rf
  have hl := lv_entry ([.ref (ad 0), .int x, .int y] : List Value) (n := 3) (Nat.le_of_ble_eq_true rfl)
  rw [lg_entry_eq]
  generalize (lg_sl ([.ref (ad 0), .int x, .int y] : List Value) ++ List.replicate (3 - (lg_sl ([.ref (ad 0), .int x, .int y] : List Value)).length) Slot.unset).toArray = ls at hl ⊢
  have hl : lv_has ls 3 [(0, .ref (ad 0)), (1, .int x), (2, .int y)] := hl
  obtain ⟨hT, hQ, hsd, hR⟩ := id hA
  refine lv_aload_n hx hb dX5_row_0 rfl (lv_at hl 0 rfl) ?_
  refine va_get (D := D) (ci := 7) (v := .int (M.1 0 7)) (C := RX5) (T := TX5) (N := 23) hx hb hts inX5 hown hK hP 0 (fl_at (by decide) rfl) rfl 7 (by decide) (hts (.fieldLink RX5 66 "ResampledRowsModel" "rows" "I") (by decide +kernel)) (fun _ h9 => h9) rfl dX5_row_1 ?_
  refine fl_ti (y := nI (r_n α.2.2)) hR.1.2 ?_
  refine lv_if_ne (tgt := 10) hx hb dX5_row_4 (by decide) (fun hc4 => ?_) (fun hc4 => ?_)
  · have hn0 : ¬ r_n α.2.2 = 0 := fun z => hc4 (by rw [z]; rfl)
    refine lv_aload_n hx hb dX5_row_10 rfl (lv_at hl 0 rfl) ?_
    refine lv_iload_n hx hb dX5_row_11 rfl (lv_at hl 1 rfl) ?_
    refine va_calli (va_runV (As := [.int x]) (rest := []) ⟨hx, hb, hml, hown, hts⟩ (c_X5_isRow l hJ M (r_n α.2.2) x (by omega) hR.1.1 hR.1.2) (cwV 1 hts gX5_row_X5_isRow rfl rfl rfl (by decide +kernel) ⟨Nat.le_of_ble_eq_true rfl, Nat.le_of_ble_eq_true rfl⟩) ⟨fl_blind, va_recv hK hP (ci := 7) (q0 := 0) rfl (fl_at (by decide) rfl), fl_pre hP hK hN⟩ rfl rfl hl.1 rfl (lv_room (Nat.le_of_ble_eq_true rfl)) dX5_row_12 ⟨Nat.le_of_ble_eq_true rfl, Nat.le_of_ble_eq_true rfl⟩) hS (fun _ _ h => h) (fun _ h => h) (fun r12 M12 t H1 locs ht hvm hw hB hz1 hk1 hS => ?_)
    have hP : va_P D vwCl (fmP cI cJ ad M12) H1 := by rw [← ht]; exact hB
    clear hB hk1 hz1 hvm ht t
    obtain ⟨rfl, hE⟩ := hw
    rw [hE] at hP
    rcases q1 : a_ix x (r_n α.2.2) with _ | j
    · refine fl_ti (y := 0) (by first | rfl | (rw [q1]; rfl)) ?_
      refine lv_if_ne (tgt := 21) hx hb dX5_row_15 (by decide) (fun hz => absurd hz (by decide)) (fun _ => ?_)
      refine lv_ldc (v := -1000001) hx hb hown (hts (.constant RX5 91 (-1000001)) (by decide +kernel)) dX5_row_18 ?_
      exact W.iret (v := (-1000001)) hx hb hr (fun t ht hW => ⟨⟨(-1000001), M, rfl, (by have ho : o_row α x y = (-1000001) := (by unfold o_row; first | (rw [if_neg hn0, q1] <;> rfl) | (simp only [if_neg hn0, q1])); rw [ho]; exact ⟨rfl, rfl⟩), fl_qi ht hP⟩, hS.F ht⟩) hS.2.2 dX5_row_20
    · obtain ⟨q1_1, q1_2, q1_3⟩ := a_ix_some q1
      refine fl_ti (y := 1) (by first | rfl | (rw [q1]; rfl)) ?_
      refine lv_if_ne (tgt := 21) hx hb dX5_row_15 (by decide) (fun _ => ?_) (fun hz => absurd hz (by decide))
      refine lv_iload_n hx hb dX5_row_21 rfl (lv_at hl 2 rfl) ?_
      refine lv_if_ne (tgt := 34) hx hb dX5_row_22 (by decide) (fun hc22 => ?_) (fun hc22 => ?_)
      · refine lv_iload_n hx hb dX5_row_34 rfl (lv_at hl 2 rfl) ?_
        refine lv_iconst (v := 1) hx hb dX5_row_35 (by decide) ?_
        refine lv_icmp_ne (tgt := 48) hx hb dX5_row_36 (by decide) (fun hc36 => ?_) (fun hc36 => ?_)
        · refine lv_ldc (v := -1000002) hx hb hown (hts (.constant RX5 92 (-1000002)) (by decide +kernel)) dX5_row_48 ?_
          exact W.iret (v := (-1000002)) hx hb hr (fun t ht hW => ⟨⟨(-1000002), M, rfl, (by have ho : o_row α x y = (-1000002) := (by unfold o_row; first | (rw [if_neg hn0, q1, if_neg hc22, if_neg hc36] <;> rfl) | (simp only [if_neg hn0, q1, if_neg hc22, if_neg hc36])); rw [ho]; exact ⟨rfl, rfl⟩), fl_qi ht hP⟩, hS.F ht⟩) hS.2.2 dX5_row_50
        · refine lv_aload_n hx hb dX5_row_39 rfl (lv_at hl 0 rfl) ?_
          refine va_get (D := D) (ci := 7) (v := .int (M.1 0 12)) (C := RX5) (T := TX5) (N := 23) hx hb hts inX5 hown hK hP 0 (fl_at (by decide) rfl) rfl 12 (by decide) (hts (.fieldLink RX5 69 "ResampledRowsModel" "steps" "I") (by decide +kernel)) (fun _ h9 => h9) rfl dX5_row_40 ?_
          refine fl_ti (y := nI (r_sp α.2.2)) hR.2.1.2 ?_
          refine lv_iconst (v := 1) hx hb dX5_row_43 (by decide) ?_
          refine lv_iadd hx hb dX5_row_44 ?_
          refine fl_ti (y := nI (r_sp α.2.2 + 1)) (nI_1 _) ?_
          refine lv_goto (tgt := 50) hx hb dX5_row_45 (by decide) ?_
          exact W.iret (v := nI (r_sp α.2.2 + 1)) hx hb hr (fun t ht hW => ⟨⟨nI (r_sp α.2.2 + 1), M, rfl, (by have ho : o_row α x y = nI (r_sp α.2.2 + 1) := (by unfold o_row; first | (rw [if_neg hn0, q1, if_neg hc22, if_pos hc36] <;> rfl) | (simp only [if_neg hn0, q1, if_neg hc22, if_pos hc36])); rw [ho]; exact ⟨rfl, rfl⟩), fl_qi ht hP⟩, hS.F ht⟩) hS.2.2 dX5_row_50
      · refine lv_aload_n hx hb dX5_row_25 rfl (lv_at hl 0 rfl) ?_
        refine va_get (D := D) (ci := 7) (v := .ref (ad 6)) (C := RX5) (T := TX5) (N := 23) hx hb hts inX5 hown hK hP 0 (fl_at (by decide) rfl) rfl 9 (by decide) (hts (.fieldLink RX5 25 "ResampledRowsModel" "states" "[I") (by decide +kernel)) (fun _ h9 => h9) rfl dX5_row_26 ?_
        refine lv_iload_n hx hb dX5_row_29 rfl (lv_at hl 1 rfl) ?_
        refine fl_ti (y := nI j) q1_2 ?_
        refine fl_ild (n := 16) (k := j) hx hb hK hP (fl_at (by decide) rfl) rfl rfl (by have := hR.1.1; omega) (by decide) dX5_row_30 ?_
        refine fl_ti (y := nI (r_st α.2.2 j)) ((hR.2.2.2.2.2.1 j q1_1).1) ?_
        refine lv_goto (tgt := 50) hx hb dX5_row_31 (by decide) ?_
        exact W.iret (v := nI (r_st α.2.2 j)) hx hb hr (fun t ht hW => ⟨⟨nI (r_st α.2.2 j), M, rfl, (by have ho : o_row α x y = nI (r_st α.2.2 j) := (by unfold o_row; first | (rw [if_neg hn0, q1, if_pos hc22] <;> rfl) | (simp only [if_neg hn0, q1, if_pos hc22])); rw [ho]; exact ⟨rfl, rfl⟩), fl_qi ht hP⟩, hS.F ht⟩) hS.2.2 dX5_row_50
  · have hn0 : r_n α.2.2 = 0 := (nI_eq (b := 0) (by have := hR.1.1; omega) (by decide)).mp hc4
    refine lv_ldc (v := -1000003) hx hb hown (hts (.constant RX5 119 (-1000003)) (by decide +kernel)) dX5_row_7 ?_
    exact W.iret (v := (-1000003)) hx hb hr (fun t ht hW => ⟨⟨(-1000003), M, rfl, (by have ho : o_row α x y = (-1000003) := (by unfold o_row; first | (rw [if_pos hn0] <;> rfl) | (simp only [if_pos hn0])); rw [ho]; exact ⟨rfl, rfl⟩), fl_qi ht hP⟩, hS.F ht⟩) hS.2.2 dX5_row_9

set_option maxHeartbeats 4000000 in
set_option maxRecDepth 100000 in
theorem c_X5_weight (l : Launch) {D : va_G} {cI cJ cII : ClassId} {ad : Nat → Nat} (hJ : fl_inj 15 ad) (M : fl_M) (α : a_A) (hA : fm_A α M) (x : Int32) : Met l yX5_weight wsX5_weight ({ frames := 2, cells := 0, slots := 0, locals := 43 } : Room) (fmPc D cI cJ cII ad M [.ref (ad 0), .int x]) (va_Ql (fun r M2 => r = o_weight α x ∧ M2 = M) (fmQ D cI cJ ad) (fl_A 15 ad)) 0 0 (fl_A 15 ad) := by
  refine Met.ofW (cc := cX5_weight) (maxL := 2) (ret := (some .long)) (by decide) rfl ?_
  intro p e s m args below meth c s₁ B hml hv
  obtain ⟨rfl, hP, hK, hN⟩ := hv
  have hx := B.exec
  have hb := B.bytes
  have hr := B.returns
  have hts := atoms_spec (ws := wsX5_weight) B.pre
  have hown : s.vm.findClass RX5 = some m.cls := findClass_of_methodNamed B.named
  have hlocks := B.notSynchronized
  have inX5 : ∀ w ∈ u_ws RX5 TX5 23, w ∈ wsX5_weight := by decide +kernel
  have hS : va_S (fl_A 15 ad) s.heap s.heap [] := va_S.rf
  have hl := lv_entry ([.ref (ad 0), .int x] : List Value) (n := 2) (Nat.le_of_ble_eq_true rfl)
  rw [lg_entry_eq]
  generalize (lg_sl ([.ref (ad 0), .int x] : List Value) ++ List.replicate (2 - (lg_sl ([.ref (ad 0), .int x] : List Value)).length) Slot.unset).toArray = ls at hl ⊢
  have hl : lv_has ls 2 [(0, .ref (ad 0)), (1, .int x)] := hl
  obtain ⟨hT, hQ, hsd, hR⟩ := id hA
  refine lv_aload_n hx hb dX5_weight_0 rfl (lv_at hl 0 rfl) ?_
  refine va_get (D := D) (ci := 7) (v := .int (M.1 0 7)) (C := RX5) (T := TX5) (N := 23) hx hb hts inX5 hown hK hP 0 (fl_at (by decide) rfl) rfl 7 (by decide) (hts (.fieldLink RX5 66 "ResampledRowsModel" "rows" "I") (by decide +kernel)) (fun _ h9 => h9) rfl dX5_weight_1 ?_
  refine fl_ti (y := nI (r_n α.2.2)) hR.1.2 ?_
  refine lv_if_ne (tgt := 13) hx hb dX5_weight_4 (by decide) (fun hc4 => ?_) (fun hc4 => ?_)
  · have hn0 : ¬ r_n α.2.2 = 0 := fun z => hc4 (by rw [z]; rfl)
    refine lv_aload_n hx hb dX5_weight_13 rfl (lv_at hl 0 rfl) ?_
    refine lv_iload_n hx hb dX5_weight_14 rfl (lv_at hl 1 rfl) ?_
    refine va_calli (va_runV (As := [.int x]) (rest := []) ⟨hx, hb, hml, hown, hts⟩ (c_X5_isRow l hJ M (r_n α.2.2) x (by omega) hR.1.1 hR.1.2) (cwV 1 hts gX5_weight_X5_isRow rfl rfl rfl (by decide +kernel) ⟨Nat.le_of_ble_eq_true rfl, Nat.le_of_ble_eq_true rfl⟩) ⟨fl_blind, va_recv hK hP (ci := 7) (q0 := 0) rfl (fl_at (by decide) rfl), fl_pre hP hK hN⟩ rfl rfl hl.1 rfl (lv_room (Nat.le_of_ble_eq_true rfl)) dX5_weight_15 ⟨Nat.le_of_ble_eq_true rfl, Nat.le_of_ble_eq_true rfl⟩) hS (fun _ _ h => h) (fun _ h => h) (fun r15 M15 t H1 locs ht hvm hw hB hz1 hk1 hS => ?_)
    have hP : va_P D vwCl (fmP cI cJ ad M15) H1 := by rw [← ht]; exact hB
    clear hB hk1 hz1 hvm ht t
    obtain ⟨rfl, hE⟩ := hw
    rw [hE] at hP
    rcases q1 : a_ix x (r_n α.2.2) with _ | j
    · refine fl_ti (y := 0) (by first | rfl | (rw [q1]; rfl)) ?_
      refine lv_if_ne (tgt := 27) hx hb dX5_weight_18 (by decide) (fun hz => absurd hz (by decide)) (fun _ => ?_)
      refine lv_ldc2 (v := -1000001) hx hb hown (hts (.constantLong RX5 156 (-1000001)) (by decide +kernel)) dX5_weight_21 ?_
      refine lv_goto (tgt := 33) hx hb dX5_weight_24 (by decide) ?_
      exact W.lret (v := -1000001) hx hb hr (fun t ht hW => ⟨⟨-1000001, M, rfl, (by have ho : o_weight α x = -1000001 := (by unfold o_weight; first | (rw [if_neg hn0, q1] <;> rfl) | (simp only [if_neg hn0, q1])); rw [ho]; exact ⟨rfl, rfl⟩), fl_qi ht hP⟩, hS.F ht⟩) hS.2.2 dX5_weight_33
    · obtain ⟨q1_1, q1_2, q1_3⟩ := a_ix_some q1
      refine fl_ti (y := 1) (by first | rfl | (rw [q1]; rfl)) ?_
      refine lv_if_ne (tgt := 27) hx hb dX5_weight_18 (by decide) (fun _ => ?_) (fun hz => absurd hz (by decide))
      refine lv_aload_n hx hb dX5_weight_27 rfl (lv_at hl 0 rfl) ?_
      refine va_get (D := D) (ci := 7) (v := .ref (ad 7)) (C := RX5) (T := TX5) (N := 23) hx hb hts inX5 hown hK hP 0 (fl_at (by decide) rfl) rfl 10 (by decide) (hts (.fieldLink RX5 28 "ResampledRowsModel" "weights" "[J") (by decide +kernel)) (fun _ h9 => h9) rfl dX5_weight_28 ?_
      refine lv_iload_n hx hb dX5_weight_31 rfl (lv_at hl 1 rfl) ?_
      refine fl_ti (y := nI j) q1_2 ?_
      refine fl_jld (n := 16) (k := j) hx hb hK hP (fl_at (by decide) rfl) rfl rfl (by have := hR.1.1; omega) (by decide) dX5_weight_32 ?_
      refine fl_tl (y := lN (r_wt α.2.2 j)) ((hR.2.2.2.2.2.2.1 j q1_1).1) ?_
      exact W.lret (v := lN (r_wt α.2.2 j)) hx hb hr (fun t ht hW => ⟨⟨lN (r_wt α.2.2 j), M, rfl, (by have ho : o_weight α x = lN (r_wt α.2.2 j) := (by unfold o_weight; first | (rw [if_neg hn0, q1] <;> rfl) | (simp only [if_neg hn0, q1])); rw [ho]; exact ⟨rfl, rfl⟩), fl_qi ht hP⟩, hS.F ht⟩) hS.2.2 dX5_weight_33
  · have hn0 : r_n α.2.2 = 0 := (nI_eq (b := 0) (by have := hR.1.1; omega) (by decide)).mp hc4
    refine lv_ldc2 (v := -1000003) hx hb hown (hts (.constantLong RX5 154 (-1000003)) (by decide +kernel)) dX5_weight_7 ?_
    refine lv_goto (tgt := 33) hx hb dX5_weight_10 (by decide) ?_
    exact W.lret (v := -1000003) hx hb hr (fun t ht hW => ⟨⟨-1000003, M, rfl, (by have ho : o_weight α x = -1000003 := (by unfold o_weight; first | (rw [if_pos hn0] <;> rfl) | (simp only [if_pos hn0])); rw [ho]; exact ⟨rfl, rfl⟩), fl_qi ht hP⟩, hS.F ht⟩) hS.2.2 dX5_weight_33

set_option maxHeartbeats 4000000 in
set_option maxRecDepth 100000 in
theorem c_X5_history (l : Launch) {D : va_G} {cI cJ cII : ClassId} {ad : Nat → Nat} (hJ : fl_inj 15 ad) (M : fl_M) (α : a_A) (hA : fm_A α M) (x y : Int32) : Met l yX5_history wsX5_history ({ frames := 2, cells := 0, slots := 0, locals := 43 } : Room) (fmPc D cI cJ cII ad M [.ref (ad 0), .int x, .int y]) (va_Qi (fun r M2 => M2.1 0 0 = (match o_hist α x y with | none => 1 | some _ => 0) ∧ (∀ v, o_hist α x y = some v → r = v) ∧ fm_A α M2) (fmQ D cI cJ ad) (fl_A 15 ad)) 0 0 (fl_A 15 ad) := by
  refine Met.ofW (cc := cX5_history) (maxL := 3) (ret := (some .int)) (by decide) rfl ?_
  intro p e s m args below meth c s₁ B hml hv
  obtain ⟨rfl, hP, hK, hN⟩ := hv
  have hx := B.exec
  have hb := B.bytes
  have hr := B.returns
  have hts := atoms_spec (ws := wsX5_history) B.pre
  have hown : s.vm.findClass RX5 = some m.cls := findClass_of_methodNamed B.named
  have hlocks := B.notSynchronized
  have inX5 : ∀ w ∈ u_ws RX5 TX5 23, w ∈ wsX5_history := by decide +kernel
  have hS : va_S (fl_A 15 ad) s.heap s.heap [] := va_S.rf
  have hl := lv_entry ([.ref (ad 0), .int x, .int y] : List Value) (n := 3) (Nat.le_of_ble_eq_true rfl)
  rw [lg_entry_eq]
  generalize (lg_sl ([.ref (ad 0), .int x, .int y] : List Value) ++ List.replicate (3 - (lg_sl ([.ref (ad 0), .int x, .int y] : List Value)).length) Slot.unset).toArray = ls at hl ⊢
  have hl : lv_has ls 3 [(0, .ref (ad 0)), (1, .int x), (2, .int y)] := hl
  obtain ⟨hT, hQ, hsd, hR⟩ := id hA
  refine lv_aload_n hx hb dX5_history_0 rfl (lv_at hl 0 rfl) ?_
  refine lv_iconst (v := 0) hx hb dX5_history_1 (by decide) ?_
  refine fl_put (ci := 7) (ty := .int) (v := .int 0) (C := RX5) (T := TX5) (Nf := 23) hx hb hts inX5 tyX5 tyX5_ok nmX5 hown hK hJ hP hS 0 (by decide) (fl_sI M 0 0 0) rfl rfl 0 (by decide) (hts (.fieldLink RX5 56 "ResampledRowsModel" "thrownNow" "I") (by decide +kernel)) (fun _ h9 => h9) rfl (by decide +kernel) rfl rfl (Nat.le_of_ble_eq_true rfl) rfl (fl_sI_o (fm_loc cI cJ ad) _ _ _ _) dX5_history_2 (fun H locs hP hS => ?_)
  refine lv_aload_n hx hb dX5_history_5 rfl (lv_at hl 0 rfl) ?_
  refine va_get (D := D) (ci := 7) (v := .int (M.1 0 7)) (C := RX5) (T := TX5) (N := 23) hx hb hts inX5 hown hK hP 0 (fl_at (by decide) rfl) rfl 7 (by decide) (hts (.fieldLink RX5 66 "ResampledRowsModel" "rows" "I") (by decide +kernel)) (fun _ h9 => h9) rfl dX5_history_6 ?_
  refine fl_ti (y := nI (r_n α.2.2)) hR.1.2 ?_
  refine lv_if_ne (tgt := 15) hx hb dX5_history_9 (by decide) (fun hc9 => ?_) (fun hc9 => ?_)
  · have hn0 : ¬ r_n α.2.2 = 0 := fun z => hc9 (by rw [z]; rfl)
    refine lv_aload_n hx hb dX5_history_15 rfl (lv_at hl 0 rfl) ?_
    refine lv_iload_n hx hb dX5_history_16 rfl (lv_at hl 1 rfl) ?_
    refine va_calli (va_runV (As := [.int x]) (rest := []) ⟨hx, hb, hml, hown, hts⟩ (c_X5_isRow l hJ (fl_sI M 0 0 0) (r_n α.2.2) x (by omega) hR.1.1 hR.1.2) (cwV 1 hts gX5_history_X5_isRow rfl rfl rfl (by decide +kernel) ⟨Nat.le_of_ble_eq_true rfl, Nat.le_of_ble_eq_true rfl⟩) ⟨fl_blind, va_recv hK hP (ci := 7) (q0 := 0) rfl (fl_at (by decide) rfl), fl_pre hP hK hN⟩ rfl rfl hl.1 rfl (lv_room (Nat.le_of_ble_eq_true rfl)) dX5_history_17 ⟨Nat.le_of_ble_eq_true rfl, Nat.le_of_ble_eq_true rfl⟩) hS (fun _ _ h => h) (fun _ h => h) (fun r17 M17 t H1 locs ht hvm hw hB hz1 hk1 hS => ?_)
    have hP : va_P D vwCl (fmP cI cJ ad M17) H1 := by rw [← ht]; exact hB
    clear hB hk1 hz1 hvm ht t
    obtain ⟨rfl, hE⟩ := hw
    rw [hE] at hP
    rcases q1 : a_ix x (r_n α.2.2) with _ | j
    · refine fl_ti (y := 0) (by first | rfl | (rw [q1]; rfl)) ?_
      refine lv_if_ne (tgt := 26) hx hb dX5_history_20 (by decide) (fun hz => absurd hz (by decide)) (fun _ => ?_)
      refine lv_ldc (v := -1000001) hx hb hown (hts (.constant RX5 91 (-1000001)) (by decide +kernel)) dX5_history_23 ?_
      exact W.iret (v := (-1000001)) hx hb hr (fun t ht hW => ⟨⟨(-1000001), (fl_sI M 0 0 0), rfl, (by have ho : o_hist α x y = some (-1000001) := (by unfold o_hist; first | (rw [if_neg hn0, q1] <;> rfl) | (simp only [if_neg hn0, q1])); rw [ho]; exact ⟨rfl, (fun v hv => Option.some.inj hv), ⟨hT.eq (P := fun c k => c ≠ 0) (fp.rf.sI (fun z => z rfl) _) (fun c k a b => by omega), hQ.eq (P := fun c k => c = 5 ∨ k ≠ 0) (fp.rf.sI (by omega) _) (by decide) (fun k => Or.inl rfl), hsd, hR.eq (P := fun c k => c ≠ 0 ∨ k ≠ 0) (fp.rf.sI (by omega) _) (fun k a b c => Or.inr c) (fun c k a b => Or.inl (by omega))⟩⟩), fl_qi ht hP⟩, hS.F ht⟩) hS.2.2 dX5_history_25
    · obtain ⟨q1_1, q1_2, q1_3⟩ := a_ix_some q1
      refine fl_ti (y := 1) (by first | rfl | (rw [q1]; rfl)) ?_
      refine lv_if_ne (tgt := 26) hx hb dX5_history_20 (by decide) (fun _ => ?_) (fun hz => absurd hz (by decide))
      refine lv_aload_n hx hb dX5_history_26 rfl (lv_at hl 0 rfl) ?_
      refine lv_iload_n hx hb dX5_history_27 rfl (lv_at hl 2 rfl) ?_
      refine lv_iconst (v := 0) hx hb dX5_history_28 (by decide) ?_
      refine lv_aload_n hx hb dX5_history_29 rfl (lv_at hl 0 rfl) ?_
      refine va_get (D := D) (ci := 7) (v := .int (M.1 0 12)) (C := RX5) (T := TX5) (N := 23) hx hb hts inX5 hown hK hP 0 (fl_at (by decide) rfl) rfl 12 (by decide) (hts (.fieldLink RX5 69 "ResampledRowsModel" "steps" "I") (by decide +kernel)) (fun _ h9 => h9) rfl dX5_history_30 ?_
      refine fl_ti (y := nI (r_sp α.2.2)) hR.2.1.2 ?_
      refine va_calli (va_runS (As := [.int y, .int 0, .int (nI (r_sp α.2.2))]) (rest := [.ref (ad 0)]) ⟨hx, hb, hml, hown, hts⟩ (c_X5_in l hJ (fl_sI M 0 0 0) y 0 (nI (r_sp α.2.2))) (va_cwS 3 hts gX5_history_X5_in rfl rfl rfl (by decide +kernel) ⟨Nat.le_of_ble_eq_true rfl, Nat.le_of_ble_eq_true rfl⟩) ⟨fl_blind, fl_pre hP hK hN⟩ rfl rfl hl.1 rfl (lv_room (Nat.le_of_ble_eq_true rfl)) dX5_history_33 ⟨Nat.le_of_ble_eq_true rfl, Nat.le_of_ble_eq_true rfl⟩) hS (fun _ _ h => h) (fun _ h => h) (fun r33 M33 t H1 locs ht hvm hw hB hz1 hk1 hS => ?_)
      have hP : va_P D vwCl (fmP cI cJ ad M33) H1 := by rw [← ht]; exact hB
      clear hB hk1 hz1 hvm ht t
      obtain ⟨rfl, hE⟩ := hw
      rw [hE] at hP
      refine fl_ti (y := a_b (a_ix y (r_sp α.2.2 + 1))) (a_in0 (by have := hR.2.1.1; omega)) ?_
      rcases q2 : a_ix y (r_sp α.2.2 + 1) with _ | i
      · refine fl_ti (y := 0) (by first | rfl | (rw [q2]; rfl)) ?_
        refine lv_if_eq (tgt := 43) hx hb dX5_history_36 (by decide) (fun _ => ?_) (fun hz => absurd (by decide) hz)
        refine lv_iconst (v := 1) hx hb dX5_history_43 (by decide) ?_
        refine fl_put (ci := 7) (ty := .int) (v := .int 1) (C := RX5) (T := TX5) (Nf := 23) hx hb hts inX5 tyX5 tyX5_ok nmX5 hown hK hJ hP hS 0 (by decide) (fl_sI (fl_sI M 0 0 0) 0 0 1) rfl rfl 0 (by decide) (hts (.fieldLink RX5 56 "ResampledRowsModel" "thrownNow" "I") (by decide +kernel)) (fun _ h9 => h9) rfl (by decide +kernel) rfl rfl (Nat.le_of_ble_eq_true rfl) rfl (fl_sI_o (fm_loc cI cJ ad) _ _ _ _) dX5_history_44 (fun H locs hP hS => ?_)
        refine lv_aload_n hx hb dX5_history_47 rfl (lv_at hl 0 rfl) ?_
        refine va_get (D := D) (ci := 7) (v := .int 1) (C := RX5) (T := TX5) (N := 23) hx hb hts inX5 hown hK hP 0 (fl_at (by decide) rfl) rfl 0 (by decide) (hts (.fieldLink RX5 56 "ResampledRowsModel" "thrownNow" "I") (by decide +kernel)) (fun _ h9 => h9) rfl dX5_history_48 ?_
        refine lv_if_le (tgt := 58) hx hb dX5_history_51 (by decide) (fun hz => absurd hz (by decide)) (fun _ => ?_)
        refine lv_iconst (v := 0) hx hb dX5_history_54 (by decide) ?_
        refine lv_goto (tgt := 69) hx hb dX5_history_55 (by decide) ?_
        exact W.iret (v := 0) hx hb hr (fun t ht hW => ⟨⟨0, (fl_sI (fl_sI M 0 0 0) 0 0 1), rfl, (by have ho : o_hist α x y = none := (by unfold o_hist; first | (rw [if_neg hn0, q1, q2] <;> rfl) | (simp only [if_neg hn0, q1, q2])); rw [ho]; exact ⟨rfl, (fun v hv => nomatch hv), ⟨hT.eq (P := fun c k => c ≠ 0) ((fp.rf.sI (fun z => z rfl) _).sI (fun z => z rfl) _) (fun c k a b => by omega), hQ.eq (P := fun c k => c = 5 ∨ k ≠ 0) ((fp.rf.sI (by omega) _).sI (by omega) _) (by decide) (fun k => Or.inl rfl), hsd, hR.eq (P := fun c k => c ≠ 0 ∨ k ≠ 0) ((fp.rf.sI (by omega) _).sI (by omega) _) (fun k a b c => Or.inr c) (fun c k a b => Or.inl (by omega))⟩⟩), fl_qi ht hP⟩, hS.F ht⟩) hS.2.2 dX5_history_69
      · obtain ⟨q2_1, q2_2, q2_3⟩ := a_ix_some q2
        refine fl_ti (y := 1) (by first | rfl | (rw [q2]; rfl)) ?_
        refine lv_if_eq (tgt := 43) hx hb dX5_history_36 (by decide) (fun hz => absurd hz (by decide)) (fun _ => ?_)
        refine lv_iconst (v := 0) hx hb dX5_history_39 (by decide) ?_
        refine lv_goto (tgt := 44) hx hb dX5_history_40 (by decide) ?_
        refine fl_put (ci := 7) (ty := .int) (v := .int 0) (C := RX5) (T := TX5) (Nf := 23) hx hb hts inX5 tyX5 tyX5_ok nmX5 hown hK hJ hP hS 0 (by decide) (fl_sI (fl_sI M 0 0 0) 0 0 0) rfl rfl 0 (by decide) (hts (.fieldLink RX5 56 "ResampledRowsModel" "thrownNow" "I") (by decide +kernel)) (fun _ h9 => h9) rfl (by decide +kernel) rfl rfl (Nat.le_of_ble_eq_true rfl) rfl (fl_sI_o (fm_loc cI cJ ad) _ _ _ _) dX5_history_44 (fun H locs hP hS => ?_)
        refine lv_aload_n hx hb dX5_history_47 rfl (lv_at hl 0 rfl) ?_
        refine va_get (D := D) (ci := 7) (v := .int 0) (C := RX5) (T := TX5) (N := 23) hx hb hts inX5 hown hK hP 0 (fl_at (by decide) rfl) rfl 0 (by decide) (hts (.fieldLink RX5 56 "ResampledRowsModel" "thrownNow" "I") (by decide +kernel)) (fun _ h9 => h9) rfl dX5_history_48 ?_
        refine lv_if_le (tgt := 58) hx hb dX5_history_51 (by decide) (fun _ => ?_) (fun hz => absurd (by decide) hz)
        refine lv_aload_n hx hb dX5_history_58 rfl (lv_at hl 0 rfl) ?_
        refine va_get (D := D) (ci := 7) (v := .ref (ad 8)) (C := RX5) (T := TX5) (N := 23) hx hb hts inX5 hown hK hP 0 (fl_at (by decide) rfl) rfl 11 (by decide) (hts (.fieldLink RX5 32 "ResampledRowsModel" "histories" "[I") (by decide +kernel)) (fun _ h9 => h9) rfl dX5_history_59 ?_
        refine lv_bipush (v := 31) hx hb dX5_history_62 (by decide) ?_
        refine lv_iload_n hx hb dX5_history_64 rfl (lv_at hl 1 rfl) ?_
        refine fl_ti (y := nI j) q1_2 ?_
        refine lv_imul hx hb dX5_history_65 ?_
        refine fl_ti (y := nI (31 * j)) (pk_mul 31 j) ?_
        refine lv_iload_n hx hb dX5_history_66 rfl (lv_at hl 2 rfl) ?_
        refine fl_ti (y := nI i) q2_2 ?_
        refine lv_iadd hx hb dX5_history_67 ?_
        refine fl_ti (y := nI (31 * j + i)) (nI_add _ _) ?_
        refine fl_ild (n := 496) (k := (31 * j + i)) hx hb hK hP (fl_at (by decide) rfl) rfl rfl (by have := hR.1.1; have := hR.2.1.1; omega) (by decide) dX5_history_68 ?_
        refine fl_ti (y := M.1 8 (31 * j + i)) rfl ?_
        refine fl_ti (y := nI (r_hi α.2.2 j i)) ((hR.2.2.2.2.2.2.2.1 j q1_1 i q2_1).1) ?_
        exact W.iret (v := nI (r_hi α.2.2 j i)) hx hb hr (fun t ht hW => ⟨⟨nI (r_hi α.2.2 j i), (fl_sI (fl_sI M 0 0 0) 0 0 0), rfl, (by have ho : o_hist α x y = some (nI (r_hi α.2.2 j i)) := (by unfold o_hist; first | (rw [if_neg hn0, q1, q2] <;> rfl) | (simp only [if_neg hn0, q1, q2])); rw [ho]; exact ⟨rfl, (fun v hv => Option.some.inj hv), ⟨hT.eq (P := fun c k => c ≠ 0) ((fp.rf.sI (fun z => z rfl) _).sI (fun z => z rfl) _) (fun c k a b => by omega), hQ.eq (P := fun c k => c = 5 ∨ k ≠ 0) ((fp.rf.sI (by omega) _).sI (by omega) _) (by decide) (fun k => Or.inl rfl), hsd, hR.eq (P := fun c k => c ≠ 0 ∨ k ≠ 0) ((fp.rf.sI (by omega) _).sI (by omega) _) (fun k a b c => Or.inr c) (fun c k a b => Or.inl (by omega))⟩⟩), fl_qi ht hP⟩, hS.F ht⟩) hS.2.2 dX5_history_69
  · have hn0 : r_n α.2.2 = 0 := (nI_eq (b := 0) (by have := hR.1.1; omega) (by decide)).mp hc9
    refine lv_ldc (v := -1000003) hx hb hown (hts (.constant RX5 119 (-1000003)) (by decide +kernel)) dX5_history_12 ?_
    exact W.iret (v := (-1000003)) hx hb hr (fun t ht hW => ⟨⟨(-1000003), (fl_sI M 0 0 0), rfl, (by have ho : o_hist α x y = some (-1000003) := (by unfold o_hist; first | (rw [if_pos hn0] <;> rfl) | (simp only [if_pos hn0])); rw [ho]; exact ⟨rfl, (fun v hv => Option.some.inj hv), ⟨hT.eq (P := fun c k => c ≠ 0) (fp.rf.sI (fun z => z rfl) _) (fun c k a b => by omega), hQ.eq (P := fun c k => c = 5 ∨ k ≠ 0) (fp.rf.sI (by omega) _) (by decide) (fun k => Or.inl rfl), hsd, hR.eq (P := fun c k => c ≠ 0 ∨ k ≠ 0) (fp.rf.sI (by omega) _) (fun k a b c => Or.inr c) (fun c k a b => Or.inl (by omega))⟩⟩), fl_qi ht hP⟩, hS.F ht⟩) hS.2.2 dX5_history_14

set_option maxHeartbeats 4000000 in
set_option maxRecDepth 100000 in
theorem c_X5_write (l : Launch) {D : va_G} {cI cJ cII : ClassId} {ad : Nat → Nat} (hJ : fl_inj 15 ad) (M : fl_M) (α : a_A) (hA : fm_A α M) (x y z : Int32) : Met l yX5_write wsX5_write ({ frames := 2, cells := 0, slots := 0, locals := 43 } : Room) (fmPc D cI cJ cII ad M [.ref (ad 0), .int x, .int y, .int z]) (va_Qi (fun r M2 => r = (o_write α x y z).1 ∧ fm_A (o_write α x y z).2 M2) (fmQ D cI cJ ad) (fl_A 15 ad)) 0 0 (fl_A 15 ad) := by
  refine Met.ofW (cc := cX5_write) (maxL := 4) (ret := (some .int)) (by decide) rfl ?_
  intro p e s m args below meth c s₁ B hml hv
  obtain ⟨rfl, hP, hK, hN⟩ := hv
  have hx := B.exec
  have hb := B.bytes
  have hr := B.returns
  have hts := atoms_spec (ws := wsX5_write) B.pre
  have hown : s.vm.findClass RX5 = some m.cls := findClass_of_methodNamed B.named
  have hlocks := B.notSynchronized
  have inX5 : ∀ w ∈ u_ws RX5 TX5 23, w ∈ wsX5_write := by decide +kernel
  have hS : va_S (fl_A 15 ad) s.heap s.heap [] := va_S.rf
  have hl := lv_entry ([.ref (ad 0), .int x, .int y, .int z] : List Value) (n := 4) (Nat.le_of_ble_eq_true rfl)
  rw [lg_entry_eq]
  generalize (lg_sl ([.ref (ad 0), .int x, .int y, .int z] : List Value) ++ List.replicate (4 - (lg_sl ([.ref (ad 0), .int x, .int y, .int z] : List Value)).length) Slot.unset).toArray = ls at hl ⊢
  have hl : lv_has ls 4 [(0, .ref (ad 0)), (1, .int x), (2, .int y), (3, .int z)] := hl
  obtain ⟨hT, hQ, hsd, hR⟩ := id hA
  refine lv_aload_n hx hb dX5_write_0 rfl (lv_at hl 0 rfl) ?_
  refine va_get (D := D) (ci := 7) (v := .int (M.1 0 7)) (C := RX5) (T := TX5) (N := 23) hx hb hts inX5 hown hK hP 0 (fl_at (by decide) rfl) rfl 7 (by decide) (hts (.fieldLink RX5 66 "ResampledRowsModel" "rows" "I") (by decide +kernel)) (fun _ h9 => h9) rfl dX5_write_1 ?_
  refine fl_ti (y := nI (r_n α.2.2)) hR.1.2 ?_
  refine lv_if_ne (tgt := 10) hx hb dX5_write_4 (by decide) (fun hc4 => ?_) (fun hc4 => ?_)
  · have hn0 : ¬ r_n α.2.2 = 0 := fun z => hc4 (by rw [z]; rfl)
    refine lv_aload_n hx hb dX5_write_10 rfl (lv_at hl 0 rfl) ?_
    refine lv_iload_n hx hb dX5_write_11 rfl (lv_at hl 1 rfl) ?_
    refine va_calli (va_runV (As := [.int x]) (rest := []) ⟨hx, hb, hml, hown, hts⟩ (c_X5_isRow l hJ M (r_n α.2.2) x (by omega) hR.1.1 hR.1.2) (cwV 1 hts gX5_write_X5_isRow rfl rfl rfl (by decide +kernel) ⟨Nat.le_of_ble_eq_true rfl, Nat.le_of_ble_eq_true rfl⟩) ⟨fl_blind, va_recv hK hP (ci := 7) (q0 := 0) rfl (fl_at (by decide) rfl), fl_pre hP hK hN⟩ rfl rfl hl.1 rfl (lv_room (Nat.le_of_ble_eq_true rfl)) dX5_write_12 ⟨Nat.le_of_ble_eq_true rfl, Nat.le_of_ble_eq_true rfl⟩) hS (fun _ _ h => h) (fun _ h => h) (fun r12 M12 t H1 locs ht hvm hw hB hz1 hk1 hS => ?_)
    have hP : va_P D vwCl (fmP cI cJ ad M12) H1 := by rw [← ht]; exact hB
    clear hB hk1 hz1 hvm ht t
    obtain ⟨rfl, hE⟩ := hw
    rw [hE] at hP
    rcases q1 : a_ix x (r_n α.2.2) with _ | j
    · refine fl_ti (y := 0) (by first | rfl | (rw [q1]; rfl)) ?_
      refine lv_if_eq (tgt := 25) hx hb dX5_write_15 (by decide) (fun _ => ?_) (fun hz => absurd (by decide) hz)
      refine lv_ldc (v := -1000001) hx hb hown (hts (.constant RX5 91 (-1000001)) (by decide +kernel)) dX5_write_25 ?_
      exact W.iret (v := (-1000001)) hx hb hr (fun t ht hW => ⟨⟨(-1000001), M, rfl, (by have ho : o_write α x y z = ((-1000001), α) := (by unfold o_write; first | (rw [if_neg hn0, q1] <;> rfl) | (simp only [if_neg hn0, q1])); rw [ho]; exact ⟨rfl, hA⟩), fl_qi ht hP⟩, hS.F ht⟩) hS.2.2 dX5_write_27
    · obtain ⟨q1_1, q1_2, q1_3⟩ := a_ix_some q1
      refine fl_ti (y := 1) (by first | rfl | (rw [q1]; rfl)) ?_
      refine lv_if_eq (tgt := 25) hx hb dX5_write_15 (by decide) (fun hz => absurd hz (by decide)) (fun _ => ?_)
      refine lv_iload_n hx hb dX5_write_18 rfl (lv_at hl 3 rfl) ?_
      refine va_calli (va_runS (As := [.int z]) (rest := []) ⟨hx, hb, hml, hown, hts⟩ (c_X5_isState l hJ M z) (va_cwS 1 hts gX5_write_X5_isState rfl rfl rfl (by decide +kernel) ⟨Nat.le_of_ble_eq_true rfl, Nat.le_of_ble_eq_true rfl⟩) ⟨fl_blind, fl_pre hP hK hN⟩ rfl rfl hl.1 rfl (lv_room (Nat.le_of_ble_eq_true rfl)) dX5_write_19 ⟨Nat.le_of_ble_eq_true rfl, Nat.le_of_ble_eq_true rfl⟩) hS (fun _ _ h => h) (fun _ h => h) (fun r19 M19 t H1 locs ht hvm hw hB hz1 hk1 hS => ?_)
      have hP : va_P D vwCl (fmP cI cJ ad M19) H1 := by rw [← ht]; exact hB
      clear hB hk1 hz1 hvm ht t
      obtain ⟨rfl, hE⟩ := hw
      rw [hE] at hP
      rcases q2 : a_ix z 6 with _ | v
      · refine fl_ti (y := 0) (by first | rfl | (rw [q2]; rfl)) ?_
        refine lv_if_ne (tgt := 28) hx hb dX5_write_22 (by decide) (fun hz => absurd hz (by decide)) (fun _ => ?_)
        refine lv_ldc (v := -1000001) hx hb hown (hts (.constant RX5 91 (-1000001)) (by decide +kernel)) dX5_write_25 ?_
        exact W.iret (v := (-1000001)) hx hb hr (fun t ht hW => ⟨⟨(-1000001), M, rfl, (by have ho : o_write α x y z = ((-1000001), α) := (by unfold o_write; first | (rw [if_neg hn0, q1, q2] <;> rfl) | (simp only [if_neg hn0, q1, q2])); rw [ho]; exact ⟨rfl, hA⟩), fl_qi ht hP⟩, hS.F ht⟩) hS.2.2 dX5_write_27
      · obtain ⟨q2_1, q2_2, q2_3⟩ := a_ix_some q2
        refine fl_ti (y := 1) (by first | rfl | (rw [q2]; rfl)) ?_
        refine lv_if_ne (tgt := 28) hx hb dX5_write_22 (by decide) (fun _ => ?_) (fun hz => absurd hz (by decide))
        refine lv_iload_n hx hb dX5_write_28 rfl (lv_at hl 2 rfl) ?_
        refine lv_iconst (v := 0) hx hb dX5_write_29 (by decide) ?_
        refine lv_aload_n hx hb dX5_write_30 rfl (lv_at hl 0 rfl) ?_
        refine va_get (D := D) (ci := 7) (v := .int (M.1 0 12)) (C := RX5) (T := TX5) (N := 23) hx hb hts inX5 hown hK hP 0 (fl_at (by decide) rfl) rfl 12 (by decide) (hts (.fieldLink RX5 69 "ResampledRowsModel" "steps" "I") (by decide +kernel)) (fun _ h9 => h9) rfl dX5_write_31 ?_
        refine fl_ti (y := nI (r_sp α.2.2)) hR.2.1.2 ?_
        refine va_calli (va_runS (As := [.int y, .int 0, .int (nI (r_sp α.2.2))]) (rest := []) ⟨hx, hb, hml, hown, hts⟩ (c_X5_in l hJ M y 0 (nI (r_sp α.2.2))) (va_cwS 3 hts gX5_write_X5_in rfl rfl rfl (by decide +kernel) ⟨Nat.le_of_ble_eq_true rfl, Nat.le_of_ble_eq_true rfl⟩) ⟨fl_blind, fl_pre hP hK hN⟩ rfl rfl hl.1 rfl (lv_room (Nat.le_of_ble_eq_true rfl)) dX5_write_34 ⟨Nat.le_of_ble_eq_true rfl, Nat.le_of_ble_eq_true rfl⟩) hS (fun _ _ h => h) (fun _ h => h) (fun r34 M34 t H1 locs ht hvm hw hB hz1 hk1 hS => ?_)
        have hP : va_P D vwCl (fmP cI cJ ad M34) H1 := by rw [← ht]; exact hB
        clear hB hk1 hz1 hvm ht t
        obtain ⟨rfl, hE⟩ := hw
        rw [hE] at hP
        refine fl_ti (y := a_b (a_ix y (r_sp α.2.2 + 1))) (a_in0 (by have := hR.2.1.1; omega)) ?_
        rcases q3 : a_ix y (r_sp α.2.2 + 1) with _ | i
        · refine fl_ti (y := 0) (by first | rfl | (rw [q3]; rfl)) ?_
          refine lv_if_ne (tgt := 43) hx hb dX5_write_37 (by decide) (fun hz => absurd hz (by decide)) (fun _ => ?_)
          refine lv_ldc (v := -1000002) hx hb hown (hts (.constant RX5 92 (-1000002)) (by decide +kernel)) dX5_write_40 ?_
          exact W.iret (v := (-1000002)) hx hb hr (fun t ht hW => ⟨⟨(-1000002), M, rfl, (by have ho : o_write α x y z = ((-1000002), α) := (by unfold o_write; first | (rw [if_neg hn0, q1, q2, q3] <;> rfl) | (simp only [if_neg hn0, q1, q2, q3])); rw [ho]; exact ⟨rfl, hA⟩), fl_qi ht hP⟩, hS.F ht⟩) hS.2.2 dX5_write_42
        · obtain ⟨q3_1, q3_2, q3_3⟩ := a_ix_some q3
          refine fl_ti (y := 1) (by first | rfl | (rw [q3]; rfl)) ?_
          refine lv_if_ne (tgt := 43) hx hb dX5_write_37 (by decide) (fun _ => ?_) (fun hz => absurd hz (by decide))
          refine lv_aload_n hx hb dX5_write_43 rfl (lv_at hl 0 rfl) ?_
          refine va_get (D := D) (ci := 7) (v := .ref (ad 8)) (C := RX5) (T := TX5) (N := 23) hx hb hts inX5 hown hK hP 0 (fl_at (by decide) rfl) rfl 11 (by decide) (hts (.fieldLink RX5 32 "ResampledRowsModel" "histories" "[I") (by decide +kernel)) (fun _ h9 => h9) rfl dX5_write_44 ?_
          refine lv_bipush (v := 31) hx hb dX5_write_47 (by decide) ?_
          refine lv_iload_n hx hb dX5_write_49 rfl (lv_at hl 1 rfl) ?_
          refine fl_ti (y := nI j) q1_2 ?_
          refine lv_imul hx hb dX5_write_50 ?_
          refine fl_ti (y := nI (31 * j)) (pk_mul 31 j) ?_
          refine lv_iload_n hx hb dX5_write_51 rfl (lv_at hl 2 rfl) ?_
          refine fl_ti (y := nI i) q3_2 ?_
          refine lv_iadd hx hb dX5_write_52 ?_
          refine fl_ti (y := nI (31 * j + i)) (nI_add _ _) ?_
          refine lv_iload_n hx hb dX5_write_53 rfl (lv_at hl 3 rfl) ?_
          refine fl_ti (y := nI v) q2_2 ?_
          refine fl_ist (n := 496) (k := (31 * j + i)) (x := nI v) hx hb hK hJ hP hS (fm_loc cI cJ ad) (fl_at (by decide) rfl) rfl rfl rfl (by have := hR.1.1; have := hR.2.1.1; omega) (by decide) dX5_write_54 (fun H locs hP hS => ?_)
          refine lv_iconst (v := 1) hx hb dX5_write_55 (by decide) ?_
          exact W.iret (v := 1) hx hb hr (fun t ht hW => ⟨⟨1, (fl_sI M 8 (31 * j + i) (nI v)), rfl, (by have ho : o_write α x y z = (1, (α.1, α.2.1, a_wh α.2.2 j i v)) := (by unfold o_write; first | (rw [if_neg hn0, q1, q2, q3] <;> rfl) | (simp only [if_neg hn0, q1, q2, q3])); rw [ho]; exact ⟨rfl, ⟨hT.eq (P := fun c k => c ≠ 8) (fp.rf.sI (fun z => z rfl) _) (fun c k a b => by omega), hQ.eq (P := fun c k => c ≠ 8) (fp.rf.sI (fun z => z rfl) _) (by decide) (fun k => by decide), hsd, hR.wh q3_1 q2_1⟩⟩), fl_qi ht hP⟩, hS.F ht⟩) hS.2.2 dX5_write_56
  · have hn0 : r_n α.2.2 = 0 := (nI_eq (b := 0) (by have := hR.1.1; omega) (by decide)).mp hc4
    refine lv_ldc (v := -1000003) hx hb hown (hts (.constant RX5 119 (-1000003)) (by decide +kernel)) dX5_write_7 ?_
    exact W.iret (v := (-1000003)) hx hb hr (fun t ht hW => ⟨⟨(-1000003), M, rfl, (by have ho : o_write α x y z = ((-1000003), α) := (by unfold o_write; first | (rw [if_pos hn0] <;> rfl) | (simp only [if_pos hn0])); rw [ho]; exact ⟨rfl, hA⟩), fl_qi ht hP⟩, hS.F ht⟩) hS.2.2 dX5_write_9

theorem a_QJ_le {f : Nat → Int64} {w : Nat → Nat} {n : Nat} (h : fl_rowJ f w n 1000001) (hn : n ≤ 16) : a_Q w n ≤ 16000000000000 ∧ a_sum w n ≤ 16000000 ∧ a_sum w n * a_sum w n ≤ 256000000000000 :=
  a_Q_le (f := fun k => nI (w k)) (fun k hk => ⟨rfl, (h k hk).2⟩) hn

set_option maxHeartbeats 4000000 in
set_option maxRecDepth 100000 in
theorem c_X5_told (l : Launch) {D : va_G} {cI cJ cII : ClassId} {ad : Nat → Nat} (hJ : fl_inj 15 ad) (M : fl_M) (α : a_A) (hA : fm_A α M) (x : Int32) : Met l yX5_told wsX5_told ({ frames := 1, cells := 0, slots := 0, locals := 23 } : Room) (fmPc D cI cJ cII ad M [.ref (ad 0), .int x]) (va_Ql (fun r M2 => r = o_told α x ∧ M2 = M) (fmQ D cI cJ ad) (fl_A 15 ad)) 0 0 (fl_A 15 ad) := by
  refine Met.ofW (cc := cX5_told) (maxL := 6) (ret := (some .long)) (by decide) rfl ?_
  intro p e s m args below meth c s₁ B hml hv
  obtain ⟨rfl, hP, hK, hN⟩ := hv
  have hx := B.exec
  have hb := B.bytes
  have hr := B.returns
  have hts := atoms_spec (ws := wsX5_told) B.pre
  have hown : s.vm.findClass RX5 = some m.cls := findClass_of_methodNamed B.named
  have hlocks := B.notSynchronized
  have inX5 : ∀ w ∈ u_ws RX5 TX5 23, w ∈ wsX5_told := by decide +kernel
  have hS : va_S (fl_A 15 ad) s.heap s.heap [] := va_S.rf
  have hl := lv_entry ([.ref (ad 0), .int x] : List Value) (n := 6) (Nat.le_of_ble_eq_true rfl)
  rw [lg_entry_eq]
  generalize (lg_sl ([.ref (ad 0), .int x] : List Value) ++ List.replicate (6 - (lg_sl ([.ref (ad 0), .int x] : List Value)).length) Slot.unset).toArray = ls at hl ⊢
  have hl : lv_has ls 6 [(0, .ref (ad 0)), (1, .int x)] := hl
  obtain ⟨hT, hQ, hsd, hR⟩ := id hA
  obtain ⟨b1, b2, b3⟩ := a_QJ_le hR.2.2.2.2.2.2.1 hR.1.1
  refine lv_aload_n hx hb dX5_told_0 rfl (lv_at hl 0 rfl) ?_
  refine va_get (D := D) (ci := 7) (v := .int (M.1 0 7)) (C := RX5) (T := TX5) (N := 23) hx hb hts inX5 hown hK hP 0 (fl_at (by decide) rfl) rfl 7 (by decide) (hts (.fieldLink RX5 66 "ResampledRowsModel" "rows" "I") (by decide +kernel)) (fun _ h9 => h9) rfl dX5_told_1 ?_
  refine fl_ti (y := nI (r_n α.2.2)) hR.1.2 ?_
  refine lv_if_ne (tgt := 11) hx hb dX5_told_4 (by decide) (fun hc4 => ?_) (fun hc4 => ?_)
  · have hn0 : ¬ r_n α.2.2 = 0 := fun z => hc4 (by rw [z]; rfl)
    refine lv_aload_n hx hb dX5_told_11 rfl (lv_at hl 0 rfl) ?_
    refine va_calll (va_runV (As := []) (rest := []) ⟨hx, hb, hml, hown, hts⟩ (c_X5_total l hJ M (r_n α.2.2) (r_wt α.2.2) hR.1.1 hR.1.2 hR.2.2.2.2.2.2.1) (cwV 0 hts gX5_told_X5_total rfl rfl rfl (by decide +kernel) ⟨Nat.le_of_ble_eq_true rfl, Nat.le_of_ble_eq_true rfl⟩) ⟨fl_blind, va_recv hK hP (ci := 7) (q0 := 0) rfl (fl_at (by decide) rfl), fl_pre hP hK hN⟩ rfl rfl hl.1 rfl (lv_room (Nat.le_of_ble_eq_true rfl)) dX5_told_12 ⟨Nat.le_of_ble_eq_true rfl, Nat.le_of_ble_eq_true rfl⟩) hS (fun _ _ h => h) (fun _ h => h) (fun r12 M12 t H1 locs ht hvm hw hB hz1 hk1 hS => ?_)
    have hP : va_P D vwCl (fmP cI cJ ad M12) H1 := by rw [← ht]; exact hB
    clear hB hk1 hz1 hvm ht t
    obtain ⟨rfl, hE⟩ := hw
    rw [hE] at hP
    refine lv_lstore_n (lv' := [(2, .long (lN (a_sum (r_wt α.2.2) (r_n α.2.2)))), (0, .ref (ad 0)), (1, .int x)]) hx hb dX5_told_15 rfl hl (by decide) rfl (fun ls hl => ?_)
    refine lv_aload_n hx hb dX5_told_16 rfl (lv_at hl 1 rfl) ?_
    refine va_calll (va_runV (As := []) (rest := []) ⟨hx, hb, hml, hown, hts⟩ (c_X5_squares l hJ M (r_n α.2.2) (r_wt α.2.2) hR.1.1 hR.1.2 hR.2.2.2.2.2.2.1) (cwV 0 hts gX5_told_X5_squares rfl rfl rfl (by decide +kernel) ⟨Nat.le_of_ble_eq_true rfl, Nat.le_of_ble_eq_true rfl⟩) ⟨fl_blind, va_recv hK hP (ci := 7) (q0 := 0) rfl (fl_at (by decide) rfl), fl_pre hP hK hN⟩ rfl rfl hl.1 rfl (lv_room (Nat.le_of_ble_eq_true rfl)) dX5_told_17 ⟨Nat.le_of_ble_eq_true rfl, Nat.le_of_ble_eq_true rfl⟩) hS (fun _ _ h => h) (fun _ h => h) (fun r17 M17 t H1 locs ht hvm hw hB hz1 hk1 hS => ?_)
    have hP : va_P D vwCl (fmP cI cJ ad M17) H1 := by rw [← ht]; exact hB
    clear hB hk1 hz1 hvm ht t
    obtain ⟨rfl, hE⟩ := hw
    rw [hE] at hP
    refine lv_lstore (lv' := [(4, .long (lN (a_Q (r_wt α.2.2) (r_n α.2.2)))), (2, .long (lN (a_sum (r_wt α.2.2) (r_n α.2.2)))), (0, .ref (ad 0)), (1, .int x)]) hx hb dX5_told_20 hl (by decide) rfl (fun ls hl => ?_)
    refine lv_iload_n hx hb dX5_told_22 rfl (lv_at hl 3 rfl) ?_
    refine lv_if_ne (tgt := 30) hx hb dX5_told_23 (by decide) (fun hc23 => ?_) (fun hc23 => ?_)
    · refine lv_iload_n hx hb dX5_told_30 rfl (lv_at hl 3 rfl) ?_
      refine lv_iconst (v := 1) hx hb dX5_told_31 (by decide) ?_
      refine lv_icmp_ne (tgt := 40) hx hb dX5_told_32 (by decide) (fun hc32 => ?_) (fun hc32 => ?_)
      · refine lv_iload_n hx hb dX5_told_40 rfl (lv_at hl 3 rfl) ?_
        refine lv_iconst (v := 2) hx hb dX5_told_41 (by decide) ?_
        refine lv_icmp_ne (tgt := 65) hx hb dX5_told_42 (by decide) (fun hc42 => ?_) (fun hc42 => ?_)
        · refine lv_ldc2 (v := -1000002) hx hb hown (hts (.constantLong RX5 158 (-1000002)) (by decide +kernel)) dX5_told_65 ?_
          exact W.lret (v := -1000002) hx hb hr (fun t ht hW => ⟨⟨-1000002, M, rfl, (by have ho : o_told α x = -1000002 := (by unfold o_told; first | (rw [if_neg hn0, if_neg hc23, if_neg hc32, if_neg hc42] <;> rfl) | (simp only [if_neg hn0, if_neg hc23, if_neg hc32, if_neg hc42])); rw [ho]; exact ⟨rfl, rfl⟩), fl_qi ht hP⟩, hS.F ht⟩) hS.2.2 dX5_told_68
        · refine lv_lload hx hb dX5_told_45 (lv_at hl 0 rfl) ?_
          refine lv_lconst (v := 0) hx hb dX5_told_47 (by decide) ?_
          refine fl_lne (tgt := 56) hx hb dX5_told_48 dX5_told_49 (by decide) (fun hc48 => ?_) (fun hc48 => ?_)
          · have g48 : ¬ a_Q (r_wt α.2.2) (r_n α.2.2) = 0 := fun z => hc48 (by rw [z]; rfl)
            have he9 : a_eff (r_wt α.2.2) (r_n α.2.2) = a_sum (r_wt α.2.2) (r_n α.2.2) * a_sum (r_wt α.2.2) (r_n α.2.2) / a_Q (r_wt α.2.2) (r_n α.2.2) := if_neg g48
            refine lv_lload_n hx hb dX5_told_56 rfl (lv_at hl 1 rfl) ?_
            refine lv_lload_n hx hb dX5_told_57 rfl (lv_at hl 1 rfl) ?_
            refine lv_lmul hx hb dX5_told_58 ?_
            refine lv_lload hx hb dX5_told_59 (lv_at hl 0 rfl) ?_
            refine lv_ldiv hx hb dX5_told_61 hc48 ?_
            refine lv_goto (tgt := 68) hx hb dX5_told_62 (by decide) ?_
            refine fl_tl (y := lN (a_eff (r_wt α.2.2) (r_n α.2.2))) (by rw [he9, lN_mul, pk_lDiv (by omega) (by omega) (by omega)]) ?_
            exact W.lret (v := lN (a_eff (r_wt α.2.2) (r_n α.2.2))) hx hb hr (fun t ht hW => ⟨⟨lN (a_eff (r_wt α.2.2) (r_n α.2.2)), M, rfl, (by have ho : o_told α x = lN (a_eff (r_wt α.2.2) (r_n α.2.2)) := (by unfold o_told; first | (rw [if_neg hn0, if_neg hc23, if_neg hc32, if_pos hc42] <;> rfl) | (simp only [if_neg hn0, if_neg hc23, if_neg hc32, if_pos hc42])); rw [ho]; exact ⟨rfl, rfl⟩), fl_qi ht hP⟩, hS.F ht⟩) hS.2.2 dX5_told_68
          · have g48 : a_Q (r_wt α.2.2) (r_n α.2.2) = 0 := (pk_lEQ (b := 0) (by omega) (by decide)).mp hc48
            have he9 : a_eff (r_wt α.2.2) (r_n α.2.2) = 0 := if_pos g48
            refine lv_lconst (v := 0) hx hb dX5_told_52 (by decide) ?_
            refine lv_goto (tgt := 68) hx hb dX5_told_53 (by decide) ?_
            refine fl_tl (y := lN (a_eff (r_wt α.2.2) (r_n α.2.2))) (by rw [he9]; rfl) ?_
            exact W.lret (v := lN (a_eff (r_wt α.2.2) (r_n α.2.2))) hx hb hr (fun t ht hW => ⟨⟨lN (a_eff (r_wt α.2.2) (r_n α.2.2)), M, rfl, (by have ho : o_told α x = lN (a_eff (r_wt α.2.2) (r_n α.2.2)) := (by unfold o_told; first | (rw [if_neg hn0, if_neg hc23, if_neg hc32, if_pos hc42] <;> rfl) | (simp only [if_neg hn0, if_neg hc23, if_neg hc32, if_pos hc42])); rw [ho]; exact ⟨rfl, rfl⟩), fl_qi ht hP⟩, hS.F ht⟩) hS.2.2 dX5_told_68
      · refine lv_lload hx hb dX5_told_35 (lv_at hl 0 rfl) ?_
        refine lv_goto (tgt := 68) hx hb dX5_told_37 (by decide) ?_
        exact W.lret (v := lN (a_Q (r_wt α.2.2) (r_n α.2.2))) hx hb hr (fun t ht hW => ⟨⟨lN (a_Q (r_wt α.2.2) (r_n α.2.2)), M, rfl, (by have ho : o_told α x = lN (a_Q (r_wt α.2.2) (r_n α.2.2)) := (by unfold o_told; first | (rw [if_neg hn0, if_neg hc23, if_pos hc32] <;> rfl) | (simp only [if_neg hn0, if_neg hc23, if_pos hc32])); rw [ho]; exact ⟨rfl, rfl⟩), fl_qi ht hP⟩, hS.F ht⟩) hS.2.2 dX5_told_68
    · refine lv_lload_n hx hb dX5_told_26 rfl (lv_at hl 1 rfl) ?_
      refine lv_goto (tgt := 68) hx hb dX5_told_27 (by decide) ?_
      exact W.lret (v := lN (a_sum (r_wt α.2.2) (r_n α.2.2))) hx hb hr (fun t ht hW => ⟨⟨lN (a_sum (r_wt α.2.2) (r_n α.2.2)), M, rfl, (by have ho : o_told α x = lN (a_sum (r_wt α.2.2) (r_n α.2.2)) := (by unfold o_told; first | (rw [if_neg hn0, if_pos hc23] <;> rfl) | (simp only [if_neg hn0, if_pos hc23])); rw [ho]; exact ⟨rfl, rfl⟩), fl_qi ht hP⟩, hS.F ht⟩) hS.2.2 dX5_told_68
  · have hn0 : r_n α.2.2 = 0 := (nI_eq (b := 0) (by have := hR.1.1; omega) (by decide)).mp hc4
    refine lv_ldc2 (v := -1000003) hx hb hown (hts (.constantLong RX5 154 (-1000003)) (by decide +kernel)) dX5_told_7 ?_
    exact W.lret (v := -1000003) hx hb hr (fun t ht hW => ⟨⟨-1000003, M, rfl, (by have ho : o_told α x = -1000003 := (by unfold o_told; first | (rw [if_pos hn0] <;> rfl) | (simp only [if_pos hn0])); rw [ho]; exact ⟨rfl, rfl⟩), fl_qi ht hP⟩, hS.F ht⟩) hS.2.2 dX5_told_10

set_option maxHeartbeats 4000000 in
set_option maxRecDepth 100000 in
theorem c_X5_evidence (l : Launch) {D : va_G} {cI cJ cII : ClassId} {ad : Nat → Nat} (hJ : fl_inj 15 ad) (M : fl_M) (α : a_A) (hA : fm_A α M) : MetD lw_cs l yX5_evidence wsX5_evidence ({ frames := 1, cells := 0, slots := 0, locals := 23 } : Room) (fmPc D cI cJ cII ad M [.ref (ad 0)]) (va_Qd (fun r M2 => alike64 r (o_ev α) = true ∧ M2 = M) (fmQ D cI cJ ad) (fl_A 15 ad)) 0 0 (fl_A 15 ad) := by
  refine MetD.ofW (cc := cX5_evidence) (maxL := 1) (ret := (some .double)) (by decide) rfl ?_
  intro p e s m args below meth c s₁ B hml hv hd0
  obtain ⟨rfl, hP, hK, hN⟩ := hv
  have hx := B.exec
  have hb := B.bytes
  have hr := B.returns
  have hts0 := atoms_spec (ws := wsX5_evidence) B.pre
  have hts := dr_words hts0 s.drawn
  have hown : s.vm.findClass RX5 = some m.cls := findClass_of_methodNamed B.named
  have hlocks := B.notSynchronized
  have inX5 : ∀ w ∈ u_ws RX5 TX5 23, w ∈ wsX5_evidence := by decide +kernel
  have hS : va_S (fl_A 15 ad) s.heap s.heap [] := va_S.rf
  have hl := lv_entry ([.ref (ad 0)] : List Value) (n := 1) (Nat.le_of_ble_eq_true rfl)
  rw [lg_entry_eq]
  generalize (lg_sl ([.ref (ad 0)] : List Value) ++ List.replicate (1 - (lg_sl ([.ref (ad 0)] : List Value)).length) Slot.unset).toArray = ls at hl ⊢
  have hl : lv_has ls 1 [(0, .ref (ad 0))] := hl
  have hd0 := hd0
  obtain ⟨hT, hQ, hsd, hR⟩ := id hA
  refine lv_aload_n hx hb dX5_evidence_0 rfl (lv_at hl 0 rfl) ?_
  refine va_get (D := D) (ci := 7) (v := .int (M.1 0 7)) (C := RX5) (T := TX5) (N := 23) hx hb hts inX5 hown hK hP 0 (fl_at (by decide) rfl) rfl 7 (by decide) (hts (.fieldLink RX5 66 "ResampledRowsModel" "rows" "I") (by decide +kernel)) (fun _ h9 => h9) rfl dX5_evidence_1 ?_
  refine fl_ti (y := nI (r_n α.2.2)) hR.1.2 ?_
  refine lv_if_ne (tgt := 11) hx hb dX5_evidence_4 (by decide) (fun hc4 => ?_) (fun hc4 => ?_)
  · have hn0 : ¬ r_n α.2.2 = 0 := fun z => hc4 (by rw [z]; rfl)
    refine lv_aload_n hx hb dX5_evidence_11 rfl (lv_at hl 0 rfl) ?_
    refine va_get (D := D) (ci := 7) (v := .double (M.2.2.1 0)) (C := RX5) (T := TX5) (N := 23) hx hb hts inX5 hown hK hP 0 (fl_at (by decide) rfl) rfl 15 (by decide) (hts (.fieldLink RX5 115 "ResampledRowsModel" "product" "D") (by decide +kernel)) (fun _ h9 => h9) rfl dX5_evidence_12 ?_
    refine lv_aload_n hx hb dX5_evidence_15 rfl (lv_at hl 0 rfl) ?_
    refine va_calll (va_runV (As := []) (rest := [.double (M.2.2.1 0)]) ⟨hx, hb, hml, hown, hts⟩ (c_X5_total l hJ M (r_n α.2.2) (r_wt α.2.2) hR.1.1 hR.1.2 hR.2.2.2.2.2.2.1) (cwV 0 hts gX5_evidence_X5_total rfl rfl rfl (by decide +kernel) ⟨Nat.le_of_ble_eq_true rfl, Nat.le_of_ble_eq_true rfl⟩) ⟨fl_blind, va_recv hK hP (ci := 7) (q0 := 0) rfl (fl_at (by decide) rfl), fl_pre hP hK hN⟩ rfl rfl hl.1 rfl (lv_room (Nat.le_of_ble_eq_true rfl)) dX5_evidence_16 ⟨Nat.le_of_ble_eq_true rfl, Nat.le_of_ble_eq_true rfl⟩) hS (fun _ _ h => h) (fun _ h => h) (fun r16 M16 t H1 locs ht hvm hw hB hz1 hk1 hS => ?_)
    have hP : va_P D vwCl (fmP cI cJ ad M16) H1 := by rw [← ht]; exact hB
    clear hB hk1 hz1 hvm ht t
    obtain ⟨rfl, hE⟩ := hw
    rw [hE] at hP
    refine lv_l2d hx hb dX5_evidence_19 ?_
    refine lv_aload_n hx hb dX5_evidence_20 rfl (lv_at hl 0 rfl) ?_
    refine va_get (D := D) (ci := 7) (v := .int (M.1 0 7)) (C := RX5) (T := TX5) (N := 23) hx hb hts inX5 hown hK hP 0 (fl_at (by decide) rfl) rfl 7 (by decide) (hts (.fieldLink RX5 66 "ResampledRowsModel" "rows" "I") (by decide +kernel)) (fun _ h9 => h9) rfl dX5_evidence_21 ?_
    refine fl_ti (y := nI (r_n α.2.2)) hR.1.2 ?_
    refine lv_i2d hx hb dX5_evidence_24 ?_
    refine lv_ddiv_any hd0 lw_bits hx hb dX5_evidence_25 (fun x1 d1 ha1 hd1 => ?_)
    have hd0 := hd1
    have hts := dr_words hts0 d1
    refine lv_dmul_any hd0 lw_bits hx hb dX5_evidence_26 (fun x2 d2 ha2 hd2 => ?_)
    have hd0 := hd2
    have hts := dr_words hts0 d2
    refine W.endD hd0 ?_
    exact W.dret (v := x2) hx hb hr (fun t ht hW => ⟨⟨x2, M, rfl, (by rw [show o_ev α = a_ev (r_mu α.2.2) (r_wt α.2.2) (r_n α.2.2) from if_neg hn0]; exact ⟨al_trans ha2 (al_mul (hR.2.2.2.2.1 hn0) ha1), rfl⟩), fl_qi ht hP⟩, hS.F ht⟩) hS.2.2 dX5_evidence_27
  · have hn0 : r_n α.2.2 = 0 := (nI_eq (b := 0) (by have := hR.1.1; omega) (by decide)).mp hc4
    refine lv_dconst0 hx hb dX5_evidence_7 ?_
    refine lv_goto (tgt := 27) hx hb dX5_evidence_8 (by decide) ?_
    refine W.endD hd0 ?_
    exact W.dret (v := FP.dconst0) hx hb hr (fun t ht hW => ⟨⟨FP.dconst0, M, rfl, (by rw [show o_ev α = FP.dconst0 from if_pos hn0]; exact ⟨alike64_refl _, rfl⟩), fl_qi ht hP⟩, hS.F ht⟩) hS.2.2 dX5_evidence_27

set_option maxHeartbeats 4000000 in
set_option maxRecDepth 100000 in
theorem c_X5_count (l : Launch) {D : va_G} {cI cJ cII : ClassId} {ad : Nat → Nat} (hJ : fl_inj 15 ad) (M : fl_M) (α : a_A) (hA : fm_A α M) (x : Int32) : Met l yX5_count wsX5_count ({ frames := 0, cells := 0, slots := 0, locals := 0 } : Room) (fmPc D cI cJ cII ad M [.ref (ad 0), .int x]) (va_Qi (fun r M2 => r = o_count α x ∧ M2 = M) (fmQ D cI cJ ad) (fl_A 15 ad)) 0 0 (fl_A 15 ad) := by
  refine Met.ofW (cc := cX5_count) (maxL := 2) (ret := (some .int)) (by decide) rfl ?_
  intro p e s m args below meth c s₁ B hml hv
  obtain ⟨rfl, hP, hK, hN⟩ := hv
  have hx := B.exec
  have hb := B.bytes
  have hr := B.returns
  have hts := atoms_spec (ws := wsX5_count) B.pre
  have hown : s.vm.findClass RX5 = some m.cls := findClass_of_methodNamed B.named
  have hlocks := B.notSynchronized
  have inX5 : ∀ w ∈ u_ws RX5 TX5 23, w ∈ wsX5_count := by decide +kernel
  have hS : va_S (fl_A 15 ad) s.heap s.heap [] := va_S.rf
  have hl := lv_entry ([.ref (ad 0), .int x] : List Value) (n := 2) (Nat.le_of_ble_eq_true rfl)
  rw [lg_entry_eq]
  generalize (lg_sl ([.ref (ad 0), .int x] : List Value) ++ List.replicate (2 - (lg_sl ([.ref (ad 0), .int x] : List Value)).length) Slot.unset).toArray = ls at hl ⊢
  have hl : lv_has ls 2 [(0, .ref (ad 0)), (1, .int x)] := hl
  obtain ⟨hT, hQ, hsd, hR⟩ := id hA
  refine lv_iload_n hx hb dX5_count_0 rfl (lv_at hl 1 rfl) ?_
  rcases fl_c5 x with h0 | ⟨z0, h1⟩ | ⟨z0, z1, h2⟩ | ⟨z0, z1, z2, h3⟩ | ⟨z0, z1, z2, z3, h4⟩ | ⟨z0, z1, z2, z3, z4⟩
  · refine lv_tableIn (off := 35) (tgt := 36) hx hb dX5_count_1 (by rw [h0]; decide) (by rw [h0]; decide) (by rw [h0]; decide) (by decide) ?_
    refine lv_aload_n hx hb dX5_count_36 rfl (lv_at hl 0 rfl) ?_
    refine va_get (D := D) (ci := 7) (v := .int (M.1 0 7)) (C := RX5) (T := TX5) (N := 23) hx hb hts inX5 hown hK hP 0 (fl_at (by decide) rfl) rfl 7 (by decide) (hts (.fieldLink RX5 66 "ResampledRowsModel" "rows" "I") (by decide +kernel)) (fun _ h9 => h9) rfl dX5_count_37 ?_
    refine fl_ti (y := nI (r_n α.2.2)) hR.1.2 ?_
    exact W.iret (v := nI (r_n α.2.2)) hx hb hr (fun t ht hW => ⟨⟨nI (r_n α.2.2), M, rfl, (by have ho : o_count α x = nI (r_n α.2.2) := (by unfold o_count; first | (rw [if_pos h0] <;> rfl) | (simp only [if_pos h0])); rw [ho]; exact ⟨rfl, rfl⟩), fl_qi ht hP⟩, hS.F ht⟩) hS.2.2 dX5_count_40
  · refine lv_tableIn (off := 40) (tgt := 41) hx hb dX5_count_1 (by rw [h1]; decide) (by rw [h1]; decide) (by rw [h1]; decide) (by decide) ?_
    refine lv_aload_n hx hb dX5_count_41 rfl (lv_at hl 0 rfl) ?_
    refine va_get (D := D) (ci := 7) (v := .int (M.1 0 12)) (C := RX5) (T := TX5) (N := 23) hx hb hts inX5 hown hK hP 0 (fl_at (by decide) rfl) rfl 12 (by decide) (hts (.fieldLink RX5 69 "ResampledRowsModel" "steps" "I") (by decide +kernel)) (fun _ h9 => h9) rfl dX5_count_42 ?_
    refine fl_ti (y := nI (r_sp α.2.2)) hR.2.1.2 ?_
    exact W.iret (v := nI (r_sp α.2.2)) hx hb hr (fun t ht hW => ⟨⟨nI (r_sp α.2.2), M, rfl, (by have ho : o_count α x = nI (r_sp α.2.2) := (by unfold o_count; first | (rw [if_neg z0, if_pos h1] <;> rfl) | (simp only [if_neg z0, if_pos h1])); rw [ho]; exact ⟨rfl, rfl⟩), fl_qi ht hP⟩, hS.F ht⟩) hS.2.2 dX5_count_45
  · refine lv_tableIn (off := 45) (tgt := 46) hx hb dX5_count_1 (by rw [h2]; decide) (by rw [h2]; decide) (by rw [h2]; decide) (by decide) ?_
    refine lv_aload_n hx hb dX5_count_46 rfl (lv_at hl 0 rfl) ?_
    refine va_get (D := D) (ci := 7) (v := .int (M.1 0 13)) (C := RX5) (T := TX5) (N := 23) hx hb hts inX5 hown hK hP 0 (fl_at (by decide) rfl) rfl 13 (by decide) (hts (.fieldLink RX5 72 "ResampledRowsModel" "anew" "I") (by decide +kernel)) (fun _ h9 => h9) rfl dX5_count_47 ?_
    refine fl_ti (y := nI (r_an α.2.2)) hR.2.2.1.2 ?_
    exact W.iret (v := nI (r_an α.2.2)) hx hb hr (fun t ht hW => ⟨⟨nI (r_an α.2.2), M, rfl, (by have ho : o_count α x = nI (r_an α.2.2) := (by unfold o_count; first | (rw [if_neg z0, if_neg z1, if_pos h2] <;> rfl) | (simp only [if_neg z0, if_neg z1, if_pos h2])); rw [ho]; exact ⟨rfl, rfl⟩), fl_qi ht hP⟩, hS.F ht⟩) hS.2.2 dX5_count_50
  · refine lv_tableIn (off := 50) (tgt := 51) hx hb dX5_count_1 (by rw [h3]; decide) (by rw [h3]; decide) (by rw [h3]; decide) (by decide) ?_
    refine lv_aload_n hx hb dX5_count_51 rfl (lv_at hl 0 rfl) ?_
    refine va_get (D := D) (ci := 7) (v := .int (M.1 0 6)) (C := RX5) (T := TX5) (N := 23) hx hb hts inX5 hown hK hP 0 (fl_at (by decide) rfl) rfl 6 (by decide) (hts (.fieldLink RX5 60 "ResampledRowsModel" "forcedMany" "I") (by decide +kernel)) (fun _ h9 => h9) rfl dX5_count_52 ?_
    refine fl_ti (y := nI α.2.1.1.length) hQ.1 ?_
    exact W.iret (v := nI α.2.1.1.length) hx hb hr (fun t ht hW => ⟨⟨nI α.2.1.1.length, M, rfl, (by have ho : o_count α x = nI α.2.1.1.length := (by unfold o_count; first | (rw [if_neg z0, if_neg z1, if_neg z2, if_pos h3] <;> rfl) | (simp only [if_neg z0, if_neg z1, if_neg z2, if_pos h3])); rw [ho]; exact ⟨rfl, rfl⟩), fl_qi ht hP⟩, hS.F ht⟩) hS.2.2 dX5_count_55
  · refine lv_tableIn (off := 55) (tgt := 56) hx hb dX5_count_1 (by rw [h4]; decide) (by rw [h4]; decide) (by rw [h4]; decide) (by decide) ?_
    refine lv_aload_n hx hb dX5_count_56 rfl (lv_at hl 0 rfl) ?_
    refine va_get (D := D) (ci := 7) (v := .int (M.1 0 14)) (C := RX5) (T := TX5) (N := 23) hx hb hts inX5 hown hK hP 0 (fl_at (by decide) rfl) rfl 14 (by decide) (hts (.fieldLink RX5 76 "ResampledRowsModel" "kept" "I") (by decide +kernel)) (fun _ h9 => h9) rfl dX5_count_57 ?_
    refine fl_ti (y := a_oI (r_kp α.2.2) (-1000009)) hR.2.2.2.1.1 ?_
    exact W.iret (v := a_oI (r_kp α.2.2) (-1000009)) hx hb hr (fun t ht hW => ⟨⟨a_oI (r_kp α.2.2) (-1000009), M, rfl, (by have ho : o_count α x = a_oI (r_kp α.2.2) (-1000009) := (by unfold o_count; first | (rw [if_neg z0, if_neg z1, if_neg z2, if_neg z3, if_pos h4] <;> rfl) | (simp only [if_neg z0, if_neg z1, if_neg z2, if_neg z3, if_pos h4])); rw [ho]; exact ⟨rfl, rfl⟩), fl_qi ht hP⟩, hS.F ht⟩) hS.2.2 dX5_count_60
  · refine lv_tableOut (tgt := 61) hx hb dX5_count_1 (fl_o5 z0 z1 z2 z3 z4) (by decide) ?_
    refine lv_ldc (v := -1000002) hx hb hown (hts (.constant RX5 92 (-1000002)) (by decide +kernel)) dX5_count_61 ?_
    exact W.iret (v := (-1000002)) hx hb hr (fun t ht hW => ⟨⟨(-1000002), M, rfl, (by have ho : o_count α x = (-1000002) := (by unfold o_count; first | (rw [if_neg z0, if_neg z1, if_neg z2, if_neg z3, if_neg z4] <;> rfl) | (simp only [if_neg z0, if_neg z1, if_neg z2, if_neg z3, if_neg z4])); rw [ho]; exact ⟨rfl, rfl⟩), fl_qi ht hP⟩, hS.F ht⟩) hS.2.2 dX5_count_63

set_option maxHeartbeats 4000000 in
set_option maxRecDepth 100000 in
theorem c_X5_beginAll (l : Launch) {D : va_G} {cI cJ cII : ClassId} {ad : Nat → Nat} (hJ : fl_inj 15 ad) (M : fl_M) : Met l yX5_beginAll wsX5_beginAll ({ frames := 1, cells := 0, slots := 0, locals := 20 } : Room) (fmPc D cI cJ cII ad M [.ref (ad 0)]) (va_Qv (fun M2 => fm_T a_t1 M2 ∧ fm_Q [] M2 ∧ fm_R a_r0 M2) (fmQ D cI cJ ad) (fl_A 15 ad)) 0 0 (fl_A 15 ad) := by
  refine Met.ofW (cc := cX5_beginAll) (maxL := 2) (ret := none) (by decide) rfl ?_
  intro p e s m args below meth c s₁ B hml hv
  obtain ⟨rfl, hP, hK, hN⟩ := hv
  have hx := B.exec
  have hb := B.bytes
  have hr := B.returns
  have hts := atoms_spec (ws := wsX5_beginAll) B.pre
  have hown : s.vm.findClass RX5 = some m.cls := findClass_of_methodNamed B.named
  have hlocks := B.notSynchronized
  have inX5 : ∀ w ∈ u_ws RX5 TX5 23, w ∈ wsX5_beginAll := by decide +kernel
  have hS : va_S (fl_A 15 ad) s.heap s.heap [] := va_S.rf
  have hl := lv_entry ([.ref (ad 0)] : List Value) (n := 2) (Nat.le_of_ble_eq_true rfl)
  rw [lg_entry_eq]
  generalize (lg_sl ([.ref (ad 0)] : List Value) ++ List.replicate (2 - (lg_sl ([.ref (ad 0)] : List Value)).length) Slot.unset).toArray = ls at hl ⊢
  have hl : lv_has ls 2 [(0, .ref (ad 0))] := hl
  refine lv_iconst (v := 0) hx hb dX5_beginAll_0 (by decide) ?_
  refine lv_istore_n (lv' := [(1, .int 0), (0, .ref (ad 0))]) hx hb dX5_beginAll_1 rfl hl (by decide) rfl (fun ls hl => ?_)
  suffices KL2 : ∀ (f : Nat) (i : Nat) (M3 : fl_M) (hi : i ≤ 36) (h1 : ∀ k, k < i → True → M3.1 2 k = 1) (h2 : ∀ k, k < i → k < 30 → M3.1 3 k = 1) (h3 : ∀ k, k < i → k < 6 → M3.1 1 k = 1) (h4 : ∀ k, k < i → k < 6 → M3.1 4 k = 0) (hf : 36 + 1 ≤ i + f), ∀ (H : Heap) (locs : List Loc), va_P D vwCl (fmP cI cJ ad M3) H → va_S (fl_A 15 ad) s.heap H locs → ∀ (ls : Array Slot), lv_has ls 2 [(0, .ref (ad 0)), (1, .int (nI i))] → W p l e (headSpec wsX5_beginAll ({ frames := 1, cells := 0, slots := 0, locals := 20 } : Room)).room s m ([.ref (ad 0)] : List Value).toArray below meth c H locs 0 0 (MQ below (va_Qv (fun M2 => fm_T a_t1 M2 ∧ fm_Q [] M2 ∧ fm_R a_r0 M2) (fmQ D cI cJ ad) (fl_A 15 ad)) ([.ref (ad 0)] : List Value).toArray s 0 0 (fl_A 15 ad)) (F0 m 2 ls []) from KL2 (36 + 1) 0 M (Nat.zero_le _) (fun k hk => absurd hk (Nat.not_lt_zero k)) (fun k hk => absurd hk (Nat.not_lt_zero k)) (fun k hk => absurd hk (Nat.not_lt_zero k)) (fun k hk => absurd hk (Nat.not_lt_zero k)) (by omega) _ _ hP hS ls (lv_sub hl [1, 0] rfl)
  intro f
  induction f with
  | zero =>
    intro i M3 hi h1 h2 h3 h4 hf
    omega
  | succ f ih2 =>
    intro i M3 hi h1 h2 h3 h4 hf H locs hP hS ls hl
    refine lv_iload_n hx hb dX5_beginAll_2 rfl (lv_at hl 1 rfl) ?_
    refine lv_bipush (v := 36) hx hb dX5_beginAll_3 (by decide) ?_
    refine fl_ti (y := nI 36) rfl ?_
    refine lv_icmp_ge (tgt := 54) hx hb dX5_beginAll_5 (by decide) (fun hc5 => ?_) (fun hc5 => ?_)
    · have e5 : i = 36 := Nat.le_antisymm hi ((nI_leI (by omega) (by omega)).mp hc5)
      refine lv_aload_n hx hb dX5_beginAll_54 rfl (lv_at hl 0 rfl) ?_
      refine lv_iconst (v := 0) hx hb dX5_beginAll_55 (by decide) ?_
      refine fl_put (ci := 7) (ty := .int) (v := .int 0) (C := RX5) (T := TX5) (Nf := 23) hx hb hts inX5 tyX5 tyX5_ok nmX5 hown hK hJ hP hS 0 (by decide) (fl_sI M3 0 6 0) rfl rfl 6 (by decide) (hts (.fieldLink RX5 60 "ResampledRowsModel" "forcedMany" "I") (by decide +kernel)) (fun _ h9 => h9) rfl (by decide +kernel) rfl rfl (Nat.le_of_ble_eq_true rfl) rfl (fl_sI_o (fm_loc cI cJ ad) _ _ _ _) dX5_beginAll_56 (fun H locs hP hS => ?_)
      refine lv_aload_n hx hb dX5_beginAll_59 rfl (lv_at hl 0 rfl) ?_
      refine va_callv (va_runV (As := []) (rest := []) ⟨hx, hb, hml, hown, hts⟩ (c_X5_noRun l hJ (fl_sI M3 0 6 0)) (cwV 0 hts gX5_beginAll_X5_noRun rfl rfl rfl (by decide +kernel) ⟨Nat.le_of_ble_eq_true rfl, Nat.le_of_ble_eq_true rfl⟩) ⟨fl_blind, va_recv hK hP (ci := 7) (q0 := 0) rfl (fl_at (by decide) rfl), fl_pre hP hK hN⟩ rfl rfl hl.1 rfl (lv_room (Nat.le_of_ble_eq_true rfl)) dX5_beginAll_60 ⟨Nat.le_of_ble_eq_true rfl, Nat.le_of_ble_eq_true rfl⟩) hS (fun _ _ h => h) (fun _ h => h) (fun M60 t H1 locs ht hvm hw hB hz1 hk1 hS => ?_)
      have hP : va_P D vwCl (fmP cI cJ ad M60) H1 := by rw [← ht]; exact hB
      clear hB hk1 hz1 hvm ht t
      rw [hw] at hP
      exact W.vret hx hb hr (fun t ht hW => ⟨⟨(fl_sI (fl_sI (fl_sI (fl_sI (fl_sI (fl_sI M3 0 6 0) 0 7 0) 0 12 0) 0 13 0) 0 14 (-1000009)) 0 17 0), rfl, ⟨⟨fun k hk => ⟨h3 k (by omega) hk, (by decide : (1 : Nat) < 10)⟩, fun i2 hi2 k hk => ⟨h1 (6 * i2 + k) (by omega) trivial, (by decide : (1 : Nat) < 10)⟩, fun i2 hi2 k hk => ⟨h2 (6 * i2 + k) (by omega) (by omega), (by decide : (1 : Nat) < 10)⟩, fun k hk => ⟨h4 k (by omega) hk, (by decide : (0 : Nat) < 4)⟩⟩, ⟨rfl, Nat.zero_le _, fun j hj => absurd hj (Nat.not_lt_zero j)⟩, ⟨⟨Nat.zero_le _, rfl⟩, ⟨Nat.zero_le _, rfl⟩, ⟨(by decide : (0 : Nat) < 2 ^ 30), rfl⟩, ⟨rfl, fun k hk => nomatch hk⟩, fun z => absurd rfl z, fun k hk => absurd hk (Nat.not_lt_zero k), fun k hk => absurd hk (Nat.not_lt_zero k), fun k hk => absurd hk (Nat.not_lt_zero k), fun z => absurd rfl z, fun _ => rfl⟩⟩, fl_qi ht hP⟩, hS.F ht⟩) hS.2.2 dX5_beginAll_63
    · have l5 : i < 36 := Nat.lt_of_not_le (fun q => hc5 ((nI_leI (by omega) (by omega)).mpr q))
      refine lv_aload_n hx hb dX5_beginAll_8 rfl (lv_at hl 0 rfl) ?_
      refine va_get (D := D) (ci := 7) (v := .ref (ad 2)) (C := RX5) (T := TX5) (N := 23) hx hb hts inX5 hown hK hP 0 (fl_at (by decide) rfl) rfl 2 (by decide) (hts (.fieldLink RX5 13 "ResampledRowsModel" "moves" "[I") (by decide +kernel)) (fun _ h9 => h9) rfl dX5_beginAll_9 ?_
      refine lv_iload_n hx hb dX5_beginAll_12 rfl (lv_at hl 1 rfl) ?_
      refine lv_iconst (v := 1) hx hb dX5_beginAll_13 (by decide) ?_
      refine fl_ist (n := 36) (k := i) (x := 1) hx hb hK hJ hP hS (fm_loc cI cJ ad) (fl_at (by decide) rfl) rfl rfl rfl (by omega) (by decide) dX5_beginAll_14 (fun H locs hP hS => ?_)
      refine lv_iload_n hx hb dX5_beginAll_15 rfl (lv_at hl 1 rfl) ?_
      refine lv_bipush (v := 30) hx hb dX5_beginAll_16 (by decide) ?_
      refine fl_ti (y := nI 30) rfl ?_
      refine lv_icmp_ge (tgt := 28) hx hb dX5_beginAll_18 (by decide) (fun hc18 => ?_) (fun hc18 => ?_)
      · have g18 : 30 ≤ i := (nI_leI (by omega) (by omega)).mp hc18
        refine lv_iload_n hx hb dX5_beginAll_28 rfl (lv_at hl 1 rfl) ?_
        refine lv_bipush (v := 6) hx hb dX5_beginAll_29 (by decide) ?_
        refine fl_ti (y := nI 6) rfl ?_
        refine lv_icmp_ge (tgt := 48) hx hb dX5_beginAll_31 (by decide) (fun hc31 => ?_) (fun hc31 => ?_)
        · have g31 : 6 ≤ i := (nI_leI (by omega) (by omega)).mp hc31
          refine lv_iinc (v := nI (i + 1)) (lv' := [(1, .int (nI (i + 1))), (0, .ref (ad 0))]) hx hb dX5_beginAll_48 hl (k := 1) rfl (fl_inc i) (by decide) rfl (fun ls hl => ?_)
          refine lv_goto (tgt := 2) hx hb dX5_beginAll_51 (by decide) ?_
          exact ih2 (i + 1) (fl_sI M3 2 i 1) (by omega) (fm_up h1) (fun k hk hk3 => h2 k (by omega) hk3) (fun k hk hk3 => h3 k (by omega) hk3) (fun k hk hk3 => h4 k (by omega) hk3) (by omega) _ _ hP hS ls (lv_sub hl [1, 0] rfl)
        · have l31 : i < 6 := Nat.lt_of_not_le (fun q => hc31 ((nI_leI (by omega) (by omega)).mpr q))
          refine lv_aload_n hx hb dX5_beginAll_34 rfl (lv_at hl 0 rfl) ?_
          refine va_get (D := D) (ci := 7) (v := .ref (ad 1)) (C := RX5) (T := TX5) (N := 23) hx hb hts inX5 hown hK hP 0 (fl_at (by decide) rfl) rfl 1 (by decide) (hts (.fieldLink RX5 7 "ResampledRowsModel" "starts" "[I") (by decide +kernel)) (fun _ h9 => h9) rfl dX5_beginAll_35 ?_
          refine lv_iload_n hx hb dX5_beginAll_38 rfl (lv_at hl 1 rfl) ?_
          refine lv_iconst (v := 1) hx hb dX5_beginAll_39 (by decide) ?_
          refine fl_ist (n := 6) (k := i) (x := 1) hx hb hK hJ hP hS (fm_loc cI cJ ad) (fl_at (by decide) rfl) rfl rfl rfl (by omega) (by decide) dX5_beginAll_40 (fun H locs hP hS => ?_)
          refine lv_aload_n hx hb dX5_beginAll_41 rfl (lv_at hl 0 rfl) ?_
          refine va_get (D := D) (ci := 7) (v := .ref (ad 4)) (C := RX5) (T := TX5) (N := 23) hx hb hts inX5 hown hK hP 0 (fl_at (by decide) rfl) rfl 4 (by decide) (hts (.fieldLink RX5 19 "ResampledRowsModel" "names" "[I") (by decide +kernel)) (fun _ h9 => h9) rfl dX5_beginAll_42 ?_
          refine lv_iload_n hx hb dX5_beginAll_45 rfl (lv_at hl 1 rfl) ?_
          refine lv_iconst (v := 0) hx hb dX5_beginAll_46 (by decide) ?_
          refine fl_ist (n := 6) (k := i) (x := 0) hx hb hK hJ hP hS (fm_loc cI cJ ad) (fl_at (by decide) rfl) rfl rfl rfl (by omega) (by decide) dX5_beginAll_47 (fun H locs hP hS => ?_)
          refine lv_iinc (v := nI (i + 1)) (lv' := [(1, .int (nI (i + 1))), (0, .ref (ad 0))]) hx hb dX5_beginAll_48 hl (k := 1) rfl (fl_inc i) (by decide) rfl (fun ls hl => ?_)
          refine lv_goto (tgt := 2) hx hb dX5_beginAll_51 (by decide) ?_
          exact ih2 (i + 1) (fl_sI (fl_sI (fl_sI M3 2 i 1) 1 i 1) 4 i 0) (by omega) (fm_up h1) (fun k hk hk3 => h2 k (by omega) hk3) (fm_up h3) (fm_up h4) (by omega) _ _ hP hS ls (lv_sub hl [1, 0] rfl)
      · have l18 : i < 30 := Nat.lt_of_not_le (fun q => hc18 ((nI_leI (by omega) (by omega)).mpr q))
        refine lv_aload_n hx hb dX5_beginAll_21 rfl (lv_at hl 0 rfl) ?_
        refine va_get (D := D) (ci := 7) (v := .ref (ad 3)) (C := RX5) (T := TX5) (N := 23) hx hb hts inX5 hown hK hP 0 (fl_at (by decide) rfl) rfl 3 (by decide) (hts (.fieldLink RX5 16 "ResampledRowsModel" "sights" "[I") (by decide +kernel)) (fun _ h9 => h9) rfl dX5_beginAll_22 ?_
        refine lv_iload_n hx hb dX5_beginAll_25 rfl (lv_at hl 1 rfl) ?_
        refine lv_iconst (v := 1) hx hb dX5_beginAll_26 (by decide) ?_
        refine fl_ist (n := 30) (k := i) (x := 1) hx hb hK hJ hP hS (fm_loc cI cJ ad) (fl_at (by decide) rfl) rfl rfl rfl (by omega) (by decide) dX5_beginAll_27 (fun H locs hP hS => ?_)
        refine lv_iload_n hx hb dX5_beginAll_28 rfl (lv_at hl 1 rfl) ?_
        refine lv_bipush (v := 6) hx hb dX5_beginAll_29 (by decide) ?_
        refine fl_ti (y := nI 6) rfl ?_
        refine lv_icmp_ge (tgt := 48) hx hb dX5_beginAll_31 (by decide) (fun hc31 => ?_) (fun hc31 => ?_)
        · have g31 : 6 ≤ i := (nI_leI (by omega) (by omega)).mp hc31
          refine lv_iinc (v := nI (i + 1)) (lv' := [(1, .int (nI (i + 1))), (0, .ref (ad 0))]) hx hb dX5_beginAll_48 hl (k := 1) rfl (fl_inc i) (by decide) rfl (fun ls hl => ?_)
          refine lv_goto (tgt := 2) hx hb dX5_beginAll_51 (by decide) ?_
          exact ih2 (i + 1) (fl_sI (fl_sI M3 2 i 1) 3 i 1) (by omega) (fm_up h1) (fm_up h2) (fun k hk hk3 => h3 k (by omega) hk3) (fun k hk hk3 => h4 k (by omega) hk3) (by omega) _ _ hP hS ls (lv_sub hl [1, 0] rfl)
        · have l31 : i < 6 := Nat.lt_of_not_le (fun q => hc31 ((nI_leI (by omega) (by omega)).mpr q))
          refine lv_aload_n hx hb dX5_beginAll_34 rfl (lv_at hl 0 rfl) ?_
          refine va_get (D := D) (ci := 7) (v := .ref (ad 1)) (C := RX5) (T := TX5) (N := 23) hx hb hts inX5 hown hK hP 0 (fl_at (by decide) rfl) rfl 1 (by decide) (hts (.fieldLink RX5 7 "ResampledRowsModel" "starts" "[I") (by decide +kernel)) (fun _ h9 => h9) rfl dX5_beginAll_35 ?_
          refine lv_iload_n hx hb dX5_beginAll_38 rfl (lv_at hl 1 rfl) ?_
          refine lv_iconst (v := 1) hx hb dX5_beginAll_39 (by decide) ?_
          refine fl_ist (n := 6) (k := i) (x := 1) hx hb hK hJ hP hS (fm_loc cI cJ ad) (fl_at (by decide) rfl) rfl rfl rfl (by omega) (by decide) dX5_beginAll_40 (fun H locs hP hS => ?_)
          refine lv_aload_n hx hb dX5_beginAll_41 rfl (lv_at hl 0 rfl) ?_
          refine va_get (D := D) (ci := 7) (v := .ref (ad 4)) (C := RX5) (T := TX5) (N := 23) hx hb hts inX5 hown hK hP 0 (fl_at (by decide) rfl) rfl 4 (by decide) (hts (.fieldLink RX5 19 "ResampledRowsModel" "names" "[I") (by decide +kernel)) (fun _ h9 => h9) rfl dX5_beginAll_42 ?_
          refine lv_iload_n hx hb dX5_beginAll_45 rfl (lv_at hl 1 rfl) ?_
          refine lv_iconst (v := 0) hx hb dX5_beginAll_46 (by decide) ?_
          refine fl_ist (n := 6) (k := i) (x := 0) hx hb hK hJ hP hS (fm_loc cI cJ ad) (fl_at (by decide) rfl) rfl rfl rfl (by omega) (by decide) dX5_beginAll_47 (fun H locs hP hS => ?_)
          refine lv_iinc (v := nI (i + 1)) (lv' := [(1, .int (nI (i + 1))), (0, .ref (ad 0))]) hx hb dX5_beginAll_48 hl (k := 1) rfl (fl_inc i) (by decide) rfl (fun ls hl => ?_)
          refine lv_goto (tgt := 2) hx hb dX5_beginAll_51 (by decide) ?_
          exact ih2 (i + 1) (fl_sI (fl_sI (fl_sI (fl_sI M3 2 i 1) 3 i 1) 1 i 1) 4 i 0) (by omega) (fm_up h1) (fm_up h2) (fm_up h3) (fm_up h4) (by omega) _ _ hP hS ls (lv_sub hl [1, 0] rfl)

set_option maxHeartbeats 4000000 in
set_option maxRecDepth 100000 in
theorem c_X5_clear (l : Launch) {D : va_G} {cI cJ cII : ClassId} {ad : Nat → Nat} (hJ : fl_inj 15 ad) (M : fl_M) (α : a_A) (hA : fm_A α M) : Met l yX5_clear wsX5_clear ({ frames := 2, cells := 0, slots := 0, locals := 41 } : Room) (fmPc D cI cJ cII ad M [.ref (ad 0)]) (va_Qi (fun r M2 => r = (o_clear α).1 ∧ fm_A (o_clear α).2 M2) (fmQ D cI cJ ad) (fl_A 15 ad)) 0 0 (fl_A 15 ad) := by
  refine Met.ofW (cc := cX5_clear) (maxL := 2) (ret := (some .int)) (by decide) rfl ?_
  intro p e s m args below meth c s₁ B hml hv
  obtain ⟨rfl, hP, hK, hN⟩ := hv
  have hx := B.exec
  have hb := B.bytes
  have hr := B.returns
  have hts := atoms_spec (ws := wsX5_clear) B.pre
  have hown : s.vm.findClass RX5 = some m.cls := findClass_of_methodNamed B.named
  have hlocks := B.notSynchronized
  have inX5 : ∀ w ∈ u_ws RX5 TX5 23, w ∈ wsX5_clear := by decide +kernel
  have hS : va_S (fl_A 15 ad) s.heap s.heap [] := va_S.rf
  have hl := lv_entry ([.ref (ad 0)] : List Value) (n := 2) (Nat.le_of_ble_eq_true rfl)
  rw [lg_entry_eq]
  generalize (lg_sl ([.ref (ad 0)] : List Value) ++ List.replicate (2 - (lg_sl ([.ref (ad 0)] : List Value)).length) Slot.unset).toArray = ls at hl ⊢
  have hl : lv_has ls 2 [(0, .ref (ad 0))] := hl
  obtain ⟨hT, hQ, hsd, hR⟩ := id hA
  refine lv_aload_n hx hb dX5_clear_0 rfl (lv_at hl 0 rfl) ?_
  refine va_get (D := D) (ci := 7) (v := .int (M.1 0 7)) (C := RX5) (T := TX5) (N := 23) hx hb hts inX5 hown hK hP 0 (fl_at (by decide) rfl) rfl 7 (by decide) (hts (.fieldLink RX5 66 "ResampledRowsModel" "rows" "I") (by decide +kernel)) (fun _ h9 => h9) rfl dX5_clear_1 ?_
  refine fl_ti (y := nI (r_n α.2.2)) hR.1.2 ?_
  refine lv_istore_n (lv' := [(1, .int (nI (r_n α.2.2))), (0, .ref (ad 0))]) hx hb dX5_clear_4 rfl hl (by decide) rfl (fun ls hl => ?_)
  refine lv_aload_n hx hb dX5_clear_5 rfl (lv_at hl 1 rfl) ?_
  refine va_callv (va_runV (As := []) (rest := []) ⟨hx, hb, hml, hown, hts⟩ (c_X5_beginAll l hJ M) (cwV 0 hts gX5_clear_X5_beginAll rfl rfl rfl (by decide +kernel) ⟨Nat.le_of_ble_eq_true rfl, Nat.le_of_ble_eq_true rfl⟩) ⟨fl_blind, va_recv hK hP (ci := 7) (q0 := 0) rfl (fl_at (by decide) rfl), fl_pre hP hK hN⟩ rfl rfl hl.1 rfl (lv_room (Nat.le_of_ble_eq_true rfl)) dX5_clear_6 ⟨Nat.le_of_ble_eq_true rfl, Nat.le_of_ble_eq_true rfl⟩) hS (fun _ _ h => h) (fun _ h => h) (fun M6 t H1 locs ht hvm hw hB hz1 hk1 hS => ?_)
  have hP : va_P D vwCl (fmP cI cJ ad M6) H1 := by rw [← ht]; exact hB
  clear hB hk1 hz1 hvm ht t
  obtain ⟨g1, g2, g3⟩ := hw
  refine lv_iload_n hx hb dX5_clear_9 rfl (lv_at hl 0 rfl) ?_
  exact W.iret (v := nI (r_n α.2.2)) hx hb hr (fun t ht hW => ⟨⟨nI (r_n α.2.2), M6, rfl, ⟨rfl, g1, g2, fun z => absurd rfl z, g3⟩, fl_qi ht hP⟩, hS.F ht⟩) hS.2.2 dX5_clear_10

