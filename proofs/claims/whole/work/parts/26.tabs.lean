/-! THE TABLES' OWN CELLS: 0 tables, 1 starts, 2 moves, 3 sights, 4 names, 5.. moves' rows, 11.. sights' rows -/
def ft_cell (cI cII : ClassId) (ad : Nat → Nat) : fl_Cell := fun M c => match c with
  | 0 => .inr (5, [.ref (ad 1), .ref (ad 2), .ref (ad 3), .ref (ad 4)])
  | 2 => .inl (cII, 6, .inr (.inr (.inr (.inr (fun k => some (ad (5 + k)))))))
  | 3 => .inl (cII, 5, .inr (.inr (.inr (.inr (fun k => some (ad (11 + k)))))))
  | _ => .inl (cI, 6, .inl (M.1 c))
def ft_len (c : Nat) : Nat := if c = 1 ∨ c = 4 ∨ (5 ≤ c ∧ c < 16) then 6 else 0
def ft_tb (c : Nat) : Prop := c = 1 ∨ c = 4 ∨ (5 ≤ c ∧ c < 16)
theorem ft_len_le (c : Nat) : ft_len c ≤ 64 := by unfold ft_len; split <;> omega
theorem ft_row_len {c : Nat} (h1 : 5 ≤ c) (h2 : c < 16) : ft_len c = 6 := if_pos (Or.inr (Or.inr ⟨h1, h2⟩))
theorem ft_loc (cI cII : ClassId) (ad : Nat → Nat) : fl_Loc (ft_cell cI cII ad) := by
  intro M M' j h1 h2 h3 h4
  unfold ft_cell
  rw [h1]
theorem ft_arr (cI cII : ClassId) (ad : Nat → Nat) (M : fl_M) {c n : Nat} (h : ft_len c = n) (hn : 0 < n) : c < 16 ∧ ft_cell cI cII ad M c = .inl (cI, n, .inl (M.1 c)) := by
  subst h
  unfold ft_len at hn ⊢
  by_cases h1 : c = 1 ∨ c = 4 ∨ (5 ≤ c ∧ c < 16)
  · rw [if_pos h1]
    refine ⟨by omega, ?_⟩
    unfold ft_cell
    split
    · omega
    · omega
    · omega
    · rfl
  · rw [if_neg h1] at hn
    exact absurd hn (Nat.lt_irrefl 0)
theorem ft_a (cI cII : ClassId) (ad : Nat → Nat) (M : fl_M) {c n : Nat} (h : ft_len c = n) (hn : 0 < n) : (fl_pool (ft_cell cI cII ad) 16 ad M)[c]? = some (ad c, .inl (cI, n, .inl (M.1 c))) := fl_at (ft_arr cI cII ad M h hn).1 (ft_arr cI cII ad M h hn).2
abbrev ftP (cI cII : ClassId) (ad : Nat → Nat) (M : fl_M) : va_W := fl_pool (ft_cell cI cII ad) 16 ad M
abbrev ftPc (D : va_G) (cI cJ cII : ClassId) (ad : Nat → Nat) (M : fl_M) (av : List Value) : Array Value → State → Prop := fl_Pc (ft_cell cI cII ad) 16 ad D (fl_tys cI cJ cII) M av
abbrev ftQ (D : va_G) (cI cII : ClassId) (ad : Nat → Nat) : fl_M → State → Prop := fl_Q (ft_cell cI cII ad) 16 ad D
def ft_T (M : fl_M) : Prop := fl_row (M.1 1) (fun _ => 1) 6 10 ∧ (∀ k, k < 6 → fl_row (M.1 (5 + k)) (fun _ => 1) 6 10) ∧ (∀ k, k < 5 → fl_row (M.1 (11 + k)) (fun _ => 1) 6 10) ∧ fl_row (M.1 4) (fun _ => 0) 6 4
set_option maxHeartbeats 4000000 in
set_option maxRecDepth 100000 in
theorem t_J7_fill (l : Launch) {D : va_G} {cI cJ cII : ClassId} {ad : Nat → Nat} (hJ : fl_inj 16 ad) (M : fl_M) (c0 n : Nat) (v : Int32) (hc : ft_len c0 = n) (hn : 0 < n) : Met l yJ7_fill_53178 wsJ7_fill_53178 ({ frames := 0, cells := 0, slots := 0, locals := 0 } : Room) (ftPc D cI cJ cII ad M [.ref (ad c0), .int v]) (va_Qv (fun M2 => M2 = fl_fM M c0 v n) (ftQ D cI cII ad) (fl_A 16 ad)) 0 0 (fl_A 16 ad) := by
  refine Met.ofW (cc := cJ7_fill_53178) (maxL := 4) (ret := none) (by decide) rfl ?_
  intro p e s m args below meth c s₁ B hml hv
  obtain ⟨rfl, hP, hK, hN⟩ := hv
  have hx := B.exec
  have hb := B.bytes
  have hr := B.returns
  have hts := atoms_spec (ws := wsJ7_fill_53178) B.pre
  have hown : s.vm.findClass RJ7 = some m.cls := findClass_of_methodNamed B.named
  have hlocks := B.notSynchronized
  have hS : va_S (fl_A 16 ad) s.heap s.heap [] := va_S.rf
  have hl := lv_entry ([.ref (ad c0), .int v] : List Value) (n := 4) (Nat.le_of_ble_eq_true rfl)
  rw [lg_entry_eq]
  generalize (lg_sl ([.ref (ad c0), .int v] : List Value) ++ List.replicate (4 - (lg_sl ([.ref (ad c0), .int v] : List Value)).length) Slot.unset).toArray = ls at hl ⊢
  have hl : lv_has ls 4 [(0, .ref (ad c0)), (1, .int v)] := hl
  have hn3 : n ≤ 64 := hc ▸ ft_len_le c0
  refine lv_iconst (v := 0) hx hb dJ7_fill_53178_0 (by decide) ?_
  refine lv_istore_n (lv' := [(2, .int 0), (0, .ref (ad c0)), (1, .int v)]) hx hb dJ7_fill_53178_1 rfl hl (by decide) rfl (fun ls hl => ?_)
  refine lv_aload_n hx hb dJ7_fill_53178_2 rfl (lv_at hl 1 rfl) ?_
  refine va_alen (v := nI n) hx hb hK hP c0 0 (ft_a cI cII ad _ hc hn) rfl rfl dJ7_fill_53178_3 ?_
  refine lv_istore_n (lv' := [(3, .int (nI n)), (2, .int 0), (0, .ref (ad c0)), (1, .int v)]) hx hb dJ7_fill_53178_4 rfl hl (by decide) rfl (fun ls hl => ?_)
  suffices KL5 : ∀ (f : Nat) (i : Nat) (M3 : fl_M) (hi : i ≤ n) (hM : M3 = fl_fM M c0 v i) (hf : n + 1 ≤ i + f), ∀ (H : Heap) (locs : List Loc), va_P D vwCl (ftP cI cII ad M3) H → va_S (fl_A 16 ad) s.heap H locs → ∀ (ls : Array Slot), lv_has ls 4 [(0, .ref (ad c0)), (1, .int v), (2, .int (nI i)), (3, .int (nI n))] → W p l e (headSpec wsJ7_fill_53178 ({ frames := 0, cells := 0, slots := 0, locals := 0 } : Room)).room s m ([.ref (ad c0), .int v] : List Value).toArray below meth c H locs 0 0 (MQ below (va_Qv (fun M2 => M2 = fl_fM M c0 v n) (ftQ D cI cII ad) (fl_A 16 ad)) ([.ref (ad c0), .int v] : List Value).toArray s 0 0 (fl_A 16 ad)) (F0 m 5 ls []) from KL5 (n + 1) 0 M (Nat.zero_le n) ((fl_fM_0 M c0 v).symm) (by omega) _ _ hP hS ls (lv_sub hl [2, 3, 1, 0] rfl)
  intro f
  induction f with
  | zero =>
    intro i M3 hi hM hf
    omega
  | succ f ih5 =>
    intro i M3 hi hM hf H locs hP hS ls hl
    refine lv_iload_n hx hb dJ7_fill_53178_5 rfl (lv_at hl 2 rfl) ?_
    refine lv_iload_n hx hb dJ7_fill_53178_6 rfl (lv_at hl 3 rfl) ?_
    refine lv_icmp_ge (tgt := 20) hx hb dJ7_fill_53178_7 (by decide) (fun hc7 => ?_) (fun hc7 => ?_)
    · have e7 : i = n := Nat.le_antisymm hi ((nI_leI (by omega) (by omega)).mp hc7)
      exact W.vret hx hb hr (fun t ht hW => ⟨⟨M3, rfl, by rw [hM, e7], fl_qi ht hP⟩, hS.F ht⟩) hS.2.2 dJ7_fill_53178_20
    · have l7 : i < n := Nat.lt_of_not_le (fun q => hc7 ((nI_leI (by omega) (by omega)).mpr q))
      refine lv_aload_n hx hb dJ7_fill_53178_10 rfl (lv_at hl 0 rfl) ?_
      refine lv_iload_n hx hb dJ7_fill_53178_11 rfl (lv_at hl 2 rfl) ?_
      refine lv_iload_n hx hb dJ7_fill_53178_12 rfl (lv_at hl 1 rfl) ?_
      refine fl_ist (k := i) (x := v) hx hb hK hJ hP hS (ft_loc cI cII ad) (ft_a cI cII ad _ hc hn) (ft_arr cI cII ad _ hc hn).2 rfl rfl (by omega) (by omega) dJ7_fill_53178_13 (fun H locs hP hS => ?_)
      refine lv_iinc (v := nI (i + 1)) (lv' := [(2, .int (nI (i + 1))), (0, .ref (ad c0)), (1, .int v), (3, .int (nI n))]) hx hb dJ7_fill_53178_14 hl (k := 2) rfl (fl_inc i) (by decide) rfl (fun ls hl => ?_)
      refine lv_goto (tgt := 5) hx hb dJ7_fill_53178_17 (by decide) ?_
      exact ih5 (i + 1) (fl_sI M3 c0 i v) (by omega) (by rw [hM, fl_fM_s]) (by omega) _ _ hP hS ls (lv_sub hl [1, 2, 0, 3] rfl)
set_option maxHeartbeats 4000000 in
set_option maxRecDepth 100000 in
theorem t_X3_setAsAtFirst (l : Launch) {D : va_G} {cI cJ cII : ClassId} {ad : Nat → Nat} (hJ : fl_inj 16 ad) (M : fl_M) : Met l yX3_setAsAtFirst wsX3_setAsAtFirst ({ frames := 1, cells := 0, slots := 0, locals := 23 } : Room) (ftPc D cI cJ cII ad M [.ref (ad 0)]) (va_Qv (fun M2 => ft_T M2 ∧ fl_eq (fun c => ¬ ft_tb c) M M2) (ftQ D cI cII ad) (fl_A 16 ad)) 0 0 (fl_A 16 ad) := by
  refine Met.ofW (cc := cX3_setAsAtFirst) (maxL := 2) (ret := none) (by decide) rfl ?_
  intro p e s m args below meth c s₁ B hml hv
  obtain ⟨rfl, hP, hK, hN⟩ := hv
  have hx := B.exec
  have hb := B.bytes
  have hr := B.returns
  have hts := atoms_spec (ws := wsX3_setAsAtFirst) B.pre
  have hown : s.vm.findClass RX3 = some m.cls := findClass_of_methodNamed B.named
  have hlocks := B.notSynchronized
  have inX3 : ∀ w ∈ u_ws RX3 TX3 4, w ∈ wsX3_setAsAtFirst := by decide +kernel
  have hS : va_S (fl_A 16 ad) s.heap s.heap [] := va_S.rf
  have hl := lv_entry ([.ref (ad 0)] : List Value) (n := 2) (Nat.le_of_ble_eq_true rfl)
  rw [lg_entry_eq]
  generalize (lg_sl ([.ref (ad 0)] : List Value) ++ List.replicate (2 - (lg_sl ([.ref (ad 0)] : List Value)).length) Slot.unset).toArray = ls at hl ⊢
  have hl : lv_has ls 2 [(0, .ref (ad 0))] := hl
  refine lv_aload_n hx hb dX3_setAsAtFirst_0 rfl (lv_at hl 0 rfl) ?_
  refine va_get (D := D) (ci := 5) (v := .ref (ad 1)) (C := RX3) (T := TX3) (N := 4) hx hb hts inX3 hown hK hP 0 (fl_at (by decide) rfl) rfl 0 (by decide) (hts (.fieldLink RX3 9 "ResampledRows$Tables" "starts" "[I") (by decide +kernel)) (fun _ h9 => h9) rfl dX3_setAsAtFirst_1 ?_
  refine lv_iconst (v := 1) hx hb dX3_setAsAtFirst_4 (by decide) ?_
  refine va_callv (va_runS (As := [.ref (ad 1), .int 1]) (rest := []) ⟨hx, hb, hml, hown, hts⟩ (t_J7_fill l hJ M 1 6 1 rfl (by decide)) (va_cwS 2 hts gX3_setAsAtFirst_J7_fill_53178 rfl rfl rfl (by decide +kernel) ⟨Nat.le_of_ble_eq_true rfl, Nat.le_of_ble_eq_true rfl⟩) ⟨fl_blind, fl_pre hP hK hN⟩ rfl rfl hl.1 rfl (lv_room (Nat.le_of_ble_eq_true rfl)) dX3_setAsAtFirst_5 ⟨Nat.le_of_ble_eq_true rfl, Nat.le_of_ble_eq_true rfl⟩) hS (fun _ _ h => h) (fun _ h => h) (fun M5 t H1 locs ht hvm hw hB hz1 hk1 hS => ?_)
  have hP : va_P D vwCl (ftP cI cII ad M5) H1 := by rw [← ht]; exact hB
  clear hB hk1 hz1 hvm ht t
  rw [hw] at hP
  refine lv_iconst (v := 0) hx hb dX3_setAsAtFirst_8 (by decide) ?_
  refine lv_istore_n (lv' := [(1, .int 0), (0, .ref (ad 0))]) hx hb dX3_setAsAtFirst_9 rfl hl (by decide) rfl (fun ls hl => ?_)
  suffices KL10 : ∀ (f : Nat) (i : Nat) (M3 : fl_M) (hi : i ≤ 6) (hs : fl_row (M3.1 1) (fun _ => 1) 6 10) (hm : ∀ k, k < i → fl_row (M3.1 (5 + k)) (fun _ => 1) 6 10) (he : fl_eq (fun c => ¬ ft_tb c) M M3) (hf : 6 + 1 ≤ i + f), ∀ (H : Heap) (locs : List Loc), va_P D vwCl (ftP cI cII ad M3) H → va_S (fl_A 16 ad) s.heap H locs → ∀ (ls : Array Slot), lv_has ls 2 [(0, .ref (ad 0)), (1, .int (nI i))] → W p l e (headSpec wsX3_setAsAtFirst ({ frames := 1, cells := 0, slots := 0, locals := 23 } : Room)).room s m ([.ref (ad 0)] : List Value).toArray below meth c H locs 0 0 (MQ below (va_Qv (fun M2 => ft_T M2 ∧ fl_eq (fun c => ¬ ft_tb c) M M2) (ftQ D cI cII ad) (fl_A 16 ad)) ([.ref (ad 0)] : List Value).toArray s 0 0 (fl_A 16 ad)) (F0 m 10 ls []) from KL10 (6 + 1) 0 _ (Nat.zero_le 6) fc_fill1 (fun k hk => absurd hk (Nat.not_lt_zero k)) (fl_fM_eq fl_eq.rf (fun z => z (Or.inl rfl)) _ _) (by omega) _ _ hP hS ls (lv_sub hl [1, 0] rfl)
  intro f
  induction f with
  | zero =>
    intro i M3 hi hs hm he hf
    omega
  | succ f ih10 =>
    intro i M3 hi hs hm he hf H locs hP hS ls hl
    refine lv_iload_n hx hb dX3_setAsAtFirst_10 rfl (lv_at hl 1 rfl) ?_
    refine lv_bipush (v := 6) hx hb dX3_setAsAtFirst_11 (by decide) ?_
    refine fl_ti (y := nI 6) rfl ?_
    refine lv_icmp_ge (tgt := 32) hx hb dX3_setAsAtFirst_13 (by decide) (fun hc13 => ?_) (fun hc13 => ?_)
    · have e13 : i = 6 := Nat.le_antisymm hi ((nI_leI (by omega) (by omega)).mp hc13)
      refine lv_iconst (v := 0) hx hb dX3_setAsAtFirst_32 (by decide) ?_
      refine lv_istore_n (lv' := [(1, .int 0), (0, .ref (ad 0))]) hx hb dX3_setAsAtFirst_33 rfl hl (by decide) rfl (fun ls hl => ?_)
      suffices KL34 : ∀ (f : Nat) (j : Nat) (M4 : fl_M) (hj : j ≤ 5) (hs4 : fl_row (M4.1 1) (fun _ => 1) 6 10) (hm4 : ∀ k, k < 6 → fl_row (M4.1 (5 + k)) (fun _ => 1) 6 10) (hn4 : ∀ k, k < j → fl_row (M4.1 (11 + k)) (fun _ => 1) 6 10) (he4 : fl_eq (fun c => ¬ ft_tb c) M M4) (hf4 : 5 + 1 ≤ j + f), ∀ (H : Heap) (locs : List Loc), va_P D vwCl (ftP cI cII ad M4) H → va_S (fl_A 16 ad) s.heap H locs → ∀ (ls : Array Slot), lv_has ls 2 [(0, .ref (ad 0)), (1, .int (nI j))] → W p l e (headSpec wsX3_setAsAtFirst ({ frames := 1, cells := 0, slots := 0, locals := 23 } : Room)).room s m ([.ref (ad 0)] : List Value).toArray below meth c H locs 0 0 (MQ below (va_Qv (fun M2 => ft_T M2 ∧ fl_eq (fun c => ¬ ft_tb c) M M2) (ftQ D cI cII ad) (fl_A 16 ad)) ([.ref (ad 0)] : List Value).toArray s 0 0 (fl_A 16 ad)) (F0 m 34 ls []) from KL34 (5 + 1) 0 M3 (Nat.zero_le 5) hs (e13 ▸ hm) (fun k hk => absurd hk (Nat.not_lt_zero k)) he (by omega) _ _ hP hS ls (lv_sub hl [1, 0] rfl)
      intro f
      induction f with
      | zero =>
        intro j M4 hj hs4 hm4 hn4 he4 hf4
        omega
      | succ f ih34 =>
        intro j M4 hj hs4 hm4 hn4 he4 hf4 H locs hP hS ls hl
        refine lv_iload_n hx hb dX3_setAsAtFirst_34 rfl (lv_at hl 1 rfl) ?_
        refine lv_iconst (v := 5) hx hb dX3_setAsAtFirst_35 (by decide) ?_
        refine fl_ti (y := nI 5) rfl ?_
        refine lv_icmp_ge (tgt := 55) hx hb dX3_setAsAtFirst_36 (by decide) (fun hc36 => ?_) (fun hc36 => ?_)
        · have e36 : j = 5 := Nat.le_antisymm hj ((nI_leI (by omega) (by omega)).mp hc36)
          refine lv_aload_n hx hb dX3_setAsAtFirst_55 rfl (lv_at hl 0 rfl) ?_
          refine va_get (D := D) (ci := 5) (v := .ref (ad 4)) (C := RX3) (T := TX3) (N := 4) hx hb hts inX3 hown hK hP 0 (fl_at (by decide) rfl) rfl 3 (by decide) (hts (.fieldLink RX3 23 "ResampledRows$Tables" "names" "[I") (by decide +kernel)) (fun _ h9 => h9) rfl dX3_setAsAtFirst_56 ?_
          refine lv_iconst (v := 0) hx hb dX3_setAsAtFirst_59 (by decide) ?_
          refine va_callv (va_runS (As := [.ref (ad 4), .int 0]) (rest := []) ⟨hx, hb, hml, hown, hts⟩ (t_J7_fill l hJ M4 4 6 0 rfl (by decide)) (va_cwS 2 hts gX3_setAsAtFirst_J7_fill_53178 rfl rfl rfl (by decide +kernel) ⟨Nat.le_of_ble_eq_true rfl, Nat.le_of_ble_eq_true rfl⟩) ⟨fl_blind, fl_pre hP hK hN⟩ rfl rfl hl.1 rfl (lv_room (Nat.le_of_ble_eq_true rfl)) dX3_setAsAtFirst_60 ⟨Nat.le_of_ble_eq_true rfl, Nat.le_of_ble_eq_true rfl⟩) hS (fun _ _ h => h) (fun _ h => h) (fun M60 t H1 locs ht hvm hw hB hz1 hk1 hS => ?_)
          have hP : va_P D vwCl (ftP cI cII ad M60) H1 := by rw [← ht]; exact hB
          clear hB hk1 hz1 hvm ht t
          rw [hw] at hP
          exact W.vret hx hb hr (fun t ht hW => ⟨⟨(fl_fM M4 4 0 6), rfl, ⟨⟨by rw [fc_fillne (by decide)]; exact hs4, fun k hk => by rw [fc_fillne (by omega)]; exact hm4 k hk, fun k hk => by rw [fc_fillne (by omega)]; exact (e36 ▸ hn4) k hk, fun k hk => ⟨fl_fM_same M4 4 0 6 hk, (by decide : (0 : Nat) < 4)⟩⟩, fl_fM_eq he4 (fun z => z (Or.inr (Or.inl rfl))) _ _⟩, fl_qi ht hP⟩, hS.F ht⟩) hS.2.2 dX3_setAsAtFirst_63
        · have l36 : j < 5 := Nat.lt_of_not_le (fun q => hc36 ((nI_leI (by omega) (by omega)).mpr q))
          refine lv_aload_n hx hb dX3_setAsAtFirst_39 rfl (lv_at hl 0 rfl) ?_
          refine va_get (D := D) (ci := 5) (v := .ref (ad 3)) (C := RX3) (T := TX3) (N := 4) hx hb hts inX3 hown hK hP 0 (fl_at (by decide) rfl) rfl 2 (by decide) (hts (.fieldLink RX3 20 "ResampledRows$Tables" "sights" "[[I") (by decide +kernel)) (fun _ h9 => h9) rfl dX3_setAsAtFirst_40 ?_
          refine lv_iload_n hx hb dX3_setAsAtFirst_43 rfl (lv_at hl 1 rfl) ?_
          refine fl_ald (k := j) (f := fun j => ad (11 + j)) hx hb hK hP (fl_at (by decide) rfl) rfl rfl (by omega) (by decide) dX3_setAsAtFirst_44 ?_
          refine lv_iconst (v := 1) hx hb dX3_setAsAtFirst_45 (by decide) ?_
          refine va_callv (va_runS (As := [.ref (ad (11 + j)), .int 1]) (rest := []) ⟨hx, hb, hml, hown, hts⟩ (t_J7_fill l hJ M4 (11 + j) 6 1 (ft_row_len (by omega) (by omega)) (by decide)) (va_cwS 2 hts gX3_setAsAtFirst_J7_fill_53178 rfl rfl rfl (by decide +kernel) ⟨Nat.le_of_ble_eq_true rfl, Nat.le_of_ble_eq_true rfl⟩) ⟨fl_blind, fl_pre hP hK hN⟩ rfl rfl hl.1 rfl (lv_room (Nat.le_of_ble_eq_true rfl)) dX3_setAsAtFirst_46 ⟨Nat.le_of_ble_eq_true rfl, Nat.le_of_ble_eq_true rfl⟩) hS (fun _ _ h => h) (fun _ h => h) (fun M46 t H1 locs ht hvm hw hB hz1 hk1 hS => ?_)
          have hP : va_P D vwCl (ftP cI cII ad M46) H1 := by rw [← ht]; exact hB
          clear hB hk1 hz1 hvm ht t
          rw [hw] at hP
          have he9 : fl_eq (fun c => ¬ ft_tb c) M (fl_fM M4 (11 + j) 1 6) := fl_fM_eq he4 (fun z => z (Or.inr (Or.inr (by omega)))) _ _
          have hn9 : ∀ k, k < j + 1 → fl_row ((fl_fM M4 (11 + j) 1 6).1 (11 + k)) (fun _ => 1) 6 10 := fun k hk => by
            by_cases e : k = j
            · subst e
              exact fc_fill1
            · rw [fc_fillne (by omega)]
              exact hn4 k (by omega)
          refine lv_iinc (v := nI (j + 1)) (lv' := [(1, .int (nI (j + 1))), (0, .ref (ad 0))]) hx hb dX3_setAsAtFirst_49 hl (k := 1) rfl (fl_inc j) (by decide) rfl (fun ls hl => ?_)
          refine lv_goto (tgt := 34) hx hb dX3_setAsAtFirst_52 (by decide) ?_
          exact ih34 (j + 1) (fl_fM M4 (11 + j) 1 6) (by omega) (by rw [fc_fillne (by omega)]; exact hs4) (fun k hk => by rw [fc_fillne (by omega)]; exact hm4 k hk) hn9 he9 (by omega) _ _ hP hS ls (lv_sub hl [1, 0] rfl)
    · have l13 : i < 6 := Nat.lt_of_not_le (fun q => hc13 ((nI_leI (by omega) (by omega)).mpr q))
      refine lv_aload_n hx hb dX3_setAsAtFirst_16 rfl (lv_at hl 0 rfl) ?_
      refine va_get (D := D) (ci := 5) (v := .ref (ad 2)) (C := RX3) (T := TX3) (N := 4) hx hb hts inX3 hown hK hP 0 (fl_at (by decide) rfl) rfl 1 (by decide) (hts (.fieldLink RX3 17 "ResampledRows$Tables" "moves" "[[I") (by decide +kernel)) (fun _ h9 => h9) rfl dX3_setAsAtFirst_17 ?_
      refine lv_iload_n hx hb dX3_setAsAtFirst_20 rfl (lv_at hl 1 rfl) ?_
      refine fl_ald (k := i) (f := fun j => ad (5 + j)) hx hb hK hP (fl_at (by decide) rfl) rfl rfl (by omega) (by decide) dX3_setAsAtFirst_21 ?_
      refine lv_iconst (v := 1) hx hb dX3_setAsAtFirst_22 (by decide) ?_
      refine va_callv (va_runS (As := [.ref (ad (5 + i)), .int 1]) (rest := []) ⟨hx, hb, hml, hown, hts⟩ (t_J7_fill l hJ M3 (5 + i) 6 1 (ft_row_len (by omega) (by omega)) (by decide)) (va_cwS 2 hts gX3_setAsAtFirst_J7_fill_53178 rfl rfl rfl (by decide +kernel) ⟨Nat.le_of_ble_eq_true rfl, Nat.le_of_ble_eq_true rfl⟩) ⟨fl_blind, fl_pre hP hK hN⟩ rfl rfl hl.1 rfl (lv_room (Nat.le_of_ble_eq_true rfl)) dX3_setAsAtFirst_23 ⟨Nat.le_of_ble_eq_true rfl, Nat.le_of_ble_eq_true rfl⟩) hS (fun _ _ h => h) (fun _ h => h) (fun M23 t H1 locs ht hvm hw hB hz1 hk1 hS => ?_)
      have hP : va_P D vwCl (ftP cI cII ad M23) H1 := by rw [← ht]; exact hB
      clear hB hk1 hz1 hvm ht t
      rw [hw] at hP
      have he9 : fl_eq (fun c => ¬ ft_tb c) M (fl_fM M3 (5 + i) 1 6) := fl_fM_eq he (fun z => z (Or.inr (Or.inr (by omega)))) _ _
      have hm9 : ∀ k, k < i + 1 → fl_row ((fl_fM M3 (5 + i) 1 6).1 (5 + k)) (fun _ => 1) 6 10 := fun k hk => by
        by_cases e : k = i
        · subst e
          exact fc_fill1
        · rw [fc_fillne (by omega)]
          exact hm k (by omega)
      refine lv_iinc (v := nI (i + 1)) (lv' := [(1, .int (nI (i + 1))), (0, .ref (ad 0))]) hx hb dX3_setAsAtFirst_26 hl (k := 1) rfl (fl_inc i) (by decide) rfl (fun ls hl => ?_)
      refine lv_goto (tgt := 10) hx hb dX3_setAsAtFirst_29 (by decide) ?_
      exact ih10 (i + 1) (fl_fM M3 (5 + i) 1 6) (by omega) (by rw [fc_fillne (by omega)]; exact hs) hm9 he9 (by omega) _ _ hP hS ls (lv_sub hl [1, 0] rfl)
