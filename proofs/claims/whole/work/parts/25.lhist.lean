set_option maxRecDepth 20000 in
theorem ggL_history_X4_history : GoodIn wsL_history wsX4_history := goodIn_ca (goodIn_r _ [6, 7, 8, 9, 10, 11, 12, 13, 14, 15, 16, 17, 18, 19, 20, 21, 22, 23, 24, 25, 26, 27, 28, 29, 30, 31, 32, 33, 34, 35, 36, 37, 38, 39, 40, 41, 42, 43, 44, 45, 46, 47, 48, 49, 50, 51, 52, 53, 54] (by decide +kernel) (by decide +kernel)) (goodIn_sub (fun _ h => List.mem_cons_of_mem _ (List.mem_append_right _ h)) (by decide +kernel))
set_option maxRecDepth 20000 in
theorem gL_history_X4_history : GoodIn wsL_history (wsV RL 7 RX4 yX4_history wsX4_history) := goodIn_app (goodIn_of _ (by decide +kernel)) ggL_history_X4_history
theorem dL_history_0 : decode cL_history 0 = .ok (.aload_n 3, 1) := by decide +kernel
theorem dL_history_1 : decode cL_history 1 = .ok (.iconst 0, 1) := by decide +kernel
theorem dL_history_2 : decode cL_history 2 = .ok (.aload_n 0, 1) := by decide +kernel
theorem dL_history_3 : decode cL_history 3 = .ok (.iload_n 1, 1) := by decide +kernel
theorem dL_history_4 : decode cL_history 4 = .ok (.iload_n 2, 1) := by decide +kernel
theorem dL_history_5 : decode cL_history 5 = .ok (.invokevirtual 7, 3) := by decide +kernel
theorem dL_history_8 : decode cL_history 8 = .ok (.i2l, 1) := by decide +kernel
theorem dL_history_9 : decode cL_history 9 = .ok (.lastore, 1) := by decide +kernel
theorem dL_history_10 : decode cL_history 10 = .ok (.goto 7, 3) := by decide +kernel
theorem dL_history_13 : decode cL_history 13 = .ok (.astore 4, 2) := by decide +kernel
theorem dL_history_15 : decode cL_history 15 = .ok (.iconst 1, 1) := by decide +kernel
theorem dL_history_16 : decode cL_history 16 = .ok (.ireturn, 1) := by decide +kernel
theorem dL_history_17 : decode cL_history 17 = .ok (.iconst 0, 1) := by decide +kernel
theorem dL_history_18 : decode cL_history 18 = .ok (.ireturn, 1) := by decide +kernel
/-! THE LAW'S OWN history: the answer into out[0], or 1 where the class throws -/
theorem hw_ofWH {l : Launch} {y : MethodName} {ws ws' : List Cond} {rm : Room} {Pc : Array Value → State → Prop} {Qc : Array Value → State → Outcome → State → Prop} {mc ms : Nat} {free : Addr → Prop} {cc : ByteArray} {maxL : Nat} {ret : Option FieldType} {hh : List (Nat × Nat × Nat × Nat)}
    (hy : plainName y.cls = true) (hw : ws = Cond.codeWith y cc maxL ret hh :: ws')
    (body : ∀ p e s m args below meth c s₁, BodyLoose p l y (headSpec ws rm) cc maxL ret e s m args below meth c s₁ → c.maxLocals = maxL → Pc args s →
      W p l e (headSpec ws rm).room s m args below meth c s.heap [] 0 0 (MQ below Qc args s mc ms free) (entryFrame m args maxL)) : Met l y ws rm Pc Qc mc ms free := by
  refine MetFree.of_bodyS (code := cc) (maxLocals := maxL) (ret := ret) hy ?_ ?_
  · intro args s m h hn
    obtain ⟨m9, meth, c, hn9, h1, h2, h3, h4, -, h5, h6, -⟩ := Cond.codeWith_spec (atoms_spec (ws := ws) h _ (by rw [hw]; exact List.mem_cons_self))
    cases hn.symm.trans hn9
    exact ⟨meth, c, h1, h2, h3, h4, h5, h6⟩
  · intro p e s m args below meth c s₁ B hml hP _
    have hh0 : s₁.heap = s.heap := by rw [B.state]; rfl
    obtain ⟨t, a1, o, b1, b2, b3⟩ := body p e s m args below meth c s₁ B hml hP s₁ hh0 (Stand.of_body B)
    exact ⟨t, o, a1, b1, b2, b3⟩
/-- the class's cells and the long[1] that the law's history writes -/
def lh_pool (cI cJ cII : ClassId) (ad : Nat → Nat) (o : Nat) (f : Nat → Int64) (M : fl_M) : va_W := (o, .inl (cJ, 1, .inr (.inl f))) :: fcP cI cII ad M
def lh_A (o : Nat) (ad : Nat → Nat) : Nat → Prop := fun q => q = o ∨ fl_A 62 ad q
theorem lh_D {cI cJ cII : ClassId} {ad : Nat → Nat} {o : Nat} {f : Nat → Int64} {M : fl_M} (hJ : fl_inj 62 ad) (ho : ¬ fl_A 62 ad o) : va_D (lh_A o ad) (lh_pool cI cJ cII ad o f M) := by
  have h := fl_D (cell := fc_cell cI cII ad) (M := M) hJ
  refine ⟨fun i j p q hi hj e => ?_, fun k q hk => ?_⟩
  · cases i with
    | zero =>
      cases Option.some.inj hi
      cases j with
      | zero => rfl
      | succ j => exact absurd (h.2 j q hj) (by rw [← e]; exact ho)
    | succ i =>
      cases j with
      | zero =>
        cases Option.some.inj hj
        exact absurd (h.2 i p hi) (by rw [e]; exact ho)
      | succ j => exact congrArg Nat.succ (h.1 i j p q hi hj e)
  · cases k with
    | zero => cases Option.some.inj hk; exact Or.inl rfl
    | succ k => exact Or.inr (h.2 k q hk)
theorem lh_tail {cI cJ cII : ClassId} {ad : Nat → Nat} {o : Nat} {f : Nat → Int64} {M : fl_M} {D : va_G} {H : Heap} (h : va_P D vwCl (lh_pool cI cJ cII ad o f M) H) : va_P D vwCl (fcP cI cII ad M) H := fun k q hk => h (k + 1) q hk
theorem lh_cons {cI cJ cII : ClassId} {ad : Nat → Nat} {o : Nat} {f : Nat → Int64} {M : fl_M} {D : va_G} {H : Heap} (h0 : va_P D vwCl [(o, .inl (cJ, 1, .inr (.inl f)))] H) (h : va_P D vwCl (fcP cI cII ad M) H) : va_P D vwCl (lh_pool cI cJ cII ad o f M) H := by
  intro k q hk
  cases k with
  | zero => exact h0 0 q hk
  | succ k => exact h k q hk
theorem lh_head {cI cJ cII : ClassId} {ad : Nat → Nat} {o : Nat} {f : Nat → Int64} {M : fl_M} {D : va_G} {H H1 : Heap} (ho : ¬ fl_A 62 ad o) (h : va_P D vwCl (lh_pool cI cJ cII ad o f M) H) (hk1 : ∀ q : Nat, q < H.size → ¬ fl_A 62 ad q → H1[q]? = H[q]?) : va_P D vwCl [(o, .inl (cJ, 1, .inr (.inl f)))] H1 := by
  intro k q hk
  cases k with
  | zero =>
    cases Option.some.inj hk
    exact (h 0 _ rfl).kept (hk1 o (h 0 _ rfl).lt ho)
  | succ k => cases hk
abbrev lh_Pc (D : va_G) (cI cJ cII : ClassId) (ad : Nat → Nat) (o : Nat) (f : Nat → Int64) (M : fl_M) (sa : Nat) (av : List Value) : Array Value → State → Prop := hw_Pc sa (lh_A o ad) (va_Pc av (fun U => va_P D vwCl (lh_pool cI cJ cII ad o f M) U.heap ∧ va_K D vwCl (fl_tys cI cJ cII) U ∧ fl_N U))
abbrev lh_Q (D : va_G) (cI cJ cII : ClassId) (ad : Nat → Nat) (o : Nat) (u : (Nat → Int64) × fl_M) (t : State) : Prop := va_P D vwCl (lh_pool cI cJ cII ad o u.1 u.2) t.heap
theorem lh_qi {D : va_G} {cI cJ cII : ClassId} {ad : Nat → Nat} {o : Nat} {f : Nat → Int64} {M : fl_M} {t : State} {H : Heap} (ht : t.heap = H) (hP : va_P D vwCl (lh_pool cI cJ cII ad o f M) H) : lh_Q D cI cJ cII ad o (f, M) t := by
  show va_P D vwCl (lh_pool cI cJ cII ad o f M) t.heap
  rw [ht]
  exact hP
theorem lh_blind {D : va_G} {cI cJ cII : ClassId} {ad : Nat → Nat} {o : Nat} {f : Nat → Int64} {M : fl_M} {sa : Nat} {av : List Value} : FrameBlind (lh_Pc D cI cJ cII ad o f M sa av) := by
  refine hw_blind ?_
  intro a U g mk q
  obtain ⟨q0, qP, qK, qN⟩ := q
  exact ⟨q0, qP, va_K.moved (u := U) (U := U.calling g mk a) (Vm.Alike.refl U.vm) qK, qN.same rfl⟩
set_option maxHeartbeats 4000000 in
set_option maxRecDepth 100000 in
theorem c_L_history (l : Launch) (hlt : l.stackTraces = false) {D : va_G} {cI cJ cII : ClassId} {ad : Nat → Nat} (hJ : fl_inj 62 ad) (o : Nat) (ho : ¬ fl_A 62 ad o) (f : Nat → Int64) (M : fl_M) (α : a_A) (hA : fc_A α M) (sa : Nat) (x y : Int32) : Met l yL_history wsL_history ({ frames := 8, cells := 1, slots := 6, locals := 117 } : Room) (lh_Pc D cI cJ cII ad o f M sa [.ref (ad 0), .int x, .int y, .ref o]) (va_Qi (fun r (u : (Nat → Int64) × fl_M) => r = (match o_hist α x y with | none => 1 | some _ => 0) ∧ (∀ v, o_hist α x y = some v → u.1 0 = v.toInt64) ∧ u.2 = M) (lh_Q D cI cJ cII ad o) (lh_A o ad)) 1 6 (lh_A o ad) := by
  refine hw_ofWH (cc := cL_history) (maxL := 5) (ret := (some .int)) (hh := [(0, 10, 13, 13)]) (by decide) rfl ?_
  intro p e s m args below meth c s₁ B hml hv
  obtain ⟨⟨rfl, hP, hK, hN⟩, hTh, hZh⟩ := hv
  have hx := B.exec
  have hb := B.bytes
  have hr := B.returns
  have hts := atoms_spec (ws := wsL_history) B.pre
  have htab := vx_table (x := yL_history) B (hts (.codeWith yL_history cL_history 5 (some .int) [(0, 10, 13, 13)]) (by decide +kernel))
  have hown : s.vm.findClass RL = some m.cls := findClass_of_methodNamed B.named
  have hlocks := B.notSynchronized
  have hS : va_S (lh_A o ad) s.heap s.heap [] := va_S.rf
  have hl := lv_entry ([.ref (ad 0), .int x, .int y, .ref o] : List Value) (n := 5) (Nat.le_of_ble_eq_true rfl)
  rw [lg_entry_eq]
  generalize (lg_sl ([.ref (ad 0), .int x, .int y, .ref o] : List Value) ++ List.replicate (5 - (lg_sl ([.ref (ad 0), .int x, .int y, .ref o] : List Value)).length) Slot.unset).toArray = ls at hl ⊢
  have hl : lv_has ls 5 [(0, .ref (ad 0)), (1, .int x), (2, .int y), (3, .ref o)] := hl
  refine lv_aload_n hx hb dL_history_0 rfl (lv_at hl 3 rfl) ?_
  refine lv_iconst (v := 0) hx hb dL_history_1 (by decide) ?_
  refine lv_aload_n hx hb dL_history_2 rfl (lv_at hl 0 rfl) ?_
  refine lv_iload_n hx hb dL_history_3 rfl (lv_at hl 1 rfl) ?_
  refine lv_iload_n hx hb dL_history_4 rfl (lv_at hl 2 rfl) ?_
  refine vx_calli (vx_runV (As := [.int x, .int y]) (rest := [.int 0, .ref o]) ⟨hx, hb, hml, hown, hts⟩ (c_X4_history l hlt hJ M α hA sa x y) (cwV 2 hts gL_history_X4_history rfl rfl rfl (by decide +kernel) ⟨Nat.le_of_ble_eq_true rfl, Nat.le_of_ble_eq_true rfl⟩) ⟨hw_blind fl_blind, va_recv hK (lh_tail hP) (ci := 6) (q0 := 0) rfl (fl_at (by decide) rfl), fun U hU hW => ⟨fl_pre (lh_tail hP) hK hN U hU hW, hTh.warm hW, by rw [hU]; exact (hZh.narrow (fun a h => Or.inr h)).moved hW.alike⟩⟩ rfl rfl hl.1 rfl (lv_room (Nat.le_of_ble_eq_true rfl)) dL_history_5 ⟨Nat.le_of_ble_eq_true rfl, Nat.le_of_ble_eq_true rfl⟩) hS (fun _ _ h => Or.inr h) (fun _ h => Or.inr h) (fun _ _ h => Or.inr h) (fun E ce q9 u t H1 locs ht hvm hpx hBX hz1 hk1 hS hce hcv hcl => ?_) (fun r u t H1 locs ht hvm hw hB hz1 hk1 hS => ?_)
  · obtain ⟨hn, rfl⟩ := hpx
    obtain ⟨rfl, hB⟩ := hBX
    have hP1 : va_P D vwCl (lh_pool cI cJ cII ad o f u) H1 := lh_cons (lh_head ho hP hk1) (by rw [← ht]; exact hB)
    refine vx_catch (own := RL) (name := RJx00060) hown [] ⟨0, 10, 13, 13⟩ [] htab (fun _ h => nomatch h) (by decide) (by decide) (hts (.classLink RL 13 RJx00060) (by decide +kernel)) (va_Nw.use rfl (hTh.1 (.castable RJx00060 RJx00060) (by decide +kernel))) hce hcv hcl ?_
    refine lv_astore hx hb dL_history_13 hl (by decide) rfl (fun ls hl => ?_)
    refine lv_iconst (v := 1) hx hb dL_history_15 (by decide) ?_
    exact W.iret (v := 1) hx hb hr (fun t ht hW => ⟨⟨1, (f, u), rfl, ⟨by rw [hn], fun v hv => (by rw [hn] at hv; cases hv), rfl⟩, lh_qi ht hP1⟩, hS.F ht⟩) hS.2.2 dL_history_16
  · obtain ⟨hn, rfl⟩ := hw
    have hP1 : va_P D vwCl (lh_pool cI cJ cII ad o f u) H1 := lh_cons (lh_head ho hP hk1) (by rw [← ht]; exact hB)
    refine lv_i2l hx hb dL_history_8 rfl ?_
    refine va_last hx hb hK hP1 (lh_D hJ ho) hS 0 1 rfl rfl (i := 0) (show vp_in (nI 0) 1 from vp_in_nI (by decide) (by decide)) dL_history_9 (fun H locs hP2 _ hS => ?_)
    refine lv_goto (tgt := 17) hx hb dL_history_10 (by decide) ?_
    refine lv_iconst (v := 0) hx hb dL_history_17 (by decide) ?_
    exact W.iret (v := 0) hx hb hr (fun t ht hW => ⟨⟨0, (vp_updL f 0 r.toInt64, u), rfl, ⟨by rw [hn], fun v hv => (by rw [hn] at hv; cases hv; simp [vp_updL]), rfl⟩, lh_qi ht hP2⟩, hS.F ht⟩) hS.2.2 dL_history_18
