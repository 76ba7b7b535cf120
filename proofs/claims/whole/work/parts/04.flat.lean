/-! FLAT MEMORY: the cells of one side (the system's, or the reference's) are numbered 0 .. N-1; 'ad' gives a number's address; a memory M says what each holds: ints M.1, longs M.2.1, the double M.2.2.1, the numbers behind references that change M.2.2.2. -/
abbrev fl_M : Type := (Nat → Nat → Int32) × (Nat → Nat → Int64) × (Nat → UInt64) × (Nat → Nat → Nat)
def fl_sI (M : fl_M) (c k : Nat) (v : Int32) : fl_M := (fun a => if a = c then upd (M.1 a) k v else M.1 a, M.2)
def fl_sJ (M : fl_M) (c k : Nat) (v : Int64) : fl_M := (M.1, (fun a => if a = c then vp_updL (M.2.1 a) k v else M.2.1 a), M.2.2)
def fl_sG (M : fl_M) (c : Nat) (v : UInt64) : fl_M := (M.1, M.2.1, (fun a => if a = c then v else M.2.2.1 a), M.2.2.2)
def fl_sR (M : fl_M) (c k v : Nat) : fl_M := (M.1, M.2.1, M.2.2.1, (fun a => if a = c then (fun j => if j = k then v else M.2.2.2 a j) else M.2.2.2 a))
abbrev fl_Cell : Type := fl_M → Nat → va_E
def fl_Loc (cell : fl_Cell) : Prop := ∀ (M M' : fl_M) (j : Nat), M.1 j = M'.1 j → M.2.1 j = M'.2.1 j → M.2.2.1 j = M'.2.2.1 j → M.2.2.2 j = M'.2.2.2 j → cell M j = cell M' j
def fl_pool (cell : fl_Cell) (N : Nat) (ad : Nat → Nat) (M : fl_M) : va_W := (List.range N).map (fun c => (ad c, cell M c))
def fl_inj (N : Nat) (ad : Nat → Nat) : Prop := ∀ i j, i < N → j < N → ad i = ad j → i = j
def fl_A (N : Nat) (ad : Nat → Nat) : Nat → Prop := fun q => ∃ c, c < N ∧ q = ad c
theorem fl_sI_same (M : fl_M) (c k : Nat) (v : Int32) : (fl_sI M c k v).1 c = upd (M.1 c) k v := if_pos rfl
theorem fl_sI_ne (M : fl_M) (c k : Nat) (v : Int32) {a : Nat} (h : a ≠ c) : (fl_sI M c k v).1 a = M.1 a := if_neg h
theorem fl_sJ_same (M : fl_M) (c k : Nat) (v : Int64) : (fl_sJ M c k v).2.1 c = vp_updL (M.2.1 c) k v := if_pos rfl
theorem fl_sJ_ne (M : fl_M) (c k : Nat) (v : Int64) {a : Nat} (h : a ≠ c) : (fl_sJ M c k v).2.1 a = M.2.1 a := if_neg h
theorem fl_sG_same (M : fl_M) (c : Nat) (v : UInt64) : (fl_sG M c v).2.2.1 c = v := if_pos rfl
theorem fl_sG_ne (M : fl_M) (c : Nat) (v : UInt64) {a : Nat} (h : a ≠ c) : (fl_sG M c v).2.2.1 a = M.2.2.1 a := if_neg h
theorem fl_sR_ne (M : fl_M) (c k v : Nat) {a : Nat} (h : a ≠ c) : (fl_sR M c k v).2.2.2 a = M.2.2.2 a := if_neg h
theorem fl_sI_o {cell : fl_Cell} (hl : fl_Loc cell) (M : fl_M) (c k : Nat) (v : Int32) : ∀ j, j ≠ c → cell (fl_sI M c k v) j = cell M j := fun j h => hl _ _ j (fl_sI_ne M c k v h) rfl rfl rfl
theorem fl_sJ_o {cell : fl_Cell} (hl : fl_Loc cell) (M : fl_M) (c k : Nat) (v : Int64) : ∀ j, j ≠ c → cell (fl_sJ M c k v) j = cell M j := fun j h => hl _ _ j rfl (fl_sJ_ne M c k v h) rfl rfl
theorem fl_sG_o {cell : fl_Cell} (hl : fl_Loc cell) (M : fl_M) (c : Nat) (v : UInt64) : ∀ j, j ≠ c → cell (fl_sG M c v) j = cell M j := fun j h => hl _ _ j rfl rfl (fl_sG_ne M c v h) rfl
theorem fl_sR_o {cell : fl_Cell} (hl : fl_Loc cell) (M : fl_M) (c k v : Nat) : ∀ j, j ≠ c → cell (fl_sR M c k v) j = cell M j := fun j h => hl _ _ j rfl rfl rfl (fl_sR_ne M c k v h)
theorem fl_at {cell : fl_Cell} {N : Nat} {ad : Nat → Nat} {M : fl_M} {c : Nat} (h : c < N) {e : va_E} (he : cell M c = e) : (fl_pool cell N ad M)[c]? = some (ad c, e) := by
  subst he
  simp [fl_pool, h]
theorem fl_get {cell : fl_Cell} {N : Nat} {ad : Nat → Nat} {M : fl_M} {k : Nat} {q : Nat × va_E} (h : (fl_pool cell N ad M)[k]? = some q) : k < N ∧ q = (ad k, cell M k) := by
  have hk : k < N := by
    have := (List.getElem?_eq_some_iff.mp h).1
    simpa [fl_pool] using this
  refine ⟨hk, ?_⟩
  have h2 := fl_at (cell := cell) (ad := ad) (M := M) hk rfl
  rw [h] at h2
  exact Option.some.inj h2
theorem fl_setp {cell : fl_Cell} {N : Nat} {ad : Nat → Nat} {M M' : fl_M} {c : Nat} {e : va_E} (hc : cell M' c = e) (ho : ∀ j, j ≠ c → cell M' j = cell M j) : (fl_pool cell N ad M).set c (ad c, e) = fl_pool cell N ad M' := by
  subst hc
  apply List.ext_getElem?
  intro i
  rw [List.getElem?_set]
  by_cases hi : c = i
  · subst hi
    by_cases hl : c < N
    · simp [fl_pool, hl]
    · simp [fl_pool, hl]
  · simp only [hi, if_false]
    by_cases hl : i < N
    · simp [fl_pool, hl, ho i (fun q => hi q.symm)]
    · simp [fl_pool, hl]
theorem fl_D {cell : fl_Cell} {N : Nat} {ad : Nat → Nat} {M : fl_M} (hJ : fl_inj N ad) : va_D (fl_A N ad) (fl_pool cell N ad M) := by
  refine ⟨fun i j p q hp hq he => ?_, fun k q hk => ?_⟩
  · obtain ⟨h1, rfl⟩ := fl_get hp
    obtain ⟨h2, rfl⟩ := fl_get hq
    exact hJ i j h1 h2 he
  · obtain ⟨h1, rfl⟩ := fl_get hk
    exact ⟨k, h1, rfl⟩
/-- the links between nest mates that the methods use, said of a state -/
def fl_N (U : State) : Prop := va_Nw (.methodLinkNest RX0 34 yX4_sumOf RX4) U ∧ va_Nw (.methodLinkNest RX0 43 yX4_firstAbove RX4) U ∧ va_Nw (.methodLinkNest RX1 76 yX4_firstAbove RX4) U ∧ va_Nw (.methodLinkNest RX2 79 yX4_sumOf RX4) U
theorem fl_N.warm {s U : State} (h : fl_N s) (hW : s.WarmedH U.vm) : fl_N U := ⟨va_Nw.warmM hW h.1, va_Nw.warmM hW h.2.1, va_Nw.warmM hW h.2.2.1, va_Nw.warmM hW h.2.2.2⟩
theorem fl_N.same {s U : State} (h : fl_N s) (e : s.vm = U.vm) : fl_N U := ⟨va_Nw.same rfl e h.1, va_Nw.same rfl e h.2.1, va_Nw.same rfl e h.2.2.1, va_Nw.same rfl e h.2.2.2⟩
abbrev fl_tys (cI cJ cII : ClassId) : List (ClassId × FieldType) := [(cI, .int), (cJ, .long), (cII, .array .int)]
def fl_Pc (cell : fl_Cell) (N : Nat) (ad : Nat → Nat) (D : va_G) (tys : List (ClassId × FieldType)) (M : fl_M) (av : List Value) : Array Value → State → Prop := va_Pc av (fun U => va_P D vwCl (fl_pool cell N ad M) U.heap ∧ va_K D vwCl tys U ∧ fl_N U)
abbrev fl_Q (cell : fl_Cell) (N : Nat) (ad : Nat → Nat) (D : va_G) (M : fl_M) (t : State) : Prop := va_P D vwCl (fl_pool cell N ad M) t.heap
theorem fl_blind {cell : fl_Cell} {N : Nat} {ad : Nat → Nat} {D : va_G} {tys : List (ClassId × FieldType)} {M : fl_M} {av : List Value} : FrameBlind (fl_Pc cell N ad D tys M av) := by
  intro a U g mk q
  obtain ⟨q0, qP, qK, qN⟩ := q
  exact ⟨q0, qP, va_K.moved (u := U) (U := U.calling g mk a) (Vm.Alike.refl U.vm) qK, qN.same rfl⟩
theorem fl_pre {cell : fl_Cell} {N : Nat} {ad : Nat → Nat} {D : va_G} {tys : List (ClassId × FieldType)} {M : fl_M} {av : List Value} {s : State} {H : Heap} (hP : va_P D vwCl (fl_pool cell N ad M) H) (hK : va_K D vwCl tys s) (hN : fl_N s) : ∀ U : State, U.heap = H → s.WarmedH U.vm → fl_Pc cell N ad D tys M av av.toArray U :=
  fun U hU hW => ⟨rfl, by rw [hU]; exact hP, va_K.moved hW.alike hK, hN.warm hW⟩
theorem fl_qi {cell : fl_Cell} {N : Nat} {ad : Nat → Nat} {D : va_G} {M : fl_M} {t : State} {H : Heap} (ht : t.heap = H) (hP : va_P D vwCl (fl_pool cell N ad M) H) : fl_Q cell N ad D M t := by
  show va_P D vwCl (fl_pool cell N ad M) t.heap
  rw [ht]
  exact hP
section FLR
variable {p : Program} {l : Launch} {e : Env} {R : Room} {s : State} {m : MethodId} {args : Array Value} {below : List Frame} {meth : Method} {c : Code} {H : Heap} {locs : List Loc} {cells slots : Nat} {Q : State → Prop}
variable {cc : ByteArray} {pc : Nat} {ls : Array Slot} {rest : List Value} {D : va_G} {A : Nat → Prop} {tys : List (ClassId × FieldType)} {H0 : Heap} {cell : fl_Cell} {N : Nat} {ad : Nat → Nat} {M M' : fl_M}
/-- another value on the stack's top, equal to it -/
theorem fl_top {x y : Value} (h : x = y) (k : W p l e R s m args below meth c H locs cells slots Q (F0 m pc ls (y :: rest))) : W p l e R s m args below meth c H locs cells slots Q (F0 m pc ls (x :: rest)) := h ▸ k
theorem fl_ti {x y : Int32} (h : x = y) (k : W p l e R s m args below meth c H locs cells slots Q (F0 m pc ls (.int y :: rest))) : W p l e R s m args below meth c H locs cells slots Q (F0 m pc ls (.int x :: rest)) := h ▸ k
theorem fl_tl {x y : Int64} (h : x = y) (k : W p l e R s m args below meth c H locs cells slots Q (F0 m pc ls (.long y :: rest))) : W p l e R s m args below meth c H locs cells slots Q (F0 m pc ls (.long x :: rest)) := h ▸ k
theorem fl_ild (hexec : p.tables.exec = Jvm.exec) (hb : c.code = cc) (hK : va_K D vwCl tys s) (hP : va_P D vwCl (fl_pool cell N ad M) H) {a n k : Nat} {cA : ClassId} {f : Nat → Int32} (ha : (fl_pool cell N ad M)[a]? = some (ad a, .inl (cA, n, .inl f))) (ht : tys[0]? = some (cA, .int)) {i : Int32} (hi : i = nI k) (hk : k < n) (hn : n < 2 ^ 31) (hdg : decode cc pc = .ok (.iaload, 1))
    (kk : W p l e R s m args below meth c H locs cells slots Q (F0 m (pc + 1) ls (.int (f k) :: rest))) : W p l e R s m args below meth c H locs cells slots Q (F0 m pc ls (.int i :: .ref (ad a) :: rest)) := by
  subst hi
  refine va_iald hexec hb hK hP a 0 ha ht (vp_in_nI hk hn) hdg ?_
  rw [nI_clamp (by omega)]
  exact kk
theorem fl_jld (hexec : p.tables.exec = Jvm.exec) (hb : c.code = cc) (hK : va_K D vwCl tys s) (hP : va_P D vwCl (fl_pool cell N ad M) H) {a n k : Nat} {cA : ClassId} {f : Nat → Int64} (ha : (fl_pool cell N ad M)[a]? = some (ad a, .inl (cA, n, .inr (.inl f)))) (ht : tys[1]? = some (cA, .long)) {i : Int32} (hi : i = nI k) (hk : k < n) (hn : n < 2 ^ 31) (hdg : decode cc pc = .ok (.laload, 1))
    (kk : W p l e R s m args below meth c H locs cells slots Q (F0 m (pc + 1) ls (.long (f k) :: rest))) : W p l e R s m args below meth c H locs cells slots Q (F0 m pc ls (.int i :: .ref (ad a) :: rest)) := by
  subst hi
  refine va_lald hexec hb hK hP a 1 ha ht (vp_in_nI hk hn) hdg ?_
  rw [nI_clamp (by omega)]
  exact kk
theorem fl_ist (hexec : p.tables.exec = Jvm.exec) (hb : c.code = cc) (hK : va_K D vwCl tys s) (hJ : fl_inj N ad) (hP : va_P D vwCl (fl_pool cell N ad M) H) (hS : va_S (fl_A N ad) H0 H locs) (hl : fl_Loc cell) {a n k : Nat} {cA : ClassId} {x : Int32} (ha : (fl_pool cell N ad M)[a]? = some (ad a, .inl (cA, n, .inl (M.1 a)))) (hc : cell (fl_sI M a k x) a = .inl (cA, n, .inl ((fl_sI M a k x).1 a))) (ht : tys[0]? = some (cA, .int)) {i : Int32} (hi : i = nI k) (hk : k < n) (hn : n < 2 ^ 31) (hdg : decode cc pc = .ok (.iastore, 1))
    (kk : ∀ (H1 : Heap) (locs1 : List Loc), va_P D vwCl (fl_pool cell N ad (fl_sI M a k x)) H1 → va_S (fl_A N ad) H0 H1 locs1 → W p l e R s m args below meth c H1 locs1 cells slots Q (F0 m (pc + 1) ls rest)) : W p l e R s m args below meth c H locs cells slots Q (F0 m pc ls (.int x :: .int i :: .ref (ad a) :: rest)) := by
  subst hi
  refine va_iast hexec hb hK hP (fl_D hJ) hS a 0 ha ht (vp_in_nI hk hn) hdg (fun H1 locs1 hP1 _ hS1 => kk H1 locs1 ?_ hS1)
  rw [nI_clamp (show k < 2 ^ 31 by omega)] at hP1
  rw [fl_setp (M' := fl_sI M a k x) (by rw [hc, fl_sI_same]) (fl_sI_o hl M a k x)] at hP1
  exact hP1
theorem fl_jst (hexec : p.tables.exec = Jvm.exec) (hb : c.code = cc) (hK : va_K D vwCl tys s) (hJ : fl_inj N ad) (hP : va_P D vwCl (fl_pool cell N ad M) H) (hS : va_S (fl_A N ad) H0 H locs) (hl : fl_Loc cell) {a n k : Nat} {cA : ClassId} {x : Int64} (ha : (fl_pool cell N ad M)[a]? = some (ad a, .inl (cA, n, .inr (.inl (M.2.1 a))))) (hc : cell (fl_sJ M a k x) a = .inl (cA, n, .inr (.inl ((fl_sJ M a k x).2.1 a)))) (ht : tys[1]? = some (cA, .long)) {i : Int32} (hi : i = nI k) (hk : k < n) (hn : n < 2 ^ 31) (hdg : decode cc pc = .ok (.lastore, 1))
    (kk : ∀ (H1 : Heap) (locs1 : List Loc), va_P D vwCl (fl_pool cell N ad (fl_sJ M a k x)) H1 → va_S (fl_A N ad) H0 H1 locs1 → W p l e R s m args below meth c H1 locs1 cells slots Q (F0 m (pc + 1) ls rest)) : W p l e R s m args below meth c H locs cells slots Q (F0 m pc ls (.long x :: .int i :: .ref (ad a) :: rest)) := by
  subst hi
  refine va_last hexec hb hK hP (fl_D hJ) hS a 1 ha ht (vp_in_nI hk hn) hdg (fun H1 locs1 hP1 _ hS1 => kk H1 locs1 ?_ hS1)
  rw [nI_clamp (show k < 2 ^ 31 by omega)] at hP1
  rw [fl_setp (M' := fl_sJ M a k x) (by rw [hc, fl_sJ_same]) (fl_sJ_o hl M a k x)] at hP1
  exact hP1
/-- a row of rows: its k-th row -/
theorem fl_ald (hexec : p.tables.exec = Jvm.exec) (hb : c.code = cc) (hK : va_K D vwCl tys s) (hP : va_P D vwCl (fl_pool cell N ad M) H) {a n k : Nat} {cA : ClassId} {f : Nat → Nat} (ha : (fl_pool cell N ad M)[a]? = some (ad a, .inl (cA, n, .inr (.inr (.inr (.inr (fun j => some (f j)))))))) (ht : tys[2]? = some (cA, .array .int)) {i : Int32} (hi : i = nI k) (hk : k < n) (hn : n < 2 ^ 31) (hdg : decode cc pc = .ok (.aaload, 1))
    (kk : W p l e R s m args below meth c H locs cells slots Q (F0 m (pc + 1) ls (.ref (f k) :: rest))) : W p l e R s m args below meth c H locs cells slots Q (F0 m pc ls (.int i :: .ref (ad a) :: rest)) := by
  subst hi
  have hin := vp_in_nI hk hn
  have hcl : (nI k).toNatClampNeg = k := nI_clamp (by omega)
  exact W.aald (v := .ref (f k)) (ty := .array .int) hexec hb (hP a _ ha) ((hK.2 2 _ ht).1 n (fun j => va_rf (some (f j)))) rfl (fun q => by cases q) (by show ¬ (nI k < 0 ∨ (arrV _ _ _).slots.size ≤ _); rw [arrV_size]; exact hin) (by show (arrV _ _ _).slots[_]? = _; rw [hcl, arrV_read _ _ hk]; rfl) rfl rfl hdg kk
theorem fl_put (hexec : p.tables.exec = Jvm.exec) (hb : c.code = cc) {own ref C : String} {T : u_T} {Nf ci index : Nat} {Ts : List Cond} (hts : ∀ w ∈ Ts, w.before args s = true) (hin : ∀ w ∈ u_ws C T Nf, w ∈ Ts) (ty0 : Nat → FieldType) (hty : ∀ k, k < Nf → parseFieldDescriptor (T k).2.2.1 = some (ty0 k)) (hnm : ∀ a, a < Nf → ∀ b, b < Nf → a ≠ b → (T a).2.1 ≠ (T b).2.1) (hown : s.vm.findClass own = some m.cls) (hK : va_K D vwCl tys s) (hJ : fl_inj N ad) (hP : va_P D vwCl (fl_pool cell N ad M) H) (hS0 : va_S (fl_A N ad) H0 H locs) (a : Nat) (haN : a < N) {fs : List Value} (M' : fl_M) (he : cell M a = .inr (ci, fs)) (hc : vwCl[ci]? = some (C, T, Nf)) (k : Nat) (hk : k < Nf) (hlink : (Cond.fieldLink own index ref (T k).2.1 (T k).2.2.1).before args s = true) (hsame : ∀ x, s.fieldFound? (T k).1 (T k).2.1 (T k).2.2.1 = some x → s.fieldFound? ref (T k).2.1 (T k).2.2.1 = some x) (hfin : (T k).2.2.2 = false) {ty : FieldType} {v : Value} (hd : parseFieldDescriptor (T k).2.2.1 = some ty) (hn : narrow ty v = v) (hfit : fits ty v = true) (hl : k < fs.length)
    (he' : cell M' a = .inr (ci, fs.set k v)) (ho : ∀ j, j ≠ a → cell M' j = cell M j) (hdg : decode cc pc = .ok (.putfield index, 3)) (kk : ∀ (H1 : Heap) (locs1 : List Loc), va_P D vwCl (fl_pool cell N ad M') H1 → va_S (fl_A N ad) H0 H1 locs1 → W p l e R s m args below meth c H1 locs1 cells slots Q (F0 m (pc + 3) ls rest)) : W p l e R s m args below meth c H locs cells slots Q (F0 m pc ls (v :: .ref (ad a) :: rest)) := by
  refine va_put hexec hb hts hin ty0 hty hnm hown hK hP (fl_D hJ) hS0 a (fl_at haN he) hc k hk hlink hsame hfin hd hn hfit hl hdg (fun H1 locs1 hP1 _ hS1 => kk H1 locs1 ?_ hS1)
  rw [fl_setp he' ho] at hP1
  exact hP1
/-- lcmp and the branch behind it -/
theorem fl_lle (hexec : p.tables.exec = Jvm.exec) (hb : c.code = cc) {x y : Int64} {off : Int} {tgt : Nat} (hd1 : decode cc pc = .ok (.lcmp, 1)) (hd2 : decode cc (pc + 1) = .ok (.ifCond .le off, 3)) (ht : ((pc + 1 : Nat) : Int) + off = (tgt : Int)) (kt : x ≤ y → W p l e R s m args below meth c H locs cells slots Q (F0 m tgt ls rest)) (kf : ¬ x ≤ y → W p l e R s m args below meth c H locs cells slots Q (F0 m (pc + 1 + 3) ls rest)) : W p l e R s m args below meth c H locs cells slots Q (F0 m pc ls (.long y :: .long x :: rest)) :=
  W.lcmp hexec hb hd1 (lv_if_le hexec hb hd2 ht (fun h => kt ((lg_cmp_le x y).mp h)) (fun h => kf (fun q => h ((lg_cmp_le x y).mpr q))))
theorem fl_lgt (hexec : p.tables.exec = Jvm.exec) (hb : c.code = cc) {x y : Int64} {off : Int} {tgt : Nat} (hd1 : decode cc pc = .ok (.lcmp, 1)) (hd2 : decode cc (pc + 1) = .ok (.ifCond .gt off, 3)) (ht : ((pc + 1 : Nat) : Int) + off = (tgt : Int)) (kt : y < x → W p l e R s m args below meth c H locs cells slots Q (F0 m tgt ls rest)) (kf : ¬ y < x → W p l e R s m args below meth c H locs cells slots Q (F0 m (pc + 1 + 3) ls rest)) : W p l e R s m args below meth c H locs cells slots Q (F0 m pc ls (.long y :: .long x :: rest)) :=
  W.lcmp hexec hb hd1 (lv_if_gt hexec hb hd2 ht (fun h => kt ((lg_cmp_gt x y).mp h)) (fun h => kf (fun q => h ((lg_cmp_gt x y).mpr q))))
theorem fl_lge (hexec : p.tables.exec = Jvm.exec) (hb : c.code = cc) {x y : Int64} {off : Int} {tgt : Nat} (hd1 : decode cc pc = .ok (.lcmp, 1)) (hd2 : decode cc (pc + 1) = .ok (.ifCond .ge off, 3)) (ht : ((pc + 1 : Nat) : Int) + off = (tgt : Int)) (kt : y ≤ x → W p l e R s m args below meth c H locs cells slots Q (F0 m tgt ls rest)) (kf : ¬ y ≤ x → W p l e R s m args below meth c H locs cells slots Q (F0 m (pc + 1 + 3) ls rest)) : W p l e R s m args below meth c H locs cells slots Q (F0 m pc ls (.long y :: .long x :: rest)) :=
  W.lcmp hexec hb hd1 (lv_if_ge hexec hb hd2 ht (fun h => kt ((lg_cmp_ge x y).mp h)) (fun h => kf (fun q => h ((lg_cmp_ge x y).mpr q))))
theorem fl_llt (hexec : p.tables.exec = Jvm.exec) (hb : c.code = cc) {x y : Int64} {off : Int} {tgt : Nat} (hd1 : decode cc pc = .ok (.lcmp, 1)) (hd2 : decode cc (pc + 1) = .ok (.ifCond .lt off, 3)) (ht : ((pc + 1 : Nat) : Int) + off = (tgt : Int)) (kt : x < y → W p l e R s m args below meth c H locs cells slots Q (F0 m tgt ls rest)) (kf : ¬ x < y → W p l e R s m args below meth c H locs cells slots Q (F0 m (pc + 1 + 3) ls rest)) : W p l e R s m args below meth c H locs cells slots Q (F0 m pc ls (.long y :: .long x :: rest)) :=
  W.lcmp hexec hb hd1 (lv_if_lt hexec hb hd2 ht (fun h => kt ((lg_cmp_lt x y).mp h)) (fun h => kf (fun q => h ((lg_cmp_lt x y).mpr q))))
theorem fl_leq (hexec : p.tables.exec = Jvm.exec) (hb : c.code = cc) {x y : Int64} {off : Int} {tgt : Nat} (hd1 : decode cc pc = .ok (.lcmp, 1)) (hd2 : decode cc (pc + 1) = .ok (.ifCond .eq off, 3)) (ht : ((pc + 1 : Nat) : Int) + off = (tgt : Int)) (kt : x = y → W p l e R s m args below meth c H locs cells slots Q (F0 m tgt ls rest)) (kf : ¬ x = y → W p l e R s m args below meth c H locs cells slots Q (F0 m (pc + 1 + 3) ls rest)) : W p l e R s m args below meth c H locs cells slots Q (F0 m pc ls (.long y :: .long x :: rest)) :=
  W.lcmp hexec hb hd1 (lv_if_eq hexec hb hd2 ht (fun h => kt ((lg_cmp_eq x y).mp h)) (fun h => kf (fun q => h ((lg_cmp_eq x y).mpr q))))
theorem fl_lne (hexec : p.tables.exec = Jvm.exec) (hb : c.code = cc) {x y : Int64} {off : Int} {tgt : Nat} (hd1 : decode cc pc = .ok (.lcmp, 1)) (hd2 : decode cc (pc + 1) = .ok (.ifCond .ne off, 3)) (ht : ((pc + 1 : Nat) : Int) + off = (tgt : Int)) (kt : ¬ x = y → W p l e R s m args below meth c H locs cells slots Q (F0 m tgt ls rest)) (kf : x = y → W p l e R s m args below meth c H locs cells slots Q (F0 m (pc + 1 + 3) ls rest)) : W p l e R s m args below meth c H locs cells slots Q (F0 m pc ls (.long y :: .long x :: rest)) :=
  W.lcmp hexec hb hd1 (lv_if_ne hexec hb hd2 ht (fun h => kt (fun q => h ((lg_cmp_eq x y).mpr q))) (fun h => kf ((lg_cmp_eq x y).mp h)))
end FLR
/-! THE SYSTEM'S CELLS: 0 the object, 1 tables, 2 starts, 3 moves, 4 sights, 5 names, 6 draws, 7 forced, 8 run, 9 picks, 10 times, 11 rests, 12 origins, 13 and 16 states, 14 and 17 weights, 15 and 18 histories, 19.. moves' rows, 25.. sights' rows, 30.. and 46.. histories' rows. -/
def fc_low (cI cII : ClassId) (ad : Nat → Nat) (i : Nat → Int32) (j : Nat → Int64) (g : UInt64) (r : Nat → Nat) (c : Nat) : va_E := match c with
  | 0 => .inr (6, [.ref (ad 1), .ref (ad 6), .ref (ad 8)])
  | 1 => .inr (5, [.ref (ad 2), .ref (ad 3), .ref (ad 4), .ref (ad 5)])
  | 2 => .inl (cI, 6, .inl i)
  | 3 => .inl (cII, 6, .inr (.inr (.inr (.inr (fun k => some (ad (19 + k)))))))
  | 4 => .inl (cII, 5, .inr (.inr (.inr (.inr (fun k => some (ad (25 + k)))))))
  | 5 => .inl (cI, 6, .inl i)
  | 6 => .inr (2, [.ref (ad 7), .int (i 1), .int (i 2), .long (j 3)])
  | 7 => .inl (cI, 64, .inl i)
  | 8 => .inr (4, [.ref (ad 9), .ref (ad 12), .int (i 2), .int (i 3), .int (i 4), .int (i 5), .double g, .ref (ad (r 7)), .ref (ad (r 8)), .ref (ad (r 9)), .ref (ad (r 10)), .ref (ad (r 11)), .ref (ad (r 12))])
  | 9 => .inr (3, [.ref (ad 10), .ref (ad 11)])
  | 15 => .inl (cII, 16, .inr (.inr (.inr (.inr (fun k => some (ad (30 + k)))))))
  | 18 => .inl (cII, 16, .inr (.inr (.inr (.inr (fun k => some (ad (46 + k)))))))
  | _ => .inl (cI, 16, .inl i)
def fc_cell (cI cII : ClassId) (ad : Nat → Nat) : fl_Cell := fun M c => if c < 19 then fc_low cI cII ad (M.1 c) (M.2.1 c) (M.2.2.1 c) (M.2.2.2 c) c else .inl (cI, (if c < 30 then 6 else 31), .inl (M.1 c))
/-- the length of an int row, by its number; 0: it is none -/
def fc_len (c : Nat) : Nat := if c < 19 then (match c with | 2 => 6 | 5 => 6 | 7 => 64 | 10 => 16 | 11 => 16 | 12 => 16 | 13 => 16 | 14 => 16 | 16 => 16 | 17 => 16 | _ => 0) else if c < 30 then 6 else if c < 62 then 31 else 0
theorem fc_loc (cI cII : ClassId) (ad : Nat → Nat) : fl_Loc (fc_cell cI cII ad) := by
  intro M M' j h1 h2 h3 h4
  unfold fc_cell
  rw [h1, h2, h3, h4]
theorem fc_arr (cI cII : ClassId) (ad : Nat → Nat) (M : fl_M) {c n : Nat} (h : fc_len c = n) (hn : 0 < n) : c < 62 ∧ fc_cell cI cII ad M c = .inl (cI, n, .inl (M.1 c)) := by
  subst h
  by_cases h1 : c < 19
  · refine ⟨by omega, ?_⟩
    unfold fc_cell
    rw [if_pos h1]
    rcases (show c = 0 ∨ c = 1 ∨ c = 2 ∨ c = 3 ∨ c = 4 ∨ c = 5 ∨ c = 6 ∨ c = 7 ∨ c = 8 ∨ c = 9 ∨ c = 10 ∨ c = 11 ∨ c = 12 ∨ c = 13 ∨ c = 14 ∨ c = 15 ∨ c = 16 ∨ c = 17 ∨ c = 18 by omega) with rfl | rfl | rfl | rfl | rfl | rfl | rfl | rfl | rfl | rfl | rfl | rfl | rfl | rfl | rfl | rfl | rfl | rfl | rfl <;> first | rfl | exact absurd hn (by decide)
  · by_cases h2 : c < 30
    · refine ⟨by omega, ?_⟩
      unfold fc_cell
      rw [if_neg h1]
      simp [fc_len, h1, h2]
    · by_cases h3 : c < 62
      · refine ⟨by omega, ?_⟩
        unfold fc_cell
        rw [if_neg h1]
        simp [fc_len, h1, h2, h3]
      · exact absurd hn (by simp [fc_len, h1, h2, h3])
theorem fc_a (cI cII : ClassId) (ad : Nat → Nat) (M : fl_M) {c n : Nat} (h : fc_len c = n) (hn : 0 < n) : (fl_pool (fc_cell cI cII ad) 62 ad M)[c]? = some (ad c, .inl (cI, n, .inl (M.1 c))) := fl_at (fc_arr cI cII ad M h hn).1 (fc_arr cI cII ad M h hn).2
abbrev fcP (cI cII : ClassId) (ad : Nat → Nat) (M : fl_M) : va_W := fl_pool (fc_cell cI cII ad) 62 ad M
abbrev fcPc (D : va_G) (cI cJ cII : ClassId) (ad : Nat → Nat) (M : fl_M) (av : List Value) : Array Value → State → Prop := fl_Pc (fc_cell cI cII ad) 62 ad D (fl_tys cI cJ cII) M av
abbrev fcQ (D : va_G) (cI cII : ClassId) (ad : Nat → Nat) : fl_M → State → Prop := fl_Q (fc_cell cI cII ad) 62 ad D
/-! THE REFERENCE'S CELLS: 0 the object, then its rows in the order of its fields: 1 starts, 2 moves, 3 sights, 4 names, 5 forced, 6 states, 7 weights, 8 histories, 9 froms, 10 by, 11 drawn, 12 times, 13 oldStates, 14 oldHistories. -/
def fm_low (cI cJ : ClassId) (ad : Nat → Nat) (i : Nat → Int32) (j : Nat → Int64) (g : UInt64) (c : Nat) : va_E := match c with
  | 0 => .inr (7, [.int (i 0), .ref (ad 1), .ref (ad 2), .ref (ad 3), .ref (ad 4), .ref (ad 5), .int (i 6), .int (i 7), .long (j 8), .ref (ad 6), .ref (ad 7), .ref (ad 8), .int (i 12), .int (i 13), .int (i 14), .double g, .ref (ad 9), .int (i 17), .ref (ad 10), .ref (ad 11), .ref (ad 12), .ref (ad 13), .ref (ad 14)])
  | 1 => .inl (cI, 6, .inl i)
  | 2 => .inl (cI, 36, .inl i)
  | 3 => .inl (cI, 30, .inl i)
  | 4 => .inl (cI, 6, .inl i)
  | 5 => .inl (cI, 64, .inl i)
  | 7 => .inl (cJ, 16, .inr (.inl j))
  | 8 => .inl (cI, 496, .inl i)
  | 10 => .inl (cJ, 16, .inr (.inl j))
  | 14 => .inl (cI, 496, .inl i)
  | _ => .inl (cI, 16, .inl i)
def fm_cell (cI cJ : ClassId) (ad : Nat → Nat) : fl_Cell := fun M c => fm_low cI cJ ad (M.1 c) (M.2.1 c) (M.2.2.1 c) c
theorem fm_loc (cI cJ : ClassId) (ad : Nat → Nat) : fl_Loc (fm_cell cI cJ ad) := by
  intro M M' j h1 h2 h3 h4
  unfold fm_cell
  rw [h1, h2, h3]
abbrev fmP (cI cJ : ClassId) (ad : Nat → Nat) (M : fl_M) : va_W := fl_pool (fm_cell cI cJ ad) 15 ad M
abbrev fmPc (D : va_G) (cI cJ cII : ClassId) (ad : Nat → Nat) (M : fl_M) (av : List Value) : Array Value → State → Prop := fl_Pc (fm_cell cI cJ ad) 15 ad D (fl_tys cI cJ cII) M av
abbrev fmQ (D : va_G) (cI cJ : ClassId) (ad : Nat → Nat) : fl_M → State → Prop := fl_Q (fm_cell cI cJ ad) 15 ad D
