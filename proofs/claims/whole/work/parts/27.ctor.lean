/-! THE CONSTRUCTORS: a pool that grows. ci_A: the object itself and all that is made later -/
def ci_A (x N0 : Nat) : Nat → Prop := fun q => q = x ∨ N0 ≤ q
def ci_rows (cI : ClassId) (r : Nat → Nat) (n k : Nat) : va_W := (List.range n).map (fun i => (r i, .inl (cI, k, .inl (fun _ => 0))))
/-- what the constructors' calls need of the tables, beside fl_N -/
def ci_N (U : State) : Prop := fl_N U ∧ va_AOA .int U ∧ va_Nw (.methodLinkNest RX4 18 yX0_init RX4) U ∧ va_Nw (.methodLinkNest RX4 25 yX2_init RX4) U ∧ va_Nw (.methodLinkNest RX2 11 yX1_init RX4) U
theorem ci_AOAs {s U : State} (e : s.vm = U.vm) (h : va_AOA .int s) : va_AOA .int U := by
  unfold va_AOA Cond.before Cond.holds at h ⊢
  simp only [Cond.value] at h ⊢
  rw [← e]
  exact h
theorem ci_AOAw {s U : State} (hW : s.WarmedH U.vm) (h : va_AOA .int s) : va_AOA .int U := ci_AOAs (s := s.setVm U.vm) rfl (by
  unfold va_AOA
  rw [Cond.arrayOver_setVmC hW.alike]
  exact h)
theorem ci_N.warm {s U : State} (h : ci_N s) (hW : s.WarmedH U.vm) : ci_N U := ⟨h.1.warm hW, ci_AOAw hW h.2.1, va_Nw.warmM hW h.2.2.1, va_Nw.warmM hW h.2.2.2.1, va_Nw.warmM hW h.2.2.2.2⟩
theorem ci_N.same {s U : State} (h : ci_N s) (e : s.vm = U.vm) : ci_N U := ⟨h.1.same e, ci_AOAs e h.2.1, va_Nw.same rfl e h.2.2.1, va_Nw.same rfl e h.2.2.2.1, va_Nw.same rfl e h.2.2.2.2⟩
def ci_Pc (D : va_G) (cI cJ cII : ClassId) (ws : va_W) (N0 : Nat) (av : List Value) : Array Value → State → Prop := va_Pc av (fun U => U.heap.size = N0 ∧ va_P D vwCl ws U.heap ∧ va_K D vwCl (fl_tys cI cJ cII) U ∧ ci_N U)
theorem ci_blind {D : va_G} {cI cJ cII : ClassId} {ws : va_W} {N0 : Nat} {av : List Value} : FrameBlind (ci_Pc D cI cJ cII ws N0 av) := by
  intro a U g mk q
  obtain ⟨q0, qz, qP, qK, qN⟩ := q
  exact ⟨q0, qz, qP, va_K.moved (u := U) (U := U.calling g mk a) (Vm.Alike.refl U.vm) qK, qN.same rfl⟩
theorem ci_pre {D : va_G} {cI cJ cII : ClassId} {ws : va_W} {av : List Value} {s : State} {H : Heap} (hP : va_P D vwCl ws H) (hK : va_K D vwCl (fl_tys cI cJ cII) s) (hN : ci_N s) : ∀ U : State, U.heap = H → s.WarmedH U.vm → ci_Pc D cI cJ cII ws H.size av av.toArray U :=
  fun U hU hW => ⟨rfl, by rw [hU], by rw [hU]; exact hP, va_K.moved hW.alike hK, hN.warm hW⟩
section CTR
variable {p : Program} {l : Launch} {e : Env} {R : Room} {s : State} {m : MethodId} {args : Array Value} {below : List Frame} {meth : Method} {c : Code} {H : Heap} {locs : List Loc} {cells slots : Nat} {Q : State → Prop} {cc : ByteArray} {pc : Nat} {ls : Array Slot} {rest : List Value} {D : va_G} {cI cJ cII : ClassId} {A : Nat → Prop} {ws : va_W} {H0 : Heap}
theorem ci_newi (hexec : p.tables.exec = Jvm.exec) (hb : c.code = cc) (harr : (Cond.arrayClass .int).before args s = true) (hK : va_K D vwCl (fl_tys cI cJ cII) s) (hP : va_P D vwCl ws H) (hD : va_D A ws) (hS : va_S A H0 H locs) (hA : ∀ q, H0.size ≤ q → A q) {n : Int32} (N' : Nat) (hn : n = nI N') (hN : N' ≤ 1000) (hcells : cells + 1 ≤ R.cells) (hslots : slots + N' ≤ R.slots) (hdg : decode cc pc = .ok (.newarray .int, 2))
    (kk : ∀ (q : Nat) (H1 : Heap), va_P D vwCl (ws ++ [(q, .inl (cI, N', .inl (fun _ => 0)))]) H1 → va_D A (ws ++ [(q, .inl (cI, N', .inl (fun _ => 0)))]) → va_S A H0 H1 locs → W p l e R s m args below meth c H1 locs (cells + 1) (slots + N') Q (F0 m (pc + 2) ls (.ref q :: rest))) : W p l e R s m args below meth c H locs cells slots Q (F0 m pc ls (.int n :: rest)) := by
  subst hn
  refine va_newa (atype := .int) (ty := .int) (N' := N') (a0 := (N', .inl (fun _ => 0))) hexec hb harr rfl hK hP hD hS hA (fun _ => rfl) (fun h => (vp_in_nI (n := N') (N := N' + 1) (by omega) (by omega)) (Or.inl h)) (nI_clamp (by omega)) (by show N' * 4 ≤ 536870912; omega) hcells hslots hdg (fun q cA H1 hK1 hP1 hD1 hS1 => ?_)
  have h1 : s.vm.findClass ("[" ++ FieldType.int.toString) = some cI := (hK.2 0 _ rfl).2
  have h2 : s.vm.findClass ("[" ++ FieldType.int.toString) = some cA := (hK1.2 3 _ rfl).2
  cases Option.some.inj (h1.symm.trans h2)
  exact kk q H1 hP1 hD1 hS1
theorem ci_newl (hexec : p.tables.exec = Jvm.exec) (hb : c.code = cc) (harr : (Cond.arrayClass .long).before args s = true) (hK : va_K D vwCl (fl_tys cI cJ cII) s) (hP : va_P D vwCl ws H) (hD : va_D A ws) (hS : va_S A H0 H locs) (hA : ∀ q, H0.size ≤ q → A q) {n : Int32} (N' : Nat) (hn : n = nI N') (hN : N' ≤ 1000) (hcells : cells + 1 ≤ R.cells) (hslots : slots + N' ≤ R.slots) (hdg : decode cc pc = .ok (.newarray .long, 2))
    (kk : ∀ (q : Nat) (H1 : Heap), va_P D vwCl (ws ++ [(q, .inl (cJ, N', .inr (.inl (fun _ => 0))))]) H1 → va_D A (ws ++ [(q, .inl (cJ, N', .inr (.inl (fun _ => 0))))]) → va_S A H0 H1 locs → W p l e R s m args below meth c H1 locs (cells + 1) (slots + N') Q (F0 m (pc + 2) ls (.ref q :: rest))) : W p l e R s m args below meth c H locs cells slots Q (F0 m pc ls (.int n :: rest)) := by
  subst hn
  refine va_newa (atype := .long) (ty := .long) (N' := N') (a0 := (N', .inr (.inl (fun _ => 0)))) hexec hb harr rfl hK hP hD hS hA (fun _ => rfl) (fun h => (vp_in_nI (n := N') (N := N' + 1) (by omega) (by omega)) (Or.inl h)) (nI_clamp (by omega)) (by show N' * 8 ≤ 536870912; omega) hcells hslots hdg (fun q cA H1 hK1 hP1 hD1 hS1 => ?_)
  have h1 : s.vm.findClass ("[" ++ FieldType.long.toString) = some cJ := (hK.2 1 _ rfl).2
  have h2 : s.vm.findClass ("[" ++ FieldType.long.toString) = some cA := (hK1.2 3 _ rfl).2
  cases Option.some.inj (h1.symm.trans h2)
  exact kk q H1 hP1 hD1 hS1
theorem ci_arrV {cA : ClassId} {N : Nat} {f g : Nat → Value} (h : ∀ j, j < N → f j = g j) : arrV cA N f = arrV cA N g := by
  have e : (fun j : Fin N => f j) = (fun j : Fin N => g j) := funext fun j => h j j.2
  unfold arrV
  rw [e]
theorem ci_pl (r : Nat → Nat) (f : Nat → va_E) (v : va_E) (n : Nat) : va_pl ((List.range n).map r) (vr_up f ((List.range n).map r) v) = (List.range n).map (fun i => (r i, v)) := by
  unfold va_pl
  rw [List.map_map]
  refine List.map_congr_left fun i hi => ?_
  show (r i, vr_up f ((List.range n).map r) v (r i)) = (r i, v)
  unfold vr_up
  rw [if_pos (List.mem_map.mpr ⟨i, hi, rfl⟩)]
theorem ci_mna (hexec : p.tables.exec = Jvm.exec) (hb : c.code = cc) {own : String} {index : Nat} (hown : s.vm.findClass own = some m.cls) (hclink : (Cond.classLink own index "[[I").before args s = true) (hN : ci_N s) (harr : (Cond.arrayClass .int).before args s = true) (hK : va_K D vwCl (fl_tys cI cJ cII) s) (hP : va_P D vwCl ws H) (hD : va_D A ws) (hS : va_S A H0 H locs) (hA : ∀ q, H0.size ≤ q → A q) {n k : Int32} (N' K' : Nat) (hn : n = nI N') (hk : k = nI K') (hN1 : N' ≤ 1000) (hN2 : K' ≤ 1000) (hcells : cells + (1 + N') ≤ R.cells) (hslots : slots + (N' + N' * K') ≤ R.slots) (hdg : decode cc pc = .ok (.multianewarray index 2, 4))
    (kk : ∀ (q : Nat) (r : Nat → Nat) (H1 : Heap), va_P D vwCl (ws ++ ((q, .inl (cII, N', .inr (.inr (.inr (.inr (fun i => some (r i))))))) :: ci_rows cI r N' K')) H1 → va_D A (ws ++ ((q, .inl (cII, N', .inr (.inr (.inr (.inr (fun i => some (r i))))))) :: ci_rows cI r N' K')) → va_S A H0 H1 locs → W p l e R s m args below meth c H1 locs (cells + 1 + N') (slots + N' + N' * K') Q (F0 m (pc + 4) ls (.ref q :: rest))) : W p l e R s m args below meth c H locs cells slots Q (F0 m pc ls (.int k :: .int n :: rest)) := by
  subst hn
  subst hk
  have h1 : s.vm.findClass (FieldType.array .int).toString = some cI := (hK.2 0 _ rfl).2
  refine va_mna (X := ws) (L := []) (f := fun _ => .inl (cI, 0, .inl (fun _ => 0))) (z := (K', .inl (fun _ => 0))) (ty := .int) (N' := N') (K' := K') hexec hb hown hclink hN.2.1 harr h1 hK (by rw [show va_pl [] _ = [] from rfl, List.append_nil]; exact hP) (by rw [show va_pl [] _ = [] from rfl, List.append_nil]; exact hD) hS hA (fun h => (vp_in_nI (n := N') (N := N' + 1) (by omega) (by omega)) (Or.inl h)) (fun h => (vp_in_nI (n := K') (N := K' + 1) (by omega) (by omega)) (Or.inl h)) (nI_clamp (by omega)) (nI_clamp (by omega)) (by omega) (by show K' * 4 ≤ 536870912; omega) (by omega) rfl rfl hcells hslots (fun _ => ?_) hdg (fun q r cA H1 hr1 hr2 hK1 hP1 hD1 hS1 => ?_)
  · simp [Jvm.Free.Multi.innerC, vp_cell, arrV, defaultValue, Array.ext_iff]
  · have h2 : s.vm.findClass ("[" ++ (FieldType.array .int).toString) = some cII := (hK.2 2 _ rfl).2
    have h3 : s.vm.findClass ("[" ++ (FieldType.array .int).toString) = some cA := (hK1.2 3 _ rfl).2
    cases Option.some.inj (h2.symm.trans h3)
    rw [List.nil_append, ci_pl, List.append_assoc, List.singleton_append] at hP1 hD1
    have key : ∀ (i : Nat) (z : Nat × va_E), (ws ++ ((q, .inl (cII, N', .inr (.inr (.inr (.inr (fun i => some (r i))))))) :: ci_rows cI r N' K'))[i]? = some z → ∃ z' : Nat × va_E, (ws ++ ((q, .inl (cII, N', .inr (.inr (.inr (.inr (fun i => if i < N' then some (r i) else none)))))) :: (List.range N').map (fun i => (r i, .inl (cI, K', .inl (fun _ => 0))))))[i]? = some z' ∧ z'.1 = z.1 ∧ (va_at D vwCl z' H1 → va_at D vwCl z H1) := by
      intro i z hz
      by_cases hi : i < ws.length
      · rw [List.getElem?_append_left hi] at hz ⊢
        exact ⟨z, hz, rfl, id⟩
      · rw [List.getElem?_append_right (by omega)] at hz ⊢
        rcases Nat.eq_zero_or_pos (i - ws.length) with h0 | h0
        · rw [h0] at hz ⊢
          cases Option.some.inj hz
          refine ⟨_, rfl, rfl, fun h => ?_⟩
          have e : vp_cell cII (N', .inr (.inr (.inr (.inr (fun i => if i < N' then some (r i) else none))))) = vp_cell cII (N', .inr (.inr (.inr (.inr (fun i => some (r i)))))) := by
            rw [vp_cell_q, vp_cell_q]
            exact ci_arrV fun j hj => by rw [if_pos hj]
          have h : H1[q]? = some (vp_cell cII (N', .inr (.inr (.inr (.inr (fun i => if i < N' then some (r i) else none)))))) := h
          rw [e] at h
          exact h
        · obtain ⟨d, hd⟩ : ∃ d, i - ws.length = d + 1 := ⟨i - ws.length - 1, by omega⟩
          rw [hd] at hz ⊢
          exact ⟨z, hz, rfl, id⟩
    refine kk q r H1 (fun i z hz => ?_) ⟨fun i j x y hi hj e => ?_, fun i z hz => ?_⟩ hS1
    · obtain ⟨z', a1, a2, a3⟩ := key i z hz
      exact a3 (hP1 i z' a1)
    · obtain ⟨x', a1, a2, a3⟩ := key i x hi
      obtain ⟨y', b1, b2, b3⟩ := key j y hj
      exact hD1.1 i j x' y' a1 b1 (a2.trans (e.trans b2.symm))
    · obtain ⟨z', a1, a2, a3⟩ := key i z hz
      rw [← a2]
      exact hD1.2 i z' a1
/-- the pool after a constructor's call: what stood before, with the new object's pool behind it -/
theorem ci_join {X rest' : va_W} {x : Nat} {e0 e1 : va_E} {H1 : Heap} (hP : va_P D vwCl (X ++ [(x, e0)]) H) (hD : va_D A (X ++ [(x, e0)])) (hP1 : va_P D vwCl ((x, e1) :: rest') H1) (hD1 : va_D (ci_A x H.size) ((x, e1) :: rest')) (hk : ∀ q : Nat, q < H.size → ¬ ci_A x H.size q → H1[q]? = H[q]?) (hS : va_S A H0 H locs) (hA : ∀ q, H0.size ≤ q → A q) : va_P D vwCl (X ++ ((x, e1) :: rest')) H1 ∧ va_D A (X ++ ((x, e1) :: rest')) := by
  have hx : (X ++ [(x, e0)])[X.length]? = some (x, e0) := by simp
  have hX : ∀ (k : Nat) (q : Nat × va_E), X[k]? = some q → (X ++ [(x, e0)])[k]? = some q ∧ k < X.length := fun k q hq => by
    have hl : k < X.length := (List.getElem?_eq_some_iff.mp hq).1
    exact ⟨by rw [List.getElem?_append_left hl]; exact hq, hl⟩
  have hlt : ∀ (k : Nat) (q : Nat × va_E), X[k]? = some q → q.1 < H.size ∧ q.1 ≠ x := fun k q hq => by
    obtain ⟨h1, h2⟩ := hX k q hq
    exact ⟨(hP k q h1).lt, fun h => absurd (hD.1 k X.length q (x, e0) h1 hx h) (by omega)⟩
  have hr : ∀ (k : Nat) (q : Nat × va_E), ((x, e1) :: rest')[k]? = some q → q.1 = x ∨ H.size ≤ q.1 := fun k q hq => hD1.2 k q hq
  have hX1 : va_P D vwCl X H1 := fun k q hq => (hP k q (hX k q hq).1).kept (hk q.1 (hlt k q hq).1 (fun h => h.elim (hlt k q hq).2 (fun h => Nat.lt_irrefl _ (Nat.lt_of_lt_of_le (hlt k q hq).1 h))))
  refine ⟨hX1.app hP1, fun i j p' q' hi hj e => ?_, fun k q hq => ?_⟩
  · by_cases hi1 : i < X.length
    · rw [List.getElem?_append_left hi1] at hi
      by_cases hj1 : j < X.length
      · rw [List.getElem?_append_left hj1] at hj
        exact hD.1 i j p' q' (hX i p' hi).1 (hX j q' hj).1 e
      · rw [List.getElem?_append_right (by omega)] at hj
        have h1 := hlt i p' hi
        have h2 := hr _ q' hj
        omega
    · rw [List.getElem?_append_right (by omega)] at hi
      by_cases hj1 : j < X.length
      · rw [List.getElem?_append_left hj1] at hj
        have h1 := hlt j q' hj
        have h2 := hr _ p' hi
        omega
      · rw [List.getElem?_append_right (by omega)] at hj
        have := hD1.1 _ _ p' q' hi hj e
        omega
  · by_cases hi1 : k < X.length
    · rw [List.getElem?_append_left hi1] at hq
      exact hD.2 k q (hX k q hq).1
    · rw [List.getElem?_append_right (by omega)] at hq
      rcases hr _ q hq with h | h
      · rw [h]; exact hD.2 X.length (x, e0) hx
      · exact hA _ (Nat.le_trans hS.1 h)
end CTR
