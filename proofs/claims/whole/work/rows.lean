section
-- ===== PART A: goes FIRST, ahead of the names: the tables' words, and 'selects' of the private methods out of them =====
/-- a private method of a class that the tables say can be made, by its rows of tables_1 -/
def lw_okq (q : MethodName × Nat) : Prop := (q.1.cls ≠ "java/lang/invoke/MethodHandle" ∧ q.1.cls ≠ "java/lang/invoke/VarHandle") ∧ Cond.instantiable q.1.cls q.2 ∈ tables_1 ∧ Cond.privateMethod q.1 ∈ tables_1 ∧ Cond.instanceMethod q.1 ∈ tables_1
theorem lw_p0 : lw_okq (⟨"ResampledRows$Draws", "next", "()J"⟩, 4) := ⟨⟨by decide +kernel, by decide +kernel⟩, List.mem_of_getElem? (i := 57) (by decide +kernel), List.mem_of_getElem? (i := 226) (by decide +kernel), List.mem_of_getElem? (i := 227) (by decide +kernel)⟩
theorem lw_p1 : lw_okq (⟨"ResampledRows$Run", "takeNextStatesAndWeights", "()V"⟩, 13) := ⟨⟨by decide +kernel, by decide +kernel⟩, List.mem_of_getElem? (i := 78) (by decide +kernel), List.mem_of_getElem? (i := 265) (by decide +kernel), List.mem_of_getElem? (i := 266) (by decide +kernel)⟩
theorem lw_p2 : lw_okq (⟨"ResampledRows$Picks", "pickEachByWeights", "(LResampledRows$Run;LResampledRows$Draws;)V"⟩, 2) := ⟨⟨by decide +kernel, by decide +kernel⟩, List.mem_of_getElem? (i := 84) (by decide +kernel), List.mem_of_getElem? (i := 294) (by decide +kernel), List.mem_of_getElem? (i := 295) (by decide +kernel)⟩
theorem lw_p3 : lw_okq (⟨"ResampledRows$Picks", "firstPickBehindKept", "(LResampledRows$Run;)I"⟩, 2) := ⟨⟨by decide +kernel, by decide +kernel⟩, List.mem_of_getElem? (i := 84) (by decide +kernel), List.mem_of_getElem? (i := 298) (by decide +kernel), List.mem_of_getElem? (i := 299) (by decide +kernel)⟩
theorem lw_p4 : lw_okq (⟨"ResampledRows$Picks", "add", "(I)V"⟩, 2) := ⟨⟨by decide +kernel, by decide +kernel⟩, List.mem_of_getElem? (i := 84) (by decide +kernel), List.mem_of_getElem? (i := 303) (by decide +kernel), List.mem_of_getElem? (i := 304) (by decide +kernel)⟩
theorem lw_p5 : lw_okq (⟨"ResampledRows$Picks", "pickWithDrawsOfTheirOwn", "(LResampledRows$Run;LResampledRows$Draws;)V"⟩, 2) := ⟨⟨by decide +kernel, by decide +kernel⟩, List.mem_of_getElem? (i := 84) (by decide +kernel), List.mem_of_getElem? (i := 308) (by decide +kernel), List.mem_of_getElem? (i := 309) (by decide +kernel)⟩
theorem lw_p6 : lw_okq (⟨"ResampledRows$Picks", "pickWithOneDraw", "(LResampledRows$Run;LResampledRows$Draws;)V"⟩, 2) := ⟨⟨by decide +kernel, by decide +kernel⟩, List.mem_of_getElem? (i := 84) (by decide +kernel), List.mem_of_getElem? (i := 315) (by decide +kernel), List.mem_of_getElem? (i := 316) (by decide +kernel)⟩
theorem lw_p7 : lw_okq (⟨"ResampledRows$Picks", "pickByPartsAndRests", "(LResampledRows$Run;LResampledRows$Draws;)V"⟩, 2) := ⟨⟨by decide +kernel, by decide +kernel⟩, List.mem_of_getElem? (i := 84) (by decide +kernel), List.mem_of_getElem? (i := 319) (by decide +kernel), List.mem_of_getElem? (i := 320) (by decide +kernel)⟩
theorem lw_p8 : lw_okq (⟨"ResampledRows$Picks", "putIn", "(II)V"⟩, 2) := ⟨⟨by decide +kernel, by decide +kernel⟩, List.mem_of_getElem? (i := 84) (by decide +kernel), List.mem_of_getElem? (i := 323) (by decide +kernel), List.mem_of_getElem? (i := 324) (by decide +kernel)⟩
theorem lw_p9 : lw_okq (⟨"ResampledRows$Run", "becomePicked", "()V"⟩, 13) := ⟨⟨by decide +kernel, by decide +kernel⟩, List.mem_of_getElem? (i := 78) (by decide +kernel), List.mem_of_getElem? (i := 331) (by decide +kernel), List.mem_of_getElem? (i := 332) (by decide +kernel)⟩
theorem lw_p10 : lw_okq (⟨"ResampledRows$Run", "firstThatWas", "(I)I"⟩, 13) := ⟨⟨by decide +kernel, by decide +kernel⟩, List.mem_of_getElem? (i := 78) (by decide +kernel), List.mem_of_getElem? (i := 342) (by decide +kernel), List.mem_of_getElem? (i := 343) (by decide +kernel)⟩
theorem lw_p11 : lw_okq (⟨"java/lang/Throwable", "fillInStackTrace", "(I)Ljava/lang/Throwable;"⟩, 6) := ⟨⟨by decide +kernel, by decide +kernel⟩, List.mem_of_getElem? (i := 447) (by decide +kernel), List.mem_of_getElem? (i := 445) (by decide +kernel), List.mem_of_getElem? (i := 446) (by decide +kernel)⟩
theorem lw_p12 : lw_okq (⟨"ResampledRowsModel", "beginAll", "()V"⟩, 23) := ⟨⟨by decide +kernel, by decide +kernel⟩, List.mem_of_getElem? (i := 500) (by decide +kernel), List.mem_of_getElem? (i := 506) (by decide +kernel), List.mem_of_getElem? (i := 507) (by decide +kernel)⟩
theorem lw_p13 : lw_okq (⟨"ResampledRowsModel", "noRun", "()V"⟩, 23) := ⟨⟨by decide +kernel, by decide +kernel⟩, List.mem_of_getElem? (i := 500) (by decide +kernel), List.mem_of_getElem? (i := 510) (by decide +kernel), List.mem_of_getElem? (i := 511) (by decide +kernel)⟩
theorem lw_p14 : lw_okq (⟨"ResampledRowsModel", "drawBy", "(I)I"⟩, 23) := ⟨⟨by decide +kernel, by decide +kernel⟩, List.mem_of_getElem? (i := 500) (by decide +kernel), List.mem_of_getElem? (i := 623) (by decide +kernel), List.mem_of_getElem? (i := 624) (by decide +kernel)⟩
theorem lw_p15 : lw_okq (⟨"ResampledRowsModel", "sumBy", "(I)J"⟩, 23) := ⟨⟨by decide +kernel, by decide +kernel⟩, List.mem_of_getElem? (i := 500) (by decide +kernel), List.mem_of_getElem? (i := 627) (by decide +kernel), List.mem_of_getElem? (i := 628) (by decide +kernel)⟩
def lw_privs_1 : List (MethodName × Nat) := [(⟨"ResampledRows$Draws", "next", "()J"⟩, 4), (⟨"ResampledRows$Run", "takeNextStatesAndWeights", "()V"⟩, 13), (⟨"ResampledRows$Picks", "pickEachByWeights", "(LResampledRows$Run;LResampledRows$Draws;)V"⟩, 2), (⟨"ResampledRows$Picks", "firstPickBehindKept", "(LResampledRows$Run;)I"⟩, 2), (⟨"ResampledRows$Picks", "add", "(I)V"⟩, 2), (⟨"ResampledRows$Picks", "pickWithDrawsOfTheirOwn", "(LResampledRows$Run;LResampledRows$Draws;)V"⟩, 2), (⟨"ResampledRows$Picks", "pickWithOneDraw", "(LResampledRows$Run;LResampledRows$Draws;)V"⟩, 2), (⟨"ResampledRows$Picks", "pickByPartsAndRests", "(LResampledRows$Run;LResampledRows$Draws;)V"⟩, 2), (⟨"ResampledRows$Picks", "putIn", "(II)V"⟩, 2), (⟨"ResampledRows$Run", "becomePicked", "()V"⟩, 13), (⟨"ResampledRows$Run", "firstThatWas", "(I)I"⟩, 13), (⟨"java/lang/Throwable", "fillInStackTrace", "(I)Ljava/lang/Throwable;"⟩, 6), (⟨"ResampledRowsModel", "beginAll", "()V"⟩, 23), (⟨"ResampledRowsModel", "noRun", "()V"⟩, 23), (⟨"ResampledRowsModel", "drawBy", "(I)I"⟩, 23), (⟨"ResampledRowsModel", "sumBy", "(I)J"⟩, 23)]
theorem lw_r1 : ∀ q ∈ lw_privs_1, lw_okq q := List.forall_mem_cons.mpr ⟨lw_p0, List.forall_mem_cons.mpr ⟨lw_p1, List.forall_mem_cons.mpr ⟨lw_p2, List.forall_mem_cons.mpr ⟨lw_p3, List.forall_mem_cons.mpr ⟨lw_p4, List.forall_mem_cons.mpr ⟨lw_p5, List.forall_mem_cons.mpr ⟨lw_p6, List.forall_mem_cons.mpr ⟨lw_p7, List.forall_mem_cons.mpr ⟨lw_p8, List.forall_mem_cons.mpr ⟨lw_p9, List.forall_mem_cons.mpr ⟨lw_p10, List.forall_mem_cons.mpr ⟨lw_p11, List.forall_mem_cons.mpr ⟨lw_p12, List.forall_mem_cons.mpr ⟨lw_p13, List.forall_mem_cons.mpr ⟨lw_p14, List.forall_mem_cons.mpr ⟨lw_p15, fun _ h => absurd h List.not_mem_nil⟩⟩⟩⟩⟩⟩⟩⟩⟩⟩⟩⟩⟩⟩⟩⟩
theorem lw_p16 : lw_okq (⟨"ResampledRowsModel", "draw", "(J)J"⟩, 23) := ⟨⟨by decide +kernel, by decide +kernel⟩, List.mem_of_getElem? (i := 500) (by decide +kernel), List.mem_of_getElem? (i := 631) (by decide +kernel), List.mem_of_getElem? (i := 632) (by decide +kernel)⟩
theorem lw_p17 : lw_okq (⟨"ResampledRowsModel", "isRow", "(I)Z"⟩, 23) := ⟨⟨by decide +kernel, by decide +kernel⟩, List.mem_of_getElem? (i := 500) (by decide +kernel), List.mem_of_getElem? (i := 643) (by decide +kernel), List.mem_of_getElem? (i := 644) (by decide +kernel)⟩
theorem lw_p18 : lw_okq (⟨"ResampledRowsModel", "drawAnew", "(I)I"⟩, 23) := ⟨⟨by decide +kernel, by decide +kernel⟩, List.mem_of_getElem? (i := 500) (by decide +kernel), List.mem_of_getElem? (i := 657) (by decide +kernel), List.mem_of_getElem? (i := 658) (by decide +kernel)⟩
theorem lw_p19 : lw_okq (⟨"ResampledRowsModel", "total", "()J"⟩, 23) := ⟨⟨by decide +kernel, by decide +kernel⟩, List.mem_of_getElem? (i := 500) (by decide +kernel), List.mem_of_getElem? (i := 661) (by decide +kernel), List.mem_of_getElem? (i := 662) (by decide +kernel)⟩
theorem lw_p20 : lw_okq (⟨"ResampledRowsModel", "pickBy", "(IJ)V"⟩, 23) := ⟨⟨by decide +kernel, by decide +kernel⟩, List.mem_of_getElem? (i := 500) (by decide +kernel), List.mem_of_getElem? (i := 665) (by decide +kernel), List.mem_of_getElem? (i := 666) (by decide +kernel)⟩
theorem lw_p21 : lw_okq (⟨"ResampledRowsModel", "pick", "(I)V"⟩, 23) := ⟨⟨by decide +kernel, by decide +kernel⟩, List.mem_of_getElem? (i := 500) (by decide +kernel), List.mem_of_getElem? (i := 669) (by decide +kernel), List.mem_of_getElem? (i := 670) (by decide +kernel)⟩
theorem lw_p22 : lw_okq (⟨"ResampledRowsModel", "rowAt", "(J)I"⟩, 23) := ⟨⟨by decide +kernel, by decide +kernel⟩, List.mem_of_getElem? (i := 500) (by decide +kernel), List.mem_of_getElem? (i := 673) (by decide +kernel), List.mem_of_getElem? (i := 674) (by decide +kernel)⟩
theorem lw_p23 : lw_okq (⟨"ResampledRowsModel", "pickWhole", "(J)V"⟩, 23) := ⟨⟨by decide +kernel, by decide +kernel⟩, List.mem_of_getElem? (i := 500) (by decide +kernel), List.mem_of_getElem? (i := 677) (by decide +kernel), List.mem_of_getElem? (i := 678) (by decide +kernel)⟩
theorem lw_p24 : lw_okq (⟨"ResampledRowsModel", "squares", "()J"⟩, 23) := ⟨⟨by decide +kernel, by decide +kernel⟩, List.mem_of_getElem? (i := 500) (by decide +kernel), List.mem_of_getElem? (i := 686) (by decide +kernel), List.mem_of_getElem? (i := 687) (by decide +kernel)⟩
def lw_privs_2 : List (MethodName × Nat) := [(⟨"ResampledRowsModel", "draw", "(J)J"⟩, 23), (⟨"ResampledRowsModel", "isRow", "(I)Z"⟩, 23), (⟨"ResampledRowsModel", "drawAnew", "(I)I"⟩, 23), (⟨"ResampledRowsModel", "total", "()J"⟩, 23), (⟨"ResampledRowsModel", "pickBy", "(IJ)V"⟩, 23), (⟨"ResampledRowsModel", "pick", "(I)V"⟩, 23), (⟨"ResampledRowsModel", "rowAt", "(J)I"⟩, 23), (⟨"ResampledRowsModel", "pickWhole", "(J)V"⟩, 23), (⟨"ResampledRowsModel", "squares", "()J"⟩, 23)]
theorem lw_r2 : ∀ q ∈ lw_privs_2, lw_okq q := List.forall_mem_cons.mpr ⟨lw_p16, List.forall_mem_cons.mpr ⟨lw_p17, List.forall_mem_cons.mpr ⟨lw_p18, List.forall_mem_cons.mpr ⟨lw_p19, List.forall_mem_cons.mpr ⟨lw_p20, List.forall_mem_cons.mpr ⟨lw_p21, List.forall_mem_cons.mpr ⟨lw_p22, List.forall_mem_cons.mpr ⟨lw_p23, List.forall_mem_cons.mpr ⟨lw_p24, fun _ h => absurd h List.not_mem_nil⟩⟩⟩⟩⟩⟩⟩⟩⟩
def lw_privs : List (MethodName × Nat) := lw_privs_1 ++ (lw_privs_2)
def lw_tbl : List Cond := k2_sels lw_privs ++ tables_1
theorem lw_privs_ok : ∀ q ∈ lw_privs, lw_okq q := by
  show ∀ q ∈ lw_privs_1 ++ (lw_privs_2), lw_okq q
  exact List.forall_mem_append.mpr ⟨lw_r1, lw_r2⟩
/-- the streams that the claim lets the run draw from -/
abbrev lw_cs : List Choice := [Jvm.Choice.named "NaN.bits"]
theorem lw_bits : nanBits ∈ lw_cs := by first | decide | exact List.mem_cons_self | simp [lw_cs, nanBits]
end
section
/-! ===== BEGIN words of one list among another's, by their places ===== -/
theorem goodIn_r {big : List Cond} (ws : List Cond) (ps : List Nat) (hp : ws = ps.filterMap (fun i => big[i]?)) (h : ws.all goodWord = true) : GoodIn big ws := by
  intro w hw
  have h1 := List.all_eq_true.mp h w hw
  rw [hp] at hw
  obtain ⟨i, -, hi⟩ := List.mem_filterMap.mp hw
  have hm : w ∈ big := by first | exact List.mem_of_getElem? hi | exact List.getElem?_mem hi
  exact ⟨hm, good_of_word h1⟩
theorem goodIn_app {big a b : List Cond} (ha : GoodIn big a) (hb : GoodIn big b) : GoodIn big (a ++ b) := fun w h => (List.mem_append.mp h).elim (ha w) (hb w)
theorem goodIn_ca {big a b : List Cond} {c : Cond} (ha : GoodIn big (c :: a)) (hb : GoodIn big b) : GoodIn big (c :: (a ++ b)) := fun w h => (List.mem_cons.mp h).elim (fun e => ha w (List.mem_cons.mpr (Or.inl e))) (fun h => (List.mem_append.mp h).elim (fun h => ha w (List.mem_cons.mpr (Or.inr h))) (hb w))
theorem goodIn_sub {big ws : List Cond} (hm : ∀ w ∈ ws, w ∈ big) (h : ws.all goodWord = true) : GoodIn big ws := fun w hw => ⟨hm w hw, good_of_word (List.all_eq_true.mp h w hw)⟩
/-! ===== END ===== -/

/-! ===== BEGIN new T[n][m]: the outer array a place, the inner ones among the pooled ===== -/
/-- f, but v at every address of l -/
def vr_up {α : Type} (f : Nat → α) (l : List Nat) (v : α) : Nat → α := fun a => if a ∈ l then v else f a
theorem vr_up_in {α : Type} {f : Nat → α} {l : List Nat} {v : α} {a : Nat} (h : a ∈ l) : vr_up f l v a = v := if_pos h
theorem vr_up_ne {α : Type} {f : Nat → α} {l : List Nat} {v : α} {a : Nat} (h : a ∉ l) : vr_up f l v a = f a := if_neg h
theorem vr_rows {L l : List Nat} {f : Nat → va_E} {e : va_E} (h : ∀ a, a ∈ l → a ∉ L) : va_pl L f ++ l.map (fun a => (a, e)) = va_pl (L ++ l) (vr_up f l e) := by
  unfold va_pl
  rw [List.map_append]
  congr 1
  · apply List.map_congr_left
    intro a ha
    rw [vr_up_ne (fun q => h a q ha)]
  · apply List.map_congr_left
    intro a ha
    rw [vr_up_in ha]
theorem vr_lay {X rows : va_W} {x : Nat × va_E} {pl : va_W} {D : va_G} {cl : List vw_C} {H : Heap} (hP : va_P D cl (((X ++ pl) ++ [x]) ++ rows) H) : va_P D cl ((X ++ [x]) ++ (pl ++ rows)) H := by
  rw [List.append_assoc (X ++ pl)] at hP
  have h := va_P.swap hP
  rw [← List.append_assoc X] at h
  have h2 := va_P.swap h
  rw [List.append_assoc (X ++ [x])] at h2
  exact h2
theorem vr_layD {X rows : va_W} {x : Nat × va_E} {pl : va_W} {A : Nat → Prop} (hD : va_D A (((X ++ pl) ++ [x]) ++ rows)) : va_D A ((X ++ [x]) ++ (pl ++ rows)) := by
  rw [List.append_assoc (X ++ pl)] at hD
  have h := va_D.swap hD
  rw [← List.append_assoc X] at h
  have h2 := va_D.swap h
  rw [List.append_assoc (X ++ [x])] at h2
  exact h2
theorem vr_outer (c : ClassId) (N h0 : Nat) : ∀ i : Nat, Jvm.Free.Multi.outerC c N h0 i = arrV c N (fun j => va_rf (if j < i then some (h0 + 1 + j) else none))
  | 0 => by
    show ({ cls := c, slots := Array.replicate N .null, vm := .none } : Cell) = _
    rw [arrV_new]
    refine congrArg (arrV c N) (funext fun j => ?_)
    simp [va_rf]
  | i + 1 => by
    show (Jvm.Free.Multi.outerC c N h0 i).setSlot i (.ref (h0 + 1 + i)) = _
    rw [vr_outer c N h0 i, arrV_store]
    refine congrArg (arrV c N) (funext fun j => ?_)
    by_cases e : j = i
    · subst e
      simp [updV, va_rf]
    · by_cases h : j < i
      · simp [updV, e, h, Nat.lt_succ_of_lt h]
      · simp [updV, e, h, show ¬ j < i + 1 by omega]
/-- int[][]: the tables have its class -/
def va_AOA (ty : FieldType) (U : State) : Prop := (Cond.arrayOver (.array ty)).before #[] U = true
theorem va_AOA.of {ty : FieldType} {A : Array Value} {U : State} (h : (Cond.arrayOver (.array ty)).before A U = true) : va_AOA ty U := h
theorem va_AOA.use {ty : FieldType} {A : Array Value} {U : State} (h : va_AOA ty U) : (Cond.arrayOver (.array ty)).before A U = true := h
section VGM
variable {p : Program} {l : Launch} {e : Env} {R : Room} {s : State} {m : MethodId} {args : Array Value} {below : List Frame} {meth : Method} {c : Code} {H : Heap} {locs : List Loc} {cells slots : Nat} {Q : State → Prop}
variable {cc : ByteArray} {pc : Nat} {ls : Array Slot} {rest : List Value} {D : va_G} {cl : List vw_C} {A : Nat → Prop} {a : Nat} {tys : List (ClassId × FieldType)} {ws : va_W} {H0 : Heap}
theorem va_mna {X : va_W} {L : List Nat} {f : Nat → va_E} {cc : ByteArray} (hexec : p.tables.exec = Jvm.exec) (hb : c.code = cc) {own : String} {index : Nat} {ty : FieldType} {cy : ClassId} (hown : s.vm.findClass own = some m.cls) (hclink : (Cond.classLink own index ("[" ++ (FieldType.array ty).toString)).before args s = true) (hover : va_AOA ty s) (harr : (Cond.arrayClass ty).before args s = true) (hcy : s.vm.findClass (FieldType.array ty).toString = some cy)
    (hK : va_K D cl tys s) (hP : va_P D cl (X ++ va_pl L f) H) (hD : va_D A (X ++ va_pl L f)) (hS : va_S A H0 H locs) (hA : ∀ q, H0.size ≤ q → A q) {n k : Int32} {N' K' : Nat} {z : vp_A} (hn : ¬ n < 0) (hk : ¬ k < 0) (hN : n.toNatClampNeg = N') (hM : k.toNatClampNeg = K')
    (hb1 : N' * 4 ≤ 536870912) (hb2 : K' * componentBytes ty ≤ 536870912) (hb3 : K' ≤ 536870912) (hdf : fits ty (defaultValue ty) = true) (hdd : (defaultValue ty).isDefault = true) (hcells : cells + (1 + N') ≤ R.cells) (hslots : slots + (N' + N' * K') ≤ R.slots) (hz : ∀ c : ClassId, Jvm.Free.Multi.innerC c K' (defaultValue ty) = vp_cell c z) (hdg : decode cc pc = .ok (.multianewarray index 2, 4))
    (kk : ∀ (q : Nat) (r : Nat → Nat) (cA : ClassId) (H1 : Heap), (∀ i j : Nat, i < N' → j < N' → r i = r j → i = j) → (∀ i : Nat, i < N' → r i ∉ L) → va_K D cl (tys ++ [(cA, .array ty)]) s →
      va_P D cl ((X ++ [(q, .inl (cA, N', .inr (.inr (.inr (.inr (fun i => if i < N' then some (r i) else none))))))]) ++ va_pl (L ++ (List.range N').map r) (vr_up f ((List.range N').map r) (.inl (cy, z)))) H1 → va_D A ((X ++ [(q, .inl (cA, N', .inr (.inr (.inr (.inr (fun i => if i < N' then some (r i) else none))))))]) ++ va_pl (L ++ (List.range N').map r) (vr_up f ((List.range N').map r) (.inl (cy, z)))) → va_S A H0 H1 locs →
      W p l e R s m args below meth c H1 locs (cells + 1 + N') (slots + N' + N' * K') Q (F0 m (pc + 4) ls (.ref q :: rest))) : W p l e R s m args below meth c H locs cells slots Q (F0 m pc ls (.int k :: .int n :: rest)) := by
  subst hN
  subst hM
  intro T hT Xs
  obtain ⟨vm₁, cA, comp, -, fA, fC, hO, -, X', step⟩ := Xs.multianewarray2F hexec hown hclink (va_AOA.use hover) harr (g := F0 m pc ls (.int k :: .int n :: rest)) rfl (by rw [hb]; exact hdg) rfl hn hk hb1 hb2 hb3 hdf hdd hcells hslots
  have ec : some cy = some comp := hcy.symm.trans fC
  cases ec
  generalize hF : Jvm.Free.Multi.fill (T.setVm vm₁) cA cy n.toNatClampNeg k.toNatClampNeg (defaultValue ty) n.toNatClampNeg = F at X' step
  have hTh : (T.setVm vm₁).heap = H := hT
  obtain ⟨f1, f2, -, -⟩ := Jvm.Free.Multi.fill_facts (T.setVm vm₁) cA cy n.toNatClampNeg k.toNatClampNeg (defaultValue ty) n.toNatClampNeg
  rw [hF, hTh] at f1 f2
  have hold : ∀ x : Nat, x < H.size → F.heap[x]? = H[x]? := fun x hx => by
    have := Jvm.Free.Multi.fill_old (T.setVm vm₁) cA cy n.toNatClampNeg k.toNatClampNeg (defaultValue ty) (a := x) (by rw [hTh]; exact hx) n.toNatClampNeg
    rw [hF, hTh] at this
    exact this
  have hrow : ∀ j : Nat, j < n.toNatClampNeg → F.heap[H.size + 1 + j]? = some (vp_cell cy z) := fun j hj => by
    have := Jvm.Free.Multi.fill_inner (T.setVm vm₁) cA cy n.toNatClampNeg k.toNatClampNeg (defaultValue ty) n.toNatClampNeg j hj
    rw [hF, hTh, hz] at this
    exact this
  have hout : Jvm.Free.Multi.outerC cA n.toNatClampNeg H.size n.toNatClampNeg = vp_cell cA (n.toNatClampNeg, .inr (.inr (.inr (.inr (fun i => if i < n.toNatClampNeg then some (H.size + 1 + i) else none))))) := by
    rw [vp_cell_q]
    exact vr_outer cA n.toNatClampNeg H.size n.toNatClampNeg
  rw [hout] at f2
  have hlt : ∀ a, a ∈ L → a < H.size := fun a ha => by
    obtain ⟨k9, hk9⟩ := va_pl_get (X := X) (f := f) ha
    exact (hP k9 _ hk9).lt
  have hnl : ∀ i : Nat, i < n.toNatClampNeg → H.size + 1 + i ∉ L := fun i _ h => by
    have := hlt _ h
    omega
  have hnm : ∀ a, a ∈ (List.range n.toNatClampNeg).map (fun i => H.size + 1 + i) → a ∉ L := fun a ha h => by
    obtain ⟨i, -, rfl⟩ := List.mem_map.mp ha
    have := hlt _ h
    omega
  have hP0 : va_P D cl (X ++ va_pl L f) F.heap := hP.kept (fun k9 x hx => hold x.1 ((hP k9 x hx).lt))
  have hP1 : va_P D cl ((X ++ va_pl L f) ++ [(H.size, .inl (cA, n.toNatClampNeg, .inr (.inr (.inr (.inr (fun i => if i < n.toNatClampNeg then some (H.size + 1 + i) else none))))))]) F.heap := hP0.app (fun k9 x hx => by
    have h0 : k9 < 1 := (List.getElem?_eq_some_iff.mp hx).1
    rw [show k9 = 0 by omega] at hx
    cases hx
    exact f2)
  have hP2 : va_P D cl (((X ++ va_pl L f) ++ [(H.size, .inl (cA, n.toNatClampNeg, .inr (.inr (.inr (.inr (fun i => if i < n.toNatClampNeg then some (H.size + 1 + i) else none))))))]) ++ ((List.range n.toNatClampNeg).map (fun i => H.size + 1 + i)).map (fun a => (a, .inl (cy, z)))) F.heap := hP1.app (fun k9 x hx => by
    obtain ⟨a, ha, rfl⟩ := List.mem_map.mp (List.mem_of_getElem? hx)
    obtain ⟨i, hi, rfl⟩ := List.mem_map.mp ha
    exact hrow i (List.mem_range.mp hi))
  have hD2 : va_D A (((X ++ va_pl L f) ++ [(H.size, .inl (cA, n.toNatClampNeg, .inr (.inr (.inr (.inr (fun i => if i < n.toNatClampNeg then some (H.size + 1 + i) else none))))))]) ++ ((List.range n.toNatClampNeg).map (fun i => H.size + 1 + i)).map (fun a => (a, .inl (cy, z)))) := by
    have hD1 := hD.push (e := .inl (cA, n.toNatClampNeg, .inr (.inr (.inr (.inr (fun i => if i < n.toNatClampNeg then some (H.size + 1 + i) else none)))))) hP rfl (hA _ hS.1)
    generalize hW1 : (X ++ va_pl L f) ++ [(H.size, .inl (cA, n.toNatClampNeg, .inr (.inr (.inr (.inr (fun i => if i < n.toNatClampNeg then some (H.size + 1 + i) else none))))))] = W1 at hD1 hP1 ⊢
    have hle : ∀ (k9 : Nat) (x : Nat × va_E), W1[k9]? = some x → x.1 ≤ H.size := fun k9 x hx => by
      rw [← hW1] at hx
      by_cases hl : k9 < (X ++ va_pl L f).length
      · rw [List.getElem?_append_left hl] at hx
        exact Nat.le_of_lt ((hP k9 x hx).lt)
      · rw [List.getElem?_append_right (by omega)] at hx
        have h0 : k9 - (X ++ va_pl L f).length < 1 := (List.getElem?_eq_some_iff.mp hx).1
        rw [show k9 - (X ++ va_pl L f).length = 0 by omega] at hx
        cases hx
        exact Nat.le_refl _
    have hr : ∀ (k9 : Nat) (x : Nat × va_E), (((List.range n.toNatClampNeg).map (fun i => H.size + 1 + i)).map (fun a => ((a, .inl (cy, z)) : Nat × va_E)))[k9]? = some x → x.1 = H.size + 1 + k9 := fun k9 x hx => by
      rw [List.getElem?_map, List.getElem?_map] at hx
      by_cases h9 : k9 < n.toNatClampNeg
      · rw [List.getElem?_range h9] at hx
        cases hx
        rfl
      · have hn0 : (List.range n.toNatClampNeg)[k9]? = none := List.getElem?_eq_none (by rw [List.length_range]; omega)
        rw [hn0] at hx
        cases hx
    refine ⟨fun i j x y hi hj hxy => ?_, fun k9 x hx => ?_⟩
    · by_cases h1 : i < W1.length <;> by_cases h2 : j < W1.length
      · rw [List.getElem?_append_left h1] at hi
        rw [List.getElem?_append_left h2] at hj
        exact hD1.1 i j x y hi hj hxy
      · rw [List.getElem?_append_left h1] at hi
        rw [List.getElem?_append_right (by omega)] at hj
        have := hle _ _ hi
        have := hr _ _ hj
        omega
      · rw [List.getElem?_append_right (by omega)] at hi
        rw [List.getElem?_append_left h2] at hj
        have := hle _ _ hj
        have := hr _ _ hi
        omega
      · rw [List.getElem?_append_right (by omega)] at hi hj
        have := hr _ _ hi
        have := hr _ _ hj
        omega
    · by_cases h1 : k9 < W1.length
      · rw [List.getElem?_append_left h1] at hx
        exact hD1.2 k9 x hx
      · rw [List.getElem?_append_right (by omega)] at hx
        have := hr _ _ hx
        exact hA _ (by have := hS.1; omega)
  have hAr : ArrOfT s cA (.array ty) := fun N9 z9 => by
    obtain ⟨-, k9, hk9, cm9, hkk9⟩ := (hO 0 0 0).1
    exact ⟨(fun q hq => by cases hq), k9, hk9, cm9, hkk9⟩
  have hK2 : va_K D cl (tys ++ [(cA, .array ty)]) s := ⟨hK.1, fun k9 x hx => by
    by_cases hl : k9 < tys.length
    · rw [List.getElem?_append_left hl] at hx
      exact hK.2 k9 x hx
    · rw [List.getElem?_append_right (by omega)] at hx
      have h0 : k9 - tys.length < 1 := (List.getElem?_eq_some_iff.mp hx).1
      rw [show k9 - tys.length = 0 by omega] at hx
      cases hx
      exact ⟨hAr, fA⟩⟩
  obtain ⟨t, a1, b1⟩ := kk H.size (fun i => H.size + 1 + i) cA F.heap (fun i j _ _ h => by have h9 : H.size + 1 + i = H.size + 1 + j := h; omega) hnl hK2 (by rw [← vr_rows hnm]; exact vr_lay hP2) (by rw [← vr_rows hnm]; exact vr_layD hD2) ⟨by rw [f1]; have := hS.1; omega, fun x h1 h2 => (hold x (Nat.lt_of_lt_of_le h1 hS.1)).trans (hS.2.1 x h1 h2), hS.2.2⟩ F rfl X'
  refine ⟨t, step t ?_, b1⟩
  have e : T.heap.size = H.size := by rw [hT]
  rw [e]
  exact a1
end VGM
/-! ===== END ===== -/

/-! ===== BEGIN exceptions that leave a method, and their catching by the caller (launches without stack traces) ===== -/
section VXA
/-! The laws vx_back, vx_callV, vx_callS, vx_callSW, vx_throw0, vx_throwS follow proofs of the library, with one case more: JvmDerived/Free/Laws.lean (Back.of_free), Shelf42/LK1.lean (callV, callS), Shelf/KitTraced.lean (throwNew0V, throwNewS). -/
/-- where a method has thrown q: the class by its name, the cell, what was written, the world -/
def vx_T (XC : String → State → State → Prop) (st : State) (q : Addr) (t : State) (mc ms : Nat) (free : Addr → Prop) : Prop :=
  ∃ (E : String) (ce : Cell) (L : List Loc), XC E st t ∧ t.heap[q]? = some ce ∧ ce.vm = .none ∧ st.vm.findClass E = some ce.cls ∧ st.WarmedH t.vm ∧ st.sameButNew ({ t with vm := st.vm } : State) L mc ms ∧ ∀ z ∈ L, free z.base
def vx_Q (Qc : Array Value → State → Outcome → State → Prop) (XC : String → State → State → Prop) (mc ms : Nat) (free : Addr → Prop) : Array Value → State → Outcome → State → Prop := fun a st o t =>
  (Qc a st o t ∧ ∃ L, FrameEnd st o t L mc ms ∧ ∀ q ∈ L, free q.base) ∨ ∃ q, o = .threw q ∧ vx_T XC st q t mc ms free
/-- a callee that returns or throws -/
def vx_Met (l : Launch) (y : MethodName) (ws : List Cond) (rm : Room) (Pc : Array Value → State → Prop) (Qc : Array Value → State → Outcome → State → Prop) (XC : String → State → State → Prop) (mc ms : Nat) (free : Addr → Prop) : Prop :=
  MetFree l y (headSpec ws rm) Pc (fun _ _ _ _ _ => True) (vx_Q Qc XC mc ms free)
def vx_Post (XC : String → State → State → Prop) (mc ms : Nat) (free : Addr → Prop) : Pt → Array Value → Addr → Pt → Prop := fun A a q B =>
  ∃ (g : JFrame) (mk : MethodId) (t : State) (L : List Loc) (E : String) (ce : Cell), B.U.heap = t.heap ∧ B.U.vm = t.vm ∧ XC E (A.U.calling g mk a) t ∧ t.heap[q]? = some ce ∧ ce.vm = .none ∧ A.U.vm.findClass E = some ce.cls ∧ B.locs = A.locs ++ L ∧ (∀ z ∈ L, free z.base) ∧ B.cells = A.cells + mc ∧ B.slots = A.slots + ms
def vx_Back (l : Launch) (R : Room) (p : Program) (e : Env) (below : List Frame) (s : State) (sargs : Array Value) (y : MethodName) (len W9 : Nat)
    (Pre : Pt → Array Value → Prop) (Post : Pt → Array Value → Option Value → Pt → Prop) (PostX : Pt → Array Value → Addr → Pt → Prop) : Prop :=
  ∀ (m : MethodId) (meth : Method) (c : Code) (A : Pt) (g : JFrame) (ig : Instr) (mk : MethodId) (a : Array Value),
    Stand p l e R s m sargs below meth c A.U A.locs A.cells A.slots → g.method = m → g.locals.size = c.maxLocals → decode c.code g.pc = .ok (ig, len) →
    2 * g.monitorRoom + (g.stack.map fun v => v.category).sum ≤ W9 → A.U.methodNamed? y = some mk → Pre A a →
    (∃ (v : Option Value) (B : Pt), Stand p l e R s m sargs below meth c B.U B.locs B.cells B.slots ∧ Post A a v B ∧
      Steps p.tables e below (doInvoke e (A.U.setTop g) [] mk a).1 (B.U.setTop { g with pc := g.pc + len, stack := v.toList ++ g.stack })) ∨
    (∃ (q : Addr) (B : Pt), Stand p l e R s m sargs below meth c B.U B.locs B.cells B.slots ∧ PostX A a q B ∧
      Steps p.tables e below (doInvoke e (A.U.setTop g) [] mk a).1 ((B.U.setTop g).pushFrame (.throwing q)))
section Payer
variable {l : Launch} {R : Room} {p : Program} {e : Env} {below : List Frame} {s : State} {sargs : Array Value} {y : MethodName} {len W9 : Nat}
theorem vx_back {ws : List Cond} {rm : Room} {Pc : Array Value → State → Prop} {Qc : Array Value → State → Outcome → State → Prop} {XC : String → State → State → Prop} {mc ms : Nat} {free : Addr → Prop} {bytes : ByteArray} {maxL : Nat} {ret : Option FieldType}
    (hM : vx_Met l y ws rm Pc Qc XC mc ms free) (hblind : FrameBlind Pc) (hrc : rm.cells = mc) (hrs : rm.slots = ms)
    (hframes : rm.frames + 1 ≤ R.frames) (hlocals : W9 + (maxL + 11) + rm.locals ≤ R.locals)
    (hws : ∀ w ∈ ws, ∀ a' U, s.WarmedH U.vm → w.before a' U = true) (hcode : Cond.code y bytes maxL ret ∈ ws) (hinit : ∀ a' U, s.WarmedH U.vm → (Cond.initialized y.cls).before a' U = true) :
    vx_Back l R p e below s sargs y len W9 (PreOf R mc ms Pc) (PostOf Qc mc ms free) (vx_Post XC mc ms free) := by
  intro m meth c A g ig mk a X hg hsize hdg hW hn hp
  have h1 : (headSpec ws rm).pre.before a A.U = true := atoms_intro fun w hw => hws w hw _ _ X.warmed
  have h2 : (Cond.code y bytes maxL ret).before a A.U = true := hws _ hcode _ _ X.warmed
  have h3 : (Cond.initialized y.cls).before a A.U = true := hinit _ _ X.warmed
  have h4 : A.cells + (headSpec ws rm).room.cells ≤ R.cells := by rw [show (headSpec ws rm).room.cells = mc from hrc]; exact hp.1
  have h5 : A.slots + (headSpec ws rm).room.slots ≤ R.slots := by rw [show (headSpec ws rm).room.slots = ms from hrs]; exact hp.2.1
  have hPc : Pc a (A.U.calling g mk a) := hblind _ _ _ _ hp.2.2
  obtain ⟨U, Ls, c0, s0⟩ := A
  dsimp only [Pt.U, Pt.locs, Pt.cells, Pt.slots] at h1 h2 h3 h4 h5 X hn hPc ⊢
  obtain ⟨methY, cY, hmY, hcY, -, hlY, -, -, -, -⟩ := Cond.code_spec hn h2
  obtain ⟨kY, hkY, -⟩ := className_of_methodNamed hn
  have hinitY : kY.init = .initialized := Cond.initialized_spec (findClass_of_methodNamed hn) hkY h3
  have h : At U g.method c below := by rw [hg]; exact X.here
  have hlocals9 : W9 + (maxL + 11) + (headSpec ws rm).room.locals ≤ R.locals := hlocals
  have happ : (headSpec ws rm).appliesLoose y e.platform (U.calling g mk a) = true :=
    Spec.appliesLoose_calling (g := g) h hdg hn hkY hinitY
      (X.room_calling (g := g) (R' := (headSpec ws rm).room) hsize hmY hcY hframes (by rw [hlY]; omega) h4 h5) h1
  obtain ⟨mid, hmid⟩ := h.above
  have hfr : (U.setTop g).frames = (.java g :: mid) ++ below := by rw [State.frames_setTop' g h.top, hmid]; rfl
  obtain ⟨o, s₂, hsteps, -, hend, hq⟩ := Steps.callFree hM p X.admits X.cas X.clock (acts := []) hfr happ hPc trivial
  have hq' : vx_Q Qc XC mc ms free a (U.calling g mk a) o s₂ := hq
  rw [State.frames_setTop' g h.top] at hend
  obtain ⟨g₀, hg0⟩ := Option.isSome_iff_exists.mp h.top
  obtain ⟨r, hr⟩ := State.topJava?_eq_some.mp hg0
  have hr' : (({ U with heap := s₂.heap, slotsUsed := s₂.slotsUsed } : State).setVm s₂.vm).frames = .java g₀ :: r := hr
  rcases hq' with ⟨hqc, L, hfe, hL⟩ | ⟨q, rfl, E, ce, L, hx, hce, hcv, hcl, hW₂, hsm, hL⟩
  · obtain ⟨⟨v, rfl⟩, hW₂, e2, q2, q3, q4, q5, q6⟩ := id hfe
    have e3 : s₂ = ({ (U.calling g mk a).setFrames s₂.frames with heap := s₂.heap, slotsUsed := s₂.slotsUsed } : State).setVm s₂.vm := by
      have : s₂ = ({ s₂ with vm := (U.calling g mk a).vm } : State).setVm s₂.vm := rfl
      rw [e2] at this
      exact this
    obtain ⟨c₂, i₂, len₂, hc₂, hd₂, hf₂⟩ := hend
    have hW' : U.WarmedH s₂.vm := hW₂
    have hcc : c₂ = c := by
      have h1 : s₂.code? g.method = U.code? g.method := by
        rw [State.code?_eq, State.code?_eq, hW'.alike.method?]
      exact Option.some.inj (hc₂.symm.trans (h1.trans h.code))
    subst hcc
    have hlen : len₂ = len := by rw [hdg] at hd₂; cases hd₂; rfl
    subst hlen
    have hs₂ : s₂ = (({ U with heap := s₂.heap, slotsUsed := s₂.slotsUsed } : State).setVm s₂.vm).setTop { g with pc := g.pc + len₂, stack := v.toList ++ g.stack } := by
      refine e3.trans ?_
      rw [hf₂, State.calling_eq h.top, State.setFrames_setFrames, State.setTop_of_frames _ hr', hr]
      rfl
    have hsame : U.sameButNew ({ U with heap := s₂.heap, slotsUsed := s₂.slotsUsed } : State) L mc ms := by
      refine ⟨?_, q2, q3, q4, q5, q6⟩
      obtain ⟨t, ht, -⟩ := State.frames_cons hr
      show ({ U with heap := s₂.heap, slotsUsed := s₂.slotsUsed } : State) = { U.setFrames U.frames with heap := s₂.heap, slotsUsed := s₂.slotsUsed }
      rw [State.setFrames_self ht]
    subst hg
    refine Or.inl ⟨v, ⟨(({ U with heap := s₂.heap, slotsUsed := s₂.slotsUsed } : State).setVm s₂.vm), Ls ++ L, c0 + mc, s0 + ms⟩,
      ⟨X.admits, X.cas, X.clock, X.frames, X.room, X.hears, X.method, X.code, (X.here.setHeapUsed s₂.heap s₂.slotsUsed).setVm hW'.alike, X.tail, State.WarmedH.trans X.warmed hW', X.limits, X.bytes, X.same.trans (hsame.setVm s.vm)⟩,
      ⟨g, mk, s₂, L, rfl, rfl, hqc, rfl, hL, rfl, rfl⟩, ?_⟩
    show Steps p.tables e below _ ((({ U with heap := s₂.heap, slotsUsed := s₂.slotsUsed } : State).setVm s₂.vm).setTop { g with pc := g.pc + len₂, stack := v.toList ++ g.stack })
    rw [← hs₂]
    exact hsteps
  · obtain ⟨e2, q2, q3, q4, q5, q6⟩ := id hsm
    have e3 : s₂ = ({ (U.calling g mk a).setFrames s₂.frames with heap := s₂.heap, slotsUsed := s₂.slotsUsed } : State).setVm s₂.vm := by
      have : s₂ = ({ s₂ with vm := (U.calling g mk a).vm } : State).setVm s₂.vm := rfl
      rw [e2] at this
      exact this
    have hf₂ : s₂.frames = .throwing q :: .java g :: U.frames.tail := hend
    have hW' : U.WarmedH s₂.vm := hW₂
    have hs₂ : s₂ = ((({ U with heap := s₂.heap, slotsUsed := s₂.slotsUsed } : State).setVm s₂.vm).setTop g).pushFrame (.throwing q) := by
      refine e3.trans ?_
      rw [hf₂, State.calling_eq h.top, State.setFrames_setFrames, State.pushFrame, State.frames_setTop _ hr', State.setTop_of_frames _ hr', State.setFrames_setFrames, hr]
      rfl
    have hsame : U.sameButNew ({ U with heap := s₂.heap, slotsUsed := s₂.slotsUsed } : State) L mc ms := by
      refine ⟨?_, q2, q3, q4, q5, q6⟩
      obtain ⟨t, ht, -⟩ := State.frames_cons hr
      show ({ U with heap := s₂.heap, slotsUsed := s₂.slotsUsed } : State) = { U.setFrames U.frames with heap := s₂.heap, slotsUsed := s₂.slotsUsed }
      rw [State.setFrames_self ht]
    subst hg
    refine Or.inr ⟨q, ⟨(({ U with heap := s₂.heap, slotsUsed := s₂.slotsUsed } : State).setVm s₂.vm), Ls ++ L, c0 + mc, s0 + ms⟩,
      ⟨X.admits, X.cas, X.clock, X.frames, X.room, X.hears, X.method, X.code, (X.here.setHeapUsed s₂.heap s₂.slotsUsed).setVm hW'.alike, X.tail, State.WarmedH.trans X.warmed hW', X.limits, X.bytes, X.same.trans (hsame.setVm s.vm)⟩,
      ⟨g, mk, s₂, L, E, ce, rfl, rfl, hx, hce, hcv, hcl, rfl, hL, rfl, rfl⟩, ?_⟩
    show Steps p.tables e below _ (((({ U with heap := s₂.heap, slotsUsed := s₂.slotsUsed } : State).setVm s₂.vm).setTop g).pushFrame (.throwing q))
    rw [← hs₂]
    exact hsteps
end Payer
section Calls
variable {p : Program} {l : Launch} {e : Env} {R : Room} {s : State} {m : MethodId} {args : Array Value} {below : List Frame} {meth : Method} {c : Code} {T : State} {locs : List Loc} {cells slots : Nat}
theorem vx_callV (X : Stand p l e R s m args below meth c T locs cells slots) (hexec : p.tables.exec = Jvm.exec) {own C : String} {index : Nat} {y : MethodName} {bytes : ByteArray} {maxL : Nat} {ret : Option FieldType}
    (hown : s.vm.findClass own = some m.cls) (hlink : (Cond.methodLink own index y).before args s = true) (hinst : (Cond.instanceMethod y).before args s = true) (hsel : (Cond.selects C y y).before args s = true)
    (hcode : (Cond.code y bytes maxL ret).before args s = true) (hy : y.cls ≠ "java/lang/invoke/MethodHandle" ∧ y.cls ≠ "java/lang/invoke/VarHandle")
    {W9 : Nat} {Pre : Pt → Array Value → Prop} {Post : Pt → Array Value → Option Value → Pt → Prop} {PostX : Pt → Array Value → Addr → Pt → Prop} (hK : vx_Back l R p e below s args y 3 W9 Pre Post PostX)
    {b : Addr} {cellB : Cell} (hcell : T.heap[b]? = some cellB) (hobj : cellB.vm.isStatics = false) (hcls : s.vm.findClass C = some cellB.cls)
    {g : JFrame} (hg : g.method = m) (hsize : g.locals.size = c.maxLocals) {argsL rest : List Value} (hlen : ∀ sig, parseMethodDescriptor y.desc = some sig → argsL.length = sig.parameters.length)
    (hstack : g.stack = argsL.reverse ++ .ref b :: rest) (hW : 2 * g.monitorRoom + (rest.map fun v => v.category).sum ≤ W9) (hdg : decode c.code g.pc = .ok (.invokevirtual index, 3))
    (hpre : ∀ vm₁, s.WarmedH vm₁ → Pre ⟨T.setVm vm₁, locs, cells, slots⟩ (Value.ref b :: argsL).toArray) :
    (∃ (v : Option Value) (vm₁ : Vm) (B : Pt), s.WarmedH vm₁ ∧ Stand p l e R s m args below meth c B.U B.locs B.cells B.slots ∧ Post ⟨T.setVm vm₁, locs, cells, slots⟩ (Value.ref b :: argsL).toArray v B ∧
      ∀ target, Steps p.tables e below (B.U.setTop { g with pc := g.pc + 3, stack := v.toList ++ rest }) target → Steps p.tables e below (T.setTop g) target) ∨
    (∃ (q : Addr) (vm₁ : Vm) (B : Pt), s.WarmedH vm₁ ∧ Stand p l e R s m args below meth c B.U B.locs B.cells B.slots ∧ PostX ⟨T.setVm vm₁, locs, cells, slots⟩ (Value.ref b :: argsL).toArray q B ∧
      Steps p.tables e below (T.setTop g) ((B.U.setTop { g with stack := rest }).pushFrame (.throwing q))) := by
  obtain ⟨mk, methM, hnamed, hmethM, hstM, habM⟩ := Cond.instanceMethod_spec hinst
  obtain ⟨methM', cM, hmethM', -, -, -, -, -, -, hsigM⟩ := Cond.code_spec hnamed hcode
  cases hmethM.symm.trans hmethM'
  obtain ⟨c2, r2, m2, q1, q2, q3, q4, kP, hkP, hkPi⟩ := Cond.selects_spec hsel
  cases hcls.symm.trans q1
  cases (State.methodFound?_of_named hnamed hy).symm.trans q2
  cases hnamed.symm.trans q3
  have hselP : selectMethod e.platform s.vm cellB.cls mk = .method mk := by rw [Launch.admits_selectMethod X.admits]; exact q4
  obtain ⟨vm₁, X₁, hstep₁⟩ := X.invokevirtual hexec hown hlink hnamed hmethM hstM hkP hkPi hy (a := b) (cell := cellB) hcell
    (fun z h => by rw [h] at hobj; cases hobj) hselP hmethM habM hkP hkPi (g := g) hg (argsL := argsL) (rest := rest) (hlen _ hsigM) hstack hdg
  rcases hK m meth c ⟨T.setVm vm₁, locs, cells, slots⟩ { g with stack := rest } (.invokevirtual index) mk (Value.ref b :: argsL).toArray X₁ hg hsize hdg hW (X₁.named hnamed) (hpre vm₁ X₁.warmed) with ⟨v, B, X', hpost, hsteps⟩ | ⟨q, B, X', hpost, hsteps⟩
  · exact Or.inl ⟨v, vm₁, B, X₁.warmed, X', hpost, fun target h => hstep₁ _ fun acts => by rw [doInvoke_state]; exact hsteps.trans h⟩
  · exact Or.inr ⟨q, vm₁, B, X₁.warmed, X', hpost, hstep₁ _ fun acts => by rw [doInvoke_state]; exact hsteps⟩
theorem vx_callS (X : Stand p l e R s m args below meth c T locs cells slots) (hexec : p.tables.exec = Jvm.exec) {own : String} {index : Nat} {y : MethodName} {bytes : ByteArray} {maxL : Nat} {ret : Option FieldType}
    (hown : s.vm.findClass own = some m.cls) (hlink : (Cond.methodLink own index y).before args s = true) (hstat : (Cond.static y).before args s = true) (hinit : (Cond.initialized y.cls).before args s = true)
    (hcode : (Cond.code y bytes maxL ret).before args s = true) (hy : y.cls ≠ "java/lang/invoke/MethodHandle" ∧ y.cls ≠ "java/lang/invoke/VarHandle")
    {W9 : Nat} {Pre : Pt → Array Value → Prop} {Post : Pt → Array Value → Option Value → Pt → Prop} {PostX : Pt → Array Value → Addr → Pt → Prop} (hK : vx_Back l R p e below s args y 3 W9 Pre Post PostX)
    {g : JFrame} (hg : g.method = m) (hsize : g.locals.size = c.maxLocals) {argsL rest : List Value} (hlen : ∀ sig, parseMethodDescriptor y.desc = some sig → argsL.length = sig.parameters.length)
    (hstack : g.stack = argsL.reverse ++ rest) (hW : 2 * g.monitorRoom + (rest.map fun v => v.category).sum ≤ W9) (hdg : decode c.code g.pc = .ok (.invokestatic index, 3))
    (hpre : ∀ vm₁, s.WarmedH vm₁ → Pre ⟨T.setVm vm₁, locs, cells, slots⟩ argsL.toArray) :
    (∃ (v : Option Value) (vm₁ : Vm) (B : Pt), s.WarmedH vm₁ ∧ Stand p l e R s m args below meth c B.U B.locs B.cells B.slots ∧ Post ⟨T.setVm vm₁, locs, cells, slots⟩ argsL.toArray v B ∧
      ∀ target, Steps p.tables e below (B.U.setTop { g with pc := g.pc + 3, stack := v.toList ++ rest }) target → Steps p.tables e below (T.setTop g) target) ∨
    (∃ (q : Addr) (vm₁ : Vm) (B : Pt), s.WarmedH vm₁ ∧ Stand p l e R s m args below meth c B.U B.locs B.cells B.slots ∧ PostX ⟨T.setVm vm₁, locs, cells, slots⟩ argsL.toArray q B ∧
      Steps p.tables e below (T.setTop g) ((B.U.setTop { g with stack := rest }).pushFrame (.throwing q))) := by
  obtain ⟨mk, hnamed⟩ := Cond.code_named hcode
  obtain ⟨methM, cM, hmethM, -, -, -, -, -, -, hsigM⟩ := Cond.code_spec hnamed hcode
  have hstatic : methM.isStatic = true := Cond.static_spec hnamed hmethM hstat
  obtain ⟨kP, hkP, -⟩ := className_of_methodNamed hnamed
  have hinitP : kP.init = .initialized := Cond.initialized_spec (findClass_of_methodNamed hnamed) hkP hinit
  obtain ⟨vm₁, X₁, hstep₁⟩ := X.invokestatic hexec hown hlink hnamed hmethM hstatic hkP hinitP hy (g := g) hg (argsL := argsL) (rest := rest) (hlen _ hsigM) hstack hdg
  rcases hK m meth c ⟨T.setVm vm₁, locs, cells, slots⟩ { g with stack := rest } (.invokestatic index) mk argsL.toArray X₁ hg hsize hdg hW (X₁.named hnamed) (hpre vm₁ X₁.warmed) with ⟨v, B, X', hpost, hsteps⟩ | ⟨q, B, X', hpost, hsteps⟩
  · exact Or.inl ⟨v, vm₁, B, X₁.warmed, X', hpost, fun target h => hstep₁ _ fun acts => by rw [doInvoke_state]; exact hsteps.trans h⟩
  · exact Or.inr ⟨q, vm₁, B, X₁.warmed, X', hpost, hstep₁ _ fun acts => by rw [doInvoke_state]; exact hsteps⟩
end Calls
theorem vx_cls {s : State} {T : State} {vm₁ : Vm} {E : String} {k : ClassId} (hW : s.WarmedH vm₁) (h : (T.setVm vm₁).vm.findClass E = some k) : s.vm.findClass E = some k := by
  have h1 : vm₁.findClass E = some k := h
  rw [hW.alike.findClass] at h1
  exact h1
/-- the method's frame g, with q thrown over it -/
def vx_W (p : Program) (l : Launch) (e : Env) (R : Room) (s : State) (m : MethodId) (args : Array Value) (below : List Frame) (meth : Method) (c : Code) (H : Heap) (locs : List Loc) (cells slots : Nat) (Q : State → Prop) (g : JFrame) (q : Addr) : Prop :=
  ∀ T : State, T.heap = H → Stand p l e R s m args below meth c T locs cells slots → ∃ t, Steps p.tables e below ((T.setTop g).pushFrame (.throwing q)) t ∧ Q t
def vx_Run (p : Program) (l : Launch) (e : Env) (R : Room) (s : State) (m : MethodId) (args : Array Value) (below : List Frame) (meth : Method) (c : Code) (H : Heap) (locs : List Loc) (cells slots mc ms : Nat) (g : JFrame) (rest : List Value) (Qa : State → Outcome → State → Prop) (XC : String → State → State → Prop) (free : Addr → Prop) : Prop :=
  ∀ T : State, T.heap = H → Stand p l e R s m args below meth c T locs cells slots →
    (∃ (v : Option Value) (st₀ t T' : State) (L : List Loc), st₀.heap = H ∧ Stand p l e R s m args below meth c T' (locs ++ L) (cells + mc) (slots + ms) ∧ (∀ q ∈ L, free q.base) ∧ T'.heap = t.heap ∧ T'.vm = t.vm ∧ Qa st₀ (.returned v) t ∧
      Goes p e below T g T' { g with pc := g.pc + 3, stack := v.toList ++ rest }) ∨
    (∃ (q : Addr) (st₀ t T' : State) (L : List Loc) (E : String) (ce : Cell), st₀.heap = H ∧ Stand p l e R s m args below meth c T' (locs ++ L) (cells + mc) (slots + ms) ∧ (∀ z ∈ L, free z.base) ∧ T'.heap = t.heap ∧ T'.vm = t.vm ∧ XC E st₀ t ∧ t.heap[q]? = some ce ∧ ce.vm = .none ∧ s.vm.findClass E = some ce.cls ∧
      Steps p.tables e below (T.setTop g) ((T'.setTop { g with stack := rest }).pushFrame (.throwing q)))
def vx_X {S : Type} (px : S → Prop) (B : String → S → State → Prop) (A : Nat → Prop) : String → State → State → Prop := fun E st t => ∃ u : S, px u ∧ B E u t ∧ va_F A st t
section Runs
variable {p : Program} {l : Launch} {e : Env} {R : Room} {s : State} {m : MethodId} {args : Array Value} {below : List Frame} {meth : Method} {c : Code} {H : Heap} {locs : List Loc} {cells slots : Nat}
variable {y : MethodName} {bytes cc : ByteArray} {maxL nL mc ms n index : Nat} {ret : Option FieldType} {ws : List Cond} {rm : Room} {Pc : Array Value → State → Prop} {Qc : Array Value → State → Outcome → State → Prop} {XC : String → State → State → Prop} {free : Addr → Prop} {Ts : List Cond} {own C : String} {b : Addr} {As rest : List Value} {g : JFrame}
theorem vx_callBack (cb : CallB R s args own index y bytes maxL ret ws rm mc ms n) (hM : vx_Met l y ws rm Pc Qc XC mc ms free) (hbl : FrameBlind Pc) : vx_Back l R p e below s args y 3 8 (PreOf R mc ms Pc) (PostOf Qc mc ms free) (vx_Post XC mc ms free) := by
  obtain ⟨hrc, hrs, hfr, hlo, hws, hcw, -, hini, -⟩ := cb
  exact vx_back (bytes := bytes) (maxL := maxL) (ret := ret) hM hbl hrc hrs hfr hlo hws hcw (fun a' U hW => word_at hW (Or.inl (by first | rfl | simp [Cond.onTables, Cond.keeps, Cond.steady])) hini)
theorem vx_runV (S : CallFix p m c cc nL s args Ts own) (hM : vx_Met l y ws rm Pc Qc XC mc ms free) (cw : CallW R s args own C index y bytes maxL ret ws rm mc ms n) (hp : PreV s H C b Pc As)
    (hg : g.method = m) (hn : As.length = n) (hsize : g.locals.size = nL) (hstack : g.stack = As.reverse ++ .ref b :: rest) (hW : 2 * g.monitorRoom + (rest.map fun v => v.category).sum ≤ 8) (hdg : decode cc g.pc = .ok (.invokevirtual index, 3)) (hf : cells + mc ≤ R.cells ∧ slots + ms ≤ R.slots) :
    vx_Run p l e R s m args below meth c H locs cells slots mc ms g rest (Qc (Value.ref b :: As).toArray) XC free := by
  have hK : vx_Back l R p e below s args y 3 8 (PreOf R mc ms Pc) (PostOf Qc mc ms free) (vx_Post XC mc ms free) := vx_callBack cw.1 hM hp.1
  obtain ⟨⟨-, -, -, -, -, -, hcode, -, hy, hlen, hl⟩, hin, hse⟩ := cw
  obtain ⟨hx, hb, hml, ho, -⟩ := S
  obtain ⟨-, ⟨cellB, hcB, hoB, hclB⟩, hPc⟩ := hp
  intro T hT X
  rcases vx_callV X hx (C := C) (bytes := bytes) (maxL := maxL) (ret := ret) ho hl hin hse hcode hy hK (by rw [hT]; exact hcB) hoB hclB hg (hsize.trans hml.symm) (argsL := As) (rest := rest) (fun sig h => hn.trans (hlen sig h)) hstack hW (by rw [hb]; exact hdg)
    (fun vm₁ hW₁ => ⟨hf.1, hf.2, hPc (T.setVm vm₁) hT hW₁⟩) with ⟨v, vm₁, ⟨U', l2, c2, s2⟩, hW₁, X', ⟨g', mk, t, L, e1, e2, hq, h1, hL, h2, h3⟩, st⟩ | ⟨q, vm₁, ⟨U', l2, c2, s2⟩, hW₁, X', ⟨g', mk, t, L, E, ce, e1, e2, hq, hce, hcv, hcl, h1, hL, h2, h3⟩, st⟩
  · dsimp only [Pt.U, Pt.locs, Pt.cells, Pt.slots] at X' e1 e2 h1 h2 h3 st
    subst h1; subst h2; subst h3
    exact Or.inl ⟨v, (T.setVm vm₁).calling g' mk (Value.ref b :: As).toArray, t, U', L, hT, X', hL, e1, e2, hq, st⟩
  · dsimp only [Pt.U, Pt.locs, Pt.cells, Pt.slots] at X' e1 e2 h1 h2 h3 st hcl
    subst h1; subst h2; subst h3
    exact Or.inr ⟨q, (T.setVm vm₁).calling g' mk (Value.ref b :: As).toArray, t, U', L, E, ce, hT, X', hL, e1, e2, hq, hce, hcv, vx_cls hW₁ hcl, st⟩
theorem vx_runS (S : CallFix p m c cc nL s args Ts own) (hM : vx_Met l y ws rm Pc Qc XC mc ms free) (cw : CallB R s args own index y bytes maxL ret ws rm mc ms n ∧ (Cond.static y).before args s = true) (hp : PreS s H Pc As)
    (hg : g.method = m) (hn : As.length = n) (hsize : g.locals.size = nL) (hstack : g.stack = As.reverse ++ rest) (hW : 2 * g.monitorRoom + (rest.map fun v => v.category).sum ≤ 8) (hdg : decode cc g.pc = .ok (.invokestatic index, 3)) (hf : cells + mc ≤ R.cells ∧ slots + ms ≤ R.slots) :
    vx_Run p l e R s m args below meth c H locs cells slots mc ms g rest (Qc As.toArray) XC free := by
  have hK : vx_Back l R p e below s args y 3 8 (PreOf R mc ms Pc) (PostOf Qc mc ms free) (vx_Post XC mc ms free) := vx_callBack cw.1 hM hp.1
  obtain ⟨⟨-, -, -, -, -, -, hcode, hini, hy, hlen, hl⟩, hstt⟩ := cw
  obtain ⟨hx, hb, hml, ho, -⟩ := S
  intro T hT X
  rcases vx_callS X hx (bytes := bytes) (maxL := maxL) (ret := ret) ho hl hstt hini hcode hy hK hg (hsize.trans hml.symm) (argsL := As) (rest := rest) (fun sig h => hn.trans (hlen sig h)) hstack hW (by rw [hb]; exact hdg)
    (fun vm₁ hW₁ => ⟨hf.1, hf.2, hp.2 (T.setVm vm₁) hT hW₁⟩) with ⟨v, vm₁, ⟨U', l2, c2, s2⟩, hW₁, X', ⟨g', mk, t, L, e1, e2, hq, h1, hL, h2, h3⟩, st⟩ | ⟨q, vm₁, ⟨U', l2, c2, s2⟩, hW₁, X', ⟨g', mk, t, L, E, ce, e1, e2, hq, hce, hcv, hcl, h1, hL, h2, h3⟩, st⟩
  · dsimp only [Pt.U, Pt.locs, Pt.cells, Pt.slots] at X' e1 e2 h1 h2 h3 st
    subst h1; subst h2; subst h3
    exact Or.inl ⟨v, (T.setVm vm₁).calling g' mk As.toArray, t, U', L, hT, X', hL, e1, e2, hq, st⟩
  · dsimp only [Pt.U, Pt.locs, Pt.cells, Pt.slots] at X' e1 e2 h1 h2 h3 st hcl
    subst h1; subst h2; subst h3
    exact Or.inr ⟨q, (T.setVm vm₁).calling g' mk As.toArray, t, U', L, E, ce, hT, X', hL, e1, e2, hq, hce, hcv, vx_cls hW₁ hcl, st⟩
end Runs
section Rows
variable {p : Program} {l : Launch} {e : Env} {R : Room} {s : State} {m : MethodId} {args : Array Value} {below : List Frame} {meth : Method} {c : Code} {H : Heap} {locs : List Loc} {cells slots : Nat} {Q : State → Prop}
variable {mc ms : Nat} {free : Addr → Prop} {A0 A1 : Nat → Prop} {H0 : Heap} {a : Array Value} {pc : Nat} {ls : Array Slot} {st0 rest : List Value}
theorem vx_keep {st₀ t T' : State} {L : List Loc} (h0 : st₀.heap = H) (e1 : T'.heap = t.heap) (hS : va_S A0 H0 H locs) (hA : ∀ q, q < H.size → A1 q → A0 q) (hf : ∀ q, free q → A0 q) (hL : ∀ q ∈ L, free q.base) (hF : va_F A1 st₀ t) :
    H.size ≤ T'.heap.size ∧ (∀ q : Nat, q < H.size → ¬ A1 q → T'.heap[q]? = H[q]?) ∧ va_S A0 H0 T'.heap (locs ++ L) := by
  obtain ⟨hz, hk⟩ := hF
  rw [h0] at hz hk
  exact ⟨by rw [e1]; exact hz, fun q h1 h2 => by rw [e1]; exact hk q h1 h2,
    ⟨Nat.le_trans hS.1 (by rw [e1]; exact hz), fun q h1 h2 => by rw [e1, hk q (Nat.lt_of_lt_of_le h1 hS.1) (fun z => h2 (hA q (Nat.lt_of_lt_of_le h1 hS.1) z))]; exact hS.2.1 q h1 h2, fun q hq => by
      rcases List.mem_append.mp hq with h | h
      · exact hS.2.2 q h
      · exact hf _ (hL q h)⟩⟩
theorem vx_calli {S SX : Type} {post : Int32 → S → Prop} {px : SX → Prop} {B : S → State → Prop} {BX : String → SX → State → Prop} {AX : Nat → Prop} (hr : vx_Run p l e R s m args below meth c H locs cells slots mc ms (F0 m pc ls st0) rest (va_Qi post B A1 a) (vx_X px BX AX) free) (hS : va_S A0 H0 H locs) (hA : ∀ q, q < H.size → A1 q → A0 q) (hf : ∀ q, free q → A0 q) (hAX : ∀ q, q < H.size → AX q → A0 q)
    (kx : ∀ (E : String) (ce : Cell) (q9 : Addr) (u : SX) (t : State) (H1 : Heap) (locs1 : List Loc), t.heap = H1 → s.vm.Alike t.vm → px u → BX E u t → H.size ≤ H1.size → (∀ q : Nat, q < H.size → ¬ AX q → H1[q]? = H[q]?) → va_S A0 H0 H1 locs1 → H1[q9]? = some ce → ce.vm = .none → s.vm.findClass E = some ce.cls → vx_W p l e R s m args below meth c H1 locs1 (cells + mc) (slots + ms) Q (F0 m pc ls rest) q9)
    (kk : ∀ (r : Int32) (u : S) (t : State) (H1 : Heap) (locs1 : List Loc), t.heap = H1 → s.vm.Alike t.vm → post r u → B u t → H.size ≤ H1.size → (∀ q : Nat, q < H.size → ¬ A1 q → H1[q]? = H[q]?) → va_S A0 H0 H1 locs1 → W p l e R s m args below meth c H1 locs1 (cells + mc) (slots + ms) Q (F0 m (pc + 3) ls (.int r :: rest))) : W p l e R s m args below meth c H locs cells slots Q (F0 m pc ls st0) := by
  intro T hT X
  rcases hr T hT X with ⟨v, st₀, t, T', L, h0, X', hL, e1, e2, ⟨⟨r, u, hv, hp, hb⟩, hF⟩, st⟩ | ⟨q, st₀, t, T', L, E, ce, h0, X', hL, e1, e2, ⟨u, hp, hb, hF⟩, hce, hcv, hcl, st⟩
  · cases hv
    obtain ⟨k1, k2, k3⟩ := vx_keep h0 e1 hS hA hf hL hF
    obtain ⟨t2, a1, b1⟩ := kk r u t T'.heap (locs ++ L) e1.symm (by rw [← e2]; exact X'.warmed.alike) hp hb k1 k2 k3 T' rfl X'
    exact ⟨t2, st t2 a1, b1⟩
  · obtain ⟨k1, k2, k3⟩ := vx_keep h0 e1 hS hAX hf hL hF
    obtain ⟨t2, a1, b1⟩ := kx E ce q u t T'.heap (locs ++ L) e1.symm (by rw [← e2]; exact X'.warmed.alike) hp hb k1 k2 k3 (by rw [e1]; exact hce) hcv hcl T' rfl X'
    exact ⟨t2, st.trans a1, b1⟩
theorem vx_calll {S SX : Type} {post : Int64 → S → Prop} {px : SX → Prop} {B : S → State → Prop} {BX : String → SX → State → Prop} {AX : Nat → Prop} (hr : vx_Run p l e R s m args below meth c H locs cells slots mc ms (F0 m pc ls st0) rest (va_Ql post B A1 a) (vx_X px BX AX) free) (hS : va_S A0 H0 H locs) (hA : ∀ q, q < H.size → A1 q → A0 q) (hf : ∀ q, free q → A0 q) (hAX : ∀ q, q < H.size → AX q → A0 q)
    (kx : ∀ (E : String) (ce : Cell) (q9 : Addr) (u : SX) (t : State) (H1 : Heap) (locs1 : List Loc), t.heap = H1 → s.vm.Alike t.vm → px u → BX E u t → H.size ≤ H1.size → (∀ q : Nat, q < H.size → ¬ AX q → H1[q]? = H[q]?) → va_S A0 H0 H1 locs1 → H1[q9]? = some ce → ce.vm = .none → s.vm.findClass E = some ce.cls → vx_W p l e R s m args below meth c H1 locs1 (cells + mc) (slots + ms) Q (F0 m pc ls rest) q9)
    (kk : ∀ (r : Int64) (u : S) (t : State) (H1 : Heap) (locs1 : List Loc), t.heap = H1 → s.vm.Alike t.vm → post r u → B u t → H.size ≤ H1.size → (∀ q : Nat, q < H.size → ¬ A1 q → H1[q]? = H[q]?) → va_S A0 H0 H1 locs1 → W p l e R s m args below meth c H1 locs1 (cells + mc) (slots + ms) Q (F0 m (pc + 3) ls (.long r :: rest))) : W p l e R s m args below meth c H locs cells slots Q (F0 m pc ls st0) := by
  intro T hT X
  rcases hr T hT X with ⟨v, st₀, t, T', L, h0, X', hL, e1, e2, ⟨⟨r, u, hv, hp, hb⟩, hF⟩, st⟩ | ⟨q, st₀, t, T', L, E, ce, h0, X', hL, e1, e2, ⟨u, hp, hb, hF⟩, hce, hcv, hcl, st⟩
  · cases hv
    obtain ⟨k1, k2, k3⟩ := vx_keep h0 e1 hS hA hf hL hF
    obtain ⟨t2, a1, b1⟩ := kk r u t T'.heap (locs ++ L) e1.symm (by rw [← e2]; exact X'.warmed.alike) hp hb k1 k2 k3 T' rfl X'
    exact ⟨t2, st t2 a1, b1⟩
  · obtain ⟨k1, k2, k3⟩ := vx_keep h0 e1 hS hAX hf hL hF
    obtain ⟨t2, a1, b1⟩ := kx E ce q u t T'.heap (locs ++ L) e1.symm (by rw [← e2]; exact X'.warmed.alike) hp hb k1 k2 k3 (by rw [e1]; exact hce) hcv hcl T' rfl X'
    exact ⟨t2, st.trans a1, b1⟩
theorem vx_callf {S SX : Type} {post : UInt32 → S → Prop} {px : SX → Prop} {B : S → State → Prop} {BX : String → SX → State → Prop} {AX : Nat → Prop} (hr : vx_Run p l e R s m args below meth c H locs cells slots mc ms (F0 m pc ls st0) rest (va_Qf post B A1 a) (vx_X px BX AX) free) (hS : va_S A0 H0 H locs) (hA : ∀ q, q < H.size → A1 q → A0 q) (hf : ∀ q, free q → A0 q) (hAX : ∀ q, q < H.size → AX q → A0 q)
    (kx : ∀ (E : String) (ce : Cell) (q9 : Addr) (u : SX) (t : State) (H1 : Heap) (locs1 : List Loc), t.heap = H1 → s.vm.Alike t.vm → px u → BX E u t → H.size ≤ H1.size → (∀ q : Nat, q < H.size → ¬ AX q → H1[q]? = H[q]?) → va_S A0 H0 H1 locs1 → H1[q9]? = some ce → ce.vm = .none → s.vm.findClass E = some ce.cls → vx_W p l e R s m args below meth c H1 locs1 (cells + mc) (slots + ms) Q (F0 m pc ls rest) q9)
    (kk : ∀ (r : UInt32) (u : S) (t : State) (H1 : Heap) (locs1 : List Loc), t.heap = H1 → s.vm.Alike t.vm → post r u → B u t → H.size ≤ H1.size → (∀ q : Nat, q < H.size → ¬ A1 q → H1[q]? = H[q]?) → va_S A0 H0 H1 locs1 → W p l e R s m args below meth c H1 locs1 (cells + mc) (slots + ms) Q (F0 m (pc + 3) ls (.float r :: rest))) : W p l e R s m args below meth c H locs cells slots Q (F0 m pc ls st0) := by
  intro T hT X
  rcases hr T hT X with ⟨v, st₀, t, T', L, h0, X', hL, e1, e2, ⟨⟨r, u, hv, hp, hb⟩, hF⟩, st⟩ | ⟨q, st₀, t, T', L, E, ce, h0, X', hL, e1, e2, ⟨u, hp, hb, hF⟩, hce, hcv, hcl, st⟩
  · cases hv
    obtain ⟨k1, k2, k3⟩ := vx_keep h0 e1 hS hA hf hL hF
    obtain ⟨t2, a1, b1⟩ := kk r u t T'.heap (locs ++ L) e1.symm (by rw [← e2]; exact X'.warmed.alike) hp hb k1 k2 k3 T' rfl X'
    exact ⟨t2, st t2 a1, b1⟩
  · obtain ⟨k1, k2, k3⟩ := vx_keep h0 e1 hS hAX hf hL hF
    obtain ⟨t2, a1, b1⟩ := kx E ce q u t T'.heap (locs ++ L) e1.symm (by rw [← e2]; exact X'.warmed.alike) hp hb k1 k2 k3 (by rw [e1]; exact hce) hcv hcl T' rfl X'
    exact ⟨t2, st.trans a1, b1⟩
theorem vx_calld {S SX : Type} {post : UInt64 → S → Prop} {px : SX → Prop} {B : S → State → Prop} {BX : String → SX → State → Prop} {AX : Nat → Prop} (hr : vx_Run p l e R s m args below meth c H locs cells slots mc ms (F0 m pc ls st0) rest (va_Qd post B A1 a) (vx_X px BX AX) free) (hS : va_S A0 H0 H locs) (hA : ∀ q, q < H.size → A1 q → A0 q) (hf : ∀ q, free q → A0 q) (hAX : ∀ q, q < H.size → AX q → A0 q)
    (kx : ∀ (E : String) (ce : Cell) (q9 : Addr) (u : SX) (t : State) (H1 : Heap) (locs1 : List Loc), t.heap = H1 → s.vm.Alike t.vm → px u → BX E u t → H.size ≤ H1.size → (∀ q : Nat, q < H.size → ¬ AX q → H1[q]? = H[q]?) → va_S A0 H0 H1 locs1 → H1[q9]? = some ce → ce.vm = .none → s.vm.findClass E = some ce.cls → vx_W p l e R s m args below meth c H1 locs1 (cells + mc) (slots + ms) Q (F0 m pc ls rest) q9)
    (kk : ∀ (r : UInt64) (u : S) (t : State) (H1 : Heap) (locs1 : List Loc), t.heap = H1 → s.vm.Alike t.vm → post r u → B u t → H.size ≤ H1.size → (∀ q : Nat, q < H.size → ¬ A1 q → H1[q]? = H[q]?) → va_S A0 H0 H1 locs1 → W p l e R s m args below meth c H1 locs1 (cells + mc) (slots + ms) Q (F0 m (pc + 3) ls (.double r :: rest))) : W p l e R s m args below meth c H locs cells slots Q (F0 m pc ls st0) := by
  intro T hT X
  rcases hr T hT X with ⟨v, st₀, t, T', L, h0, X', hL, e1, e2, ⟨⟨r, u, hv, hp, hb⟩, hF⟩, st⟩ | ⟨q, st₀, t, T', L, E, ce, h0, X', hL, e1, e2, ⟨u, hp, hb, hF⟩, hce, hcv, hcl, st⟩
  · cases hv
    obtain ⟨k1, k2, k3⟩ := vx_keep h0 e1 hS hA hf hL hF
    obtain ⟨t2, a1, b1⟩ := kk r u t T'.heap (locs ++ L) e1.symm (by rw [← e2]; exact X'.warmed.alike) hp hb k1 k2 k3 T' rfl X'
    exact ⟨t2, st t2 a1, b1⟩
  · obtain ⟨k1, k2, k3⟩ := vx_keep h0 e1 hS hAX hf hL hF
    obtain ⟨t2, a1, b1⟩ := kx E ce q u t T'.heap (locs ++ L) e1.symm (by rw [← e2]; exact X'.warmed.alike) hp hb k1 k2 k3 (by rw [e1]; exact hce) hcv hcl T' rfl X'
    exact ⟨t2, st.trans a1, b1⟩
theorem vx_callv {S SX : Type} {post : S → Prop} {px : SX → Prop} {B : S → State → Prop} {BX : String → SX → State → Prop} {AX : Nat → Prop} (hr : vx_Run p l e R s m args below meth c H locs cells slots mc ms (F0 m pc ls st0) rest (va_Qv post B A1 a) (vx_X px BX AX) free) (hS : va_S A0 H0 H locs) (hA : ∀ q, q < H.size → A1 q → A0 q) (hf : ∀ q, free q → A0 q) (hAX : ∀ q, q < H.size → AX q → A0 q)
    (kx : ∀ (E : String) (ce : Cell) (q9 : Addr) (u : SX) (t : State) (H1 : Heap) (locs1 : List Loc), t.heap = H1 → s.vm.Alike t.vm → px u → BX E u t → H.size ≤ H1.size → (∀ q : Nat, q < H.size → ¬ AX q → H1[q]? = H[q]?) → va_S A0 H0 H1 locs1 → H1[q9]? = some ce → ce.vm = .none → s.vm.findClass E = some ce.cls → vx_W p l e R s m args below meth c H1 locs1 (cells + mc) (slots + ms) Q (F0 m pc ls rest) q9)
    (kk : ∀ (u : S) (t : State) (H1 : Heap) (locs1 : List Loc), t.heap = H1 → s.vm.Alike t.vm → post u → B u t → H.size ≤ H1.size → (∀ q : Nat, q < H.size → ¬ A1 q → H1[q]? = H[q]?) → va_S A0 H0 H1 locs1 → W p l e R s m args below meth c H1 locs1 (cells + mc) (slots + ms) Q (F0 m (pc + 3) ls (rest))) : W p l e R s m args below meth c H locs cells slots Q (F0 m pc ls st0) := by
  intro T hT X
  rcases hr T hT X with ⟨v, st₀, t, T', L, h0, X', hL, e1, e2, ⟨⟨u, hv, hp, hb⟩, hF⟩, st⟩ | ⟨q, st₀, t, T', L, E, ce, h0, X', hL, e1, e2, ⟨u, hp, hb, hF⟩, hce, hcv, hcl, st⟩
  · cases hv
    obtain ⟨k1, k2, k3⟩ := vx_keep h0 e1 hS hA hf hL hF
    obtain ⟨t2, a1, b1⟩ := kk u t T'.heap (locs ++ L) e1.symm (by rw [← e2]; exact X'.warmed.alike) hp hb k1 k2 k3 T' rfl X'
    exact ⟨t2, st t2 a1, b1⟩
  · obtain ⟨k1, k2, k3⟩ := vx_keep h0 e1 hS hAX hf hL hF
    obtain ⟨t2, a1, b1⟩ := kx E ce q u t T'.heap (locs ++ L) e1.symm (by rw [← e2]; exact X'.warmed.alike) hp hb k1 k2 k3 (by rw [e1]; exact hce) hcv hcl T' rfl X'
    exact ⟨t2, st.trans a1, b1⟩
/-- caught by the row x of this method's table; the rows ahead don't take it -/
theorem vx_catch {own name : String} {E : String} {ce : Cell} {q : Addr} (hown : s.vm.findClass own = some m.cls) (pre : List ExceptionTableEntry) (x : ExceptionTableEntry) (suf : List ExceptionTableEntry) (hsplit : c.exceptionTable.toList = pre ++ x :: suf)
    (hpass : ∀ z ∈ pre, covers z pc = false ∨ (z.catchType ≠ 0 ∧ ∃ nm : String, (Cond.classLink own z.catchType nm).before args s = true ∧ va_Nc E nm s)) (hx : covers x pc = true) (h0 : x.catchType ≠ 0)
    (hlink : (Cond.classLink own x.catchType name).before args s = true) (hcast : (Cond.castable E name).before args s = true) (hcell : H[q]? = some ce) (hv : ce.vm = .none) (hcl : s.vm.findClass E = some ce.cls)
    (kk : W p l e R s m args below meth c H locs cells slots Q (F0 m x.handlerPc ls [.ref q])) : vx_W p l e R s m args below meth c H locs cells slots Q (F0 m pc ls rest) q := by
  intro T hT X
  have hpl : e.platform.magicAccessors = ({} : Platform).magicAccessors := by rw [X.admits.platform]
  obtain ⟨c3, c4, hc3, hc4, hasg⟩ := Cond.castable_spec hcast
  cases Option.some.inj (hc3.symm.trans hcl)
  obtain ⟨c5, hc5, hcl5⟩ := Cond.classLink_spec hown hlink e.platform hpl
  cases Option.some.inj (hc4.symm.trans hc5)
  obtain ⟨vm', X', st⟩ := X.thenCaughtThrough q (g := F0 m pc ls rest) rfl (Steps.refl _) (by rw [hT]; exact hcell) (by rw [hv]; rfl) (by obtain ⟨k9, h9, -⟩ := Vm.findClass_spec hcl; exact ⟨k9, h9⟩) pre x suf hsplit
    (fun z hz => by
      rcases hpass z hz with h | ⟨hz0, nm, hl1, hn1⟩
      · exact Or.inl h
      · obtain ⟨c6, hc6, hcl6⟩ := Cond.classLink_spec hown hl1 e.platform hpl
        obtain ⟨a8, b8, h1, h2, h3⟩ := hn1
        cases Option.some.inj (h1.symm.trans hcl)
        cases Option.some.inj (h2.symm.trans hc6)
        exact Or.inr ⟨hz0, _, hcl6, h3⟩) hx (Or.inr ⟨h0, c4, hcl5, hasg⟩)
  obtain ⟨t, a1, b1⟩ := kk (T.setVm vm') hT X'
  exact ⟨t, st.trans a1, b1⟩
end Rows
section Ends
variable {p : Program} {l : Launch} {e : Env} {R : Room} {s : State} {m : MethodId} {args : Array Value} {below : List Frame} {meth : Method} {c : Code} {H : Heap} {locs : List Loc} {cells slots : Nat} {Q : State → Prop}
variable {mc ms : Nat} {free : Addr → Prop} {A0 A1 : Nat → Prop} {H0 : Heap} {a : Array Value} {ls : Array Slot} {st0 rest : List Value}
variable {Qc : Array Value → State → Outcome → State → Prop} {XC : String → State → State → Prop}
/-- what a body that may throw owes at its end -/
def vx_MQ (below : List Frame) (Qc : Array Value → State → Outcome → State → Prop) (XC : String → State → State → Prop) (a : Array Value) (s : State) (mc ms : Nat) (free : Addr → Prop) : State → Prop := fun t =>
  ∃ o, t.status = .running ∧ Ended t below o ∧ vx_Q Qc XC mc ms free a s o t
theorem vx_ret {g : JFrame} {mc ms : Nat} (k : W p l e R s m args below meth c H locs cells slots (MQ below Qc args s mc ms free) g) : W p l e R s m args below meth c H locs cells slots (vx_MQ below Qc XC args s mc ms free) g := by
  intro T hT X
  obtain ⟨t, a1, o, b1, b2, b3, b4⟩ := k T hT X
  exact ⟨t, a1, o, b1, b2, Or.inl ⟨b3, b4⟩⟩
/-- not caught here: it goes on to the caller -/
theorem vx_widen {g : JFrame} {q : Addr} {k n : Nat} (h1 : cells ≤ k) (h2 : slots ≤ n) (kk : vx_W p l e R s m args below meth c H locs k n Q g q) : vx_W p l e R s m args below meth c H locs cells slots Q g q := fun T hT X => kk T hT (stand_widen X h1 h2)
theorem vx_out {pc : Nat} {E : String} {ce : Cell} {q : Addr} {mc ms : Nat} (hout : ∀ x ∈ c.exceptionTable.toList, covers x pc = false) (hlocks : meth.locks = false) (hcell : H[q]? = some ce) (hv : ce.vm = .none) (hcl : s.vm.findClass E = some ce.cls)
    (hx : ∀ t : State, t.heap = H → s.vm.Alike t.vm → XC E s t) (hf : ∀ z ∈ locs, free z.base) (hc : cells ≤ mc) (hs : slots ≤ ms) :
    vx_W p l e R s m args below meth c H locs cells slots (vx_MQ below Qc XC args s mc ms free) (F0 m pc ls rest) q := by
  intro T hT X
  obtain ⟨st1, hrun, hend, hW, hsm⟩ := X.leaveThrown q (g := F0 m pc ls rest) rfl rfl rfl hout hlocks
  have hcell9 : (T.setFrames (.throwing q :: below)).heap[q]? = some ce := by
    show T.heap[q]? = some ce
    rw [hT]; exact hcell
  exact ⟨_, st1, .threw q, hrun, hend, Or.inr ⟨q, rfl, E, ce, locs, hx _ hT hW.alike, hcell9, hv, hcl, hW, hsm.mono hc hs, hf⟩⟩
theorem vx_frame {U : State} {k n : Nat} (h : s.sameButNew ({ U with vm := s.vm } : State) locs k n) : s.heap.size ≤ U.heap.size ∧ ∀ q : Nat, q < s.heap.size → (∀ z ∈ locs, z.base ≠ q) → U.heap[q]? = s.heap[q]? := by
  obtain ⟨-, h2, -, -, -, h6⟩ := h
  refine ⟨h2, fun q hq hz => ?_⟩
  obtain ⟨c9, e1, e2, e3, e4⟩ := h6 q _ (Array.getElem?_eq_getElem hq)
  have hs : c9.slots = (s.heap[q]).slots := Array.ext_getElem? fun i => e4 i fun hm => hz _ hm rfl
  have h9 : c9 = s.heap[q] := by
    rw [hs] at e2
    exact e2
  have e5 : U.heap[q]? = some c9 := e1
  rw [e5, h9, Array.getElem?_eq_getElem hq]
/-- the words of a throw but the four that speak of the heap -/
def vx_no (w : Cond) : Bool := decide (w ≠ .isRef (.static Bundle.tN "UNASSIGNED_STACK" Bundle.steD)) && decide (w ≠ .isRef (.static Bundle.tN "SUPPRESSED_SENTINEL" Bundle.listD)) && decide (w ≠ .laysStatic Bundle.tN "UNASSIGNED_STACK" Bundle.steD) && decide (w ≠ .laysStatic Bundle.tN "SUPPRESSED_SENTINEL" Bundle.listD)
def vx_at0 (own : String) (ic : Nat) (X : String) (names : List String) : List Cond := (Bundle.ownAtoms0 own ic X names).filter vx_no
def vx_atS (own : String) (ic : Nat) (X : String) (names : List String) : List Cond := (Bundle.ownAtoms own ic X names).filter vx_no
/-- a word that the tables alone decide, or a good one -/
def vx_ot (w : Cond) : Bool := w.onTables || goodWord w
theorem vx_ot_at {args a' : Array Value} {s U : State} {w : Cond} (hW : s.WarmedH U.vm) (hvm : s.vm = U.vm) (hg : vx_ot w = true) (h : w.before args s = true) : w.before a' U = true := by
  simp only [vx_ot, Bool.or_eq_true] at hg
  rcases hg with hg | hg
  · exact va_tabs hg hvm h
  · exact word_at hW (good_of_word hg) h
/-- a list's words: the good ones out of the method's own list, the others by premises of their own -/
theorem vx_hat {args : Array Value} {s : State} {L B : List Cond} (h1 : ∀ w ∈ L.filter goodWord, w.before args s = true) (h2 : ∀ w ∈ L.filter (fun w => !goodWord w), w ∈ B) (h3 : ∀ w ∈ B, w.before args s = true) : ∀ w ∈ L, w.before args s = true := by
  intro w hw
  by_cases g : goodWord w = true
  · exact h1 w (List.mem_filter.mpr ⟨hw, g⟩)
  · refine h3 w (h2 w (List.mem_filter.mpr ⟨hw, ?_⟩))
    show (!goodWord w) = true
    cases hgw : goodWord w
    · rfl
    · exact absurd hgw g
theorem vx_c {args : Array Value} {s : State} {w : Cond} {B : List Cond} (h : w.before args s = true) (t : ∀ w ∈ B, w.before args s = true) : ∀ w' ∈ w :: B, w'.before args s = true := fun w' h' => (List.mem_cons.mp h').elim (fun e => by rw [e]; exact h) (t w')
theorem vx_n {args : Array Value} {s : State} : ∀ w ∈ ([] : List Cond), w.before args s = true := fun _ h => nomatch h
theorem vx_own {args : Array Value} {s : State} {L : List Cond} (h1 : ∀ w ∈ L.filter vx_no, w.before args s = true)
    (hU : (Cond.isRef (.static Bundle.tN "UNASSIGNED_STACK" Bundle.steD)).before args s = true) (hN : (Cond.isRef (.static Bundle.tN "SUPPRESSED_SENTINEL" Bundle.listD)).before args s = true)
    (lU : (Cond.laysStatic Bundle.tN "UNASSIGNED_STACK" Bundle.steD).before args s = true) (lN : (Cond.laysStatic Bundle.tN "SUPPRESSED_SENTINEL" Bundle.listD).before args s = true) : ∀ w ∈ L, w.before args s = true := by
  intro w hw
  by_cases e1 : w = .isRef (.static Bundle.tN "UNASSIGNED_STACK" Bundle.steD)
  · rw [e1]; exact hU
  · by_cases e2 : w = .isRef (.static Bundle.tN "SUPPRESSED_SENTINEL" Bundle.listD)
    · rw [e2]; exact hN
    · by_cases e3 : w = .laysStatic Bundle.tN "UNASSIGNED_STACK" Bundle.steD
      · rw [e3]; exact lU
      · by_cases e4 : w = .laysStatic Bundle.tN "SUPPRESSED_SENTINEL" Bundle.listD
        · rw [e4]; exact lN
        · exact h1 w (List.mem_filter.mpr ⟨hw, by unfold vx_no; rw [decide_eq_true e1, decide_eq_true e2, decide_eq_true e3, decide_eq_true e4]; rfl⟩)
/-- where a static field lies, its class's statics cell in H -/
def vx_L (C n d : String) (A : Nat → Prop) (U : State) (H : Heap) : Prop := ∃ (c : ClassId) (k : Class) (i : Nat) (f : Field) (a : Nat) (cell : Cell), U.vm.findClass C = some c ∧ U.fieldFound? C n d = some (c, k, i, f) ∧ f.isStatic = true ∧ k.statics = some a ∧ H[a]? = some cell ∧ cell.vm.isStatics = true ∧ cell.cls = c ∧ f.slot < cell.slots.size ∧ k.staticTypes[f.slot]? = some f.type ∧ ¬ A a
theorem vx_L.moved {C n d : String} {A : Nat → Prop} {u U : State} {H : Heap} (hvm : u.vm.Alike U.vm) (h : vx_L C n d A u H) : vx_L C n d A U H := by
  obtain ⟨c, k, i, f, a, cell, h1, h2, h3, h4, h5, h6, h7, h8, h9, h10⟩ := h
  obtain ⟨k', hi', he⟩ := State.fieldFound?_setVm hvm h2
  exact ⟨c, k', i, f, a, cell, by rw [hvm.findClass]; exact h1, hi', h3, by rw [he]; exact h4, h5, h6, h7, h8, by rw [he]; exact h9, h10⟩
theorem vx_L.kept {C n d : String} {A : Nat → Prop} {U : State} {H H1 : Heap} (h : vx_L C n d A U H) (hq : ∀ a : Nat, a < H.size → ¬ A a → H1[a]? = H[a]?) : vx_L C n d A U H1 := by
  obtain ⟨c, k, i, f, a, cell, h1, h2, h3, h4, h5, h6, h7, h8, h9, h10⟩ := h
  exact ⟨c, k, i, f, a, cell, h1, h2, h3, h4, by rw [hq a (Array.getElem?_eq_some_iff.mp h5).1 h10]; exact h5, h6, h7, h8, h9, h10⟩
theorem vx_L.narrow {C n d : String} {A B : Nat → Prop} {U : State} {H : Heap} (h : vx_L C n d A U H) (hAB : ∀ q, B q → A q) : vx_L C n d B U H := by
  obtain ⟨c, k, i, f, a, cell, h1, h2, h3, h4, h5, h6, h7, h8, h9, h10⟩ := h
  exact ⟨c, k, i, f, a, cell, h1, h2, h3, h4, h5, h6, h7, h8, h9, fun z => h10 (hAB _ z)⟩
theorem vx_L.word {C n d : String} {A : Nat → Prop} {s : State} {args : Array Value} (h : vx_L C n d A s s.heap) : (Cond.laysStatic C n d).before args s = true := by
  obtain ⟨c, k, i, f, a, cell, h1, h2, h3, h4, h5, h6, h7, h8, h9, -⟩ := h
  show (Cond.laysStatic C n d).holds args s none s [] = true
  exact Cond.laysStatic_of h1 h2 h3 h4 h5 h6 h7 h8 h9
/-- .. and what it holds: null or some reference -/
def vx_Zq (C n d : String) (A : Nat → Prop) (U : State) (H : Heap) : Prop := va_Zq C n d A U H ∧ vx_L C n d A U H
theorem vx_Zq.moved {C n d : String} {A : Nat → Prop} {u U : State} {H : Heap} (hvm : u.vm.Alike U.vm) (h : vx_Zq C n d A u H) : vx_Zq C n d A U H := ⟨va_Zq.moved hvm h.1, vx_L.moved hvm h.2⟩
theorem vx_Zq.kept {C n d : String} {A : Nat → Prop} {U : State} {H H1 : Heap} (h : vx_Zq C n d A U H) (hq : ∀ a : Nat, a < H.size → ¬ A a → H1[a]? = H[a]?) : vx_Zq C n d A U H1 := ⟨va_Zq.kept h.1 hq, vx_L.kept h.2 hq⟩
theorem vx_Zq.narrow {C n d : String} {A B : Nat → Prop} {U : State} {H : Heap} (h : vx_Zq C n d A U H) (hAB : ∀ q, B q → A q) : vx_Zq C n d B U H := ⟨va_Zq.narrow h.1 hAB, vx_L.narrow h.2 hAB⟩
theorem vx_Zqof {args : Array Value} {s : State} {C n d : String} {A : Nat → Prop} (hl : (Cond.laysStatic C n d).before args s = true) (hini : (Cond.initialized C).before args s = true) (h : (Cond.isRef (.static C n d)).before args s = true) (hA : ∀ a : Nat, a < s.heap.size → ¬ A a) : vx_Zq C n d A s s.heap := by
  refine ⟨va_Zqof hl hini h hA, ?_⟩
  obtain ⟨c, k, i, f, a, cell, h1, h2, h3, h4, h5, h6, h7, h8, h9⟩ := Cond.laysStatic_spec hl
  exact ⟨c, k, i, f, a, cell, h1, h2, h3, h4, h5, h6, h7, h8, h9, hA a (Array.getElem?_eq_some_iff.mp h5).1⟩
theorem vx_isRef {C n d : String} {v : Value} {A : Nat → Prop} {s : State} {args : Array Value} (h : va_Z C n d v A s s.heap) (hv : v.isRef = true) : (Cond.isRef (.static C n d)).before args s = true := by
  obtain ⟨cf, kf, fi, f, a, cell, h1, h2, h3, h4, h5, h6, h7, -⟩ := h
  have he : (Term.static C n d).eval args s none [] s = some v := by
    simp [Term.eval, State.fieldNamed?, h1, h2, h4, h5, h6, h7]
  simp only [Cond.before, Cond.holds, Cond.value, he]
  cases v <;> simp_all [Value.isRef]
theorem vx_isRefq {C n d : String} {A : Nat → Prop} {s : State} {args : Array Value} (h : va_Zq C n d A s s.heap) : (Cond.isRef (.static C n d)).before args s = true := by
  rcases h with h | ⟨t, h⟩
  · exact vx_isRef h rfl
  · exact vx_isRef h rfl
/-- the same frame, seen from here: as if the method were called anew in this heap -/
theorem vx_rebase {T : State} (X : Stand p l e R s m args below meth c T locs cells slots) {R' : Room} (hf : R'.frames ≤ R.frames) (hl : R'.locals ≤ R.locals) (hc : cells + R'.cells ≤ R.cells) (hs : slots + R'.slots ≤ R.slots) :
    Stand p l e R' ((T.setVm s.vm).setFrames (.invoking m args :: below)) m args below meth c T [] 0 0 := by
  have htop : (T.setVm s.vm).topJava?.isSome := X.here.top
  have hF : ((T.setVm s.vm).setFrames (.invoking m args :: below)).frames = .invoking m args :: below := State.frames_setFrames _ (State.cur_lt_of_top htop)
  obtain ⟨g₀, hg0⟩ := Option.isSome_iff_exists.mp htop
  obtain ⟨r, hr⟩ := State.topJava?_eq_some.mp hg0
  have hl9 : e.platform.stackLimits (T.setVm s.vm).me = e.platform.stackLimits s.me := X.limits
  have hb9 : (T.setVm s.vm).me.stackBytes = s.me.stackBytes := X.bytes
  refine ⟨X.admits, X.cas, X.clock, hF, ?_, X.hears, X.method, X.code, X.here, X.tail, X.warmed, ?_, ?_, ?_⟩
  · have h := X.room
    have hU : ((T.setVm s.vm).setFrames (.invoking m args :: below)).localsInUse = s.localsInUse := by
      rw [State.localsInUse_invoking hF (meth := meth) (c := c) X.method X.code, State.localsInUse_invoking X.frames X.method X.code]
    simp only [State.hasRoom, Bool.and_eq_true, decide_eq_true_eq] at h ⊢
    obtain ⟨⟨⟨⟨h1, h2, h3, h4, h5, h6⟩, h7⟩, h8⟩, h9⟩ := h
    rw [X.frames, List.length_cons] at h2 h3
    have q1 := X.heapSize
    have q2 := X.used
    simp only [hF, hU, List.length_cons, State.stackLimits_setFrames, State.stackBytes_setFrames, hl9, hb9]
    refine ⟨⟨⟨⟨by omega, by omega, by omega, by omega, by omega, h6⟩, ?_⟩, ?_⟩, X.book⟩
    · show T.heap.size + R'.cells ≤ e.platform.maxCells
      omega
    · show T.slotsUsed + R'.slots ≤ e.platform.maxSlots
      omega
  · rw [State.stackLimits_setFrames]; rfl
  · rw [State.stackBytes_setFrames]; rfl
  · refine ⟨?_, Nat.le_refl _, Nat.le_refl _, ?_, ?_, fun a c9 h9 => ⟨c9, h9, rfl, rfl, fun _ _ => rfl⟩⟩
    · obtain ⟨t, ht, -⟩ := State.frames_cons hr
      show T.setVm s.vm = { ((T.setVm s.vm).setFrames (.invoking m args :: below)).setFrames (T.setVm s.vm).frames with heap := T.heap, slotsUsed := T.slotsUsed }
      rw [State.setFrames_setFrames, State.setFrames_self ht]
      rfl
    · show T.slotsUsed = T.slotsUsed + ((T.heap.toList.drop T.heap.size).map (·.slots.size)).sum
      rw [List.drop_eq_nil_of_le (Nat.le_of_eq Array.length_toList)]
      rfl
    · show ((T.heap.toList.drop T.heap.size).map (·.slots.size)).sum ≤ 0
      rw [List.drop_eq_nil_of_le (Nat.le_of_eq Array.length_toList)]
      exact Nat.le_refl _
/-- 'throw new E()': new; dup; invokespecial; athrow -/
theorem vx_throw0 {cc : ByteArray} {pc : Nat} (hexec : p.tables.exec = Jvm.exec) (hb : c.code = cc) (hl : l.stackTraces = false) {own cls : String} {names : List String} {ik ic mc ms : Nat} {A : Nat → Prop}
    (hown : s.vm.findClass own = some m.cls) (hcls : Bundle.fit cls = true) (hnames : ∀ n ∈ names, Bundle.fit n = true)
    (hk : (Cond.classLink own ik cls).before args s = true) (hini : (Cond.initialized cls).before args s = true) (hat : ∀ w ∈ vx_at0 own ic cls names, w.before args s = true)
    (hgood : ∀ w ∈ Cond.classLink own ik cls :: Cond.initialized cls :: vx_at0 own ic cls names, vx_ot w = true)
    (hU : vx_Zq Bundle.tN "UNASSIGNED_STACK" Bundle.steD A s s.heap) (hN : vx_Zq Bundle.tN "SUPPRESSED_SENTINEL" Bundle.listD A s s.heap) (hS : va_S A s.heap H locs) (hsize : ls.size = c.maxLocals)
    (d0 : decode cc pc = .ok (.new ik, 3)) (d3 : decode cc (pc + 3) = .ok (.dup, 1)) (d4 : decode cc (pc + 4) = .ok (.invokespecial ic, 3)) (d7 : decode cc (pc + 7) = .ok (.athrow, 1))
    (hout : ∀ x ∈ c.exceptionTable.toList, covers x (pc + 7) = false)
    (hRframes : names.length + 3 < R.frames) (hRlocals : (rest.map fun v => v.category).sum + (13 * (names.length + 1) + 42) ≤ R.locals) (hRcells : cells + 1 ≤ R.cells) (hRslots : slots + 6 ≤ R.slots) (hlocks : meth.locks = false)
    (hx : ∀ t : State, s.vm.Alike t.vm → H.size ≤ t.heap.size → (∀ q : Nat, q < H.size → t.heap[q]? = H[q]?) → XC cls s t)
    (hf : ∀ z ∈ locs, free z.base) (hc : cells + 1 ≤ mc) (hs : slots + 6 ≤ ms) :
    W p l e R s m args below meth c H locs cells slots (vx_MQ below Qc XC args s mc ms free) (F0 m pc ls rest) := by
  intro T hT X
  have htr : e.platform.stackTraces = false := (show e.platform.stackTraces = l.stackTraces by rw [X.admits.platform]).trans hl
  have Y := vx_rebase X (R' := { frames := R.frames, locals := R.locals, cells := 1, slots := 6 }) (Nat.le_refl _) (Nat.le_refl _) hRcells hRslots
  obtain ⟨s', hA⟩ : ∃ z, z = (T.setVm s.vm).setFrames (.invoking m args :: below) := ⟨_, rfl⟩
  rw [← hA] at Y
  have hvm : s'.vm = s.vm := by rw [hA]; rfl
  have hhp : s'.heap = H := by rw [hA]; exact hT
  have hW0 : s.WarmedH s'.vm := by rw [hvm]; exact State.WarmedH.refl s
  have hat' : ∀ w ∈ vx_at0 own ic cls names, w.before args s' = true := fun w hw => vx_ot_at hW0 hvm.symm (hgood w (List.mem_cons_of_mem _ (List.mem_cons_of_mem _ hw))) (hat w hw)
  have hk' : (Cond.classLink own ik cls).before args s' = true := vx_ot_at hW0 hvm.symm (hgood _ List.mem_cons_self) hk
  have hini' : (Cond.initialized cls).before args s' = true := vx_ot_at hW0 hvm.symm (hgood _ (List.mem_cons_of_mem _ List.mem_cons_self)) hini
  have hU' : vx_Zq Bundle.tN "UNASSIGNED_STACK" Bundle.steD A s' s'.heap := by rw [hhp]; exact vx_Zq.moved hW0.alike (hU.kept hS.2.1)
  have hN' : vx_Zq Bundle.tN "SUPPRESSED_SENTINEL" Bundle.listD A s' s'.heap := by rw [hhp]; exact vx_Zq.moved hW0.alike (hN.kept hS.2.1)
  have h : ∀ w ∈ Bundle.ownAtoms0 own ic cls names, w.before args s' = true := vx_own hat' (vx_isRefq hU'.1) (vx_isRefq hN'.1) hU'.2.word hN'.2.word
  have hown' : s'.vm.findClass own = some m.cls := by rw [hvm]; exact hown
  have hins : (Cond.instantiable cls 6).before args s' = true := h _ (by simp [Bundle.ownAtoms0])
  obtain ⟨vm₁, cX, kX, hfX, hkX, -, -, X₁, st1⟩ := Y.newCold hexec (own := own) (C := cls) (index := ik) (n := 6) hown' hk' hins hini'
    (g := F0 m pc ls rest) rfl (by rw [hb]; exact d0) (Nat.le_refl _) (Nat.le_refl _)
  generalize hT1 : (T.setVm vm₁).pushCell { cls := cX, slots := kX.instanceTypes.map defaultValue, vm := .none } = T1 at X₁ st1
  have hcat : (Value.ref T.heap.size).category = 1 := rfl
  have hcellA : T1.heap[T.heap.size]? = some (freshCell cX kX) := by rw [← hT1]; exact State.heap_pushCell_size _ _
  have d3' : decode c.code (pc + 3) = .ok (.dup, 1) := by rw [hb]; exact d3
  obtain ⟨U, hsteps, hrun, hend, hW, hsame, ce, hce, hO⟩ := X₁.ctorThrow0 hexec htr (own := own) (cls := cls) (names := names) (ic := ic) hown' hcls hnames h (fun x hx => nomatch hx) hfX hkX hcellA (by rw [hhp, hT]; exact Nat.le_refl _)
    (g := { method := m, pc := pc + 4, locals := ls, stack := .ref T.heap.size :: .ref T.heap.size :: rest, locked := none }) rfl hsize rfl rfl (rest := rest) rfl
    (by rw [hb]; exact d4) (by rw [hb]; exact d7) hout hRframes (by simp only [List.map_cons, List.sum_cons, hcat]; omega) hlocks
  obtain ⟨f1, f2⟩ := vx_frame hsame
  rw [hhp] at f1 f2
  have hWs : s.WarmedH U.vm := State.WarmedH.trans hW0 hW
  have hcl : s.vm.findClass cls = some ce.cls := by
    have h9 := hO.cls
    rw [hvm] at h9
    exact h9
  have hall : s.sameButNew ({ U with vm := s.vm } : State) locs mc ms := by
    subst hA
    obtain ⟨e1, e2⟩ := hsame
    rw [State.setFrames_setFrames] at e1
    have h2 : (T.setVm s.vm).sameButNew ({ U with vm := s.vm } : State) [] (0 + 1) (0 + 6) := ⟨e1, e2⟩
    have h3 := X.same.trans h2
    rw [List.append_nil] at h3
    exact h3.mono hc hs
  refine ⟨U, ?_, .threw T.heap.size, hrun, hend, Or.inr ⟨T.heap.size, rfl, cls, ce, locs, hx U hWs.alike f1 (fun q hq => f2 q hq (fun z hz => nomatch hz)), hce, hO.vm, hcl, hWs, hall, hf⟩⟩
  refine st1 _ ?_
  show Steps p.tables e below (T1.setTop { method := m, pc := pc + 3, locals := ls, stack := .ref T.heap.size :: rest, locked := none }) _
  jvm_step X₁.here [X₁.here.top, hexec, d3', Value.category]
  exact hsteps
/-- 'throw new E("text")': new; dup; ldc; invokespecial; athrow -/
theorem vx_throwS {cc : ByteArray} {pc : Nat} (hexec : p.tables.exec = Jvm.exec) (hb : c.code = cc) (hl : l.stackTraces = false) {own cls text : String} {names : List String} {ik is ic mc ms sa : Nat} {A : Nat → Prop}
    (hown : s.vm.findClass own = some m.cls) (hcls : Bundle.fit cls = true) (hnames : ∀ n ∈ names, Bundle.fit n = true)
    (hk : (Cond.classLink own ik cls).before args s = true) (hini : (Cond.initialized cls).before args s = true) (hstr : vk_R own is text sa s) (hat : ∀ w ∈ vx_atS own ic cls names, w.before args s = true)
    (hgood : ∀ w ∈ Cond.classLink own ik cls :: Cond.initialized cls :: vx_atS own ic cls names, vx_ot w = true)
    (hU : vx_Zq Bundle.tN "UNASSIGNED_STACK" Bundle.steD A s s.heap) (hN : vx_Zq Bundle.tN "SUPPRESSED_SENTINEL" Bundle.listD A s s.heap) (hS : va_S A s.heap H locs) (hsize : ls.size = c.maxLocals)
    (d0 : decode cc pc = .ok (.new ik, 3)) (d3 : decode cc (pc + 3) = .ok (.dup, 1)) (d4 : decode cc (pc + 4) = .ok (.ldc is, 2)) (d6 : decode cc (pc + 6) = .ok (.invokespecial ic, 3)) (d9 : decode cc (pc + 9) = .ok (.athrow, 1))
    (hout : ∀ x ∈ c.exceptionTable.toList, covers x (pc + 9) = false)
    (hRframes : names.length + 3 < R.frames) (hRlocals : (rest.map fun v => v.category).sum + (13 * (names.length + 1) + 43) ≤ R.locals) (hRcells : cells + 1 ≤ R.cells) (hRslots : slots + 6 ≤ R.slots) (hlocks : meth.locks = false)
    (hx : ∀ t : State, s.vm.Alike t.vm → H.size ≤ t.heap.size → (∀ q : Nat, q < H.size → t.heap[q]? = H[q]?) → XC cls s t)
    (hf : ∀ z ∈ locs, free z.base) (hc : cells + 1 ≤ mc) (hs : slots + 6 ≤ ms) :
    W p l e R s m args below meth c H locs cells slots (vx_MQ below Qc XC args s mc ms free) (F0 m pc ls rest) := by
  intro T hT X
  have htr : e.platform.stackTraces = false := (show e.platform.stackTraces = l.stackTraces by rw [X.admits.platform]).trans hl
  have Y := vx_rebase X (R' := { frames := R.frames, locals := R.locals, cells := 1, slots := 6 }) (Nat.le_refl _) (Nat.le_refl _) hRcells hRslots
  obtain ⟨s', hA⟩ : ∃ z, z = (T.setVm s.vm).setFrames (.invoking m args :: below) := ⟨_, rfl⟩
  rw [← hA] at Y
  have hvm : s'.vm = s.vm := by rw [hA]; rfl
  have hhp : s'.heap = H := by rw [hA]; exact hT
  have hW0 : s.WarmedH s'.vm := by rw [hvm]; exact State.WarmedH.refl s
  have hat' : ∀ w ∈ vx_atS own ic cls names, w.before args s' = true := fun w hw => vx_ot_at hW0 hvm.symm (hgood w (List.mem_cons_of_mem _ (List.mem_cons_of_mem _ hw))) (hat w hw)
  have hk' : (Cond.classLink own ik cls).before args s' = true := vx_ot_at hW0 hvm.symm (hgood _ List.mem_cons_self) hk
  have hini' : (Cond.initialized cls).before args s' = true := vx_ot_at hW0 hvm.symm (hgood _ (List.mem_cons_of_mem _ List.mem_cons_self)) hini
  have hU' : vx_Zq Bundle.tN "UNASSIGNED_STACK" Bundle.steD A s' s'.heap := by rw [hhp]; exact vx_Zq.moved hW0.alike (hU.kept hS.2.1)
  have hN' : vx_Zq Bundle.tN "SUPPRESSED_SENTINEL" Bundle.listD A s' s'.heap := by rw [hhp]; exact vx_Zq.moved hW0.alike (hN.kept hS.2.1)
  have h : ∀ w ∈ Bundle.ownAtoms own ic cls names, w.before args s' = true := vx_own hat' (vx_isRefq hU'.1) (vx_isRefq hN'.1) hU'.2.word hN'.2.word
  have hown' : s'.vm.findClass own = some m.cls := by rw [hvm]; exact hown
  have hins : (Cond.instantiable cls 6).before args s' = true := h _ (by simp [Bundle.ownAtoms])
  obtain ⟨vm₁, cX, kX, hfX, hkX, -, -, X₁, st1⟩ := Y.newCold hexec (own := own) (C := cls) (index := ik) (n := 6) hown' hk' hins hini'
    (g := F0 m pc ls rest) rfl (by rw [hb]; exact d0) (Nat.le_refl _) (Nat.le_refl _)
  generalize hT1 : (T.setVm vm₁).pushCell { cls := cX, slots := kX.instanceTypes.map defaultValue, vm := .none } = T1 at X₁ st1
  have hcat : (Value.ref T.heap.size).category = 1 := rfl
  have hcellA : T1.heap[T.heap.size]? = some (freshCell cX kX) := by rw [← hT1]; exact State.heap_pushCell_size _ _
  have d3' : decode c.code (pc + 3) = .ok (.dup, 1) := by rw [hb]; exact d3
  have d4' : decode c.code (pc + 4) = .ok (.ldc is, 2) := by rw [hb]; exact d4
  have hstr' : vk_R own is text sa s' := vk_R.warm hW0 hstr
  obtain ⟨U, hsteps, hrun, hend, hW, hsame, ce, hce, hO⟩ := X₁.ctorThrowS hexec htr (own := own) (cls := cls) (names := names) (ic := ic) hown' hcls hnames h (fun x hx => nomatch hx) hfX hkX hcellA (by rw [hhp, hT]; exact Nat.le_refl _) (msg := .ref sa) rfl
    (g := { method := m, pc := pc + 6, locals := ls, stack := .ref sa :: .ref T.heap.size :: .ref T.heap.size :: rest, locked := none }) rfl hsize rfl rfl (rest := rest) rfl
    (by rw [hb]; exact d6) (by rw [hb]; exact d9) hout hRframes (by simp only [List.map_cons, List.sum_cons, hcat]; omega) hlocks
  obtain ⟨f1, f2⟩ := vx_frame hsame
  rw [hhp] at f1 f2
  have hWs : s.WarmedH U.vm := State.WarmedH.trans hW0 hW
  have hcl : s.vm.findClass cls = some ce.cls := by
    have h9 := hO.cls
    rw [hvm] at h9
    exact h9
  have hall : s.sameButNew ({ U with vm := s.vm } : State) locs mc ms := by
    subst hA
    obtain ⟨e1, e2⟩ := hsame
    rw [State.setFrames_setFrames] at e1
    have h2 : (T.setVm s.vm).sameButNew ({ U with vm := s.vm } : State) [] (0 + 1) (0 + 6) := ⟨e1, e2⟩
    have h3 := X.same.trans h2
    rw [List.append_nil] at h3
    exact h3.mono hc hs
  refine ⟨U, ?_, .threw T.heap.size, hrun, hend, Or.inr ⟨T.heap.size, rfl, cls, ce, locs, hx U hWs.alike f1 (fun q hq => f2 q hq (fun z hz => nomatch hz)), hce, hO.vm, hcl, hWs, hall, hf⟩⟩
  refine st1 _ ?_
  show Steps p.tables e below (T1.setTop { method := m, pc := pc + 3, locals := ls, stack := .ref T.heap.size :: rest, locked := none }) _
  jvm_step X₁.here [X₁.here.top, hexec, d3', Value.category]
  exact X₁.ldcString hexec (own := own) (text := text) (index := is) (a := sa) hown' hstr'.1 hstr'.2
    (g := { method := m, pc := pc + 4, locals := ls, stack := .ref T.heap.size :: .ref T.heap.size :: rest, locked := none }) rfl d4' _ hsteps
/-- 'throw new E("text")', the text by a wide index -/
theorem vx_throwSW {cc : ByteArray} {pc : Nat} (hexec : p.tables.exec = Jvm.exec) (hb : c.code = cc) (hl : l.stackTraces = false) {own cls text : String} {names : List String} {ik is ic mc ms sa : Nat} {A : Nat → Prop}
    (hown : s.vm.findClass own = some m.cls) (hcls : Bundle.fit cls = true) (hnames : ∀ n ∈ names, Bundle.fit n = true)
    (hk : (Cond.classLink own ik cls).before args s = true) (hini : (Cond.initialized cls).before args s = true) (hstr : vk_R own is text sa s) (hat : ∀ w ∈ vx_atS own ic cls names, w.before args s = true)
    (hgood : ∀ w ∈ Cond.classLink own ik cls :: Cond.initialized cls :: vx_atS own ic cls names, vx_ot w = true)
    (hU : vx_Zq Bundle.tN "UNASSIGNED_STACK" Bundle.steD A s s.heap) (hN : vx_Zq Bundle.tN "SUPPRESSED_SENTINEL" Bundle.listD A s s.heap) (hS : va_S A s.heap H locs) (hsize : ls.size = c.maxLocals)
    (d0 : decode cc pc = .ok (.new ik, 3)) (d3 : decode cc (pc + 3) = .ok (.dup, 1)) (d4 : decode cc (pc + 4) = .ok (.ldc_w is, 3)) (d7 : decode cc (pc + 7) = .ok (.invokespecial ic, 3)) (d10 : decode cc (pc + 10) = .ok (.athrow, 1))
    (hout : ∀ x ∈ c.exceptionTable.toList, covers x (pc + 10) = false)
    (hRframes : names.length + 3 < R.frames) (hRlocals : (rest.map fun v => v.category).sum + (13 * (names.length + 1) + 43) ≤ R.locals) (hRcells : cells + 1 ≤ R.cells) (hRslots : slots + 6 ≤ R.slots) (hlocks : meth.locks = false)
    (hx : ∀ t : State, s.vm.Alike t.vm → H.size ≤ t.heap.size → (∀ q : Nat, q < H.size → t.heap[q]? = H[q]?) → XC cls s t)
    (hf : ∀ z ∈ locs, free z.base) (hc : cells + 1 ≤ mc) (hs : slots + 6 ≤ ms) :
    W p l e R s m args below meth c H locs cells slots (vx_MQ below Qc XC args s mc ms free) (F0 m pc ls rest) := by
  intro T hT X
  have htr : e.platform.stackTraces = false := (show e.platform.stackTraces = l.stackTraces by rw [X.admits.platform]).trans hl
  have Y := vx_rebase X (R' := { frames := R.frames, locals := R.locals, cells := 1, slots := 6 }) (Nat.le_refl _) (Nat.le_refl _) hRcells hRslots
  obtain ⟨s', hA⟩ : ∃ z, z = (T.setVm s.vm).setFrames (.invoking m args :: below) := ⟨_, rfl⟩
  rw [← hA] at Y
  have hvm : s'.vm = s.vm := by rw [hA]; rfl
  have hhp : s'.heap = H := by rw [hA]; exact hT
  have hW0 : s.WarmedH s'.vm := by rw [hvm]; exact State.WarmedH.refl s
  have hat' : ∀ w ∈ vx_atS own ic cls names, w.before args s' = true := fun w hw => vx_ot_at hW0 hvm.symm (hgood w (List.mem_cons_of_mem _ (List.mem_cons_of_mem _ hw))) (hat w hw)
  have hk' : (Cond.classLink own ik cls).before args s' = true := vx_ot_at hW0 hvm.symm (hgood _ List.mem_cons_self) hk
  have hini' : (Cond.initialized cls).before args s' = true := vx_ot_at hW0 hvm.symm (hgood _ (List.mem_cons_of_mem _ List.mem_cons_self)) hini
  have hU' : vx_Zq Bundle.tN "UNASSIGNED_STACK" Bundle.steD A s' s'.heap := by rw [hhp]; exact vx_Zq.moved hW0.alike (hU.kept hS.2.1)
  have hN' : vx_Zq Bundle.tN "SUPPRESSED_SENTINEL" Bundle.listD A s' s'.heap := by rw [hhp]; exact vx_Zq.moved hW0.alike (hN.kept hS.2.1)
  have h : ∀ w ∈ Bundle.ownAtoms own ic cls names, w.before args s' = true := vx_own hat' (vx_isRefq hU'.1) (vx_isRefq hN'.1) hU'.2.word hN'.2.word
  have hown' : s'.vm.findClass own = some m.cls := by rw [hvm]; exact hown
  have hins : (Cond.instantiable cls 6).before args s' = true := h _ (by simp [Bundle.ownAtoms])
  obtain ⟨vm₁, cX, kX, hfX, hkX, -, -, X₁, st1⟩ := Y.newCold hexec (own := own) (C := cls) (index := ik) (n := 6) hown' hk' hins hini'
    (g := F0 m pc ls rest) rfl (by rw [hb]; exact d0) (Nat.le_refl _) (Nat.le_refl _)
  generalize hT1 : (T.setVm vm₁).pushCell { cls := cX, slots := kX.instanceTypes.map defaultValue, vm := .none } = T1 at X₁ st1
  have hcat : (Value.ref T.heap.size).category = 1 := rfl
  have hcellA : T1.heap[T.heap.size]? = some (freshCell cX kX) := by rw [← hT1]; exact State.heap_pushCell_size _ _
  have d3' : decode c.code (pc + 3) = .ok (.dup, 1) := by rw [hb]; exact d3
  have d4' : decode c.code (pc + 4) = .ok (.ldc_w is, 3) := by rw [hb]; exact d4
  have hstr' : vk_R own is text sa s' := vk_R.warm hW0 hstr
  obtain ⟨U, hsteps, hrun, hend, hW, hsame, ce, hce, hO⟩ := X₁.ctorThrowS hexec htr (own := own) (cls := cls) (names := names) (ic := ic) hown' hcls hnames h (fun x hx => nomatch hx) hfX hkX hcellA (by rw [hhp, hT]; exact Nat.le_refl _) (msg := .ref sa) rfl
    (g := { method := m, pc := pc + 7, locals := ls, stack := .ref sa :: .ref T.heap.size :: .ref T.heap.size :: rest, locked := none }) rfl hsize rfl rfl (rest := rest) rfl
    (by rw [hb]; exact d7) (by rw [hb]; exact d10) hout hRframes (by simp only [List.map_cons, List.sum_cons, hcat]; omega) hlocks
  obtain ⟨f1, f2⟩ := vx_frame hsame
  rw [hhp] at f1 f2
  have hWs : s.WarmedH U.vm := State.WarmedH.trans hW0 hW
  have hcl : s.vm.findClass cls = some ce.cls := by
    have h9 := hO.cls
    rw [hvm] at h9
    exact h9
  have hall : s.sameButNew ({ U with vm := s.vm } : State) locs mc ms := by
    subst hA
    obtain ⟨e1, e2⟩ := hsame
    rw [State.setFrames_setFrames] at e1
    have h2 : (T.setVm s.vm).sameButNew ({ U with vm := s.vm } : State) [] (0 + 1) (0 + 6) := ⟨e1, e2⟩
    have h3 := X.same.trans h2
    rw [List.append_nil] at h3
    exact h3.mono hc hs
  refine ⟨U, ?_, .threw T.heap.size, hrun, hend, Or.inr ⟨T.heap.size, rfl, cls, ce, locs, hx U hWs.alike f1 (fun q hq => f2 q hq (fun z hz => nomatch hz)), hce, hO.vm, hcl, hWs, hall, hf⟩⟩
  refine st1 _ ?_
  show Steps p.tables e below (T1.setTop { method := m, pc := pc + 3, locals := ls, stack := .ref T.heap.size :: rest, locked := none }) _
  jvm_step X₁.here [X₁.here.top, hexec, d3', Value.category]
  exact X₁.ldcStringW hexec (own := own) (text := text) (index := is) (a := sa) hown' hstr'.1 hstr'.2
    (g := { method := m, pc := pc + 4, locals := ls, stack := .ref T.heap.size :: .ref T.heap.size :: rest, locked := none }) rfl d4' _ hsteps
end Ends
section Bodies
variable {l : Launch}
theorem vx_ofW {y : MethodName} {ws ws' : List Cond} {rm : Room} {Pc : Array Value → State → Prop} {Qc : Array Value → State → Outcome → State → Prop} {XC : String → State → State → Prop} {mc ms : Nat} {free : Addr → Prop} {cc : ByteArray} {maxL : Nat} {ret : Option FieldType}
    (hy : plainName y.cls = true) (hw : ws = Cond.code y cc maxL ret :: ws')
    (body : ∀ p e s m args below meth c s₁, BodyLoose p l y (headSpec ws rm) cc maxL ret e s m args below meth c s₁ → c.maxLocals = maxL → (∀ x ∈ c.exceptionTable.toList, False) → Pc args s →
      W p l e (headSpec ws rm).room s m args below meth c s.heap [] 0 0 (vx_MQ below Qc XC args s mc ms free) (entryFrame m args maxL)) : vx_Met l y ws rm Pc Qc XC mc ms free := by
  refine MetFree.of_bodyS (code := cc) (maxLocals := maxL) (ret := ret) hy ?_ ?_
  · intro args s m h hn
    obtain ⟨meth, c, h1, h2, h3, h4, h5, h6, -, -⟩ := Cond.code_spec hn (atoms_spec (ws := ws) h _ (by rw [hw]; exact List.mem_cons_self))
    exact ⟨meth, c, h1, h2, h3, h4, h5, h6⟩
  · intro p e s m args below meth c s₁ B hml hP _
    have hh0 : s₁.heap = s.heap := by rw [B.state]; rfl
    have ht : ∀ x ∈ c.exceptionTable.toList, False := by
      obtain ⟨meth9, c9, h1, h2, -, -, -, -, h7, -⟩ := Cond.code_spec B.named (atoms_spec (ws := ws) B.pre _ (by rw [hw]; exact List.mem_cons_self))
      cases Option.some.inj (h1.symm.trans B.method)
      cases Option.some.inj (h2.symm.trans (Stand.of_body B).code)
      intro x hx
      rw [Array.isEmpty_iff.mp h7] at hx
      cases hx
    obtain ⟨t, a1, o, b1, b2, b3⟩ := body p e s m args below meth c s₁ B hml ht hP s₁ hh0 (Stand.of_body B)
    exact ⟨t, o, a1, b1, b2, b3⟩
/-- the table of a body with handlers -/
theorem vx_table {p : Program} {x y : MethodName} {S : Spec} {cc bytes : ByteArray} {maxL maxL' : Nat} {ret ret' : Option FieldType} {e : Env} {s s₁ : State} {m : MethodId} {args : Array Value} {below : List Frame} {meth : Method} {c : Code} {hh : List (Nat × Nat × Nat × Nat)}
    (B : BodyLoose p l y S cc maxL ret e s m args below meth c s₁) (h : (Cond.codeWith y bytes maxL' ret' hh).before args s = true) : c.exceptionTable.toList = tableOf hh := by
  obtain ⟨m9, meth9, c9, hn9, h1, h2, -, -, h6, -⟩ := Cond.codeWith_spec h
  cases Option.some.inj (hn9.symm.trans B.named)
  cases Option.some.inj (h1.symm.trans B.method)
  cases Option.some.inj (h2.symm.trans (Stand.of_body B).code)
  rw [← h6, table_eq]
end Bodies
end VXA
/-! ===== END ===== -/
/-! ===== BEGIN a static call of a method with an exception table ===== -/
section VXS
variable {p : Program} {l : Launch} {e : Env} {R : Room} {s : State} {m : MethodId} {args : Array Value} {below : List Frame} {meth : Method} {c : Code} {T : State} {H : Heap} {locs : List Loc} {cells slots : Nat}
abbrev vx_CSW (R : Room) (s : State) (args : Array Value) (own : String) (index : Nat) (y : MethodName) (bytes : ByteArray) (maxL : Nat) (ret : Option FieldType) (hh : List (Nat × Nat × Nat × Nat)) (ws : List Cond) (rm : Room) (mc ms n : Nat) : Prop :=
  (rm.cells = mc ∧ rm.slots = ms ∧ rm.frames + 1 ≤ R.frames ∧ 8 + (maxL + 11) + rm.locals ≤ R.locals ∧ (∀ w ∈ ws, ∀ (a' : Array Value) (U : State), s.WarmedH U.vm → w.before a' U = true) ∧ Cond.codeWith y bytes maxL ret hh ∈ ws) ∧
  (Cond.codeWith y bytes maxL ret hh).before args s = true ∧ (Cond.initialized y.cls).before args s = true ∧ (y.cls ≠ "java/lang/invoke/MethodHandle" ∧ y.cls ≠ "java/lang/invoke/VarHandle") ∧
  (∀ sig, parseMethodDescriptor y.desc = some sig → n = sig.parameters.length) ∧ (Cond.methodLink own index y).before args s = true ∧ (Cond.static y).before args s = true
theorem vx_cwSW {own : String} {index maxL mc ms : Nat} {y : MethodName} {bytes : ByteArray} {ret : Option FieldType} {hh : List (Nat × Nat × Nat × Nat)} {Ts ws ws' : List Cond} {rm : Room} (n : Nat) (ht : ∀ w ∈ Ts, w.before args s = true) (hT : GoodIn Ts (va_wsS own index y ws)) (hw : ws = Cond.codeWith y bytes maxL ret hh :: ws') (hrc : rm.cells = mc) (hrs : rm.slots = ms)
    (hd : y.cls ≠ "java/lang/invoke/MethodHandle" ∧ y.cls ≠ "java/lang/invoke/VarHandle" ∧ (parseMethodDescriptor y.desc).map (fun d => d.parameters.length) = some n) (hR : rm.frames + 1 ≤ R.frames ∧ 8 + (maxL + 11) + rm.locals ≤ R.locals) :
    vx_CSW R s args own index y bytes maxL ret hh ws rm mc ms n := by
  have ok : ∀ w ∈ va_wsS own index y ws, w.before args s = true := fun w h => ht w (hT w h).1
  have hG : GoodIn Ts ws := fun w h => hT w (by unfold va_wsS; exact List.mem_append_right _ h)
  have hc : Cond.codeWith y bytes maxL ret hh ∈ ws := by rw [hw]; exact List.mem_cons_self
  refine ⟨⟨hrc, hrs, hR.1, hR.2, pay_in ht hG, hc⟩, ht _ (hG _ hc).1, ok _ (by simp [va_wsS]), ⟨hd.1, hd.2.1⟩, fun sig h => ?_, ok _ (by simp [va_wsS]), ok _ (by simp [va_wsS])⟩
  have h2 := hd.2.2
  rw [h] at h2
  exact (Option.some.inj h2).symm
theorem vx_callSW (X : Stand p l e R s m args below meth c T locs cells slots) (hexec : p.tables.exec = Jvm.exec) {own : String} {index : Nat} {y : MethodName} {bytes : ByteArray} {maxL : Nat} {ret : Option FieldType} {hh : List (Nat × Nat × Nat × Nat)}
    (hown : s.vm.findClass own = some m.cls) (hlink : (Cond.methodLink own index y).before args s = true) (hstat : (Cond.static y).before args s = true) (hinit : (Cond.initialized y.cls).before args s = true)
    (hcode : (Cond.codeWith y bytes maxL ret hh).before args s = true) (hy : y.cls ≠ "java/lang/invoke/MethodHandle" ∧ y.cls ≠ "java/lang/invoke/VarHandle")
    {W9 : Nat} {Pre : Pt → Array Value → Prop} {Post : Pt → Array Value → Option Value → Pt → Prop} (hK : Back l R p e below s args y 3 W9 Pre Post)
    {g : JFrame} (hg : g.method = m) (hsize : g.locals.size = c.maxLocals) {argsL rest : List Value} (hlen : ∀ sig, parseMethodDescriptor y.desc = some sig → argsL.length = sig.parameters.length)
    (hstack : g.stack = argsL.reverse ++ rest) (hW : 2 * g.monitorRoom + (rest.map fun v => v.category).sum ≤ W9) (hdg : decode c.code g.pc = .ok (.invokestatic index, 3))
    (hpre : ∀ vm₁, s.WarmedH vm₁ → Pre ⟨T.setVm vm₁, locs, cells, slots⟩ argsL.toArray) :
    ∃ (v : Option Value) (vm₁ : Vm) (B : Pt), s.WarmedH vm₁ ∧ Stand p l e R s m args below meth c B.U B.locs B.cells B.slots ∧ Post ⟨T.setVm vm₁, locs, cells, slots⟩ argsL.toArray v B ∧
      ∀ target, Steps p.tables e below (B.U.setTop { g with pc := g.pc + 3, stack := v.toList ++ rest }) target → Steps p.tables e below (T.setTop g) target := by
  obtain ⟨mk, methM, cM, hnamed, hmethM, -, -, -, -, -, -, hsigM⟩ := Cond.codeWith_spec hcode
  have hstatic : methM.isStatic = true := Cond.static_spec hnamed hmethM hstat
  obtain ⟨kP, hkP, -⟩ := className_of_methodNamed hnamed
  have hinitP : kP.init = .initialized := Cond.initialized_spec (findClass_of_methodNamed hnamed) hkP hinit
  obtain ⟨vm₁, X₁, hstep₁⟩ := X.invokestatic hexec hown hlink hnamed hmethM hstatic hkP hinitP hy (g := g) hg (argsL := argsL) (rest := rest) (hlen _ hsigM) hstack hdg
  obtain ⟨v, B, X', hpost, hsteps⟩ := hK m meth c ⟨T.setVm vm₁, locs, cells, slots⟩ { g with stack := rest } (.invokestatic index) mk argsL.toArray X₁ hg hsize hdg hW (X₁.named hnamed) (hpre vm₁ X₁.warmed)
  exact ⟨v, vm₁, B, X₁.warmed, X', hpost, fun target h => hstep₁ _ fun acts => by rw [doInvoke_state]; exact hsteps.trans h⟩
theorem vx_runSW {y : MethodName} {bytes cc : ByteArray} {maxL nL mc ms n index : Nat} {ret : Option FieldType} {hh : List (Nat × Nat × Nat × Nat)} {ws : List Cond} {rm : Room} {Pc : Array Value → State → Prop} {Qc : Array Value → State → Outcome → State → Prop} {free : Addr → Prop} {Ts : List Cond} {own : String} {As rest : List Value} {g : JFrame}
    (S : CallFix p m c cc nL s args Ts own) (hM : Met l y ws rm Pc Qc mc ms free) (cw : vx_CSW R s args own index y bytes maxL ret hh ws rm mc ms n) (hp : PreS s H Pc As)
    (hg : g.method = m) (hn : As.length = n) (hsize : g.locals.size = nL) (hstack : g.stack = As.reverse ++ rest) (hW : 2 * g.monitorRoom + (rest.map fun v => v.category).sum ≤ 8) (hdg : decode cc g.pc = .ok (.invokestatic index, 3)) (hf : cells + mc ≤ R.cells ∧ slots + ms ≤ R.slots) :
    va_Run p l e R s m args below meth c H locs cells slots mc ms g rest (Qc As.toArray) (free) := by
  obtain ⟨⟨hrc, hrs, hfr, hlo, hws, hcw⟩, hcode, hini, hy, hlen, hl, hstt⟩ := cw
  have hK : Back l R p e below s args y 3 8 (PreOf R mc ms Pc) (PostOf Qc mc ms free) := va_backW (hh := hh) (bytes := bytes) (maxL := maxL) (ret := ret) hM hp.1 hrc hrs hfr hlo hws hcw (fun a' U hW => word_at hW (Or.inl (by first | rfl | simp [Cond.onTables, Cond.keeps, Cond.steady])) hini)
  obtain ⟨hx, hb, hml, ho, -⟩ := S
  intro T hT X
  obtain ⟨v, vm₁, ⟨U', l2, c2, s2⟩, hW₁, X', ⟨g', mk, t, L, e1, e2, hq, h1, hL, h2, h3⟩, st⟩ := vx_callSW X hx (hh := hh) (bytes := bytes) (maxL := maxL) (ret := ret) ho hl hstt hini hcode hy hK hg (hsize.trans hml.symm) (argsL := As) (rest := rest) (fun sig h => hn.trans (hlen sig h)) hstack hW (by rw [hb]; exact hdg)
    (fun vm₁ hW₁ => ⟨hf.1, hf.2, hp.2 (T.setVm vm₁) hT hW₁⟩)
  dsimp only [Pt.U, Pt.locs, Pt.cells, Pt.slots] at X' e1 e2 h1 h2 h3 st
  subst h1; subst h2; subst h3
  exact ⟨v, (T.setVm vm₁).calling g' mk As.toArray, t, U', L, hT, X', hL, e1, e2, hq, st⟩
/-- not caught here, past rows that name other classes: it goes on to the caller -/
theorem vx_outP {p : Program} {l : Launch} {e : Env} {R : Room} {s : State} {m : MethodId} {args : Array Value} {below : List Frame} {meth : Method} {c : Code} {H : Heap} {locs : List Loc} {cells slots : Nat} {free : Addr → Prop} {ls : Array Slot} {rest : List Value} {Qc : Array Value → State → Outcome → State → Prop} {XC : String → State → State → Prop}
    {pc : Nat} {own E : String} {ce : Cell} {q : Addr} {mc ms : Nat} (hown : s.vm.findClass own = some m.cls) (hlocks : meth.locks = false)
    (hpass : ∀ z ∈ c.exceptionTable.toList, covers z pc = false ∨ (z.catchType ≠ 0 ∧ ∃ nm : String, (Cond.classLink own z.catchType nm).before args s = true ∧ va_Nc E nm s)) (hcell : H[q]? = some ce) (hv : ce.vm = .none) (hcl : s.vm.findClass E = some ce.cls)
    (hx : ∀ t : State, t.heap = H → s.vm.Alike t.vm → XC E s t) (hf : ∀ z ∈ locs, free z.base) (hc : cells ≤ mc) (hs : slots ≤ ms) :
    vx_W p l e R s m args below meth c H locs cells slots (vx_MQ below Qc XC args s mc ms free) (F0 m pc ls rest) q := by
  intro T hT X
  have hpl : e.platform.magicAccessors = ({} : Platform).magicAccessors := by rw [X.admits.platform]
  obtain ⟨vm', hW', X', st⟩ := X.outThrough hlocks q (g := F0 m pc ls rest) rfl rfl rfl (cell := ce) (by rw [hT]; exact hcell) (by rw [hv]; rfl)
    (by obtain ⟨k9, h9, -⟩ := Vm.findClass_spec hcl; exact ⟨k9, h9⟩) (fun z hz => by
      rcases hpass z hz with h | ⟨hz0, nm, hl1, hn1⟩
      · exact Or.inl h
      · obtain ⟨c6, hc6, hcl6⟩ := Cond.classLink_spec hown hl1 e.platform hpl
        obtain ⟨a8, b8, h1, h2, h3⟩ := hn1
        cases Option.some.inj (h1.symm.trans hcl)
        cases Option.some.inj (h2.symm.trans hc6)
        exact Or.inr ⟨hz0, _, hcl6, h3⟩)
  obtain ⟨g₀, hfr⟩ := X'.frames_eq
  have hcell9 : ((T.setVm vm').setFrames (.throwing q :: below)).heap[q]? = some ce := by
    show T.heap[q]? = some ce
    rw [hT]; exact hcell
  have hend : Ended ((T.setVm vm').setFrames (.throwing q :: below)) below (.threw q) := State.frames_setFrames _ (State.cur_lt_of_frames hfr)
  refine ⟨(T.setVm vm').setFrames (.throwing q :: below), ?_, .threw q, X'.here.running, hend, Or.inr ⟨q, rfl, E, ce, locs, hx _ hT (X'.ends _).1.alike, hcell9, hv, hcl, (X'.ends _).1, (X'.ends _).2.mono hc hs, hf⟩⟩
  rw [X.pushThrowing_eq]
  exact st
/-- a thing of a world lies in the heap -/
theorem vx_lt {D : va_G} {cl : List vw_C} {ws : va_W} {H1 : Heap} (h : va_P D cl ws H1) {k : Nat} {q : Nat × va_E} (hk : ws[k]? = some q) : q.1 < H1.size := (h k q hk).lt
end VXS
/-! ===== END ===== -/
/-! ===== BEGIN methods with a table of their own: called by a name, returning or throwing ===== -/
section VXH
/-! vx_backW, vx_callVX, vx_callSX, vx_callVW, vx_runVW, vx_runVX, vx_runSX, vx_ofWH follow the same proofs as their sisters above (Free/Laws.lean, Shelf42/LK1.lean); vx_outP calls Shelf42/NT130.lean (outThrough). -/
section
variable {l : Launch} {R : Room} {p : Program} {e : Env} {below : List Frame} {s : State} {sargs : Array Value} {y : MethodName} {len W9 : Nat}
theorem vx_backW {ws : List Cond} {rm : Room} {Pc : Array Value → State → Prop} {Qc : Array Value → State → Outcome → State → Prop} {XC : String → State → State → Prop} {mc ms : Nat} {free : Addr → Prop} {bytes : ByteArray} {maxL : Nat} {ret : Option FieldType} {hh : List (Nat × Nat × Nat × Nat)}
    (hM : vx_Met l y ws rm Pc Qc XC mc ms free) (hblind : FrameBlind Pc) (hrc : rm.cells = mc) (hrs : rm.slots = ms)
    (hframes : rm.frames + 1 ≤ R.frames) (hlocals : W9 + (maxL + 11) + rm.locals ≤ R.locals)
    (hws : ∀ w ∈ ws, ∀ a' U, s.WarmedH U.vm → w.before a' U = true) (hcode : Cond.codeWith y bytes maxL ret hh ∈ ws) (hinit : ∀ a' U, s.WarmedH U.vm → (Cond.initialized y.cls).before a' U = true) :
    vx_Back l R p e below s sargs y len W9 (PreOf R mc ms Pc) (PostOf Qc mc ms free) (vx_Post XC mc ms free) := by
  intro m meth c A g ig mk a X hg hsize hdg hW hn hp
  have h1 : (headSpec ws rm).pre.before a A.U = true := atoms_intro fun w hw => hws w hw _ _ X.warmed
  have h2 : (Cond.codeWith y bytes maxL ret hh).before a A.U = true := hws _ hcode _ _ X.warmed
  have h3 : (Cond.initialized y.cls).before a A.U = true := hinit _ _ X.warmed
  have h4 : A.cells + (headSpec ws rm).room.cells ≤ R.cells := by rw [show (headSpec ws rm).room.cells = mc from hrc]; exact hp.1
  have h5 : A.slots + (headSpec ws rm).room.slots ≤ R.slots := by rw [show (headSpec ws rm).room.slots = ms from hrs]; exact hp.2.1
  have hPc : Pc a (A.U.calling g mk a) := hblind _ _ _ _ hp.2.2
  obtain ⟨U, Ls, c0, s0⟩ := A
  dsimp only [Pt.U, Pt.locs, Pt.cells, Pt.slots] at h1 h2 h3 h4 h5 X hn hPc ⊢
  obtain ⟨m9, methY, cY, hn9, hmY, hcY, -, hlY, -⟩ := Cond.codeWith_spec h2
  cases Option.some.inj (hn9.symm.trans hn)
  obtain ⟨kY, hkY, -⟩ := className_of_methodNamed hn
  have hinitY : kY.init = .initialized := Cond.initialized_spec (findClass_of_methodNamed hn) hkY h3
  have h : At U g.method c below := by rw [hg]; exact X.here
  have hlocals9 : W9 + (maxL + 11) + (headSpec ws rm).room.locals ≤ R.locals := hlocals
  have happ : (headSpec ws rm).appliesLoose y e.platform (U.calling g mk a) = true :=
    Spec.appliesLoose_calling (g := g) h hdg hn hkY hinitY
      (X.room_calling (g := g) (R' := (headSpec ws rm).room) hsize hmY hcY hframes (by rw [hlY]; omega) h4 h5) h1
  obtain ⟨mid, hmid⟩ := h.above
  have hfr : (U.setTop g).frames = (.java g :: mid) ++ below := by rw [State.frames_setTop' g h.top, hmid]; rfl
  obtain ⟨o, s₂, hsteps, -, hend, hq⟩ := Steps.callFree hM p X.admits X.cas X.clock (acts := []) hfr happ hPc trivial
  have hq' : vx_Q Qc XC mc ms free a (U.calling g mk a) o s₂ := hq
  rw [State.frames_setTop' g h.top] at hend
  obtain ⟨g₀, hg0⟩ := Option.isSome_iff_exists.mp h.top
  obtain ⟨r, hr⟩ := State.topJava?_eq_some.mp hg0
  have hr' : (({ U with heap := s₂.heap, slotsUsed := s₂.slotsUsed } : State).setVm s₂.vm).frames = .java g₀ :: r := hr
  rcases hq' with ⟨hqc, L, hfe, hL⟩ | ⟨q, rfl, E, ce, L, hx, hce, hcv, hcl, hW₂, hsm, hL⟩
  · obtain ⟨⟨v, rfl⟩, hW₂, e2, q2, q3, q4, q5, q6⟩ := id hfe
    have e3 : s₂ = ({ (U.calling g mk a).setFrames s₂.frames with heap := s₂.heap, slotsUsed := s₂.slotsUsed } : State).setVm s₂.vm := by
      have : s₂ = ({ s₂ with vm := (U.calling g mk a).vm } : State).setVm s₂.vm := rfl
      rw [e2] at this
      exact this
    obtain ⟨c₂, i₂, len₂, hc₂, hd₂, hf₂⟩ := hend
    have hW' : U.WarmedH s₂.vm := hW₂
    have hcc : c₂ = c := by
      have h1 : s₂.code? g.method = U.code? g.method := by
        rw [State.code?_eq, State.code?_eq, hW'.alike.method?]
      exact Option.some.inj (hc₂.symm.trans (h1.trans h.code))
    subst hcc
    have hlen : len₂ = len := by rw [hdg] at hd₂; cases hd₂; rfl
    subst hlen
    have hs₂ : s₂ = (({ U with heap := s₂.heap, slotsUsed := s₂.slotsUsed } : State).setVm s₂.vm).setTop { g with pc := g.pc + len₂, stack := v.toList ++ g.stack } := by
      refine e3.trans ?_
      rw [hf₂, State.calling_eq h.top, State.setFrames_setFrames, State.setTop_of_frames _ hr', hr]
      rfl
    have hsame : U.sameButNew ({ U with heap := s₂.heap, slotsUsed := s₂.slotsUsed } : State) L mc ms := by
      refine ⟨?_, q2, q3, q4, q5, q6⟩
      obtain ⟨t, ht, -⟩ := State.frames_cons hr
      show ({ U with heap := s₂.heap, slotsUsed := s₂.slotsUsed } : State) = { U.setFrames U.frames with heap := s₂.heap, slotsUsed := s₂.slotsUsed }
      rw [State.setFrames_self ht]
    subst hg
    refine Or.inl ⟨v, ⟨(({ U with heap := s₂.heap, slotsUsed := s₂.slotsUsed } : State).setVm s₂.vm), Ls ++ L, c0 + mc, s0 + ms⟩,
      ⟨X.admits, X.cas, X.clock, X.frames, X.room, X.hears, X.method, X.code, (X.here.setHeapUsed s₂.heap s₂.slotsUsed).setVm hW'.alike, X.tail, State.WarmedH.trans X.warmed hW', X.limits, X.bytes, X.same.trans (hsame.setVm s.vm)⟩,
      ⟨g, mk, s₂, L, rfl, rfl, hqc, rfl, hL, rfl, rfl⟩, ?_⟩
    show Steps p.tables e below _ ((({ U with heap := s₂.heap, slotsUsed := s₂.slotsUsed } : State).setVm s₂.vm).setTop { g with pc := g.pc + len₂, stack := v.toList ++ g.stack })
    rw [← hs₂]
    exact hsteps
  · obtain ⟨e2, q2, q3, q4, q5, q6⟩ := id hsm
    have e3 : s₂ = ({ (U.calling g mk a).setFrames s₂.frames with heap := s₂.heap, slotsUsed := s₂.slotsUsed } : State).setVm s₂.vm := by
      have : s₂ = ({ s₂ with vm := (U.calling g mk a).vm } : State).setVm s₂.vm := rfl
      rw [e2] at this
      exact this
    have hf₂ : s₂.frames = .throwing q :: .java g :: U.frames.tail := hend
    have hW' : U.WarmedH s₂.vm := hW₂
    have hs₂ : s₂ = ((({ U with heap := s₂.heap, slotsUsed := s₂.slotsUsed } : State).setVm s₂.vm).setTop g).pushFrame (.throwing q) := by
      refine e3.trans ?_
      rw [hf₂, State.calling_eq h.top, State.setFrames_setFrames, State.pushFrame, State.frames_setTop _ hr', State.setTop_of_frames _ hr', State.setFrames_setFrames, hr]
      rfl
    have hsame : U.sameButNew ({ U with heap := s₂.heap, slotsUsed := s₂.slotsUsed } : State) L mc ms := by
      refine ⟨?_, q2, q3, q4, q5, q6⟩
      obtain ⟨t, ht, -⟩ := State.frames_cons hr
      show ({ U with heap := s₂.heap, slotsUsed := s₂.slotsUsed } : State) = { U.setFrames U.frames with heap := s₂.heap, slotsUsed := s₂.slotsUsed }
      rw [State.setFrames_self ht]
    subst hg
    refine Or.inr ⟨q, ⟨(({ U with heap := s₂.heap, slotsUsed := s₂.slotsUsed } : State).setVm s₂.vm), Ls ++ L, c0 + mc, s0 + ms⟩,
      ⟨X.admits, X.cas, X.clock, X.frames, X.room, X.hears, X.method, X.code, (X.here.setHeapUsed s₂.heap s₂.slotsUsed).setVm hW'.alike, X.tail, State.WarmedH.trans X.warmed hW', X.limits, X.bytes, X.same.trans (hsame.setVm s.vm)⟩,
      ⟨g, mk, s₂, L, E, ce, rfl, rfl, hx, hce, hcv, hcl, rfl, hL, rfl, rfl⟩, ?_⟩
    show Steps p.tables e below _ (((({ U with heap := s₂.heap, slotsUsed := s₂.slotsUsed } : State).setVm s₂.vm).setTop g).pushFrame (.throwing q))
    rw [← hs₂]
    exact hsteps
end
variable {p : Program} {l : Launch} {e : Env} {R : Room} {s : State} {m : MethodId} {args : Array Value} {below : List Frame} {meth : Method} {c : Code} {T : State} {H : Heap} {locs : List Loc} {cells slots : Nat}
theorem vx_callVX (X : Stand p l e R s m args below meth c T locs cells slots) (hexec : p.tables.exec = Jvm.exec) {own C : String} {index : Nat} {y : MethodName} {bytes : ByteArray} {maxL : Nat} {ret : Option FieldType} {hh : List (Nat × Nat × Nat × Nat)}
    (hown : s.vm.findClass own = some m.cls) (hlink : (Cond.methodLink own index y).before args s = true) (hinst : (Cond.instanceMethod y).before args s = true) (hsel : (Cond.selects C y y).before args s = true)
    (hcode : (Cond.codeWith y bytes maxL ret hh).before args s = true) (hy : y.cls ≠ "java/lang/invoke/MethodHandle" ∧ y.cls ≠ "java/lang/invoke/VarHandle")
    {W9 : Nat} {Pre : Pt → Array Value → Prop} {Post : Pt → Array Value → Option Value → Pt → Prop} {PostX : Pt → Array Value → Addr → Pt → Prop} (hK : vx_Back l R p e below s args y 3 W9 Pre Post PostX)
    {b : Addr} {cellB : Cell} (hcell : T.heap[b]? = some cellB) (hobj : cellB.vm.isStatics = false) (hcls : s.vm.findClass C = some cellB.cls)
    {g : JFrame} (hg : g.method = m) (hsize : g.locals.size = c.maxLocals) {argsL rest : List Value} (hlen : ∀ sig, parseMethodDescriptor y.desc = some sig → argsL.length = sig.parameters.length)
    (hstack : g.stack = argsL.reverse ++ .ref b :: rest) (hW : 2 * g.monitorRoom + (rest.map fun v => v.category).sum ≤ W9) (hdg : decode c.code g.pc = .ok (.invokevirtual index, 3))
    (hpre : ∀ vm₁, s.WarmedH vm₁ → Pre ⟨T.setVm vm₁, locs, cells, slots⟩ (Value.ref b :: argsL).toArray) :
    (∃ (v : Option Value) (vm₁ : Vm) (B : Pt), s.WarmedH vm₁ ∧ Stand p l e R s m args below meth c B.U B.locs B.cells B.slots ∧ Post ⟨T.setVm vm₁, locs, cells, slots⟩ (Value.ref b :: argsL).toArray v B ∧
      ∀ target, Steps p.tables e below (B.U.setTop { g with pc := g.pc + 3, stack := v.toList ++ rest }) target → Steps p.tables e below (T.setTop g) target) ∨
    (∃ (q : Addr) (vm₁ : Vm) (B : Pt), s.WarmedH vm₁ ∧ Stand p l e R s m args below meth c B.U B.locs B.cells B.slots ∧ PostX ⟨T.setVm vm₁, locs, cells, slots⟩ (Value.ref b :: argsL).toArray q B ∧
      Steps p.tables e below (T.setTop g) ((B.U.setTop { g with stack := rest }).pushFrame (.throwing q))) := by
  obtain ⟨mk, methM, hnamed, hmethM, hstM, habM⟩ := Cond.instanceMethod_spec hinst
  obtain ⟨m8, methM', cM, hn8, hmethM', -, -, -, -, -, -, hsigM⟩ := Cond.codeWith_spec hcode
  cases Option.some.inj (hn8.symm.trans hnamed)
  cases hmethM.symm.trans hmethM'
  obtain ⟨c2, r2, m2, q1, q2, q3, q4, kP, hkP, hkPi⟩ := Cond.selects_spec hsel
  cases hcls.symm.trans q1
  cases (State.methodFound?_of_named hnamed hy).symm.trans q2
  cases hnamed.symm.trans q3
  have hselP : selectMethod e.platform s.vm cellB.cls mk = .method mk := by rw [Launch.admits_selectMethod X.admits]; exact q4
  obtain ⟨vm₁, X₁, hstep₁⟩ := X.invokevirtual hexec hown hlink hnamed hmethM hstM hkP hkPi hy (a := b) (cell := cellB) hcell
    (fun z h => by rw [h] at hobj; cases hobj) hselP hmethM habM hkP hkPi (g := g) hg (argsL := argsL) (rest := rest) (hlen _ hsigM) hstack hdg
  rcases hK m meth c ⟨T.setVm vm₁, locs, cells, slots⟩ { g with stack := rest } (.invokevirtual index) mk (Value.ref b :: argsL).toArray X₁ hg hsize hdg hW (X₁.named hnamed) (hpre vm₁ X₁.warmed) with ⟨v, B, X', hpost, hsteps⟩ | ⟨q, B, X', hpost, hsteps⟩
  · exact Or.inl ⟨v, vm₁, B, X₁.warmed, X', hpost, fun target h => hstep₁ _ fun acts => by rw [doInvoke_state]; exact hsteps.trans h⟩
  · exact Or.inr ⟨q, vm₁, B, X₁.warmed, X', hpost, hstep₁ _ fun acts => by rw [doInvoke_state]; exact hsteps⟩
theorem vx_callSX (X : Stand p l e R s m args below meth c T locs cells slots) (hexec : p.tables.exec = Jvm.exec) {own : String} {index : Nat} {y : MethodName} {bytes : ByteArray} {maxL : Nat} {ret : Option FieldType} {hh : List (Nat × Nat × Nat × Nat)}
    (hown : s.vm.findClass own = some m.cls) (hlink : (Cond.methodLink own index y).before args s = true) (hstat : (Cond.static y).before args s = true) (hinit : (Cond.initialized y.cls).before args s = true)
    (hcode : (Cond.codeWith y bytes maxL ret hh).before args s = true) (hy : y.cls ≠ "java/lang/invoke/MethodHandle" ∧ y.cls ≠ "java/lang/invoke/VarHandle")
    {W9 : Nat} {Pre : Pt → Array Value → Prop} {Post : Pt → Array Value → Option Value → Pt → Prop} {PostX : Pt → Array Value → Addr → Pt → Prop} (hK : vx_Back l R p e below s args y 3 W9 Pre Post PostX)
    {g : JFrame} (hg : g.method = m) (hsize : g.locals.size = c.maxLocals) {argsL rest : List Value} (hlen : ∀ sig, parseMethodDescriptor y.desc = some sig → argsL.length = sig.parameters.length)
    (hstack : g.stack = argsL.reverse ++ rest) (hW : 2 * g.monitorRoom + (rest.map fun v => v.category).sum ≤ W9) (hdg : decode c.code g.pc = .ok (.invokestatic index, 3))
    (hpre : ∀ vm₁, s.WarmedH vm₁ → Pre ⟨T.setVm vm₁, locs, cells, slots⟩ argsL.toArray) :
    (∃ (v : Option Value) (vm₁ : Vm) (B : Pt), s.WarmedH vm₁ ∧ Stand p l e R s m args below meth c B.U B.locs B.cells B.slots ∧ Post ⟨T.setVm vm₁, locs, cells, slots⟩ argsL.toArray v B ∧
      ∀ target, Steps p.tables e below (B.U.setTop { g with pc := g.pc + 3, stack := v.toList ++ rest }) target → Steps p.tables e below (T.setTop g) target) ∨
    (∃ (q : Addr) (vm₁ : Vm) (B : Pt), s.WarmedH vm₁ ∧ Stand p l e R s m args below meth c B.U B.locs B.cells B.slots ∧ PostX ⟨T.setVm vm₁, locs, cells, slots⟩ argsL.toArray q B ∧
      Steps p.tables e below (T.setTop g) ((B.U.setTop { g with stack := rest }).pushFrame (.throwing q))) := by
  obtain ⟨mk, methM, cM, hnamed, hmethM, -, -, -, -, -, -, hsigM⟩ := Cond.codeWith_spec hcode
  have hstatic : methM.isStatic = true := Cond.static_spec hnamed hmethM hstat
  obtain ⟨kP, hkP, -⟩ := className_of_methodNamed hnamed
  have hinitP : kP.init = .initialized := Cond.initialized_spec (findClass_of_methodNamed hnamed) hkP hinit
  obtain ⟨vm₁, X₁, hstep₁⟩ := X.invokestatic hexec hown hlink hnamed hmethM hstatic hkP hinitP hy (g := g) hg (argsL := argsL) (rest := rest) (hlen _ hsigM) hstack hdg
  rcases hK m meth c ⟨T.setVm vm₁, locs, cells, slots⟩ { g with stack := rest } (.invokestatic index) mk argsL.toArray X₁ hg hsize hdg hW (X₁.named hnamed) (hpre vm₁ X₁.warmed) with ⟨v, B, X', hpost, hsteps⟩ | ⟨q, B, X', hpost, hsteps⟩
  · exact Or.inl ⟨v, vm₁, B, X₁.warmed, X', hpost, fun target h => hstep₁ _ fun acts => by rw [doInvoke_state]; exact hsteps.trans h⟩
  · exact Or.inr ⟨q, vm₁, B, X₁.warmed, X', hpost, hstep₁ _ fun acts => by rw [doInvoke_state]; exact hsteps⟩
theorem vx_callVW (X : Stand p l e R s m args below meth c T locs cells slots) (hexec : p.tables.exec = Jvm.exec) {own C : String} {index : Nat} {y : MethodName} {bytes : ByteArray} {maxL : Nat} {ret : Option FieldType} {hh : List (Nat × Nat × Nat × Nat)}
    (hown : s.vm.findClass own = some m.cls) (hlink : (Cond.methodLink own index y).before args s = true) (hinst : (Cond.instanceMethod y).before args s = true) (hsel : (Cond.selects C y y).before args s = true)
    (hcode : (Cond.codeWith y bytes maxL ret hh).before args s = true) (hy : y.cls ≠ "java/lang/invoke/MethodHandle" ∧ y.cls ≠ "java/lang/invoke/VarHandle")
    {W9 : Nat} {Pre : Pt → Array Value → Prop} {Post : Pt → Array Value → Option Value → Pt → Prop} (hK : Back l R p e below s args y 3 W9 Pre Post)
    {b : Addr} {cellB : Cell} (hcell : T.heap[b]? = some cellB) (hobj : cellB.vm.isStatics = false) (hcls : s.vm.findClass C = some cellB.cls)
    {g : JFrame} (hg : g.method = m) (hsize : g.locals.size = c.maxLocals) {argsL rest : List Value} (hlen : ∀ sig, parseMethodDescriptor y.desc = some sig → argsL.length = sig.parameters.length)
    (hstack : g.stack = argsL.reverse ++ .ref b :: rest) (hW : 2 * g.monitorRoom + (rest.map fun v => v.category).sum ≤ W9) (hdg : decode c.code g.pc = .ok (.invokevirtual index, 3))
    (hpre : ∀ vm₁, s.WarmedH vm₁ → Pre ⟨T.setVm vm₁, locs, cells, slots⟩ (Value.ref b :: argsL).toArray) :
    ∃ (v : Option Value) (vm₁ : Vm) (B : Pt), s.WarmedH vm₁ ∧ Stand p l e R s m args below meth c B.U B.locs B.cells B.slots ∧ Post ⟨T.setVm vm₁, locs, cells, slots⟩ (Value.ref b :: argsL).toArray v B ∧
      ∀ target, Steps p.tables e below (B.U.setTop { g with pc := g.pc + 3, stack := v.toList ++ rest }) target → Steps p.tables e below (T.setTop g) target := by
  obtain ⟨mk, methM, hnamed, hmethM, hstM, habM⟩ := Cond.instanceMethod_spec hinst
  obtain ⟨m8, methM', cM, hn8, hmethM', -, -, -, -, -, -, hsigM⟩ := Cond.codeWith_spec hcode
  cases Option.some.inj (hn8.symm.trans hnamed)
  cases hmethM.symm.trans hmethM'
  obtain ⟨c2, r2, m2, q1, q2, q3, q4, kP, hkP, hkPi⟩ := Cond.selects_spec hsel
  cases hcls.symm.trans q1
  cases (State.methodFound?_of_named hnamed hy).symm.trans q2
  cases hnamed.symm.trans q3
  have hselP : selectMethod e.platform s.vm cellB.cls mk = .method mk := by rw [Launch.admits_selectMethod X.admits]; exact q4
  obtain ⟨vm₁, X₁, hstep₁⟩ := X.invokevirtual hexec hown hlink hnamed hmethM hstM hkP hkPi hy (a := b) (cell := cellB) hcell
    (fun z h => by rw [h] at hobj; cases hobj) hselP hmethM habM hkP hkPi (g := g) hg (argsL := argsL) (rest := rest) (hlen _ hsigM) hstack hdg
  obtain ⟨v, B, X', hpost, hsteps⟩ := hK m meth c ⟨T.setVm vm₁, locs, cells, slots⟩ { g with stack := rest } (.invokevirtual index) mk (Value.ref b :: argsL).toArray X₁ hg hsize hdg hW (X₁.named hnamed) (hpre vm₁ X₁.warmed)
  exact ⟨v, vm₁, B, X₁.warmed, X', hpost, fun target h => hstep₁ _ fun acts => by rw [doInvoke_state]; exact hsteps.trans h⟩
abbrev vx_CVW (R : Room) (s : State) (args : Array Value) (own C : String) (index : Nat) (y : MethodName) (bytes : ByteArray) (maxL : Nat) (ret : Option FieldType) (hh : List (Nat × Nat × Nat × Nat)) (ws : List Cond) (rm : Room) (mc ms n : Nat) : Prop :=
  (rm.cells = mc ∧ rm.slots = ms ∧ rm.frames + 1 ≤ R.frames ∧ 8 + (maxL + 11) + rm.locals ≤ R.locals ∧ (∀ w ∈ ws, ∀ (a' : Array Value) (U : State), s.WarmedH U.vm → w.before a' U = true) ∧ Cond.codeWith y bytes maxL ret hh ∈ ws) ∧
  (Cond.codeWith y bytes maxL ret hh).before args s = true ∧ (Cond.initialized y.cls).before args s = true ∧ (y.cls ≠ "java/lang/invoke/MethodHandle" ∧ y.cls ≠ "java/lang/invoke/VarHandle") ∧
  (∀ sig, parseMethodDescriptor y.desc = some sig → n = sig.parameters.length) ∧ (Cond.methodLink own index y).before args s = true ∧ (Cond.instanceMethod y).before args s = true ∧ (Cond.selects C y y).before args s = true
theorem vx_cwVW {own C : String} {index maxL mc ms : Nat} {y : MethodName} {bytes : ByteArray} {ret : Option FieldType} {hh : List (Nat × Nat × Nat × Nat)} {Ts ws ws' : List Cond} {rm : Room} (n : Nat) (ht : ∀ w ∈ Ts, w.before args s = true) (hT : GoodIn Ts (wsV own index C y ws)) (hw : ws = Cond.codeWith y bytes maxL ret hh :: ws') (hrc : rm.cells = mc) (hrs : rm.slots = ms)
    (hd : y.cls = C ∧ y.cls ≠ "java/lang/invoke/MethodHandle" ∧ y.cls ≠ "java/lang/invoke/VarHandle" ∧ (parseMethodDescriptor y.desc).map (fun d => d.parameters.length) = some n) (hR : rm.frames + 1 ≤ R.frames ∧ 8 + (maxL + 11) + rm.locals ≤ R.locals) :
    vx_CVW R s args own C index y bytes maxL ret hh ws rm mc ms n := by
  obtain ⟨hC, hd⟩ := hd
  subst hC
  have ok : ∀ w ∈ wsV own index y.cls y ws, w.before args s = true := fun w h => ht w (hT w h).1
  have hG : GoodIn Ts ws := fun w h => hT w (by unfold wsV; exact List.mem_append_right _ h)
  have hc : Cond.codeWith y bytes maxL ret hh ∈ ws := by rw [hw]; exact List.mem_cons_self
  refine ⟨⟨hrc, hrs, hR.1, hR.2, pay_in ht hG, hc⟩, ht _ (hG _ hc).1, ok _ (by simp [wsV]), ⟨hd.1, hd.2.1⟩, fun sig h => ?_, ok _ (by simp [wsV]), ok _ (by simp [wsV]), ok _ (by simp [wsV])⟩
  have h2 := hd.2.2
  rw [h] at h2
  exact (Option.some.inj h2).symm
theorem vx_runVW {y : MethodName} {bytes cc : ByteArray} {maxL nL mc ms n index : Nat} {ret : Option FieldType} {hh : List (Nat × Nat × Nat × Nat)} {ws : List Cond} {rm : Room} {Pc : Array Value → State → Prop} {Qc : Array Value → State → Outcome → State → Prop} {free : Addr → Prop} {Ts : List Cond} {own C : String} {b : Addr} {As rest : List Value} {g : JFrame}
    (S : CallFix p m c cc nL s args Ts own) (hM : Met l y ws rm Pc Qc mc ms free) (cw : vx_CVW R s args own C index y bytes maxL ret hh ws rm mc ms n) (hp : PreV s H C b Pc As)
    (hg : g.method = m) (hn : As.length = n) (hsize : g.locals.size = nL) (hstack : g.stack = As.reverse ++ .ref b :: rest) (hW : 2 * g.monitorRoom + (rest.map fun v => v.category).sum ≤ 8) (hdg : decode cc g.pc = .ok (.invokevirtual index, 3)) (hf : cells + mc ≤ R.cells ∧ slots + ms ≤ R.slots) :
    va_Run p l e R s m args below meth c H locs cells slots mc ms g rest (Qc (Value.ref b :: As).toArray) free := by
  obtain ⟨⟨hrc, hrs, hfr, hlo, hws, hcw⟩, hcode, hini, hy, hlen, hl, hin, hse⟩ := cw
  have hK : Back l R p e below s args y 3 8 (PreOf R mc ms Pc) (PostOf Qc mc ms free) := va_backW (hh := hh) (bytes := bytes) (maxL := maxL) (ret := ret) hM hp.1 hrc hrs hfr hlo hws hcw (fun a' U hW => word_at hW (Or.inl (by first | rfl | simp [Cond.onTables, Cond.keeps, Cond.steady])) hini)
  obtain ⟨hx, hb, hml, ho, -⟩ := S
  obtain ⟨-, ⟨cellB, hcB, hoB, hclB⟩, hPc⟩ := hp
  intro T hT X
  obtain ⟨v, vm₁, ⟨U', l2, c2, s2⟩, hW₁, X', ⟨g', mk, t, L, e1, e2, hq, h1, hL, h2, h3⟩, st⟩ := vx_callVW X hx (C := C) (hh := hh) (bytes := bytes) (maxL := maxL) (ret := ret) ho hl hin hse hcode hy hK (by rw [hT]; exact hcB) hoB hclB hg (hsize.trans hml.symm) (argsL := As) (rest := rest) (fun sig h => hn.trans (hlen sig h)) hstack hW (by rw [hb]; exact hdg)
    (fun vm₁ hW₁ => ⟨hf.1, hf.2, hPc (T.setVm vm₁) hT hW₁⟩)
  dsimp only [Pt.U, Pt.locs, Pt.cells, Pt.slots] at X' e1 e2 h1 h2 h3 st
  subst h1; subst h2; subst h3
  exact ⟨v, (T.setVm vm₁).calling g' mk (Value.ref b :: As).toArray, t, U', L, hT, X', hL, e1, e2, hq, st⟩
section
variable {y : MethodName} {bytes cc : ByteArray} {maxL nL mc ms n index : Nat} {ret : Option FieldType} {ws : List Cond} {rm : Room} {Pc : Array Value → State → Prop} {Qc : Array Value → State → Outcome → State → Prop} {XC : String → State → State → Prop} {free : Addr → Prop} {Ts : List Cond} {own C : String} {b : Addr} {As rest : List Value} {g : JFrame}
theorem vx_runVX {hh : List (Nat × Nat × Nat × Nat)} (S : CallFix p m c cc nL s args Ts own) (hM : vx_Met l y ws rm Pc Qc XC mc ms free) (cw : vx_CVW R s args own C index y bytes maxL ret hh ws rm mc ms n) (hp : PreV s H C b Pc As)
    (hg : g.method = m) (hn : As.length = n) (hsize : g.locals.size = nL) (hstack : g.stack = As.reverse ++ .ref b :: rest) (hW : 2 * g.monitorRoom + (rest.map fun v => v.category).sum ≤ 8) (hdg : decode cc g.pc = .ok (.invokevirtual index, 3)) (hf : cells + mc ≤ R.cells ∧ slots + ms ≤ R.slots) :
    vx_Run p l e R s m args below meth c H locs cells slots mc ms g rest (Qc (Value.ref b :: As).toArray) XC free := by
  obtain ⟨⟨hrc, hrs, hfr, hlo, hws, hcw⟩, hcode, hini, hy, hlen, hl, hin, hse⟩ := cw
  have hK : vx_Back l R p e below s args y 3 8 (PreOf R mc ms Pc) (PostOf Qc mc ms free) (vx_Post XC mc ms free) := vx_backW (hh := hh) (bytes := bytes) (maxL := maxL) (ret := ret) hM hp.1 hrc hrs hfr hlo hws hcw (fun a' U hW => word_at hW (Or.inl (by first | rfl | simp [Cond.onTables, Cond.keeps, Cond.steady])) hini)
  obtain ⟨hx, hb, hml, ho, -⟩ := S
  obtain ⟨-, ⟨cellB, hcB, hoB, hclB⟩, hPc⟩ := hp
  intro T hT X
  rcases vx_callVX X hx (C := C) (hh := hh) (bytes := bytes) (maxL := maxL) (ret := ret) ho hl hin hse hcode hy hK (by rw [hT]; exact hcB) hoB hclB hg (hsize.trans hml.symm) (argsL := As) (rest := rest) (fun sig h => hn.trans (hlen sig h)) hstack hW (by rw [hb]; exact hdg)
    (fun vm₁ hW₁ => ⟨hf.1, hf.2, hPc (T.setVm vm₁) hT hW₁⟩) with ⟨v, vm₁, ⟨U', l2, c2, s2⟩, hW₁, X', ⟨g', mk, t, L, e1, e2, hq, h1, hL, h2, h3⟩, st⟩ | ⟨q, vm₁, ⟨U', l2, c2, s2⟩, hW₁, X', ⟨g', mk, t, L, E, ce, e1, e2, hq, hce, hcv, hcl, h1, hL, h2, h3⟩, st⟩
  · dsimp only [Pt.U, Pt.locs, Pt.cells, Pt.slots] at X' e1 e2 h1 h2 h3 st
    subst h1; subst h2; subst h3
    exact Or.inl ⟨v, (T.setVm vm₁).calling g' mk (Value.ref b :: As).toArray, t, U', L, hT, X', hL, e1, e2, hq, st⟩
  · dsimp only [Pt.U, Pt.locs, Pt.cells, Pt.slots] at X' e1 e2 h1 h2 h3 st hcl
    subst h1; subst h2; subst h3
    exact Or.inr ⟨q, (T.setVm vm₁).calling g' mk (Value.ref b :: As).toArray, t, U', L, E, ce, hT, X', hL, e1, e2, hq, hce, hcv, vx_cls hW₁ hcl, st⟩
theorem vx_runSX {hh : List (Nat × Nat × Nat × Nat)} (S : CallFix p m c cc nL s args Ts own) (hM : vx_Met l y ws rm Pc Qc XC mc ms free) (cw : vx_CSW R s args own index y bytes maxL ret hh ws rm mc ms n) (hp : PreS s H Pc As)
    (hg : g.method = m) (hn : As.length = n) (hsize : g.locals.size = nL) (hstack : g.stack = As.reverse ++ rest) (hW : 2 * g.monitorRoom + (rest.map fun v => v.category).sum ≤ 8) (hdg : decode cc g.pc = .ok (.invokestatic index, 3)) (hf : cells + mc ≤ R.cells ∧ slots + ms ≤ R.slots) :
    vx_Run p l e R s m args below meth c H locs cells slots mc ms g rest (Qc As.toArray) XC free := by
  obtain ⟨⟨hrc, hrs, hfr, hlo, hws, hcw⟩, hcode, hini, hy, hlen, hl, hstt⟩ := cw
  have hK : vx_Back l R p e below s args y 3 8 (PreOf R mc ms Pc) (PostOf Qc mc ms free) (vx_Post XC mc ms free) := vx_backW (hh := hh) (bytes := bytes) (maxL := maxL) (ret := ret) hM hp.1 hrc hrs hfr hlo hws hcw (fun a' U hW => word_at hW (Or.inl (by first | rfl | simp [Cond.onTables, Cond.keeps, Cond.steady])) hini)
  obtain ⟨hx, hb, hml, ho, -⟩ := S
  intro T hT X
  rcases vx_callSX X hx (hh := hh) (bytes := bytes) (maxL := maxL) (ret := ret) ho hl hstt hini hcode hy hK hg (hsize.trans hml.symm) (argsL := As) (rest := rest) (fun sig h => hn.trans (hlen sig h)) hstack hW (by rw [hb]; exact hdg)
    (fun vm₁ hW₁ => ⟨hf.1, hf.2, hp.2 (T.setVm vm₁) hT hW₁⟩) with ⟨v, vm₁, ⟨U', l2, c2, s2⟩, hW₁, X', ⟨g', mk, t, L, e1, e2, hq, h1, hL, h2, h3⟩, st⟩ | ⟨q, vm₁, ⟨U', l2, c2, s2⟩, hW₁, X', ⟨g', mk, t, L, E, ce, e1, e2, hq, hce, hcv, hcl, h1, hL, h2, h3⟩, st⟩
  · dsimp only [Pt.U, Pt.locs, Pt.cells, Pt.slots] at X' e1 e2 h1 h2 h3 st
    subst h1; subst h2; subst h3
    exact Or.inl ⟨v, (T.setVm vm₁).calling g' mk As.toArray, t, U', L, hT, X', hL, e1, e2, hq, st⟩
  · dsimp only [Pt.U, Pt.locs, Pt.cells, Pt.slots] at X' e1 e2 h1 h2 h3 st hcl
    subst h1; subst h2; subst h3
    exact Or.inr ⟨q, (T.setVm vm₁).calling g' mk As.toArray, t, U', L, E, ce, hT, X', hL, e1, e2, hq, hce, hcv, vx_cls hW₁ hcl, st⟩
end
end VXH
theorem vx_ofWH {l : Launch} {y : MethodName} {ws ws' : List Cond} {rm : Room} {Pc : Array Value → State → Prop} {Qc : Array Value → State → Outcome → State → Prop} {XC : String → State → State → Prop} {mc ms : Nat} {free : Addr → Prop} {cc : ByteArray} {maxL : Nat} {ret : Option FieldType} {hh : List (Nat × Nat × Nat × Nat)}
    (hy : plainName y.cls = true) (hw : ws = Cond.codeWith y cc maxL ret hh :: ws')
    (body : ∀ p e s m args below meth c s₁, BodyLoose p l y (headSpec ws rm) cc maxL ret e s m args below meth c s₁ → c.maxLocals = maxL → Pc args s →
      W p l e (headSpec ws rm).room s m args below meth c s.heap [] 0 0 (vx_MQ below Qc XC args s mc ms free) (entryFrame m args maxL)) : vx_Met l y ws rm Pc Qc XC mc ms free := by
  refine MetFree.of_bodyS (code := cc) (maxLocals := maxL) (ret := ret) hy ?_ ?_
  · intro args s m h hn
    obtain ⟨m9, meth, c, hn9, h1, h2, h3, h4, -, h5, h6, -⟩ := Cond.codeWith_spec (atoms_spec (ws := ws) h _ (by rw [hw]; exact List.mem_cons_self))
    cases hn.symm.trans hn9
    exact ⟨meth, c, h1, h2, h3, h4, h5, h6⟩
  · intro p e s m args below meth c s₁ B hml hP _
    have hh0 : s₁.heap = s.heap := by rw [B.state]; rfl
    obtain ⟨t, a1, o, b1, b2, b3⟩ := body p e s m args below meth c s₁ B hml hP s₁ hh0 (Stand.of_body B)
    exact ⟨t, o, a1, b1, b2, b3⟩
/-! ===== END ===== -/
def vx_atN (n : Nat) : List Cond := (Bundle.npeArmAtoms n).filter vx_no
def vx_atM (X : String) (names : List String) : List Cond := (Bundle.messageArmAtoms X names).filter vx_no
end
section
/-! ===== BEGIN printed: names, fields, word lists, decode rows ===== -/
def RX0 : String := "ResampledRows$Draws"
def TX0 : u_T := fun k => match k with
  | 0 => ("ResampledRows$Draws", "forced", "[I", true)
  | 1 => ("ResampledRows$Draws", "first", "I", false)
  | 2 => ("ResampledRows$Draws", "left", "I", false)
  | _ => ("ResampledRows$Draws", "x", "J", false)
def tyX0 : Nat → FieldType := fun k => match k with
  | 0 => .array .int
  | 1 => .int
  | 2 => .int
  | _ => .long
abbrev wsX00 : List Cond := u_ws RX0 TX0 4
theorem nmX0 : ∀ a, a < 4 → ∀ b, b < 4 → a ≠ b → (TX0 a).2.1 ≠ (TX0 b).2.1 := by decide +kernel
theorem tyX0_ok : ∀ k, k < 4 → parseFieldDescriptor (TX0 k).2.2.1 = some (tyX0 k) := by decide +kernel
abbrev cX0_init : ByteArray := prog_2_method_1_code
def yX0_init : MethodName := ⟨RX0, "<init>", "()V"⟩
abbrev cX0_setAsAtFirst : ByteArray := prog_2_method_2_code
def yX0_setAsAtFirst : MethodName := ⟨RX0, "setAsAtFirst", "()V"⟩
abbrev cX0_addForced : ByteArray := prog_2_method_3_code
def yX0_addForced : MethodName := ⟨RX0, "addForced", "(I)V"⟩
abbrev cX0_below : ByteArray := prog_2_method_4_code
def yX0_below : MethodName := ⟨RX0, "below", "(J)J"⟩
abbrev cX0_next : ByteArray := prog_2_method_5_code
def yX0_next : MethodName := ⟨RX0, "next", "()J"⟩
abbrev cX0_byWeights : ByteArray := prog_2_method_6_code
def yX0_byWeights : MethodName := ⟨RX0, "byWeights", "([II)I"⟩
def RX1 : String := "ResampledRows$Picks"
def TX1 : u_T := fun k => match k with
  | 0 => ("ResampledRows$Picks", "times", "[I", true)
  | _ => ("ResampledRows$Picks", "rests", "[I", true)
def tyX1 : Nat → FieldType := fun k => match k with
  | 0 => .array .int
  | _ => .array .int
abbrev wsX10 : List Cond := u_ws RX1 TX1 2
theorem nmX1 : ∀ a, a < 2 → ∀ b, b < 2 → a ≠ b → (TX1 a).2.1 ≠ (TX1 b).2.1 := by decide +kernel
theorem tyX1_ok : ∀ k, k < 2 → parseFieldDescriptor (TX1 k).2.2.1 = some (tyX1 k) := by decide +kernel
abbrev cX1_init : ByteArray := prog_3_method_1_code
def yX1_init : MethodName := ⟨RX1, "<init>", "()V"⟩
abbrev cX1_pick : ByteArray := prog_3_method_2_code
def yX1_pick : MethodName := ⟨RX1, "pick", "(ILResampledRows$Run;LResampledRows$Draws;)V"⟩
abbrev cX1_putInOrder : ByteArray := prog_3_method_3_code
def yX1_putInOrder : MethodName := ⟨RX1, "putInOrder", "([II)V"⟩
abbrev cX1_unlike : ByteArray := prog_3_method_4_code
def yX1_unlike : MethodName := ⟨RX1, "unlike", "(I)I"⟩
abbrev cX1_add : ByteArray := prog_3_method_5_code
def yX1_add : MethodName := ⟨RX1, "add", "(I)V"⟩
abbrev cX1_firstPickBehindKept : ByteArray := prog_3_method_6_code
def yX1_firstPickBehindKept : MethodName := ⟨RX1, "firstPickBehindKept", "(LResampledRows$Run;)I"⟩
abbrev cX1_pickEachByWeights : ByteArray := prog_3_method_7_code
def yX1_pickEachByWeights : MethodName := ⟨RX1, "pickEachByWeights", "(LResampledRows$Run;LResampledRows$Draws;)V"⟩
abbrev cX1_pickWithDrawsOfTheirOwn : ByteArray := prog_3_method_8_code
def yX1_pickWithDrawsOfTheirOwn : MethodName := ⟨RX1, "pickWithDrawsOfTheirOwn", "(LResampledRows$Run;LResampledRows$Draws;)V"⟩
abbrev cX1_pickWithOneDraw : ByteArray := prog_3_method_9_code
def yX1_pickWithOneDraw : MethodName := ⟨RX1, "pickWithOneDraw", "(LResampledRows$Run;LResampledRows$Draws;)V"⟩
abbrev cX1_pickByPartsAndRests : ByteArray := prog_3_method_10_code
def yX1_pickByPartsAndRests : MethodName := ⟨RX1, "pickByPartsAndRests", "(LResampledRows$Run;LResampledRows$Draws;)V"⟩
abbrev cX1_putIn : ByteArray := prog_3_method_11_code
def yX1_putIn : MethodName := ⟨RX1, "putIn", "(II)V"⟩
def RX2 : String := "ResampledRows$Run"
def TX2 : u_T := fun k => match k with
  | 0 => ("ResampledRows$Run", "picks", "LResampledRows$Picks;", true)
  | 1 => ("ResampledRows$Run", "origins", "[I", true)
  | 2 => ("ResampledRows$Run", "n", "I", false)
  | 3 => ("ResampledRows$Run", "steps", "I", false)
  | 4 => ("ResampledRows$Run", "timesAnew", "I", false)
  | 5 => ("ResampledRows$Run", "kept", "I", false)
  | 6 => ("ResampledRows$Run", "multiplied", "D", false)
  | 7 => ("ResampledRows$Run", "states", "[I", false)
  | 8 => ("ResampledRows$Run", "weights", "[I", false)
  | 9 => ("ResampledRows$Run", "histories", "[[I", false)
  | 10 => ("ResampledRows$Run", "nextStates", "[I", false)
  | 11 => ("ResampledRows$Run", "nextWeights", "[I", false)
  | _ => ("ResampledRows$Run", "nextHistories", "[[I", false)
def tyX2 : Nat → FieldType := fun k => match k with
  | 0 => .object "ResampledRows$Picks"
  | 1 => .array .int
  | 2 => .int
  | 3 => .int
  | 4 => .int
  | 5 => .int
  | 6 => .double
  | 7 => .array .int
  | 8 => .array .int
  | 9 => .array (.array .int)
  | 10 => .array .int
  | 11 => .array .int
  | _ => .array (.array .int)
abbrev wsX20 : List Cond := u_ws RX2 TX2 13
theorem nmX2 : ∀ a, a < 13 → ∀ b, b < 13 → a ≠ b → (TX2 a).2.1 ≠ (TX2 b).2.1 := by decide +kernel
theorem tyX2_ok : ∀ k, k < 13 → parseFieldDescriptor (TX2 k).2.2.1 = some (tyX2 k) := by decide +kernel
abbrev cX2_init : ByteArray := prog_4_method_1_code
def yX2_init : MethodName := ⟨RX2, "<init>", "()V"⟩
abbrev cX2_isBegun : ByteArray := prog_4_method_2_code
def yX2_isBegun : MethodName := ⟨RX2, "isBegun", "()Z"⟩
abbrev cX2_hasRow : ByteArray := prog_4_method_3_code
def yX2_hasRow : MethodName := ⟨RX2, "hasRow", "(I)Z"⟩
abbrev cX2_places : ByteArray := prog_4_method_4_code
def yX2_places : MethodName := ⟨RX2, "places", "()I"⟩
abbrev cX2_hasPlace : ByteArray := prog_4_method_5_code
def yX2_hasPlace : MethodName := ⟨RX2, "hasPlace", "(I)Z"⟩
abbrev cX2_end : ByteArray := prog_4_method_6_code
def yX2_end : MethodName := ⟨RX2, "end", "()V"⟩
abbrev cX2_beginWith : ByteArray := prog_4_method_7_code
def yX2_beginWith : MethodName := ⟨RX2, "beginWith", "(I[ILResampledRows$Draws;)I"⟩
abbrev cX2_standsAt : ByteArray := prog_4_method_8_code
def yX2_standsAt : MethodName := ⟨RX2, "standsAt", "(I[I)Z"⟩
abbrev cX2_goOn : ByteArray := prog_4_method_9_code
def yX2_goOn : MethodName := ⟨RX2, "goOn", "([[I[ILResampledRows$Draws;)I"⟩
abbrev cX2_takeNextStatesAndWeights : ByteArray := prog_4_method_10_code
def yX2_takeNextStatesAndWeights : MethodName := ⟨RX2, "takeNextStatesAndWeights", "()V"⟩
abbrev cX2_total : ByteArray := prog_4_method_11_code
def yX2_total : MethodName := ⟨RX2, "total", "()J"⟩
abbrev cX2_squares : ByteArray := prog_4_method_12_code
def yX2_squares : MethodName := ⟨RX2, "squares", "()J"⟩
abbrev cX2_effective : ByteArray := prog_4_method_13_code
def yX2_effective : MethodName := ⟨RX2, "effective", "()J"⟩
abbrev cX2_isEffectiveBelow : ByteArray := prog_4_method_14_code
def yX2_isEffectiveBelow : MethodName := ⟨RX2, "isEffectiveBelow", "(I)Z"⟩
abbrev cX2_evidenceSoFar : ByteArray := prog_4_method_15_code
def yX2_evidenceSoFar : MethodName := ⟨RX2, "evidenceSoFar", "()D"⟩
abbrev cX2_drawAnew : ByteArray := prog_4_method_16_code
def yX2_drawAnew : MethodName := ⟨RX2, "drawAnew", "(ILResampledRows$Draws;)I"⟩
abbrev cX2_becomePicked : ByteArray := prog_4_method_17_code
def yX2_becomePicked : MethodName := ⟨RX2, "becomePicked", "()V"⟩
abbrev cX2_firstThatWas : ByteArray := prog_4_method_18_code
def yX2_firstThatWas : MethodName := ⟨RX2, "firstThatWas", "(I)I"⟩
def RX3 : String := "ResampledRows$Tables"
def TX3 : u_T := fun k => match k with
  | 0 => ("ResampledRows$Tables", "starts", "[I", true)
  | 1 => ("ResampledRows$Tables", "moves", "[[I", true)
  | 2 => ("ResampledRows$Tables", "sights", "[[I", true)
  | _ => ("ResampledRows$Tables", "names", "[I", true)
def tyX3 : Nat → FieldType := fun k => match k with
  | 0 => .array .int
  | 1 => .array (.array .int)
  | 2 => .array (.array .int)
  | _ => .array .int
abbrev wsX30 : List Cond := u_ws RX3 TX3 4
theorem nmX3 : ∀ a, a < 4 → ∀ b, b < 4 → a ≠ b → (TX3 a).2.1 ≠ (TX3 b).2.1 := by decide +kernel
theorem tyX3_ok : ∀ k, k < 4 → parseFieldDescriptor (TX3 k).2.2.1 = some (tyX3 k) := by decide +kernel
abbrev cX3_init : ByteArray := prog_5_method_1_code
def yX3_init : MethodName := ⟨RX3, "<init>", "()V"⟩
abbrev cX3_setAsAtFirst : ByteArray := prog_5_method_2_code
def yX3_setAsAtFirst : MethodName := ⟨RX3, "setAsAtFirst", "()V"⟩
def RX4 : String := "ResampledRows"
def TX4 : u_T := fun k => match k with
  | 0 => ("ResampledRows", "tables", "LResampledRows$Tables;", true)
  | 1 => ("ResampledRows", "draws", "LResampledRows$Draws;", true)
  | _ => ("ResampledRows", "run", "LResampledRows$Run;", true)
def tyX4 : Nat → FieldType := fun k => match k with
  | 0 => .object "ResampledRows$Tables"
  | 1 => .object "ResampledRows$Draws"
  | _ => .object "ResampledRows$Run"
abbrev wsX40 : List Cond := u_ws RX4 TX4 3
theorem nmX4 : ∀ a, a < 3 → ∀ b, b < 3 → a ≠ b → (TX4 a).2.1 ≠ (TX4 b).2.1 := by decide +kernel
theorem tyX4_ok : ∀ k, k < 3 → parseFieldDescriptor (TX4 k).2.2.1 = some (tyX4 k) := by decide +kernel
abbrev cX4_init : ByteArray := prog_1_method_1_code
def yX4_init : MethodName := ⟨RX4, "<init>", "()V"⟩
abbrev cX4_start : ByteArray := prog_1_method_2_code
def yX4_start : MethodName := ⟨RX4, "start", "(II)I"⟩
abbrev cX4_move : ByteArray := prog_1_method_3_code
def yX4_move : MethodName := ⟨RX4, "move", "(III)I"⟩
abbrev cX4_seen : ByteArray := prog_1_method_4_code
def yX4_seen : MethodName := ⟨RX4, "seen", "(III)I"⟩
abbrev cX4_named : ByteArray := prog_1_method_5_code
def yX4_named : MethodName := ⟨RX4, "named", "(II)I"⟩
abbrev cX4_force : ByteArray := prog_1_method_6_code
def yX4_force : MethodName := ⟨RX4, "force", "(I)I"⟩
abbrev cX4_begin : ByteArray := prog_1_method_7_code
def yX4_begin : MethodName := ⟨RX4, "begin", "(IJ)I"⟩
abbrev cX4_keep : ByteArray := prog_1_method_8_code
def yX4_keep : MethodName := ⟨RX4, "keep", "(I)I"⟩
abbrev cX4_step : ByteArray := prog_1_method_9_code
def yX4_step : MethodName := ⟨RX4, "step", "(II)I"⟩
abbrev cX4_again : ByteArray := prog_1_method_10_code
def yX4_again : MethodName := ⟨RX4, "again", "(I)I"⟩
abbrev cX4_rule : ByteArray := prog_1_method_11_code
def yX4_rule : MethodName := ⟨RX4, "rule", "(II)I"⟩
abbrev cX4_from : ByteArray := prog_1_method_12_code
def yX4_from : MethodName := ⟨RX4, "from", "(I)I"⟩
abbrev cX4_row : ByteArray := prog_1_method_13_code
def yX4_row : MethodName := ⟨RX4, "row", "(II)I"⟩
abbrev cX4_weight : ByteArray := prog_1_method_14_code
def yX4_weight : MethodName := ⟨RX4, "weight", "(I)J"⟩
abbrev cX4_history : ByteArray := prog_1_method_15_code
def yX4_history : MethodName := ⟨RX4, "history", "(II)I"⟩
abbrev cX4_write : ByteArray := prog_1_method_16_code
def yX4_write : MethodName := ⟨RX4, "write", "(III)I"⟩
abbrev cX4_told : ByteArray := prog_1_method_17_code
def yX4_told : MethodName := ⟨RX4, "told", "(I)J"⟩
abbrev cX4_evidence : ByteArray := prog_1_method_18_code
def yX4_evidence : MethodName := ⟨RX4, "evidence", "()D"⟩
abbrev cX4_count : ByteArray := prog_1_method_19_code
def yX4_count : MethodName := ⟨RX4, "count", "(I)I"⟩
abbrev cX4_clear : ByteArray := prog_1_method_20_code
def yX4_clear : MethodName := ⟨RX4, "clear", "()I"⟩
abbrev cX4_isState : ByteArray := prog_1_method_21_code
def yX4_isState : MethodName := ⟨RX4, "isState", "(I)Z"⟩
abbrev cX4_isSight : ByteArray := prog_1_method_22_code
def yX4_isSight : MethodName := ⟨RX4, "isSight", "(I)Z"⟩
abbrev cX4_isName : ByteArray := prog_1_method_23_code
def yX4_isName : MethodName := ⟨RX4, "isName", "(I)Z"⟩
abbrev cX4_isWay : ByteArray := prog_1_method_24_code
def yX4_isWay : MethodName := ⟨RX4, "isWay", "(I)Z"⟩
abbrev cX4_isEntry : ByteArray := prog_1_method_25_code
def yX4_isEntry : MethodName := ⟨RX4, "isEntry", "(I)Z"⟩
abbrev cX4_exchange : ByteArray := prog_1_method_26_code
def yX4_exchange : MethodName := ⟨RX4, "exchange", "([III)I"⟩
abbrev cX4_sumOf : ByteArray := prog_1_method_27_code
def yX4_sumOf : MethodName := ⟨RX4, "sumOf", "([II)J"⟩
abbrev cX4_firstAbove : ByteArray := prog_1_method_28_code
def yX4_firstAbove : MethodName := ⟨RX4, "firstAbove", "(JJ[II)I"⟩
def RX5 : String := "ResampledRowsModel"
def TX5 : u_T := fun k => match k with
  | 0 => ("ResampledRowsModel", "thrownNow", "I", false)
  | 1 => ("ResampledRowsModel", "starts", "[I", true)
  | 2 => ("ResampledRowsModel", "moves", "[I", true)
  | 3 => ("ResampledRowsModel", "sights", "[I", true)
  | 4 => ("ResampledRowsModel", "names", "[I", true)
  | 5 => ("ResampledRowsModel", "forced", "[I", true)
  | 6 => ("ResampledRowsModel", "forcedMany", "I", false)
  | 7 => ("ResampledRowsModel", "rows", "I", false)
  | 8 => ("ResampledRowsModel", "seed", "J", false)
  | 9 => ("ResampledRowsModel", "states", "[I", true)
  | 10 => ("ResampledRowsModel", "weights", "[J", true)
  | 11 => ("ResampledRowsModel", "histories", "[I", true)
  | 12 => ("ResampledRowsModel", "steps", "I", false)
  | 13 => ("ResampledRowsModel", "anew", "I", false)
  | 14 => ("ResampledRowsModel", "kept", "I", false)
  | 15 => ("ResampledRowsModel", "product", "D", false)
  | 16 => ("ResampledRowsModel", "froms", "[I", true)
  | 17 => ("ResampledRowsModel", "hasFroms", "Z", false)
  | 18 => ("ResampledRowsModel", "by", "[J", true)
  | 19 => ("ResampledRowsModel", "drawn", "[I", true)
  | 20 => ("ResampledRowsModel", "times", "[I", true)
  | 21 => ("ResampledRowsModel", "oldStates", "[I", true)
  | _ => ("ResampledRowsModel", "oldHistories", "[I", true)
def tyX5 : Nat → FieldType := fun k => match k with
  | 0 => .int
  | 1 => .array .int
  | 2 => .array .int
  | 3 => .array .int
  | 4 => .array .int
  | 5 => .array .int
  | 6 => .int
  | 7 => .int
  | 8 => .long
  | 9 => .array .int
  | 10 => .array .long
  | 11 => .array .int
  | 12 => .int
  | 13 => .int
  | 14 => .int
  | 15 => .double
  | 16 => .array .int
  | 17 => .boolean
  | 18 => .array .long
  | 19 => .array .int
  | 20 => .array .int
  | 21 => .array .int
  | _ => .array .int
abbrev wsX50 : List Cond := u_ws RX5 TX5 23
theorem nmX5 : ∀ a, a < 23 → ∀ b, b < 23 → a ≠ b → (TX5 a).2.1 ≠ (TX5 b).2.1 := by decide +kernel
theorem tyX5_ok : ∀ k, k < 23 → parseFieldDescriptor (TX5 k).2.2.1 = some (tyX5 k) := by decide +kernel
abbrev cX5_init : ByteArray := prog_7_method_1_code
def yX5_init : MethodName := ⟨RX5, "<init>", "()V"⟩
abbrev cX5_thrown : ByteArray := prog_7_method_2_code
def yX5_thrown : MethodName := ⟨RX5, "thrown", "()I"⟩
abbrev cX5_in : ByteArray := prog_7_method_3_code
def yX5_in : MethodName := ⟨RX5, "in", "(III)Z"⟩
abbrev cX5_beginAll : ByteArray := prog_7_method_4_code
def yX5_beginAll : MethodName := ⟨RX5, "beginAll", "()V"⟩
abbrev cX5_noRun : ByteArray := prog_7_method_5_code
def yX5_noRun : MethodName := ⟨RX5, "noRun", "()V"⟩
abbrev cX5_isState : ByteArray := prog_7_method_6_code
def yX5_isState : MethodName := ⟨RX5, "isState", "(I)Z"⟩
abbrev cX5_start : ByteArray := prog_7_method_7_code
def yX5_start : MethodName := ⟨RX5, "start", "(II)I"⟩
abbrev cX5_move : ByteArray := prog_7_method_8_code
def yX5_move : MethodName := ⟨RX5, "move", "(III)I"⟩
abbrev cX5_seen : ByteArray := prog_7_method_9_code
def yX5_seen : MethodName := ⟨RX5, "seen", "(III)I"⟩
abbrev cX5_named : ByteArray := prog_7_method_10_code
def yX5_named : MethodName := ⟨RX5, "named", "(II)I"⟩
abbrev cX5_force : ByteArray := prog_7_method_11_code
def yX5_force : MethodName := ⟨RX5, "force", "(I)I"⟩
abbrev cX5_draw : ByteArray := prog_7_method_12_code
def yX5_draw : MethodName := ⟨RX5, "draw", "(J)J"⟩
abbrev cX5_sumBy : ByteArray := prog_7_method_13_code
def yX5_sumBy : MethodName := ⟨RX5, "sumBy", "(I)J"⟩
abbrev cX5_drawBy : ByteArray := prog_7_method_14_code
def yX5_drawBy : MethodName := ⟨RX5, "drawBy", "(I)I"⟩
abbrev cX5_begin : ByteArray := prog_7_method_15_code
def yX5_begin : MethodName := ⟨RX5, "begin", "(IJ)I"⟩
abbrev cX5_isRow : ByteArray := prog_7_method_16_code
def yX5_isRow : MethodName := ⟨RX5, "isRow", "(I)Z"⟩
abbrev cX5_keep : ByteArray := prog_7_method_17_code
def yX5_keep : MethodName := ⟨RX5, "keep", "(I)I"⟩
abbrev cX5_step : ByteArray := prog_7_method_18_code
def yX5_step : MethodName := ⟨RX5, "step", "(II)I"⟩
abbrev cX5_total : ByteArray := prog_7_method_19_code
def yX5_total : MethodName := ⟨RX5, "total", "()J"⟩
abbrev cX5_squares : ByteArray := prog_7_method_20_code
def yX5_squares : MethodName := ⟨RX5, "squares", "()J"⟩
abbrev cX5_pick : ByteArray := prog_7_method_21_code
def yX5_pick : MethodName := ⟨RX5, "pick", "(I)V"⟩
abbrev cX5_rowAt : ByteArray := prog_7_method_22_code
def yX5_rowAt : MethodName := ⟨RX5, "rowAt", "(J)I"⟩
abbrev cX5_pickBy : ByteArray := prog_7_method_23_code
def yX5_pickBy : MethodName := ⟨RX5, "pickBy", "(IJ)V"⟩
abbrev cX5_pickWhole : ByteArray := prog_7_method_24_code
def yX5_pickWhole : MethodName := ⟨RX5, "pickWhole", "(J)V"⟩
abbrev cX5_drawAnew : ByteArray := prog_7_method_25_code
def yX5_drawAnew : MethodName := ⟨RX5, "drawAnew", "(I)I"⟩
abbrev cX5_again : ByteArray := prog_7_method_26_code
def yX5_again : MethodName := ⟨RX5, "again", "(I)I"⟩
abbrev cX5_rule : ByteArray := prog_7_method_27_code
def yX5_rule : MethodName := ⟨RX5, "rule", "(II)I"⟩
abbrev cX5_from : ByteArray := prog_7_method_28_code
def yX5_from : MethodName := ⟨RX5, "from", "(I)I"⟩
abbrev cX5_row : ByteArray := prog_7_method_29_code
def yX5_row : MethodName := ⟨RX5, "row", "(II)I"⟩
abbrev cX5_weight : ByteArray := prog_7_method_30_code
def yX5_weight : MethodName := ⟨RX5, "weight", "(I)J"⟩
abbrev cX5_history : ByteArray := prog_7_method_31_code
def yX5_history : MethodName := ⟨RX5, "history", "(II)I"⟩
abbrev cX5_write : ByteArray := prog_7_method_32_code
def yX5_write : MethodName := ⟨RX5, "write", "(III)I"⟩
abbrev cX5_told : ByteArray := prog_7_method_33_code
def yX5_told : MethodName := ⟨RX5, "told", "(I)J"⟩
abbrev cX5_evidence : ByteArray := prog_7_method_34_code
def yX5_evidence : MethodName := ⟨RX5, "evidence", "()D"⟩
abbrev cX5_count : ByteArray := prog_7_method_35_code
def yX5_count : MethodName := ⟨RX5, "count", "(I)I"⟩
abbrev cX5_clear : ByteArray := prog_7_method_36_code
def yX5_clear : MethodName := ⟨RX5, "clear", "()I"⟩
def RJx145de : String := "java/io/Serializable"
def TJx145de : u_T := fun k => match k with
  | _ => ("", "", "", false)
def tyJx145de : Nat → FieldType := fun k => match k with
  | _ => .int
abbrev wsJx145de0 : List Cond := u_ws RJx145de TJx145de 0
theorem nmJx145de : ∀ a, a < 0 → ∀ b, b < 0 → a ≠ b → (TJx145de a).2.1 ≠ (TJx145de b).2.1 := by decide +kernel
theorem tyJx145de_ok : ∀ k, k < 0 → parseFieldDescriptor (TJx145de k).2.2.1 = some (tyJx145de k) := by decide +kernel
def RJx00060 : String := "java/lang/ArrayIndexOutOfBoundsException"
def TJx00060 : u_T := fun k => match k with
  | 0 => ("java/lang/Throwable", "backtrace", "Ljava/lang/Object;", false)
  | 1 => ("java/lang/Throwable", "detailMessage", "Ljava/lang/String;", false)
  | 2 => ("java/lang/Throwable", "cause", "Ljava/lang/Throwable;", false)
  | 3 => ("java/lang/Throwable", "stackTrace", "[Ljava/lang/StackTraceElement;", false)
  | 4 => ("java/lang/Throwable", "depth", "I", false)
  | _ => ("java/lang/Throwable", "suppressedExceptions", "Ljava/util/List;", false)
def tyJx00060 : Nat → FieldType := fun k => match k with
  | 0 => .object "java/lang/Object"
  | 1 => .object "java/lang/String"
  | 2 => .object "java/lang/Throwable"
  | 3 => .array (.object "java/lang/StackTraceElement")
  | 4 => .int
  | _ => .object "java/util/List"
abbrev wsJx000600 : List Cond := u_ws RJx00060 TJx00060 6
theorem nmJx00060 : ∀ a, a < 6 → ∀ b, b < 6 → a ≠ b → (TJx00060 a).2.1 ≠ (TJx00060 b).2.1 := by decide +kernel
theorem tyJx00060_ok : ∀ k, k < 6 → parseFieldDescriptor (TJx00060 k).2.2.1 = some (tyJx00060 k) := by decide +kernel
abbrev cJx00060_init_a7421 : ByteArray := prog_8_method_2_code
def yJx00060_init_a7421 : MethodName := ⟨RJx00060, "<init>", "(Ljava/lang/String;)V"⟩
def RJ0 : String := "java/lang/String"
def TJ0 : u_T := fun k => match k with
  | 0 => ("java/lang/String", "value", "[B", true)
  | _ => ("java/lang/String", "coder", "B", true)
def tyJ0 : Nat → FieldType := fun k => match k with
  | 0 => .array .byte
  | _ => .byte
abbrev wsJ00 : List Cond := u_ws RJ0 TJ0 2
theorem nmJ0 : ∀ a, a < 2 → ∀ b, b < 2 → a ≠ b → (TJ0 a).2.1 ≠ (TJ0 b).2.1 := by decide +kernel
theorem tyJ0_ok : ∀ k, k < 2 → parseFieldDescriptor (TJ0 k).2.2.1 = some (tyJ0 k) := by decide +kernel
def RJ10 : String := "java/lang/System"
def TJ10 : u_T := fun k => match k with
  | _ => ("", "", "", false)
def tyJ10 : Nat → FieldType := fun k => match k with
  | _ => .int
abbrev wsJ100 : List Cond := u_ws RJ10 TJ10 0
theorem nmJ10 : ∀ a, a < 0 → ∀ b, b < 0 → a ≠ b → (TJ10 a).2.1 ≠ (TJ10 b).2.1 := by decide +kernel
theorem tyJ10_ok : ∀ k, k < 0 → parseFieldDescriptor (TJ10 k).2.2.1 = some (tyJ10 k) := by decide +kernel
def RJ7 : String := "java/util/Arrays"
def TJ7 : u_T := fun k => match k with
  | _ => ("", "", "", false)
def tyJ7 : Nat → FieldType := fun k => match k with
  | _ => .int
abbrev wsJ70 : List Cond := u_ws RJ7 TJ7 0
theorem nmJ7 : ∀ a, a < 0 → ∀ b, b < 0 → a ≠ b → (TJ7 a).2.1 ≠ (TJ7 b).2.1 := by decide +kernel
theorem tyJ7_ok : ∀ k, k < 0 → parseFieldDescriptor (TJ7 k).2.2.1 = some (tyJ7 k) := by decide +kernel
abbrev cJ7_fill_53178 : ByteArray := prog_15_method_103_code
def yJ7_fill_53178 : MethodName := ⟨RJ7, "fill", "([II)V"⟩
def RL : String := "ResampledRowsLaw"
abbrev cL_history : ByteArray := method_3_code
def yL_history : MethodName := ⟨RL, "history", "(LResampledRows;II[J)I"⟩
abbrev cL_law : ByteArray := code
def yL_law : MethodName := ⟨RL, "law", "([I)Z"⟩
def wsX0_init : List Cond := .code yX0_init cX0_init 1 none :: ([.methodLink RX0 3 objectInit, .instanceMethod objectInit, .code objectInit ⟨#[0xb1]⟩ 1 none, .arrayClass .int, .fieldLink RX0 9 "ResampledRows$Draws" "forced" "[I"] ++ wsX00)
def wsX0_setAsAtFirst : List Cond := .code yX0_setAsAtFirst cX0_setAsAtFirst 1 none :: ([.fieldLink RX0 15 "ResampledRows$Draws" "first" "I", .fieldLink RX0 19 "ResampledRows$Draws" "left" "I", .fieldLink RX0 22 "ResampledRows$Draws" "x" "J"] ++ wsX00)
def wsX0_addForced : List Cond := .code yX0_addForced cX0_addForced 2 none :: ([.fieldLink RX0 9 "ResampledRows$Draws" "forced" "[I", .fieldLink RX0 15 "ResampledRows$Draws" "first" "I", .fieldLink RX0 19 "ResampledRows$Draws" "left" "I"] ++ wsX00 ++ (vx_atM "java/lang/ArrayIndexOutOfBoundsException" ["java/lang/IndexOutOfBoundsException", "java/lang/RuntimeException", "java/lang/Exception"]).filter goodWord)
def wsX0_next : List Cond := .code yX0_next cX0_next 2 (some .long) :: ([.fieldLink RX0 19 "ResampledRows$Draws" "left" "I", .fieldLink RX0 9 "ResampledRows$Draws" "forced" "[I", .fieldLink RX0 15 "ResampledRows$Draws" "first" "I", .fieldLink RX0 22 "ResampledRows$Draws" "x" "J", .constantLong RX0 30 (6364136223846793005), .constantLong RX0 32 (1442695040888963407)] ++ wsX00 ++ (vx_atM "java/lang/ArrayIndexOutOfBoundsException" ["java/lang/IndexOutOfBoundsException", "java/lang/RuntimeException", "java/lang/Exception"]).filter goodWord)
def wsX0_below : List Cond := .code yX0_below cX0_below 3 (some .long) :: ([.methodLink RX0 26 yX0_next, .instanceMethod yX0_next, .selects RX0 yX0_next yX0_next, .initialized RX0, .code yX0_next cX0_next 2 (some .long), .fieldLink RX0 19 "ResampledRows$Draws" "left" "I", .fieldLink RX0 9 "ResampledRows$Draws" "forced" "[I", .fieldLink RX0 15 "ResampledRows$Draws" "first" "I", .fieldLink RX0 22 "ResampledRows$Draws" "x" "J", .constantLong RX0 30 (6364136223846793005), .constantLong RX0 32 (1442695040888963407)] ++ wsX00 ++ (vx_atM "java/lang/ArrayIndexOutOfBoundsException" ["java/lang/IndexOutOfBoundsException", "java/lang/RuntimeException", "java/lang/Exception"]).filter goodWord)
def wsX4_sumOf : List Cond := .code yX4_sumOf cX4_sumOf 5 (some .long) :: ([] ++ (vx_atM "java/lang/ArrayIndexOutOfBoundsException" ["java/lang/IndexOutOfBoundsException", "java/lang/RuntimeException", "java/lang/Exception"]).filter goodWord)
def wsX4_firstAbove : List Cond := .code yX4_firstAbove cX4_firstAbove 9 (some .int) :: ([.constant RX4 172 (-1000004)] ++ (vx_atM "java/lang/ArrayIndexOutOfBoundsException" ["java/lang/IndexOutOfBoundsException", "java/lang/RuntimeException", "java/lang/Exception"]).filter goodWord)
def wsX0_byWeights : List Cond := .code yX0_byWeights cX0_byWeights 5 (some .int) :: ([.constant RX0 38 (-1000004), .static yX4_sumOf, .initialized RX4, .code yX4_sumOf cX4_sumOf 5 (some .long), .methodLink RX0 39 yX0_below, .instanceMethod yX0_below, .selects RX0 yX0_below yX0_below, .initialized RX0, .code yX0_below cX0_below 3 (some .long), .methodLink RX0 26 yX0_next, .instanceMethod yX0_next, .selects RX0 yX0_next yX0_next, .code yX0_next cX0_next 2 (some .long), .fieldLink RX0 19 "ResampledRows$Draws" "left" "I", .fieldLink RX0 9 "ResampledRows$Draws" "forced" "[I", .fieldLink RX0 15 "ResampledRows$Draws" "first" "I", .fieldLink RX0 22 "ResampledRows$Draws" "x" "J", .constantLong RX0 30 (6364136223846793005), .constantLong RX0 32 (1442695040888963407), .static yX4_firstAbove, .code yX4_firstAbove cX4_firstAbove 9 (some .int), .constant RX4 172 (-1000004)] ++ wsX00 ++ (vx_atM "java/lang/ArrayIndexOutOfBoundsException" ["java/lang/IndexOutOfBoundsException", "java/lang/RuntimeException", "java/lang/Exception"]).filter goodWord)
def wsX1_init : List Cond := .code yX1_init cX1_init 1 none :: ([.methodLink RX1 3 objectInit, .instanceMethod objectInit, .code objectInit ⟨#[0xb1]⟩ 1 none, .arrayClass .int, .fieldLink RX1 9 "ResampledRows$Picks" "times" "[I", .fieldLink RX1 15 "ResampledRows$Picks" "rests" "[I"] ++ wsX10)
def wsJ7_fill_53178 : List Cond := .code yJ7_fill_53178 cJ7_fill_53178 4 none :: ([])
def wsX1_add : List Cond := .code yX1_add cX1_add 2 none :: ([.fieldLink RX1 9 "ResampledRows$Picks" "times" "[I"] ++ wsX10 ++ (vx_atM "java/lang/ArrayIndexOutOfBoundsException" ["java/lang/IndexOutOfBoundsException", "java/lang/RuntimeException", "java/lang/Exception"]).filter goodWord)
def wsX1_firstPickBehindKept : List Cond := .code yX1_firstPickBehindKept cX1_firstPickBehindKept 2 (some .int) :: ([.fieldLink RX1 37 "ResampledRows$Run" "kept" "I", .constant RX1 50 (-1000009), .methodLink RX1 51 yX1_add, .instanceMethod yX1_add, .selects RX1 yX1_add yX1_add, .initialized RX1, .code yX1_add cX1_add 2 none, .fieldLink RX1 9 "ResampledRows$Picks" "times" "[I"] ++ wsX20 ++ wsX10 ++ (vx_atM "java/lang/ArrayIndexOutOfBoundsException" ["java/lang/IndexOutOfBoundsException", "java/lang/RuntimeException", "java/lang/Exception"]).filter goodWord)
def wsX1_pickEachByWeights_r1 : List Cond := [Cond.fieldLink RX1 43 "ResampledRows$Run" "n" "I", Cond.fieldLink RX1 59 "ResampledRows$Run" "weights" "[I", Cond.methodLink RX1 55 yX1_firstPickBehindKept, Cond.instanceMethod yX1_firstPickBehindKept, Cond.selects RX1 yX1_firstPickBehindKept yX1_firstPickBehindKept, Cond.initialized RX1, Cond.code yX1_firstPickBehindKept cX1_firstPickBehindKept 2 (some .int), Cond.fieldLink RX1 37 "ResampledRows$Run" "kept" "I", Cond.constant RX1 50 (-1000009), Cond.methodLink RX1 51 yX1_add, Cond.instanceMethod yX1_add, Cond.selects RX1 yX1_add yX1_add, Cond.code yX1_add cX1_add 2 none, Cond.fieldLink RX1 9 "ResampledRows$Picks" "times" "[I", Cond.methodLink RX1 62 yX0_byWeights, Cond.instanceMethod yX0_byWeights, Cond.selects RX0 yX0_byWeights yX0_byWeights, Cond.initialized RX0, Cond.code yX0_byWeights cX0_byWeights 5 (some .int), Cond.constant RX0 38 (-1000004), Cond.static yX4_sumOf, Cond.initialized RX4, Cond.code yX4_sumOf cX4_sumOf 5 (some .long), Cond.methodLink RX0 39 yX0_below]
def wsX1_pickEachByWeights_r2 : List Cond := [Cond.instanceMethod yX0_below, Cond.selects RX0 yX0_below yX0_below, Cond.code yX0_below cX0_below 3 (some .long), Cond.methodLink RX0 26 yX0_next, Cond.instanceMethod yX0_next, Cond.selects RX0 yX0_next yX0_next, Cond.code yX0_next cX0_next 2 (some .long), Cond.fieldLink RX0 19 "ResampledRows$Draws" "left" "I", Cond.fieldLink RX0 9 "ResampledRows$Draws" "forced" "[I", Cond.fieldLink RX0 15 "ResampledRows$Draws" "first" "I", Cond.fieldLink RX0 22 "ResampledRows$Draws" "x" "J", Cond.constantLong RX0 30 (6364136223846793005), Cond.constantLong RX0 32 (1442695040888963407), Cond.static yX4_firstAbove, Cond.code yX4_firstAbove cX4_firstAbove 9 (some .int), Cond.constant RX4 172 (-1000004)]
def wsX1_pickEachByWeights : List Cond := .code yX1_pickEachByWeights cX1_pickEachByWeights 4 none :: ((wsX1_pickEachByWeights_r1 ++ wsX1_pickEachByWeights_r2) ++ wsX20 ++ wsX10 ++ wsX00 ++ (vx_atM "java/lang/ArrayIndexOutOfBoundsException" ["java/lang/IndexOutOfBoundsException", "java/lang/RuntimeException", "java/lang/Exception"]).filter goodWord)
def wsX2_total : List Cond := .code yX2_total cX2_total 1 (some .long) :: ([.fieldLink RX2 34 "ResampledRows$Run" "weights" "[I", .fieldLink RX2 51 "ResampledRows$Run" "n" "I", .static yX4_sumOf, .initialized RX4, .code yX4_sumOf cX4_sumOf 5 (some .long)] ++ wsX20 ++ (vx_atM "java/lang/ArrayIndexOutOfBoundsException" ["java/lang/IndexOutOfBoundsException", "java/lang/RuntimeException", "java/lang/Exception"]).filter goodWord)
def wsX1_pickWithDrawsOfTheirOwn_r1 : List Cond := [Cond.fieldLink RX1 43 "ResampledRows$Run" "n" "I", Cond.fieldLink RX1 59 "ResampledRows$Run" "weights" "[I", Cond.methodLink RX1 68 yX2_total, Cond.instanceMethod yX2_total, Cond.selects RX2 yX2_total yX2_total, Cond.initialized RX2, Cond.code yX2_total cX2_total 1 (some .long), Cond.fieldLink RX2 34 "ResampledRows$Run" "weights" "[I", Cond.fieldLink RX2 51 "ResampledRows$Run" "n" "I", Cond.static yX4_sumOf, Cond.initialized RX4, Cond.code yX4_sumOf cX4_sumOf 5 (some .long), Cond.methodLink RX1 55 yX1_firstPickBehindKept, Cond.instanceMethod yX1_firstPickBehindKept, Cond.selects RX1 yX1_firstPickBehindKept yX1_firstPickBehindKept, Cond.initialized RX1, Cond.code yX1_firstPickBehindKept cX1_firstPickBehindKept 2 (some .int), Cond.fieldLink RX1 37 "ResampledRows$Run" "kept" "I", Cond.constant RX1 50 (-1000009), Cond.methodLink RX1 51 yX1_add, Cond.instanceMethod yX1_add, Cond.selects RX1 yX1_add yX1_add, Cond.code yX1_add cX1_add 2 none, Cond.fieldLink RX1 9 "ResampledRows$Picks" "times" "[I"]
def wsX1_pickWithDrawsOfTheirOwn_r2 : List Cond := [Cond.methodLink RX1 72 yX0_below, Cond.instanceMethod yX0_below, Cond.selects RX0 yX0_below yX0_below, Cond.initialized RX0, Cond.code yX0_below cX0_below 3 (some .long), Cond.methodLink RX0 26 yX0_next, Cond.instanceMethod yX0_next, Cond.selects RX0 yX0_next yX0_next, Cond.code yX0_next cX0_next 2 (some .long), Cond.fieldLink RX0 19 "ResampledRows$Draws" "left" "I", Cond.fieldLink RX0 9 "ResampledRows$Draws" "forced" "[I", Cond.fieldLink RX0 15 "ResampledRows$Draws" "first" "I", Cond.fieldLink RX0 22 "ResampledRows$Draws" "x" "J", Cond.constantLong RX0 30 (6364136223846793005), Cond.constantLong RX0 32 (1442695040888963407), Cond.static yX4_firstAbove, Cond.code yX4_firstAbove cX4_firstAbove 9 (some .int), Cond.constant RX4 172 (-1000004)]
def wsX1_pickWithDrawsOfTheirOwn : List Cond := .code yX1_pickWithDrawsOfTheirOwn cX1_pickWithDrawsOfTheirOwn 6 none :: ((wsX1_pickWithDrawsOfTheirOwn_r1 ++ wsX1_pickWithDrawsOfTheirOwn_r2) ++ wsX20 ++ wsX10 ++ wsX00 ++ (vx_atM "java/lang/ArrayIndexOutOfBoundsException" ["java/lang/IndexOutOfBoundsException", "java/lang/RuntimeException", "java/lang/Exception"]).filter goodWord)
def wsX1_pickWithOneDraw_r1 : List Cond := [Cond.fieldLink RX1 43 "ResampledRows$Run" "n" "I", Cond.fieldLink RX1 59 "ResampledRows$Run" "weights" "[I", Cond.methodLink RX1 68 yX2_total, Cond.instanceMethod yX2_total, Cond.selects RX2 yX2_total yX2_total, Cond.initialized RX2, Cond.code yX2_total cX2_total 1 (some .long), Cond.fieldLink RX2 34 "ResampledRows$Run" "weights" "[I", Cond.fieldLink RX2 51 "ResampledRows$Run" "n" "I", Cond.static yX4_sumOf, Cond.initialized RX4, Cond.code yX4_sumOf cX4_sumOf 5 (some .long), Cond.methodLink RX1 72 yX0_below, Cond.instanceMethod yX0_below, Cond.selects RX0 yX0_below yX0_below, Cond.initialized RX0, Cond.code yX0_below cX0_below 3 (some .long), Cond.methodLink RX0 26 yX0_next, Cond.instanceMethod yX0_next, Cond.selects RX0 yX0_next yX0_next, Cond.code yX0_next cX0_next 2 (some .long), Cond.fieldLink RX0 19 "ResampledRows$Draws" "left" "I", Cond.fieldLink RX0 9 "ResampledRows$Draws" "forced" "[I", Cond.fieldLink RX0 15 "ResampledRows$Draws" "first" "I"]
def wsX1_pickWithOneDraw_r2 : List Cond := [Cond.fieldLink RX0 22 "ResampledRows$Draws" "x" "J", Cond.constantLong RX0 30 (6364136223846793005), Cond.constantLong RX0 32 (1442695040888963407), Cond.methodLink RX1 55 yX1_firstPickBehindKept, Cond.instanceMethod yX1_firstPickBehindKept, Cond.selects RX1 yX1_firstPickBehindKept yX1_firstPickBehindKept, Cond.initialized RX1, Cond.code yX1_firstPickBehindKept cX1_firstPickBehindKept 2 (some .int), Cond.fieldLink RX1 37 "ResampledRows$Run" "kept" "I", Cond.constant RX1 50 (-1000009), Cond.methodLink RX1 51 yX1_add, Cond.instanceMethod yX1_add, Cond.selects RX1 yX1_add yX1_add, Cond.code yX1_add cX1_add 2 none, Cond.fieldLink RX1 9 "ResampledRows$Picks" "times" "[I", Cond.static yX4_firstAbove, Cond.code yX4_firstAbove cX4_firstAbove 9 (some .int), Cond.constant RX4 172 (-1000004)]
def wsX1_pickWithOneDraw : List Cond := .code yX1_pickWithOneDraw cX1_pickWithOneDraw 8 none :: ((wsX1_pickWithOneDraw_r1 ++ wsX1_pickWithOneDraw_r2) ++ wsX20 ++ wsX00 ++ wsX10 ++ (vx_atM "java/lang/ArrayIndexOutOfBoundsException" ["java/lang/IndexOutOfBoundsException", "java/lang/RuntimeException", "java/lang/Exception"]).filter goodWord)
def wsX1_pickByPartsAndRests_r1 : List Cond := [Cond.fieldLink RX1 43 "ResampledRows$Run" "n" "I", Cond.fieldLink RX1 59 "ResampledRows$Run" "weights" "[I", Cond.fieldLink RX1 9 "ResampledRows$Picks" "times" "[I", Cond.fieldLink RX1 15 "ResampledRows$Picks" "rests" "[I", Cond.methodLink RX1 68 yX2_total, Cond.instanceMethod yX2_total, Cond.selects RX2 yX2_total yX2_total, Cond.initialized RX2, Cond.code yX2_total cX2_total 1 (some .long), Cond.fieldLink RX2 34 "ResampledRows$Run" "weights" "[I", Cond.fieldLink RX2 51 "ResampledRows$Run" "n" "I", Cond.static yX4_sumOf, Cond.initialized RX4, Cond.code yX4_sumOf cX4_sumOf 5 (some .long), Cond.methodLink RX1 62 yX0_byWeights, Cond.instanceMethod yX0_byWeights, Cond.selects RX0 yX0_byWeights yX0_byWeights, Cond.initialized RX0, Cond.code yX0_byWeights cX0_byWeights 5 (some .int), Cond.constant RX0 38 (-1000004), Cond.methodLink RX0 39 yX0_below, Cond.instanceMethod yX0_below, Cond.selects RX0 yX0_below yX0_below, Cond.code yX0_below cX0_below 3 (some .long)]
def wsX1_pickByPartsAndRests_r2 : List Cond := [Cond.methodLink RX0 26 yX0_next, Cond.instanceMethod yX0_next, Cond.selects RX0 yX0_next yX0_next, Cond.code yX0_next cX0_next 2 (some .long), Cond.fieldLink RX0 19 "ResampledRows$Draws" "left" "I", Cond.fieldLink RX0 9 "ResampledRows$Draws" "forced" "[I", Cond.fieldLink RX0 15 "ResampledRows$Draws" "first" "I", Cond.fieldLink RX0 22 "ResampledRows$Draws" "x" "J", Cond.constantLong RX0 30 (6364136223846793005), Cond.constantLong RX0 32 (1442695040888963407), Cond.static yX4_firstAbove, Cond.code yX4_firstAbove cX4_firstAbove 9 (some .int), Cond.constant RX4 172 (-1000004), Cond.methodLink RX1 51 yX1_add, Cond.instanceMethod yX1_add, Cond.selects RX1 yX1_add yX1_add, Cond.initialized RX1, Cond.code yX1_add cX1_add 2 none]
def wsX1_pickByPartsAndRests : List Cond := .code yX1_pickByPartsAndRests cX1_pickByPartsAndRests 9 none :: ((wsX1_pickByPartsAndRests_r1 ++ wsX1_pickByPartsAndRests_r2) ++ wsX20 ++ wsX10 ++ wsX00 ++ (vx_atM "java/lang/ArrayIndexOutOfBoundsException" ["java/lang/IndexOutOfBoundsException", "java/lang/RuntimeException", "java/lang/Exception"]).filter goodWord)
def wsX1_putIn : List Cond := .code yX1_putIn cX1_putIn 4 none :: ([.fieldLink RX1 9 "ResampledRows$Picks" "times" "[I"] ++ wsX10 ++ (vx_atM "java/lang/ArrayIndexOutOfBoundsException" ["java/lang/IndexOutOfBoundsException", "java/lang/RuntimeException", "java/lang/Exception"]).filter goodWord)
def wsX1_pick_r1 : List Cond := [Cond.fieldLink RX1 9 "ResampledRows$Picks" "times" "[I", Cond.fieldLink RX1 37 "ResampledRows$Run" "kept" "I", Cond.fieldLink RX1 43 "ResampledRows$Run" "n" "I", Cond.methodLink RX1 18 yJ7_fill_53178, Cond.static yJ7_fill_53178, Cond.initialized RJ7, Cond.code yJ7_fill_53178 cJ7_fill_53178 4 none, Cond.methodLink RX1 24 yX1_pickEachByWeights, Cond.instanceMethod yX1_pickEachByWeights, Cond.selects RX1 yX1_pickEachByWeights yX1_pickEachByWeights, Cond.initialized RX1, Cond.code yX1_pickEachByWeights cX1_pickEachByWeights 4 none, Cond.fieldLink RX1 59 "ResampledRows$Run" "weights" "[I", Cond.methodLink RX1 55 yX1_firstPickBehindKept, Cond.instanceMethod yX1_firstPickBehindKept, Cond.selects RX1 yX1_firstPickBehindKept yX1_firstPickBehindKept, Cond.code yX1_firstPickBehindKept cX1_firstPickBehindKept 2 (some .int), Cond.constant RX1 50 (-1000009), Cond.methodLink RX1 51 yX1_add, Cond.instanceMethod yX1_add, Cond.selects RX1 yX1_add yX1_add, Cond.code yX1_add cX1_add 2 none, Cond.methodLink RX1 62 yX0_byWeights, Cond.instanceMethod yX0_byWeights]
def wsX1_pick_r2 : List Cond := [Cond.selects RX0 yX0_byWeights yX0_byWeights, Cond.initialized RX0, Cond.code yX0_byWeights cX0_byWeights 5 (some .int), Cond.constant RX0 38 (-1000004), Cond.static yX4_sumOf, Cond.initialized RX4, Cond.code yX4_sumOf cX4_sumOf 5 (some .long), Cond.methodLink RX0 39 yX0_below, Cond.instanceMethod yX0_below, Cond.selects RX0 yX0_below yX0_below, Cond.code yX0_below cX0_below 3 (some .long), Cond.methodLink RX0 26 yX0_next, Cond.instanceMethod yX0_next, Cond.selects RX0 yX0_next yX0_next, Cond.code yX0_next cX0_next 2 (some .long), Cond.fieldLink RX0 19 "ResampledRows$Draws" "left" "I", Cond.fieldLink RX0 9 "ResampledRows$Draws" "forced" "[I", Cond.fieldLink RX0 15 "ResampledRows$Draws" "first" "I", Cond.fieldLink RX0 22 "ResampledRows$Draws" "x" "J", Cond.constantLong RX0 30 (6364136223846793005), Cond.constantLong RX0 32 (1442695040888963407), Cond.static yX4_firstAbove, Cond.code yX4_firstAbove cX4_firstAbove 9 (some .int), Cond.constant RX4 172 (-1000004)]
def wsX1_pick_r3 : List Cond := [Cond.methodLink RX1 28 yX1_pickWithDrawsOfTheirOwn, Cond.instanceMethod yX1_pickWithDrawsOfTheirOwn, Cond.selects RX1 yX1_pickWithDrawsOfTheirOwn yX1_pickWithDrawsOfTheirOwn, Cond.code yX1_pickWithDrawsOfTheirOwn cX1_pickWithDrawsOfTheirOwn 6 none, Cond.methodLink RX1 68 yX2_total, Cond.instanceMethod yX2_total, Cond.selects RX2 yX2_total yX2_total, Cond.initialized RX2, Cond.code yX2_total cX2_total 1 (some .long), Cond.fieldLink RX2 34 "ResampledRows$Run" "weights" "[I", Cond.fieldLink RX2 51 "ResampledRows$Run" "n" "I", Cond.methodLink RX1 72 yX0_below, Cond.methodLink RX1 31 yX1_pickWithOneDraw, Cond.instanceMethod yX1_pickWithOneDraw, Cond.selects RX1 yX1_pickWithOneDraw yX1_pickWithOneDraw, Cond.code yX1_pickWithOneDraw cX1_pickWithOneDraw 8 none, Cond.methodLink RX1 34 yX1_pickByPartsAndRests, Cond.instanceMethod yX1_pickByPartsAndRests, Cond.selects RX1 yX1_pickByPartsAndRests yX1_pickByPartsAndRests, Cond.code yX1_pickByPartsAndRests cX1_pickByPartsAndRests 9 none, Cond.fieldLink RX1 15 "ResampledRows$Picks" "rests" "[I", Cond.methodLink RX1 46 yX1_putIn, Cond.instanceMethod yX1_putIn, Cond.selects RX1 yX1_putIn yX1_putIn]
def wsX1_pick_r4 : List Cond := [Cond.code yX1_putIn cX1_putIn 4 none]
def wsX1_pick : List Cond := .code yX1_pick cX1_pick 4 none :: ((wsX1_pick_r1 ++ (wsX1_pick_r2 ++ (wsX1_pick_r3 ++ wsX1_pick_r4))) ++ wsX10 ++ wsX20 ++ wsX00 ++ (vx_atM "java/lang/ArrayIndexOutOfBoundsException" ["java/lang/IndexOutOfBoundsException", "java/lang/RuntimeException", "java/lang/Exception"]).filter goodWord)
def wsX1_putInOrder : List Cond := .code yX1_putInOrder cX1_putInOrder 6 none :: ([.fieldLink RX1 9 "ResampledRows$Picks" "times" "[I"] ++ wsX10 ++ (vx_atM "java/lang/ArrayIndexOutOfBoundsException" ["java/lang/IndexOutOfBoundsException", "java/lang/RuntimeException", "java/lang/Exception"]).filter goodWord)
def wsX1_unlike : List Cond := .code yX1_unlike cX1_unlike 4 (some .int) :: ([.fieldLink RX1 9 "ResampledRows$Picks" "times" "[I"] ++ wsX10 ++ (vx_atM "java/lang/ArrayIndexOutOfBoundsException" ["java/lang/IndexOutOfBoundsException", "java/lang/RuntimeException", "java/lang/Exception"]).filter goodWord)
def wsX2_init : List Cond := .code yX2_init cX2_init 1 none :: ([.methodLink RX2 3 objectInit, .instanceMethod objectInit, .code objectInit ⟨#[0xb1]⟩ 1 none, .classLink RX2 9 RX1, .instantiable RX1 2, .initialized RX1, .fieldLink RX2 12 "ResampledRows$Run" "picks" "LResampledRows$Picks;", .arrayClass .int, .fieldLink RX2 18 "ResampledRows$Run" "origins" "[I", .constant RX2 22 (-1000009), .fieldLink RX2 23 "ResampledRows$Run" "kept" "I", .fieldLink RX2 27 "ResampledRows$Run" "multiplied" "D", .fieldLink RX2 31 "ResampledRows$Run" "states" "[I", .fieldLink RX2 34 "ResampledRows$Run" "weights" "[I", .classLink RX2 37 "[[I", .fieldLink RX2 39 "ResampledRows$Run" "histories" "[[I", .fieldLink RX2 42 "ResampledRows$Run" "nextStates" "[I", .fieldLink RX2 45 "ResampledRows$Run" "nextWeights" "[I", .fieldLink RX2 48 "ResampledRows$Run" "nextHistories" "[[I", .instanceMethod yX1_init, .code yX1_init cX1_init 1 none, .methodLink RX1 3 objectInit, .fieldLink RX1 9 "ResampledRows$Picks" "times" "[I", .fieldLink RX1 15 "ResampledRows$Picks" "rests" "[I"] ++ wsX10 ++ wsX20)
def wsX2_isBegun : List Cond := .code yX2_isBegun cX2_isBegun 1 (some .boolean) :: ([.fieldLink RX2 51 "ResampledRows$Run" "n" "I"] ++ wsX20)
def wsX2_hasRow : List Cond := .code yX2_hasRow cX2_hasRow 2 (some .boolean) :: ([.fieldLink RX2 51 "ResampledRows$Run" "n" "I"] ++ wsX20)
def wsX2_places : List Cond := .code yX2_places cX2_places 1 (some .int) :: ([.fieldLink RX2 54 "ResampledRows$Run" "steps" "I"] ++ wsX20)
def wsX2_hasPlace : List Cond := .code yX2_hasPlace cX2_hasPlace 2 (some .boolean) :: ([.methodLink RX2 57 yX2_places, .instanceMethod yX2_places, .selects RX2 yX2_places yX2_places, .initialized RX2, .code yX2_places cX2_places 1 (some .int), .fieldLink RX2 54 "ResampledRows$Run" "steps" "I"] ++ wsX20)
def wsX2_end : List Cond := .code yX2_end cX2_end 1 none :: ([.fieldLink RX2 51 "ResampledRows$Run" "n" "I", .fieldLink RX2 54 "ResampledRows$Run" "steps" "I", .fieldLink RX2 61 "ResampledRows$Run" "timesAnew" "I", .constant RX2 22 (-1000009), .fieldLink RX2 23 "ResampledRows$Run" "kept" "I", .fieldLink RX2 27 "ResampledRows$Run" "multiplied" "D"] ++ wsX20)
def wsX2_beginWith_r1 : List Cond := [Cond.constant RX2 73 (-1000004), Cond.fieldLink RX2 31 "ResampledRows$Run" "states" "[I", Cond.fieldLink RX2 34 "ResampledRows$Run" "weights" "[I", Cond.fieldLink RX2 39 "ResampledRows$Run" "histories" "[[I", Cond.fieldLink RX2 51 "ResampledRows$Run" "n" "I", Cond.methodLink RX2 64 yX2_end, Cond.instanceMethod yX2_end, Cond.selects RX2 yX2_end yX2_end, Cond.initialized RX2, Cond.code yX2_end cX2_end 1 none, Cond.fieldLink RX2 54 "ResampledRows$Run" "steps" "I", Cond.fieldLink RX2 61 "ResampledRows$Run" "timesAnew" "I", Cond.constant RX2 22 (-1000009), Cond.fieldLink RX2 23 "ResampledRows$Run" "kept" "I", Cond.fieldLink RX2 27 "ResampledRows$Run" "multiplied" "D", Cond.methodLink RX2 67 yX0_byWeights, Cond.instanceMethod yX0_byWeights, Cond.selects RX0 yX0_byWeights yX0_byWeights, Cond.initialized RX0, Cond.code yX0_byWeights cX0_byWeights 5 (some .int), Cond.constant RX0 38 (-1000004), Cond.static yX4_sumOf, Cond.initialized RX4, Cond.code yX4_sumOf cX4_sumOf 5 (some .long)]
def wsX2_beginWith_r2 : List Cond := [Cond.methodLink RX0 39 yX0_below, Cond.instanceMethod yX0_below, Cond.selects RX0 yX0_below yX0_below, Cond.code yX0_below cX0_below 3 (some .long), Cond.methodLink RX0 26 yX0_next, Cond.instanceMethod yX0_next, Cond.selects RX0 yX0_next yX0_next, Cond.code yX0_next cX0_next 2 (some .long), Cond.fieldLink RX0 19 "ResampledRows$Draws" "left" "I", Cond.fieldLink RX0 9 "ResampledRows$Draws" "forced" "[I", Cond.fieldLink RX0 15 "ResampledRows$Draws" "first" "I", Cond.fieldLink RX0 22 "ResampledRows$Draws" "x" "J", Cond.constantLong RX0 30 (6364136223846793005), Cond.constantLong RX0 32 (1442695040888963407), Cond.static yX4_firstAbove, Cond.code yX4_firstAbove cX4_firstAbove 9 (some .int), Cond.constant RX4 172 (-1000004)]
def wsX2_beginWith : List Cond := .code yX2_beginWith cX2_beginWith 6 (some .int) :: ((wsX2_beginWith_r1 ++ wsX2_beginWith_r2) ++ wsX20 ++ wsX00 ++ (vx_atM "java/lang/ArrayIndexOutOfBoundsException" ["java/lang/IndexOutOfBoundsException", "java/lang/RuntimeException", "java/lang/Exception"]).filter goodWord)
def wsX2_standsAt : List Cond := .code yX2_standsAt cX2_standsAt 4 (some .boolean) :: ([.fieldLink RX2 51 "ResampledRows$Run" "n" "I", .fieldLink RX2 31 "ResampledRows$Run" "states" "[I"] ++ wsX20 ++ (vx_atM "java/lang/ArrayIndexOutOfBoundsException" ["java/lang/IndexOutOfBoundsException", "java/lang/RuntimeException", "java/lang/Exception"]).filter goodWord)
def wsX2_takeNextStatesAndWeights : List Cond := .code yX2_takeNextStatesAndWeights cX2_takeNextStatesAndWeights 3 none :: ([.fieldLink RX2 31 "ResampledRows$Run" "states" "[I", .fieldLink RX2 42 "ResampledRows$Run" "nextStates" "[I", .fieldLink RX2 34 "ResampledRows$Run" "weights" "[I", .fieldLink RX2 45 "ResampledRows$Run" "nextWeights" "[I"] ++ wsX20)
def wsX2_goOn_r1 : List Cond := [Cond.fieldLink RX2 51 "ResampledRows$Run" "n" "I", Cond.fieldLink RX2 31 "ResampledRows$Run" "states" "[I", Cond.constant RX2 73 (-1000004), Cond.fieldLink RX2 42 "ResampledRows$Run" "nextStates" "[I", Cond.fieldLink RX2 45 "ResampledRows$Run" "nextWeights" "[I", Cond.fieldLink RX2 34 "ResampledRows$Run" "weights" "[I", Cond.constant RX2 74 (1000000), Cond.constant RX2 75 (-1000005), Cond.fieldLink RX2 54 "ResampledRows$Run" "steps" "I", Cond.fieldLink RX2 39 "ResampledRows$Run" "histories" "[[I", Cond.methodLink RX2 67 yX0_byWeights, Cond.instanceMethod yX0_byWeights, Cond.selects RX0 yX0_byWeights yX0_byWeights, Cond.initialized RX0, Cond.code yX0_byWeights cX0_byWeights 5 (some .int), Cond.constant RX0 38 (-1000004), Cond.static yX4_sumOf, Cond.initialized RX4, Cond.code yX4_sumOf cX4_sumOf 5 (some .long), Cond.methodLink RX0 39 yX0_below, Cond.instanceMethod yX0_below, Cond.selects RX0 yX0_below yX0_below, Cond.code yX0_below cX0_below 3 (some .long), Cond.methodLink RX0 26 yX0_next]
def wsX2_goOn_r2 : List Cond := [Cond.instanceMethod yX0_next, Cond.selects RX0 yX0_next yX0_next, Cond.code yX0_next cX0_next 2 (some .long), Cond.fieldLink RX0 19 "ResampledRows$Draws" "left" "I", Cond.fieldLink RX0 9 "ResampledRows$Draws" "forced" "[I", Cond.fieldLink RX0 15 "ResampledRows$Draws" "first" "I", Cond.fieldLink RX0 22 "ResampledRows$Draws" "x" "J", Cond.constantLong RX0 30 (6364136223846793005), Cond.constantLong RX0 32 (1442695040888963407), Cond.static yX4_firstAbove, Cond.code yX4_firstAbove cX4_firstAbove 9 (some .int), Cond.constant RX4 172 (-1000004), Cond.methodLink RX2 76 yX2_takeNextStatesAndWeights, Cond.instanceMethod yX2_takeNextStatesAndWeights, Cond.selects RX2 yX2_takeNextStatesAndWeights yX2_takeNextStatesAndWeights, Cond.initialized RX2, Cond.code yX2_takeNextStatesAndWeights cX2_takeNextStatesAndWeights 3 none]
def wsX2_goOn : List Cond := .code yX2_goOn cX2_goOn 6 (some .int) :: ((wsX2_goOn_r1 ++ wsX2_goOn_r2) ++ wsX20 ++ wsX00 ++ (vx_atM "java/lang/ArrayIndexOutOfBoundsException" ["java/lang/IndexOutOfBoundsException", "java/lang/RuntimeException", "java/lang/Exception"]).filter goodWord)
def wsX2_squares : List Cond := .code yX2_squares cX2_squares 4 (some .long) :: ([.fieldLink RX2 51 "ResampledRows$Run" "n" "I", .fieldLink RX2 34 "ResampledRows$Run" "weights" "[I"] ++ wsX20 ++ (vx_atM "java/lang/ArrayIndexOutOfBoundsException" ["java/lang/IndexOutOfBoundsException", "java/lang/RuntimeException", "java/lang/Exception"]).filter goodWord)
def wsX2_effective : List Cond := .code yX2_effective cX2_effective 3 (some .long) :: ([.methodLink RX2 83 yX2_squares, .instanceMethod yX2_squares, .selects RX2 yX2_squares yX2_squares, .initialized RX2, .code yX2_squares cX2_squares 4 (some .long), .fieldLink RX2 51 "ResampledRows$Run" "n" "I", .fieldLink RX2 34 "ResampledRows$Run" "weights" "[I", .methodLink RX2 87 yX2_total, .instanceMethod yX2_total, .selects RX2 yX2_total yX2_total, .code yX2_total cX2_total 1 (some .long), .static yX4_sumOf, .initialized RX4, .code yX4_sumOf cX4_sumOf 5 (some .long)] ++ wsX20 ++ (vx_atM "java/lang/ArrayIndexOutOfBoundsException" ["java/lang/IndexOutOfBoundsException", "java/lang/RuntimeException", "java/lang/Exception"]).filter goodWord)
def wsX2_isEffectiveBelow : List Cond := .code yX2_isEffectiveBelow cX2_isEffectiveBelow 2 (some .boolean) :: ([.constantLong RX2 90 (100), .fieldLink RX2 51 "ResampledRows$Run" "n" "I", .methodLink RX2 87 yX2_total, .instanceMethod yX2_total, .selects RX2 yX2_total yX2_total, .initialized RX2, .code yX2_total cX2_total 1 (some .long), .fieldLink RX2 34 "ResampledRows$Run" "weights" "[I", .static yX4_sumOf, .initialized RX4, .code yX4_sumOf cX4_sumOf 5 (some .long), .methodLink RX2 83 yX2_squares, .instanceMethod yX2_squares, .selects RX2 yX2_squares yX2_squares, .code yX2_squares cX2_squares 4 (some .long)] ++ wsX20 ++ (vx_atM "java/lang/ArrayIndexOutOfBoundsException" ["java/lang/IndexOutOfBoundsException", "java/lang/RuntimeException", "java/lang/Exception"]).filter goodWord)
def wsX2_evidenceSoFar : List Cond := .code yX2_evidenceSoFar cX2_evidenceSoFar 1 (some .double) :: ([.fieldLink RX2 27 "ResampledRows$Run" "multiplied" "D", .fieldLink RX2 51 "ResampledRows$Run" "n" "I", .methodLink RX2 87 yX2_total, .instanceMethod yX2_total, .selects RX2 yX2_total yX2_total, .initialized RX2, .code yX2_total cX2_total 1 (some .long), .fieldLink RX2 34 "ResampledRows$Run" "weights" "[I", .static yX4_sumOf, .initialized RX4, .code yX4_sumOf cX4_sumOf 5 (some .long)] ++ wsX20 ++ (vx_atM "java/lang/ArrayIndexOutOfBoundsException" ["java/lang/IndexOutOfBoundsException", "java/lang/RuntimeException", "java/lang/Exception"]).filter goodWord)
def wsX2_becomePicked : List Cond := .code yX2_becomePicked cX2_becomePicked 3 none :: ([.fieldLink RX2 51 "ResampledRows$Run" "n" "I", .fieldLink RX2 18 "ResampledRows$Run" "origins" "[I", .fieldLink RX2 42 "ResampledRows$Run" "nextStates" "[I", .fieldLink RX2 31 "ResampledRows$Run" "states" "[I", .fieldLink RX2 45 "ResampledRows$Run" "nextWeights" "[I", .fieldLink RX2 39 "ResampledRows$Run" "histories" "[[I", .fieldLink RX2 48 "ResampledRows$Run" "nextHistories" "[[I", .methodLink RX2 114 arraycopyName, .native arraycopyName, .static arraycopyName, .initialized "java/lang/System", .methodLink RX2 57 yX2_places, .instanceMethod yX2_places, .selects RX2 yX2_places yX2_places, .initialized RX2, .code yX2_places cX2_places 1 (some .int), .fieldLink RX2 54 "ResampledRows$Run" "steps" "I", .methodLink RX2 76 yX2_takeNextStatesAndWeights, .instanceMethod yX2_takeNextStatesAndWeights, .selects RX2 yX2_takeNextStatesAndWeights yX2_takeNextStatesAndWeights, .code yX2_takeNextStatesAndWeights cX2_takeNextStatesAndWeights 3 none, .fieldLink RX2 34 "ResampledRows$Run" "weights" "[I"] ++ wsX20 ++ (vx_atM "java/lang/ArrayIndexOutOfBoundsException" ["java/lang/IndexOutOfBoundsException", "java/lang/RuntimeException", "java/lang/Exception"]).filter goodWord)
def wsX2_firstThatWas : List Cond := .code yX2_firstThatWas cX2_firstThatWas 3 (some .int) :: ([.fieldLink RX2 51 "ResampledRows$Run" "n" "I", .fieldLink RX2 18 "ResampledRows$Run" "origins" "[I", .constant RX2 22 (-1000009)] ++ wsX20 ++ (vx_atM "java/lang/ArrayIndexOutOfBoundsException" ["java/lang/IndexOutOfBoundsException", "java/lang/RuntimeException", "java/lang/Exception"]).filter goodWord)
def wsX2_drawAnew_r1 : List Cond := [Cond.constant RX2 73 (-1000004), Cond.fieldLink RX2 27 "ResampledRows$Run" "multiplied" "D", Cond.fieldLink RX2 12 "ResampledRows$Run" "picks" "LResampledRows$Picks;", Cond.fieldLink RX2 18 "ResampledRows$Run" "origins" "[I", Cond.fieldLink RX2 51 "ResampledRows$Run" "n" "I", Cond.fieldLink RX2 23 "ResampledRows$Run" "kept" "I", Cond.constant RX2 22 (-1000009), Cond.fieldLink RX2 61 "ResampledRows$Run" "timesAnew" "I", Cond.methodLink RX2 87 yX2_total, Cond.instanceMethod yX2_total, Cond.selects RX2 yX2_total yX2_total, Cond.initialized RX2, Cond.code yX2_total cX2_total 1 (some .long), Cond.fieldLink RX2 34 "ResampledRows$Run" "weights" "[I", Cond.static yX4_sumOf, Cond.initialized RX4, Cond.code yX4_sumOf cX4_sumOf 5 (some .long), Cond.methodLink RX2 92 yX2_evidenceSoFar, Cond.instanceMethod yX2_evidenceSoFar, Cond.selects RX2 yX2_evidenceSoFar yX2_evidenceSoFar, Cond.code yX2_evidenceSoFar cX2_evidenceSoFar 1 (some .double), Cond.methodLink RX2 96 yX1_pick, Cond.instanceMethod yX1_pick, Cond.selects RX1 yX1_pick yX1_pick]
def wsX2_drawAnew_r2 : List Cond := [Cond.initialized RX1, Cond.code yX1_pick cX1_pick 4 none, Cond.fieldLink RX1 9 "ResampledRows$Picks" "times" "[I", Cond.fieldLink RX1 37 "ResampledRows$Run" "kept" "I", Cond.fieldLink RX1 43 "ResampledRows$Run" "n" "I", Cond.methodLink RX1 18 yJ7_fill_53178, Cond.static yJ7_fill_53178, Cond.initialized RJ7, Cond.code yJ7_fill_53178 cJ7_fill_53178 4 none, Cond.methodLink RX1 24 yX1_pickEachByWeights, Cond.instanceMethod yX1_pickEachByWeights, Cond.selects RX1 yX1_pickEachByWeights yX1_pickEachByWeights, Cond.code yX1_pickEachByWeights cX1_pickEachByWeights 4 none, Cond.fieldLink RX1 59 "ResampledRows$Run" "weights" "[I", Cond.methodLink RX1 55 yX1_firstPickBehindKept, Cond.instanceMethod yX1_firstPickBehindKept, Cond.selects RX1 yX1_firstPickBehindKept yX1_firstPickBehindKept, Cond.code yX1_firstPickBehindKept cX1_firstPickBehindKept 2 (some .int), Cond.constant RX1 50 (-1000009), Cond.methodLink RX1 51 yX1_add, Cond.instanceMethod yX1_add, Cond.selects RX1 yX1_add yX1_add, Cond.code yX1_add cX1_add 2 none, Cond.methodLink RX1 62 yX0_byWeights]
def wsX2_drawAnew_r3 : List Cond := [Cond.instanceMethod yX0_byWeights, Cond.selects RX0 yX0_byWeights yX0_byWeights, Cond.initialized RX0, Cond.code yX0_byWeights cX0_byWeights 5 (some .int), Cond.constant RX0 38 (-1000004), Cond.methodLink RX0 39 yX0_below, Cond.instanceMethod yX0_below, Cond.selects RX0 yX0_below yX0_below, Cond.code yX0_below cX0_below 3 (some .long), Cond.methodLink RX0 26 yX0_next, Cond.instanceMethod yX0_next, Cond.selects RX0 yX0_next yX0_next, Cond.code yX0_next cX0_next 2 (some .long), Cond.fieldLink RX0 19 "ResampledRows$Draws" "left" "I", Cond.fieldLink RX0 9 "ResampledRows$Draws" "forced" "[I", Cond.fieldLink RX0 15 "ResampledRows$Draws" "first" "I", Cond.fieldLink RX0 22 "ResampledRows$Draws" "x" "J", Cond.constantLong RX0 30 (6364136223846793005), Cond.constantLong RX0 32 (1442695040888963407), Cond.static yX4_firstAbove, Cond.code yX4_firstAbove cX4_firstAbove 9 (some .int), Cond.constant RX4 172 (-1000004), Cond.methodLink RX1 28 yX1_pickWithDrawsOfTheirOwn, Cond.instanceMethod yX1_pickWithDrawsOfTheirOwn]
def wsX2_drawAnew_r4 : List Cond := [Cond.selects RX1 yX1_pickWithDrawsOfTheirOwn yX1_pickWithDrawsOfTheirOwn, Cond.code yX1_pickWithDrawsOfTheirOwn cX1_pickWithDrawsOfTheirOwn 6 none, Cond.methodLink RX1 68 yX2_total, Cond.methodLink RX1 72 yX0_below, Cond.methodLink RX1 31 yX1_pickWithOneDraw, Cond.instanceMethod yX1_pickWithOneDraw, Cond.selects RX1 yX1_pickWithOneDraw yX1_pickWithOneDraw, Cond.code yX1_pickWithOneDraw cX1_pickWithOneDraw 8 none, Cond.methodLink RX1 34 yX1_pickByPartsAndRests, Cond.instanceMethod yX1_pickByPartsAndRests, Cond.selects RX1 yX1_pickByPartsAndRests yX1_pickByPartsAndRests, Cond.code yX1_pickByPartsAndRests cX1_pickByPartsAndRests 9 none, Cond.fieldLink RX1 15 "ResampledRows$Picks" "rests" "[I", Cond.methodLink RX1 46 yX1_putIn, Cond.instanceMethod yX1_putIn, Cond.selects RX1 yX1_putIn yX1_putIn, Cond.code yX1_putIn cX1_putIn 4 none, Cond.methodLink RX2 100 yX1_putInOrder, Cond.instanceMethod yX1_putInOrder, Cond.selects RX1 yX1_putInOrder yX1_putInOrder, Cond.code yX1_putInOrder cX1_putInOrder 6 none, Cond.methodLink RX2 104 yX2_becomePicked, Cond.instanceMethod yX2_becomePicked, Cond.selects RX2 yX2_becomePicked yX2_becomePicked]
def wsX2_drawAnew_r5 : List Cond := [Cond.code yX2_becomePicked cX2_becomePicked 3 none, Cond.fieldLink RX2 42 "ResampledRows$Run" "nextStates" "[I", Cond.fieldLink RX2 31 "ResampledRows$Run" "states" "[I", Cond.fieldLink RX2 45 "ResampledRows$Run" "nextWeights" "[I", Cond.fieldLink RX2 39 "ResampledRows$Run" "histories" "[[I", Cond.fieldLink RX2 48 "ResampledRows$Run" "nextHistories" "[[I", Cond.methodLink RX2 114 arraycopyName, Cond.native arraycopyName, Cond.static arraycopyName, Cond.initialized "java/lang/System", Cond.methodLink RX2 57 yX2_places, Cond.instanceMethod yX2_places, Cond.selects RX2 yX2_places yX2_places, Cond.code yX2_places cX2_places 1 (some .int), Cond.fieldLink RX2 54 "ResampledRows$Run" "steps" "I", Cond.methodLink RX2 76 yX2_takeNextStatesAndWeights, Cond.instanceMethod yX2_takeNextStatesAndWeights, Cond.selects RX2 yX2_takeNextStatesAndWeights yX2_takeNextStatesAndWeights, Cond.code yX2_takeNextStatesAndWeights cX2_takeNextStatesAndWeights 3 none, Cond.methodLink RX2 107 yX2_firstThatWas, Cond.instanceMethod yX2_firstThatWas, Cond.selects RX2 yX2_firstThatWas yX2_firstThatWas, Cond.code yX2_firstThatWas cX2_firstThatWas 3 (some .int), Cond.methodLink RX2 111 yX1_unlike]
def wsX2_drawAnew_r6 : List Cond := [Cond.instanceMethod yX1_unlike, Cond.selects RX1 yX1_unlike yX1_unlike, Cond.code yX1_unlike cX1_unlike 4 (some .int)]
def wsX2_drawAnew : List Cond := .code yX2_drawAnew cX2_drawAnew 3 (some .int) :: ((wsX2_drawAnew_r1 ++ (wsX2_drawAnew_r2 ++ (wsX2_drawAnew_r3 ++ (wsX2_drawAnew_r4 ++ (wsX2_drawAnew_r5 ++ wsX2_drawAnew_r6))))) ++ wsX20 ++ wsX10 ++ wsX00 ++ (vx_atM "java/lang/ArrayIndexOutOfBoundsException" ["java/lang/IndexOutOfBoundsException", "java/lang/RuntimeException", "java/lang/Exception"]).filter goodWord)
def wsX3_setAsAtFirst : List Cond := .code yX3_setAsAtFirst cX3_setAsAtFirst 2 none :: ([.fieldLink RX3 9 "ResampledRows$Tables" "starts" "[I", .fieldLink RX3 17 "ResampledRows$Tables" "moves" "[[I", .fieldLink RX3 20 "ResampledRows$Tables" "sights" "[[I", .fieldLink RX3 23 "ResampledRows$Tables" "names" "[I", .methodLink RX3 29 yJ7_fill_53178, .static yJ7_fill_53178, .initialized RJ7, .code yJ7_fill_53178 cJ7_fill_53178 4 none] ++ wsX30)
def wsX3_init : List Cond := .code yX3_init cX3_init 1 none :: ([.methodLink RX3 3 objectInit, .instanceMethod objectInit, .code objectInit ⟨#[0xb1]⟩ 1 none, .arrayClass .int, .fieldLink RX3 9 "ResampledRows$Tables" "starts" "[I", .classLink RX3 15 "[[I", .fieldLink RX3 17 "ResampledRows$Tables" "moves" "[[I", .fieldLink RX3 20 "ResampledRows$Tables" "sights" "[[I", .fieldLink RX3 23 "ResampledRows$Tables" "names" "[I", .methodLink RX3 26 yX3_setAsAtFirst, .instanceMethod yX3_setAsAtFirst, .selects RX3 yX3_setAsAtFirst yX3_setAsAtFirst, .initialized RX3, .code yX3_setAsAtFirst cX3_setAsAtFirst 2 none, .methodLink RX3 29 yJ7_fill_53178, .static yJ7_fill_53178, .initialized RJ7, .code yJ7_fill_53178 cJ7_fill_53178 4 none] ++ wsX30)
def wsX4_init_r1 : List Cond := [Cond.methodLink RX4 1 objectInit, Cond.instanceMethod objectInit, Cond.code objectInit ⟨#[0xb1]⟩ 1 none, Cond.classLink RX4 7 RX3, Cond.instantiable RX3 4, Cond.initialized RX3, Cond.fieldLink RX4 10 "ResampledRows" "tables" "LResampledRows$Tables;", Cond.classLink RX4 16 RX0, Cond.instantiable RX0 4, Cond.initialized RX0, Cond.fieldLink RX4 19 "ResampledRows" "draws" "LResampledRows$Draws;", Cond.classLink RX4 23 RX2, Cond.instantiable RX2 13, Cond.initialized RX2, Cond.fieldLink RX4 26 "ResampledRows" "run" "LResampledRows$Run;", Cond.methodLink RX4 9 yX3_init, Cond.instanceMethod yX3_init, Cond.code yX3_init cX3_init 1 none, Cond.methodLink RX3 3 objectInit, Cond.arrayClass .int, Cond.fieldLink RX3 9 "ResampledRows$Tables" "starts" "[I", Cond.classLink RX3 15 "[[I", Cond.fieldLink RX3 17 "ResampledRows$Tables" "moves" "[[I", Cond.fieldLink RX3 20 "ResampledRows$Tables" "sights" "[[I"]
def wsX4_init_r2 : List Cond := [Cond.fieldLink RX3 23 "ResampledRows$Tables" "names" "[I", Cond.methodLink RX3 26 yX3_setAsAtFirst, Cond.instanceMethod yX3_setAsAtFirst, Cond.selects RX3 yX3_setAsAtFirst yX3_setAsAtFirst, Cond.code yX3_setAsAtFirst cX3_setAsAtFirst 2 none, Cond.methodLink RX3 29 yJ7_fill_53178, Cond.static yJ7_fill_53178, Cond.initialized RJ7, Cond.code yJ7_fill_53178 cJ7_fill_53178 4 none, Cond.instanceMethod yX0_init, Cond.code yX0_init cX0_init 1 none, Cond.methodLink RX0 3 objectInit, Cond.fieldLink RX0 9 "ResampledRows$Draws" "forced" "[I", Cond.instanceMethod yX2_init, Cond.code yX2_init cX2_init 1 none, Cond.methodLink RX2 3 objectInit, Cond.classLink RX2 9 RX1, Cond.instantiable RX1 2, Cond.initialized RX1, Cond.fieldLink RX2 12 "ResampledRows$Run" "picks" "LResampledRows$Picks;", Cond.fieldLink RX2 18 "ResampledRows$Run" "origins" "[I", Cond.constant RX2 22 (-1000009), Cond.fieldLink RX2 23 "ResampledRows$Run" "kept" "I", Cond.fieldLink RX2 27 "ResampledRows$Run" "multiplied" "D"]
def wsX4_init_r3 : List Cond := [Cond.fieldLink RX2 31 "ResampledRows$Run" "states" "[I", Cond.fieldLink RX2 34 "ResampledRows$Run" "weights" "[I", Cond.classLink RX2 37 "[[I", Cond.fieldLink RX2 39 "ResampledRows$Run" "histories" "[[I", Cond.fieldLink RX2 42 "ResampledRows$Run" "nextStates" "[I", Cond.fieldLink RX2 45 "ResampledRows$Run" "nextWeights" "[I", Cond.fieldLink RX2 48 "ResampledRows$Run" "nextHistories" "[[I", Cond.instanceMethod yX1_init, Cond.code yX1_init cX1_init 1 none, Cond.methodLink RX1 3 objectInit, Cond.fieldLink RX1 9 "ResampledRows$Picks" "times" "[I", Cond.fieldLink RX1 15 "ResampledRows$Picks" "rests" "[I"]
def wsX4_init : List Cond := .code yX4_init cX4_init 1 none :: ((wsX4_init_r1 ++ (wsX4_init_r2 ++ wsX4_init_r3)) ++ wsX30 ++ wsX40 ++ wsX00 ++ wsX20 ++ wsX10)
def wsX4_isState : List Cond := .code yX4_isState cX4_isState 1 (some .boolean) :: ([])
def wsX4_isEntry : List Cond := .code yX4_isEntry cX4_isEntry 1 (some .boolean) :: ([])
def wsX4_exchange : List Cond := .code yX4_exchange cX4_exchange 4 (some .int) :: ([] ++ (vx_atM "java/lang/ArrayIndexOutOfBoundsException" ["java/lang/IndexOutOfBoundsException", "java/lang/RuntimeException", "java/lang/Exception"]).filter goodWord)
def wsX4_start : List Cond := .code yX4_start cX4_start 3 (some .int) :: ([.constant RX4 34 (-1000001), .constant RX4 38 (-1000002), .fieldLink RX4 10 "ResampledRows" "tables" "LResampledRows$Tables;", .fieldLink RX4 39 "ResampledRows$Tables" "starts" "[I", .methodLink RX4 30 yX4_isState, .static yX4_isState, .initialized RX4, .code yX4_isState cX4_isState 1 (some .boolean), .methodLink RX4 35 yX4_isEntry, .static yX4_isEntry, .code yX4_isEntry cX4_isEntry 1 (some .boolean), .methodLink RX4 43 yX4_exchange, .static yX4_exchange, .code yX4_exchange cX4_exchange 4 (some .int)] ++ wsX40 ++ wsX30 ++ (vx_atM "java/lang/ArrayIndexOutOfBoundsException" ["java/lang/IndexOutOfBoundsException", "java/lang/RuntimeException", "java/lang/Exception"]).filter goodWord)
def wsX4_move : List Cond := .code yX4_move cX4_move 4 (some .int) :: ([.constant RX4 34 (-1000001), .constant RX4 38 (-1000002), .fieldLink RX4 10 "ResampledRows" "tables" "LResampledRows$Tables;", .fieldLink RX4 47 "ResampledRows$Tables" "moves" "[[I", .methodLink RX4 30 yX4_isState, .static yX4_isState, .initialized RX4, .code yX4_isState cX4_isState 1 (some .boolean), .methodLink RX4 35 yX4_isEntry, .static yX4_isEntry, .code yX4_isEntry cX4_isEntry 1 (some .boolean), .methodLink RX4 43 yX4_exchange, .static yX4_exchange, .code yX4_exchange cX4_exchange 4 (some .int)] ++ wsX40 ++ wsX30 ++ (vx_atM "java/lang/ArrayIndexOutOfBoundsException" ["java/lang/IndexOutOfBoundsException", "java/lang/RuntimeException", "java/lang/Exception"]).filter goodWord)
def wsX4_isSight : List Cond := .code yX4_isSight cX4_isSight 1 (some .boolean) :: ([])
def wsX4_seen : List Cond := .code yX4_seen cX4_seen 4 (some .int) :: ([.constant RX4 34 (-1000001), .constant RX4 38 (-1000002), .fieldLink RX4 10 "ResampledRows" "tables" "LResampledRows$Tables;", .fieldLink RX4 54 "ResampledRows$Tables" "sights" "[[I", .methodLink RX4 51 yX4_isSight, .static yX4_isSight, .initialized RX4, .code yX4_isSight cX4_isSight 1 (some .boolean), .methodLink RX4 30 yX4_isState, .static yX4_isState, .code yX4_isState cX4_isState 1 (some .boolean), .methodLink RX4 35 yX4_isEntry, .static yX4_isEntry, .code yX4_isEntry cX4_isEntry 1 (some .boolean), .methodLink RX4 43 yX4_exchange, .static yX4_exchange, .code yX4_exchange cX4_exchange 4 (some .int)] ++ wsX40 ++ wsX30 ++ (vx_atM "java/lang/ArrayIndexOutOfBoundsException" ["java/lang/IndexOutOfBoundsException", "java/lang/RuntimeException", "java/lang/Exception"]).filter goodWord)
def wsX4_isName : List Cond := .code yX4_isName cX4_isName 1 (some .boolean) :: ([])
def wsX4_named : List Cond := .code yX4_named cX4_named 3 (some .int) :: ([.constant RX4 34 (-1000001), .constant RX4 38 (-1000002), .fieldLink RX4 10 "ResampledRows" "tables" "LResampledRows$Tables;", .fieldLink RX4 60 "ResampledRows$Tables" "names" "[I", .methodLink RX4 30 yX4_isState, .static yX4_isState, .initialized RX4, .code yX4_isState cX4_isState 1 (some .boolean), .methodLink RX4 57 yX4_isName, .static yX4_isName, .code yX4_isName cX4_isName 1 (some .boolean), .methodLink RX4 43 yX4_exchange, .static yX4_exchange, .code yX4_exchange cX4_exchange 4 (some .int)] ++ wsX40 ++ wsX30 ++ (vx_atM "java/lang/ArrayIndexOutOfBoundsException" ["java/lang/IndexOutOfBoundsException", "java/lang/RuntimeException", "java/lang/Exception"]).filter goodWord)
def wsX4_force : List Cond := .code yX4_force cX4_force 2 (some .int) :: ([.fieldLink RX4 19 "ResampledRows" "draws" "LResampledRows$Draws;", .fieldLink RX4 63 "ResampledRows$Draws" "left" "I", .constant RX4 38 (-1000002), .methodLink RX4 67 yX0_addForced, .instanceMethod yX0_addForced, .selects RX0 yX0_addForced yX0_addForced, .initialized RX0, .code yX0_addForced cX0_addForced 2 none, .fieldLink RX0 9 "ResampledRows$Draws" "forced" "[I", .fieldLink RX0 15 "ResampledRows$Draws" "first" "I", .fieldLink RX0 19 "ResampledRows$Draws" "left" "I"] ++ wsX40 ++ wsX00 ++ (vx_atM "java/lang/ArrayIndexOutOfBoundsException" ["java/lang/IndexOutOfBoundsException", "java/lang/RuntimeException", "java/lang/Exception"]).filter goodWord)
def wsX4_begin_r1 : List Cond := [Cond.constant RX4 71 (-1000010), Cond.constant RX4 38 (-1000002), Cond.fieldLink RX4 19 "ResampledRows" "draws" "LResampledRows$Draws;", Cond.fieldLink RX4 72 "ResampledRows$Draws" "x" "J", Cond.fieldLink RX4 26 "ResampledRows" "run" "LResampledRows$Run;", Cond.fieldLink RX4 10 "ResampledRows" "tables" "LResampledRows$Tables;", Cond.fieldLink RX4 39 "ResampledRows$Tables" "starts" "[I", Cond.methodLink RX4 76 yX2_beginWith, Cond.instanceMethod yX2_beginWith, Cond.selects RX2 yX2_beginWith yX2_beginWith, Cond.initialized RX2, Cond.code yX2_beginWith cX2_beginWith 6 (some .int), Cond.constant RX2 73 (-1000004), Cond.fieldLink RX2 31 "ResampledRows$Run" "states" "[I", Cond.fieldLink RX2 34 "ResampledRows$Run" "weights" "[I", Cond.fieldLink RX2 39 "ResampledRows$Run" "histories" "[[I", Cond.fieldLink RX2 51 "ResampledRows$Run" "n" "I", Cond.methodLink RX2 64 yX2_end, Cond.instanceMethod yX2_end, Cond.selects RX2 yX2_end yX2_end, Cond.code yX2_end cX2_end 1 none, Cond.fieldLink RX2 54 "ResampledRows$Run" "steps" "I", Cond.fieldLink RX2 61 "ResampledRows$Run" "timesAnew" "I", Cond.constant RX2 22 (-1000009)]
def wsX4_begin_r2 : List Cond := [Cond.fieldLink RX2 23 "ResampledRows$Run" "kept" "I", Cond.fieldLink RX2 27 "ResampledRows$Run" "multiplied" "D", Cond.methodLink RX2 67 yX0_byWeights, Cond.instanceMethod yX0_byWeights, Cond.selects RX0 yX0_byWeights yX0_byWeights, Cond.initialized RX0, Cond.code yX0_byWeights cX0_byWeights 5 (some .int), Cond.constant RX0 38 (-1000004), Cond.static yX4_sumOf, Cond.initialized RX4, Cond.code yX4_sumOf cX4_sumOf 5 (some .long), Cond.methodLink RX0 39 yX0_below, Cond.instanceMethod yX0_below, Cond.selects RX0 yX0_below yX0_below, Cond.code yX0_below cX0_below 3 (some .long), Cond.methodLink RX0 26 yX0_next, Cond.instanceMethod yX0_next, Cond.selects RX0 yX0_next yX0_next, Cond.code yX0_next cX0_next 2 (some .long), Cond.fieldLink RX0 19 "ResampledRows$Draws" "left" "I", Cond.fieldLink RX0 9 "ResampledRows$Draws" "forced" "[I", Cond.fieldLink RX0 15 "ResampledRows$Draws" "first" "I", Cond.fieldLink RX0 22 "ResampledRows$Draws" "x" "J", Cond.constantLong RX0 30 (6364136223846793005)]
def wsX4_begin_r3 : List Cond := [Cond.constantLong RX0 32 (1442695040888963407), Cond.static yX4_firstAbove, Cond.code yX4_firstAbove cX4_firstAbove 9 (some .int), Cond.constant RX4 172 (-1000004)]
def wsX4_begin : List Cond := .code yX4_begin cX4_begin 4 (some .int) :: ((wsX4_begin_r1 ++ (wsX4_begin_r2 ++ wsX4_begin_r3)) ++ wsX40 ++ wsX00 ++ wsX30 ++ wsX20 ++ (vx_atM "java/lang/ArrayIndexOutOfBoundsException" ["java/lang/IndexOutOfBoundsException", "java/lang/RuntimeException", "java/lang/Exception"]).filter goodWord)
def wsX4_keep : List Cond := .code yX4_keep cX4_keep 3 (some .int) :: ([.fieldLink RX4 26 "ResampledRows" "run" "LResampledRows$Run;", .constant RX4 84 (-1000003), .constant RX4 85 (-1000009), .constant RX4 34 (-1000001), .fieldLink RX4 89 "ResampledRows$Run" "kept" "I", .methodLink RX4 80 yX2_isBegun, .instanceMethod yX2_isBegun, .selects RX2 yX2_isBegun yX2_isBegun, .initialized RX2, .code yX2_isBegun cX2_isBegun 1 (some .boolean), .fieldLink RX2 51 "ResampledRows$Run" "n" "I", .methodLink RX4 86 yX2_hasRow, .instanceMethod yX2_hasRow, .selects RX2 yX2_hasRow yX2_hasRow, .code yX2_hasRow cX2_hasRow 2 (some .boolean)] ++ wsX40 ++ wsX20)
def wsX4_step_r1 : List Cond := [Cond.fieldLink RX4 26 "ResampledRows" "run" "LResampledRows$Run;", Cond.constant RX4 84 (-1000003), Cond.constant RX4 34 (-1000001), Cond.constant RX4 38 (-1000002), Cond.fieldLink RX4 92 "ResampledRows$Run" "steps" "I", Cond.fieldLink RX4 10 "ResampledRows" "tables" "LResampledRows$Tables;", Cond.fieldLink RX4 60 "ResampledRows$Tables" "names" "[I", Cond.fieldLink RX4 47 "ResampledRows$Tables" "moves" "[[I", Cond.fieldLink RX4 54 "ResampledRows$Tables" "sights" "[[I", Cond.fieldLink RX4 19 "ResampledRows" "draws" "LResampledRows$Draws;", Cond.methodLink RX4 80 yX2_isBegun, Cond.instanceMethod yX2_isBegun, Cond.selects RX2 yX2_isBegun yX2_isBegun, Cond.initialized RX2, Cond.code yX2_isBegun cX2_isBegun 1 (some .boolean), Cond.fieldLink RX2 51 "ResampledRows$Run" "n" "I", Cond.methodLink RX4 51 yX4_isSight, Cond.static yX4_isSight, Cond.initialized RX4, Cond.code yX4_isSight cX4_isSight 1 (some .boolean), Cond.methodLink RX4 57 yX4_isName, Cond.static yX4_isName, Cond.code yX4_isName cX4_isName 1 (some .boolean), Cond.methodLink RX4 95 yX2_standsAt]
def wsX4_step_r2 : List Cond := [Cond.instanceMethod yX2_standsAt, Cond.selects RX2 yX2_standsAt yX2_standsAt, Cond.code yX2_standsAt cX2_standsAt 4 (some .boolean), Cond.fieldLink RX2 31 "ResampledRows$Run" "states" "[I", Cond.methodLink RX4 99 yX2_goOn, Cond.instanceMethod yX2_goOn, Cond.selects RX2 yX2_goOn yX2_goOn, Cond.code yX2_goOn cX2_goOn 6 (some .int), Cond.constant RX2 73 (-1000004), Cond.fieldLink RX2 42 "ResampledRows$Run" "nextStates" "[I", Cond.fieldLink RX2 45 "ResampledRows$Run" "nextWeights" "[I", Cond.fieldLink RX2 34 "ResampledRows$Run" "weights" "[I", Cond.constant RX2 74 (1000000), Cond.constant RX2 75 (-1000005), Cond.fieldLink RX2 54 "ResampledRows$Run" "steps" "I", Cond.fieldLink RX2 39 "ResampledRows$Run" "histories" "[[I", Cond.methodLink RX2 67 yX0_byWeights, Cond.instanceMethod yX0_byWeights, Cond.selects RX0 yX0_byWeights yX0_byWeights, Cond.initialized RX0, Cond.code yX0_byWeights cX0_byWeights 5 (some .int), Cond.constant RX0 38 (-1000004), Cond.static yX4_sumOf, Cond.code yX4_sumOf cX4_sumOf 5 (some .long)]
def wsX4_step_r3 : List Cond := [Cond.methodLink RX0 39 yX0_below, Cond.instanceMethod yX0_below, Cond.selects RX0 yX0_below yX0_below, Cond.code yX0_below cX0_below 3 (some .long), Cond.methodLink RX0 26 yX0_next, Cond.instanceMethod yX0_next, Cond.selects RX0 yX0_next yX0_next, Cond.code yX0_next cX0_next 2 (some .long), Cond.fieldLink RX0 19 "ResampledRows$Draws" "left" "I", Cond.fieldLink RX0 9 "ResampledRows$Draws" "forced" "[I", Cond.fieldLink RX0 15 "ResampledRows$Draws" "first" "I", Cond.fieldLink RX0 22 "ResampledRows$Draws" "x" "J", Cond.constantLong RX0 30 (6364136223846793005), Cond.constantLong RX0 32 (1442695040888963407), Cond.static yX4_firstAbove, Cond.code yX4_firstAbove cX4_firstAbove 9 (some .int), Cond.constant RX4 172 (-1000004), Cond.methodLink RX2 76 yX2_takeNextStatesAndWeights, Cond.instanceMethod yX2_takeNextStatesAndWeights, Cond.selects RX2 yX2_takeNextStatesAndWeights yX2_takeNextStatesAndWeights, Cond.code yX2_takeNextStatesAndWeights cX2_takeNextStatesAndWeights 3 none]
def wsX4_step : List Cond := .code yX4_step cX4_step 3 (some .int) :: ((wsX4_step_r1 ++ (wsX4_step_r2 ++ wsX4_step_r3)) ++ wsX40 ++ wsX20 ++ wsX30 ++ wsX00 ++ (vx_atM "java/lang/ArrayIndexOutOfBoundsException" ["java/lang/IndexOutOfBoundsException", "java/lang/RuntimeException", "java/lang/Exception"]).filter goodWord)
def wsX4_isWay : List Cond := .code yX4_isWay cX4_isWay 1 (some .boolean) :: ([])
def wsX4_again_r1 : List Cond := [Cond.fieldLink RX4 26 "ResampledRows" "run" "LResampledRows$Run;", Cond.constant RX4 84 (-1000003), Cond.constant RX4 38 (-1000002), Cond.fieldLink RX4 19 "ResampledRows" "draws" "LResampledRows$Draws;", Cond.methodLink RX4 80 yX2_isBegun, Cond.instanceMethod yX2_isBegun, Cond.selects RX2 yX2_isBegun yX2_isBegun, Cond.initialized RX2, Cond.code yX2_isBegun cX2_isBegun 1 (some .boolean), Cond.fieldLink RX2 51 "ResampledRows$Run" "n" "I", Cond.methodLink RX4 103 yX4_isWay, Cond.static yX4_isWay, Cond.initialized RX4, Cond.code yX4_isWay cX4_isWay 1 (some .boolean), Cond.methodLink RX4 106 yX2_drawAnew, Cond.instanceMethod yX2_drawAnew, Cond.selects RX2 yX2_drawAnew yX2_drawAnew, Cond.code yX2_drawAnew cX2_drawAnew 3 (some .int), Cond.constant RX2 73 (-1000004), Cond.fieldLink RX2 27 "ResampledRows$Run" "multiplied" "D", Cond.fieldLink RX2 12 "ResampledRows$Run" "picks" "LResampledRows$Picks;", Cond.fieldLink RX2 18 "ResampledRows$Run" "origins" "[I", Cond.fieldLink RX2 23 "ResampledRows$Run" "kept" "I", Cond.constant RX2 22 (-1000009)]
def wsX4_again_r2 : List Cond := [Cond.fieldLink RX2 61 "ResampledRows$Run" "timesAnew" "I", Cond.methodLink RX2 87 yX2_total, Cond.instanceMethod yX2_total, Cond.selects RX2 yX2_total yX2_total, Cond.code yX2_total cX2_total 1 (some .long), Cond.fieldLink RX2 34 "ResampledRows$Run" "weights" "[I", Cond.static yX4_sumOf, Cond.code yX4_sumOf cX4_sumOf 5 (some .long), Cond.methodLink RX2 92 yX2_evidenceSoFar, Cond.instanceMethod yX2_evidenceSoFar, Cond.selects RX2 yX2_evidenceSoFar yX2_evidenceSoFar, Cond.code yX2_evidenceSoFar cX2_evidenceSoFar 1 (some .double), Cond.methodLink RX2 96 yX1_pick, Cond.instanceMethod yX1_pick, Cond.selects RX1 yX1_pick yX1_pick, Cond.initialized RX1, Cond.code yX1_pick cX1_pick 4 none, Cond.fieldLink RX1 9 "ResampledRows$Picks" "times" "[I", Cond.fieldLink RX1 37 "ResampledRows$Run" "kept" "I", Cond.fieldLink RX1 43 "ResampledRows$Run" "n" "I", Cond.methodLink RX1 18 yJ7_fill_53178, Cond.static yJ7_fill_53178, Cond.initialized RJ7, Cond.code yJ7_fill_53178 cJ7_fill_53178 4 none]
def wsX4_again_r3 : List Cond := [Cond.methodLink RX1 24 yX1_pickEachByWeights, Cond.instanceMethod yX1_pickEachByWeights, Cond.selects RX1 yX1_pickEachByWeights yX1_pickEachByWeights, Cond.code yX1_pickEachByWeights cX1_pickEachByWeights 4 none, Cond.fieldLink RX1 59 "ResampledRows$Run" "weights" "[I", Cond.methodLink RX1 55 yX1_firstPickBehindKept, Cond.instanceMethod yX1_firstPickBehindKept, Cond.selects RX1 yX1_firstPickBehindKept yX1_firstPickBehindKept, Cond.code yX1_firstPickBehindKept cX1_firstPickBehindKept 2 (some .int), Cond.constant RX1 50 (-1000009), Cond.methodLink RX1 51 yX1_add, Cond.instanceMethod yX1_add, Cond.selects RX1 yX1_add yX1_add, Cond.code yX1_add cX1_add 2 none, Cond.methodLink RX1 62 yX0_byWeights, Cond.instanceMethod yX0_byWeights, Cond.selects RX0 yX0_byWeights yX0_byWeights, Cond.initialized RX0, Cond.code yX0_byWeights cX0_byWeights 5 (some .int), Cond.constant RX0 38 (-1000004), Cond.methodLink RX0 39 yX0_below, Cond.instanceMethod yX0_below, Cond.selects RX0 yX0_below yX0_below, Cond.code yX0_below cX0_below 3 (some .long)]
def wsX4_again_r4 : List Cond := [Cond.methodLink RX0 26 yX0_next, Cond.instanceMethod yX0_next, Cond.selects RX0 yX0_next yX0_next, Cond.code yX0_next cX0_next 2 (some .long), Cond.fieldLink RX0 19 "ResampledRows$Draws" "left" "I", Cond.fieldLink RX0 9 "ResampledRows$Draws" "forced" "[I", Cond.fieldLink RX0 15 "ResampledRows$Draws" "first" "I", Cond.fieldLink RX0 22 "ResampledRows$Draws" "x" "J", Cond.constantLong RX0 30 (6364136223846793005), Cond.constantLong RX0 32 (1442695040888963407), Cond.static yX4_firstAbove, Cond.code yX4_firstAbove cX4_firstAbove 9 (some .int), Cond.constant RX4 172 (-1000004), Cond.methodLink RX1 28 yX1_pickWithDrawsOfTheirOwn, Cond.instanceMethod yX1_pickWithDrawsOfTheirOwn, Cond.selects RX1 yX1_pickWithDrawsOfTheirOwn yX1_pickWithDrawsOfTheirOwn, Cond.code yX1_pickWithDrawsOfTheirOwn cX1_pickWithDrawsOfTheirOwn 6 none, Cond.methodLink RX1 68 yX2_total, Cond.methodLink RX1 72 yX0_below, Cond.methodLink RX1 31 yX1_pickWithOneDraw, Cond.instanceMethod yX1_pickWithOneDraw, Cond.selects RX1 yX1_pickWithOneDraw yX1_pickWithOneDraw, Cond.code yX1_pickWithOneDraw cX1_pickWithOneDraw 8 none, Cond.methodLink RX1 34 yX1_pickByPartsAndRests]
def wsX4_again_r5 : List Cond := [Cond.instanceMethod yX1_pickByPartsAndRests, Cond.selects RX1 yX1_pickByPartsAndRests yX1_pickByPartsAndRests, Cond.code yX1_pickByPartsAndRests cX1_pickByPartsAndRests 9 none, Cond.fieldLink RX1 15 "ResampledRows$Picks" "rests" "[I", Cond.methodLink RX1 46 yX1_putIn, Cond.instanceMethod yX1_putIn, Cond.selects RX1 yX1_putIn yX1_putIn, Cond.code yX1_putIn cX1_putIn 4 none, Cond.methodLink RX2 100 yX1_putInOrder, Cond.instanceMethod yX1_putInOrder, Cond.selects RX1 yX1_putInOrder yX1_putInOrder, Cond.code yX1_putInOrder cX1_putInOrder 6 none, Cond.methodLink RX2 104 yX2_becomePicked, Cond.instanceMethod yX2_becomePicked, Cond.selects RX2 yX2_becomePicked yX2_becomePicked, Cond.code yX2_becomePicked cX2_becomePicked 3 none, Cond.fieldLink RX2 42 "ResampledRows$Run" "nextStates" "[I", Cond.fieldLink RX2 31 "ResampledRows$Run" "states" "[I", Cond.fieldLink RX2 45 "ResampledRows$Run" "nextWeights" "[I", Cond.fieldLink RX2 39 "ResampledRows$Run" "histories" "[[I", Cond.fieldLink RX2 48 "ResampledRows$Run" "nextHistories" "[[I", Cond.methodLink RX2 114 arraycopyName, Cond.native arraycopyName, Cond.static arraycopyName]
def wsX4_again_r6 : List Cond := [Cond.initialized "java/lang/System", Cond.methodLink RX2 57 yX2_places, Cond.instanceMethod yX2_places, Cond.selects RX2 yX2_places yX2_places, Cond.code yX2_places cX2_places 1 (some .int), Cond.fieldLink RX2 54 "ResampledRows$Run" "steps" "I", Cond.methodLink RX2 76 yX2_takeNextStatesAndWeights, Cond.instanceMethod yX2_takeNextStatesAndWeights, Cond.selects RX2 yX2_takeNextStatesAndWeights yX2_takeNextStatesAndWeights, Cond.code yX2_takeNextStatesAndWeights cX2_takeNextStatesAndWeights 3 none, Cond.methodLink RX2 107 yX2_firstThatWas, Cond.instanceMethod yX2_firstThatWas, Cond.selects RX2 yX2_firstThatWas yX2_firstThatWas, Cond.code yX2_firstThatWas cX2_firstThatWas 3 (some .int), Cond.methodLink RX2 111 yX1_unlike, Cond.instanceMethod yX1_unlike, Cond.selects RX1 yX1_unlike yX1_unlike, Cond.code yX1_unlike cX1_unlike 4 (some .int)]
def wsX4_again : List Cond := .code yX4_again cX4_again 2 (some .int) :: ((wsX4_again_r1 ++ (wsX4_again_r2 ++ (wsX4_again_r3 ++ (wsX4_again_r4 ++ (wsX4_again_r5 ++ wsX4_again_r6))))) ++ wsX40 ++ wsX20 ++ wsX10 ++ wsX00 ++ (vx_atM "java/lang/ArrayIndexOutOfBoundsException" ["java/lang/IndexOutOfBoundsException", "java/lang/RuntimeException", "java/lang/Exception"]).filter goodWord)
def wsX4_rule_r1 : List Cond := [Cond.fieldLink RX4 26 "ResampledRows" "run" "LResampledRows$Run;", Cond.constant RX4 84 (-1000003), Cond.constant RX4 38 (-1000002), Cond.fieldLink RX4 19 "ResampledRows" "draws" "LResampledRows$Draws;", Cond.methodLink RX4 80 yX2_isBegun, Cond.instanceMethod yX2_isBegun, Cond.selects RX2 yX2_isBegun yX2_isBegun, Cond.initialized RX2, Cond.code yX2_isBegun cX2_isBegun 1 (some .boolean), Cond.fieldLink RX2 51 "ResampledRows$Run" "n" "I", Cond.methodLink RX4 103 yX4_isWay, Cond.static yX4_isWay, Cond.initialized RX4, Cond.code yX4_isWay cX4_isWay 1 (some .boolean), Cond.methodLink RX4 110 yX2_total, Cond.instanceMethod yX2_total, Cond.selects RX2 yX2_total yX2_total, Cond.code yX2_total cX2_total 1 (some .long), Cond.fieldLink RX2 34 "ResampledRows$Run" "weights" "[I", Cond.static yX4_sumOf, Cond.code yX4_sumOf cX4_sumOf 5 (some .long), Cond.methodLink RX4 114 yX2_isEffectiveBelow, Cond.instanceMethod yX2_isEffectiveBelow, Cond.selects RX2 yX2_isEffectiveBelow yX2_isEffectiveBelow]
def wsX4_rule_r2 : List Cond := [Cond.code yX2_isEffectiveBelow cX2_isEffectiveBelow 2 (some .boolean), Cond.constantLong RX2 90 (100), Cond.methodLink RX2 87 yX2_total, Cond.methodLink RX2 83 yX2_squares, Cond.instanceMethod yX2_squares, Cond.selects RX2 yX2_squares yX2_squares, Cond.code yX2_squares cX2_squares 4 (some .long), Cond.methodLink RX4 106 yX2_drawAnew, Cond.instanceMethod yX2_drawAnew, Cond.selects RX2 yX2_drawAnew yX2_drawAnew, Cond.code yX2_drawAnew cX2_drawAnew 3 (some .int), Cond.constant RX2 73 (-1000004), Cond.fieldLink RX2 27 "ResampledRows$Run" "multiplied" "D", Cond.fieldLink RX2 12 "ResampledRows$Run" "picks" "LResampledRows$Picks;", Cond.fieldLink RX2 18 "ResampledRows$Run" "origins" "[I", Cond.fieldLink RX2 23 "ResampledRows$Run" "kept" "I", Cond.constant RX2 22 (-1000009), Cond.fieldLink RX2 61 "ResampledRows$Run" "timesAnew" "I", Cond.methodLink RX2 92 yX2_evidenceSoFar, Cond.instanceMethod yX2_evidenceSoFar, Cond.selects RX2 yX2_evidenceSoFar yX2_evidenceSoFar, Cond.code yX2_evidenceSoFar cX2_evidenceSoFar 1 (some .double), Cond.methodLink RX2 96 yX1_pick, Cond.instanceMethod yX1_pick]
def wsX4_rule_r3 : List Cond := [Cond.selects RX1 yX1_pick yX1_pick, Cond.initialized RX1, Cond.code yX1_pick cX1_pick 4 none, Cond.fieldLink RX1 9 "ResampledRows$Picks" "times" "[I", Cond.fieldLink RX1 37 "ResampledRows$Run" "kept" "I", Cond.fieldLink RX1 43 "ResampledRows$Run" "n" "I", Cond.methodLink RX1 18 yJ7_fill_53178, Cond.static yJ7_fill_53178, Cond.initialized RJ7, Cond.code yJ7_fill_53178 cJ7_fill_53178 4 none, Cond.methodLink RX1 24 yX1_pickEachByWeights, Cond.instanceMethod yX1_pickEachByWeights, Cond.selects RX1 yX1_pickEachByWeights yX1_pickEachByWeights, Cond.code yX1_pickEachByWeights cX1_pickEachByWeights 4 none, Cond.fieldLink RX1 59 "ResampledRows$Run" "weights" "[I", Cond.methodLink RX1 55 yX1_firstPickBehindKept, Cond.instanceMethod yX1_firstPickBehindKept, Cond.selects RX1 yX1_firstPickBehindKept yX1_firstPickBehindKept, Cond.code yX1_firstPickBehindKept cX1_firstPickBehindKept 2 (some .int), Cond.constant RX1 50 (-1000009), Cond.methodLink RX1 51 yX1_add, Cond.instanceMethod yX1_add, Cond.selects RX1 yX1_add yX1_add, Cond.code yX1_add cX1_add 2 none]
def wsX4_rule_r4 : List Cond := [Cond.methodLink RX1 62 yX0_byWeights, Cond.instanceMethod yX0_byWeights, Cond.selects RX0 yX0_byWeights yX0_byWeights, Cond.initialized RX0, Cond.code yX0_byWeights cX0_byWeights 5 (some .int), Cond.constant RX0 38 (-1000004), Cond.methodLink RX0 39 yX0_below, Cond.instanceMethod yX0_below, Cond.selects RX0 yX0_below yX0_below, Cond.code yX0_below cX0_below 3 (some .long), Cond.methodLink RX0 26 yX0_next, Cond.instanceMethod yX0_next, Cond.selects RX0 yX0_next yX0_next, Cond.code yX0_next cX0_next 2 (some .long), Cond.fieldLink RX0 19 "ResampledRows$Draws" "left" "I", Cond.fieldLink RX0 9 "ResampledRows$Draws" "forced" "[I", Cond.fieldLink RX0 15 "ResampledRows$Draws" "first" "I", Cond.fieldLink RX0 22 "ResampledRows$Draws" "x" "J", Cond.constantLong RX0 30 (6364136223846793005), Cond.constantLong RX0 32 (1442695040888963407), Cond.static yX4_firstAbove, Cond.code yX4_firstAbove cX4_firstAbove 9 (some .int), Cond.constant RX4 172 (-1000004), Cond.methodLink RX1 28 yX1_pickWithDrawsOfTheirOwn]
def wsX4_rule_r5 : List Cond := [Cond.instanceMethod yX1_pickWithDrawsOfTheirOwn, Cond.selects RX1 yX1_pickWithDrawsOfTheirOwn yX1_pickWithDrawsOfTheirOwn, Cond.code yX1_pickWithDrawsOfTheirOwn cX1_pickWithDrawsOfTheirOwn 6 none, Cond.methodLink RX1 68 yX2_total, Cond.methodLink RX1 72 yX0_below, Cond.methodLink RX1 31 yX1_pickWithOneDraw, Cond.instanceMethod yX1_pickWithOneDraw, Cond.selects RX1 yX1_pickWithOneDraw yX1_pickWithOneDraw, Cond.code yX1_pickWithOneDraw cX1_pickWithOneDraw 8 none, Cond.methodLink RX1 34 yX1_pickByPartsAndRests, Cond.instanceMethod yX1_pickByPartsAndRests, Cond.selects RX1 yX1_pickByPartsAndRests yX1_pickByPartsAndRests, Cond.code yX1_pickByPartsAndRests cX1_pickByPartsAndRests 9 none, Cond.fieldLink RX1 15 "ResampledRows$Picks" "rests" "[I", Cond.methodLink RX1 46 yX1_putIn, Cond.instanceMethod yX1_putIn, Cond.selects RX1 yX1_putIn yX1_putIn, Cond.code yX1_putIn cX1_putIn 4 none, Cond.methodLink RX2 100 yX1_putInOrder, Cond.instanceMethod yX1_putInOrder, Cond.selects RX1 yX1_putInOrder yX1_putInOrder, Cond.code yX1_putInOrder cX1_putInOrder 6 none, Cond.methodLink RX2 104 yX2_becomePicked, Cond.instanceMethod yX2_becomePicked]
def wsX4_rule_r6 : List Cond := [Cond.selects RX2 yX2_becomePicked yX2_becomePicked, Cond.code yX2_becomePicked cX2_becomePicked 3 none, Cond.fieldLink RX2 42 "ResampledRows$Run" "nextStates" "[I", Cond.fieldLink RX2 31 "ResampledRows$Run" "states" "[I", Cond.fieldLink RX2 45 "ResampledRows$Run" "nextWeights" "[I", Cond.fieldLink RX2 39 "ResampledRows$Run" "histories" "[[I", Cond.fieldLink RX2 48 "ResampledRows$Run" "nextHistories" "[[I", Cond.methodLink RX2 114 arraycopyName, Cond.native arraycopyName, Cond.static arraycopyName, Cond.initialized "java/lang/System", Cond.methodLink RX2 57 yX2_places, Cond.instanceMethod yX2_places, Cond.selects RX2 yX2_places yX2_places, Cond.code yX2_places cX2_places 1 (some .int), Cond.fieldLink RX2 54 "ResampledRows$Run" "steps" "I", Cond.methodLink RX2 76 yX2_takeNextStatesAndWeights, Cond.instanceMethod yX2_takeNextStatesAndWeights, Cond.selects RX2 yX2_takeNextStatesAndWeights yX2_takeNextStatesAndWeights, Cond.code yX2_takeNextStatesAndWeights cX2_takeNextStatesAndWeights 3 none, Cond.methodLink RX2 107 yX2_firstThatWas, Cond.instanceMethod yX2_firstThatWas, Cond.selects RX2 yX2_firstThatWas yX2_firstThatWas, Cond.code yX2_firstThatWas cX2_firstThatWas 3 (some .int)]
def wsX4_rule_r7 : List Cond := [Cond.methodLink RX2 111 yX1_unlike, Cond.instanceMethod yX1_unlike, Cond.selects RX1 yX1_unlike yX1_unlike, Cond.code yX1_unlike cX1_unlike 4 (some .int)]
def wsX4_rule : List Cond := .code yX4_rule cX4_rule 3 (some .int) :: ((wsX4_rule_r1 ++ (wsX4_rule_r2 ++ (wsX4_rule_r3 ++ (wsX4_rule_r4 ++ (wsX4_rule_r5 ++ (wsX4_rule_r6 ++ wsX4_rule_r7)))))) ++ wsX40 ++ wsX20 ++ wsX10 ++ wsX00 ++ (vx_atM "java/lang/ArrayIndexOutOfBoundsException" ["java/lang/IndexOutOfBoundsException", "java/lang/RuntimeException", "java/lang/Exception"]).filter goodWord)
def wsX4_from : List Cond := .code yX4_from cX4_from 2 (some .int) :: ([.fieldLink RX4 26 "ResampledRows" "run" "LResampledRows$Run;", .constant RX4 84 (-1000003), .fieldLink RX4 117 "ResampledRows$Run" "timesAnew" "I", .constant RX4 34 (-1000001), .fieldLink RX4 120 "ResampledRows$Run" "origins" "[I", .methodLink RX4 80 yX2_isBegun, .instanceMethod yX2_isBegun, .selects RX2 yX2_isBegun yX2_isBegun, .initialized RX2, .code yX2_isBegun cX2_isBegun 1 (some .boolean), .fieldLink RX2 51 "ResampledRows$Run" "n" "I", .methodLink RX4 86 yX2_hasRow, .instanceMethod yX2_hasRow, .selects RX2 yX2_hasRow yX2_hasRow, .code yX2_hasRow cX2_hasRow 2 (some .boolean)] ++ wsX40 ++ wsX20 ++ (vx_atM "java/lang/ArrayIndexOutOfBoundsException" ["java/lang/IndexOutOfBoundsException", "java/lang/RuntimeException", "java/lang/Exception"]).filter goodWord)
def wsX4_row : List Cond := .code yX4_row cX4_row 3 (some .int) :: ([.fieldLink RX4 26 "ResampledRows" "run" "LResampledRows$Run;", .constant RX4 84 (-1000003), .constant RX4 34 (-1000001), .fieldLink RX4 123 "ResampledRows$Run" "states" "[I", .constant RX4 38 (-1000002), .methodLink RX4 80 yX2_isBegun, .instanceMethod yX2_isBegun, .selects RX2 yX2_isBegun yX2_isBegun, .initialized RX2, .code yX2_isBegun cX2_isBegun 1 (some .boolean), .fieldLink RX2 51 "ResampledRows$Run" "n" "I", .methodLink RX4 86 yX2_hasRow, .instanceMethod yX2_hasRow, .selects RX2 yX2_hasRow yX2_hasRow, .code yX2_hasRow cX2_hasRow 2 (some .boolean), .methodLink RX4 126 yX2_places, .instanceMethod yX2_places, .selects RX2 yX2_places yX2_places, .code yX2_places cX2_places 1 (some .int), .fieldLink RX2 54 "ResampledRows$Run" "steps" "I"] ++ wsX40 ++ wsX20 ++ (vx_atM "java/lang/ArrayIndexOutOfBoundsException" ["java/lang/IndexOutOfBoundsException", "java/lang/RuntimeException", "java/lang/Exception"]).filter goodWord)
def wsX4_weight : List Cond := .code yX4_weight cX4_weight 2 (some .long) :: ([.fieldLink RX4 26 "ResampledRows" "run" "LResampledRows$Run;", .constantLong RX4 130 (-1000003), .constantLong RX4 132 (-1000001), .fieldLink RX4 134 "ResampledRows$Run" "weights" "[I", .methodLink RX4 80 yX2_isBegun, .instanceMethod yX2_isBegun, .selects RX2 yX2_isBegun yX2_isBegun, .initialized RX2, .code yX2_isBegun cX2_isBegun 1 (some .boolean), .fieldLink RX2 51 "ResampledRows$Run" "n" "I", .methodLink RX4 86 yX2_hasRow, .instanceMethod yX2_hasRow, .selects RX2 yX2_hasRow yX2_hasRow, .code yX2_hasRow cX2_hasRow 2 (some .boolean)] ++ wsX40 ++ wsX20 ++ (vx_atM "java/lang/ArrayIndexOutOfBoundsException" ["java/lang/IndexOutOfBoundsException", "java/lang/RuntimeException", "java/lang/Exception"]).filter goodWord)
def wsX4_history_r1 : List Cond := [Cond.fieldLink RX4 26 "ResampledRows" "run" "LResampledRows$Run;", Cond.constant RX4 84 (-1000003), Cond.constant RX4 34 (-1000001), Cond.classLink RX4 140 RJx00060, Cond.instantiable RJx00060 6, Cond.initialized RJx00060, Cond.fieldLink RX4 147 "ResampledRows$Run" "histories" "[[I", Cond.methodLink RX4 80 yX2_isBegun, Cond.instanceMethod yX2_isBegun, Cond.selects RX2 yX2_isBegun yX2_isBegun, Cond.initialized RX2, Cond.code yX2_isBegun cX2_isBegun 1 (some .boolean), Cond.fieldLink RX2 51 "ResampledRows$Run" "n" "I", Cond.methodLink RX4 86 yX2_hasRow, Cond.instanceMethod yX2_hasRow, Cond.selects RX2 yX2_hasRow yX2_hasRow, Cond.code yX2_hasRow cX2_hasRow 2 (some .boolean), Cond.methodLink RX4 137 yX2_hasPlace, Cond.instanceMethod yX2_hasPlace, Cond.selects RX2 yX2_hasPlace yX2_hasPlace, Cond.code yX2_hasPlace cX2_hasPlace 2 (some .boolean), Cond.methodLink RX2 57 yX2_places, Cond.instanceMethod yX2_places, Cond.selects RX2 yX2_places yX2_places]
def wsX4_history_r2 : List Cond := [Cond.code yX2_places cX2_places 1 (some .int), Cond.fieldLink RX2 54 "ResampledRows$Run" "steps" "I"]
def wsX4_history : List Cond := .code yX4_history cX4_history 3 (some .int) :: ((wsX4_history_r1 ++ wsX4_history_r2) ++ wsX40 ++ wsJx000600 ++ wsX20 ++ (vx_atM "java/lang/ArrayIndexOutOfBoundsException" ["java/lang/IndexOutOfBoundsException", "java/lang/RuntimeException", "java/lang/Exception"]).filter goodWord)
def wsX4_write_r1 : List Cond := [Cond.fieldLink RX4 26 "ResampledRows" "run" "LResampledRows$Run;", Cond.constant RX4 84 (-1000003), Cond.constant RX4 34 (-1000001), Cond.constant RX4 38 (-1000002), Cond.fieldLink RX4 147 "ResampledRows$Run" "histories" "[[I", Cond.methodLink RX4 80 yX2_isBegun, Cond.instanceMethod yX2_isBegun, Cond.selects RX2 yX2_isBegun yX2_isBegun, Cond.initialized RX2, Cond.code yX2_isBegun cX2_isBegun 1 (some .boolean), Cond.fieldLink RX2 51 "ResampledRows$Run" "n" "I", Cond.methodLink RX4 86 yX2_hasRow, Cond.instanceMethod yX2_hasRow, Cond.selects RX2 yX2_hasRow yX2_hasRow, Cond.code yX2_hasRow cX2_hasRow 2 (some .boolean), Cond.methodLink RX4 30 yX4_isState, Cond.static yX4_isState, Cond.initialized RX4, Cond.code yX4_isState cX4_isState 1 (some .boolean), Cond.methodLink RX4 137 yX2_hasPlace, Cond.instanceMethod yX2_hasPlace, Cond.selects RX2 yX2_hasPlace yX2_hasPlace, Cond.code yX2_hasPlace cX2_hasPlace 2 (some .boolean), Cond.methodLink RX2 57 yX2_places]
def wsX4_write_r2 : List Cond := [Cond.instanceMethod yX2_places, Cond.selects RX2 yX2_places yX2_places, Cond.code yX2_places cX2_places 1 (some .int), Cond.fieldLink RX2 54 "ResampledRows$Run" "steps" "I"]
def wsX4_write : List Cond := .code yX4_write cX4_write 4 (some .int) :: ((wsX4_write_r1 ++ wsX4_write_r2) ++ wsX40 ++ wsX20 ++ (vx_atM "java/lang/ArrayIndexOutOfBoundsException" ["java/lang/IndexOutOfBoundsException", "java/lang/RuntimeException", "java/lang/Exception"]).filter goodWord)
def wsX4_told_r1 : List Cond := [Cond.fieldLink RX4 26 "ResampledRows" "run" "LResampledRows$Run;", Cond.constantLong RX4 130 (-1000003), Cond.constantLong RX4 156 (-1000002), Cond.methodLink RX4 80 yX2_isBegun, Cond.instanceMethod yX2_isBegun, Cond.selects RX2 yX2_isBegun yX2_isBegun, Cond.initialized RX2, Cond.code yX2_isBegun cX2_isBegun 1 (some .boolean), Cond.fieldLink RX2 51 "ResampledRows$Run" "n" "I", Cond.methodLink RX4 110 yX2_total, Cond.instanceMethod yX2_total, Cond.selects RX2 yX2_total yX2_total, Cond.code yX2_total cX2_total 1 (some .long), Cond.fieldLink RX2 34 "ResampledRows$Run" "weights" "[I", Cond.static yX4_sumOf, Cond.initialized RX4, Cond.code yX4_sumOf cX4_sumOf 5 (some .long), Cond.methodLink RX4 150 yX2_squares, Cond.instanceMethod yX2_squares, Cond.selects RX2 yX2_squares yX2_squares, Cond.code yX2_squares cX2_squares 4 (some .long), Cond.methodLink RX4 153 yX2_effective, Cond.instanceMethod yX2_effective, Cond.selects RX2 yX2_effective yX2_effective]
def wsX4_told_r2 : List Cond := [Cond.code yX2_effective cX2_effective 3 (some .long), Cond.methodLink RX2 83 yX2_squares, Cond.methodLink RX2 87 yX2_total]
def wsX4_told : List Cond := .code yX4_told cX4_told 2 (some .long) :: ((wsX4_told_r1 ++ wsX4_told_r2) ++ wsX40 ++ wsX20 ++ (vx_atM "java/lang/ArrayIndexOutOfBoundsException" ["java/lang/IndexOutOfBoundsException", "java/lang/RuntimeException", "java/lang/Exception"]).filter goodWord)
def wsX4_evidence : List Cond := .code yX4_evidence cX4_evidence 1 (some .double) :: ([.fieldLink RX4 26 "ResampledRows" "run" "LResampledRows$Run;", .methodLink RX4 80 yX2_isBegun, .instanceMethod yX2_isBegun, .selects RX2 yX2_isBegun yX2_isBegun, .initialized RX2, .code yX2_isBegun cX2_isBegun 1 (some .boolean), .fieldLink RX2 51 "ResampledRows$Run" "n" "I", .methodLink RX4 158 yX2_evidenceSoFar, .instanceMethod yX2_evidenceSoFar, .selects RX2 yX2_evidenceSoFar yX2_evidenceSoFar, .code yX2_evidenceSoFar cX2_evidenceSoFar 1 (some .double), .fieldLink RX2 27 "ResampledRows$Run" "multiplied" "D", .methodLink RX2 87 yX2_total, .instanceMethod yX2_total, .selects RX2 yX2_total yX2_total, .code yX2_total cX2_total 1 (some .long), .fieldLink RX2 34 "ResampledRows$Run" "weights" "[I", .static yX4_sumOf, .initialized RX4, .code yX4_sumOf cX4_sumOf 5 (some .long)] ++ wsX40 ++ wsX20 ++ (vx_atM "java/lang/ArrayIndexOutOfBoundsException" ["java/lang/IndexOutOfBoundsException", "java/lang/RuntimeException", "java/lang/Exception"]).filter goodWord)
def wsX4_count : List Cond := .code yX4_count cX4_count 2 (some .int) :: ([.fieldLink RX4 26 "ResampledRows" "run" "LResampledRows$Run;", .fieldLink RX4 162 "ResampledRows$Run" "n" "I", .fieldLink RX4 92 "ResampledRows$Run" "steps" "I", .fieldLink RX4 117 "ResampledRows$Run" "timesAnew" "I", .fieldLink RX4 19 "ResampledRows" "draws" "LResampledRows$Draws;", .fieldLink RX4 63 "ResampledRows$Draws" "left" "I", .fieldLink RX4 89 "ResampledRows$Run" "kept" "I", .constant RX4 38 (-1000002)] ++ wsX40 ++ wsX20 ++ wsX00)
def wsX4_clear_r1 : List Cond := [Cond.fieldLink RX4 26 "ResampledRows" "run" "LResampledRows$Run;", Cond.fieldLink RX4 162 "ResampledRows$Run" "n" "I", Cond.fieldLink RX4 10 "ResampledRows" "tables" "LResampledRows$Tables;", Cond.fieldLink RX4 19 "ResampledRows" "draws" "LResampledRows$Draws;", Cond.methodLink RX4 165 yX3_setAsAtFirst, Cond.instanceMethod yX3_setAsAtFirst, Cond.selects RX3 yX3_setAsAtFirst yX3_setAsAtFirst, Cond.initialized RX3, Cond.code yX3_setAsAtFirst cX3_setAsAtFirst 2 none, Cond.fieldLink RX3 9 "ResampledRows$Tables" "starts" "[I", Cond.fieldLink RX3 17 "ResampledRows$Tables" "moves" "[[I", Cond.fieldLink RX3 20 "ResampledRows$Tables" "sights" "[[I", Cond.fieldLink RX3 23 "ResampledRows$Tables" "names" "[I", Cond.methodLink RX3 29 yJ7_fill_53178, Cond.static yJ7_fill_53178, Cond.initialized RJ7, Cond.code yJ7_fill_53178 cJ7_fill_53178 4 none, Cond.methodLink RX4 168 yX0_setAsAtFirst, Cond.instanceMethod yX0_setAsAtFirst, Cond.selects RX0 yX0_setAsAtFirst yX0_setAsAtFirst, Cond.initialized RX0, Cond.code yX0_setAsAtFirst cX0_setAsAtFirst 1 none, Cond.fieldLink RX0 15 "ResampledRows$Draws" "first" "I", Cond.fieldLink RX0 19 "ResampledRows$Draws" "left" "I"]
def wsX4_clear_r2 : List Cond := [Cond.fieldLink RX0 22 "ResampledRows$Draws" "x" "J", Cond.methodLink RX4 169 yX2_end, Cond.instanceMethod yX2_end, Cond.selects RX2 yX2_end yX2_end, Cond.initialized RX2, Cond.code yX2_end cX2_end 1 none, Cond.fieldLink RX2 51 "ResampledRows$Run" "n" "I", Cond.fieldLink RX2 54 "ResampledRows$Run" "steps" "I", Cond.fieldLink RX2 61 "ResampledRows$Run" "timesAnew" "I", Cond.constant RX2 22 (-1000009), Cond.fieldLink RX2 23 "ResampledRows$Run" "kept" "I", Cond.fieldLink RX2 27 "ResampledRows$Run" "multiplied" "D"]
def wsX4_clear : List Cond := .code yX4_clear cX4_clear 2 (some .int) :: ((wsX4_clear_r1 ++ wsX4_clear_r2) ++ wsX40 ++ wsX20 ++ wsX30 ++ wsX00)
def wsX5_noRun : List Cond := .code yX5_noRun cX5_noRun 1 none :: ([.fieldLink RX5 66 "ResampledRowsModel" "rows" "I", .fieldLink RX5 69 "ResampledRowsModel" "steps" "I", .fieldLink RX5 72 "ResampledRowsModel" "anew" "I", .constant RX5 75 (-1000009), .fieldLink RX5 76 "ResampledRowsModel" "kept" "I", .fieldLink RX5 79 "ResampledRowsModel" "hasFroms" "Z"] ++ wsX50)
def wsX5_beginAll : List Cond := .code yX5_beginAll cX5_beginAll 2 none :: ([.fieldLink RX5 13 "ResampledRowsModel" "moves" "[I", .fieldLink RX5 16 "ResampledRowsModel" "sights" "[I", .fieldLink RX5 7 "ResampledRowsModel" "starts" "[I", .fieldLink RX5 19 "ResampledRowsModel" "names" "[I", .fieldLink RX5 60 "ResampledRowsModel" "forcedMany" "I", .methodLink RX5 63 yX5_noRun, .instanceMethod yX5_noRun, .selects RX5 yX5_noRun yX5_noRun, .initialized RX5, .code yX5_noRun cX5_noRun 1 none, .fieldLink RX5 66 "ResampledRowsModel" "rows" "I", .fieldLink RX5 69 "ResampledRowsModel" "steps" "I", .fieldLink RX5 72 "ResampledRowsModel" "anew" "I", .constant RX5 75 (-1000009), .fieldLink RX5 76 "ResampledRowsModel" "kept" "I", .fieldLink RX5 79 "ResampledRowsModel" "hasFroms" "Z"] ++ wsX50 ++ (vx_atM "java/lang/ArrayIndexOutOfBoundsException" ["java/lang/IndexOutOfBoundsException", "java/lang/RuntimeException", "java/lang/Exception"]).filter goodWord)
def wsX5_init_r1 : List Cond := [Cond.methodLink RX5 1 objectInit, Cond.instanceMethod objectInit, Cond.code objectInit ⟨#[0xb1]⟩ 1 none, Cond.arrayClass .int, Cond.fieldLink RX5 7 "ResampledRowsModel" "starts" "[I", Cond.fieldLink RX5 13 "ResampledRowsModel" "moves" "[I", Cond.fieldLink RX5 16 "ResampledRowsModel" "sights" "[I", Cond.fieldLink RX5 19 "ResampledRowsModel" "names" "[I", Cond.fieldLink RX5 22 "ResampledRowsModel" "forced" "[I", Cond.fieldLink RX5 25 "ResampledRowsModel" "states" "[I", Cond.arrayClass .long, Cond.fieldLink RX5 28 "ResampledRowsModel" "weights" "[J", Cond.fieldLink RX5 32 "ResampledRowsModel" "histories" "[I", Cond.fieldLink RX5 35 "ResampledRowsModel" "froms" "[I", Cond.fieldLink RX5 38 "ResampledRowsModel" "by" "[J", Cond.fieldLink RX5 41 "ResampledRowsModel" "drawn" "[I", Cond.fieldLink RX5 44 "ResampledRowsModel" "times" "[I", Cond.fieldLink RX5 47 "ResampledRowsModel" "oldStates" "[I", Cond.fieldLink RX5 50 "ResampledRowsModel" "oldHistories" "[I", Cond.methodLink RX5 53 yX5_beginAll, Cond.instanceMethod yX5_beginAll, Cond.selects RX5 yX5_beginAll yX5_beginAll, Cond.initialized RX5, Cond.code yX5_beginAll cX5_beginAll 2 none]
def wsX5_init_r2 : List Cond := [Cond.fieldLink RX5 60 "ResampledRowsModel" "forcedMany" "I", Cond.methodLink RX5 63 yX5_noRun, Cond.instanceMethod yX5_noRun, Cond.selects RX5 yX5_noRun yX5_noRun, Cond.code yX5_noRun cX5_noRun 1 none, Cond.fieldLink RX5 66 "ResampledRowsModel" "rows" "I", Cond.fieldLink RX5 69 "ResampledRowsModel" "steps" "I", Cond.fieldLink RX5 72 "ResampledRowsModel" "anew" "I", Cond.constant RX5 75 (-1000009), Cond.fieldLink RX5 76 "ResampledRowsModel" "kept" "I", Cond.fieldLink RX5 79 "ResampledRowsModel" "hasFroms" "Z"]
def wsX5_init : List Cond := .code yX5_init cX5_init 1 none :: ((wsX5_init_r1 ++ wsX5_init_r2) ++ wsX50 ++ (vx_atM "java/lang/ArrayIndexOutOfBoundsException" ["java/lang/IndexOutOfBoundsException", "java/lang/RuntimeException", "java/lang/Exception"]).filter goodWord)
def wsX5_thrown : List Cond := .code yX5_thrown cX5_thrown 1 (some .int) :: ([.fieldLink RX5 56 "ResampledRowsModel" "thrownNow" "I"] ++ wsX50)
def wsX5_in : List Cond := .code yX5_in cX5_in 3 (some .boolean) :: ([])
def wsX5_isState : List Cond := .code yX5_isState cX5_isState 1 (some .boolean) :: ([.methodLink RX5 83 yX5_in, .static yX5_in, .initialized RX5, .code yX5_in cX5_in 3 (some .boolean)])
def wsX5_start : List Cond := .code yX5_start cX5_start 4 (some .int) :: ([.constant RX5 91 (-1000001), .constant RX5 92 (-1000002), .fieldLink RX5 7 "ResampledRowsModel" "starts" "[I", .methodLink RX5 87 yX5_isState, .static yX5_isState, .initialized RX5, .code yX5_isState cX5_isState 1 (some .boolean), .methodLink RX5 83 yX5_in, .static yX5_in, .code yX5_in cX5_in 3 (some .boolean)] ++ wsX50 ++ (vx_atM "java/lang/ArrayIndexOutOfBoundsException" ["java/lang/IndexOutOfBoundsException", "java/lang/RuntimeException", "java/lang/Exception"]).filter goodWord)
def wsX5_move : List Cond := .code yX5_move cX5_move 5 (some .int) :: ([.constant RX5 91 (-1000001), .constant RX5 92 (-1000002), .fieldLink RX5 13 "ResampledRowsModel" "moves" "[I", .methodLink RX5 87 yX5_isState, .static yX5_isState, .initialized RX5, .code yX5_isState cX5_isState 1 (some .boolean), .methodLink RX5 83 yX5_in, .static yX5_in, .code yX5_in cX5_in 3 (some .boolean)] ++ wsX50 ++ (vx_atM "java/lang/ArrayIndexOutOfBoundsException" ["java/lang/IndexOutOfBoundsException", "java/lang/RuntimeException", "java/lang/Exception"]).filter goodWord)
def wsX5_seen : List Cond := .code yX5_seen cX5_seen 5 (some .int) :: ([.constant RX5 91 (-1000001), .constant RX5 92 (-1000002), .fieldLink RX5 16 "ResampledRowsModel" "sights" "[I", .methodLink RX5 83 yX5_in, .static yX5_in, .initialized RX5, .code yX5_in cX5_in 3 (some .boolean), .methodLink RX5 87 yX5_isState, .static yX5_isState, .code yX5_isState cX5_isState 1 (some .boolean)] ++ wsX50 ++ (vx_atM "java/lang/ArrayIndexOutOfBoundsException" ["java/lang/IndexOutOfBoundsException", "java/lang/RuntimeException", "java/lang/Exception"]).filter goodWord)
def wsX5_named : List Cond := .code yX5_named cX5_named 4 (some .int) :: ([.constant RX5 91 (-1000001), .constant RX5 92 (-1000002), .fieldLink RX5 19 "ResampledRowsModel" "names" "[I", .methodLink RX5 87 yX5_isState, .static yX5_isState, .initialized RX5, .code yX5_isState cX5_isState 1 (some .boolean), .methodLink RX5 83 yX5_in, .static yX5_in, .code yX5_in cX5_in 3 (some .boolean)] ++ wsX50 ++ (vx_atM "java/lang/ArrayIndexOutOfBoundsException" ["java/lang/IndexOutOfBoundsException", "java/lang/RuntimeException", "java/lang/Exception"]).filter goodWord)
def wsX5_force : List Cond := .code yX5_force cX5_force 2 (some .int) :: ([.fieldLink RX5 60 "ResampledRowsModel" "forcedMany" "I", .constant RX5 92 (-1000002), .fieldLink RX5 22 "ResampledRowsModel" "forced" "[I"] ++ wsX50 ++ (vx_atM "java/lang/ArrayIndexOutOfBoundsException" ["java/lang/IndexOutOfBoundsException", "java/lang/RuntimeException", "java/lang/Exception"]).filter goodWord)
def wsX5_draw : List Cond := .code yX5_draw cX5_draw 6 (some .long) :: ([.fieldLink RX5 60 "ResampledRowsModel" "forcedMany" "I", .fieldLink RX5 22 "ResampledRowsModel" "forced" "[I", .fieldLink RX5 93 "ResampledRowsModel" "seed" "J", .constantLong RX5 97 (6364136223846793005), .constantLong RX5 99 (1442695040888963407)] ++ wsX50 ++ (vx_atM "java/lang/ArrayIndexOutOfBoundsException" ["java/lang/IndexOutOfBoundsException", "java/lang/RuntimeException", "java/lang/Exception"]).filter goodWord)
def wsX5_sumBy : List Cond := .code yX5_sumBy cX5_sumBy 5 (some .long) :: ([.fieldLink RX5 38 "ResampledRowsModel" "by" "[J"] ++ wsX50 ++ (vx_atM "java/lang/ArrayIndexOutOfBoundsException" ["java/lang/IndexOutOfBoundsException", "java/lang/RuntimeException", "java/lang/Exception"]).filter goodWord)
def wsX5_drawBy : List Cond := .code yX5_drawBy cX5_drawBy 9 (some .int) :: ([.fieldLink RX5 38 "ResampledRowsModel" "by" "[J", .methodLink RX5 101 yX5_sumBy, .instanceMethod yX5_sumBy, .selects RX5 yX5_sumBy yX5_sumBy, .initialized RX5, .code yX5_sumBy cX5_sumBy 5 (some .long), .methodLink RX5 105 yX5_draw, .instanceMethod yX5_draw, .selects RX5 yX5_draw yX5_draw, .code yX5_draw cX5_draw 6 (some .long), .fieldLink RX5 60 "ResampledRowsModel" "forcedMany" "I", .fieldLink RX5 22 "ResampledRowsModel" "forced" "[I", .fieldLink RX5 93 "ResampledRowsModel" "seed" "J", .constantLong RX5 97 (6364136223846793005), .constantLong RX5 99 (1442695040888963407)] ++ wsX50 ++ (vx_atM "java/lang/ArrayIndexOutOfBoundsException" ["java/lang/IndexOutOfBoundsException", "java/lang/RuntimeException", "java/lang/Exception"]).filter goodWord)
def wsX5_begin_r1 : List Cond := [Cond.constant RX5 109 (-1000010), Cond.constant RX5 92 (-1000002), Cond.fieldLink RX5 93 "ResampledRowsModel" "seed" "J", Cond.fieldLink RX5 38 "ResampledRowsModel" "by" "[J", Cond.fieldLink RX5 7 "ResampledRowsModel" "starts" "[I", Cond.constant RX5 114 (-1000004), Cond.fieldLink RX5 25 "ResampledRowsModel" "states" "[I", Cond.fieldLink RX5 28 "ResampledRowsModel" "weights" "[J", Cond.fieldLink RX5 32 "ResampledRowsModel" "histories" "[I", Cond.fieldLink RX5 66 "ResampledRowsModel" "rows" "I", Cond.fieldLink RX5 115 "ResampledRowsModel" "product" "D", Cond.methodLink RX5 83 yX5_in, Cond.static yX5_in, Cond.initialized RX5, Cond.code yX5_in cX5_in 3 (some .boolean), Cond.methodLink RX5 63 yX5_noRun, Cond.instanceMethod yX5_noRun, Cond.selects RX5 yX5_noRun yX5_noRun, Cond.code yX5_noRun cX5_noRun 1 none, Cond.fieldLink RX5 69 "ResampledRowsModel" "steps" "I", Cond.fieldLink RX5 72 "ResampledRowsModel" "anew" "I", Cond.constant RX5 75 (-1000009), Cond.fieldLink RX5 76 "ResampledRowsModel" "kept" "I", Cond.fieldLink RX5 79 "ResampledRowsModel" "hasFroms" "Z"]
def wsX5_begin_r2 : List Cond := [Cond.methodLink RX5 110 yX5_drawBy, Cond.instanceMethod yX5_drawBy, Cond.selects RX5 yX5_drawBy yX5_drawBy, Cond.code yX5_drawBy cX5_drawBy 9 (some .int), Cond.methodLink RX5 101 yX5_sumBy, Cond.instanceMethod yX5_sumBy, Cond.selects RX5 yX5_sumBy yX5_sumBy, Cond.code yX5_sumBy cX5_sumBy 5 (some .long), Cond.methodLink RX5 105 yX5_draw, Cond.instanceMethod yX5_draw, Cond.selects RX5 yX5_draw yX5_draw, Cond.code yX5_draw cX5_draw 6 (some .long), Cond.fieldLink RX5 60 "ResampledRowsModel" "forcedMany" "I", Cond.fieldLink RX5 22 "ResampledRowsModel" "forced" "[I", Cond.constantLong RX5 97 (6364136223846793005), Cond.constantLong RX5 99 (1442695040888963407)]
def wsX5_begin : List Cond := .code yX5_begin cX5_begin 6 (some .int) :: ((wsX5_begin_r1 ++ wsX5_begin_r2) ++ wsX50 ++ (vx_atM "java/lang/ArrayIndexOutOfBoundsException" ["java/lang/IndexOutOfBoundsException", "java/lang/RuntimeException", "java/lang/Exception"]).filter goodWord)
def wsX5_isRow : List Cond := .code yX5_isRow cX5_isRow 2 (some .boolean) :: ([.fieldLink RX5 66 "ResampledRowsModel" "rows" "I", .methodLink RX5 83 yX5_in, .static yX5_in, .initialized RX5, .code yX5_in cX5_in 3 (some .boolean)] ++ wsX50)
def wsX5_keep : List Cond := .code yX5_keep cX5_keep 3 (some .int) :: ([.fieldLink RX5 66 "ResampledRowsModel" "rows" "I", .constant RX5 119 (-1000003), .constant RX5 75 (-1000009), .constant RX5 91 (-1000001), .fieldLink RX5 76 "ResampledRowsModel" "kept" "I", .methodLink RX5 120 yX5_isRow, .instanceMethod yX5_isRow, .selects RX5 yX5_isRow yX5_isRow, .initialized RX5, .code yX5_isRow cX5_isRow 2 (some .boolean), .methodLink RX5 83 yX5_in, .static yX5_in, .code yX5_in cX5_in 3 (some .boolean)] ++ wsX50)
def wsX5_step_r1 : List Cond := [Cond.fieldLink RX5 66 "ResampledRowsModel" "rows" "I", Cond.constant RX5 119 (-1000003), Cond.constant RX5 91 (-1000001), Cond.constant RX5 92 (-1000002), Cond.fieldLink RX5 69 "ResampledRowsModel" "steps" "I", Cond.fieldLink RX5 19 "ResampledRowsModel" "names" "[I", Cond.fieldLink RX5 25 "ResampledRowsModel" "states" "[I", Cond.fieldLink RX5 38 "ResampledRowsModel" "by" "[J", Cond.fieldLink RX5 13 "ResampledRowsModel" "moves" "[I", Cond.fieldLink RX5 41 "ResampledRowsModel" "drawn" "[I", Cond.constant RX5 114 (-1000004), Cond.fieldLink RX5 28 "ResampledRowsModel" "weights" "[J", Cond.fieldLink RX5 16 "ResampledRowsModel" "sights" "[I", Cond.constantLong RX5 123 (1000000), Cond.constant RX5 125 (-1000005), Cond.fieldLink RX5 32 "ResampledRowsModel" "histories" "[I", Cond.methodLink RX5 83 yX5_in, Cond.static yX5_in, Cond.initialized RX5, Cond.code yX5_in cX5_in 3 (some .boolean), Cond.methodLink RX5 110 yX5_drawBy, Cond.instanceMethod yX5_drawBy, Cond.selects RX5 yX5_drawBy yX5_drawBy, Cond.code yX5_drawBy cX5_drawBy 9 (some .int)]
def wsX5_step_r2 : List Cond := [Cond.methodLink RX5 101 yX5_sumBy, Cond.instanceMethod yX5_sumBy, Cond.selects RX5 yX5_sumBy yX5_sumBy, Cond.code yX5_sumBy cX5_sumBy 5 (some .long), Cond.methodLink RX5 105 yX5_draw, Cond.instanceMethod yX5_draw, Cond.selects RX5 yX5_draw yX5_draw, Cond.code yX5_draw cX5_draw 6 (some .long), Cond.fieldLink RX5 60 "ResampledRowsModel" "forcedMany" "I", Cond.fieldLink RX5 22 "ResampledRowsModel" "forced" "[I", Cond.fieldLink RX5 93 "ResampledRowsModel" "seed" "J", Cond.constantLong RX5 97 (6364136223846793005), Cond.constantLong RX5 99 (1442695040888963407)]
def wsX5_step : List Cond := .code yX5_step cX5_step 6 (some .int) :: ((wsX5_step_r1 ++ wsX5_step_r2) ++ wsX50 ++ (vx_atM "java/lang/ArrayIndexOutOfBoundsException" ["java/lang/IndexOutOfBoundsException", "java/lang/RuntimeException", "java/lang/Exception"]).filter goodWord)
def wsX5_total : List Cond := .code yX5_total cX5_total 4 (some .long) :: ([.fieldLink RX5 66 "ResampledRowsModel" "rows" "I", .fieldLink RX5 28 "ResampledRowsModel" "weights" "[J"] ++ wsX50 ++ (vx_atM "java/lang/ArrayIndexOutOfBoundsException" ["java/lang/IndexOutOfBoundsException", "java/lang/RuntimeException", "java/lang/Exception"]).filter goodWord)
def wsX5_squares : List Cond := .code yX5_squares cX5_squares 4 (some .long) :: ([.fieldLink RX5 66 "ResampledRowsModel" "rows" "I", .fieldLink RX5 28 "ResampledRowsModel" "weights" "[J"] ++ wsX50 ++ (vx_atM "java/lang/ArrayIndexOutOfBoundsException" ["java/lang/IndexOutOfBoundsException", "java/lang/RuntimeException", "java/lang/Exception"]).filter goodWord)
def wsX5_pick : List Cond := .code yX5_pick cX5_pick 2 none :: ([.fieldLink RX5 44 "ResampledRowsModel" "times" "[I"] ++ wsX50 ++ (vx_atM "java/lang/ArrayIndexOutOfBoundsException" ["java/lang/IndexOutOfBoundsException", "java/lang/RuntimeException", "java/lang/Exception"]).filter goodWord)
def wsX5_rowAt : List Cond := .code yX5_rowAt cX5_rowAt 6 (some .int) :: ([.fieldLink RX5 66 "ResampledRowsModel" "rows" "I", .fieldLink RX5 28 "ResampledRowsModel" "weights" "[J"] ++ wsX50 ++ (vx_atM "java/lang/ArrayIndexOutOfBoundsException" ["java/lang/IndexOutOfBoundsException", "java/lang/RuntimeException", "java/lang/Exception"]).filter goodWord)
def wsX5_pickBy_r1 : List Cond := [Cond.fieldLink RX5 66 "ResampledRowsModel" "rows" "I", Cond.fieldLink RX5 76 "ResampledRowsModel" "kept" "I", Cond.constant RX5 75 (-1000009), Cond.fieldLink RX5 38 "ResampledRowsModel" "by" "[J", Cond.fieldLink RX5 28 "ResampledRowsModel" "weights" "[J", Cond.methodLink RX5 105 yX5_draw, Cond.instanceMethod yX5_draw, Cond.selects RX5 yX5_draw yX5_draw, Cond.initialized RX5, Cond.code yX5_draw cX5_draw 6 (some .long), Cond.fieldLink RX5 60 "ResampledRowsModel" "forcedMany" "I", Cond.fieldLink RX5 22 "ResampledRowsModel" "forced" "[I", Cond.fieldLink RX5 93 "ResampledRowsModel" "seed" "J", Cond.constantLong RX5 97 (6364136223846793005), Cond.constantLong RX5 99 (1442695040888963407), Cond.methodLink RX5 126 yX5_pick, Cond.instanceMethod yX5_pick, Cond.selects RX5 yX5_pick yX5_pick, Cond.code yX5_pick cX5_pick 2 none, Cond.fieldLink RX5 44 "ResampledRowsModel" "times" "[I", Cond.methodLink RX5 110 yX5_drawBy, Cond.instanceMethod yX5_drawBy, Cond.selects RX5 yX5_drawBy yX5_drawBy, Cond.code yX5_drawBy cX5_drawBy 9 (some .int)]
def wsX5_pickBy_r2 : List Cond := [Cond.methodLink RX5 101 yX5_sumBy, Cond.instanceMethod yX5_sumBy, Cond.selects RX5 yX5_sumBy yX5_sumBy, Cond.code yX5_sumBy cX5_sumBy 5 (some .long), Cond.methodLink RX5 130 yX5_rowAt, Cond.instanceMethod yX5_rowAt, Cond.selects RX5 yX5_rowAt yX5_rowAt, Cond.code yX5_rowAt cX5_rowAt 6 (some .int)]
def wsX5_pickBy : List Cond := .code yX5_pickBy cX5_pickBy 8 none :: ((wsX5_pickBy_r1 ++ wsX5_pickBy_r2) ++ wsX50 ++ (vx_atM "java/lang/ArrayIndexOutOfBoundsException" ["java/lang/IndexOutOfBoundsException", "java/lang/RuntimeException", "java/lang/Exception"]).filter goodWord)
def wsX5_pickWhole_r1 : List Cond := [Cond.fieldLink RX5 66 "ResampledRowsModel" "rows" "I", Cond.fieldLink RX5 44 "ResampledRowsModel" "times" "[I", Cond.fieldLink RX5 28 "ResampledRowsModel" "weights" "[J", Cond.fieldLink RX5 38 "ResampledRowsModel" "by" "[J", Cond.fieldLink RX5 76 "ResampledRowsModel" "kept" "I", Cond.constant RX5 75 (-1000009), Cond.methodLink RX5 110 yX5_drawBy, Cond.instanceMethod yX5_drawBy, Cond.selects RX5 yX5_drawBy yX5_drawBy, Cond.initialized RX5, Cond.code yX5_drawBy cX5_drawBy 9 (some .int), Cond.methodLink RX5 101 yX5_sumBy, Cond.instanceMethod yX5_sumBy, Cond.selects RX5 yX5_sumBy yX5_sumBy, Cond.code yX5_sumBy cX5_sumBy 5 (some .long), Cond.methodLink RX5 105 yX5_draw, Cond.instanceMethod yX5_draw, Cond.selects RX5 yX5_draw yX5_draw, Cond.code yX5_draw cX5_draw 6 (some .long), Cond.fieldLink RX5 60 "ResampledRowsModel" "forcedMany" "I", Cond.fieldLink RX5 22 "ResampledRowsModel" "forced" "[I", Cond.fieldLink RX5 93 "ResampledRowsModel" "seed" "J", Cond.constantLong RX5 97 (6364136223846793005), Cond.constantLong RX5 99 (1442695040888963407)]
def wsX5_pickWhole_r2 : List Cond := [Cond.methodLink RX5 126 yX5_pick, Cond.instanceMethod yX5_pick, Cond.selects RX5 yX5_pick yX5_pick, Cond.code yX5_pick cX5_pick 2 none]
def wsX5_pickWhole : List Cond := .code yX5_pickWhole cX5_pickWhole 6 none :: ((wsX5_pickWhole_r1 ++ wsX5_pickWhole_r2) ++ wsX50 ++ (vx_atM "java/lang/ArrayIndexOutOfBoundsException" ["java/lang/IndexOutOfBoundsException", "java/lang/RuntimeException", "java/lang/Exception"]).filter goodWord)
def wsX5_drawAnew_r1 : List Cond := [Cond.constant RX5 114 (-1000004), Cond.fieldLink RX5 44 "ResampledRowsModel" "times" "[I", Cond.fieldLink RX5 50 "ResampledRowsModel" "oldHistories" "[I", Cond.fieldLink RX5 32 "ResampledRowsModel" "histories" "[I", Cond.fieldLink RX5 66 "ResampledRowsModel" "rows" "I", Cond.fieldLink RX5 47 "ResampledRowsModel" "oldStates" "[I", Cond.fieldLink RX5 25 "ResampledRowsModel" "states" "[I", Cond.constant RX5 75 (-1000009), Cond.fieldLink RX5 35 "ResampledRowsModel" "froms" "[I", Cond.fieldLink RX5 76 "ResampledRowsModel" "kept" "I", Cond.fieldLink RX5 28 "ResampledRowsModel" "weights" "[J", Cond.fieldLink RX5 79 "ResampledRowsModel" "hasFroms" "Z", Cond.fieldLink RX5 72 "ResampledRowsModel" "anew" "I", Cond.fieldLink RX5 115 "ResampledRowsModel" "product" "D", Cond.methodLink RX5 134 yX5_total, Cond.instanceMethod yX5_total, Cond.selects RX5 yX5_total yX5_total, Cond.initialized RX5, Cond.code yX5_total cX5_total 4 (some .long), Cond.methodLink RX5 138 yX5_pickBy, Cond.instanceMethod yX5_pickBy, Cond.selects RX5 yX5_pickBy yX5_pickBy, Cond.code yX5_pickBy cX5_pickBy 8 none, Cond.fieldLink RX5 38 "ResampledRowsModel" "by" "[J"]
def wsX5_drawAnew_r2 : List Cond := [Cond.methodLink RX5 105 yX5_draw, Cond.instanceMethod yX5_draw, Cond.selects RX5 yX5_draw yX5_draw, Cond.code yX5_draw cX5_draw 6 (some .long), Cond.fieldLink RX5 60 "ResampledRowsModel" "forcedMany" "I", Cond.fieldLink RX5 22 "ResampledRowsModel" "forced" "[I", Cond.fieldLink RX5 93 "ResampledRowsModel" "seed" "J", Cond.constantLong RX5 97 (6364136223846793005), Cond.constantLong RX5 99 (1442695040888963407), Cond.methodLink RX5 126 yX5_pick, Cond.instanceMethod yX5_pick, Cond.selects RX5 yX5_pick yX5_pick, Cond.code yX5_pick cX5_pick 2 none, Cond.methodLink RX5 110 yX5_drawBy, Cond.instanceMethod yX5_drawBy, Cond.selects RX5 yX5_drawBy yX5_drawBy, Cond.code yX5_drawBy cX5_drawBy 9 (some .int), Cond.methodLink RX5 101 yX5_sumBy, Cond.instanceMethod yX5_sumBy, Cond.selects RX5 yX5_sumBy yX5_sumBy, Cond.code yX5_sumBy cX5_sumBy 5 (some .long), Cond.methodLink RX5 130 yX5_rowAt, Cond.instanceMethod yX5_rowAt, Cond.selects RX5 yX5_rowAt yX5_rowAt]
def wsX5_drawAnew_r3 : List Cond := [Cond.code yX5_rowAt cX5_rowAt 6 (some .int), Cond.methodLink RX5 142 yX5_pickWhole, Cond.instanceMethod yX5_pickWhole, Cond.selects RX5 yX5_pickWhole yX5_pickWhole, Cond.code yX5_pickWhole cX5_pickWhole 6 none]
def wsX5_drawAnew : List Cond := .code yX5_drawAnew cX5_drawAnew 10 (some .int) :: ((wsX5_drawAnew_r1 ++ (wsX5_drawAnew_r2 ++ wsX5_drawAnew_r3)) ++ wsX50 ++ (vx_atM "java/lang/ArrayIndexOutOfBoundsException" ["java/lang/IndexOutOfBoundsException", "java/lang/RuntimeException", "java/lang/Exception"]).filter goodWord)
def wsX5_again_r1 : List Cond := [Cond.fieldLink RX5 66 "ResampledRowsModel" "rows" "I", Cond.constant RX5 119 (-1000003), Cond.constant RX5 92 (-1000002), Cond.methodLink RX5 83 yX5_in, Cond.static yX5_in, Cond.initialized RX5, Cond.code yX5_in cX5_in 3 (some .boolean), Cond.methodLink RX5 146 yX5_drawAnew, Cond.instanceMethod yX5_drawAnew, Cond.selects RX5 yX5_drawAnew yX5_drawAnew, Cond.code yX5_drawAnew cX5_drawAnew 10 (some .int), Cond.constant RX5 114 (-1000004), Cond.fieldLink RX5 44 "ResampledRowsModel" "times" "[I", Cond.fieldLink RX5 50 "ResampledRowsModel" "oldHistories" "[I", Cond.fieldLink RX5 32 "ResampledRowsModel" "histories" "[I", Cond.fieldLink RX5 47 "ResampledRowsModel" "oldStates" "[I", Cond.fieldLink RX5 25 "ResampledRowsModel" "states" "[I", Cond.constant RX5 75 (-1000009), Cond.fieldLink RX5 35 "ResampledRowsModel" "froms" "[I", Cond.fieldLink RX5 76 "ResampledRowsModel" "kept" "I", Cond.fieldLink RX5 28 "ResampledRowsModel" "weights" "[J", Cond.fieldLink RX5 79 "ResampledRowsModel" "hasFroms" "Z", Cond.fieldLink RX5 72 "ResampledRowsModel" "anew" "I", Cond.fieldLink RX5 115 "ResampledRowsModel" "product" "D"]
def wsX5_again_r2 : List Cond := [Cond.methodLink RX5 134 yX5_total, Cond.instanceMethod yX5_total, Cond.selects RX5 yX5_total yX5_total, Cond.code yX5_total cX5_total 4 (some .long), Cond.methodLink RX5 138 yX5_pickBy, Cond.instanceMethod yX5_pickBy, Cond.selects RX5 yX5_pickBy yX5_pickBy, Cond.code yX5_pickBy cX5_pickBy 8 none, Cond.fieldLink RX5 38 "ResampledRowsModel" "by" "[J", Cond.methodLink RX5 105 yX5_draw, Cond.instanceMethod yX5_draw, Cond.selects RX5 yX5_draw yX5_draw, Cond.code yX5_draw cX5_draw 6 (some .long), Cond.fieldLink RX5 60 "ResampledRowsModel" "forcedMany" "I", Cond.fieldLink RX5 22 "ResampledRowsModel" "forced" "[I", Cond.fieldLink RX5 93 "ResampledRowsModel" "seed" "J", Cond.constantLong RX5 97 (6364136223846793005), Cond.constantLong RX5 99 (1442695040888963407), Cond.methodLink RX5 126 yX5_pick, Cond.instanceMethod yX5_pick, Cond.selects RX5 yX5_pick yX5_pick, Cond.code yX5_pick cX5_pick 2 none, Cond.methodLink RX5 110 yX5_drawBy, Cond.instanceMethod yX5_drawBy]
def wsX5_again_r3 : List Cond := [Cond.selects RX5 yX5_drawBy yX5_drawBy, Cond.code yX5_drawBy cX5_drawBy 9 (some .int), Cond.methodLink RX5 101 yX5_sumBy, Cond.instanceMethod yX5_sumBy, Cond.selects RX5 yX5_sumBy yX5_sumBy, Cond.code yX5_sumBy cX5_sumBy 5 (some .long), Cond.methodLink RX5 130 yX5_rowAt, Cond.instanceMethod yX5_rowAt, Cond.selects RX5 yX5_rowAt yX5_rowAt, Cond.code yX5_rowAt cX5_rowAt 6 (some .int), Cond.methodLink RX5 142 yX5_pickWhole, Cond.instanceMethod yX5_pickWhole, Cond.selects RX5 yX5_pickWhole yX5_pickWhole, Cond.code yX5_pickWhole cX5_pickWhole 6 none]
def wsX5_again : List Cond := .code yX5_again cX5_again 2 (some .int) :: ((wsX5_again_r1 ++ (wsX5_again_r2 ++ wsX5_again_r3)) ++ wsX50 ++ (vx_atM "java/lang/ArrayIndexOutOfBoundsException" ["java/lang/IndexOutOfBoundsException", "java/lang/RuntimeException", "java/lang/Exception"]).filter goodWord)
def wsX5_rule_r1 : List Cond := [Cond.fieldLink RX5 66 "ResampledRowsModel" "rows" "I", Cond.constant RX5 119 (-1000003), Cond.constant RX5 92 (-1000002), Cond.constant RX5 114 (-1000004), Cond.constantLong RX5 149 (100), Cond.methodLink RX5 83 yX5_in, Cond.static yX5_in, Cond.initialized RX5, Cond.code yX5_in cX5_in 3 (some .boolean), Cond.methodLink RX5 134 yX5_total, Cond.instanceMethod yX5_total, Cond.selects RX5 yX5_total yX5_total, Cond.code yX5_total cX5_total 4 (some .long), Cond.fieldLink RX5 28 "ResampledRowsModel" "weights" "[J", Cond.methodLink RX5 151 yX5_squares, Cond.instanceMethod yX5_squares, Cond.selects RX5 yX5_squares yX5_squares, Cond.code yX5_squares cX5_squares 4 (some .long), Cond.methodLink RX5 146 yX5_drawAnew, Cond.instanceMethod yX5_drawAnew, Cond.selects RX5 yX5_drawAnew yX5_drawAnew, Cond.code yX5_drawAnew cX5_drawAnew 10 (some .int), Cond.fieldLink RX5 44 "ResampledRowsModel" "times" "[I", Cond.fieldLink RX5 50 "ResampledRowsModel" "oldHistories" "[I"]
def wsX5_rule_r2 : List Cond := [Cond.fieldLink RX5 32 "ResampledRowsModel" "histories" "[I", Cond.fieldLink RX5 47 "ResampledRowsModel" "oldStates" "[I", Cond.fieldLink RX5 25 "ResampledRowsModel" "states" "[I", Cond.constant RX5 75 (-1000009), Cond.fieldLink RX5 35 "ResampledRowsModel" "froms" "[I", Cond.fieldLink RX5 76 "ResampledRowsModel" "kept" "I", Cond.fieldLink RX5 79 "ResampledRowsModel" "hasFroms" "Z", Cond.fieldLink RX5 72 "ResampledRowsModel" "anew" "I", Cond.fieldLink RX5 115 "ResampledRowsModel" "product" "D", Cond.methodLink RX5 138 yX5_pickBy, Cond.instanceMethod yX5_pickBy, Cond.selects RX5 yX5_pickBy yX5_pickBy, Cond.code yX5_pickBy cX5_pickBy 8 none, Cond.fieldLink RX5 38 "ResampledRowsModel" "by" "[J", Cond.methodLink RX5 105 yX5_draw, Cond.instanceMethod yX5_draw, Cond.selects RX5 yX5_draw yX5_draw, Cond.code yX5_draw cX5_draw 6 (some .long), Cond.fieldLink RX5 60 "ResampledRowsModel" "forcedMany" "I", Cond.fieldLink RX5 22 "ResampledRowsModel" "forced" "[I", Cond.fieldLink RX5 93 "ResampledRowsModel" "seed" "J", Cond.constantLong RX5 97 (6364136223846793005), Cond.constantLong RX5 99 (1442695040888963407), Cond.methodLink RX5 126 yX5_pick]
def wsX5_rule_r3 : List Cond := [Cond.instanceMethod yX5_pick, Cond.selects RX5 yX5_pick yX5_pick, Cond.code yX5_pick cX5_pick 2 none, Cond.methodLink RX5 110 yX5_drawBy, Cond.instanceMethod yX5_drawBy, Cond.selects RX5 yX5_drawBy yX5_drawBy, Cond.code yX5_drawBy cX5_drawBy 9 (some .int), Cond.methodLink RX5 101 yX5_sumBy, Cond.instanceMethod yX5_sumBy, Cond.selects RX5 yX5_sumBy yX5_sumBy, Cond.code yX5_sumBy cX5_sumBy 5 (some .long), Cond.methodLink RX5 130 yX5_rowAt, Cond.instanceMethod yX5_rowAt, Cond.selects RX5 yX5_rowAt yX5_rowAt, Cond.code yX5_rowAt cX5_rowAt 6 (some .int), Cond.methodLink RX5 142 yX5_pickWhole, Cond.instanceMethod yX5_pickWhole, Cond.selects RX5 yX5_pickWhole yX5_pickWhole, Cond.code yX5_pickWhole cX5_pickWhole 6 none]
def wsX5_rule : List Cond := .code yX5_rule cX5_rule 5 (some .int) :: ((wsX5_rule_r1 ++ (wsX5_rule_r2 ++ wsX5_rule_r3)) ++ wsX50 ++ (vx_atM "java/lang/ArrayIndexOutOfBoundsException" ["java/lang/IndexOutOfBoundsException", "java/lang/RuntimeException", "java/lang/Exception"]).filter goodWord)
def wsX5_from : List Cond := .code yX5_from cX5_from 2 (some .int) :: ([.fieldLink RX5 66 "ResampledRowsModel" "rows" "I", .constant RX5 119 (-1000003), .fieldLink RX5 79 "ResampledRowsModel" "hasFroms" "Z", .fieldLink RX5 35 "ResampledRowsModel" "froms" "[I", .constant RX5 91 (-1000001), .methodLink RX5 120 yX5_isRow, .instanceMethod yX5_isRow, .selects RX5 yX5_isRow yX5_isRow, .initialized RX5, .code yX5_isRow cX5_isRow 2 (some .boolean), .methodLink RX5 83 yX5_in, .static yX5_in, .code yX5_in cX5_in 3 (some .boolean)] ++ wsX50 ++ (vx_atM "java/lang/ArrayIndexOutOfBoundsException" ["java/lang/IndexOutOfBoundsException", "java/lang/RuntimeException", "java/lang/Exception"]).filter goodWord)
def wsX5_row : List Cond := .code yX5_row cX5_row 3 (some .int) :: ([.fieldLink RX5 66 "ResampledRowsModel" "rows" "I", .constant RX5 119 (-1000003), .constant RX5 91 (-1000001), .fieldLink RX5 25 "ResampledRowsModel" "states" "[I", .fieldLink RX5 69 "ResampledRowsModel" "steps" "I", .constant RX5 92 (-1000002), .methodLink RX5 120 yX5_isRow, .instanceMethod yX5_isRow, .selects RX5 yX5_isRow yX5_isRow, .initialized RX5, .code yX5_isRow cX5_isRow 2 (some .boolean), .methodLink RX5 83 yX5_in, .static yX5_in, .code yX5_in cX5_in 3 (some .boolean)] ++ wsX50 ++ (vx_atM "java/lang/ArrayIndexOutOfBoundsException" ["java/lang/IndexOutOfBoundsException", "java/lang/RuntimeException", "java/lang/Exception"]).filter goodWord)
def wsX5_weight : List Cond := .code yX5_weight cX5_weight 2 (some .long) :: ([.fieldLink RX5 66 "ResampledRowsModel" "rows" "I", .constantLong RX5 154 (-1000003), .constantLong RX5 156 (-1000001), .fieldLink RX5 28 "ResampledRowsModel" "weights" "[J", .methodLink RX5 120 yX5_isRow, .instanceMethod yX5_isRow, .selects RX5 yX5_isRow yX5_isRow, .initialized RX5, .code yX5_isRow cX5_isRow 2 (some .boolean), .methodLink RX5 83 yX5_in, .static yX5_in, .code yX5_in cX5_in 3 (some .boolean)] ++ wsX50 ++ (vx_atM "java/lang/ArrayIndexOutOfBoundsException" ["java/lang/IndexOutOfBoundsException", "java/lang/RuntimeException", "java/lang/Exception"]).filter goodWord)
def wsX5_history : List Cond := .code yX5_history cX5_history 3 (some .int) :: ([.fieldLink RX5 56 "ResampledRowsModel" "thrownNow" "I", .fieldLink RX5 66 "ResampledRowsModel" "rows" "I", .constant RX5 119 (-1000003), .constant RX5 91 (-1000001), .fieldLink RX5 69 "ResampledRowsModel" "steps" "I", .fieldLink RX5 32 "ResampledRowsModel" "histories" "[I", .methodLink RX5 120 yX5_isRow, .instanceMethod yX5_isRow, .selects RX5 yX5_isRow yX5_isRow, .initialized RX5, .code yX5_isRow cX5_isRow 2 (some .boolean), .methodLink RX5 83 yX5_in, .static yX5_in, .code yX5_in cX5_in 3 (some .boolean)] ++ wsX50 ++ (vx_atM "java/lang/ArrayIndexOutOfBoundsException" ["java/lang/IndexOutOfBoundsException", "java/lang/RuntimeException", "java/lang/Exception"]).filter goodWord)
def wsX5_write : List Cond := .code yX5_write cX5_write 4 (some .int) :: ([.fieldLink RX5 66 "ResampledRowsModel" "rows" "I", .constant RX5 119 (-1000003), .constant RX5 91 (-1000001), .fieldLink RX5 69 "ResampledRowsModel" "steps" "I", .constant RX5 92 (-1000002), .fieldLink RX5 32 "ResampledRowsModel" "histories" "[I", .methodLink RX5 120 yX5_isRow, .instanceMethod yX5_isRow, .selects RX5 yX5_isRow yX5_isRow, .initialized RX5, .code yX5_isRow cX5_isRow 2 (some .boolean), .methodLink RX5 83 yX5_in, .static yX5_in, .code yX5_in cX5_in 3 (some .boolean), .methodLink RX5 87 yX5_isState, .static yX5_isState, .code yX5_isState cX5_isState 1 (some .boolean)] ++ wsX50 ++ (vx_atM "java/lang/ArrayIndexOutOfBoundsException" ["java/lang/IndexOutOfBoundsException", "java/lang/RuntimeException", "java/lang/Exception"]).filter goodWord)
def wsX5_told : List Cond := .code yX5_told cX5_told 6 (some .long) :: ([.fieldLink RX5 66 "ResampledRowsModel" "rows" "I", .constantLong RX5 154 (-1000003), .constantLong RX5 158 (-1000002), .methodLink RX5 134 yX5_total, .instanceMethod yX5_total, .selects RX5 yX5_total yX5_total, .initialized RX5, .code yX5_total cX5_total 4 (some .long), .fieldLink RX5 28 "ResampledRowsModel" "weights" "[J", .methodLink RX5 151 yX5_squares, .instanceMethod yX5_squares, .selects RX5 yX5_squares yX5_squares, .code yX5_squares cX5_squares 4 (some .long)] ++ wsX50 ++ (vx_atM "java/lang/ArrayIndexOutOfBoundsException" ["java/lang/IndexOutOfBoundsException", "java/lang/RuntimeException", "java/lang/Exception"]).filter goodWord)
def wsX5_evidence : List Cond := .code yX5_evidence cX5_evidence 1 (some .double) :: ([.fieldLink RX5 66 "ResampledRowsModel" "rows" "I", .fieldLink RX5 115 "ResampledRowsModel" "product" "D", .methodLink RX5 134 yX5_total, .instanceMethod yX5_total, .selects RX5 yX5_total yX5_total, .initialized RX5, .code yX5_total cX5_total 4 (some .long), .fieldLink RX5 28 "ResampledRowsModel" "weights" "[J"] ++ wsX50 ++ (vx_atM "java/lang/ArrayIndexOutOfBoundsException" ["java/lang/IndexOutOfBoundsException", "java/lang/RuntimeException", "java/lang/Exception"]).filter goodWord)
def wsX5_count : List Cond := .code yX5_count cX5_count 2 (some .int) :: ([.fieldLink RX5 66 "ResampledRowsModel" "rows" "I", .fieldLink RX5 69 "ResampledRowsModel" "steps" "I", .fieldLink RX5 72 "ResampledRowsModel" "anew" "I", .fieldLink RX5 60 "ResampledRowsModel" "forcedMany" "I", .fieldLink RX5 76 "ResampledRowsModel" "kept" "I", .constant RX5 92 (-1000002)] ++ wsX50)
def wsX5_clear : List Cond := .code yX5_clear cX5_clear 2 (some .int) :: ([.fieldLink RX5 66 "ResampledRowsModel" "rows" "I", .methodLink RX5 53 yX5_beginAll, .instanceMethod yX5_beginAll, .selects RX5 yX5_beginAll yX5_beginAll, .initialized RX5, .code yX5_beginAll cX5_beginAll 2 none, .fieldLink RX5 13 "ResampledRowsModel" "moves" "[I", .fieldLink RX5 16 "ResampledRowsModel" "sights" "[I", .fieldLink RX5 7 "ResampledRowsModel" "starts" "[I", .fieldLink RX5 19 "ResampledRowsModel" "names" "[I", .fieldLink RX5 60 "ResampledRowsModel" "forcedMany" "I", .methodLink RX5 63 yX5_noRun, .instanceMethod yX5_noRun, .selects RX5 yX5_noRun yX5_noRun, .code yX5_noRun cX5_noRun 1 none, .fieldLink RX5 69 "ResampledRowsModel" "steps" "I", .fieldLink RX5 72 "ResampledRowsModel" "anew" "I", .constant RX5 75 (-1000009), .fieldLink RX5 76 "ResampledRowsModel" "kept" "I", .fieldLink RX5 79 "ResampledRowsModel" "hasFroms" "Z"] ++ wsX50 ++ (vx_atM "java/lang/ArrayIndexOutOfBoundsException" ["java/lang/IndexOutOfBoundsException", "java/lang/RuntimeException", "java/lang/Exception"]).filter goodWord)
def wsJx00060_init_a7421 : List Cond := .code yJx00060_init_a7421 cJx00060_init_a7421 2 none :: ([])
def wsL_history_r1 : List Cond := [Cond.classLink RL 13 "java/lang/ArrayIndexOutOfBoundsException", Cond.methodLink RL 7 yX4_history, Cond.instanceMethod yX4_history, Cond.selects RX4 yX4_history yX4_history, Cond.initialized RX4, Cond.code yX4_history cX4_history 3 (some .int), Cond.fieldLink RX4 26 "ResampledRows" "run" "LResampledRows$Run;", Cond.constant RX4 84 (-1000003), Cond.constant RX4 34 (-1000001), Cond.classLink RX4 140 RJx00060, Cond.instantiable RJx00060 6, Cond.initialized RJx00060, Cond.fieldLink RX4 147 "ResampledRows$Run" "histories" "[[I", Cond.methodLink RX4 80 yX2_isBegun, Cond.instanceMethod yX2_isBegun, Cond.selects RX2 yX2_isBegun yX2_isBegun, Cond.initialized RX2, Cond.code yX2_isBegun cX2_isBegun 1 (some .boolean), Cond.fieldLink RX2 51 "ResampledRows$Run" "n" "I", Cond.methodLink RX4 86 yX2_hasRow, Cond.instanceMethod yX2_hasRow, Cond.selects RX2 yX2_hasRow yX2_hasRow, Cond.code yX2_hasRow cX2_hasRow 2 (some .boolean), Cond.methodLink RX4 137 yX2_hasPlace]
def wsL_history_r2 : List Cond := [Cond.instanceMethod yX2_hasPlace, Cond.selects RX2 yX2_hasPlace yX2_hasPlace, Cond.code yX2_hasPlace cX2_hasPlace 2 (some .boolean), Cond.methodLink RX2 57 yX2_places, Cond.instanceMethod yX2_places, Cond.selects RX2 yX2_places yX2_places, Cond.code yX2_places cX2_places 1 (some .int), Cond.fieldLink RX2 54 "ResampledRows$Run" "steps" "I"]
def wsL_history : List Cond := .codeWith yL_history cL_history 5 (some .int) [(0, 10, 13, 13)] :: ((wsL_history_r1 ++ wsL_history_r2) ++ wsX40 ++ wsJx000600 ++ wsX20 ++ (vx_atM "java/lang/ArrayIndexOutOfBoundsException" ["java/lang/IndexOutOfBoundsException", "java/lang/RuntimeException", "java/lang/Exception"]).filter goodWord)
def wsL_law0_r1 : List Cond := [Cond.classLink RL 8 RX4, Cond.instantiable RX4 3, Cond.initialized RX4, Cond.classLink RL 16 RX5, Cond.instantiable RX5 23, Cond.initialized RX5, Cond.arrayClass .long, Cond.constantLong RL 41 (4294967295), Cond.methodLink RL 15 yX4_init, Cond.instanceMethod yX4_init, Cond.code yX4_init cX4_init 1 none, Cond.methodLink RX4 1 objectInit, Cond.instanceMethod objectInit, Cond.code objectInit ⟨#[0xb1]⟩ 1 none, Cond.classLink RX4 7 RX3, Cond.instantiable RX3 4, Cond.initialized RX3, Cond.fieldLink RX4 10 "ResampledRows" "tables" "LResampledRows$Tables;", Cond.classLink RX4 16 RX0, Cond.instantiable RX0 4, Cond.initialized RX0, Cond.fieldLink RX4 19 "ResampledRows" "draws" "LResampledRows$Draws;", Cond.classLink RX4 23 RX2, Cond.instantiable RX2 13]
def wsL_law0_r2 : List Cond := [Cond.initialized RX2, Cond.fieldLink RX4 26 "ResampledRows" "run" "LResampledRows$Run;", Cond.methodLink RX4 9 yX3_init, Cond.instanceMethod yX3_init, Cond.code yX3_init cX3_init 1 none, Cond.methodLink RX3 3 objectInit, Cond.arrayClass .int, Cond.fieldLink RX3 9 "ResampledRows$Tables" "starts" "[I", Cond.classLink RX3 15 "[[I", Cond.fieldLink RX3 17 "ResampledRows$Tables" "moves" "[[I", Cond.fieldLink RX3 20 "ResampledRows$Tables" "sights" "[[I", Cond.fieldLink RX3 23 "ResampledRows$Tables" "names" "[I", Cond.methodLink RX3 26 yX3_setAsAtFirst, Cond.instanceMethod yX3_setAsAtFirst, Cond.selects RX3 yX3_setAsAtFirst yX3_setAsAtFirst, Cond.code yX3_setAsAtFirst cX3_setAsAtFirst 2 none, Cond.methodLink RX3 29 yJ7_fill_53178, Cond.static yJ7_fill_53178, Cond.initialized RJ7, Cond.code yJ7_fill_53178 cJ7_fill_53178 4 none, Cond.instanceMethod yX0_init, Cond.code yX0_init cX0_init 1 none, Cond.methodLink RX0 3 objectInit, Cond.fieldLink RX0 9 "ResampledRows$Draws" "forced" "[I"]
def wsL_law0_r3 : List Cond := [Cond.instanceMethod yX2_init, Cond.code yX2_init cX2_init 1 none, Cond.methodLink RX2 3 objectInit, Cond.classLink RX2 9 RX1, Cond.instantiable RX1 2, Cond.initialized RX1, Cond.fieldLink RX2 12 "ResampledRows$Run" "picks" "LResampledRows$Picks;", Cond.fieldLink RX2 18 "ResampledRows$Run" "origins" "[I", Cond.constant RX2 22 (-1000009), Cond.fieldLink RX2 23 "ResampledRows$Run" "kept" "I", Cond.fieldLink RX2 27 "ResampledRows$Run" "multiplied" "D", Cond.fieldLink RX2 31 "ResampledRows$Run" "states" "[I", Cond.fieldLink RX2 34 "ResampledRows$Run" "weights" "[I", Cond.classLink RX2 37 "[[I", Cond.fieldLink RX2 39 "ResampledRows$Run" "histories" "[[I", Cond.fieldLink RX2 42 "ResampledRows$Run" "nextStates" "[I", Cond.fieldLink RX2 45 "ResampledRows$Run" "nextWeights" "[I", Cond.fieldLink RX2 48 "ResampledRows$Run" "nextHistories" "[[I", Cond.instanceMethod yX1_init, Cond.code yX1_init cX1_init 1 none, Cond.methodLink RX1 3 objectInit, Cond.fieldLink RX1 9 "ResampledRows$Picks" "times" "[I", Cond.fieldLink RX1 15 "ResampledRows$Picks" "rests" "[I", Cond.methodLink RL 18 yX5_init]
def wsL_law0_r4 : List Cond := [Cond.instanceMethod yX5_init, Cond.code yX5_init cX5_init 1 none, Cond.methodLink RX5 1 objectInit, Cond.fieldLink RX5 7 "ResampledRowsModel" "starts" "[I", Cond.fieldLink RX5 13 "ResampledRowsModel" "moves" "[I", Cond.fieldLink RX5 16 "ResampledRowsModel" "sights" "[I", Cond.fieldLink RX5 19 "ResampledRowsModel" "names" "[I", Cond.fieldLink RX5 22 "ResampledRowsModel" "forced" "[I", Cond.fieldLink RX5 25 "ResampledRowsModel" "states" "[I", Cond.fieldLink RX5 28 "ResampledRowsModel" "weights" "[J", Cond.fieldLink RX5 32 "ResampledRowsModel" "histories" "[I", Cond.fieldLink RX5 35 "ResampledRowsModel" "froms" "[I", Cond.fieldLink RX5 38 "ResampledRowsModel" "by" "[J", Cond.fieldLink RX5 41 "ResampledRowsModel" "drawn" "[I", Cond.fieldLink RX5 44 "ResampledRowsModel" "times" "[I", Cond.fieldLink RX5 47 "ResampledRowsModel" "oldStates" "[I", Cond.fieldLink RX5 50 "ResampledRowsModel" "oldHistories" "[I", Cond.methodLink RX5 53 yX5_beginAll, Cond.instanceMethod yX5_beginAll, Cond.selects RX5 yX5_beginAll yX5_beginAll, Cond.code yX5_beginAll cX5_beginAll 2 none, Cond.fieldLink RX5 60 "ResampledRowsModel" "forcedMany" "I", Cond.methodLink RX5 63 yX5_noRun, Cond.instanceMethod yX5_noRun]
def wsL_law0_r5 : List Cond := [Cond.selects RX5 yX5_noRun yX5_noRun, Cond.code yX5_noRun cX5_noRun 1 none, Cond.fieldLink RX5 66 "ResampledRowsModel" "rows" "I", Cond.fieldLink RX5 69 "ResampledRowsModel" "steps" "I", Cond.fieldLink RX5 72 "ResampledRowsModel" "anew" "I", Cond.constant RX5 75 (-1000009), Cond.fieldLink RX5 76 "ResampledRowsModel" "kept" "I", Cond.fieldLink RX5 79 "ResampledRowsModel" "hasFroms" "Z", Cond.methodLink RL 19 yX4_start, Cond.instanceMethod yX4_start, Cond.selects RX4 yX4_start yX4_start, Cond.code yX4_start cX4_start 3 (some .int), Cond.constant RX4 34 (-1000001), Cond.constant RX4 38 (-1000002), Cond.fieldLink RX4 39 "ResampledRows$Tables" "starts" "[I", Cond.methodLink RX4 30 yX4_isState, Cond.static yX4_isState, Cond.code yX4_isState cX4_isState 1 (some .boolean), Cond.methodLink RX4 35 yX4_isEntry, Cond.static yX4_isEntry, Cond.code yX4_isEntry cX4_isEntry 1 (some .boolean), Cond.methodLink RX4 43 yX4_exchange, Cond.static yX4_exchange, Cond.code yX4_exchange cX4_exchange 4 (some .int)]
def wsL_law0_r6 : List Cond := [Cond.methodLink RL 22 yX5_start, Cond.instanceMethod yX5_start, Cond.selects RX5 yX5_start yX5_start, Cond.code yX5_start cX5_start 4 (some .int), Cond.constant RX5 91 (-1000001), Cond.constant RX5 92 (-1000002), Cond.methodLink RX5 87 yX5_isState, Cond.static yX5_isState, Cond.code yX5_isState cX5_isState 1 (some .boolean), Cond.methodLink RX5 83 yX5_in, Cond.static yX5_in, Cond.code yX5_in cX5_in 3 (some .boolean), Cond.methodLink RL 23 yX4_move, Cond.instanceMethod yX4_move, Cond.selects RX4 yX4_move yX4_move, Cond.code yX4_move cX4_move 4 (some .int), Cond.fieldLink RX4 47 "ResampledRows$Tables" "moves" "[[I", Cond.methodLink RL 27 yX5_move, Cond.instanceMethod yX5_move, Cond.selects RX5 yX5_move yX5_move, Cond.code yX5_move cX5_move 5 (some .int), Cond.methodLink RL 28 yX4_seen, Cond.instanceMethod yX4_seen, Cond.selects RX4 yX4_seen yX4_seen]
def wsL_law0_r7 : List Cond := [Cond.code yX4_seen cX4_seen 4 (some .int), Cond.fieldLink RX4 54 "ResampledRows$Tables" "sights" "[[I", Cond.methodLink RX4 51 yX4_isSight, Cond.static yX4_isSight, Cond.code yX4_isSight cX4_isSight 1 (some .boolean), Cond.methodLink RL 31 yX5_seen, Cond.instanceMethod yX5_seen, Cond.selects RX5 yX5_seen yX5_seen, Cond.code yX5_seen cX5_seen 5 (some .int), Cond.methodLink RL 32 yX4_named, Cond.instanceMethod yX4_named, Cond.selects RX4 yX4_named yX4_named, Cond.code yX4_named cX4_named 3 (some .int), Cond.fieldLink RX4 60 "ResampledRows$Tables" "names" "[I", Cond.methodLink RX4 57 yX4_isName, Cond.static yX4_isName, Cond.code yX4_isName cX4_isName 1 (some .boolean), Cond.methodLink RL 35 yX5_named, Cond.instanceMethod yX5_named, Cond.selects RX5 yX5_named yX5_named, Cond.code yX5_named cX5_named 4 (some .int), Cond.methodLink RL 36 yX4_force, Cond.instanceMethod yX4_force, Cond.selects RX4 yX4_force yX4_force]
def wsL_law0_r8 : List Cond := [Cond.code yX4_force cX4_force 2 (some .int), Cond.fieldLink RX4 63 "ResampledRows$Draws" "left" "I", Cond.methodLink RX4 67 yX0_addForced, Cond.instanceMethod yX0_addForced, Cond.selects RX0 yX0_addForced yX0_addForced, Cond.code yX0_addForced cX0_addForced 2 none, Cond.fieldLink RX0 15 "ResampledRows$Draws" "first" "I", Cond.fieldLink RX0 19 "ResampledRows$Draws" "left" "I", Cond.methodLink RL 40 yX5_force, Cond.instanceMethod yX5_force, Cond.selects RX5 yX5_force yX5_force, Cond.code yX5_force cX5_force 2 (some .int), Cond.methodLink RL 43 yX4_begin, Cond.instanceMethod yX4_begin, Cond.selects RX4 yX4_begin yX4_begin, Cond.code yX4_begin cX4_begin 4 (some .int), Cond.constant RX4 71 (-1000010), Cond.fieldLink RX4 72 "ResampledRows$Draws" "x" "J", Cond.methodLink RX4 76 yX2_beginWith, Cond.instanceMethod yX2_beginWith, Cond.selects RX2 yX2_beginWith yX2_beginWith, Cond.code yX2_beginWith cX2_beginWith 6 (some .int), Cond.constant RX2 73 (-1000004), Cond.fieldLink RX2 51 "ResampledRows$Run" "n" "I"]
def wsL_law0_r9 : List Cond := [Cond.methodLink RX2 64 yX2_end, Cond.instanceMethod yX2_end, Cond.selects RX2 yX2_end yX2_end, Cond.code yX2_end cX2_end 1 none, Cond.fieldLink RX2 54 "ResampledRows$Run" "steps" "I", Cond.fieldLink RX2 61 "ResampledRows$Run" "timesAnew" "I", Cond.methodLink RX2 67 yX0_byWeights, Cond.instanceMethod yX0_byWeights, Cond.selects RX0 yX0_byWeights yX0_byWeights, Cond.code yX0_byWeights cX0_byWeights 5 (some .int), Cond.constant RX0 38 (-1000004), Cond.static yX4_sumOf, Cond.code yX4_sumOf cX4_sumOf 5 (some .long), Cond.methodLink RX0 39 yX0_below, Cond.instanceMethod yX0_below, Cond.selects RX0 yX0_below yX0_below, Cond.code yX0_below cX0_below 3 (some .long), Cond.methodLink RX0 26 yX0_next, Cond.instanceMethod yX0_next, Cond.selects RX0 yX0_next yX0_next, Cond.code yX0_next cX0_next 2 (some .long), Cond.fieldLink RX0 22 "ResampledRows$Draws" "x" "J", Cond.constantLong RX0 30 (6364136223846793005), Cond.constantLong RX0 32 (1442695040888963407)]
def wsL_law0_r10 : List Cond := [Cond.static yX4_firstAbove, Cond.code yX4_firstAbove cX4_firstAbove 9 (some .int), Cond.constant RX4 172 (-1000004), Cond.methodLink RL 47 yX5_begin, Cond.instanceMethod yX5_begin, Cond.selects RX5 yX5_begin yX5_begin, Cond.code yX5_begin cX5_begin 6 (some .int), Cond.constant RX5 109 (-1000010), Cond.fieldLink RX5 93 "ResampledRowsModel" "seed" "J", Cond.constant RX5 114 (-1000004), Cond.fieldLink RX5 115 "ResampledRowsModel" "product" "D", Cond.methodLink RX5 110 yX5_drawBy, Cond.instanceMethod yX5_drawBy, Cond.selects RX5 yX5_drawBy yX5_drawBy, Cond.code yX5_drawBy cX5_drawBy 9 (some .int), Cond.methodLink RX5 101 yX5_sumBy, Cond.instanceMethod yX5_sumBy, Cond.selects RX5 yX5_sumBy yX5_sumBy, Cond.code yX5_sumBy cX5_sumBy 5 (some .long), Cond.methodLink RX5 105 yX5_draw, Cond.instanceMethod yX5_draw, Cond.selects RX5 yX5_draw yX5_draw, Cond.code yX5_draw cX5_draw 6 (some .long), Cond.constantLong RX5 97 (6364136223846793005)]
def wsL_law0_r11 : List Cond := [Cond.constantLong RX5 99 (1442695040888963407), Cond.methodLink RL 48 yX4_keep, Cond.instanceMethod yX4_keep, Cond.selects RX4 yX4_keep yX4_keep, Cond.code yX4_keep cX4_keep 3 (some .int), Cond.constant RX4 84 (-1000003), Cond.constant RX4 85 (-1000009), Cond.fieldLink RX4 89 "ResampledRows$Run" "kept" "I", Cond.methodLink RX4 80 yX2_isBegun, Cond.instanceMethod yX2_isBegun, Cond.selects RX2 yX2_isBegun yX2_isBegun, Cond.code yX2_isBegun cX2_isBegun 1 (some .boolean), Cond.methodLink RX4 86 yX2_hasRow, Cond.instanceMethod yX2_hasRow, Cond.selects RX2 yX2_hasRow yX2_hasRow, Cond.code yX2_hasRow cX2_hasRow 2 (some .boolean), Cond.methodLink RL 51 yX5_keep, Cond.instanceMethod yX5_keep, Cond.selects RX5 yX5_keep yX5_keep, Cond.code yX5_keep cX5_keep 3 (some .int), Cond.constant RX5 119 (-1000003), Cond.methodLink RX5 120 yX5_isRow, Cond.instanceMethod yX5_isRow, Cond.selects RX5 yX5_isRow yX5_isRow]
def wsL_law0_r12 : List Cond := [Cond.code yX5_isRow cX5_isRow 2 (some .boolean), Cond.methodLink RL 52 yX4_step, Cond.instanceMethod yX4_step, Cond.selects RX4 yX4_step yX4_step, Cond.code yX4_step cX4_step 3 (some .int), Cond.fieldLink RX4 92 "ResampledRows$Run" "steps" "I", Cond.methodLink RX4 95 yX2_standsAt, Cond.instanceMethod yX2_standsAt, Cond.selects RX2 yX2_standsAt yX2_standsAt, Cond.code yX2_standsAt cX2_standsAt 4 (some .boolean), Cond.methodLink RX4 99 yX2_goOn, Cond.instanceMethod yX2_goOn, Cond.selects RX2 yX2_goOn yX2_goOn, Cond.code yX2_goOn cX2_goOn 6 (some .int), Cond.constant RX2 74 (1000000), Cond.constant RX2 75 (-1000005), Cond.methodLink RX2 76 yX2_takeNextStatesAndWeights, Cond.instanceMethod yX2_takeNextStatesAndWeights, Cond.selects RX2 yX2_takeNextStatesAndWeights yX2_takeNextStatesAndWeights, Cond.code yX2_takeNextStatesAndWeights cX2_takeNextStatesAndWeights 3 none, Cond.methodLink RL 55 yX5_step, Cond.instanceMethod yX5_step, Cond.selects RX5 yX5_step yX5_step, Cond.code yX5_step cX5_step 6 (some .int)]
def wsL_law0_r13 : List Cond := [Cond.constantLong RX5 123 (1000000), Cond.constant RX5 125 (-1000005), Cond.methodLink RL 56 yX4_again, Cond.instanceMethod yX4_again, Cond.selects RX4 yX4_again yX4_again, Cond.code yX4_again cX4_again 2 (some .int), Cond.methodLink RX4 103 yX4_isWay, Cond.static yX4_isWay, Cond.code yX4_isWay cX4_isWay 1 (some .boolean), Cond.methodLink RX4 106 yX2_drawAnew, Cond.instanceMethod yX2_drawAnew, Cond.selects RX2 yX2_drawAnew yX2_drawAnew, Cond.code yX2_drawAnew cX2_drawAnew 3 (some .int), Cond.methodLink RX2 87 yX2_total, Cond.instanceMethod yX2_total, Cond.selects RX2 yX2_total yX2_total, Cond.code yX2_total cX2_total 1 (some .long), Cond.methodLink RX2 92 yX2_evidenceSoFar, Cond.instanceMethod yX2_evidenceSoFar, Cond.selects RX2 yX2_evidenceSoFar yX2_evidenceSoFar, Cond.code yX2_evidenceSoFar cX2_evidenceSoFar 1 (some .double), Cond.methodLink RX2 96 yX1_pick, Cond.instanceMethod yX1_pick, Cond.selects RX1 yX1_pick yX1_pick]
def wsL_law0_r14 : List Cond := [Cond.code yX1_pick cX1_pick 4 none, Cond.fieldLink RX1 37 "ResampledRows$Run" "kept" "I", Cond.fieldLink RX1 43 "ResampledRows$Run" "n" "I", Cond.methodLink RX1 18 yJ7_fill_53178, Cond.methodLink RX1 24 yX1_pickEachByWeights, Cond.instanceMethod yX1_pickEachByWeights, Cond.selects RX1 yX1_pickEachByWeights yX1_pickEachByWeights, Cond.code yX1_pickEachByWeights cX1_pickEachByWeights 4 none, Cond.fieldLink RX1 59 "ResampledRows$Run" "weights" "[I", Cond.methodLink RX1 55 yX1_firstPickBehindKept, Cond.instanceMethod yX1_firstPickBehindKept, Cond.selects RX1 yX1_firstPickBehindKept yX1_firstPickBehindKept, Cond.code yX1_firstPickBehindKept cX1_firstPickBehindKept 2 (some .int), Cond.constant RX1 50 (-1000009), Cond.methodLink RX1 51 yX1_add, Cond.instanceMethod yX1_add, Cond.selects RX1 yX1_add yX1_add, Cond.code yX1_add cX1_add 2 none, Cond.methodLink RX1 62 yX0_byWeights, Cond.methodLink RX1 28 yX1_pickWithDrawsOfTheirOwn, Cond.instanceMethod yX1_pickWithDrawsOfTheirOwn, Cond.selects RX1 yX1_pickWithDrawsOfTheirOwn yX1_pickWithDrawsOfTheirOwn, Cond.code yX1_pickWithDrawsOfTheirOwn cX1_pickWithDrawsOfTheirOwn 6 none, Cond.methodLink RX1 68 yX2_total]
def wsL_law0_r15 : List Cond := [Cond.methodLink RX1 72 yX0_below, Cond.methodLink RX1 31 yX1_pickWithOneDraw, Cond.instanceMethod yX1_pickWithOneDraw, Cond.selects RX1 yX1_pickWithOneDraw yX1_pickWithOneDraw, Cond.code yX1_pickWithOneDraw cX1_pickWithOneDraw 8 none, Cond.methodLink RX1 34 yX1_pickByPartsAndRests, Cond.instanceMethod yX1_pickByPartsAndRests, Cond.selects RX1 yX1_pickByPartsAndRests yX1_pickByPartsAndRests, Cond.code yX1_pickByPartsAndRests cX1_pickByPartsAndRests 9 none, Cond.methodLink RX1 46 yX1_putIn, Cond.instanceMethod yX1_putIn, Cond.selects RX1 yX1_putIn yX1_putIn, Cond.code yX1_putIn cX1_putIn 4 none, Cond.methodLink RX2 100 yX1_putInOrder, Cond.instanceMethod yX1_putInOrder, Cond.selects RX1 yX1_putInOrder yX1_putInOrder, Cond.code yX1_putInOrder cX1_putInOrder 6 none, Cond.methodLink RX2 104 yX2_becomePicked, Cond.instanceMethod yX2_becomePicked, Cond.selects RX2 yX2_becomePicked yX2_becomePicked, Cond.code yX2_becomePicked cX2_becomePicked 3 none, Cond.methodLink RX2 114 arraycopyName, Cond.native arraycopyName, Cond.static arraycopyName]
def wsL_law0_r16 : List Cond := [Cond.initialized "java/lang/System", Cond.methodLink RX2 57 yX2_places, Cond.instanceMethod yX2_places, Cond.selects RX2 yX2_places yX2_places, Cond.code yX2_places cX2_places 1 (some .int), Cond.methodLink RX2 107 yX2_firstThatWas, Cond.instanceMethod yX2_firstThatWas, Cond.selects RX2 yX2_firstThatWas yX2_firstThatWas, Cond.code yX2_firstThatWas cX2_firstThatWas 3 (some .int), Cond.methodLink RX2 111 yX1_unlike, Cond.instanceMethod yX1_unlike, Cond.selects RX1 yX1_unlike yX1_unlike, Cond.code yX1_unlike cX1_unlike 4 (some .int), Cond.methodLink RL 59 yX5_again, Cond.instanceMethod yX5_again, Cond.selects RX5 yX5_again yX5_again, Cond.code yX5_again cX5_again 2 (some .int), Cond.methodLink RX5 146 yX5_drawAnew, Cond.instanceMethod yX5_drawAnew, Cond.selects RX5 yX5_drawAnew yX5_drawAnew, Cond.code yX5_drawAnew cX5_drawAnew 10 (some .int), Cond.methodLink RX5 134 yX5_total, Cond.instanceMethod yX5_total, Cond.selects RX5 yX5_total yX5_total]
def wsL_law0_r17 : List Cond := [Cond.code yX5_total cX5_total 4 (some .long), Cond.methodLink RX5 138 yX5_pickBy, Cond.instanceMethod yX5_pickBy, Cond.selects RX5 yX5_pickBy yX5_pickBy, Cond.code yX5_pickBy cX5_pickBy 8 none, Cond.methodLink RX5 126 yX5_pick, Cond.instanceMethod yX5_pick, Cond.selects RX5 yX5_pick yX5_pick, Cond.code yX5_pick cX5_pick 2 none, Cond.methodLink RX5 130 yX5_rowAt, Cond.instanceMethod yX5_rowAt, Cond.selects RX5 yX5_rowAt yX5_rowAt, Cond.code yX5_rowAt cX5_rowAt 6 (some .int), Cond.methodLink RX5 142 yX5_pickWhole, Cond.instanceMethod yX5_pickWhole, Cond.selects RX5 yX5_pickWhole yX5_pickWhole, Cond.code yX5_pickWhole cX5_pickWhole 6 none, Cond.methodLink RL 60 yX4_rule, Cond.instanceMethod yX4_rule, Cond.selects RX4 yX4_rule yX4_rule, Cond.code yX4_rule cX4_rule 3 (some .int), Cond.methodLink RX4 110 yX2_total, Cond.methodLink RX4 114 yX2_isEffectiveBelow, Cond.instanceMethod yX2_isEffectiveBelow]
def wsL_law0_r18 : List Cond := [Cond.selects RX2 yX2_isEffectiveBelow yX2_isEffectiveBelow, Cond.code yX2_isEffectiveBelow cX2_isEffectiveBelow 2 (some .boolean), Cond.constantLong RX2 90 (100), Cond.methodLink RX2 83 yX2_squares, Cond.instanceMethod yX2_squares, Cond.selects RX2 yX2_squares yX2_squares, Cond.code yX2_squares cX2_squares 4 (some .long), Cond.methodLink RL 63 yX5_rule, Cond.instanceMethod yX5_rule, Cond.selects RX5 yX5_rule yX5_rule, Cond.code yX5_rule cX5_rule 5 (some .int), Cond.constantLong RX5 149 (100), Cond.methodLink RX5 151 yX5_squares, Cond.instanceMethod yX5_squares, Cond.selects RX5 yX5_squares yX5_squares, Cond.code yX5_squares cX5_squares 4 (some .long), Cond.methodLink RL 64 yX4_from, Cond.instanceMethod yX4_from, Cond.selects RX4 yX4_from yX4_from, Cond.code yX4_from cX4_from 2 (some .int), Cond.fieldLink RX4 117 "ResampledRows$Run" "timesAnew" "I", Cond.fieldLink RX4 120 "ResampledRows$Run" "origins" "[I", Cond.methodLink RL 67 yX5_from, Cond.instanceMethod yX5_from]
def wsL_law0_r19 : List Cond := [Cond.selects RX5 yX5_from yX5_from, Cond.code yX5_from cX5_from 2 (some .int), Cond.methodLink RL 68 yX4_row, Cond.instanceMethod yX4_row, Cond.selects RX4 yX4_row yX4_row, Cond.code yX4_row cX4_row 3 (some .int), Cond.fieldLink RX4 123 "ResampledRows$Run" "states" "[I", Cond.methodLink RX4 126 yX2_places, Cond.methodLink RL 71 yX5_row, Cond.instanceMethod yX5_row, Cond.selects RX5 yX5_row yX5_row, Cond.code yX5_row cX5_row 3 (some .int), Cond.methodLink RL 72 yX4_weight, Cond.instanceMethod yX4_weight, Cond.selects RX4 yX4_weight yX4_weight, Cond.code yX4_weight cX4_weight 2 (some .long), Cond.constantLong RX4 130 (-1000003), Cond.constantLong RX4 132 (-1000001), Cond.fieldLink RX4 134 "ResampledRows$Run" "weights" "[I", Cond.methodLink RL 76 yX5_weight, Cond.instanceMethod yX5_weight, Cond.selects RX5 yX5_weight yX5_weight, Cond.code yX5_weight cX5_weight 2 (some .long), Cond.constantLong RX5 154 (-1000003)]
def wsL_law0_r20 : List Cond := [Cond.constantLong RX5 156 (-1000001), Cond.methodLink RL 77 yL_history, Cond.static yL_history, Cond.initialized RL, Cond.codeWith yL_history cL_history 5 (some .int) [(0, 10, 13, 13)], Cond.classLink RL 13 "java/lang/ArrayIndexOutOfBoundsException", Cond.methodLink RL 7 yX4_history, Cond.instanceMethod yX4_history, Cond.selects RX4 yX4_history yX4_history, Cond.code yX4_history cX4_history 3 (some .int), Cond.classLink RX4 140 RJx00060, Cond.instantiable RJx00060 6, Cond.initialized RJx00060, Cond.fieldLink RX4 147 "ResampledRows$Run" "histories" "[[I", Cond.methodLink RX4 137 yX2_hasPlace, Cond.instanceMethod yX2_hasPlace, Cond.selects RX2 yX2_hasPlace yX2_hasPlace, Cond.code yX2_hasPlace cX2_hasPlace 2 (some .boolean), Cond.methodLink RL 82 yX5_history, Cond.instanceMethod yX5_history, Cond.selects RX5 yX5_history yX5_history, Cond.code yX5_history cX5_history 3 (some .int), Cond.fieldLink RX5 56 "ResampledRowsModel" "thrownNow" "I", Cond.methodLink RL 83 yX5_thrown]
def wsL_law0_r21 : List Cond := [Cond.instanceMethod yX5_thrown, Cond.selects RX5 yX5_thrown yX5_thrown, Cond.code yX5_thrown cX5_thrown 1 (some .int), Cond.methodLink RL 87 yX4_write, Cond.instanceMethod yX4_write, Cond.selects RX4 yX4_write yX4_write, Cond.code yX4_write cX4_write 4 (some .int), Cond.methodLink RL 90 yX5_write, Cond.instanceMethod yX5_write, Cond.selects RX5 yX5_write yX5_write, Cond.code yX5_write cX5_write 4 (some .int), Cond.methodLink RL 91 yX4_told, Cond.instanceMethod yX4_told, Cond.selects RX4 yX4_told yX4_told, Cond.code yX4_told cX4_told 2 (some .long), Cond.constantLong RX4 156 (-1000002), Cond.methodLink RX4 150 yX2_squares, Cond.methodLink RX4 153 yX2_effective, Cond.instanceMethod yX2_effective, Cond.selects RX2 yX2_effective yX2_effective, Cond.code yX2_effective cX2_effective 3 (some .long), Cond.methodLink RL 94 yX5_told, Cond.instanceMethod yX5_told, Cond.selects RX5 yX5_told yX5_told]
def wsL_law0_r22 : List Cond := [Cond.code yX5_told cX5_told 6 (some .long), Cond.constantLong RX5 158 (-1000002), Cond.methodLink RL 95 yX4_evidence, Cond.instanceMethod yX4_evidence, Cond.selects RX4 yX4_evidence yX4_evidence, Cond.code yX4_evidence cX4_evidence 1 (some .double), Cond.methodLink RX4 158 yX2_evidenceSoFar, Cond.methodLink RL 99 yX5_evidence, Cond.instanceMethod yX5_evidence, Cond.selects RX5 yX5_evidence yX5_evidence, Cond.code yX5_evidence cX5_evidence 1 (some .double), Cond.methodLink RL 100 yX4_count, Cond.instanceMethod yX4_count, Cond.selects RX4 yX4_count yX4_count, Cond.code yX4_count cX4_count 2 (some .int), Cond.fieldLink RX4 162 "ResampledRows$Run" "n" "I", Cond.methodLink RL 103 yX5_count, Cond.instanceMethod yX5_count, Cond.selects RX5 yX5_count yX5_count, Cond.code yX5_count cX5_count 2 (some .int), Cond.methodLink RL 104 yX4_clear, Cond.instanceMethod yX4_clear, Cond.selects RX4 yX4_clear yX4_clear, Cond.code yX4_clear cX4_clear 2 (some .int)]
def wsL_law0_r23 : List Cond := [Cond.methodLink RX4 165 yX3_setAsAtFirst, Cond.methodLink RX4 168 yX0_setAsAtFirst, Cond.instanceMethod yX0_setAsAtFirst, Cond.selects RX0 yX0_setAsAtFirst yX0_setAsAtFirst, Cond.code yX0_setAsAtFirst cX0_setAsAtFirst 1 none, Cond.methodLink RX4 169 yX2_end, Cond.methodLink RL 107 yX5_clear, Cond.instanceMethod yX5_clear, Cond.selects RX5 yX5_clear yX5_clear, Cond.code yX5_clear cX5_clear 2 (some .int)]
def wsL_law0 : List Cond := (wsL_law0_r1 ++ (wsL_law0_r2 ++ (wsL_law0_r3 ++ (wsL_law0_r4 ++ (wsL_law0_r5 ++ (wsL_law0_r6 ++ (wsL_law0_r7 ++ (wsL_law0_r8 ++ (wsL_law0_r9 ++ (wsL_law0_r10 ++ (wsL_law0_r11 ++ (wsL_law0_r12 ++ (wsL_law0_r13 ++ (wsL_law0_r14 ++ (wsL_law0_r15 ++ (wsL_law0_r16 ++ (wsL_law0_r17 ++ (wsL_law0_r18 ++ (wsL_law0_r19 ++ (wsL_law0_r20 ++ (wsL_law0_r21 ++ (wsL_law0_r22 ++ wsL_law0_r23)))))))))))))))))))))) ++ wsX40 ++ wsX50 ++ wsX30 ++ wsX00 ++ wsX20 ++ wsX10 ++ wsJx000600 ++ ([] : List Cond)
def wsL_law : List Cond := wsL_law0 ++ (vx_atM "java/lang/ArrayIndexOutOfBoundsException" ["java/lang/IndexOutOfBoundsException", "java/lang/RuntimeException", "java/lang/Exception"]).filter goodWord
abbrev vwCl : List vw_C := [(RJ0, TJ0, 2), (RJx00060, TJx00060, 6), (RX0, TX0, 4), (RX1, TX1, 2), (RX2, TX2, 13), (RX3, TX3, 4), (RX4, TX4, 3), (RX5, TX5, 23)]
end
section
theorem dX0_init_0 : decode cX0_init 0 = .ok (.aload_n 0, 1) := by decide +kernel
theorem dX0_init_1 : decode cX0_init 1 = .ok (.invokespecial 3, 3) := by decide +kernel
theorem dX0_init_4 : decode cX0_init 4 = .ok (.aload_n 0, 1) := by decide +kernel
theorem dX0_init_5 : decode cX0_init 5 = .ok (.bipush 64, 2) := by decide +kernel
theorem dX0_init_7 : decode cX0_init 7 = .ok (.newarray .int, 2) := by decide +kernel
theorem dX0_init_9 : decode cX0_init 9 = .ok (.putfield 9, 3) := by decide +kernel
theorem dX0_init_12 : decode cX0_init 12 = .ok (.return_, 1) := by decide +kernel
theorem dX0_setAsAtFirst_0 : decode cX0_setAsAtFirst 0 = .ok (.aload_n 0, 1) := by decide +kernel
theorem dX0_setAsAtFirst_1 : decode cX0_setAsAtFirst 1 = .ok (.iconst 0, 1) := by decide +kernel
theorem dX0_setAsAtFirst_2 : decode cX0_setAsAtFirst 2 = .ok (.putfield 15, 3) := by decide +kernel
theorem dX0_setAsAtFirst_5 : decode cX0_setAsAtFirst 5 = .ok (.aload_n 0, 1) := by decide +kernel
theorem dX0_setAsAtFirst_6 : decode cX0_setAsAtFirst 6 = .ok (.iconst 0, 1) := by decide +kernel
theorem dX0_setAsAtFirst_7 : decode cX0_setAsAtFirst 7 = .ok (.putfield 19, 3) := by decide +kernel
theorem dX0_setAsAtFirst_10 : decode cX0_setAsAtFirst 10 = .ok (.aload_n 0, 1) := by decide +kernel
theorem dX0_setAsAtFirst_11 : decode cX0_setAsAtFirst 11 = .ok (.lconst 0, 1) := by decide +kernel
theorem dX0_setAsAtFirst_12 : decode cX0_setAsAtFirst 12 = .ok (.putfield 22, 3) := by decide +kernel
theorem dX0_setAsAtFirst_15 : decode cX0_setAsAtFirst 15 = .ok (.return_, 1) := by decide +kernel
theorem dX0_addForced_0 : decode cX0_addForced 0 = .ok (.aload_n 0, 1) := by decide +kernel
theorem dX0_addForced_1 : decode cX0_addForced 1 = .ok (.getfield 9, 3) := by decide +kernel
theorem dX0_addForced_4 : decode cX0_addForced 4 = .ok (.aload_n 0, 1) := by decide +kernel
theorem dX0_addForced_5 : decode cX0_addForced 5 = .ok (.getfield 15, 3) := by decide +kernel
theorem dX0_addForced_8 : decode cX0_addForced 8 = .ok (.aload_n 0, 1) := by decide +kernel
theorem dX0_addForced_9 : decode cX0_addForced 9 = .ok (.getfield 19, 3) := by decide +kernel
theorem dX0_addForced_12 : decode cX0_addForced 12 = .ok (.iadd, 1) := by decide +kernel
theorem dX0_addForced_13 : decode cX0_addForced 13 = .ok (.bipush 64, 2) := by decide +kernel
theorem dX0_addForced_15 : decode cX0_addForced 15 = .ok (.irem, 1) := by decide +kernel
theorem dX0_addForced_16 : decode cX0_addForced 16 = .ok (.iload_n 1, 1) := by decide +kernel
theorem dX0_addForced_17 : decode cX0_addForced 17 = .ok (.iastore, 1) := by decide +kernel
theorem dX0_addForced_18 : decode cX0_addForced 18 = .ok (.aload_n 0, 1) := by decide +kernel
theorem dX0_addForced_19 : decode cX0_addForced 19 = .ok (.dup, 1) := by decide +kernel
theorem dX0_addForced_20 : decode cX0_addForced 20 = .ok (.getfield 19, 3) := by decide +kernel
theorem dX0_addForced_23 : decode cX0_addForced 23 = .ok (.iconst 1, 1) := by decide +kernel
theorem dX0_addForced_24 : decode cX0_addForced 24 = .ok (.iadd, 1) := by decide +kernel
theorem dX0_addForced_25 : decode cX0_addForced 25 = .ok (.putfield 19, 3) := by decide +kernel
theorem dX0_addForced_28 : decode cX0_addForced 28 = .ok (.return_, 1) := by decide +kernel
set_option maxRecDepth 20000 in
theorem ggX0_below_X0_next : GoodIn wsX0_below wsX0_next := goodIn_ca (goodIn_r _ [5, 6, 7, 8, 9, 10, 11, 12, 13, 14, 15] (by decide +kernel) (by decide +kernel)) (goodIn_sub (fun _ h => List.mem_cons_of_mem _ (List.mem_append_right _ h)) (by decide +kernel))
set_option maxRecDepth 20000 in
theorem gX0_below_X0_next : GoodIn wsX0_below (wsV RX0 26 RX0 yX0_next wsX0_next) := goodIn_app (goodIn_of _ (by decide +kernel)) ggX0_below_X0_next
theorem dX0_below_0 : decode cX0_below 0 = .ok (.lload_n 1, 1) := by decide +kernel
theorem dX0_below_1 : decode cX0_below 1 = .ok (.lconst 0, 1) := by decide +kernel
theorem dX0_below_2 : decode cX0_below 2 = .ok (.lcmp, 1) := by decide +kernel
theorem dX0_below_3 : decode cX0_below 3 = .ok (.ifCond .le 12, 3) := by decide +kernel
theorem dX0_below_6 : decode cX0_below 6 = .ok (.aload_n 0, 1) := by decide +kernel
theorem dX0_below_7 : decode cX0_below 7 = .ok (.invokevirtual 26, 3) := by decide +kernel
theorem dX0_below_10 : decode cX0_below 10 = .ok (.lload_n 1, 1) := by decide +kernel
theorem dX0_below_11 : decode cX0_below 11 = .ok (.lrem, 1) := by decide +kernel
theorem dX0_below_12 : decode cX0_below 12 = .ok (.goto 4, 3) := by decide +kernel
theorem dX0_below_15 : decode cX0_below 15 = .ok (.lconst 0, 1) := by decide +kernel
theorem dX0_below_16 : decode cX0_below 16 = .ok (.lreturn, 1) := by decide +kernel
theorem dX0_next_0 : decode cX0_next 0 = .ok (.aload_n 0, 1) := by decide +kernel
theorem dX0_next_1 : decode cX0_next 1 = .ok (.getfield 19, 3) := by decide +kernel
theorem dX0_next_4 : decode cX0_next 4 = .ok (.ifCond .le 39, 3) := by decide +kernel
theorem dX0_next_7 : decode cX0_next 7 = .ok (.aload_n 0, 1) := by decide +kernel
theorem dX0_next_8 : decode cX0_next 8 = .ok (.getfield 9, 3) := by decide +kernel
theorem dX0_next_11 : decode cX0_next 11 = .ok (.aload_n 0, 1) := by decide +kernel
theorem dX0_next_12 : decode cX0_next 12 = .ok (.getfield 15, 3) := by decide +kernel
theorem dX0_next_15 : decode cX0_next 15 = .ok (.iaload, 1) := by decide +kernel
theorem dX0_next_16 : decode cX0_next 16 = .ok (.istore_n 1, 1) := by decide +kernel
theorem dX0_next_17 : decode cX0_next 17 = .ok (.aload_n 0, 1) := by decide +kernel
theorem dX0_next_18 : decode cX0_next 18 = .ok (.aload_n 0, 1) := by decide +kernel
theorem dX0_next_19 : decode cX0_next 19 = .ok (.getfield 15, 3) := by decide +kernel
theorem dX0_next_22 : decode cX0_next 22 = .ok (.iconst 1, 1) := by decide +kernel
theorem dX0_next_23 : decode cX0_next 23 = .ok (.iadd, 1) := by decide +kernel
theorem dX0_next_24 : decode cX0_next 24 = .ok (.bipush 64, 2) := by decide +kernel
theorem dX0_next_26 : decode cX0_next 26 = .ok (.irem, 1) := by decide +kernel
theorem dX0_next_27 : decode cX0_next 27 = .ok (.putfield 15, 3) := by decide +kernel
theorem dX0_next_30 : decode cX0_next 30 = .ok (.aload_n 0, 1) := by decide +kernel
theorem dX0_next_31 : decode cX0_next 31 = .ok (.dup, 1) := by decide +kernel
theorem dX0_next_32 : decode cX0_next 32 = .ok (.getfield 19, 3) := by decide +kernel
theorem dX0_next_35 : decode cX0_next 35 = .ok (.iconst 1, 1) := by decide +kernel
theorem dX0_next_36 : decode cX0_next 36 = .ok (.isub, 1) := by decide +kernel
theorem dX0_next_37 : decode cX0_next 37 = .ok (.putfield 19, 3) := by decide +kernel
theorem dX0_next_40 : decode cX0_next 40 = .ok (.iload_n 1, 1) := by decide +kernel
theorem dX0_next_41 : decode cX0_next 41 = .ok (.i2l, 1) := by decide +kernel
theorem dX0_next_42 : decode cX0_next 42 = .ok (.lreturn, 1) := by decide +kernel
theorem dX0_next_43 : decode cX0_next 43 = .ok (.aload_n 0, 1) := by decide +kernel
theorem dX0_next_44 : decode cX0_next 44 = .ok (.aload_n 0, 1) := by decide +kernel
theorem dX0_next_45 : decode cX0_next 45 = .ok (.getfield 22, 3) := by decide +kernel
theorem dX0_next_48 : decode cX0_next 48 = .ok (.ldc2_w 30, 3) := by decide +kernel
theorem dX0_next_51 : decode cX0_next 51 = .ok (.lmul, 1) := by decide +kernel
theorem dX0_next_52 : decode cX0_next 52 = .ok (.ldc2_w 32, 3) := by decide +kernel
theorem dX0_next_55 : decode cX0_next 55 = .ok (.ladd, 1) := by decide +kernel
theorem dX0_next_56 : decode cX0_next 56 = .ok (.putfield 22, 3) := by decide +kernel
theorem dX0_next_59 : decode cX0_next 59 = .ok (.aload_n 0, 1) := by decide +kernel
theorem dX0_next_60 : decode cX0_next 60 = .ok (.getfield 22, 3) := by decide +kernel
theorem dX0_next_63 : decode cX0_next 63 = .ok (.bipush 33, 2) := by decide +kernel
theorem dX0_next_65 : decode cX0_next 65 = .ok (.lushr, 1) := by decide +kernel
theorem dX0_next_66 : decode cX0_next 66 = .ok (.lreturn, 1) := by decide +kernel
set_option maxRecDepth 20000 in
theorem ggX0_byWeights_X4_sumOf : GoodIn wsX0_byWeights wsX4_sumOf := goodIn_ca (goodIn_r _ [4] (by decide +kernel) (by decide +kernel)) (goodIn_sub (fun _ h => List.mem_cons_of_mem _ (List.mem_append_right _ h)) (by decide +kernel))
set_option maxRecDepth 20000 in
theorem gX0_byWeights_X4_sumOf_n34 : GoodIn wsX0_byWeights (wsX4_sumOf) := ggX0_byWeights_X4_sumOf
set_option maxRecDepth 20000 in
theorem ggX0_byWeights_X0_below : GoodIn wsX0_byWeights wsX0_below := goodIn_ca (goodIn_r _ [9, 10, 11, 12, 8, 13, 14, 15, 16, 17, 18, 19, 23, 24, 25, 26] (by decide +kernel) (by decide +kernel)) (goodIn_sub (fun _ h => List.mem_cons_of_mem _ (List.mem_append_right _ h)) (by decide +kernel))
set_option maxRecDepth 20000 in
theorem gX0_byWeights_X0_below : GoodIn wsX0_byWeights (wsV RX0 39 RX0 yX0_below wsX0_below) := goodIn_app (goodIn_of _ (by decide +kernel)) ggX0_byWeights_X0_below
set_option maxRecDepth 20000 in
theorem ggX0_byWeights_X4_firstAbove : GoodIn wsX0_byWeights wsX4_firstAbove := goodIn_ca (goodIn_r _ [21, 22] (by decide +kernel) (by decide +kernel)) (goodIn_sub (fun _ h => List.mem_cons_of_mem _ (List.mem_append_right _ h)) (by decide +kernel))
set_option maxRecDepth 20000 in
theorem gX0_byWeights_X4_firstAbove_n43 : GoodIn wsX0_byWeights (wsX4_firstAbove) := ggX0_byWeights_X4_firstAbove
theorem dX0_byWeights_0 : decode cX0_byWeights 0 = .ok (.aload_n 1, 1) := by decide +kernel
theorem dX0_byWeights_1 : decode cX0_byWeights 1 = .ok (.iload_n 2, 1) := by decide +kernel
theorem dX0_byWeights_2 : decode cX0_byWeights 2 = .ok (.invokestatic 34, 3) := by decide +kernel
theorem dX0_byWeights_5 : decode cX0_byWeights 5 = .ok (.lstore_n 3, 1) := by decide +kernel
theorem dX0_byWeights_6 : decode cX0_byWeights 6 = .ok (.lload_n 3, 1) := by decide +kernel
theorem dX0_byWeights_7 : decode cX0_byWeights 7 = .ok (.lconst 0, 1) := by decide +kernel
theorem dX0_byWeights_8 : decode cX0_byWeights 8 = .ok (.lcmp, 1) := by decide +kernel
theorem dX0_byWeights_9 : decode cX0_byWeights 9 = .ok (.ifCond .gt 6, 3) := by decide +kernel
theorem dX0_byWeights_12 : decode cX0_byWeights 12 = .ok (.ldc 38, 2) := by decide +kernel
theorem dX0_byWeights_14 : decode cX0_byWeights 14 = .ok (.ireturn, 1) := by decide +kernel
theorem dX0_byWeights_15 : decode cX0_byWeights 15 = .ok (.aload_n 0, 1) := by decide +kernel
theorem dX0_byWeights_16 : decode cX0_byWeights 16 = .ok (.lload_n 3, 1) := by decide +kernel
theorem dX0_byWeights_17 : decode cX0_byWeights 17 = .ok (.invokevirtual 39, 3) := by decide +kernel
theorem dX0_byWeights_20 : decode cX0_byWeights 20 = .ok (.lconst 1, 1) := by decide +kernel
theorem dX0_byWeights_21 : decode cX0_byWeights 21 = .ok (.aload_n 1, 1) := by decide +kernel
theorem dX0_byWeights_22 : decode cX0_byWeights 22 = .ok (.iload_n 2, 1) := by decide +kernel
theorem dX0_byWeights_23 : decode cX0_byWeights 23 = .ok (.invokestatic 43, 3) := by decide +kernel
theorem dX0_byWeights_26 : decode cX0_byWeights 26 = .ok (.ireturn, 1) := by decide +kernel
theorem dX1_init_0 : decode cX1_init 0 = .ok (.aload_n 0, 1) := by decide +kernel
theorem dX1_init_1 : decode cX1_init 1 = .ok (.invokespecial 3, 3) := by decide +kernel
theorem dX1_init_4 : decode cX1_init 4 = .ok (.aload_n 0, 1) := by decide +kernel
theorem dX1_init_5 : decode cX1_init 5 = .ok (.bipush 16, 2) := by decide +kernel
theorem dX1_init_7 : decode cX1_init 7 = .ok (.newarray .int, 2) := by decide +kernel
theorem dX1_init_9 : decode cX1_init 9 = .ok (.putfield 9, 3) := by decide +kernel
theorem dX1_init_12 : decode cX1_init 12 = .ok (.aload_n 0, 1) := by decide +kernel
theorem dX1_init_13 : decode cX1_init 13 = .ok (.bipush 16, 2) := by decide +kernel
theorem dX1_init_15 : decode cX1_init 15 = .ok (.newarray .int, 2) := by decide +kernel
theorem dX1_init_17 : decode cX1_init 17 = .ok (.putfield 15, 3) := by decide +kernel
theorem dX1_init_20 : decode cX1_init 20 = .ok (.return_, 1) := by decide +kernel
set_option maxRecDepth 20000 in
theorem ggX1_pick_J7_fill_53178 : GoodIn wsX1_pick wsJ7_fill_53178 := goodIn_r _ [7] (by decide +kernel) (by decide +kernel)
set_option maxRecDepth 20000 in
theorem gX1_pick_J7_fill_53178 : GoodIn wsX1_pick (va_wsS RX1 18 yJ7_fill_53178 wsJ7_fill_53178) := goodIn_app (goodIn_of _ (by decide +kernel)) ggX1_pick_J7_fill_53178
set_option maxRecDepth 20000 in
theorem ggX1_pick_X1_pickEachByWeights : GoodIn wsX1_pick wsX1_pickEachByWeights := goodIn_ca (goodIn_r _ [12, 3, 13, 14, 15, 16, 11, 17, 2, 18, 19, 20, 21, 22, 1, 23, 24, 25, 26, 27, 28, 29, 30, 31, 32, 33, 34, 35, 36, 37, 38, 39, 40, 41, 42, 43, 44, 45, 46, 47, 48, 76, 77, 78, 79, 80, 81, 82, 83, 84, 85, 86, 87, 88, 74, 75, 89, 90, 91, 92] (by decide +kernel) (by decide +kernel)) (goodIn_sub (fun _ h => List.mem_cons_of_mem _ (List.mem_append_right _ h)) (by decide +kernel))
set_option maxRecDepth 20000 in
theorem gX1_pick_X1_pickEachByWeights : GoodIn wsX1_pick (wsV RX1 24 RX1 yX1_pickEachByWeights wsX1_pickEachByWeights) := goodIn_app (goodIn_of _ (by decide +kernel)) ggX1_pick_X1_pickEachByWeights
set_option maxRecDepth 20000 in
theorem ggX1_pick_X1_pickWithDrawsOfTheirOwn : GoodIn wsX1_pick wsX1_pickWithDrawsOfTheirOwn := goodIn_ca (goodIn_r _ [52, 3, 13, 53, 54, 55, 56, 57, 58, 59, 29, 30, 31, 14, 15, 16, 11, 17, 2, 18, 19, 20, 21, 22, 1, 60, 33, 34, 26, 35, 36, 37, 38, 39, 40, 41, 42, 43, 44, 45, 46, 47, 48, 76, 77, 78, 79, 80, 81, 82, 83, 84, 85, 86, 87, 88, 74, 75, 89, 90, 91, 92] (by decide +kernel) (by decide +kernel)) (goodIn_sub (fun _ h => List.mem_cons_of_mem _ (List.mem_append_right _ h)) (by decide +kernel))
set_option maxRecDepth 20000 in
theorem gX1_pick_X1_pickWithDrawsOfTheirOwn : GoodIn wsX1_pick (wsV RX1 28 RX1 yX1_pickWithDrawsOfTheirOwn wsX1_pickWithDrawsOfTheirOwn) := goodIn_app (goodIn_of _ (by decide +kernel)) ggX1_pick_X1_pickWithDrawsOfTheirOwn
set_option maxRecDepth 20000 in
theorem ggX1_pick_X1_pickWithOneDraw : GoodIn wsX1_pick wsX1_pickWithOneDraw := goodIn_ca (goodIn_r _ [64, 3, 13, 53, 54, 55, 56, 57, 58, 59, 29, 30, 31, 60, 33, 34, 26, 35, 36, 37, 38, 39, 40, 41, 42, 43, 44, 45, 14, 15, 16, 11, 17, 2, 18, 19, 20, 21, 22, 1, 46, 47, 48, 76, 77, 78, 79, 80, 81, 82, 83, 84, 85, 86, 87, 88, 89, 90, 91, 92, 74, 75] (by decide +kernel) (by decide +kernel)) (goodIn_sub (fun _ h => List.mem_cons_of_mem _ (List.mem_append_right _ h)) (by decide +kernel))
set_option maxRecDepth 20000 in
theorem gX1_pick_X1_pickWithOneDraw : GoodIn wsX1_pick (wsV RX1 31 RX1 yX1_pickWithOneDraw wsX1_pickWithOneDraw) := goodIn_app (goodIn_of _ (by decide +kernel)) ggX1_pick_X1_pickWithOneDraw
set_option maxRecDepth 20000 in
theorem ggX1_pick_X1_pickByPartsAndRests : GoodIn wsX1_pick wsX1_pickByPartsAndRests := goodIn_ca (goodIn_r _ [68, 3, 13, 1, 69, 53, 54, 55, 56, 57, 58, 59, 29, 30, 31, 23, 24, 25, 26, 27, 28, 32, 33, 34, 35, 36, 37, 38, 39, 40, 41, 42, 43, 44, 45, 46, 47, 48, 19, 20, 21, 11, 22, 76, 77, 78, 79, 80, 81, 82, 83, 84, 85, 86, 87, 88, 74, 75, 89, 90, 91, 92] (by decide +kernel) (by decide +kernel)) (goodIn_sub (fun _ h => List.mem_cons_of_mem _ (List.mem_append_right _ h)) (by decide +kernel))
set_option maxRecDepth 20000 in
theorem gX1_pick_X1_pickByPartsAndRests : GoodIn wsX1_pick (wsV RX1 34 RX1 yX1_pickByPartsAndRests wsX1_pickByPartsAndRests) := goodIn_app (goodIn_of _ (by decide +kernel)) ggX1_pick_X1_pickByPartsAndRests
set_option maxRecDepth 20000 in
theorem ggX1_pick_X1_putIn : GoodIn wsX1_pick wsX1_putIn := goodIn_ca (goodIn_r _ [73, 1, 74, 75] (by decide +kernel) (by decide +kernel)) (goodIn_sub (fun _ h => List.mem_cons_of_mem _ (List.mem_append_right _ h)) (by decide +kernel))
set_option maxRecDepth 20000 in
theorem gX1_pick_X1_putIn : GoodIn wsX1_pick (wsV RX1 46 RX1 yX1_putIn wsX1_putIn) := goodIn_app (goodIn_of _ (by decide +kernel)) ggX1_pick_X1_putIn
theorem dX1_pick_0 : decode cX1_pick 0 = .ok (.aload_n 0, 1) := by decide +kernel
theorem dX1_pick_1 : decode cX1_pick 1 = .ok (.getfield 9, 3) := by decide +kernel
theorem dX1_pick_4 : decode cX1_pick 4 = .ok (.iconst 0, 1) := by decide +kernel
theorem dX1_pick_5 : decode cX1_pick 5 = .ok (.invokestatic 18, 3) := by decide +kernel
theorem dX1_pick_8 : decode cX1_pick 8 = .ok (.iload_n 1, 1) := by decide +kernel
theorem dX1_pick_9 : decode cX1_pick 9 = .ok (.tableswitch 54 0 2 #[27, 36, 45], 27) := by decide +kernel
theorem dX1_pick_36 : decode cX1_pick 36 = .ok (.aload_n 0, 1) := by decide +kernel
theorem dX1_pick_37 : decode cX1_pick 37 = .ok (.aload_n 2, 1) := by decide +kernel
theorem dX1_pick_38 : decode cX1_pick 38 = .ok (.aload_n 3, 1) := by decide +kernel
theorem dX1_pick_39 : decode cX1_pick 39 = .ok (.invokevirtual 24, 3) := by decide +kernel
theorem dX1_pick_42 : decode cX1_pick 42 = .ok (.goto 39, 3) := by decide +kernel
theorem dX1_pick_45 : decode cX1_pick 45 = .ok (.aload_n 0, 1) := by decide +kernel
theorem dX1_pick_46 : decode cX1_pick 46 = .ok (.aload_n 2, 1) := by decide +kernel
theorem dX1_pick_47 : decode cX1_pick 47 = .ok (.aload_n 3, 1) := by decide +kernel
theorem dX1_pick_48 : decode cX1_pick 48 = .ok (.invokevirtual 28, 3) := by decide +kernel
theorem dX1_pick_51 : decode cX1_pick 51 = .ok (.goto 30, 3) := by decide +kernel
theorem dX1_pick_54 : decode cX1_pick 54 = .ok (.aload_n 0, 1) := by decide +kernel
theorem dX1_pick_55 : decode cX1_pick 55 = .ok (.aload_n 2, 1) := by decide +kernel
theorem dX1_pick_56 : decode cX1_pick 56 = .ok (.aload_n 3, 1) := by decide +kernel
theorem dX1_pick_57 : decode cX1_pick 57 = .ok (.invokevirtual 31, 3) := by decide +kernel
theorem dX1_pick_60 : decode cX1_pick 60 = .ok (.goto 21, 3) := by decide +kernel
theorem dX1_pick_63 : decode cX1_pick 63 = .ok (.aload_n 0, 1) := by decide +kernel
theorem dX1_pick_64 : decode cX1_pick 64 = .ok (.aload_n 2, 1) := by decide +kernel
theorem dX1_pick_65 : decode cX1_pick 65 = .ok (.aload_n 3, 1) := by decide +kernel
theorem dX1_pick_66 : decode cX1_pick 66 = .ok (.invokevirtual 34, 3) := by decide +kernel
theorem dX1_pick_69 : decode cX1_pick 69 = .ok (.aload_n 0, 1) := by decide +kernel
theorem dX1_pick_70 : decode cX1_pick 70 = .ok (.aload_n 2, 1) := by decide +kernel
theorem dX1_pick_71 : decode cX1_pick 71 = .ok (.getfield 37, 3) := by decide +kernel
theorem dX1_pick_74 : decode cX1_pick 74 = .ok (.aload_n 2, 1) := by decide +kernel
theorem dX1_pick_75 : decode cX1_pick 75 = .ok (.getfield 43, 3) := by decide +kernel
theorem dX1_pick_78 : decode cX1_pick 78 = .ok (.invokevirtual 46, 3) := by decide +kernel
theorem dX1_pick_81 : decode cX1_pick 81 = .ok (.return_, 1) := by decide +kernel
theorem dX1_putInOrder_0 : decode cX1_putInOrder 0 = .ok (.iconst 0, 1) := by decide +kernel
theorem dX1_putInOrder_1 : decode cX1_putInOrder 1 = .ok (.istore_n 3, 1) := by decide +kernel
theorem dX1_putInOrder_2 : decode cX1_putInOrder 2 = .ok (.iconst 0, 1) := by decide +kernel
theorem dX1_putInOrder_3 : decode cX1_putInOrder 3 = .ok (.istore 4, 2) := by decide +kernel
theorem dX1_putInOrder_5 : decode cX1_putInOrder 5 = .ok (.iload 4, 2) := by decide +kernel
theorem dX1_putInOrder_7 : decode cX1_putInOrder 7 = .ok (.iload_n 2, 1) := by decide +kernel
theorem dX1_putInOrder_8 : decode cX1_putInOrder 8 = .ok (.if_icmp .ge 43, 3) := by decide +kernel
theorem dX1_putInOrder_11 : decode cX1_putInOrder 11 = .ok (.iconst 0, 1) := by decide +kernel
theorem dX1_putInOrder_12 : decode cX1_putInOrder 12 = .ok (.istore 5, 2) := by decide +kernel
theorem dX1_putInOrder_14 : decode cX1_putInOrder 14 = .ok (.iload 5, 2) := by decide +kernel
theorem dX1_putInOrder_16 : decode cX1_putInOrder 16 = .ok (.aload_n 0, 1) := by decide +kernel
theorem dX1_putInOrder_17 : decode cX1_putInOrder 17 = .ok (.getfield 9, 3) := by decide +kernel
theorem dX1_putInOrder_20 : decode cX1_putInOrder 20 = .ok (.iload 4, 2) := by decide +kernel
theorem dX1_putInOrder_22 : decode cX1_putInOrder 22 = .ok (.iaload, 1) := by decide +kernel
theorem dX1_putInOrder_23 : decode cX1_putInOrder 23 = .ok (.if_icmp .ge 22, 3) := by decide +kernel
theorem dX1_putInOrder_26 : decode cX1_putInOrder 26 = .ok (.iload_n 3, 1) := by decide +kernel
theorem dX1_putInOrder_27 : decode cX1_putInOrder 27 = .ok (.iload_n 2, 1) := by decide +kernel
theorem dX1_putInOrder_28 : decode cX1_putInOrder 28 = .ok (.if_icmp .ge 17, 3) := by decide +kernel
theorem dX1_putInOrder_31 : decode cX1_putInOrder 31 = .ok (.aload_n 1, 1) := by decide +kernel
theorem dX1_putInOrder_32 : decode cX1_putInOrder 32 = .ok (.iload_n 3, 1) := by decide +kernel
theorem dX1_putInOrder_33 : decode cX1_putInOrder 33 = .ok (.iload 4, 2) := by decide +kernel
theorem dX1_putInOrder_35 : decode cX1_putInOrder 35 = .ok (.iastore, 1) := by decide +kernel
theorem dX1_putInOrder_36 : decode cX1_putInOrder 36 = .ok (.iinc 3 1, 3) := by decide +kernel
theorem dX1_putInOrder_39 : decode cX1_putInOrder 39 = .ok (.iinc 5 1, 3) := by decide +kernel
theorem dX1_putInOrder_42 : decode cX1_putInOrder 42 = .ok (.goto (-28), 3) := by decide +kernel
theorem dX1_putInOrder_45 : decode cX1_putInOrder 45 = .ok (.iinc 4 1, 3) := by decide +kernel
theorem dX1_putInOrder_48 : decode cX1_putInOrder 48 = .ok (.goto (-43), 3) := by decide +kernel
theorem dX1_putInOrder_51 : decode cX1_putInOrder 51 = .ok (.return_, 1) := by decide +kernel
theorem dX1_unlike_0 : decode cX1_unlike 0 = .ok (.iconst 0, 1) := by decide +kernel
theorem dX1_unlike_1 : decode cX1_unlike 1 = .ok (.istore_n 2, 1) := by decide +kernel
theorem dX1_unlike_2 : decode cX1_unlike 2 = .ok (.iconst 0, 1) := by decide +kernel
theorem dX1_unlike_3 : decode cX1_unlike 3 = .ok (.istore_n 3, 1) := by decide +kernel
theorem dX1_unlike_4 : decode cX1_unlike 4 = .ok (.iload_n 3, 1) := by decide +kernel
theorem dX1_unlike_5 : decode cX1_unlike 5 = .ok (.iload_n 1, 1) := by decide +kernel
theorem dX1_unlike_6 : decode cX1_unlike 6 = .ok (.if_icmp .ge 21, 3) := by decide +kernel
theorem dX1_unlike_9 : decode cX1_unlike 9 = .ok (.aload_n 0, 1) := by decide +kernel
theorem dX1_unlike_10 : decode cX1_unlike 10 = .ok (.getfield 9, 3) := by decide +kernel
theorem dX1_unlike_13 : decode cX1_unlike 13 = .ok (.iload_n 3, 1) := by decide +kernel
theorem dX1_unlike_14 : decode cX1_unlike 14 = .ok (.iaload, 1) := by decide +kernel
theorem dX1_unlike_15 : decode cX1_unlike 15 = .ok (.ifCond .le 6, 3) := by decide +kernel
theorem dX1_unlike_18 : decode cX1_unlike 18 = .ok (.iinc 2 1, 3) := by decide +kernel
theorem dX1_unlike_21 : decode cX1_unlike 21 = .ok (.iinc 3 1, 3) := by decide +kernel
theorem dX1_unlike_24 : decode cX1_unlike 24 = .ok (.goto (-20), 3) := by decide +kernel
theorem dX1_unlike_27 : decode cX1_unlike 27 = .ok (.iload_n 2, 1) := by decide +kernel
theorem dX1_unlike_28 : decode cX1_unlike 28 = .ok (.ireturn, 1) := by decide +kernel
theorem dX1_add_0 : decode cX1_add 0 = .ok (.iload_n 1, 1) := by decide +kernel
theorem dX1_add_1 : decode cX1_add 1 = .ok (.ifCond .lt 19, 3) := by decide +kernel
theorem dX1_add_4 : decode cX1_add 4 = .ok (.iload_n 1, 1) := by decide +kernel
theorem dX1_add_5 : decode cX1_add 5 = .ok (.bipush 16, 2) := by decide +kernel
theorem dX1_add_7 : decode cX1_add 7 = .ok (.if_icmp .ge 13, 3) := by decide +kernel
theorem dX1_add_10 : decode cX1_add 10 = .ok (.aload_n 0, 1) := by decide +kernel
theorem dX1_add_11 : decode cX1_add 11 = .ok (.getfield 9, 3) := by decide +kernel
theorem dX1_add_14 : decode cX1_add 14 = .ok (.iload_n 1, 1) := by decide +kernel
theorem dX1_add_15 : decode cX1_add 15 = .ok (.dup2, 1) := by decide +kernel
theorem dX1_add_16 : decode cX1_add 16 = .ok (.iaload, 1) := by decide +kernel
theorem dX1_add_17 : decode cX1_add 17 = .ok (.iconst 1, 1) := by decide +kernel
theorem dX1_add_18 : decode cX1_add 18 = .ok (.iadd, 1) := by decide +kernel
theorem dX1_add_19 : decode cX1_add 19 = .ok (.iastore, 1) := by decide +kernel
theorem dX1_add_20 : decode cX1_add 20 = .ok (.return_, 1) := by decide +kernel
set_option maxRecDepth 20000 in
theorem ggX1_firstPickBehindKept_X1_add : GoodIn wsX1_firstPickBehindKept wsX1_add := goodIn_ca (goodIn_r _ [7, 8, 22, 23] (by decide +kernel) (by decide +kernel)) (goodIn_sub (fun _ h => List.mem_cons_of_mem _ (List.mem_append_right _ h)) (by decide +kernel))
set_option maxRecDepth 20000 in
theorem gX1_firstPickBehindKept_X1_add : GoodIn wsX1_firstPickBehindKept (wsV RX1 51 RX1 yX1_add wsX1_add) := goodIn_app (goodIn_of _ (by decide +kernel)) ggX1_firstPickBehindKept_X1_add
theorem dX1_firstPickBehindKept_0 : decode cX1_firstPickBehindKept 0 = .ok (.aload_n 1, 1) := by decide +kernel
theorem dX1_firstPickBehindKept_1 : decode cX1_firstPickBehindKept 1 = .ok (.getfield 37, 3) := by decide +kernel
theorem dX1_firstPickBehindKept_4 : decode cX1_firstPickBehindKept 4 = .ok (.ldc 50, 2) := by decide +kernel
theorem dX1_firstPickBehindKept_6 : decode cX1_firstPickBehindKept 6 = .ok (.if_icmp .ne 5, 3) := by decide +kernel
theorem dX1_firstPickBehindKept_9 : decode cX1_firstPickBehindKept 9 = .ok (.iconst 0, 1) := by decide +kernel
theorem dX1_firstPickBehindKept_10 : decode cX1_firstPickBehindKept 10 = .ok (.ireturn, 1) := by decide +kernel
theorem dX1_firstPickBehindKept_11 : decode cX1_firstPickBehindKept 11 = .ok (.aload_n 0, 1) := by decide +kernel
theorem dX1_firstPickBehindKept_12 : decode cX1_firstPickBehindKept 12 = .ok (.aload_n 1, 1) := by decide +kernel
theorem dX1_firstPickBehindKept_13 : decode cX1_firstPickBehindKept 13 = .ok (.getfield 37, 3) := by decide +kernel
theorem dX1_firstPickBehindKept_16 : decode cX1_firstPickBehindKept 16 = .ok (.invokevirtual 51, 3) := by decide +kernel
theorem dX1_firstPickBehindKept_19 : decode cX1_firstPickBehindKept 19 = .ok (.iconst 1, 1) := by decide +kernel
theorem dX1_firstPickBehindKept_20 : decode cX1_firstPickBehindKept 20 = .ok (.ireturn, 1) := by decide +kernel
set_option maxRecDepth 20000 in
theorem ggX1_pickEachByWeights_X1_firstPickBehindKept : GoodIn wsX1_pickEachByWeights wsX1_firstPickBehindKept := goodIn_ca (goodIn_r _ [7, 8, 9, 10, 11, 12, 6, 13, 14, 41, 42, 43, 44, 45, 46, 47, 48, 49, 50, 51, 52, 53, 54, 55] (by decide +kernel) (by decide +kernel)) (goodIn_sub (fun _ h => List.mem_cons_of_mem _ (List.mem_append_right _ h)) (by decide +kernel))
set_option maxRecDepth 20000 in
theorem gX1_pickEachByWeights_X1_firstPickBehindKept : GoodIn wsX1_pickEachByWeights (wsV RX1 55 RX1 yX1_firstPickBehindKept wsX1_firstPickBehindKept) := goodIn_app (goodIn_of _ (by decide +kernel)) ggX1_pickEachByWeights_X1_firstPickBehindKept
set_option maxRecDepth 20000 in
theorem ggX1_pickEachByWeights_X0_byWeights : GoodIn wsX1_pickEachByWeights wsX0_byWeights := goodIn_ca (goodIn_r _ [19, 20, 21, 22, 23, 24, 25, 26, 18, 27, 28, 29, 30, 31, 32, 33, 34, 35, 36, 37, 38, 39, 40, 56, 57, 58, 59] (by decide +kernel) (by decide +kernel)) (goodIn_sub (fun _ h => List.mem_cons_of_mem _ (List.mem_append_right _ h)) (by decide +kernel))
set_option maxRecDepth 20000 in
theorem gX1_pickEachByWeights_X0_byWeights : GoodIn wsX1_pickEachByWeights (wsV RX1 62 RX0 yX0_byWeights wsX0_byWeights) := goodIn_app (goodIn_of _ (by decide +kernel)) ggX1_pickEachByWeights_X0_byWeights
set_option maxRecDepth 20000 in
theorem ggX1_pickEachByWeights_X1_add : GoodIn wsX1_pickEachByWeights wsX1_add := goodIn_ca (goodIn_r _ [13, 14, 54, 55] (by decide +kernel) (by decide +kernel)) (goodIn_sub (fun _ h => List.mem_cons_of_mem _ (List.mem_append_right _ h)) (by decide +kernel))
set_option maxRecDepth 20000 in
theorem gX1_pickEachByWeights_X1_add : GoodIn wsX1_pickEachByWeights (wsV RX1 51 RX1 yX1_add wsX1_add) := goodIn_app (goodIn_of _ (by decide +kernel)) ggX1_pickEachByWeights_X1_add
theorem dX1_pickEachByWeights_0 : decode cX1_pickEachByWeights 0 = .ok (.aload_n 0, 1) := by decide +kernel
theorem dX1_pickEachByWeights_1 : decode cX1_pickEachByWeights 1 = .ok (.aload_n 1, 1) := by decide +kernel
theorem dX1_pickEachByWeights_2 : decode cX1_pickEachByWeights 2 = .ok (.invokevirtual 55, 3) := by decide +kernel
theorem dX1_pickEachByWeights_5 : decode cX1_pickEachByWeights 5 = .ok (.istore_n 3, 1) := by decide +kernel
theorem dX1_pickEachByWeights_6 : decode cX1_pickEachByWeights 6 = .ok (.iload_n 3, 1) := by decide +kernel
theorem dX1_pickEachByWeights_7 : decode cX1_pickEachByWeights 7 = .ok (.aload_n 1, 1) := by decide +kernel
theorem dX1_pickEachByWeights_8 : decode cX1_pickEachByWeights 8 = .ok (.getfield 43, 3) := by decide +kernel
theorem dX1_pickEachByWeights_11 : decode cX1_pickEachByWeights 11 = .ok (.if_icmp .ge 25, 3) := by decide +kernel
theorem dX1_pickEachByWeights_14 : decode cX1_pickEachByWeights 14 = .ok (.aload_n 0, 1) := by decide +kernel
theorem dX1_pickEachByWeights_15 : decode cX1_pickEachByWeights 15 = .ok (.aload_n 2, 1) := by decide +kernel
theorem dX1_pickEachByWeights_16 : decode cX1_pickEachByWeights 16 = .ok (.aload_n 1, 1) := by decide +kernel
theorem dX1_pickEachByWeights_17 : decode cX1_pickEachByWeights 17 = .ok (.getfield 59, 3) := by decide +kernel
theorem dX1_pickEachByWeights_20 : decode cX1_pickEachByWeights 20 = .ok (.aload_n 1, 1) := by decide +kernel
theorem dX1_pickEachByWeights_21 : decode cX1_pickEachByWeights 21 = .ok (.getfield 43, 3) := by decide +kernel
theorem dX1_pickEachByWeights_24 : decode cX1_pickEachByWeights 24 = .ok (.invokevirtual 62, 3) := by decide +kernel
theorem dX1_pickEachByWeights_27 : decode cX1_pickEachByWeights 27 = .ok (.invokevirtual 51, 3) := by decide +kernel
theorem dX1_pickEachByWeights_30 : decode cX1_pickEachByWeights 30 = .ok (.iinc 3 1, 3) := by decide +kernel
theorem dX1_pickEachByWeights_33 : decode cX1_pickEachByWeights 33 = .ok (.goto (-27), 3) := by decide +kernel
theorem dX1_pickEachByWeights_36 : decode cX1_pickEachByWeights 36 = .ok (.return_, 1) := by decide +kernel
set_option maxRecDepth 20000 in
theorem ggX1_pickWithDrawsOfTheirOwn_X2_total : GoodIn wsX1_pickWithDrawsOfTheirOwn wsX2_total := goodIn_ca (goodIn_r _ [7, 8, 9, 10, 11, 12, 43, 44, 45, 46, 47, 48, 49, 50, 51, 52, 53, 54, 55] (by decide +kernel) (by decide +kernel)) (goodIn_sub (fun _ h => List.mem_cons_of_mem _ (List.mem_append_right _ h)) (by decide +kernel))
set_option maxRecDepth 20000 in
theorem gX1_pickWithDrawsOfTheirOwn_X2_total : GoodIn wsX1_pickWithDrawsOfTheirOwn (wsV RX1 68 RX2 yX2_total wsX2_total) := goodIn_app (goodIn_of _ (by decide +kernel)) ggX1_pickWithDrawsOfTheirOwn_X2_total
set_option maxRecDepth 20000 in
theorem ggX1_pickWithDrawsOfTheirOwn_X1_firstPickBehindKept : GoodIn wsX1_pickWithDrawsOfTheirOwn wsX1_firstPickBehindKept := goodIn_ca (goodIn_r _ [17, 18, 19, 20, 21, 22, 16, 23, 24, 43, 44, 45, 46, 47, 48, 49, 50, 51, 52, 53, 54, 55, 56, 57] (by decide +kernel) (by decide +kernel)) (goodIn_sub (fun _ h => List.mem_cons_of_mem _ (List.mem_append_right _ h)) (by decide +kernel))
set_option maxRecDepth 20000 in
theorem gX1_pickWithDrawsOfTheirOwn_X1_firstPickBehindKept : GoodIn wsX1_pickWithDrawsOfTheirOwn (wsV RX1 55 RX1 yX1_firstPickBehindKept wsX1_firstPickBehindKept) := goodIn_app (goodIn_of _ (by decide +kernel)) ggX1_pickWithDrawsOfTheirOwn_X1_firstPickBehindKept
set_option maxRecDepth 20000 in
theorem ggX1_pickWithDrawsOfTheirOwn_X0_below : GoodIn wsX1_pickWithDrawsOfTheirOwn wsX0_below := goodIn_ca (goodIn_r _ [29, 30, 31, 32, 28, 33, 34, 35, 36, 37, 38, 39, 58, 59, 60, 61] (by decide +kernel) (by decide +kernel)) (goodIn_sub (fun _ h => List.mem_cons_of_mem _ (List.mem_append_right _ h)) (by decide +kernel))
set_option maxRecDepth 20000 in
theorem gX1_pickWithDrawsOfTheirOwn_X0_below : GoodIn wsX1_pickWithDrawsOfTheirOwn (wsV RX1 72 RX0 yX0_below wsX0_below) := goodIn_app (goodIn_of _ (by decide +kernel)) ggX1_pickWithDrawsOfTheirOwn_X0_below
set_option maxRecDepth 20000 in
theorem ggX1_pickWithDrawsOfTheirOwn_X4_firstAbove : GoodIn wsX1_pickWithDrawsOfTheirOwn wsX4_firstAbove := goodIn_ca (goodIn_r _ [41, 42] (by decide +kernel) (by decide +kernel)) (goodIn_sub (fun _ h => List.mem_cons_of_mem _ (List.mem_append_right _ h)) (by decide +kernel))
set_option maxRecDepth 20000 in
theorem gX1_pickWithDrawsOfTheirOwn_X4_firstAbove_n76 : GoodIn wsX1_pickWithDrawsOfTheirOwn (wsX4_firstAbove) := ggX1_pickWithDrawsOfTheirOwn_X4_firstAbove
set_option maxRecDepth 20000 in
theorem ggX1_pickWithDrawsOfTheirOwn_X1_add : GoodIn wsX1_pickWithDrawsOfTheirOwn wsX1_add := goodIn_ca (goodIn_r _ [23, 24, 56, 57] (by decide +kernel) (by decide +kernel)) (goodIn_sub (fun _ h => List.mem_cons_of_mem _ (List.mem_append_right _ h)) (by decide +kernel))
set_option maxRecDepth 20000 in
theorem gX1_pickWithDrawsOfTheirOwn_X1_add : GoodIn wsX1_pickWithDrawsOfTheirOwn (wsV RX1 51 RX1 yX1_add wsX1_add) := goodIn_app (goodIn_of _ (by decide +kernel)) ggX1_pickWithDrawsOfTheirOwn_X1_add
theorem dX1_pickWithDrawsOfTheirOwn_0 : decode cX1_pickWithDrawsOfTheirOwn 0 = .ok (.aload_n 1, 1) := by decide +kernel
theorem dX1_pickWithDrawsOfTheirOwn_1 : decode cX1_pickWithDrawsOfTheirOwn 1 = .ok (.invokevirtual 68, 3) := by decide +kernel
theorem dX1_pickWithDrawsOfTheirOwn_4 : decode cX1_pickWithDrawsOfTheirOwn 4 = .ok (.lstore_n 3, 1) := by decide +kernel
theorem dX1_pickWithDrawsOfTheirOwn_5 : decode cX1_pickWithDrawsOfTheirOwn 5 = .ok (.aload_n 0, 1) := by decide +kernel
theorem dX1_pickWithDrawsOfTheirOwn_6 : decode cX1_pickWithDrawsOfTheirOwn 6 = .ok (.aload_n 1, 1) := by decide +kernel
theorem dX1_pickWithDrawsOfTheirOwn_7 : decode cX1_pickWithDrawsOfTheirOwn 7 = .ok (.invokevirtual 55, 3) := by decide +kernel
theorem dX1_pickWithDrawsOfTheirOwn_10 : decode cX1_pickWithDrawsOfTheirOwn 10 = .ok (.istore 5, 2) := by decide +kernel
theorem dX1_pickWithDrawsOfTheirOwn_12 : decode cX1_pickWithDrawsOfTheirOwn 12 = .ok (.iload 5, 2) := by decide +kernel
theorem dX1_pickWithDrawsOfTheirOwn_14 : decode cX1_pickWithDrawsOfTheirOwn 14 = .ok (.aload_n 1, 1) := by decide +kernel
theorem dX1_pickWithDrawsOfTheirOwn_15 : decode cX1_pickWithDrawsOfTheirOwn 15 = .ok (.getfield 43, 3) := by decide +kernel
theorem dX1_pickWithDrawsOfTheirOwn_18 : decode cX1_pickWithDrawsOfTheirOwn 18 = .ok (.if_icmp .ge 40, 3) := by decide +kernel
theorem dX1_pickWithDrawsOfTheirOwn_21 : decode cX1_pickWithDrawsOfTheirOwn 21 = .ok (.aload_n 0, 1) := by decide +kernel
theorem dX1_pickWithDrawsOfTheirOwn_22 : decode cX1_pickWithDrawsOfTheirOwn 22 = .ok (.iload 5, 2) := by decide +kernel
theorem dX1_pickWithDrawsOfTheirOwn_24 : decode cX1_pickWithDrawsOfTheirOwn 24 = .ok (.i2l, 1) := by decide +kernel
theorem dX1_pickWithDrawsOfTheirOwn_25 : decode cX1_pickWithDrawsOfTheirOwn 25 = .ok (.lload_n 3, 1) := by decide +kernel
theorem dX1_pickWithDrawsOfTheirOwn_26 : decode cX1_pickWithDrawsOfTheirOwn 26 = .ok (.lmul, 1) := by decide +kernel
theorem dX1_pickWithDrawsOfTheirOwn_27 : decode cX1_pickWithDrawsOfTheirOwn 27 = .ok (.aload_n 2, 1) := by decide +kernel
theorem dX1_pickWithDrawsOfTheirOwn_28 : decode cX1_pickWithDrawsOfTheirOwn 28 = .ok (.lload_n 3, 1) := by decide +kernel
theorem dX1_pickWithDrawsOfTheirOwn_29 : decode cX1_pickWithDrawsOfTheirOwn 29 = .ok (.invokevirtual 72, 3) := by decide +kernel
theorem dX1_pickWithDrawsOfTheirOwn_32 : decode cX1_pickWithDrawsOfTheirOwn 32 = .ok (.ladd, 1) := by decide +kernel
theorem dX1_pickWithDrawsOfTheirOwn_33 : decode cX1_pickWithDrawsOfTheirOwn 33 = .ok (.aload_n 1, 1) := by decide +kernel
theorem dX1_pickWithDrawsOfTheirOwn_34 : decode cX1_pickWithDrawsOfTheirOwn 34 = .ok (.getfield 43, 3) := by decide +kernel
theorem dX1_pickWithDrawsOfTheirOwn_37 : decode cX1_pickWithDrawsOfTheirOwn 37 = .ok (.i2l, 1) := by decide +kernel
theorem dX1_pickWithDrawsOfTheirOwn_38 : decode cX1_pickWithDrawsOfTheirOwn 38 = .ok (.aload_n 1, 1) := by decide +kernel
theorem dX1_pickWithDrawsOfTheirOwn_39 : decode cX1_pickWithDrawsOfTheirOwn 39 = .ok (.getfield 59, 3) := by decide +kernel
theorem dX1_pickWithDrawsOfTheirOwn_42 : decode cX1_pickWithDrawsOfTheirOwn 42 = .ok (.aload_n 1, 1) := by decide +kernel
theorem dX1_pickWithDrawsOfTheirOwn_43 : decode cX1_pickWithDrawsOfTheirOwn 43 = .ok (.getfield 43, 3) := by decide +kernel
theorem dX1_pickWithDrawsOfTheirOwn_46 : decode cX1_pickWithDrawsOfTheirOwn 46 = .ok (.invokestatic 76, 3) := by decide +kernel
theorem dX1_pickWithDrawsOfTheirOwn_49 : decode cX1_pickWithDrawsOfTheirOwn 49 = .ok (.invokevirtual 51, 3) := by decide +kernel
theorem dX1_pickWithDrawsOfTheirOwn_52 : decode cX1_pickWithDrawsOfTheirOwn 52 = .ok (.iinc 5 1, 3) := by decide +kernel
theorem dX1_pickWithDrawsOfTheirOwn_55 : decode cX1_pickWithDrawsOfTheirOwn 55 = .ok (.goto (-43), 3) := by decide +kernel
theorem dX1_pickWithDrawsOfTheirOwn_58 : decode cX1_pickWithDrawsOfTheirOwn 58 = .ok (.return_, 1) := by decide +kernel
set_option maxRecDepth 20000 in
theorem ggX1_pickWithOneDraw_X2_total : GoodIn wsX1_pickWithOneDraw wsX2_total := goodIn_ca (goodIn_r _ [7, 8, 9, 10, 11, 12, 43, 44, 45, 46, 47, 48, 49, 50, 51, 52, 53, 54, 55] (by decide +kernel) (by decide +kernel)) (goodIn_sub (fun _ h => List.mem_cons_of_mem _ (List.mem_append_right _ h)) (by decide +kernel))
set_option maxRecDepth 20000 in
theorem gX1_pickWithOneDraw_X2_total : GoodIn wsX1_pickWithOneDraw (wsV RX1 68 RX2 yX2_total wsX2_total) := goodIn_app (goodIn_of _ (by decide +kernel)) ggX1_pickWithOneDraw_X2_total
set_option maxRecDepth 20000 in
theorem ggX1_pickWithOneDraw_X0_below : GoodIn wsX1_pickWithOneDraw wsX0_below := goodIn_ca (goodIn_r _ [17, 18, 19, 20, 16, 21, 22, 23, 24, 25, 26, 27, 56, 57, 58, 59] (by decide +kernel) (by decide +kernel)) (goodIn_sub (fun _ h => List.mem_cons_of_mem _ (List.mem_append_right _ h)) (by decide +kernel))
set_option maxRecDepth 20000 in
theorem gX1_pickWithOneDraw_X0_below : GoodIn wsX1_pickWithOneDraw (wsV RX1 72 RX0 yX0_below wsX0_below) := goodIn_app (goodIn_of _ (by decide +kernel)) ggX1_pickWithOneDraw_X0_below
set_option maxRecDepth 20000 in
theorem ggX1_pickWithOneDraw_X1_firstPickBehindKept : GoodIn wsX1_pickWithOneDraw wsX1_firstPickBehindKept := goodIn_ca (goodIn_r _ [32, 33, 34, 35, 36, 37, 31, 38, 39, 43, 44, 45, 46, 47, 48, 49, 50, 51, 52, 53, 54, 55, 60, 61] (by decide +kernel) (by decide +kernel)) (goodIn_sub (fun _ h => List.mem_cons_of_mem _ (List.mem_append_right _ h)) (by decide +kernel))
set_option maxRecDepth 20000 in
theorem gX1_pickWithOneDraw_X1_firstPickBehindKept : GoodIn wsX1_pickWithOneDraw (wsV RX1 55 RX1 yX1_firstPickBehindKept wsX1_firstPickBehindKept) := goodIn_app (goodIn_of _ (by decide +kernel)) ggX1_pickWithOneDraw_X1_firstPickBehindKept
set_option maxRecDepth 20000 in
theorem ggX1_pickWithOneDraw_X4_firstAbove : GoodIn wsX1_pickWithOneDraw wsX4_firstAbove := goodIn_ca (goodIn_r _ [41, 42] (by decide +kernel) (by decide +kernel)) (goodIn_sub (fun _ h => List.mem_cons_of_mem _ (List.mem_append_right _ h)) (by decide +kernel))
set_option maxRecDepth 20000 in
theorem gX1_pickWithOneDraw_X4_firstAbove_n76 : GoodIn wsX1_pickWithOneDraw (wsX4_firstAbove) := ggX1_pickWithOneDraw_X4_firstAbove
set_option maxRecDepth 20000 in
theorem ggX1_pickWithOneDraw_X1_add : GoodIn wsX1_pickWithOneDraw wsX1_add := goodIn_ca (goodIn_r _ [38, 39, 60, 61] (by decide +kernel) (by decide +kernel)) (goodIn_sub (fun _ h => List.mem_cons_of_mem _ (List.mem_append_right _ h)) (by decide +kernel))
set_option maxRecDepth 20000 in
theorem gX1_pickWithOneDraw_X1_add : GoodIn wsX1_pickWithOneDraw (wsV RX1 51 RX1 yX1_add wsX1_add) := goodIn_app (goodIn_of _ (by decide +kernel)) ggX1_pickWithOneDraw_X1_add
theorem dX1_pickWithOneDraw_0 : decode cX1_pickWithOneDraw 0 = .ok (.aload_n 1, 1) := by decide +kernel
theorem dX1_pickWithOneDraw_1 : decode cX1_pickWithOneDraw 1 = .ok (.invokevirtual 68, 3) := by decide +kernel
theorem dX1_pickWithOneDraw_4 : decode cX1_pickWithOneDraw 4 = .ok (.lstore_n 3, 1) := by decide +kernel
theorem dX1_pickWithOneDraw_5 : decode cX1_pickWithOneDraw 5 = .ok (.aload_n 2, 1) := by decide +kernel
theorem dX1_pickWithOneDraw_6 : decode cX1_pickWithOneDraw 6 = .ok (.lload_n 3, 1) := by decide +kernel
theorem dX1_pickWithOneDraw_7 : decode cX1_pickWithOneDraw 7 = .ok (.invokevirtual 72, 3) := by decide +kernel
theorem dX1_pickWithOneDraw_10 : decode cX1_pickWithOneDraw 10 = .ok (.lstore 5, 2) := by decide +kernel
theorem dX1_pickWithOneDraw_12 : decode cX1_pickWithOneDraw 12 = .ok (.aload_n 0, 1) := by decide +kernel
theorem dX1_pickWithOneDraw_13 : decode cX1_pickWithOneDraw 13 = .ok (.aload_n 1, 1) := by decide +kernel
theorem dX1_pickWithOneDraw_14 : decode cX1_pickWithOneDraw 14 = .ok (.invokevirtual 55, 3) := by decide +kernel
theorem dX1_pickWithOneDraw_17 : decode cX1_pickWithOneDraw 17 = .ok (.istore 7, 2) := by decide +kernel
theorem dX1_pickWithOneDraw_19 : decode cX1_pickWithOneDraw 19 = .ok (.iload 7, 2) := by decide +kernel
theorem dX1_pickWithOneDraw_21 : decode cX1_pickWithOneDraw 21 = .ok (.aload_n 1, 1) := by decide +kernel
theorem dX1_pickWithOneDraw_22 : decode cX1_pickWithOneDraw 22 = .ok (.getfield 43, 3) := by decide +kernel
theorem dX1_pickWithOneDraw_25 : decode cX1_pickWithOneDraw 25 = .ok (.if_icmp .ge 37, 3) := by decide +kernel
theorem dX1_pickWithOneDraw_28 : decode cX1_pickWithOneDraw 28 = .ok (.aload_n 0, 1) := by decide +kernel
theorem dX1_pickWithOneDraw_29 : decode cX1_pickWithOneDraw 29 = .ok (.iload 7, 2) := by decide +kernel
theorem dX1_pickWithOneDraw_31 : decode cX1_pickWithOneDraw 31 = .ok (.i2l, 1) := by decide +kernel
theorem dX1_pickWithOneDraw_32 : decode cX1_pickWithOneDraw 32 = .ok (.lload_n 3, 1) := by decide +kernel
theorem dX1_pickWithOneDraw_33 : decode cX1_pickWithOneDraw 33 = .ok (.lmul, 1) := by decide +kernel
theorem dX1_pickWithOneDraw_34 : decode cX1_pickWithOneDraw 34 = .ok (.lload 5, 2) := by decide +kernel
theorem dX1_pickWithOneDraw_36 : decode cX1_pickWithOneDraw 36 = .ok (.ladd, 1) := by decide +kernel
theorem dX1_pickWithOneDraw_37 : decode cX1_pickWithOneDraw 37 = .ok (.aload_n 1, 1) := by decide +kernel
theorem dX1_pickWithOneDraw_38 : decode cX1_pickWithOneDraw 38 = .ok (.getfield 43, 3) := by decide +kernel
theorem dX1_pickWithOneDraw_41 : decode cX1_pickWithOneDraw 41 = .ok (.i2l, 1) := by decide +kernel
theorem dX1_pickWithOneDraw_42 : decode cX1_pickWithOneDraw 42 = .ok (.aload_n 1, 1) := by decide +kernel
theorem dX1_pickWithOneDraw_43 : decode cX1_pickWithOneDraw 43 = .ok (.getfield 59, 3) := by decide +kernel
theorem dX1_pickWithOneDraw_46 : decode cX1_pickWithOneDraw 46 = .ok (.aload_n 1, 1) := by decide +kernel
theorem dX1_pickWithOneDraw_47 : decode cX1_pickWithOneDraw 47 = .ok (.getfield 43, 3) := by decide +kernel
theorem dX1_pickWithOneDraw_50 : decode cX1_pickWithOneDraw 50 = .ok (.invokestatic 76, 3) := by decide +kernel
theorem dX1_pickWithOneDraw_53 : decode cX1_pickWithOneDraw 53 = .ok (.invokevirtual 51, 3) := by decide +kernel
theorem dX1_pickWithOneDraw_56 : decode cX1_pickWithOneDraw 56 = .ok (.iinc 7 1, 3) := by decide +kernel
theorem dX1_pickWithOneDraw_59 : decode cX1_pickWithOneDraw 59 = .ok (.goto (-40), 3) := by decide +kernel
theorem dX1_pickWithOneDraw_62 : decode cX1_pickWithOneDraw 62 = .ok (.return_, 1) := by decide +kernel
set_option maxRecDepth 20000 in
theorem ggX1_pickByPartsAndRests_X2_total : GoodIn wsX1_pickByPartsAndRests wsX2_total := goodIn_ca (goodIn_r _ [9, 10, 11, 12, 13, 14, 43, 44, 45, 46, 47, 48, 49, 50, 51, 52, 53, 54, 55] (by decide +kernel) (by decide +kernel)) (goodIn_sub (fun _ h => List.mem_cons_of_mem _ (List.mem_append_right _ h)) (by decide +kernel))
set_option maxRecDepth 20000 in
theorem gX1_pickByPartsAndRests_X2_total : GoodIn wsX1_pickByPartsAndRests (wsV RX1 68 RX2 yX2_total wsX2_total) := goodIn_app (goodIn_of _ (by decide +kernel)) ggX1_pickByPartsAndRests_X2_total
set_option maxRecDepth 20000 in
theorem ggX1_pickByPartsAndRests_X0_byWeights : GoodIn wsX1_pickByPartsAndRests wsX0_byWeights := goodIn_ca (goodIn_r _ [19, 20, 12, 13, 14, 21, 22, 23, 18, 24, 25, 26, 27, 28, 29, 30, 31, 32, 33, 34, 35, 36, 37, 58, 59, 60, 61] (by decide +kernel) (by decide +kernel)) (goodIn_sub (fun _ h => List.mem_cons_of_mem _ (List.mem_append_right _ h)) (by decide +kernel))
set_option maxRecDepth 20000 in
theorem gX1_pickByPartsAndRests_X0_byWeights : GoodIn wsX1_pickByPartsAndRests (wsV RX1 62 RX0 yX0_byWeights wsX0_byWeights) := goodIn_app (goodIn_of _ (by decide +kernel)) ggX1_pickByPartsAndRests_X0_byWeights
set_option maxRecDepth 20000 in
theorem ggX1_pickByPartsAndRests_X1_add : GoodIn wsX1_pickByPartsAndRests wsX1_add := goodIn_ca (goodIn_r _ [42, 3, 56, 57] (by decide +kernel) (by decide +kernel)) (goodIn_sub (fun _ h => List.mem_cons_of_mem _ (List.mem_append_right _ h)) (by decide +kernel))
set_option maxRecDepth 20000 in
theorem gX1_pickByPartsAndRests_X1_add : GoodIn wsX1_pickByPartsAndRests (wsV RX1 51 RX1 yX1_add wsX1_add) := goodIn_app (goodIn_of _ (by decide +kernel)) ggX1_pickByPartsAndRests_X1_add
theorem dX1_pickByPartsAndRests_0 : decode cX1_pickByPartsAndRests 0 = .ok (.aload_n 1, 1) := by decide +kernel
theorem dX1_pickByPartsAndRests_1 : decode cX1_pickByPartsAndRests 1 = .ok (.invokevirtual 68, 3) := by decide +kernel
theorem dX1_pickByPartsAndRests_4 : decode cX1_pickByPartsAndRests 4 = .ok (.lstore_n 3, 1) := by decide +kernel
theorem dX1_pickByPartsAndRests_5 : decode cX1_pickByPartsAndRests 5 = .ok (.lload_n 3, 1) := by decide +kernel
theorem dX1_pickByPartsAndRests_6 : decode cX1_pickByPartsAndRests 6 = .ok (.lconst 0, 1) := by decide +kernel
theorem dX1_pickByPartsAndRests_7 : decode cX1_pickByPartsAndRests 7 = .ok (.lcmp, 1) := by decide +kernel
theorem dX1_pickByPartsAndRests_8 : decode cX1_pickByPartsAndRests 8 = .ok (.ifCond .gt 4, 3) := by decide +kernel
theorem dX1_pickByPartsAndRests_11 : decode cX1_pickByPartsAndRests 11 = .ok (.return_, 1) := by decide +kernel
theorem dX1_pickByPartsAndRests_12 : decode cX1_pickByPartsAndRests 12 = .ok (.aload_n 1, 1) := by decide +kernel
theorem dX1_pickByPartsAndRests_13 : decode cX1_pickByPartsAndRests 13 = .ok (.getfield 43, 3) := by decide +kernel
theorem dX1_pickByPartsAndRests_16 : decode cX1_pickByPartsAndRests 16 = .ok (.istore 5, 2) := by decide +kernel
theorem dX1_pickByPartsAndRests_18 : decode cX1_pickByPartsAndRests 18 = .ok (.iconst 0, 1) := by decide +kernel
theorem dX1_pickByPartsAndRests_19 : decode cX1_pickByPartsAndRests 19 = .ok (.istore 6, 2) := by decide +kernel
theorem dX1_pickByPartsAndRests_21 : decode cX1_pickByPartsAndRests 21 = .ok (.iload 6, 2) := by decide +kernel
theorem dX1_pickByPartsAndRests_23 : decode cX1_pickByPartsAndRests 23 = .ok (.aload_n 1, 1) := by decide +kernel
theorem dX1_pickByPartsAndRests_24 : decode cX1_pickByPartsAndRests 24 = .ok (.getfield 43, 3) := by decide +kernel
theorem dX1_pickByPartsAndRests_27 : decode cX1_pickByPartsAndRests 27 = .ok (.if_icmp .ge 61, 3) := by decide +kernel
theorem dX1_pickByPartsAndRests_30 : decode cX1_pickByPartsAndRests 30 = .ok (.aload_n 1, 1) := by decide +kernel
theorem dX1_pickByPartsAndRests_31 : decode cX1_pickByPartsAndRests 31 = .ok (.getfield 43, 3) := by decide +kernel
theorem dX1_pickByPartsAndRests_34 : decode cX1_pickByPartsAndRests 34 = .ok (.i2l, 1) := by decide +kernel
theorem dX1_pickByPartsAndRests_35 : decode cX1_pickByPartsAndRests 35 = .ok (.aload_n 1, 1) := by decide +kernel
theorem dX1_pickByPartsAndRests_36 : decode cX1_pickByPartsAndRests 36 = .ok (.getfield 59, 3) := by decide +kernel
theorem dX1_pickByPartsAndRests_39 : decode cX1_pickByPartsAndRests 39 = .ok (.iload 6, 2) := by decide +kernel
theorem dX1_pickByPartsAndRests_41 : decode cX1_pickByPartsAndRests 41 = .ok (.iaload, 1) := by decide +kernel
theorem dX1_pickByPartsAndRests_42 : decode cX1_pickByPartsAndRests 42 = .ok (.i2l, 1) := by decide +kernel
theorem dX1_pickByPartsAndRests_43 : decode cX1_pickByPartsAndRests 43 = .ok (.lmul, 1) := by decide +kernel
theorem dX1_pickByPartsAndRests_44 : decode cX1_pickByPartsAndRests 44 = .ok (.lstore 7, 2) := by decide +kernel
theorem dX1_pickByPartsAndRests_46 : decode cX1_pickByPartsAndRests 46 = .ok (.aload_n 0, 1) := by decide +kernel
theorem dX1_pickByPartsAndRests_47 : decode cX1_pickByPartsAndRests 47 = .ok (.getfield 9, 3) := by decide +kernel
theorem dX1_pickByPartsAndRests_50 : decode cX1_pickByPartsAndRests 50 = .ok (.iload 6, 2) := by decide +kernel
theorem dX1_pickByPartsAndRests_52 : decode cX1_pickByPartsAndRests 52 = .ok (.lload 7, 2) := by decide +kernel
theorem dX1_pickByPartsAndRests_54 : decode cX1_pickByPartsAndRests 54 = .ok (.lload_n 3, 1) := by decide +kernel
theorem dX1_pickByPartsAndRests_55 : decode cX1_pickByPartsAndRests 55 = .ok (.ldiv, 1) := by decide +kernel
theorem dX1_pickByPartsAndRests_56 : decode cX1_pickByPartsAndRests 56 = .ok (.l2i, 1) := by decide +kernel
theorem dX1_pickByPartsAndRests_57 : decode cX1_pickByPartsAndRests 57 = .ok (.iastore, 1) := by decide +kernel
theorem dX1_pickByPartsAndRests_58 : decode cX1_pickByPartsAndRests 58 = .ok (.aload_n 0, 1) := by decide +kernel
theorem dX1_pickByPartsAndRests_59 : decode cX1_pickByPartsAndRests 59 = .ok (.getfield 15, 3) := by decide +kernel
theorem dX1_pickByPartsAndRests_62 : decode cX1_pickByPartsAndRests 62 = .ok (.iload 6, 2) := by decide +kernel
theorem dX1_pickByPartsAndRests_64 : decode cX1_pickByPartsAndRests 64 = .ok (.lload 7, 2) := by decide +kernel
theorem dX1_pickByPartsAndRests_66 : decode cX1_pickByPartsAndRests 66 = .ok (.lload_n 3, 1) := by decide +kernel
theorem dX1_pickByPartsAndRests_67 : decode cX1_pickByPartsAndRests 67 = .ok (.lrem, 1) := by decide +kernel
theorem dX1_pickByPartsAndRests_68 : decode cX1_pickByPartsAndRests 68 = .ok (.l2i, 1) := by decide +kernel
theorem dX1_pickByPartsAndRests_69 : decode cX1_pickByPartsAndRests 69 = .ok (.iastore, 1) := by decide +kernel
theorem dX1_pickByPartsAndRests_70 : decode cX1_pickByPartsAndRests 70 = .ok (.iload 5, 2) := by decide +kernel
theorem dX1_pickByPartsAndRests_72 : decode cX1_pickByPartsAndRests 72 = .ok (.aload_n 0, 1) := by decide +kernel
theorem dX1_pickByPartsAndRests_73 : decode cX1_pickByPartsAndRests 73 = .ok (.getfield 9, 3) := by decide +kernel
theorem dX1_pickByPartsAndRests_76 : decode cX1_pickByPartsAndRests 76 = .ok (.iload 6, 2) := by decide +kernel
theorem dX1_pickByPartsAndRests_78 : decode cX1_pickByPartsAndRests 78 = .ok (.iaload, 1) := by decide +kernel
theorem dX1_pickByPartsAndRests_79 : decode cX1_pickByPartsAndRests 79 = .ok (.isub, 1) := by decide +kernel
theorem dX1_pickByPartsAndRests_80 : decode cX1_pickByPartsAndRests 80 = .ok (.istore 5, 2) := by decide +kernel
theorem dX1_pickByPartsAndRests_82 : decode cX1_pickByPartsAndRests 82 = .ok (.iinc 6 1, 3) := by decide +kernel
theorem dX1_pickByPartsAndRests_85 : decode cX1_pickByPartsAndRests 85 = .ok (.goto (-64), 3) := by decide +kernel
theorem dX1_pickByPartsAndRests_88 : decode cX1_pickByPartsAndRests 88 = .ok (.iconst 0, 1) := by decide +kernel
theorem dX1_pickByPartsAndRests_89 : decode cX1_pickByPartsAndRests 89 = .ok (.istore 6, 2) := by decide +kernel
theorem dX1_pickByPartsAndRests_91 : decode cX1_pickByPartsAndRests 91 = .ok (.iload 6, 2) := by decide +kernel
theorem dX1_pickByPartsAndRests_93 : decode cX1_pickByPartsAndRests 93 = .ok (.iload 5, 2) := by decide +kernel
theorem dX1_pickByPartsAndRests_95 : decode cX1_pickByPartsAndRests 95 = .ok (.if_icmp .ge 25, 3) := by decide +kernel
theorem dX1_pickByPartsAndRests_98 : decode cX1_pickByPartsAndRests 98 = .ok (.aload_n 0, 1) := by decide +kernel
theorem dX1_pickByPartsAndRests_99 : decode cX1_pickByPartsAndRests 99 = .ok (.aload_n 2, 1) := by decide +kernel
theorem dX1_pickByPartsAndRests_100 : decode cX1_pickByPartsAndRests 100 = .ok (.aload_n 0, 1) := by decide +kernel
theorem dX1_pickByPartsAndRests_101 : decode cX1_pickByPartsAndRests 101 = .ok (.getfield 15, 3) := by decide +kernel
theorem dX1_pickByPartsAndRests_104 : decode cX1_pickByPartsAndRests 104 = .ok (.aload_n 1, 1) := by decide +kernel
theorem dX1_pickByPartsAndRests_105 : decode cX1_pickByPartsAndRests 105 = .ok (.getfield 43, 3) := by decide +kernel
theorem dX1_pickByPartsAndRests_108 : decode cX1_pickByPartsAndRests 108 = .ok (.invokevirtual 62, 3) := by decide +kernel
theorem dX1_pickByPartsAndRests_111 : decode cX1_pickByPartsAndRests 111 = .ok (.invokevirtual 51, 3) := by decide +kernel
theorem dX1_pickByPartsAndRests_114 : decode cX1_pickByPartsAndRests 114 = .ok (.iinc 6 1, 3) := by decide +kernel
theorem dX1_pickByPartsAndRests_117 : decode cX1_pickByPartsAndRests 117 = .ok (.goto (-26), 3) := by decide +kernel
theorem dX1_pickByPartsAndRests_120 : decode cX1_pickByPartsAndRests 120 = .ok (.return_, 1) := by decide +kernel
theorem dX1_putIn_0 : decode cX1_putIn 0 = .ok (.iload_n 1, 1) := by decide +kernel
theorem dX1_putIn_1 : decode cX1_putIn 1 = .ok (.ifCond .lt 17, 3) := by decide +kernel
theorem dX1_putIn_4 : decode cX1_putIn 4 = .ok (.iload_n 1, 1) := by decide +kernel
theorem dX1_putIn_5 : decode cX1_putIn 5 = .ok (.iload_n 2, 1) := by decide +kernel
theorem dX1_putIn_6 : decode cX1_putIn 6 = .ok (.if_icmp .ge 12, 3) := by decide +kernel
theorem dX1_putIn_9 : decode cX1_putIn 9 = .ok (.aload_n 0, 1) := by decide +kernel
theorem dX1_putIn_10 : decode cX1_putIn 10 = .ok (.getfield 9, 3) := by decide +kernel
theorem dX1_putIn_13 : decode cX1_putIn 13 = .ok (.iload_n 1, 1) := by decide +kernel
theorem dX1_putIn_14 : decode cX1_putIn 14 = .ok (.iaload, 1) := by decide +kernel
theorem dX1_putIn_15 : decode cX1_putIn 15 = .ok (.ifCond .le 4, 3) := by decide +kernel
theorem dX1_putIn_18 : decode cX1_putIn 18 = .ok (.return_, 1) := by decide +kernel
theorem dX1_putIn_19 : decode cX1_putIn 19 = .ok (.iload_n 2, 1) := by decide +kernel
theorem dX1_putIn_20 : decode cX1_putIn 20 = .ok (.iconst 1, 1) := by decide +kernel
theorem dX1_putIn_21 : decode cX1_putIn 21 = .ok (.isub, 1) := by decide +kernel
theorem dX1_putIn_22 : decode cX1_putIn 22 = .ok (.istore_n 3, 1) := by decide +kernel
theorem dX1_putIn_23 : decode cX1_putIn 23 = .ok (.iload_n 3, 1) := by decide +kernel
theorem dX1_putIn_24 : decode cX1_putIn 24 = .ok (.ifCond .lt 39, 3) := by decide +kernel
theorem dX1_putIn_27 : decode cX1_putIn 27 = .ok (.aload_n 0, 1) := by decide +kernel
theorem dX1_putIn_28 : decode cX1_putIn 28 = .ok (.getfield 9, 3) := by decide +kernel
theorem dX1_putIn_31 : decode cX1_putIn 31 = .ok (.iload_n 3, 1) := by decide +kernel
theorem dX1_putIn_32 : decode cX1_putIn 32 = .ok (.iaload, 1) := by decide +kernel
theorem dX1_putIn_33 : decode cX1_putIn 33 = .ok (.ifCond .le 24, 3) := by decide +kernel
theorem dX1_putIn_36 : decode cX1_putIn 36 = .ok (.aload_n 0, 1) := by decide +kernel
theorem dX1_putIn_37 : decode cX1_putIn 37 = .ok (.getfield 9, 3) := by decide +kernel
theorem dX1_putIn_40 : decode cX1_putIn 40 = .ok (.iload_n 3, 1) := by decide +kernel
theorem dX1_putIn_41 : decode cX1_putIn 41 = .ok (.dup2, 1) := by decide +kernel
theorem dX1_putIn_42 : decode cX1_putIn 42 = .ok (.iaload, 1) := by decide +kernel
theorem dX1_putIn_43 : decode cX1_putIn 43 = .ok (.iconst 1, 1) := by decide +kernel
theorem dX1_putIn_44 : decode cX1_putIn 44 = .ok (.isub, 1) := by decide +kernel
theorem dX1_putIn_45 : decode cX1_putIn 45 = .ok (.iastore, 1) := by decide +kernel
theorem dX1_putIn_46 : decode cX1_putIn 46 = .ok (.aload_n 0, 1) := by decide +kernel
theorem dX1_putIn_47 : decode cX1_putIn 47 = .ok (.getfield 9, 3) := by decide +kernel
theorem dX1_putIn_50 : decode cX1_putIn 50 = .ok (.iload_n 1, 1) := by decide +kernel
theorem dX1_putIn_51 : decode cX1_putIn 51 = .ok (.dup2, 1) := by decide +kernel
theorem dX1_putIn_52 : decode cX1_putIn 52 = .ok (.iaload, 1) := by decide +kernel
theorem dX1_putIn_53 : decode cX1_putIn 53 = .ok (.iconst 1, 1) := by decide +kernel
theorem dX1_putIn_54 : decode cX1_putIn 54 = .ok (.iadd, 1) := by decide +kernel
theorem dX1_putIn_55 : decode cX1_putIn 55 = .ok (.iastore, 1) := by decide +kernel
theorem dX1_putIn_56 : decode cX1_putIn 56 = .ok (.return_, 1) := by decide +kernel
theorem dX1_putIn_57 : decode cX1_putIn 57 = .ok (.iinc 3 (-1), 3) := by decide +kernel
theorem dX1_putIn_60 : decode cX1_putIn 60 = .ok (.goto (-37), 3) := by decide +kernel
theorem dX1_putIn_63 : decode cX1_putIn 63 = .ok (.return_, 1) := by decide +kernel
set_option maxRecDepth 20000 in
theorem ggX2_init_X1_init : GoodIn wsX2_init wsX1_init := goodIn_r _ [21, 22, 2, 3, 8, 23, 24, 25, 26] (by decide +kernel) (by decide +kernel)
set_option maxRecDepth 20000 in
theorem gX2_init_X1_init_n11 : GoodIn wsX2_init (wsX1_init) := ggX2_init_X1_init
theorem dX2_init_0 : decode cX2_init 0 = .ok (.aload_n 0, 1) := by decide +kernel
theorem dX2_init_1 : decode cX2_init 1 = .ok (.invokespecial 3, 3) := by decide +kernel
theorem dX2_init_4 : decode cX2_init 4 = .ok (.aload_n 0, 1) := by decide +kernel
theorem dX2_init_5 : decode cX2_init 5 = .ok (.new 9, 3) := by decide +kernel
theorem dX2_init_8 : decode cX2_init 8 = .ok (.dup, 1) := by decide +kernel
theorem dX2_init_9 : decode cX2_init 9 = .ok (.invokespecial 11, 3) := by decide +kernel
theorem dX2_init_12 : decode cX2_init 12 = .ok (.putfield 12, 3) := by decide +kernel
theorem dX2_init_15 : decode cX2_init 15 = .ok (.aload_n 0, 1) := by decide +kernel
theorem dX2_init_16 : decode cX2_init 16 = .ok (.bipush 16, 2) := by decide +kernel
theorem dX2_init_18 : decode cX2_init 18 = .ok (.newarray .int, 2) := by decide +kernel
theorem dX2_init_20 : decode cX2_init 20 = .ok (.putfield 18, 3) := by decide +kernel
theorem dX2_init_23 : decode cX2_init 23 = .ok (.aload_n 0, 1) := by decide +kernel
theorem dX2_init_24 : decode cX2_init 24 = .ok (.ldc 22, 2) := by decide +kernel
theorem dX2_init_26 : decode cX2_init 26 = .ok (.putfield 23, 3) := by decide +kernel
theorem dX2_init_29 : decode cX2_init 29 = .ok (.aload_n 0, 1) := by decide +kernel
theorem dX2_init_30 : decode cX2_init 30 = .ok (.dconst 1, 1) := by decide +kernel
theorem dX2_init_31 : decode cX2_init 31 = .ok (.putfield 27, 3) := by decide +kernel
theorem dX2_init_34 : decode cX2_init 34 = .ok (.aload_n 0, 1) := by decide +kernel
theorem dX2_init_35 : decode cX2_init 35 = .ok (.bipush 16, 2) := by decide +kernel
theorem dX2_init_37 : decode cX2_init 37 = .ok (.newarray .int, 2) := by decide +kernel
theorem dX2_init_39 : decode cX2_init 39 = .ok (.putfield 31, 3) := by decide +kernel
theorem dX2_init_42 : decode cX2_init 42 = .ok (.aload_n 0, 1) := by decide +kernel
theorem dX2_init_43 : decode cX2_init 43 = .ok (.bipush 16, 2) := by decide +kernel
theorem dX2_init_45 : decode cX2_init 45 = .ok (.newarray .int, 2) := by decide +kernel
theorem dX2_init_47 : decode cX2_init 47 = .ok (.putfield 34, 3) := by decide +kernel
theorem dX2_init_50 : decode cX2_init 50 = .ok (.aload_n 0, 1) := by decide +kernel
theorem dX2_init_51 : decode cX2_init 51 = .ok (.bipush 16, 2) := by decide +kernel
theorem dX2_init_53 : decode cX2_init 53 = .ok (.bipush 31, 2) := by decide +kernel
theorem dX2_init_55 : decode cX2_init 55 = .ok (.multianewarray 37 2, 4) := by decide +kernel
theorem dX2_init_59 : decode cX2_init 59 = .ok (.putfield 39, 3) := by decide +kernel
theorem dX2_init_62 : decode cX2_init 62 = .ok (.aload_n 0, 1) := by decide +kernel
theorem dX2_init_63 : decode cX2_init 63 = .ok (.bipush 16, 2) := by decide +kernel
theorem dX2_init_65 : decode cX2_init 65 = .ok (.newarray .int, 2) := by decide +kernel
theorem dX2_init_67 : decode cX2_init 67 = .ok (.putfield 42, 3) := by decide +kernel
theorem dX2_init_70 : decode cX2_init 70 = .ok (.aload_n 0, 1) := by decide +kernel
theorem dX2_init_71 : decode cX2_init 71 = .ok (.bipush 16, 2) := by decide +kernel
theorem dX2_init_73 : decode cX2_init 73 = .ok (.newarray .int, 2) := by decide +kernel
theorem dX2_init_75 : decode cX2_init 75 = .ok (.putfield 45, 3) := by decide +kernel
theorem dX2_init_78 : decode cX2_init 78 = .ok (.aload_n 0, 1) := by decide +kernel
theorem dX2_init_79 : decode cX2_init 79 = .ok (.bipush 16, 2) := by decide +kernel
theorem dX2_init_81 : decode cX2_init 81 = .ok (.bipush 31, 2) := by decide +kernel
theorem dX2_init_83 : decode cX2_init 83 = .ok (.multianewarray 37 2, 4) := by decide +kernel
theorem dX2_init_87 : decode cX2_init 87 = .ok (.putfield 48, 3) := by decide +kernel
theorem dX2_init_90 : decode cX2_init 90 = .ok (.return_, 1) := by decide +kernel
theorem dX2_isBegun_0 : decode cX2_isBegun 0 = .ok (.aload_n 0, 1) := by decide +kernel
theorem dX2_isBegun_1 : decode cX2_isBegun 1 = .ok (.getfield 51, 3) := by decide +kernel
theorem dX2_isBegun_4 : decode cX2_isBegun 4 = .ok (.ifCond .le 7, 3) := by decide +kernel
theorem dX2_isBegun_7 : decode cX2_isBegun 7 = .ok (.iconst 1, 1) := by decide +kernel
theorem dX2_isBegun_8 : decode cX2_isBegun 8 = .ok (.goto 4, 3) := by decide +kernel
theorem dX2_isBegun_11 : decode cX2_isBegun 11 = .ok (.iconst 0, 1) := by decide +kernel
theorem dX2_isBegun_12 : decode cX2_isBegun 12 = .ok (.ireturn, 1) := by decide +kernel
theorem dX2_hasRow_0 : decode cX2_hasRow 0 = .ok (.iload_n 1, 1) := by decide +kernel
theorem dX2_hasRow_1 : decode cX2_hasRow 1 = .ok (.ifCond .lt 15, 3) := by decide +kernel
theorem dX2_hasRow_4 : decode cX2_hasRow 4 = .ok (.iload_n 1, 1) := by decide +kernel
theorem dX2_hasRow_5 : decode cX2_hasRow 5 = .ok (.aload_n 0, 1) := by decide +kernel
theorem dX2_hasRow_6 : decode cX2_hasRow 6 = .ok (.getfield 51, 3) := by decide +kernel
theorem dX2_hasRow_9 : decode cX2_hasRow 9 = .ok (.if_icmp .ge 7, 3) := by decide +kernel
theorem dX2_hasRow_12 : decode cX2_hasRow 12 = .ok (.iconst 1, 1) := by decide +kernel
theorem dX2_hasRow_13 : decode cX2_hasRow 13 = .ok (.goto 4, 3) := by decide +kernel
theorem dX2_hasRow_16 : decode cX2_hasRow 16 = .ok (.iconst 0, 1) := by decide +kernel
theorem dX2_hasRow_17 : decode cX2_hasRow 17 = .ok (.ireturn, 1) := by decide +kernel
theorem dX2_places_0 : decode cX2_places 0 = .ok (.aload_n 0, 1) := by decide +kernel
theorem dX2_places_1 : decode cX2_places 1 = .ok (.getfield 54, 3) := by decide +kernel
theorem dX2_places_4 : decode cX2_places 4 = .ok (.iconst 1, 1) := by decide +kernel
theorem dX2_places_5 : decode cX2_places 5 = .ok (.iadd, 1) := by decide +kernel
theorem dX2_places_6 : decode cX2_places 6 = .ok (.ireturn, 1) := by decide +kernel
set_option maxRecDepth 20000 in
theorem ggX2_hasPlace_X2_places : GoodIn wsX2_hasPlace wsX2_places := goodIn_r _ [5, 6, 7, 8, 9, 10, 11, 12, 13, 14, 15, 16, 17, 18, 19] (by decide +kernel) (by decide +kernel)
set_option maxRecDepth 20000 in
theorem gX2_hasPlace_X2_places : GoodIn wsX2_hasPlace (wsV RX2 57 RX2 yX2_places wsX2_places) := goodIn_app (goodIn_of _ (by decide +kernel)) ggX2_hasPlace_X2_places
theorem dX2_hasPlace_0 : decode cX2_hasPlace 0 = .ok (.iload_n 1, 1) := by decide +kernel
theorem dX2_hasPlace_1 : decode cX2_hasPlace 1 = .ok (.ifCond .lt 15, 3) := by decide +kernel
theorem dX2_hasPlace_4 : decode cX2_hasPlace 4 = .ok (.iload_n 1, 1) := by decide +kernel
theorem dX2_hasPlace_5 : decode cX2_hasPlace 5 = .ok (.aload_n 0, 1) := by decide +kernel
theorem dX2_hasPlace_6 : decode cX2_hasPlace 6 = .ok (.invokevirtual 57, 3) := by decide +kernel
theorem dX2_hasPlace_9 : decode cX2_hasPlace 9 = .ok (.if_icmp .ge 7, 3) := by decide +kernel
theorem dX2_hasPlace_12 : decode cX2_hasPlace 12 = .ok (.iconst 1, 1) := by decide +kernel
theorem dX2_hasPlace_13 : decode cX2_hasPlace 13 = .ok (.goto 4, 3) := by decide +kernel
theorem dX2_hasPlace_16 : decode cX2_hasPlace 16 = .ok (.iconst 0, 1) := by decide +kernel
theorem dX2_hasPlace_17 : decode cX2_hasPlace 17 = .ok (.ireturn, 1) := by decide +kernel
theorem dX2_end_0 : decode cX2_end 0 = .ok (.aload_n 0, 1) := by decide +kernel
theorem dX2_end_1 : decode cX2_end 1 = .ok (.iconst 0, 1) := by decide +kernel
theorem dX2_end_2 : decode cX2_end 2 = .ok (.putfield 51, 3) := by decide +kernel
theorem dX2_end_5 : decode cX2_end 5 = .ok (.aload_n 0, 1) := by decide +kernel
theorem dX2_end_6 : decode cX2_end 6 = .ok (.iconst 0, 1) := by decide +kernel
theorem dX2_end_7 : decode cX2_end 7 = .ok (.putfield 54, 3) := by decide +kernel
theorem dX2_end_10 : decode cX2_end 10 = .ok (.aload_n 0, 1) := by decide +kernel
theorem dX2_end_11 : decode cX2_end 11 = .ok (.iconst 0, 1) := by decide +kernel
theorem dX2_end_12 : decode cX2_end 12 = .ok (.putfield 61, 3) := by decide +kernel
theorem dX2_end_15 : decode cX2_end 15 = .ok (.aload_n 0, 1) := by decide +kernel
theorem dX2_end_16 : decode cX2_end 16 = .ok (.ldc 22, 2) := by decide +kernel
theorem dX2_end_18 : decode cX2_end 18 = .ok (.putfield 23, 3) := by decide +kernel
theorem dX2_end_21 : decode cX2_end 21 = .ok (.aload_n 0, 1) := by decide +kernel
theorem dX2_end_22 : decode cX2_end 22 = .ok (.dconst 1, 1) := by decide +kernel
theorem dX2_end_23 : decode cX2_end 23 = .ok (.putfield 27, 3) := by decide +kernel
theorem dX2_end_26 : decode cX2_end 26 = .ok (.return_, 1) := by decide +kernel
set_option maxRecDepth 20000 in
theorem ggX2_beginWith_X2_end : GoodIn wsX2_beginWith wsX2_end := goodIn_r _ [10, 5, 11, 12, 13, 14, 15, 42, 43, 44, 45, 46, 47, 48, 49, 50, 51, 52, 53, 54] (by decide +kernel) (by decide +kernel)
set_option maxRecDepth 20000 in
theorem gX2_beginWith_X2_end : GoodIn wsX2_beginWith (wsV RX2 64 RX2 yX2_end wsX2_end) := goodIn_app (goodIn_of _ (by decide +kernel)) ggX2_beginWith_X2_end
set_option maxRecDepth 20000 in
theorem ggX2_beginWith_X0_byWeights : GoodIn wsX2_beginWith wsX0_byWeights := goodIn_ca (goodIn_r _ [20, 21, 22, 23, 24, 25, 26, 27, 19, 28, 29, 30, 31, 32, 33, 34, 35, 36, 37, 38, 39, 40, 41, 55, 56, 57, 58] (by decide +kernel) (by decide +kernel)) (goodIn_sub (fun _ h => List.mem_cons_of_mem _ (List.mem_append_right _ h)) (by decide +kernel))
set_option maxRecDepth 20000 in
theorem gX2_beginWith_X0_byWeights : GoodIn wsX2_beginWith (wsV RX2 67 RX0 yX0_byWeights wsX0_byWeights) := goodIn_app (goodIn_of _ (by decide +kernel)) ggX2_beginWith_X0_byWeights
theorem dX2_beginWith_0 : decode cX2_beginWith 0 = .ok (.aload_n 0, 1) := by decide +kernel
theorem dX2_beginWith_1 : decode cX2_beginWith 1 = .ok (.invokevirtual 64, 3) := by decide +kernel
theorem dX2_beginWith_4 : decode cX2_beginWith 4 = .ok (.iconst 0, 1) := by decide +kernel
theorem dX2_beginWith_5 : decode cX2_beginWith 5 = .ok (.istore 4, 2) := by decide +kernel
theorem dX2_beginWith_7 : decode cX2_beginWith 7 = .ok (.iload 4, 2) := by decide +kernel
theorem dX2_beginWith_9 : decode cX2_beginWith 9 = .ok (.iload_n 1, 1) := by decide +kernel
theorem dX2_beginWith_10 : decode cX2_beginWith 10 = .ok (.if_icmp .ge 56, 3) := by decide +kernel
theorem dX2_beginWith_13 : decode cX2_beginWith 13 = .ok (.aload_n 3, 1) := by decide +kernel
theorem dX2_beginWith_14 : decode cX2_beginWith 14 = .ok (.aload_n 2, 1) := by decide +kernel
theorem dX2_beginWith_15 : decode cX2_beginWith 15 = .ok (.bipush 6, 2) := by decide +kernel
theorem dX2_beginWith_17 : decode cX2_beginWith 17 = .ok (.invokevirtual 67, 3) := by decide +kernel
theorem dX2_beginWith_20 : decode cX2_beginWith 20 = .ok (.istore 5, 2) := by decide +kernel
theorem dX2_beginWith_22 : decode cX2_beginWith 22 = .ok (.iload 5, 2) := by decide +kernel
theorem dX2_beginWith_24 : decode cX2_beginWith 24 = .ok (.ldc 73, 2) := by decide +kernel
theorem dX2_beginWith_26 : decode cX2_beginWith 26 = .ok (.if_icmp .ne 6, 3) := by decide +kernel
theorem dX2_beginWith_29 : decode cX2_beginWith 29 = .ok (.ldc 73, 2) := by decide +kernel
theorem dX2_beginWith_31 : decode cX2_beginWith 31 = .ok (.ireturn, 1) := by decide +kernel
theorem dX2_beginWith_32 : decode cX2_beginWith 32 = .ok (.aload_n 0, 1) := by decide +kernel
theorem dX2_beginWith_33 : decode cX2_beginWith 33 = .ok (.getfield 31, 3) := by decide +kernel
theorem dX2_beginWith_36 : decode cX2_beginWith 36 = .ok (.iload 4, 2) := by decide +kernel
theorem dX2_beginWith_38 : decode cX2_beginWith 38 = .ok (.iload 5, 2) := by decide +kernel
theorem dX2_beginWith_40 : decode cX2_beginWith 40 = .ok (.iastore, 1) := by decide +kernel
theorem dX2_beginWith_41 : decode cX2_beginWith 41 = .ok (.aload_n 0, 1) := by decide +kernel
theorem dX2_beginWith_42 : decode cX2_beginWith 42 = .ok (.getfield 34, 3) := by decide +kernel
theorem dX2_beginWith_45 : decode cX2_beginWith 45 = .ok (.iload 4, 2) := by decide +kernel
theorem dX2_beginWith_47 : decode cX2_beginWith 47 = .ok (.iconst 1, 1) := by decide +kernel
theorem dX2_beginWith_48 : decode cX2_beginWith 48 = .ok (.iastore, 1) := by decide +kernel
theorem dX2_beginWith_49 : decode cX2_beginWith 49 = .ok (.aload_n 0, 1) := by decide +kernel
theorem dX2_beginWith_50 : decode cX2_beginWith 50 = .ok (.getfield 39, 3) := by decide +kernel
theorem dX2_beginWith_53 : decode cX2_beginWith 53 = .ok (.iload 4, 2) := by decide +kernel
theorem dX2_beginWith_55 : decode cX2_beginWith 55 = .ok (.aaload, 1) := by decide +kernel
theorem dX2_beginWith_56 : decode cX2_beginWith 56 = .ok (.iconst 0, 1) := by decide +kernel
theorem dX2_beginWith_57 : decode cX2_beginWith 57 = .ok (.iload 5, 2) := by decide +kernel
theorem dX2_beginWith_59 : decode cX2_beginWith 59 = .ok (.iastore, 1) := by decide +kernel
theorem dX2_beginWith_60 : decode cX2_beginWith 60 = .ok (.iinc 4 1, 3) := by decide +kernel
theorem dX2_beginWith_63 : decode cX2_beginWith 63 = .ok (.goto (-56), 3) := by decide +kernel
theorem dX2_beginWith_66 : decode cX2_beginWith 66 = .ok (.aload_n 0, 1) := by decide +kernel
theorem dX2_beginWith_67 : decode cX2_beginWith 67 = .ok (.iload_n 1, 1) := by decide +kernel
theorem dX2_beginWith_68 : decode cX2_beginWith 68 = .ok (.putfield 51, 3) := by decide +kernel
theorem dX2_beginWith_71 : decode cX2_beginWith 71 = .ok (.iload_n 1, 1) := by decide +kernel
theorem dX2_beginWith_72 : decode cX2_beginWith 72 = .ok (.ireturn, 1) := by decide +kernel
theorem dX2_standsAt_0 : decode cX2_standsAt 0 = .ok (.iconst 0, 1) := by decide +kernel
theorem dX2_standsAt_1 : decode cX2_standsAt 1 = .ok (.istore_n 3, 1) := by decide +kernel
theorem dX2_standsAt_2 : decode cX2_standsAt 2 = .ok (.iload_n 3, 1) := by decide +kernel
theorem dX2_standsAt_3 : decode cX2_standsAt 3 = .ok (.aload_n 0, 1) := by decide +kernel
theorem dX2_standsAt_4 : decode cX2_standsAt 4 = .ok (.getfield 51, 3) := by decide +kernel
theorem dX2_standsAt_7 : decode cX2_standsAt 7 = .ok (.if_icmp .ge 23, 3) := by decide +kernel
theorem dX2_standsAt_10 : decode cX2_standsAt 10 = .ok (.aload_n 2, 1) := by decide +kernel
theorem dX2_standsAt_11 : decode cX2_standsAt 11 = .ok (.aload_n 0, 1) := by decide +kernel
theorem dX2_standsAt_12 : decode cX2_standsAt 12 = .ok (.getfield 31, 3) := by decide +kernel
theorem dX2_standsAt_15 : decode cX2_standsAt 15 = .ok (.iload_n 3, 1) := by decide +kernel
theorem dX2_standsAt_16 : decode cX2_standsAt 16 = .ok (.iaload, 1) := by decide +kernel
theorem dX2_standsAt_17 : decode cX2_standsAt 17 = .ok (.iaload, 1) := by decide +kernel
theorem dX2_standsAt_18 : decode cX2_standsAt 18 = .ok (.iload_n 1, 1) := by decide +kernel
theorem dX2_standsAt_19 : decode cX2_standsAt 19 = .ok (.if_icmp .eq 5, 3) := by decide +kernel
theorem dX2_standsAt_22 : decode cX2_standsAt 22 = .ok (.iconst 0, 1) := by decide +kernel
theorem dX2_standsAt_23 : decode cX2_standsAt 23 = .ok (.ireturn, 1) := by decide +kernel
theorem dX2_standsAt_24 : decode cX2_standsAt 24 = .ok (.iinc 3 1, 3) := by decide +kernel
theorem dX2_standsAt_27 : decode cX2_standsAt 27 = .ok (.goto (-25), 3) := by decide +kernel
theorem dX2_standsAt_30 : decode cX2_standsAt 30 = .ok (.iconst 1, 1) := by decide +kernel
theorem dX2_standsAt_31 : decode cX2_standsAt 31 = .ok (.ireturn, 1) := by decide +kernel
set_option maxRecDepth 20000 in
theorem ggX2_goOn_X0_byWeights : GoodIn wsX2_goOn wsX0_byWeights := goodIn_ca (goodIn_r _ [15, 16, 17, 18, 19, 20, 21, 22, 14, 23, 24, 25, 26, 27, 28, 29, 30, 31, 32, 33, 34, 35, 36, 55, 56, 57, 58] (by decide +kernel) (by decide +kernel)) (goodIn_sub (fun _ h => List.mem_cons_of_mem _ (List.mem_append_right _ h)) (by decide +kernel))
set_option maxRecDepth 20000 in
theorem gX2_goOn_X0_byWeights : GoodIn wsX2_goOn (wsV RX2 67 RX0 yX0_byWeights wsX0_byWeights) := goodIn_app (goodIn_of _ (by decide +kernel)) ggX2_goOn_X0_byWeights
set_option maxRecDepth 20000 in
theorem ggX2_goOn_X2_takeNextStatesAndWeights : GoodIn wsX2_goOn wsX2_takeNextStatesAndWeights := goodIn_r _ [41, 2, 4, 6, 5, 42, 43, 44, 45, 46, 47, 48, 49, 50, 51, 52, 53, 54] (by decide +kernel) (by decide +kernel)
set_option maxRecDepth 20000 in
theorem gX2_goOn_X2_takeNextStatesAndWeights : GoodIn wsX2_goOn (wsV RX2 76 RX2 yX2_takeNextStatesAndWeights wsX2_takeNextStatesAndWeights) := goodIn_app (goodIn_of _ (by decide +kernel)) ggX2_goOn_X2_takeNextStatesAndWeights
theorem dX2_goOn_0 : decode cX2_goOn 0 = .ok (.iconst 0, 1) := by decide +kernel
theorem dX2_goOn_1 : decode cX2_goOn 1 = .ok (.istore 4, 2) := by decide +kernel
theorem dX2_goOn_3 : decode cX2_goOn 3 = .ok (.iload 4, 2) := by decide +kernel
theorem dX2_goOn_5 : decode cX2_goOn 5 = .ok (.aload_n 0, 1) := by decide +kernel
theorem dX2_goOn_6 : decode cX2_goOn 6 = .ok (.getfield 51, 3) := by decide +kernel
theorem dX2_goOn_9 : decode cX2_goOn 9 = .ok (.if_icmp .ge 45, 3) := by decide +kernel
theorem dX2_goOn_12 : decode cX2_goOn 12 = .ok (.aload_n 3, 1) := by decide +kernel
theorem dX2_goOn_13 : decode cX2_goOn 13 = .ok (.aload_n 1, 1) := by decide +kernel
theorem dX2_goOn_14 : decode cX2_goOn 14 = .ok (.aload_n 0, 1) := by decide +kernel
theorem dX2_goOn_15 : decode cX2_goOn 15 = .ok (.getfield 31, 3) := by decide +kernel
theorem dX2_goOn_18 : decode cX2_goOn 18 = .ok (.iload 4, 2) := by decide +kernel
theorem dX2_goOn_20 : decode cX2_goOn 20 = .ok (.iaload, 1) := by decide +kernel
theorem dX2_goOn_21 : decode cX2_goOn 21 = .ok (.aaload, 1) := by decide +kernel
theorem dX2_goOn_22 : decode cX2_goOn 22 = .ok (.bipush 6, 2) := by decide +kernel
theorem dX2_goOn_24 : decode cX2_goOn 24 = .ok (.invokevirtual 67, 3) := by decide +kernel
theorem dX2_goOn_27 : decode cX2_goOn 27 = .ok (.istore 5, 2) := by decide +kernel
theorem dX2_goOn_29 : decode cX2_goOn 29 = .ok (.iload 5, 2) := by decide +kernel
theorem dX2_goOn_31 : decode cX2_goOn 31 = .ok (.ldc 73, 2) := by decide +kernel
theorem dX2_goOn_33 : decode cX2_goOn 33 = .ok (.if_icmp .ne 6, 3) := by decide +kernel
theorem dX2_goOn_36 : decode cX2_goOn 36 = .ok (.ldc 73, 2) := by decide +kernel
theorem dX2_goOn_38 : decode cX2_goOn 38 = .ok (.ireturn, 1) := by decide +kernel
theorem dX2_goOn_39 : decode cX2_goOn 39 = .ok (.aload_n 0, 1) := by decide +kernel
theorem dX2_goOn_40 : decode cX2_goOn 40 = .ok (.getfield 42, 3) := by decide +kernel
theorem dX2_goOn_43 : decode cX2_goOn 43 = .ok (.iload 4, 2) := by decide +kernel
theorem dX2_goOn_45 : decode cX2_goOn 45 = .ok (.iload 5, 2) := by decide +kernel
theorem dX2_goOn_47 : decode cX2_goOn 47 = .ok (.iastore, 1) := by decide +kernel
theorem dX2_goOn_48 : decode cX2_goOn 48 = .ok (.iinc 4 1, 3) := by decide +kernel
theorem dX2_goOn_51 : decode cX2_goOn 51 = .ok (.goto (-48), 3) := by decide +kernel
theorem dX2_goOn_54 : decode cX2_goOn 54 = .ok (.iconst 0, 1) := by decide +kernel
theorem dX2_goOn_55 : decode cX2_goOn 55 = .ok (.istore 4, 2) := by decide +kernel
theorem dX2_goOn_57 : decode cX2_goOn 57 = .ok (.iload 4, 2) := by decide +kernel
theorem dX2_goOn_59 : decode cX2_goOn 59 = .ok (.aload_n 0, 1) := by decide +kernel
theorem dX2_goOn_60 : decode cX2_goOn 60 = .ok (.getfield 51, 3) := by decide +kernel
theorem dX2_goOn_63 : decode cX2_goOn 63 = .ok (.if_icmp .ge 48, 3) := by decide +kernel
theorem dX2_goOn_66 : decode cX2_goOn 66 = .ok (.aload_n 0, 1) := by decide +kernel
theorem dX2_goOn_67 : decode cX2_goOn 67 = .ok (.getfield 45, 3) := by decide +kernel
theorem dX2_goOn_70 : decode cX2_goOn 70 = .ok (.iload 4, 2) := by decide +kernel
theorem dX2_goOn_72 : decode cX2_goOn 72 = .ok (.aload_n 0, 1) := by decide +kernel
theorem dX2_goOn_73 : decode cX2_goOn 73 = .ok (.getfield 34, 3) := by decide +kernel
theorem dX2_goOn_76 : decode cX2_goOn 76 = .ok (.iload 4, 2) := by decide +kernel
theorem dX2_goOn_78 : decode cX2_goOn 78 = .ok (.iaload, 1) := by decide +kernel
theorem dX2_goOn_79 : decode cX2_goOn 79 = .ok (.aload_n 2, 1) := by decide +kernel
theorem dX2_goOn_80 : decode cX2_goOn 80 = .ok (.aload_n 0, 1) := by decide +kernel
theorem dX2_goOn_81 : decode cX2_goOn 81 = .ok (.getfield 42, 3) := by decide +kernel
theorem dX2_goOn_84 : decode cX2_goOn 84 = .ok (.iload 4, 2) := by decide +kernel
theorem dX2_goOn_86 : decode cX2_goOn 86 = .ok (.iaload, 1) := by decide +kernel
theorem dX2_goOn_87 : decode cX2_goOn 87 = .ok (.iaload, 1) := by decide +kernel
theorem dX2_goOn_88 : decode cX2_goOn 88 = .ok (.imul, 1) := by decide +kernel
theorem dX2_goOn_89 : decode cX2_goOn 89 = .ok (.iastore, 1) := by decide +kernel
theorem dX2_goOn_90 : decode cX2_goOn 90 = .ok (.aload_n 0, 1) := by decide +kernel
theorem dX2_goOn_91 : decode cX2_goOn 91 = .ok (.getfield 45, 3) := by decide +kernel
theorem dX2_goOn_94 : decode cX2_goOn 94 = .ok (.iload 4, 2) := by decide +kernel
theorem dX2_goOn_96 : decode cX2_goOn 96 = .ok (.iaload, 1) := by decide +kernel
theorem dX2_goOn_97 : decode cX2_goOn 97 = .ok (.ldc 74, 2) := by decide +kernel
theorem dX2_goOn_99 : decode cX2_goOn 99 = .ok (.if_icmp .le 6, 3) := by decide +kernel
theorem dX2_goOn_102 : decode cX2_goOn 102 = .ok (.ldc 75, 2) := by decide +kernel
theorem dX2_goOn_104 : decode cX2_goOn 104 = .ok (.ireturn, 1) := by decide +kernel
theorem dX2_goOn_105 : decode cX2_goOn 105 = .ok (.iinc 4 1, 3) := by decide +kernel
theorem dX2_goOn_108 : decode cX2_goOn 108 = .ok (.goto (-51), 3) := by decide +kernel
theorem dX2_goOn_111 : decode cX2_goOn 111 = .ok (.aload_n 0, 1) := by decide +kernel
theorem dX2_goOn_112 : decode cX2_goOn 112 = .ok (.invokevirtual 76, 3) := by decide +kernel
theorem dX2_goOn_115 : decode cX2_goOn 115 = .ok (.aload_n 0, 1) := by decide +kernel
theorem dX2_goOn_116 : decode cX2_goOn 116 = .ok (.dup, 1) := by decide +kernel
theorem dX2_goOn_117 : decode cX2_goOn 117 = .ok (.getfield 54, 3) := by decide +kernel
theorem dX2_goOn_120 : decode cX2_goOn 120 = .ok (.iconst 1, 1) := by decide +kernel
theorem dX2_goOn_121 : decode cX2_goOn 121 = .ok (.iadd, 1) := by decide +kernel
theorem dX2_goOn_122 : decode cX2_goOn 122 = .ok (.putfield 54, 3) := by decide +kernel
theorem dX2_goOn_125 : decode cX2_goOn 125 = .ok (.iconst 0, 1) := by decide +kernel
theorem dX2_goOn_126 : decode cX2_goOn 126 = .ok (.istore 4, 2) := by decide +kernel
theorem dX2_goOn_128 : decode cX2_goOn 128 = .ok (.iload 4, 2) := by decide +kernel
theorem dX2_goOn_130 : decode cX2_goOn 130 = .ok (.aload_n 0, 1) := by decide +kernel
theorem dX2_goOn_131 : decode cX2_goOn 131 = .ok (.getfield 51, 3) := by decide +kernel
theorem dX2_goOn_134 : decode cX2_goOn 134 = .ok (.if_icmp .ge 28, 3) := by decide +kernel
theorem dX2_goOn_137 : decode cX2_goOn 137 = .ok (.aload_n 0, 1) := by decide +kernel
theorem dX2_goOn_138 : decode cX2_goOn 138 = .ok (.getfield 39, 3) := by decide +kernel
theorem dX2_goOn_141 : decode cX2_goOn 141 = .ok (.iload 4, 2) := by decide +kernel
theorem dX2_goOn_143 : decode cX2_goOn 143 = .ok (.aaload, 1) := by decide +kernel
theorem dX2_goOn_144 : decode cX2_goOn 144 = .ok (.aload_n 0, 1) := by decide +kernel
theorem dX2_goOn_145 : decode cX2_goOn 145 = .ok (.getfield 54, 3) := by decide +kernel
theorem dX2_goOn_148 : decode cX2_goOn 148 = .ok (.aload_n 0, 1) := by decide +kernel
theorem dX2_goOn_149 : decode cX2_goOn 149 = .ok (.getfield 31, 3) := by decide +kernel
theorem dX2_goOn_152 : decode cX2_goOn 152 = .ok (.iload 4, 2) := by decide +kernel
theorem dX2_goOn_154 : decode cX2_goOn 154 = .ok (.iaload, 1) := by decide +kernel
theorem dX2_goOn_155 : decode cX2_goOn 155 = .ok (.iastore, 1) := by decide +kernel
theorem dX2_goOn_156 : decode cX2_goOn 156 = .ok (.iinc 4 1, 3) := by decide +kernel
theorem dX2_goOn_159 : decode cX2_goOn 159 = .ok (.goto (-31), 3) := by decide +kernel
theorem dX2_goOn_162 : decode cX2_goOn 162 = .ok (.aload_n 0, 1) := by decide +kernel
theorem dX2_goOn_163 : decode cX2_goOn 163 = .ok (.getfield 54, 3) := by decide +kernel
theorem dX2_goOn_166 : decode cX2_goOn 166 = .ok (.ireturn, 1) := by decide +kernel
theorem dX2_takeNextStatesAndWeights_0 : decode cX2_takeNextStatesAndWeights 0 = .ok (.aload_n 0, 1) := by decide +kernel
theorem dX2_takeNextStatesAndWeights_1 : decode cX2_takeNextStatesAndWeights 1 = .ok (.getfield 31, 3) := by decide +kernel
theorem dX2_takeNextStatesAndWeights_4 : decode cX2_takeNextStatesAndWeights 4 = .ok (.astore_n 1, 1) := by decide +kernel
theorem dX2_takeNextStatesAndWeights_5 : decode cX2_takeNextStatesAndWeights 5 = .ok (.aload_n 0, 1) := by decide +kernel
theorem dX2_takeNextStatesAndWeights_6 : decode cX2_takeNextStatesAndWeights 6 = .ok (.aload_n 0, 1) := by decide +kernel
theorem dX2_takeNextStatesAndWeights_7 : decode cX2_takeNextStatesAndWeights 7 = .ok (.getfield 42, 3) := by decide +kernel
theorem dX2_takeNextStatesAndWeights_10 : decode cX2_takeNextStatesAndWeights 10 = .ok (.putfield 31, 3) := by decide +kernel
theorem dX2_takeNextStatesAndWeights_13 : decode cX2_takeNextStatesAndWeights 13 = .ok (.aload_n 0, 1) := by decide +kernel
theorem dX2_takeNextStatesAndWeights_14 : decode cX2_takeNextStatesAndWeights 14 = .ok (.aload_n 1, 1) := by decide +kernel
theorem dX2_takeNextStatesAndWeights_15 : decode cX2_takeNextStatesAndWeights 15 = .ok (.putfield 42, 3) := by decide +kernel
theorem dX2_takeNextStatesAndWeights_18 : decode cX2_takeNextStatesAndWeights 18 = .ok (.aload_n 0, 1) := by decide +kernel
theorem dX2_takeNextStatesAndWeights_19 : decode cX2_takeNextStatesAndWeights 19 = .ok (.getfield 34, 3) := by decide +kernel
theorem dX2_takeNextStatesAndWeights_22 : decode cX2_takeNextStatesAndWeights 22 = .ok (.astore_n 2, 1) := by decide +kernel
theorem dX2_takeNextStatesAndWeights_23 : decode cX2_takeNextStatesAndWeights 23 = .ok (.aload_n 0, 1) := by decide +kernel
theorem dX2_takeNextStatesAndWeights_24 : decode cX2_takeNextStatesAndWeights 24 = .ok (.aload_n 0, 1) := by decide +kernel
theorem dX2_takeNextStatesAndWeights_25 : decode cX2_takeNextStatesAndWeights 25 = .ok (.getfield 45, 3) := by decide +kernel
theorem dX2_takeNextStatesAndWeights_28 : decode cX2_takeNextStatesAndWeights 28 = .ok (.putfield 34, 3) := by decide +kernel
theorem dX2_takeNextStatesAndWeights_31 : decode cX2_takeNextStatesAndWeights 31 = .ok (.aload_n 0, 1) := by decide +kernel
theorem dX2_takeNextStatesAndWeights_32 : decode cX2_takeNextStatesAndWeights 32 = .ok (.aload_n 2, 1) := by decide +kernel
theorem dX2_takeNextStatesAndWeights_33 : decode cX2_takeNextStatesAndWeights 33 = .ok (.putfield 45, 3) := by decide +kernel
theorem dX2_takeNextStatesAndWeights_36 : decode cX2_takeNextStatesAndWeights 36 = .ok (.return_, 1) := by decide +kernel
set_option maxRecDepth 20000 in
theorem ggX2_total_X4_sumOf : GoodIn wsX2_total wsX4_sumOf := goodIn_ca (goodIn_r _ [5] (by decide +kernel) (by decide +kernel)) (goodIn_sub (fun _ h => List.mem_cons_of_mem _ (List.mem_append_right _ h)) (by decide +kernel))
set_option maxRecDepth 20000 in
theorem gX2_total_X4_sumOf_n79 : GoodIn wsX2_total (wsX4_sumOf) := ggX2_total_X4_sumOf
theorem dX2_total_0 : decode cX2_total 0 = .ok (.aload_n 0, 1) := by decide +kernel
theorem dX2_total_1 : decode cX2_total 1 = .ok (.getfield 34, 3) := by decide +kernel
theorem dX2_total_4 : decode cX2_total 4 = .ok (.aload_n 0, 1) := by decide +kernel
theorem dX2_total_5 : decode cX2_total 5 = .ok (.getfield 51, 3) := by decide +kernel
theorem dX2_total_8 : decode cX2_total 8 = .ok (.invokestatic 79, 3) := by decide +kernel
theorem dX2_total_11 : decode cX2_total 11 = .ok (.lreturn, 1) := by decide +kernel
theorem dX2_squares_0 : decode cX2_squares 0 = .ok (.lconst 0, 1) := by decide +kernel
theorem dX2_squares_1 : decode cX2_squares 1 = .ok (.lstore_n 1, 1) := by decide +kernel
theorem dX2_squares_2 : decode cX2_squares 2 = .ok (.iconst 0, 1) := by decide +kernel
theorem dX2_squares_3 : decode cX2_squares 3 = .ok (.istore_n 3, 1) := by decide +kernel
theorem dX2_squares_4 : decode cX2_squares 4 = .ok (.iload_n 3, 1) := by decide +kernel
theorem dX2_squares_5 : decode cX2_squares 5 = .ok (.aload_n 0, 1) := by decide +kernel
theorem dX2_squares_6 : decode cX2_squares 6 = .ok (.getfield 51, 3) := by decide +kernel
theorem dX2_squares_9 : decode cX2_squares 9 = .ok (.if_icmp .ge 27, 3) := by decide +kernel
theorem dX2_squares_12 : decode cX2_squares 12 = .ok (.lload_n 1, 1) := by decide +kernel
theorem dX2_squares_13 : decode cX2_squares 13 = .ok (.aload_n 0, 1) := by decide +kernel
theorem dX2_squares_14 : decode cX2_squares 14 = .ok (.getfield 34, 3) := by decide +kernel
theorem dX2_squares_17 : decode cX2_squares 17 = .ok (.iload_n 3, 1) := by decide +kernel
theorem dX2_squares_18 : decode cX2_squares 18 = .ok (.iaload, 1) := by decide +kernel
theorem dX2_squares_19 : decode cX2_squares 19 = .ok (.i2l, 1) := by decide +kernel
theorem dX2_squares_20 : decode cX2_squares 20 = .ok (.aload_n 0, 1) := by decide +kernel
theorem dX2_squares_21 : decode cX2_squares 21 = .ok (.getfield 34, 3) := by decide +kernel
theorem dX2_squares_24 : decode cX2_squares 24 = .ok (.iload_n 3, 1) := by decide +kernel
theorem dX2_squares_25 : decode cX2_squares 25 = .ok (.iaload, 1) := by decide +kernel
theorem dX2_squares_26 : decode cX2_squares 26 = .ok (.i2l, 1) := by decide +kernel
theorem dX2_squares_27 : decode cX2_squares 27 = .ok (.lmul, 1) := by decide +kernel
theorem dX2_squares_28 : decode cX2_squares 28 = .ok (.ladd, 1) := by decide +kernel
theorem dX2_squares_29 : decode cX2_squares 29 = .ok (.lstore_n 1, 1) := by decide +kernel
theorem dX2_squares_30 : decode cX2_squares 30 = .ok (.iinc 3 1, 3) := by decide +kernel
theorem dX2_squares_33 : decode cX2_squares 33 = .ok (.goto (-29), 3) := by decide +kernel
theorem dX2_squares_36 : decode cX2_squares 36 = .ok (.lload_n 1, 1) := by decide +kernel
theorem dX2_squares_37 : decode cX2_squares 37 = .ok (.lreturn, 1) := by decide +kernel
set_option maxRecDepth 20000 in
theorem ggX2_effective_X2_squares : GoodIn wsX2_effective wsX2_squares := goodIn_ca (goodIn_r _ [5, 6, 7, 15, 16, 17, 18, 19, 20, 21, 22, 23, 24, 25, 26, 27] (by decide +kernel) (by decide +kernel)) (goodIn_sub (fun _ h => List.mem_cons_of_mem _ (List.mem_append_right _ h)) (by decide +kernel))
set_option maxRecDepth 20000 in
theorem gX2_effective_X2_squares : GoodIn wsX2_effective (wsV RX2 83 RX2 yX2_squares wsX2_squares) := goodIn_app (goodIn_of _ (by decide +kernel)) ggX2_effective_X2_squares
set_option maxRecDepth 20000 in
theorem ggX2_effective_X2_total : GoodIn wsX2_effective wsX2_total := goodIn_ca (goodIn_r _ [11, 7, 6, 12, 13, 14, 15, 16, 17, 18, 19, 20, 21, 22, 23, 24, 25, 26, 27] (by decide +kernel) (by decide +kernel)) (goodIn_sub (fun _ h => List.mem_cons_of_mem _ (List.mem_append_right _ h)) (by decide +kernel))
set_option maxRecDepth 20000 in
theorem gX2_effective_X2_total : GoodIn wsX2_effective (wsV RX2 87 RX2 yX2_total wsX2_total) := goodIn_app (goodIn_of _ (by decide +kernel)) ggX2_effective_X2_total
theorem dX2_effective_0 : decode cX2_effective 0 = .ok (.aload_n 0, 1) := by decide +kernel
theorem dX2_effective_1 : decode cX2_effective 1 = .ok (.invokevirtual 83, 3) := by decide +kernel
theorem dX2_effective_4 : decode cX2_effective 4 = .ok (.lstore_n 1, 1) := by decide +kernel
theorem dX2_effective_5 : decode cX2_effective 5 = .ok (.lload_n 1, 1) := by decide +kernel
theorem dX2_effective_6 : decode cX2_effective 6 = .ok (.lconst 0, 1) := by decide +kernel
theorem dX2_effective_7 : decode cX2_effective 7 = .ok (.lcmp, 1) := by decide +kernel
theorem dX2_effective_8 : decode cX2_effective 8 = .ok (.ifCond .ne 7, 3) := by decide +kernel
theorem dX2_effective_11 : decode cX2_effective 11 = .ok (.lconst 0, 1) := by decide +kernel
theorem dX2_effective_12 : decode cX2_effective 12 = .ok (.goto 14, 3) := by decide +kernel
theorem dX2_effective_15 : decode cX2_effective 15 = .ok (.aload_n 0, 1) := by decide +kernel
theorem dX2_effective_16 : decode cX2_effective 16 = .ok (.invokevirtual 87, 3) := by decide +kernel
theorem dX2_effective_19 : decode cX2_effective 19 = .ok (.aload_n 0, 1) := by decide +kernel
theorem dX2_effective_20 : decode cX2_effective 20 = .ok (.invokevirtual 87, 3) := by decide +kernel
theorem dX2_effective_23 : decode cX2_effective 23 = .ok (.lmul, 1) := by decide +kernel
theorem dX2_effective_24 : decode cX2_effective 24 = .ok (.lload_n 1, 1) := by decide +kernel
theorem dX2_effective_25 : decode cX2_effective 25 = .ok (.ldiv, 1) := by decide +kernel
theorem dX2_effective_26 : decode cX2_effective 26 = .ok (.lreturn, 1) := by decide +kernel
set_option maxRecDepth 20000 in
theorem ggX2_isEffectiveBelow_X2_total : GoodIn wsX2_isEffectiveBelow wsX2_total := goodIn_ca (goodIn_r _ [7, 8, 2, 9, 10, 11, 16, 17, 18, 19, 20, 21, 22, 23, 24, 25, 26, 27, 28] (by decide +kernel) (by decide +kernel)) (goodIn_sub (fun _ h => List.mem_cons_of_mem _ (List.mem_append_right _ h)) (by decide +kernel))
set_option maxRecDepth 20000 in
theorem gX2_isEffectiveBelow_X2_total : GoodIn wsX2_isEffectiveBelow (wsV RX2 87 RX2 yX2_total wsX2_total) := goodIn_app (goodIn_of _ (by decide +kernel)) ggX2_isEffectiveBelow_X2_total
set_option maxRecDepth 20000 in
theorem ggX2_isEffectiveBelow_X2_squares : GoodIn wsX2_isEffectiveBelow wsX2_squares := goodIn_ca (goodIn_r _ [15, 2, 8, 16, 17, 18, 19, 20, 21, 22, 23, 24, 25, 26, 27, 28] (by decide +kernel) (by decide +kernel)) (goodIn_sub (fun _ h => List.mem_cons_of_mem _ (List.mem_append_right _ h)) (by decide +kernel))
set_option maxRecDepth 20000 in
theorem gX2_isEffectiveBelow_X2_squares : GoodIn wsX2_isEffectiveBelow (wsV RX2 83 RX2 yX2_squares wsX2_squares) := goodIn_app (goodIn_of _ (by decide +kernel)) ggX2_isEffectiveBelow_X2_squares
theorem dX2_isEffectiveBelow_0 : decode cX2_isEffectiveBelow 0 = .ok (.ldc2_w 90, 3) := by decide +kernel
theorem dX2_isEffectiveBelow_3 : decode cX2_isEffectiveBelow 3 = .ok (.aload_n 0, 1) := by decide +kernel
theorem dX2_isEffectiveBelow_4 : decode cX2_isEffectiveBelow 4 = .ok (.invokevirtual 87, 3) := by decide +kernel
theorem dX2_isEffectiveBelow_7 : decode cX2_isEffectiveBelow 7 = .ok (.lmul, 1) := by decide +kernel
theorem dX2_isEffectiveBelow_8 : decode cX2_isEffectiveBelow 8 = .ok (.aload_n 0, 1) := by decide +kernel
theorem dX2_isEffectiveBelow_9 : decode cX2_isEffectiveBelow 9 = .ok (.invokevirtual 87, 3) := by decide +kernel
theorem dX2_isEffectiveBelow_12 : decode cX2_isEffectiveBelow 12 = .ok (.lmul, 1) := by decide +kernel
theorem dX2_isEffectiveBelow_13 : decode cX2_isEffectiveBelow 13 = .ok (.iload_n 1, 1) := by decide +kernel
theorem dX2_isEffectiveBelow_14 : decode cX2_isEffectiveBelow 14 = .ok (.aload_n 0, 1) := by decide +kernel
theorem dX2_isEffectiveBelow_15 : decode cX2_isEffectiveBelow 15 = .ok (.getfield 51, 3) := by decide +kernel
theorem dX2_isEffectiveBelow_18 : decode cX2_isEffectiveBelow 18 = .ok (.imul, 1) := by decide +kernel
theorem dX2_isEffectiveBelow_19 : decode cX2_isEffectiveBelow 19 = .ok (.i2l, 1) := by decide +kernel
theorem dX2_isEffectiveBelow_20 : decode cX2_isEffectiveBelow 20 = .ok (.aload_n 0, 1) := by decide +kernel
theorem dX2_isEffectiveBelow_21 : decode cX2_isEffectiveBelow 21 = .ok (.invokevirtual 83, 3) := by decide +kernel
theorem dX2_isEffectiveBelow_24 : decode cX2_isEffectiveBelow 24 = .ok (.lmul, 1) := by decide +kernel
theorem dX2_isEffectiveBelow_25 : decode cX2_isEffectiveBelow 25 = .ok (.lcmp, 1) := by decide +kernel
theorem dX2_isEffectiveBelow_26 : decode cX2_isEffectiveBelow 26 = .ok (.ifCond .ge 7, 3) := by decide +kernel
theorem dX2_isEffectiveBelow_29 : decode cX2_isEffectiveBelow 29 = .ok (.iconst 1, 1) := by decide +kernel
theorem dX2_isEffectiveBelow_30 : decode cX2_isEffectiveBelow 30 = .ok (.goto 4, 3) := by decide +kernel
theorem dX2_isEffectiveBelow_33 : decode cX2_isEffectiveBelow 33 = .ok (.iconst 0, 1) := by decide +kernel
theorem dX2_isEffectiveBelow_34 : decode cX2_isEffectiveBelow 34 = .ok (.ireturn, 1) := by decide +kernel
set_option maxRecDepth 20000 in
theorem ggX2_evidenceSoFar_X2_total : GoodIn wsX2_evidenceSoFar wsX2_total := goodIn_ca (goodIn_r _ [7, 8, 2, 9, 10, 11, 12, 13, 14, 15, 16, 17, 18, 19, 20, 21, 22, 23, 24] (by decide +kernel) (by decide +kernel)) (goodIn_sub (fun _ h => List.mem_cons_of_mem _ (List.mem_append_right _ h)) (by decide +kernel))
set_option maxRecDepth 20000 in
theorem gX2_evidenceSoFar_X2_total : GoodIn wsX2_evidenceSoFar (wsV RX2 87 RX2 yX2_total wsX2_total) := goodIn_app (goodIn_of _ (by decide +kernel)) ggX2_evidenceSoFar_X2_total
theorem dX2_evidenceSoFar_0 : decode cX2_evidenceSoFar 0 = .ok (.aload_n 0, 1) := by decide +kernel
theorem dX2_evidenceSoFar_1 : decode cX2_evidenceSoFar 1 = .ok (.getfield 27, 3) := by decide +kernel
theorem dX2_evidenceSoFar_4 : decode cX2_evidenceSoFar 4 = .ok (.aload_n 0, 1) := by decide +kernel
theorem dX2_evidenceSoFar_5 : decode cX2_evidenceSoFar 5 = .ok (.invokevirtual 87, 3) := by decide +kernel
theorem dX2_evidenceSoFar_8 : decode cX2_evidenceSoFar 8 = .ok (.l2d, 1) := by decide +kernel
theorem dX2_evidenceSoFar_9 : decode cX2_evidenceSoFar 9 = .ok (.aload_n 0, 1) := by decide +kernel
theorem dX2_evidenceSoFar_10 : decode cX2_evidenceSoFar 10 = .ok (.getfield 51, 3) := by decide +kernel
theorem dX2_evidenceSoFar_13 : decode cX2_evidenceSoFar 13 = .ok (.i2d, 1) := by decide +kernel
theorem dX2_evidenceSoFar_14 : decode cX2_evidenceSoFar 14 = .ok (.ddiv, 1) := by decide +kernel
theorem dX2_evidenceSoFar_15 : decode cX2_evidenceSoFar 15 = .ok (.dmul, 1) := by decide +kernel
theorem dX2_evidenceSoFar_16 : decode cX2_evidenceSoFar 16 = .ok (.dreturn, 1) := by decide +kernel
set_option maxRecDepth 20000 in
theorem ggX2_drawAnew_X2_total : GoodIn wsX2_drawAnew wsX2_total := goodIn_ca (goodIn_r _ [13, 14, 5, 15, 16, 17, 124, 125, 126, 127, 128, 129, 130, 131, 132, 133, 134, 135, 136] (by decide +kernel) (by decide +kernel)) (goodIn_sub (fun _ h => List.mem_cons_of_mem _ (List.mem_append_right _ h)) (by decide +kernel))
set_option maxRecDepth 20000 in
theorem gX2_drawAnew_X2_total : GoodIn wsX2_drawAnew (wsV RX2 87 RX2 yX2_total wsX2_total) := goodIn_app (goodIn_of _ (by decide +kernel)) ggX2_drawAnew_X2_total
set_option maxRecDepth 20000 in
theorem ggX2_drawAnew_X2_evidenceSoFar : GoodIn wsX2_drawAnew wsX2_evidenceSoFar := goodIn_ca (goodIn_r _ [21, 2, 5, 9, 10, 11, 12, 13, 14, 15, 16, 17, 124, 125, 126, 127, 128, 129, 130, 131, 132, 133, 134, 135, 136] (by decide +kernel) (by decide +kernel)) (goodIn_sub (fun _ h => List.mem_cons_of_mem _ (List.mem_append_right _ h)) (by decide +kernel))
set_option maxRecDepth 20000 in
theorem gX2_drawAnew_X2_evidenceSoFar : GoodIn wsX2_drawAnew (wsV RX2 92 RX2 yX2_evidenceSoFar wsX2_evidenceSoFar) := goodIn_app (goodIn_of _ (by decide +kernel)) ggX2_drawAnew_X2_evidenceSoFar
set_option maxRecDepth 20000 in
theorem ggX2_drawAnew_X1_pick : GoodIn wsX2_drawAnew wsX1_pick := goodIn_ca (goodIn_r _ [26, 27, 28, 29, 30, 31, 32, 33, 34, 35, 36, 25, 37, 38, 39, 40, 41, 42, 43, 44, 45, 46, 47, 48, 49, 50, 51, 52, 53, 15, 16, 17, 54, 55, 56, 57, 58, 59, 60, 61, 62, 63, 64, 65, 66, 67, 68, 69, 70, 71, 72, 73, 74, 75, 10, 11, 12, 13, 14, 5, 76, 77, 78, 79, 80, 81, 82, 83, 84, 85, 86, 87, 88, 89, 137, 138, 124, 125, 126, 127, 128, 129, 130, 131, 132, 133, 134, 135, 136, 139, 140, 141, 142] (by decide +kernel) (by decide +kernel)) (goodIn_sub (fun _ h => List.mem_cons_of_mem _ (List.mem_append_right _ h)) (by decide +kernel))
set_option maxRecDepth 20000 in
theorem gX2_drawAnew_X1_pick : GoodIn wsX2_drawAnew (wsV RX2 96 RX1 yX1_pick wsX1_pick) := goodIn_app (goodIn_of _ (by decide +kernel)) ggX2_drawAnew_X1_pick
set_option maxRecDepth 20000 in
theorem ggX2_drawAnew_X1_putInOrder : GoodIn wsX2_drawAnew wsX1_putInOrder := goodIn_ca (goodIn_r _ [93, 27, 137, 138] (by decide +kernel) (by decide +kernel)) (goodIn_sub (fun _ h => List.mem_cons_of_mem _ (List.mem_append_right _ h)) (by decide +kernel))
set_option maxRecDepth 20000 in
theorem gX2_drawAnew_X1_putInOrder : GoodIn wsX2_drawAnew (wsV RX2 100 RX1 yX1_putInOrder wsX1_putInOrder) := goodIn_app (goodIn_of _ (by decide +kernel)) ggX2_drawAnew_X1_putInOrder
set_option maxRecDepth 20000 in
theorem ggX2_drawAnew_X2_becomePicked : GoodIn wsX2_drawAnew wsX2_becomePicked := goodIn_ca (goodIn_r _ [97, 5, 4, 98, 99, 100, 101, 102, 103, 104, 105, 106, 107, 108, 109, 12, 110, 111, 112, 113, 114, 115, 14, 124, 125, 126, 127, 128, 129, 130, 131, 132, 133, 134, 135, 136] (by decide +kernel) (by decide +kernel)) (goodIn_sub (fun _ h => List.mem_cons_of_mem _ (List.mem_append_right _ h)) (by decide +kernel))
set_option maxRecDepth 20000 in
theorem gX2_drawAnew_X2_becomePicked : GoodIn wsX2_drawAnew (wsV RX2 104 RX2 yX2_becomePicked wsX2_becomePicked) := goodIn_app (goodIn_of _ (by decide +kernel)) ggX2_drawAnew_X2_becomePicked
set_option maxRecDepth 20000 in
theorem ggX2_drawAnew_X2_firstThatWas : GoodIn wsX2_drawAnew wsX2_firstThatWas := goodIn_ca (goodIn_r _ [119, 5, 4, 7, 124, 125, 126, 127, 128, 129, 130, 131, 132, 133, 134, 135, 136] (by decide +kernel) (by decide +kernel)) (goodIn_sub (fun _ h => List.mem_cons_of_mem _ (List.mem_append_right _ h)) (by decide +kernel))
set_option maxRecDepth 20000 in
theorem gX2_drawAnew_X2_firstThatWas : GoodIn wsX2_drawAnew (wsV RX2 107 RX2 yX2_firstThatWas wsX2_firstThatWas) := goodIn_app (goodIn_of _ (by decide +kernel)) ggX2_drawAnew_X2_firstThatWas
set_option maxRecDepth 20000 in
theorem ggX2_drawAnew_X1_unlike : GoodIn wsX2_drawAnew wsX1_unlike := goodIn_ca (goodIn_r _ [123, 27, 137, 138] (by decide +kernel) (by decide +kernel)) (goodIn_sub (fun _ h => List.mem_cons_of_mem _ (List.mem_append_right _ h)) (by decide +kernel))
set_option maxRecDepth 20000 in
theorem gX2_drawAnew_X1_unlike : GoodIn wsX2_drawAnew (wsV RX2 111 RX1 yX1_unlike wsX1_unlike) := goodIn_app (goodIn_of _ (by decide +kernel)) ggX2_drawAnew_X1_unlike
theorem dX2_drawAnew_0 : decode cX2_drawAnew 0 = .ok (.aload_n 0, 1) := by decide +kernel
theorem dX2_drawAnew_1 : decode cX2_drawAnew 1 = .ok (.invokevirtual 87, 3) := by decide +kernel
theorem dX2_drawAnew_4 : decode cX2_drawAnew 4 = .ok (.lconst 0, 1) := by decide +kernel
theorem dX2_drawAnew_5 : decode cX2_drawAnew 5 = .ok (.lcmp, 1) := by decide +kernel
theorem dX2_drawAnew_6 : decode cX2_drawAnew 6 = .ok (.ifCond .ne 6, 3) := by decide +kernel
theorem dX2_drawAnew_9 : decode cX2_drawAnew 9 = .ok (.ldc 73, 2) := by decide +kernel
theorem dX2_drawAnew_11 : decode cX2_drawAnew 11 = .ok (.ireturn, 1) := by decide +kernel
theorem dX2_drawAnew_12 : decode cX2_drawAnew 12 = .ok (.aload_n 0, 1) := by decide +kernel
theorem dX2_drawAnew_13 : decode cX2_drawAnew 13 = .ok (.aload_n 0, 1) := by decide +kernel
theorem dX2_drawAnew_14 : decode cX2_drawAnew 14 = .ok (.invokevirtual 92, 3) := by decide +kernel
theorem dX2_drawAnew_17 : decode cX2_drawAnew 17 = .ok (.putfield 27, 3) := by decide +kernel
theorem dX2_drawAnew_20 : decode cX2_drawAnew 20 = .ok (.aload_n 0, 1) := by decide +kernel
theorem dX2_drawAnew_21 : decode cX2_drawAnew 21 = .ok (.getfield 12, 3) := by decide +kernel
theorem dX2_drawAnew_24 : decode cX2_drawAnew 24 = .ok (.iload_n 1, 1) := by decide +kernel
theorem dX2_drawAnew_25 : decode cX2_drawAnew 25 = .ok (.aload_n 0, 1) := by decide +kernel
theorem dX2_drawAnew_26 : decode cX2_drawAnew 26 = .ok (.aload_n 2, 1) := by decide +kernel
theorem dX2_drawAnew_27 : decode cX2_drawAnew 27 = .ok (.invokevirtual 96, 3) := by decide +kernel
theorem dX2_drawAnew_30 : decode cX2_drawAnew 30 = .ok (.aload_n 0, 1) := by decide +kernel
theorem dX2_drawAnew_31 : decode cX2_drawAnew 31 = .ok (.getfield 12, 3) := by decide +kernel
theorem dX2_drawAnew_34 : decode cX2_drawAnew 34 = .ok (.aload_n 0, 1) := by decide +kernel
theorem dX2_drawAnew_35 : decode cX2_drawAnew 35 = .ok (.getfield 18, 3) := by decide +kernel
theorem dX2_drawAnew_38 : decode cX2_drawAnew 38 = .ok (.aload_n 0, 1) := by decide +kernel
theorem dX2_drawAnew_39 : decode cX2_drawAnew 39 = .ok (.getfield 51, 3) := by decide +kernel
theorem dX2_drawAnew_42 : decode cX2_drawAnew 42 = .ok (.invokevirtual 100, 3) := by decide +kernel
theorem dX2_drawAnew_45 : decode cX2_drawAnew 45 = .ok (.aload_n 0, 1) := by decide +kernel
theorem dX2_drawAnew_46 : decode cX2_drawAnew 46 = .ok (.invokevirtual 104, 3) := by decide +kernel
theorem dX2_drawAnew_49 : decode cX2_drawAnew 49 = .ok (.aload_n 0, 1) := by decide +kernel
theorem dX2_drawAnew_50 : decode cX2_drawAnew 50 = .ok (.getfield 23, 3) := by decide +kernel
theorem dX2_drawAnew_53 : decode cX2_drawAnew 53 = .ok (.ldc 22, 2) := by decide +kernel
theorem dX2_drawAnew_55 : decode cX2_drawAnew 55 = .ok (.if_icmp .eq 15, 3) := by decide +kernel
theorem dX2_drawAnew_58 : decode cX2_drawAnew 58 = .ok (.aload_n 0, 1) := by decide +kernel
theorem dX2_drawAnew_59 : decode cX2_drawAnew 59 = .ok (.aload_n 0, 1) := by decide +kernel
theorem dX2_drawAnew_60 : decode cX2_drawAnew 60 = .ok (.aload_n 0, 1) := by decide +kernel
theorem dX2_drawAnew_61 : decode cX2_drawAnew 61 = .ok (.getfield 23, 3) := by decide +kernel
theorem dX2_drawAnew_64 : decode cX2_drawAnew 64 = .ok (.invokevirtual 107, 3) := by decide +kernel
theorem dX2_drawAnew_67 : decode cX2_drawAnew 67 = .ok (.putfield 23, 3) := by decide +kernel
theorem dX2_drawAnew_70 : decode cX2_drawAnew 70 = .ok (.aload_n 0, 1) := by decide +kernel
theorem dX2_drawAnew_71 : decode cX2_drawAnew 71 = .ok (.dup, 1) := by decide +kernel
theorem dX2_drawAnew_72 : decode cX2_drawAnew 72 = .ok (.getfield 61, 3) := by decide +kernel
theorem dX2_drawAnew_75 : decode cX2_drawAnew 75 = .ok (.iconst 1, 1) := by decide +kernel
theorem dX2_drawAnew_76 : decode cX2_drawAnew 76 = .ok (.iadd, 1) := by decide +kernel
theorem dX2_drawAnew_77 : decode cX2_drawAnew 77 = .ok (.putfield 61, 3) := by decide +kernel
theorem dX2_drawAnew_80 : decode cX2_drawAnew 80 = .ok (.aload_n 0, 1) := by decide +kernel
theorem dX2_drawAnew_81 : decode cX2_drawAnew 81 = .ok (.getfield 12, 3) := by decide +kernel
theorem dX2_drawAnew_84 : decode cX2_drawAnew 84 = .ok (.aload_n 0, 1) := by decide +kernel
theorem dX2_drawAnew_85 : decode cX2_drawAnew 85 = .ok (.getfield 51, 3) := by decide +kernel
theorem dX2_drawAnew_88 : decode cX2_drawAnew 88 = .ok (.invokevirtual 111, 3) := by decide +kernel
theorem dX2_drawAnew_91 : decode cX2_drawAnew 91 = .ok (.ireturn, 1) := by decide +kernel
set_option maxRecDepth 20000 in
theorem ggX2_becomePicked_X2_places : GoodIn wsX2_becomePicked wsX2_places := goodIn_r _ [16, 17, 23, 24, 25, 26, 27, 28, 29, 30, 31, 32, 33, 34, 35] (by decide +kernel) (by decide +kernel)
set_option maxRecDepth 20000 in
theorem gX2_becomePicked_X2_places : GoodIn wsX2_becomePicked (wsV RX2 57 RX2 yX2_places wsX2_places) := goodIn_app (goodIn_of _ (by decide +kernel)) ggX2_becomePicked_X2_places
set_option maxRecDepth 20000 in
theorem ggX2_becomePicked_X2_takeNextStatesAndWeights : GoodIn wsX2_becomePicked wsX2_takeNextStatesAndWeights := goodIn_r _ [21, 4, 3, 22, 5, 23, 24, 25, 26, 27, 28, 29, 30, 31, 32, 33, 34, 35] (by decide +kernel) (by decide +kernel)
set_option maxRecDepth 20000 in
theorem gX2_becomePicked_X2_takeNextStatesAndWeights : GoodIn wsX2_becomePicked (wsV RX2 76 RX2 yX2_takeNextStatesAndWeights wsX2_takeNextStatesAndWeights) := goodIn_app (goodIn_of _ (by decide +kernel)) ggX2_becomePicked_X2_takeNextStatesAndWeights
theorem dX2_becomePicked_0 : decode cX2_becomePicked 0 = .ok (.iconst 0, 1) := by decide +kernel
theorem dX2_becomePicked_1 : decode cX2_becomePicked 1 = .ok (.istore_n 1, 1) := by decide +kernel
theorem dX2_becomePicked_2 : decode cX2_becomePicked 2 = .ok (.iload_n 1, 1) := by decide +kernel
theorem dX2_becomePicked_3 : decode cX2_becomePicked 3 = .ok (.aload_n 0, 1) := by decide +kernel
theorem dX2_becomePicked_4 : decode cX2_becomePicked 4 = .ok (.getfield 51, 3) := by decide +kernel
theorem dX2_becomePicked_7 : decode cX2_becomePicked 7 = .ok (.if_icmp .ge 56, 3) := by decide +kernel
theorem dX2_becomePicked_10 : decode cX2_becomePicked 10 = .ok (.aload_n 0, 1) := by decide +kernel
theorem dX2_becomePicked_11 : decode cX2_becomePicked 11 = .ok (.getfield 18, 3) := by decide +kernel
theorem dX2_becomePicked_14 : decode cX2_becomePicked 14 = .ok (.iload_n 1, 1) := by decide +kernel
theorem dX2_becomePicked_15 : decode cX2_becomePicked 15 = .ok (.iaload, 1) := by decide +kernel
theorem dX2_becomePicked_16 : decode cX2_becomePicked 16 = .ok (.istore_n 2, 1) := by decide +kernel
theorem dX2_becomePicked_17 : decode cX2_becomePicked 17 = .ok (.aload_n 0, 1) := by decide +kernel
theorem dX2_becomePicked_18 : decode cX2_becomePicked 18 = .ok (.getfield 42, 3) := by decide +kernel
theorem dX2_becomePicked_21 : decode cX2_becomePicked 21 = .ok (.iload_n 1, 1) := by decide +kernel
theorem dX2_becomePicked_22 : decode cX2_becomePicked 22 = .ok (.aload_n 0, 1) := by decide +kernel
theorem dX2_becomePicked_23 : decode cX2_becomePicked 23 = .ok (.getfield 31, 3) := by decide +kernel
theorem dX2_becomePicked_26 : decode cX2_becomePicked 26 = .ok (.iload_n 2, 1) := by decide +kernel
theorem dX2_becomePicked_27 : decode cX2_becomePicked 27 = .ok (.iaload, 1) := by decide +kernel
theorem dX2_becomePicked_28 : decode cX2_becomePicked 28 = .ok (.iastore, 1) := by decide +kernel
theorem dX2_becomePicked_29 : decode cX2_becomePicked 29 = .ok (.aload_n 0, 1) := by decide +kernel
theorem dX2_becomePicked_30 : decode cX2_becomePicked 30 = .ok (.getfield 45, 3) := by decide +kernel
theorem dX2_becomePicked_33 : decode cX2_becomePicked 33 = .ok (.iload_n 1, 1) := by decide +kernel
theorem dX2_becomePicked_34 : decode cX2_becomePicked 34 = .ok (.iconst 1, 1) := by decide +kernel
theorem dX2_becomePicked_35 : decode cX2_becomePicked 35 = .ok (.iastore, 1) := by decide +kernel
theorem dX2_becomePicked_36 : decode cX2_becomePicked 36 = .ok (.aload_n 0, 1) := by decide +kernel
theorem dX2_becomePicked_37 : decode cX2_becomePicked 37 = .ok (.getfield 39, 3) := by decide +kernel
theorem dX2_becomePicked_40 : decode cX2_becomePicked 40 = .ok (.iload_n 2, 1) := by decide +kernel
theorem dX2_becomePicked_41 : decode cX2_becomePicked 41 = .ok (.aaload, 1) := by decide +kernel
theorem dX2_becomePicked_42 : decode cX2_becomePicked 42 = .ok (.iconst 0, 1) := by decide +kernel
theorem dX2_becomePicked_43 : decode cX2_becomePicked 43 = .ok (.aload_n 0, 1) := by decide +kernel
theorem dX2_becomePicked_44 : decode cX2_becomePicked 44 = .ok (.getfield 48, 3) := by decide +kernel
theorem dX2_becomePicked_47 : decode cX2_becomePicked 47 = .ok (.iload_n 1, 1) := by decide +kernel
theorem dX2_becomePicked_48 : decode cX2_becomePicked 48 = .ok (.aaload, 1) := by decide +kernel
theorem dX2_becomePicked_49 : decode cX2_becomePicked 49 = .ok (.iconst 0, 1) := by decide +kernel
theorem dX2_becomePicked_50 : decode cX2_becomePicked 50 = .ok (.aload_n 0, 1) := by decide +kernel
theorem dX2_becomePicked_51 : decode cX2_becomePicked 51 = .ok (.invokevirtual 57, 3) := by decide +kernel
theorem dX2_becomePicked_54 : decode cX2_becomePicked 54 = .ok (.invokestatic 114, 3) := by decide +kernel
theorem dX2_becomePicked_57 : decode cX2_becomePicked 57 = .ok (.iinc 1 1, 3) := by decide +kernel
theorem dX2_becomePicked_60 : decode cX2_becomePicked 60 = .ok (.goto (-58), 3) := by decide +kernel
theorem dX2_becomePicked_63 : decode cX2_becomePicked 63 = .ok (.aload_n 0, 1) := by decide +kernel
theorem dX2_becomePicked_64 : decode cX2_becomePicked 64 = .ok (.invokevirtual 76, 3) := by decide +kernel
theorem dX2_becomePicked_67 : decode cX2_becomePicked 67 = .ok (.aload_n 0, 1) := by decide +kernel
theorem dX2_becomePicked_68 : decode cX2_becomePicked 68 = .ok (.getfield 39, 3) := by decide +kernel
theorem dX2_becomePicked_71 : decode cX2_becomePicked 71 = .ok (.astore_n 1, 1) := by decide +kernel
theorem dX2_becomePicked_72 : decode cX2_becomePicked 72 = .ok (.aload_n 0, 1) := by decide +kernel
theorem dX2_becomePicked_73 : decode cX2_becomePicked 73 = .ok (.aload_n 0, 1) := by decide +kernel
theorem dX2_becomePicked_74 : decode cX2_becomePicked 74 = .ok (.getfield 48, 3) := by decide +kernel
theorem dX2_becomePicked_77 : decode cX2_becomePicked 77 = .ok (.putfield 39, 3) := by decide +kernel
theorem dX2_becomePicked_80 : decode cX2_becomePicked 80 = .ok (.aload_n 0, 1) := by decide +kernel
theorem dX2_becomePicked_81 : decode cX2_becomePicked 81 = .ok (.aload_n 1, 1) := by decide +kernel
theorem dX2_becomePicked_82 : decode cX2_becomePicked 82 = .ok (.putfield 48, 3) := by decide +kernel
theorem dX2_becomePicked_85 : decode cX2_becomePicked 85 = .ok (.return_, 1) := by decide +kernel
theorem dX2_firstThatWas_0 : decode cX2_firstThatWas 0 = .ok (.iconst 0, 1) := by decide +kernel
theorem dX2_firstThatWas_1 : decode cX2_firstThatWas 1 = .ok (.istore_n 2, 1) := by decide +kernel
theorem dX2_firstThatWas_2 : decode cX2_firstThatWas 2 = .ok (.iload_n 2, 1) := by decide +kernel
theorem dX2_firstThatWas_3 : decode cX2_firstThatWas 3 = .ok (.aload_n 0, 1) := by decide +kernel
theorem dX2_firstThatWas_4 : decode cX2_firstThatWas 4 = .ok (.getfield 51, 3) := by decide +kernel
theorem dX2_firstThatWas_7 : decode cX2_firstThatWas 7 = .ok (.if_icmp .ge 21, 3) := by decide +kernel
theorem dX2_firstThatWas_10 : decode cX2_firstThatWas 10 = .ok (.aload_n 0, 1) := by decide +kernel
theorem dX2_firstThatWas_11 : decode cX2_firstThatWas 11 = .ok (.getfield 18, 3) := by decide +kernel
theorem dX2_firstThatWas_14 : decode cX2_firstThatWas 14 = .ok (.iload_n 2, 1) := by decide +kernel
theorem dX2_firstThatWas_15 : decode cX2_firstThatWas 15 = .ok (.iaload, 1) := by decide +kernel
theorem dX2_firstThatWas_16 : decode cX2_firstThatWas 16 = .ok (.iload_n 1, 1) := by decide +kernel
theorem dX2_firstThatWas_17 : decode cX2_firstThatWas 17 = .ok (.if_icmp .ne 5, 3) := by decide +kernel
theorem dX2_firstThatWas_20 : decode cX2_firstThatWas 20 = .ok (.iload_n 2, 1) := by decide +kernel
theorem dX2_firstThatWas_21 : decode cX2_firstThatWas 21 = .ok (.ireturn, 1) := by decide +kernel
theorem dX2_firstThatWas_22 : decode cX2_firstThatWas 22 = .ok (.iinc 2 1, 3) := by decide +kernel
theorem dX2_firstThatWas_25 : decode cX2_firstThatWas 25 = .ok (.goto (-23), 3) := by decide +kernel
theorem dX2_firstThatWas_28 : decode cX2_firstThatWas 28 = .ok (.ldc 22, 2) := by decide +kernel
theorem dX2_firstThatWas_30 : decode cX2_firstThatWas 30 = .ok (.ireturn, 1) := by decide +kernel
set_option maxRecDepth 20000 in
theorem ggX3_init_X3_setAsAtFirst : GoodIn wsX3_init wsX3_setAsAtFirst := goodIn_r _ [14, 5, 7, 8, 9, 15, 16, 17, 18, 19, 20, 21, 22] (by decide +kernel) (by decide +kernel)
set_option maxRecDepth 20000 in
theorem gX3_init_X3_setAsAtFirst : GoodIn wsX3_init (wsV RX3 26 RX3 yX3_setAsAtFirst wsX3_setAsAtFirst) := goodIn_app (goodIn_of _ (by decide +kernel)) ggX3_init_X3_setAsAtFirst
theorem dX3_init_0 : decode cX3_init 0 = .ok (.aload_n 0, 1) := by decide +kernel
theorem dX3_init_1 : decode cX3_init 1 = .ok (.invokespecial 3, 3) := by decide +kernel
theorem dX3_init_4 : decode cX3_init 4 = .ok (.aload_n 0, 1) := by decide +kernel
theorem dX3_init_5 : decode cX3_init 5 = .ok (.bipush 6, 2) := by decide +kernel
theorem dX3_init_7 : decode cX3_init 7 = .ok (.newarray .int, 2) := by decide +kernel
theorem dX3_init_9 : decode cX3_init 9 = .ok (.putfield 9, 3) := by decide +kernel
theorem dX3_init_12 : decode cX3_init 12 = .ok (.aload_n 0, 1) := by decide +kernel
theorem dX3_init_13 : decode cX3_init 13 = .ok (.bipush 6, 2) := by decide +kernel
theorem dX3_init_15 : decode cX3_init 15 = .ok (.bipush 6, 2) := by decide +kernel
theorem dX3_init_17 : decode cX3_init 17 = .ok (.multianewarray 15 2, 4) := by decide +kernel
theorem dX3_init_21 : decode cX3_init 21 = .ok (.putfield 17, 3) := by decide +kernel
theorem dX3_init_24 : decode cX3_init 24 = .ok (.aload_n 0, 1) := by decide +kernel
theorem dX3_init_25 : decode cX3_init 25 = .ok (.iconst 5, 1) := by decide +kernel
theorem dX3_init_26 : decode cX3_init 26 = .ok (.bipush 6, 2) := by decide +kernel
theorem dX3_init_28 : decode cX3_init 28 = .ok (.multianewarray 15 2, 4) := by decide +kernel
theorem dX3_init_32 : decode cX3_init 32 = .ok (.putfield 20, 3) := by decide +kernel
theorem dX3_init_35 : decode cX3_init 35 = .ok (.aload_n 0, 1) := by decide +kernel
theorem dX3_init_36 : decode cX3_init 36 = .ok (.bipush 6, 2) := by decide +kernel
theorem dX3_init_38 : decode cX3_init 38 = .ok (.newarray .int, 2) := by decide +kernel
theorem dX3_init_40 : decode cX3_init 40 = .ok (.putfield 23, 3) := by decide +kernel
theorem dX3_init_43 : decode cX3_init 43 = .ok (.aload_n 0, 1) := by decide +kernel
theorem dX3_init_44 : decode cX3_init 44 = .ok (.invokevirtual 26, 3) := by decide +kernel
theorem dX3_init_47 : decode cX3_init 47 = .ok (.return_, 1) := by decide +kernel
set_option maxRecDepth 20000 in
theorem ggX3_setAsAtFirst_J7_fill_53178 : GoodIn wsX3_setAsAtFirst wsJ7_fill_53178 := goodIn_r _ [8] (by decide +kernel) (by decide +kernel)
set_option maxRecDepth 20000 in
theorem gX3_setAsAtFirst_J7_fill_53178 : GoodIn wsX3_setAsAtFirst (va_wsS RX3 29 yJ7_fill_53178 wsJ7_fill_53178) := goodIn_app (goodIn_of _ (by decide +kernel)) ggX3_setAsAtFirst_J7_fill_53178
theorem dX3_setAsAtFirst_0 : decode cX3_setAsAtFirst 0 = .ok (.aload_n 0, 1) := by decide +kernel
theorem dX3_setAsAtFirst_1 : decode cX3_setAsAtFirst 1 = .ok (.getfield 9, 3) := by decide +kernel
theorem dX3_setAsAtFirst_4 : decode cX3_setAsAtFirst 4 = .ok (.iconst 1, 1) := by decide +kernel
theorem dX3_setAsAtFirst_5 : decode cX3_setAsAtFirst 5 = .ok (.invokestatic 29, 3) := by decide +kernel
theorem dX3_setAsAtFirst_8 : decode cX3_setAsAtFirst 8 = .ok (.iconst 0, 1) := by decide +kernel
theorem dX3_setAsAtFirst_9 : decode cX3_setAsAtFirst 9 = .ok (.istore_n 1, 1) := by decide +kernel
theorem dX3_setAsAtFirst_10 : decode cX3_setAsAtFirst 10 = .ok (.iload_n 1, 1) := by decide +kernel
theorem dX3_setAsAtFirst_11 : decode cX3_setAsAtFirst 11 = .ok (.bipush 6, 2) := by decide +kernel
theorem dX3_setAsAtFirst_13 : decode cX3_setAsAtFirst 13 = .ok (.if_icmp .ge 19, 3) := by decide +kernel
theorem dX3_setAsAtFirst_16 : decode cX3_setAsAtFirst 16 = .ok (.aload_n 0, 1) := by decide +kernel
theorem dX3_setAsAtFirst_17 : decode cX3_setAsAtFirst 17 = .ok (.getfield 17, 3) := by decide +kernel
theorem dX3_setAsAtFirst_20 : decode cX3_setAsAtFirst 20 = .ok (.iload_n 1, 1) := by decide +kernel
theorem dX3_setAsAtFirst_21 : decode cX3_setAsAtFirst 21 = .ok (.aaload, 1) := by decide +kernel
theorem dX3_setAsAtFirst_22 : decode cX3_setAsAtFirst 22 = .ok (.iconst 1, 1) := by decide +kernel
theorem dX3_setAsAtFirst_23 : decode cX3_setAsAtFirst 23 = .ok (.invokestatic 29, 3) := by decide +kernel
theorem dX3_setAsAtFirst_26 : decode cX3_setAsAtFirst 26 = .ok (.iinc 1 1, 3) := by decide +kernel
theorem dX3_setAsAtFirst_29 : decode cX3_setAsAtFirst 29 = .ok (.goto (-19), 3) := by decide +kernel
theorem dX3_setAsAtFirst_32 : decode cX3_setAsAtFirst 32 = .ok (.iconst 0, 1) := by decide +kernel
theorem dX3_setAsAtFirst_33 : decode cX3_setAsAtFirst 33 = .ok (.istore_n 1, 1) := by decide +kernel
theorem dX3_setAsAtFirst_34 : decode cX3_setAsAtFirst 34 = .ok (.iload_n 1, 1) := by decide +kernel
theorem dX3_setAsAtFirst_35 : decode cX3_setAsAtFirst 35 = .ok (.iconst 5, 1) := by decide +kernel
theorem dX3_setAsAtFirst_36 : decode cX3_setAsAtFirst 36 = .ok (.if_icmp .ge 19, 3) := by decide +kernel
theorem dX3_setAsAtFirst_39 : decode cX3_setAsAtFirst 39 = .ok (.aload_n 0, 1) := by decide +kernel
theorem dX3_setAsAtFirst_40 : decode cX3_setAsAtFirst 40 = .ok (.getfield 20, 3) := by decide +kernel
theorem dX3_setAsAtFirst_43 : decode cX3_setAsAtFirst 43 = .ok (.iload_n 1, 1) := by decide +kernel
theorem dX3_setAsAtFirst_44 : decode cX3_setAsAtFirst 44 = .ok (.aaload, 1) := by decide +kernel
theorem dX3_setAsAtFirst_45 : decode cX3_setAsAtFirst 45 = .ok (.iconst 1, 1) := by decide +kernel
theorem dX3_setAsAtFirst_46 : decode cX3_setAsAtFirst 46 = .ok (.invokestatic 29, 3) := by decide +kernel
theorem dX3_setAsAtFirst_49 : decode cX3_setAsAtFirst 49 = .ok (.iinc 1 1, 3) := by decide +kernel
theorem dX3_setAsAtFirst_52 : decode cX3_setAsAtFirst 52 = .ok (.goto (-18), 3) := by decide +kernel
theorem dX3_setAsAtFirst_55 : decode cX3_setAsAtFirst 55 = .ok (.aload_n 0, 1) := by decide +kernel
theorem dX3_setAsAtFirst_56 : decode cX3_setAsAtFirst 56 = .ok (.getfield 23, 3) := by decide +kernel
theorem dX3_setAsAtFirst_59 : decode cX3_setAsAtFirst 59 = .ok (.iconst 0, 1) := by decide +kernel
theorem dX3_setAsAtFirst_60 : decode cX3_setAsAtFirst 60 = .ok (.invokestatic 29, 3) := by decide +kernel
theorem dX3_setAsAtFirst_63 : decode cX3_setAsAtFirst 63 = .ok (.return_, 1) := by decide +kernel
set_option maxRecDepth 20000 in
theorem ggX4_init_X3_init : GoodIn wsX4_init wsX3_init := goodIn_r _ [18, 19, 2, 3, 20, 21, 22, 23, 24, 25, 26, 27, 28, 6, 29, 30, 31, 32, 33, 61, 62, 63, 64] (by decide +kernel) (by decide +kernel)
set_option maxRecDepth 20000 in
theorem gX4_init_X3_init : GoodIn wsX4_init (wsX3_init) := ggX4_init_X3_init
set_option maxRecDepth 20000 in
theorem ggX4_init_X0_init : GoodIn wsX4_init wsX0_init := goodIn_r _ [35, 36, 2, 3, 20, 37, 68, 69, 70, 71] (by decide +kernel) (by decide +kernel)
set_option maxRecDepth 20000 in
theorem gX4_init_X0_init_n18 : GoodIn wsX4_init (wsX0_init) := ggX4_init_X0_init
set_option maxRecDepth 20000 in
theorem ggX4_init_X2_init : GoodIn wsX4_init wsX2_init := goodIn_r _ [39, 40, 2, 3, 41, 42, 43, 44, 20, 45, 46, 47, 48, 49, 50, 51, 52, 53, 54, 55, 56, 57, 58, 59, 60, 85, 86, 72, 73, 74, 75, 76, 77, 78, 79, 80, 81, 82, 83, 84] (by decide +kernel) (by decide +kernel)
set_option maxRecDepth 20000 in
theorem gX4_init_X2_init_n25 : GoodIn wsX4_init (wsX2_init) := ggX4_init_X2_init
theorem dX4_init_0 : decode cX4_init 0 = .ok (.aload_n 0, 1) := by decide +kernel
theorem dX4_init_1 : decode cX4_init 1 = .ok (.invokespecial 1, 3) := by decide +kernel
theorem dX4_init_4 : decode cX4_init 4 = .ok (.aload_n 0, 1) := by decide +kernel
theorem dX4_init_5 : decode cX4_init 5 = .ok (.new 7, 3) := by decide +kernel
theorem dX4_init_8 : decode cX4_init 8 = .ok (.dup, 1) := by decide +kernel
theorem dX4_init_9 : decode cX4_init 9 = .ok (.invokespecial 9, 3) := by decide +kernel
theorem dX4_init_12 : decode cX4_init 12 = .ok (.putfield 10, 3) := by decide +kernel
theorem dX4_init_15 : decode cX4_init 15 = .ok (.aload_n 0, 1) := by decide +kernel
theorem dX4_init_16 : decode cX4_init 16 = .ok (.new 16, 3) := by decide +kernel
theorem dX4_init_19 : decode cX4_init 19 = .ok (.dup, 1) := by decide +kernel
theorem dX4_init_20 : decode cX4_init 20 = .ok (.invokespecial 18, 3) := by decide +kernel
theorem dX4_init_23 : decode cX4_init 23 = .ok (.putfield 19, 3) := by decide +kernel
theorem dX4_init_26 : decode cX4_init 26 = .ok (.aload_n 0, 1) := by decide +kernel
theorem dX4_init_27 : decode cX4_init 27 = .ok (.new 23, 3) := by decide +kernel
theorem dX4_init_30 : decode cX4_init 30 = .ok (.dup, 1) := by decide +kernel
theorem dX4_init_31 : decode cX4_init 31 = .ok (.invokespecial 25, 3) := by decide +kernel
theorem dX4_init_34 : decode cX4_init 34 = .ok (.putfield 26, 3) := by decide +kernel
theorem dX4_init_37 : decode cX4_init 37 = .ok (.return_, 1) := by decide +kernel
set_option maxRecDepth 20000 in
theorem ggX4_start_X4_isState : GoodIn wsX4_start wsX4_isState := goodIn_r _ [8] (by decide +kernel) (by decide +kernel)
set_option maxRecDepth 20000 in
theorem gX4_start_X4_isState : GoodIn wsX4_start (va_wsS RX4 30 yX4_isState wsX4_isState) := goodIn_app (goodIn_of _ (by decide +kernel)) ggX4_start_X4_isState
set_option maxRecDepth 20000 in
theorem ggX4_start_X4_isEntry : GoodIn wsX4_start wsX4_isEntry := goodIn_r _ [11] (by decide +kernel) (by decide +kernel)
set_option maxRecDepth 20000 in
theorem gX4_start_X4_isEntry : GoodIn wsX4_start (va_wsS RX4 35 yX4_isEntry wsX4_isEntry) := goodIn_app (goodIn_of _ (by decide +kernel)) ggX4_start_X4_isEntry
set_option maxRecDepth 20000 in
theorem ggX4_start_X4_exchange : GoodIn wsX4_start wsX4_exchange := goodIn_ca (goodIn_r _ [14] (by decide +kernel) (by decide +kernel)) (goodIn_sub (fun _ h => List.mem_cons_of_mem _ (List.mem_append_right _ h)) (by decide +kernel))
set_option maxRecDepth 20000 in
theorem gX4_start_X4_exchange : GoodIn wsX4_start (va_wsS RX4 43 yX4_exchange wsX4_exchange) := goodIn_app (goodIn_of _ (by decide +kernel)) ggX4_start_X4_exchange
theorem dX4_start_0 : decode cX4_start 0 = .ok (.iload_n 1, 1) := by decide +kernel
theorem dX4_start_1 : decode cX4_start 1 = .ok (.invokestatic 30, 3) := by decide +kernel
theorem dX4_start_4 : decode cX4_start 4 = .ok (.ifCond .ne 6, 3) := by decide +kernel
theorem dX4_start_7 : decode cX4_start 7 = .ok (.ldc 34, 2) := by decide +kernel
theorem dX4_start_9 : decode cX4_start 9 = .ok (.ireturn, 1) := by decide +kernel
theorem dX4_start_10 : decode cX4_start 10 = .ok (.iload_n 2, 1) := by decide +kernel
theorem dX4_start_11 : decode cX4_start 11 = .ok (.invokestatic 35, 3) := by decide +kernel
theorem dX4_start_14 : decode cX4_start 14 = .ok (.ifCond .ne 6, 3) := by decide +kernel
theorem dX4_start_17 : decode cX4_start 17 = .ok (.ldc 38, 2) := by decide +kernel
theorem dX4_start_19 : decode cX4_start 19 = .ok (.ireturn, 1) := by decide +kernel
theorem dX4_start_20 : decode cX4_start 20 = .ok (.aload_n 0, 1) := by decide +kernel
theorem dX4_start_21 : decode cX4_start 21 = .ok (.getfield 10, 3) := by decide +kernel
theorem dX4_start_24 : decode cX4_start 24 = .ok (.getfield 39, 3) := by decide +kernel
theorem dX4_start_27 : decode cX4_start 27 = .ok (.iload_n 1, 1) := by decide +kernel
theorem dX4_start_28 : decode cX4_start 28 = .ok (.iload_n 2, 1) := by decide +kernel
theorem dX4_start_29 : decode cX4_start 29 = .ok (.invokestatic 43, 3) := by decide +kernel
theorem dX4_start_32 : decode cX4_start 32 = .ok (.ireturn, 1) := by decide +kernel
set_option maxRecDepth 20000 in
theorem ggX4_move_X4_isState : GoodIn wsX4_move wsX4_isState := goodIn_r _ [8] (by decide +kernel) (by decide +kernel)
set_option maxRecDepth 20000 in
theorem gX4_move_X4_isState : GoodIn wsX4_move (va_wsS RX4 30 yX4_isState wsX4_isState) := goodIn_app (goodIn_of _ (by decide +kernel)) ggX4_move_X4_isState
set_option maxRecDepth 20000 in
theorem ggX4_move_X4_isEntry : GoodIn wsX4_move wsX4_isEntry := goodIn_r _ [11] (by decide +kernel) (by decide +kernel)
set_option maxRecDepth 20000 in
theorem gX4_move_X4_isEntry : GoodIn wsX4_move (va_wsS RX4 35 yX4_isEntry wsX4_isEntry) := goodIn_app (goodIn_of _ (by decide +kernel)) ggX4_move_X4_isEntry
set_option maxRecDepth 20000 in
theorem ggX4_move_X4_exchange : GoodIn wsX4_move wsX4_exchange := goodIn_ca (goodIn_r _ [14] (by decide +kernel) (by decide +kernel)) (goodIn_sub (fun _ h => List.mem_cons_of_mem _ (List.mem_append_right _ h)) (by decide +kernel))
set_option maxRecDepth 20000 in
theorem gX4_move_X4_exchange : GoodIn wsX4_move (va_wsS RX4 43 yX4_exchange wsX4_exchange) := goodIn_app (goodIn_of _ (by decide +kernel)) ggX4_move_X4_exchange
theorem dX4_move_0 : decode cX4_move 0 = .ok (.iload_n 1, 1) := by decide +kernel
theorem dX4_move_1 : decode cX4_move 1 = .ok (.invokestatic 30, 3) := by decide +kernel
theorem dX4_move_4 : decode cX4_move 4 = .ok (.ifCond .eq 10, 3) := by decide +kernel
theorem dX4_move_7 : decode cX4_move 7 = .ok (.iload_n 2, 1) := by decide +kernel
theorem dX4_move_8 : decode cX4_move 8 = .ok (.invokestatic 30, 3) := by decide +kernel
theorem dX4_move_11 : decode cX4_move 11 = .ok (.ifCond .ne 6, 3) := by decide +kernel
theorem dX4_move_14 : decode cX4_move 14 = .ok (.ldc 34, 2) := by decide +kernel
theorem dX4_move_16 : decode cX4_move 16 = .ok (.ireturn, 1) := by decide +kernel
theorem dX4_move_17 : decode cX4_move 17 = .ok (.iload_n 3, 1) := by decide +kernel
theorem dX4_move_18 : decode cX4_move 18 = .ok (.invokestatic 35, 3) := by decide +kernel
theorem dX4_move_21 : decode cX4_move 21 = .ok (.ifCond .ne 6, 3) := by decide +kernel
theorem dX4_move_24 : decode cX4_move 24 = .ok (.ldc 38, 2) := by decide +kernel
theorem dX4_move_26 : decode cX4_move 26 = .ok (.ireturn, 1) := by decide +kernel
theorem dX4_move_27 : decode cX4_move 27 = .ok (.aload_n 0, 1) := by decide +kernel
theorem dX4_move_28 : decode cX4_move 28 = .ok (.getfield 10, 3) := by decide +kernel
theorem dX4_move_31 : decode cX4_move 31 = .ok (.getfield 47, 3) := by decide +kernel
theorem dX4_move_34 : decode cX4_move 34 = .ok (.iload_n 1, 1) := by decide +kernel
theorem dX4_move_35 : decode cX4_move 35 = .ok (.aaload, 1) := by decide +kernel
theorem dX4_move_36 : decode cX4_move 36 = .ok (.iload_n 2, 1) := by decide +kernel
theorem dX4_move_37 : decode cX4_move 37 = .ok (.iload_n 3, 1) := by decide +kernel
theorem dX4_move_38 : decode cX4_move 38 = .ok (.invokestatic 43, 3) := by decide +kernel
theorem dX4_move_41 : decode cX4_move 41 = .ok (.ireturn, 1) := by decide +kernel
set_option maxRecDepth 20000 in
theorem ggX4_seen_X4_isSight : GoodIn wsX4_seen wsX4_isSight := goodIn_r _ [8] (by decide +kernel) (by decide +kernel)
set_option maxRecDepth 20000 in
theorem gX4_seen_X4_isSight : GoodIn wsX4_seen (va_wsS RX4 51 yX4_isSight wsX4_isSight) := goodIn_app (goodIn_of _ (by decide +kernel)) ggX4_seen_X4_isSight
set_option maxRecDepth 20000 in
theorem ggX4_seen_X4_isState : GoodIn wsX4_seen wsX4_isState := goodIn_r _ [11] (by decide +kernel) (by decide +kernel)
set_option maxRecDepth 20000 in
theorem gX4_seen_X4_isState : GoodIn wsX4_seen (va_wsS RX4 30 yX4_isState wsX4_isState) := goodIn_app (goodIn_of _ (by decide +kernel)) ggX4_seen_X4_isState
set_option maxRecDepth 20000 in
theorem ggX4_seen_X4_isEntry : GoodIn wsX4_seen wsX4_isEntry := goodIn_r _ [14] (by decide +kernel) (by decide +kernel)
set_option maxRecDepth 20000 in
theorem gX4_seen_X4_isEntry : GoodIn wsX4_seen (va_wsS RX4 35 yX4_isEntry wsX4_isEntry) := goodIn_app (goodIn_of _ (by decide +kernel)) ggX4_seen_X4_isEntry
set_option maxRecDepth 20000 in
theorem ggX4_seen_X4_exchange : GoodIn wsX4_seen wsX4_exchange := goodIn_ca (goodIn_r _ [17] (by decide +kernel) (by decide +kernel)) (goodIn_sub (fun _ h => List.mem_cons_of_mem _ (List.mem_append_right _ h)) (by decide +kernel))
set_option maxRecDepth 20000 in
theorem gX4_seen_X4_exchange : GoodIn wsX4_seen (va_wsS RX4 43 yX4_exchange wsX4_exchange) := goodIn_app (goodIn_of _ (by decide +kernel)) ggX4_seen_X4_exchange
theorem dX4_seen_0 : decode cX4_seen 0 = .ok (.iload_n 1, 1) := by decide +kernel
theorem dX4_seen_1 : decode cX4_seen 1 = .ok (.invokestatic 51, 3) := by decide +kernel
theorem dX4_seen_4 : decode cX4_seen 4 = .ok (.ifCond .eq 10, 3) := by decide +kernel
theorem dX4_seen_7 : decode cX4_seen 7 = .ok (.iload_n 2, 1) := by decide +kernel
theorem dX4_seen_8 : decode cX4_seen 8 = .ok (.invokestatic 30, 3) := by decide +kernel
theorem dX4_seen_11 : decode cX4_seen 11 = .ok (.ifCond .ne 6, 3) := by decide +kernel
theorem dX4_seen_14 : decode cX4_seen 14 = .ok (.ldc 34, 2) := by decide +kernel
theorem dX4_seen_16 : decode cX4_seen 16 = .ok (.ireturn, 1) := by decide +kernel
theorem dX4_seen_17 : decode cX4_seen 17 = .ok (.iload_n 3, 1) := by decide +kernel
theorem dX4_seen_18 : decode cX4_seen 18 = .ok (.invokestatic 35, 3) := by decide +kernel
theorem dX4_seen_21 : decode cX4_seen 21 = .ok (.ifCond .ne 6, 3) := by decide +kernel
theorem dX4_seen_24 : decode cX4_seen 24 = .ok (.ldc 38, 2) := by decide +kernel
theorem dX4_seen_26 : decode cX4_seen 26 = .ok (.ireturn, 1) := by decide +kernel
theorem dX4_seen_27 : decode cX4_seen 27 = .ok (.aload_n 0, 1) := by decide +kernel
theorem dX4_seen_28 : decode cX4_seen 28 = .ok (.getfield 10, 3) := by decide +kernel
theorem dX4_seen_31 : decode cX4_seen 31 = .ok (.getfield 54, 3) := by decide +kernel
theorem dX4_seen_34 : decode cX4_seen 34 = .ok (.iload_n 1, 1) := by decide +kernel
theorem dX4_seen_35 : decode cX4_seen 35 = .ok (.aaload, 1) := by decide +kernel
theorem dX4_seen_36 : decode cX4_seen 36 = .ok (.iload_n 2, 1) := by decide +kernel
theorem dX4_seen_37 : decode cX4_seen 37 = .ok (.iload_n 3, 1) := by decide +kernel
theorem dX4_seen_38 : decode cX4_seen 38 = .ok (.invokestatic 43, 3) := by decide +kernel
theorem dX4_seen_41 : decode cX4_seen 41 = .ok (.ireturn, 1) := by decide +kernel
set_option maxRecDepth 20000 in
theorem ggX4_named_X4_isState : GoodIn wsX4_named wsX4_isState := goodIn_r _ [8] (by decide +kernel) (by decide +kernel)
set_option maxRecDepth 20000 in
theorem gX4_named_X4_isState : GoodIn wsX4_named (va_wsS RX4 30 yX4_isState wsX4_isState) := goodIn_app (goodIn_of _ (by decide +kernel)) ggX4_named_X4_isState
set_option maxRecDepth 20000 in
theorem ggX4_named_X4_isName : GoodIn wsX4_named wsX4_isName := goodIn_r _ [11] (by decide +kernel) (by decide +kernel)
set_option maxRecDepth 20000 in
theorem gX4_named_X4_isName : GoodIn wsX4_named (va_wsS RX4 57 yX4_isName wsX4_isName) := goodIn_app (goodIn_of _ (by decide +kernel)) ggX4_named_X4_isName
set_option maxRecDepth 20000 in
theorem ggX4_named_X4_exchange : GoodIn wsX4_named wsX4_exchange := goodIn_ca (goodIn_r _ [14] (by decide +kernel) (by decide +kernel)) (goodIn_sub (fun _ h => List.mem_cons_of_mem _ (List.mem_append_right _ h)) (by decide +kernel))
set_option maxRecDepth 20000 in
theorem gX4_named_X4_exchange : GoodIn wsX4_named (va_wsS RX4 43 yX4_exchange wsX4_exchange) := goodIn_app (goodIn_of _ (by decide +kernel)) ggX4_named_X4_exchange
theorem dX4_named_0 : decode cX4_named 0 = .ok (.iload_n 1, 1) := by decide +kernel
theorem dX4_named_1 : decode cX4_named 1 = .ok (.invokestatic 30, 3) := by decide +kernel
theorem dX4_named_4 : decode cX4_named 4 = .ok (.ifCond .ne 6, 3) := by decide +kernel
theorem dX4_named_7 : decode cX4_named 7 = .ok (.ldc 34, 2) := by decide +kernel
theorem dX4_named_9 : decode cX4_named 9 = .ok (.ireturn, 1) := by decide +kernel
theorem dX4_named_10 : decode cX4_named 10 = .ok (.iload_n 2, 1) := by decide +kernel
theorem dX4_named_11 : decode cX4_named 11 = .ok (.invokestatic 57, 3) := by decide +kernel
theorem dX4_named_14 : decode cX4_named 14 = .ok (.ifCond .ne 6, 3) := by decide +kernel
theorem dX4_named_17 : decode cX4_named 17 = .ok (.ldc 38, 2) := by decide +kernel
theorem dX4_named_19 : decode cX4_named 19 = .ok (.ireturn, 1) := by decide +kernel
theorem dX4_named_20 : decode cX4_named 20 = .ok (.aload_n 0, 1) := by decide +kernel
theorem dX4_named_21 : decode cX4_named 21 = .ok (.getfield 10, 3) := by decide +kernel
theorem dX4_named_24 : decode cX4_named 24 = .ok (.getfield 60, 3) := by decide +kernel
theorem dX4_named_27 : decode cX4_named 27 = .ok (.iload_n 1, 1) := by decide +kernel
theorem dX4_named_28 : decode cX4_named 28 = .ok (.iload_n 2, 1) := by decide +kernel
theorem dX4_named_29 : decode cX4_named 29 = .ok (.invokestatic 43, 3) := by decide +kernel
theorem dX4_named_32 : decode cX4_named 32 = .ok (.ireturn, 1) := by decide +kernel
set_option maxRecDepth 20000 in
theorem ggX4_force_X0_addForced : GoodIn wsX4_force wsX0_addForced := goodIn_ca (goodIn_r _ [8, 9, 10, 11, 15, 16, 17, 18] (by decide +kernel) (by decide +kernel)) (goodIn_sub (fun _ h => List.mem_cons_of_mem _ (List.mem_append_right _ h)) (by decide +kernel))
set_option maxRecDepth 20000 in
theorem gX4_force_X0_addForced : GoodIn wsX4_force (wsV RX4 67 RX0 yX0_addForced wsX0_addForced) := goodIn_app (goodIn_of _ (by decide +kernel)) ggX4_force_X0_addForced
theorem dX4_force_0 : decode cX4_force 0 = .ok (.iload_n 1, 1) := by decide +kernel
theorem dX4_force_1 : decode cX4_force 1 = .ok (.ifCond .lt 15, 3) := by decide +kernel
theorem dX4_force_4 : decode cX4_force 4 = .ok (.aload_n 0, 1) := by decide +kernel
theorem dX4_force_5 : decode cX4_force 5 = .ok (.getfield 19, 3) := by decide +kernel
theorem dX4_force_8 : decode cX4_force 8 = .ok (.getfield 63, 3) := by decide +kernel
theorem dX4_force_11 : decode cX4_force 11 = .ok (.bipush 64, 2) := by decide +kernel
theorem dX4_force_13 : decode cX4_force 13 = .ok (.if_icmp .lt 6, 3) := by decide +kernel
theorem dX4_force_16 : decode cX4_force 16 = .ok (.ldc 38, 2) := by decide +kernel
theorem dX4_force_18 : decode cX4_force 18 = .ok (.ireturn, 1) := by decide +kernel
theorem dX4_force_19 : decode cX4_force 19 = .ok (.aload_n 0, 1) := by decide +kernel
theorem dX4_force_20 : decode cX4_force 20 = .ok (.getfield 19, 3) := by decide +kernel
theorem dX4_force_23 : decode cX4_force 23 = .ok (.iload_n 1, 1) := by decide +kernel
theorem dX4_force_24 : decode cX4_force 24 = .ok (.invokevirtual 67, 3) := by decide +kernel
theorem dX4_force_27 : decode cX4_force 27 = .ok (.aload_n 0, 1) := by decide +kernel
theorem dX4_force_28 : decode cX4_force 28 = .ok (.getfield 19, 3) := by decide +kernel
theorem dX4_force_31 : decode cX4_force 31 = .ok (.getfield 63, 3) := by decide +kernel
theorem dX4_force_34 : decode cX4_force 34 = .ok (.ireturn, 1) := by decide +kernel
set_option maxRecDepth 20000 in
theorem ggX4_begin_X2_beginWith : GoodIn wsX4_begin wsX2_beginWith := goodIn_ca (goodIn_r _ [12, 13, 14, 15, 16, 17, 18, 19, 20, 11, 21, 22, 23, 24, 25, 26, 27, 28, 29, 30, 31, 32, 33, 34, 35, 36, 37, 38, 39, 40, 41, 42, 43, 44, 45, 46, 47, 48, 49, 50, 51, 52, 64, 65, 66, 67, 68, 69, 70, 71, 72, 73, 74, 75, 76, 56, 57, 58, 59] (by decide +kernel) (by decide +kernel)) (goodIn_sub (fun _ h => List.mem_cons_of_mem _ (List.mem_append_right _ h)) (by decide +kernel))
set_option maxRecDepth 20000 in
theorem gX4_begin_X2_beginWith : GoodIn wsX4_begin (wsV RX4 76 RX2 yX2_beginWith wsX2_beginWith) := goodIn_app (goodIn_of _ (by decide +kernel)) ggX4_begin_X2_beginWith
theorem dX4_begin_0 : decode cX4_begin 0 = .ok (.iload_n 1, 1) := by decide +kernel
theorem dX4_begin_1 : decode cX4_begin 1 = .ok (.ifCond .ge 6, 3) := by decide +kernel
theorem dX4_begin_4 : decode cX4_begin 4 = .ok (.ldc 71, 2) := by decide +kernel
theorem dX4_begin_6 : decode cX4_begin 6 = .ok (.ireturn, 1) := by decide +kernel
theorem dX4_begin_7 : decode cX4_begin 7 = .ok (.iload_n 1, 1) := by decide +kernel
theorem dX4_begin_8 : decode cX4_begin 8 = .ok (.ifCond .eq 9, 3) := by decide +kernel
theorem dX4_begin_11 : decode cX4_begin 11 = .ok (.iload_n 1, 1) := by decide +kernel
theorem dX4_begin_12 : decode cX4_begin 12 = .ok (.bipush 16, 2) := by decide +kernel
theorem dX4_begin_14 : decode cX4_begin 14 = .ok (.if_icmp .le 6, 3) := by decide +kernel
theorem dX4_begin_17 : decode cX4_begin 17 = .ok (.ldc 38, 2) := by decide +kernel
theorem dX4_begin_19 : decode cX4_begin 19 = .ok (.ireturn, 1) := by decide +kernel
theorem dX4_begin_20 : decode cX4_begin 20 = .ok (.aload_n 0, 1) := by decide +kernel
theorem dX4_begin_21 : decode cX4_begin 21 = .ok (.getfield 19, 3) := by decide +kernel
theorem dX4_begin_24 : decode cX4_begin 24 = .ok (.lload_n 2, 1) := by decide +kernel
theorem dX4_begin_25 : decode cX4_begin 25 = .ok (.putfield 72, 3) := by decide +kernel
theorem dX4_begin_28 : decode cX4_begin 28 = .ok (.aload_n 0, 1) := by decide +kernel
theorem dX4_begin_29 : decode cX4_begin 29 = .ok (.getfield 26, 3) := by decide +kernel
theorem dX4_begin_32 : decode cX4_begin 32 = .ok (.iload_n 1, 1) := by decide +kernel
theorem dX4_begin_33 : decode cX4_begin 33 = .ok (.aload_n 0, 1) := by decide +kernel
theorem dX4_begin_34 : decode cX4_begin 34 = .ok (.getfield 10, 3) := by decide +kernel
theorem dX4_begin_37 : decode cX4_begin 37 = .ok (.getfield 39, 3) := by decide +kernel
theorem dX4_begin_40 : decode cX4_begin 40 = .ok (.aload_n 0, 1) := by decide +kernel
theorem dX4_begin_41 : decode cX4_begin 41 = .ok (.getfield 19, 3) := by decide +kernel
theorem dX4_begin_44 : decode cX4_begin 44 = .ok (.invokevirtual 76, 3) := by decide +kernel
theorem dX4_begin_47 : decode cX4_begin 47 = .ok (.ireturn, 1) := by decide +kernel
set_option maxRecDepth 20000 in
theorem ggX4_keep_X2_isBegun : GoodIn wsX4_keep wsX2_isBegun := goodIn_r _ [10, 11, 19, 20, 21, 22, 23, 24, 25, 26, 27, 28, 29, 30, 31] (by decide +kernel) (by decide +kernel)
set_option maxRecDepth 20000 in
theorem gX4_keep_X2_isBegun : GoodIn wsX4_keep (wsV RX4 80 RX2 yX2_isBegun wsX2_isBegun) := goodIn_app (goodIn_of _ (by decide +kernel)) ggX4_keep_X2_isBegun
set_option maxRecDepth 20000 in
theorem ggX4_keep_X2_hasRow : GoodIn wsX4_keep wsX2_hasRow := goodIn_r _ [15, 11, 19, 20, 21, 22, 23, 24, 25, 26, 27, 28, 29, 30, 31] (by decide +kernel) (by decide +kernel)
set_option maxRecDepth 20000 in
theorem gX4_keep_X2_hasRow : GoodIn wsX4_keep (wsV RX4 86 RX2 yX2_hasRow wsX2_hasRow) := goodIn_app (goodIn_of _ (by decide +kernel)) ggX4_keep_X2_hasRow
theorem dX4_keep_0 : decode cX4_keep 0 = .ok (.aload_n 0, 1) := by decide +kernel
theorem dX4_keep_1 : decode cX4_keep 1 = .ok (.getfield 26, 3) := by decide +kernel
theorem dX4_keep_4 : decode cX4_keep 4 = .ok (.invokevirtual 80, 3) := by decide +kernel
theorem dX4_keep_7 : decode cX4_keep 7 = .ok (.ifCond .ne 6, 3) := by decide +kernel
theorem dX4_keep_10 : decode cX4_keep 10 = .ok (.ldc 84, 2) := by decide +kernel
theorem dX4_keep_12 : decode cX4_keep 12 = .ok (.ireturn, 1) := by decide +kernel
theorem dX4_keep_13 : decode cX4_keep 13 = .ok (.iload_n 1, 1) := by decide +kernel
theorem dX4_keep_14 : decode cX4_keep 14 = .ok (.ldc 85, 2) := by decide +kernel
theorem dX4_keep_16 : decode cX4_keep 16 = .ok (.if_icmp .eq 17, 3) := by decide +kernel
theorem dX4_keep_19 : decode cX4_keep 19 = .ok (.aload_n 0, 1) := by decide +kernel
theorem dX4_keep_20 : decode cX4_keep 20 = .ok (.getfield 26, 3) := by decide +kernel
theorem dX4_keep_23 : decode cX4_keep 23 = .ok (.iload_n 1, 1) := by decide +kernel
theorem dX4_keep_24 : decode cX4_keep 24 = .ok (.invokevirtual 86, 3) := by decide +kernel
theorem dX4_keep_27 : decode cX4_keep 27 = .ok (.ifCond .ne 6, 3) := by decide +kernel
theorem dX4_keep_30 : decode cX4_keep 30 = .ok (.ldc 34, 2) := by decide +kernel
theorem dX4_keep_32 : decode cX4_keep 32 = .ok (.ireturn, 1) := by decide +kernel
theorem dX4_keep_33 : decode cX4_keep 33 = .ok (.aload_n 0, 1) := by decide +kernel
theorem dX4_keep_34 : decode cX4_keep 34 = .ok (.getfield 26, 3) := by decide +kernel
theorem dX4_keep_37 : decode cX4_keep 37 = .ok (.getfield 89, 3) := by decide +kernel
theorem dX4_keep_40 : decode cX4_keep 40 = .ok (.istore_n 2, 1) := by decide +kernel
theorem dX4_keep_41 : decode cX4_keep 41 = .ok (.aload_n 0, 1) := by decide +kernel
theorem dX4_keep_42 : decode cX4_keep 42 = .ok (.getfield 26, 3) := by decide +kernel
theorem dX4_keep_45 : decode cX4_keep 45 = .ok (.iload_n 1, 1) := by decide +kernel
theorem dX4_keep_46 : decode cX4_keep 46 = .ok (.putfield 89, 3) := by decide +kernel
theorem dX4_keep_49 : decode cX4_keep 49 = .ok (.iload_n 2, 1) := by decide +kernel
theorem dX4_keep_50 : decode cX4_keep 50 = .ok (.ireturn, 1) := by decide +kernel
set_option maxRecDepth 20000 in
theorem ggX4_step_X2_isBegun : GoodIn wsX4_step wsX2_isBegun := goodIn_r _ [15, 16, 73, 74, 75, 76, 77, 78, 79, 80, 81, 82, 83, 84, 85] (by decide +kernel) (by decide +kernel)
set_option maxRecDepth 20000 in
theorem gX4_step_X2_isBegun : GoodIn wsX4_step (wsV RX4 80 RX2 yX2_isBegun wsX2_isBegun) := goodIn_app (goodIn_of _ (by decide +kernel)) ggX4_step_X2_isBegun
set_option maxRecDepth 20000 in
theorem ggX4_step_X4_isSight : GoodIn wsX4_step wsX4_isSight := goodIn_r _ [20] (by decide +kernel) (by decide +kernel)
set_option maxRecDepth 20000 in
theorem gX4_step_X4_isSight : GoodIn wsX4_step (va_wsS RX4 51 yX4_isSight wsX4_isSight) := goodIn_app (goodIn_of _ (by decide +kernel)) ggX4_step_X4_isSight
set_option maxRecDepth 20000 in
theorem ggX4_step_X4_isName : GoodIn wsX4_step wsX4_isName := goodIn_r _ [23] (by decide +kernel) (by decide +kernel)
set_option maxRecDepth 20000 in
theorem gX4_step_X4_isName : GoodIn wsX4_step (va_wsS RX4 57 yX4_isName wsX4_isName) := goodIn_app (goodIn_of _ (by decide +kernel)) ggX4_step_X4_isName
set_option maxRecDepth 20000 in
theorem ggX4_step_X2_standsAt : GoodIn wsX4_step wsX2_standsAt := goodIn_ca (goodIn_r _ [27, 16, 28, 73, 74, 75, 76, 77, 78, 79, 80, 81, 82, 83, 84, 85] (by decide +kernel) (by decide +kernel)) (goodIn_sub (fun _ h => List.mem_cons_of_mem _ (List.mem_append_right _ h)) (by decide +kernel))
set_option maxRecDepth 20000 in
theorem gX4_step_X2_standsAt : GoodIn wsX4_step (wsV RX4 95 RX2 yX2_standsAt wsX2_standsAt) := goodIn_app (goodIn_of _ (by decide +kernel)) ggX4_step_X2_standsAt
set_option maxRecDepth 20000 in
theorem ggX4_step_X2_goOn : GoodIn wsX4_step wsX2_goOn := goodIn_ca (goodIn_r _ [32, 16, 28, 33, 34, 35, 36, 37, 38, 39, 40, 41, 42, 43, 44, 45, 46, 47, 19, 48, 49, 50, 51, 52, 53, 54, 55, 56, 57, 58, 59, 60, 61, 62, 63, 64, 65, 66, 67, 68, 14, 69, 73, 74, 75, 76, 77, 78, 79, 80, 81, 82, 83, 84, 85, 90, 91, 92, 93] (by decide +kernel) (by decide +kernel)) (goodIn_sub (fun _ h => List.mem_cons_of_mem _ (List.mem_append_right _ h)) (by decide +kernel))
set_option maxRecDepth 20000 in
theorem gX4_step_X2_goOn : GoodIn wsX4_step (wsV RX4 99 RX2 yX2_goOn wsX2_goOn) := goodIn_app (goodIn_of _ (by decide +kernel)) ggX4_step_X2_goOn
theorem dX4_step_0 : decode cX4_step 0 = .ok (.aload_n 0, 1) := by decide +kernel
theorem dX4_step_1 : decode cX4_step 1 = .ok (.getfield 26, 3) := by decide +kernel
theorem dX4_step_4 : decode cX4_step 4 = .ok (.invokevirtual 80, 3) := by decide +kernel
theorem dX4_step_7 : decode cX4_step 7 = .ok (.ifCond .ne 6, 3) := by decide +kernel
theorem dX4_step_10 : decode cX4_step 10 = .ok (.ldc 84, 2) := by decide +kernel
theorem dX4_step_12 : decode cX4_step 12 = .ok (.ireturn, 1) := by decide +kernel
theorem dX4_step_13 : decode cX4_step 13 = .ok (.iload_n 1, 1) := by decide +kernel
theorem dX4_step_14 : decode cX4_step 14 = .ok (.invokestatic 51, 3) := by decide +kernel
theorem dX4_step_17 : decode cX4_step 17 = .ok (.ifCond .ne 6, 3) := by decide +kernel
theorem dX4_step_20 : decode cX4_step 20 = .ok (.ldc 34, 2) := by decide +kernel
theorem dX4_step_22 : decode cX4_step 22 = .ok (.ireturn, 1) := by decide +kernel
theorem dX4_step_23 : decode cX4_step 23 = .ok (.iload_n 2, 1) := by decide +kernel
theorem dX4_step_24 : decode cX4_step 24 = .ok (.invokestatic 57, 3) := by decide +kernel
theorem dX4_step_27 : decode cX4_step 27 = .ok (.ifCond .ne 6, 3) := by decide +kernel
theorem dX4_step_30 : decode cX4_step 30 = .ok (.ldc 38, 2) := by decide +kernel
theorem dX4_step_32 : decode cX4_step 32 = .ok (.ireturn, 1) := by decide +kernel
theorem dX4_step_33 : decode cX4_step 33 = .ok (.aload_n 0, 1) := by decide +kernel
theorem dX4_step_34 : decode cX4_step 34 = .ok (.getfield 26, 3) := by decide +kernel
theorem dX4_step_37 : decode cX4_step 37 = .ok (.getfield 92, 3) := by decide +kernel
theorem dX4_step_40 : decode cX4_step 40 = .ok (.bipush 30, 2) := by decide +kernel
theorem dX4_step_42 : decode cX4_step 42 = .ok (.if_icmp .ge 21, 3) := by decide +kernel
theorem dX4_step_45 : decode cX4_step 45 = .ok (.aload_n 0, 1) := by decide +kernel
theorem dX4_step_46 : decode cX4_step 46 = .ok (.getfield 26, 3) := by decide +kernel
theorem dX4_step_49 : decode cX4_step 49 = .ok (.iload_n 2, 1) := by decide +kernel
theorem dX4_step_50 : decode cX4_step 50 = .ok (.aload_n 0, 1) := by decide +kernel
theorem dX4_step_51 : decode cX4_step 51 = .ok (.getfield 10, 3) := by decide +kernel
theorem dX4_step_54 : decode cX4_step 54 = .ok (.getfield 60, 3) := by decide +kernel
theorem dX4_step_57 : decode cX4_step 57 = .ok (.invokevirtual 95, 3) := by decide +kernel
theorem dX4_step_60 : decode cX4_step 60 = .ok (.ifCond .ne 6, 3) := by decide +kernel
theorem dX4_step_63 : decode cX4_step 63 = .ok (.ldc 84, 2) := by decide +kernel
theorem dX4_step_65 : decode cX4_step 65 = .ok (.ireturn, 1) := by decide +kernel
theorem dX4_step_66 : decode cX4_step 66 = .ok (.aload_n 0, 1) := by decide +kernel
theorem dX4_step_67 : decode cX4_step 67 = .ok (.getfield 26, 3) := by decide +kernel
theorem dX4_step_70 : decode cX4_step 70 = .ok (.aload_n 0, 1) := by decide +kernel
theorem dX4_step_71 : decode cX4_step 71 = .ok (.getfield 10, 3) := by decide +kernel
theorem dX4_step_74 : decode cX4_step 74 = .ok (.getfield 47, 3) := by decide +kernel
theorem dX4_step_77 : decode cX4_step 77 = .ok (.aload_n 0, 1) := by decide +kernel
theorem dX4_step_78 : decode cX4_step 78 = .ok (.getfield 10, 3) := by decide +kernel
theorem dX4_step_81 : decode cX4_step 81 = .ok (.getfield 54, 3) := by decide +kernel
theorem dX4_step_84 : decode cX4_step 84 = .ok (.iload_n 1, 1) := by decide +kernel
theorem dX4_step_85 : decode cX4_step 85 = .ok (.aaload, 1) := by decide +kernel
theorem dX4_step_86 : decode cX4_step 86 = .ok (.aload_n 0, 1) := by decide +kernel
theorem dX4_step_87 : decode cX4_step 87 = .ok (.getfield 19, 3) := by decide +kernel
theorem dX4_step_90 : decode cX4_step 90 = .ok (.invokevirtual 99, 3) := by decide +kernel
theorem dX4_step_93 : decode cX4_step 93 = .ok (.ireturn, 1) := by decide +kernel
set_option maxRecDepth 20000 in
theorem ggX4_again_X2_isBegun : GoodIn wsX4_again wsX2_isBegun := goodIn_r _ [9, 10, 142, 143, 144, 145, 146, 147, 148, 149, 150, 151, 152, 153, 154] (by decide +kernel) (by decide +kernel)
set_option maxRecDepth 20000 in
theorem gX4_again_X2_isBegun : GoodIn wsX4_again (wsV RX4 80 RX2 yX2_isBegun wsX2_isBegun) := goodIn_app (goodIn_of _ (by decide +kernel)) ggX4_again_X2_isBegun
set_option maxRecDepth 20000 in
theorem ggX4_again_X4_isWay : GoodIn wsX4_again wsX4_isWay := goodIn_r _ [14] (by decide +kernel) (by decide +kernel)
set_option maxRecDepth 20000 in
theorem gX4_again_X4_isWay : GoodIn wsX4_again (va_wsS RX4 103 yX4_isWay wsX4_isWay) := goodIn_app (goodIn_of _ (by decide +kernel)) ggX4_again_X4_isWay
set_option maxRecDepth 20000 in
theorem ggX4_again_X2_drawAnew : GoodIn wsX4_again wsX2_drawAnew := goodIn_ca (goodIn_r _ [18, 19, 20, 21, 22, 10, 23, 24, 25, 26, 27, 28, 8, 29, 30, 31, 13, 32, 33, 34, 35, 36, 37, 38, 39, 40, 41, 42, 43, 44, 45, 46, 47, 48, 49, 50, 51, 52, 53, 54, 55, 56, 57, 58, 59, 60, 61, 62, 63, 64, 65, 66, 67, 68, 69, 70, 71, 72, 73, 74, 75, 76, 77, 78, 79, 80, 81, 82, 83, 84, 85, 86, 87, 88, 89, 90, 91, 92, 93, 94, 95, 96, 97, 98, 99, 100, 101, 102, 103, 104, 105, 106, 107, 108, 109, 110, 111, 112, 113, 114, 115, 116, 117, 118, 119, 120, 121, 122, 123, 124, 125, 126, 127, 128, 129, 130, 131, 132, 133, 134, 135, 136, 137, 138, 142, 143, 144, 145, 146, 147, 148, 149, 150, 151, 152, 153, 154, 155, 156, 157, 158, 159, 160] (by decide +kernel) (by decide +kernel)) (goodIn_sub (fun _ h => List.mem_cons_of_mem _ (List.mem_append_right _ h)) (by decide +kernel))
set_option maxRecDepth 20000 in
theorem gX4_again_X2_drawAnew : GoodIn wsX4_again (wsV RX4 106 RX2 yX2_drawAnew wsX2_drawAnew) := goodIn_app (goodIn_of _ (by decide +kernel)) ggX4_again_X2_drawAnew
theorem dX4_again_0 : decode cX4_again 0 = .ok (.aload_n 0, 1) := by decide +kernel
theorem dX4_again_1 : decode cX4_again 1 = .ok (.getfield 26, 3) := by decide +kernel
theorem dX4_again_4 : decode cX4_again 4 = .ok (.invokevirtual 80, 3) := by decide +kernel
theorem dX4_again_7 : decode cX4_again 7 = .ok (.ifCond .ne 6, 3) := by decide +kernel
theorem dX4_again_10 : decode cX4_again 10 = .ok (.ldc 84, 2) := by decide +kernel
theorem dX4_again_12 : decode cX4_again 12 = .ok (.ireturn, 1) := by decide +kernel
theorem dX4_again_13 : decode cX4_again 13 = .ok (.iload_n 1, 1) := by decide +kernel
theorem dX4_again_14 : decode cX4_again 14 = .ok (.invokestatic 103, 3) := by decide +kernel
theorem dX4_again_17 : decode cX4_again 17 = .ok (.ifCond .ne 6, 3) := by decide +kernel
theorem dX4_again_20 : decode cX4_again 20 = .ok (.ldc 38, 2) := by decide +kernel
theorem dX4_again_22 : decode cX4_again 22 = .ok (.ireturn, 1) := by decide +kernel
theorem dX4_again_23 : decode cX4_again 23 = .ok (.aload_n 0, 1) := by decide +kernel
theorem dX4_again_24 : decode cX4_again 24 = .ok (.getfield 26, 3) := by decide +kernel
theorem dX4_again_27 : decode cX4_again 27 = .ok (.iload_n 1, 1) := by decide +kernel
theorem dX4_again_28 : decode cX4_again 28 = .ok (.aload_n 0, 1) := by decide +kernel
theorem dX4_again_29 : decode cX4_again 29 = .ok (.getfield 19, 3) := by decide +kernel
theorem dX4_again_32 : decode cX4_again 32 = .ok (.invokevirtual 106, 3) := by decide +kernel
theorem dX4_again_35 : decode cX4_again 35 = .ok (.ireturn, 1) := by decide +kernel
set_option maxRecDepth 20000 in
theorem ggX4_rule_X2_isBegun : GoodIn wsX4_rule wsX2_isBegun := goodIn_r _ [9, 10, 152, 153, 154, 155, 156, 157, 158, 159, 160, 161, 162, 163, 164] (by decide +kernel) (by decide +kernel)
set_option maxRecDepth 20000 in
theorem gX4_rule_X2_isBegun : GoodIn wsX4_rule (wsV RX4 80 RX2 yX2_isBegun wsX2_isBegun) := goodIn_app (goodIn_of _ (by decide +kernel)) ggX4_rule_X2_isBegun
set_option maxRecDepth 20000 in
theorem ggX4_rule_X4_isWay : GoodIn wsX4_rule wsX4_isWay := goodIn_r _ [14] (by decide +kernel) (by decide +kernel)
set_option maxRecDepth 20000 in
theorem gX4_rule_X4_isWay : GoodIn wsX4_rule (va_wsS RX4 103 yX4_isWay wsX4_isWay) := goodIn_app (goodIn_of _ (by decide +kernel)) ggX4_rule_X4_isWay
set_option maxRecDepth 20000 in
theorem ggX4_rule_X2_total : GoodIn wsX4_rule wsX2_total := goodIn_ca (goodIn_r _ [18, 19, 10, 20, 13, 21, 152, 153, 154, 155, 156, 157, 158, 159, 160, 161, 162, 163, 164] (by decide +kernel) (by decide +kernel)) (goodIn_sub (fun _ h => List.mem_cons_of_mem _ (List.mem_append_right _ h)) (by decide +kernel))
set_option maxRecDepth 20000 in
theorem gX4_rule_X2_total : GoodIn wsX4_rule (wsV RX4 110 RX2 yX2_total wsX2_total) := goodIn_app (goodIn_of _ (by decide +kernel)) ggX4_rule_X2_total
set_option maxRecDepth 20000 in
theorem ggX4_rule_X2_isEffectiveBelow : GoodIn wsX4_rule wsX2_isEffectiveBelow := goodIn_ca (goodIn_r _ [25, 26, 10, 27, 16, 17, 8, 18, 19, 20, 13, 21, 28, 29, 30, 31, 152, 153, 154, 155, 156, 157, 158, 159, 160, 161, 162, 163, 164] (by decide +kernel) (by decide +kernel)) (goodIn_sub (fun _ h => List.mem_cons_of_mem _ (List.mem_append_right _ h)) (by decide +kernel))
set_option maxRecDepth 20000 in
theorem gX4_rule_X2_isEffectiveBelow : GoodIn wsX4_rule (wsV RX4 114 RX2 yX2_isEffectiveBelow wsX2_isEffectiveBelow) := goodIn_app (goodIn_of _ (by decide +kernel)) ggX4_rule_X2_isEffectiveBelow
set_option maxRecDepth 20000 in
theorem ggX4_rule_X2_drawAnew : GoodIn wsX4_rule wsX2_drawAnew := goodIn_ca (goodIn_r _ [35, 36, 37, 38, 39, 10, 40, 41, 42, 27, 16, 17, 8, 18, 19, 20, 13, 21, 43, 44, 45, 46, 47, 48, 49, 50, 51, 52, 53, 54, 55, 56, 57, 58, 59, 60, 61, 62, 63, 64, 65, 66, 67, 68, 69, 70, 71, 72, 73, 74, 75, 76, 77, 78, 79, 80, 81, 82, 83, 84, 85, 86, 87, 88, 89, 90, 91, 92, 93, 94, 95, 96, 97, 98, 99, 100, 101, 102, 103, 104, 105, 106, 107, 108, 109, 110, 111, 112, 113, 114, 115, 116, 117, 118, 119, 120, 121, 122, 123, 124, 125, 126, 127, 128, 129, 130, 131, 132, 133, 134, 135, 136, 137, 138, 139, 140, 141, 142, 143, 144, 145, 146, 147, 148, 152, 153, 154, 155, 156, 157, 158, 159, 160, 161, 162, 163, 164, 165, 166, 167, 168, 169, 170] (by decide +kernel) (by decide +kernel)) (goodIn_sub (fun _ h => List.mem_cons_of_mem _ (List.mem_append_right _ h)) (by decide +kernel))
set_option maxRecDepth 20000 in
theorem gX4_rule_X2_drawAnew : GoodIn wsX4_rule (wsV RX4 106 RX2 yX2_drawAnew wsX2_drawAnew) := goodIn_app (goodIn_of _ (by decide +kernel)) ggX4_rule_X2_drawAnew
theorem dX4_rule_0 : decode cX4_rule 0 = .ok (.aload_n 0, 1) := by decide +kernel
theorem dX4_rule_1 : decode cX4_rule 1 = .ok (.getfield 26, 3) := by decide +kernel
theorem dX4_rule_4 : decode cX4_rule 4 = .ok (.invokevirtual 80, 3) := by decide +kernel
theorem dX4_rule_7 : decode cX4_rule 7 = .ok (.ifCond .ne 6, 3) := by decide +kernel
theorem dX4_rule_10 : decode cX4_rule 10 = .ok (.ldc 84, 2) := by decide +kernel
theorem dX4_rule_12 : decode cX4_rule 12 = .ok (.ireturn, 1) := by decide +kernel
theorem dX4_rule_13 : decode cX4_rule 13 = .ok (.iload_n 1, 1) := by decide +kernel
theorem dX4_rule_14 : decode cX4_rule 14 = .ok (.invokestatic 103, 3) := by decide +kernel
theorem dX4_rule_17 : decode cX4_rule 17 = .ok (.ifCond .eq 14, 3) := by decide +kernel
theorem dX4_rule_20 : decode cX4_rule 20 = .ok (.iload_n 2, 1) := by decide +kernel
theorem dX4_rule_21 : decode cX4_rule 21 = .ok (.iconst 1, 1) := by decide +kernel
theorem dX4_rule_22 : decode cX4_rule 22 = .ok (.if_icmp .lt 9, 3) := by decide +kernel
theorem dX4_rule_25 : decode cX4_rule 25 = .ok (.iload_n 2, 1) := by decide +kernel
theorem dX4_rule_26 : decode cX4_rule 26 = .ok (.bipush 100, 2) := by decide +kernel
theorem dX4_rule_28 : decode cX4_rule 28 = .ok (.if_icmp .le 6, 3) := by decide +kernel
theorem dX4_rule_31 : decode cX4_rule 31 = .ok (.ldc 38, 2) := by decide +kernel
theorem dX4_rule_33 : decode cX4_rule 33 = .ok (.ireturn, 1) := by decide +kernel
theorem dX4_rule_34 : decode cX4_rule 34 = .ok (.aload_n 0, 1) := by decide +kernel
theorem dX4_rule_35 : decode cX4_rule 35 = .ok (.getfield 26, 3) := by decide +kernel
theorem dX4_rule_38 : decode cX4_rule 38 = .ok (.invokevirtual 110, 3) := by decide +kernel
theorem dX4_rule_41 : decode cX4_rule 41 = .ok (.lconst 0, 1) := by decide +kernel
theorem dX4_rule_42 : decode cX4_rule 42 = .ok (.lcmp, 1) := by decide +kernel
theorem dX4_rule_43 : decode cX4_rule 43 = .ok (.ifCond .eq 14, 3) := by decide +kernel
theorem dX4_rule_46 : decode cX4_rule 46 = .ok (.aload_n 0, 1) := by decide +kernel
theorem dX4_rule_47 : decode cX4_rule 47 = .ok (.getfield 26, 3) := by decide +kernel
theorem dX4_rule_50 : decode cX4_rule 50 = .ok (.iload_n 2, 1) := by decide +kernel
theorem dX4_rule_51 : decode cX4_rule 51 = .ok (.invokevirtual 114, 3) := by decide +kernel
theorem dX4_rule_54 : decode cX4_rule 54 = .ok (.ifCond .eq 16, 3) := by decide +kernel
theorem dX4_rule_57 : decode cX4_rule 57 = .ok (.aload_n 0, 1) := by decide +kernel
theorem dX4_rule_58 : decode cX4_rule 58 = .ok (.getfield 26, 3) := by decide +kernel
theorem dX4_rule_61 : decode cX4_rule 61 = .ok (.iload_n 1, 1) := by decide +kernel
theorem dX4_rule_62 : decode cX4_rule 62 = .ok (.aload_n 0, 1) := by decide +kernel
theorem dX4_rule_63 : decode cX4_rule 63 = .ok (.getfield 19, 3) := by decide +kernel
theorem dX4_rule_66 : decode cX4_rule 66 = .ok (.invokevirtual 106, 3) := by decide +kernel
theorem dX4_rule_69 : decode cX4_rule 69 = .ok (.ireturn, 1) := by decide +kernel
theorem dX4_rule_70 : decode cX4_rule 70 = .ok (.iconst 0, 1) := by decide +kernel
theorem dX4_rule_71 : decode cX4_rule 71 = .ok (.ireturn, 1) := by decide +kernel
set_option maxRecDepth 20000 in
theorem ggX4_from_X2_isBegun : GoodIn wsX4_from wsX2_isBegun := goodIn_r _ [10, 11, 19, 20, 21, 22, 23, 24, 25, 26, 27, 28, 29, 30, 31] (by decide +kernel) (by decide +kernel)
set_option maxRecDepth 20000 in
theorem gX4_from_X2_isBegun : GoodIn wsX4_from (wsV RX4 80 RX2 yX2_isBegun wsX2_isBegun) := goodIn_app (goodIn_of _ (by decide +kernel)) ggX4_from_X2_isBegun
set_option maxRecDepth 20000 in
theorem ggX4_from_X2_hasRow : GoodIn wsX4_from wsX2_hasRow := goodIn_r _ [15, 11, 19, 20, 21, 22, 23, 24, 25, 26, 27, 28, 29, 30, 31] (by decide +kernel) (by decide +kernel)
set_option maxRecDepth 20000 in
theorem gX4_from_X2_hasRow : GoodIn wsX4_from (wsV RX4 86 RX2 yX2_hasRow wsX2_hasRow) := goodIn_app (goodIn_of _ (by decide +kernel)) ggX4_from_X2_hasRow
theorem dX4_from_0 : decode cX4_from 0 = .ok (.aload_n 0, 1) := by decide +kernel
theorem dX4_from_1 : decode cX4_from 1 = .ok (.getfield 26, 3) := by decide +kernel
theorem dX4_from_4 : decode cX4_from 4 = .ok (.invokevirtual 80, 3) := by decide +kernel
theorem dX4_from_7 : decode cX4_from 7 = .ok (.ifCond .ne 6, 3) := by decide +kernel
theorem dX4_from_10 : decode cX4_from 10 = .ok (.ldc 84, 2) := by decide +kernel
theorem dX4_from_12 : decode cX4_from 12 = .ok (.ireturn, 1) := by decide +kernel
theorem dX4_from_13 : decode cX4_from 13 = .ok (.aload_n 0, 1) := by decide +kernel
theorem dX4_from_14 : decode cX4_from 14 = .ok (.getfield 26, 3) := by decide +kernel
theorem dX4_from_17 : decode cX4_from 17 = .ok (.getfield 117, 3) := by decide +kernel
theorem dX4_from_20 : decode cX4_from 20 = .ok (.ifCond .eq 14, 3) := by decide +kernel
theorem dX4_from_23 : decode cX4_from 23 = .ok (.aload_n 0, 1) := by decide +kernel
theorem dX4_from_24 : decode cX4_from 24 = .ok (.getfield 26, 3) := by decide +kernel
theorem dX4_from_27 : decode cX4_from 27 = .ok (.iload_n 1, 1) := by decide +kernel
theorem dX4_from_28 : decode cX4_from 28 = .ok (.invokevirtual 86, 3) := by decide +kernel
theorem dX4_from_31 : decode cX4_from 31 = .ok (.ifCond .ne 6, 3) := by decide +kernel
theorem dX4_from_34 : decode cX4_from 34 = .ok (.ldc 34, 2) := by decide +kernel
theorem dX4_from_36 : decode cX4_from 36 = .ok (.ireturn, 1) := by decide +kernel
theorem dX4_from_37 : decode cX4_from 37 = .ok (.aload_n 0, 1) := by decide +kernel
theorem dX4_from_38 : decode cX4_from 38 = .ok (.getfield 26, 3) := by decide +kernel
theorem dX4_from_41 : decode cX4_from 41 = .ok (.getfield 120, 3) := by decide +kernel
theorem dX4_from_44 : decode cX4_from 44 = .ok (.iload_n 1, 1) := by decide +kernel
theorem dX4_from_45 : decode cX4_from 45 = .ok (.iaload, 1) := by decide +kernel
theorem dX4_from_46 : decode cX4_from 46 = .ok (.ireturn, 1) := by decide +kernel
set_option maxRecDepth 20000 in
theorem ggX4_row_X2_isBegun : GoodIn wsX4_row wsX2_isBegun := goodIn_r _ [10, 11, 24, 25, 26, 27, 28, 29, 30, 31, 32, 33, 34, 35, 36] (by decide +kernel) (by decide +kernel)
set_option maxRecDepth 20000 in
theorem gX4_row_X2_isBegun : GoodIn wsX4_row (wsV RX4 80 RX2 yX2_isBegun wsX2_isBegun) := goodIn_app (goodIn_of _ (by decide +kernel)) ggX4_row_X2_isBegun
set_option maxRecDepth 20000 in
theorem ggX4_row_X2_hasRow : GoodIn wsX4_row wsX2_hasRow := goodIn_r _ [15, 11, 24, 25, 26, 27, 28, 29, 30, 31, 32, 33, 34, 35, 36] (by decide +kernel) (by decide +kernel)
set_option maxRecDepth 20000 in
theorem gX4_row_X2_hasRow : GoodIn wsX4_row (wsV RX4 86 RX2 yX2_hasRow wsX2_hasRow) := goodIn_app (goodIn_of _ (by decide +kernel)) ggX4_row_X2_hasRow
set_option maxRecDepth 20000 in
theorem ggX4_row_X2_places : GoodIn wsX4_row wsX2_places := goodIn_r _ [19, 20, 24, 25, 26, 27, 28, 29, 30, 31, 32, 33, 34, 35, 36] (by decide +kernel) (by decide +kernel)
set_option maxRecDepth 20000 in
theorem gX4_row_X2_places : GoodIn wsX4_row (wsV RX4 126 RX2 yX2_places wsX2_places) := goodIn_app (goodIn_of _ (by decide +kernel)) ggX4_row_X2_places
theorem dX4_row_0 : decode cX4_row 0 = .ok (.aload_n 0, 1) := by decide +kernel
theorem dX4_row_1 : decode cX4_row 1 = .ok (.getfield 26, 3) := by decide +kernel
theorem dX4_row_4 : decode cX4_row 4 = .ok (.invokevirtual 80, 3) := by decide +kernel
theorem dX4_row_7 : decode cX4_row 7 = .ok (.ifCond .ne 6, 3) := by decide +kernel
theorem dX4_row_10 : decode cX4_row 10 = .ok (.ldc 84, 2) := by decide +kernel
theorem dX4_row_12 : decode cX4_row 12 = .ok (.ireturn, 1) := by decide +kernel
theorem dX4_row_13 : decode cX4_row 13 = .ok (.aload_n 0, 1) := by decide +kernel
theorem dX4_row_14 : decode cX4_row 14 = .ok (.getfield 26, 3) := by decide +kernel
theorem dX4_row_17 : decode cX4_row 17 = .ok (.iload_n 1, 1) := by decide +kernel
theorem dX4_row_18 : decode cX4_row 18 = .ok (.invokevirtual 86, 3) := by decide +kernel
theorem dX4_row_21 : decode cX4_row 21 = .ok (.ifCond .ne 6, 3) := by decide +kernel
theorem dX4_row_24 : decode cX4_row 24 = .ok (.ldc 34, 2) := by decide +kernel
theorem dX4_row_26 : decode cX4_row 26 = .ok (.ireturn, 1) := by decide +kernel
theorem dX4_row_27 : decode cX4_row 27 = .ok (.iload_n 2, 1) := by decide +kernel
theorem dX4_row_28 : decode cX4_row 28 = .ok (.lookupswitch 46 #[(0, 28), (1, 38)], 28) := by decide +kernel
theorem dX4_row_56 : decode cX4_row 56 = .ok (.aload_n 0, 1) := by decide +kernel
theorem dX4_row_57 : decode cX4_row 57 = .ok (.getfield 26, 3) := by decide +kernel
theorem dX4_row_60 : decode cX4_row 60 = .ok (.getfield 123, 3) := by decide +kernel
theorem dX4_row_63 : decode cX4_row 63 = .ok (.iload_n 1, 1) := by decide +kernel
theorem dX4_row_64 : decode cX4_row 64 = .ok (.iaload, 1) := by decide +kernel
theorem dX4_row_65 : decode cX4_row 65 = .ok (.ireturn, 1) := by decide +kernel
theorem dX4_row_66 : decode cX4_row 66 = .ok (.aload_n 0, 1) := by decide +kernel
theorem dX4_row_67 : decode cX4_row 67 = .ok (.getfield 26, 3) := by decide +kernel
theorem dX4_row_70 : decode cX4_row 70 = .ok (.invokevirtual 126, 3) := by decide +kernel
theorem dX4_row_73 : decode cX4_row 73 = .ok (.ireturn, 1) := by decide +kernel
theorem dX4_row_74 : decode cX4_row 74 = .ok (.ldc 38, 2) := by decide +kernel
theorem dX4_row_76 : decode cX4_row 76 = .ok (.ireturn, 1) := by decide +kernel
set_option maxRecDepth 20000 in
theorem ggX4_weight_X2_isBegun : GoodIn wsX4_weight wsX2_isBegun := goodIn_r _ [9, 10, 18, 19, 20, 21, 22, 23, 24, 25, 26, 27, 28, 29, 30] (by decide +kernel) (by decide +kernel)
set_option maxRecDepth 20000 in
theorem gX4_weight_X2_isBegun : GoodIn wsX4_weight (wsV RX4 80 RX2 yX2_isBegun wsX2_isBegun) := goodIn_app (goodIn_of _ (by decide +kernel)) ggX4_weight_X2_isBegun
set_option maxRecDepth 20000 in
theorem ggX4_weight_X2_hasRow : GoodIn wsX4_weight wsX2_hasRow := goodIn_r _ [14, 10, 18, 19, 20, 21, 22, 23, 24, 25, 26, 27, 28, 29, 30] (by decide +kernel) (by decide +kernel)
set_option maxRecDepth 20000 in
theorem gX4_weight_X2_hasRow : GoodIn wsX4_weight (wsV RX4 86 RX2 yX2_hasRow wsX2_hasRow) := goodIn_app (goodIn_of _ (by decide +kernel)) ggX4_weight_X2_hasRow
theorem dX4_weight_0 : decode cX4_weight 0 = .ok (.aload_n 0, 1) := by decide +kernel
theorem dX4_weight_1 : decode cX4_weight 1 = .ok (.getfield 26, 3) := by decide +kernel
theorem dX4_weight_4 : decode cX4_weight 4 = .ok (.invokevirtual 80, 3) := by decide +kernel
theorem dX4_weight_7 : decode cX4_weight 7 = .ok (.ifCond .ne 7, 3) := by decide +kernel
theorem dX4_weight_10 : decode cX4_weight 10 = .ok (.ldc2_w 130, 3) := by decide +kernel
theorem dX4_weight_13 : decode cX4_weight 13 = .ok (.lreturn, 1) := by decide +kernel
theorem dX4_weight_14 : decode cX4_weight 14 = .ok (.aload_n 0, 1) := by decide +kernel
theorem dX4_weight_15 : decode cX4_weight 15 = .ok (.getfield 26, 3) := by decide +kernel
theorem dX4_weight_18 : decode cX4_weight 18 = .ok (.iload_n 1, 1) := by decide +kernel
theorem dX4_weight_19 : decode cX4_weight 19 = .ok (.invokevirtual 86, 3) := by decide +kernel
theorem dX4_weight_22 : decode cX4_weight 22 = .ok (.ifCond .ne 7, 3) := by decide +kernel
theorem dX4_weight_25 : decode cX4_weight 25 = .ok (.ldc2_w 132, 3) := by decide +kernel
theorem dX4_weight_28 : decode cX4_weight 28 = .ok (.lreturn, 1) := by decide +kernel
theorem dX4_weight_29 : decode cX4_weight 29 = .ok (.aload_n 0, 1) := by decide +kernel
theorem dX4_weight_30 : decode cX4_weight 30 = .ok (.getfield 26, 3) := by decide +kernel
theorem dX4_weight_33 : decode cX4_weight 33 = .ok (.getfield 134, 3) := by decide +kernel
theorem dX4_weight_36 : decode cX4_weight 36 = .ok (.iload_n 1, 1) := by decide +kernel
theorem dX4_weight_37 : decode cX4_weight 37 = .ok (.iaload, 1) := by decide +kernel
theorem dX4_weight_38 : decode cX4_weight 38 = .ok (.i2l, 1) := by decide +kernel
theorem dX4_weight_39 : decode cX4_weight 39 = .ok (.lreturn, 1) := by decide +kernel
set_option maxRecDepth 20000 in
theorem ggX4_history_X2_isBegun : GoodIn wsX4_history wsX2_isBegun := goodIn_r _ [12, 13, 36, 37, 38, 39, 40, 41, 42, 43, 44, 45, 46, 47, 48] (by decide +kernel) (by decide +kernel)
set_option maxRecDepth 20000 in
theorem gX4_history_X2_isBegun : GoodIn wsX4_history (wsV RX4 80 RX2 yX2_isBegun wsX2_isBegun) := goodIn_app (goodIn_of _ (by decide +kernel)) ggX4_history_X2_isBegun
set_option maxRecDepth 20000 in
theorem ggX4_history_X2_hasRow : GoodIn wsX4_history wsX2_hasRow := goodIn_r _ [17, 13, 36, 37, 38, 39, 40, 41, 42, 43, 44, 45, 46, 47, 48] (by decide +kernel) (by decide +kernel)
set_option maxRecDepth 20000 in
theorem gX4_history_X2_hasRow : GoodIn wsX4_history (wsV RX4 86 RX2 yX2_hasRow wsX2_hasRow) := goodIn_app (goodIn_of _ (by decide +kernel)) ggX4_history_X2_hasRow
set_option maxRecDepth 20000 in
theorem ggX4_history_X2_hasPlace : GoodIn wsX4_history wsX2_hasPlace := goodIn_r _ [21, 22, 23, 24, 11, 25, 26, 36, 37, 38, 39, 40, 41, 42, 43, 44, 45, 46, 47, 48] (by decide +kernel) (by decide +kernel)
set_option maxRecDepth 20000 in
theorem gX4_history_X2_hasPlace : GoodIn wsX4_history (wsV RX4 137 RX2 yX2_hasPlace wsX2_hasPlace) := goodIn_app (goodIn_of _ (by decide +kernel)) ggX4_history_X2_hasPlace
theorem dX4_history_0 : decode cX4_history 0 = .ok (.aload_n 0, 1) := by decide +kernel
theorem dX4_history_1 : decode cX4_history 1 = .ok (.getfield 26, 3) := by decide +kernel
theorem dX4_history_4 : decode cX4_history 4 = .ok (.invokevirtual 80, 3) := by decide +kernel
theorem dX4_history_7 : decode cX4_history 7 = .ok (.ifCond .ne 6, 3) := by decide +kernel
theorem dX4_history_10 : decode cX4_history 10 = .ok (.ldc 84, 2) := by decide +kernel
theorem dX4_history_12 : decode cX4_history 12 = .ok (.ireturn, 1) := by decide +kernel
theorem dX4_history_13 : decode cX4_history 13 = .ok (.aload_n 0, 1) := by decide +kernel
theorem dX4_history_14 : decode cX4_history 14 = .ok (.getfield 26, 3) := by decide +kernel
theorem dX4_history_17 : decode cX4_history 17 = .ok (.iload_n 1, 1) := by decide +kernel
theorem dX4_history_18 : decode cX4_history 18 = .ok (.invokevirtual 86, 3) := by decide +kernel
theorem dX4_history_21 : decode cX4_history 21 = .ok (.ifCond .ne 6, 3) := by decide +kernel
theorem dX4_history_24 : decode cX4_history 24 = .ok (.ldc 34, 2) := by decide +kernel
theorem dX4_history_26 : decode cX4_history 26 = .ok (.ireturn, 1) := by decide +kernel
theorem dX4_history_27 : decode cX4_history 27 = .ok (.aload_n 0, 1) := by decide +kernel
theorem dX4_history_28 : decode cX4_history 28 = .ok (.getfield 26, 3) := by decide +kernel
theorem dX4_history_31 : decode cX4_history 31 = .ok (.iload_n 2, 1) := by decide +kernel
theorem dX4_history_32 : decode cX4_history 32 = .ok (.invokevirtual 137, 3) := by decide +kernel
theorem dX4_history_35 : decode cX4_history 35 = .ok (.ifCond .ne 13, 3) := by decide +kernel
theorem dX4_history_38 : decode cX4_history 38 = .ok (.new 140, 3) := by decide +kernel
theorem dX4_history_41 : decode cX4_history 41 = .ok (.dup, 1) := by decide +kernel
theorem dX4_history_42 : decode cX4_history 42 = .ok (.ldc 142, 2) := by decide +kernel
theorem dX4_history_44 : decode cX4_history 44 = .ok (.invokespecial 144, 3) := by decide +kernel
theorem dX4_history_47 : decode cX4_history 47 = .ok (.athrow, 1) := by decide +kernel
theorem dX4_history_48 : decode cX4_history 48 = .ok (.aload_n 0, 1) := by decide +kernel
theorem dX4_history_49 : decode cX4_history 49 = .ok (.getfield 26, 3) := by decide +kernel
theorem dX4_history_52 : decode cX4_history 52 = .ok (.getfield 147, 3) := by decide +kernel
theorem dX4_history_55 : decode cX4_history 55 = .ok (.iload_n 1, 1) := by decide +kernel
theorem dX4_history_56 : decode cX4_history 56 = .ok (.aaload, 1) := by decide +kernel
theorem dX4_history_57 : decode cX4_history 57 = .ok (.iload_n 2, 1) := by decide +kernel
theorem dX4_history_58 : decode cX4_history 58 = .ok (.iaload, 1) := by decide +kernel
theorem dX4_history_59 : decode cX4_history 59 = .ok (.ireturn, 1) := by decide +kernel
set_option maxRecDepth 20000 in
theorem ggX4_write_X2_isBegun : GoodIn wsX4_write wsX2_isBegun := goodIn_r _ [10, 11, 32, 33, 34, 35, 36, 37, 38, 39, 40, 41, 42, 43, 44] (by decide +kernel) (by decide +kernel)
set_option maxRecDepth 20000 in
theorem gX4_write_X2_isBegun : GoodIn wsX4_write (wsV RX4 80 RX2 yX2_isBegun wsX2_isBegun) := goodIn_app (goodIn_of _ (by decide +kernel)) ggX4_write_X2_isBegun
set_option maxRecDepth 20000 in
theorem ggX4_write_X2_hasRow : GoodIn wsX4_write wsX2_hasRow := goodIn_r _ [15, 11, 32, 33, 34, 35, 36, 37, 38, 39, 40, 41, 42, 43, 44] (by decide +kernel) (by decide +kernel)
set_option maxRecDepth 20000 in
theorem gX4_write_X2_hasRow : GoodIn wsX4_write (wsV RX4 86 RX2 yX2_hasRow wsX2_hasRow) := goodIn_app (goodIn_of _ (by decide +kernel)) ggX4_write_X2_hasRow
set_option maxRecDepth 20000 in
theorem ggX4_write_X4_isState : GoodIn wsX4_write wsX4_isState := goodIn_r _ [19] (by decide +kernel) (by decide +kernel)
set_option maxRecDepth 20000 in
theorem gX4_write_X4_isState : GoodIn wsX4_write (va_wsS RX4 30 yX4_isState wsX4_isState) := goodIn_app (goodIn_of _ (by decide +kernel)) ggX4_write_X4_isState
set_option maxRecDepth 20000 in
theorem ggX4_write_X2_hasPlace : GoodIn wsX4_write wsX2_hasPlace := goodIn_r _ [23, 24, 25, 26, 9, 27, 28, 32, 33, 34, 35, 36, 37, 38, 39, 40, 41, 42, 43, 44] (by decide +kernel) (by decide +kernel)
set_option maxRecDepth 20000 in
theorem gX4_write_X2_hasPlace : GoodIn wsX4_write (wsV RX4 137 RX2 yX2_hasPlace wsX2_hasPlace) := goodIn_app (goodIn_of _ (by decide +kernel)) ggX4_write_X2_hasPlace
theorem dX4_write_0 : decode cX4_write 0 = .ok (.aload_n 0, 1) := by decide +kernel
theorem dX4_write_1 : decode cX4_write 1 = .ok (.getfield 26, 3) := by decide +kernel
theorem dX4_write_4 : decode cX4_write 4 = .ok (.invokevirtual 80, 3) := by decide +kernel
theorem dX4_write_7 : decode cX4_write 7 = .ok (.ifCond .ne 6, 3) := by decide +kernel
theorem dX4_write_10 : decode cX4_write 10 = .ok (.ldc 84, 2) := by decide +kernel
theorem dX4_write_12 : decode cX4_write 12 = .ok (.ireturn, 1) := by decide +kernel
theorem dX4_write_13 : decode cX4_write 13 = .ok (.aload_n 0, 1) := by decide +kernel
theorem dX4_write_14 : decode cX4_write 14 = .ok (.getfield 26, 3) := by decide +kernel
theorem dX4_write_17 : decode cX4_write 17 = .ok (.iload_n 1, 1) := by decide +kernel
theorem dX4_write_18 : decode cX4_write 18 = .ok (.invokevirtual 86, 3) := by decide +kernel
theorem dX4_write_21 : decode cX4_write 21 = .ok (.ifCond .eq 10, 3) := by decide +kernel
theorem dX4_write_24 : decode cX4_write 24 = .ok (.iload_n 3, 1) := by decide +kernel
theorem dX4_write_25 : decode cX4_write 25 = .ok (.invokestatic 30, 3) := by decide +kernel
theorem dX4_write_28 : decode cX4_write 28 = .ok (.ifCond .ne 6, 3) := by decide +kernel
theorem dX4_write_31 : decode cX4_write 31 = .ok (.ldc 34, 2) := by decide +kernel
theorem dX4_write_33 : decode cX4_write 33 = .ok (.ireturn, 1) := by decide +kernel
theorem dX4_write_34 : decode cX4_write 34 = .ok (.aload_n 0, 1) := by decide +kernel
theorem dX4_write_35 : decode cX4_write 35 = .ok (.getfield 26, 3) := by decide +kernel
theorem dX4_write_38 : decode cX4_write 38 = .ok (.iload_n 2, 1) := by decide +kernel
theorem dX4_write_39 : decode cX4_write 39 = .ok (.invokevirtual 137, 3) := by decide +kernel
theorem dX4_write_42 : decode cX4_write 42 = .ok (.ifCond .ne 6, 3) := by decide +kernel
theorem dX4_write_45 : decode cX4_write 45 = .ok (.ldc 38, 2) := by decide +kernel
theorem dX4_write_47 : decode cX4_write 47 = .ok (.ireturn, 1) := by decide +kernel
theorem dX4_write_48 : decode cX4_write 48 = .ok (.aload_n 0, 1) := by decide +kernel
theorem dX4_write_49 : decode cX4_write 49 = .ok (.getfield 26, 3) := by decide +kernel
theorem dX4_write_52 : decode cX4_write 52 = .ok (.getfield 147, 3) := by decide +kernel
theorem dX4_write_55 : decode cX4_write 55 = .ok (.iload_n 1, 1) := by decide +kernel
theorem dX4_write_56 : decode cX4_write 56 = .ok (.aaload, 1) := by decide +kernel
theorem dX4_write_57 : decode cX4_write 57 = .ok (.iload_n 2, 1) := by decide +kernel
theorem dX4_write_58 : decode cX4_write 58 = .ok (.iload_n 3, 1) := by decide +kernel
theorem dX4_write_59 : decode cX4_write 59 = .ok (.iastore, 1) := by decide +kernel
theorem dX4_write_60 : decode cX4_write 60 = .ok (.iconst 1, 1) := by decide +kernel
theorem dX4_write_61 : decode cX4_write 61 = .ok (.ireturn, 1) := by decide +kernel
set_option maxRecDepth 20000 in
theorem ggX4_told_X2_isBegun : GoodIn wsX4_told wsX2_isBegun := goodIn_r _ [8, 9, 31, 32, 33, 34, 35, 36, 37, 38, 39, 40, 41, 42, 43] (by decide +kernel) (by decide +kernel)
set_option maxRecDepth 20000 in
theorem gX4_told_X2_isBegun : GoodIn wsX4_told (wsV RX4 80 RX2 yX2_isBegun wsX2_isBegun) := goodIn_app (goodIn_of _ (by decide +kernel)) ggX4_told_X2_isBegun
set_option maxRecDepth 20000 in
theorem ggX4_told_X2_total : GoodIn wsX4_told wsX2_total := goodIn_ca (goodIn_r _ [13, 14, 9, 15, 16, 17, 31, 32, 33, 34, 35, 36, 37, 38, 39, 40, 41, 42, 43] (by decide +kernel) (by decide +kernel)) (goodIn_sub (fun _ h => List.mem_cons_of_mem _ (List.mem_append_right _ h)) (by decide +kernel))
set_option maxRecDepth 20000 in
theorem gX4_told_X2_total : GoodIn wsX4_told (wsV RX4 110 RX2 yX2_total wsX2_total) := goodIn_app (goodIn_of _ (by decide +kernel)) ggX4_told_X2_total
set_option maxRecDepth 20000 in
theorem ggX4_told_X2_squares : GoodIn wsX4_told wsX2_squares := goodIn_ca (goodIn_r _ [21, 9, 14, 31, 32, 33, 34, 35, 36, 37, 38, 39, 40, 41, 42, 43] (by decide +kernel) (by decide +kernel)) (goodIn_sub (fun _ h => List.mem_cons_of_mem _ (List.mem_append_right _ h)) (by decide +kernel))
set_option maxRecDepth 20000 in
theorem gX4_told_X2_squares : GoodIn wsX4_told (wsV RX4 150 RX2 yX2_squares wsX2_squares) := goodIn_app (goodIn_of _ (by decide +kernel)) ggX4_told_X2_squares
set_option maxRecDepth 20000 in
theorem ggX4_told_X2_effective : GoodIn wsX4_told wsX2_effective := goodIn_ca (goodIn_r _ [25, 26, 19, 20, 7, 21, 9, 14, 27, 11, 12, 13, 15, 16, 17, 31, 32, 33, 34, 35, 36, 37, 38, 39, 40, 41, 42, 43] (by decide +kernel) (by decide +kernel)) (goodIn_sub (fun _ h => List.mem_cons_of_mem _ (List.mem_append_right _ h)) (by decide +kernel))
set_option maxRecDepth 20000 in
theorem gX4_told_X2_effective : GoodIn wsX4_told (wsV RX4 153 RX2 yX2_effective wsX2_effective) := goodIn_app (goodIn_of _ (by decide +kernel)) ggX4_told_X2_effective
theorem dX4_told_0 : decode cX4_told 0 = .ok (.aload_n 0, 1) := by decide +kernel
theorem dX4_told_1 : decode cX4_told 1 = .ok (.getfield 26, 3) := by decide +kernel
theorem dX4_told_4 : decode cX4_told 4 = .ok (.invokevirtual 80, 3) := by decide +kernel
theorem dX4_told_7 : decode cX4_told 7 = .ok (.ifCond .ne 7, 3) := by decide +kernel
theorem dX4_told_10 : decode cX4_told 10 = .ok (.ldc2_w 130, 3) := by decide +kernel
theorem dX4_told_13 : decode cX4_told 13 = .ok (.lreturn, 1) := by decide +kernel
theorem dX4_told_14 : decode cX4_told 14 = .ok (.iload_n 1, 1) := by decide +kernel
theorem dX4_told_15 : decode cX4_told 15 = .ok (.tableswitch 49 0 2 #[25, 33, 41], 25) := by decide +kernel
theorem dX4_told_40 : decode cX4_told 40 = .ok (.aload_n 0, 1) := by decide +kernel
theorem dX4_told_41 : decode cX4_told 41 = .ok (.getfield 26, 3) := by decide +kernel
theorem dX4_told_44 : decode cX4_told 44 = .ok (.invokevirtual 110, 3) := by decide +kernel
theorem dX4_told_47 : decode cX4_told 47 = .ok (.lreturn, 1) := by decide +kernel
theorem dX4_told_48 : decode cX4_told 48 = .ok (.aload_n 0, 1) := by decide +kernel
theorem dX4_told_49 : decode cX4_told 49 = .ok (.getfield 26, 3) := by decide +kernel
theorem dX4_told_52 : decode cX4_told 52 = .ok (.invokevirtual 150, 3) := by decide +kernel
theorem dX4_told_55 : decode cX4_told 55 = .ok (.lreturn, 1) := by decide +kernel
theorem dX4_told_56 : decode cX4_told 56 = .ok (.aload_n 0, 1) := by decide +kernel
theorem dX4_told_57 : decode cX4_told 57 = .ok (.getfield 26, 3) := by decide +kernel
theorem dX4_told_60 : decode cX4_told 60 = .ok (.invokevirtual 153, 3) := by decide +kernel
theorem dX4_told_63 : decode cX4_told 63 = .ok (.lreturn, 1) := by decide +kernel
theorem dX4_told_64 : decode cX4_told 64 = .ok (.ldc2_w 156, 3) := by decide +kernel
theorem dX4_told_67 : decode cX4_told 67 = .ok (.lreturn, 1) := by decide +kernel
set_option maxRecDepth 20000 in
theorem ggX4_evidence_X2_isBegun : GoodIn wsX4_evidence wsX2_isBegun := goodIn_r _ [6, 7, 24, 25, 26, 27, 28, 29, 30, 31, 32, 33, 34, 35, 36] (by decide +kernel) (by decide +kernel)
set_option maxRecDepth 20000 in
theorem gX4_evidence_X2_isBegun : GoodIn wsX4_evidence (wsV RX4 80 RX2 yX2_isBegun wsX2_isBegun) := goodIn_app (goodIn_of _ (by decide +kernel)) ggX4_evidence_X2_isBegun
set_option maxRecDepth 20000 in
theorem ggX4_evidence_X2_evidenceSoFar : GoodIn wsX4_evidence wsX2_evidenceSoFar := goodIn_ca (goodIn_r _ [11, 12, 7, 13, 14, 15, 5, 16, 17, 18, 19, 20, 24, 25, 26, 27, 28, 29, 30, 31, 32, 33, 34, 35, 36] (by decide +kernel) (by decide +kernel)) (goodIn_sub (fun _ h => List.mem_cons_of_mem _ (List.mem_append_right _ h)) (by decide +kernel))
set_option maxRecDepth 20000 in
theorem gX4_evidence_X2_evidenceSoFar : GoodIn wsX4_evidence (wsV RX4 158 RX2 yX2_evidenceSoFar wsX2_evidenceSoFar) := goodIn_app (goodIn_of _ (by decide +kernel)) ggX4_evidence_X2_evidenceSoFar
theorem dX4_evidence_0 : decode cX4_evidence 0 = .ok (.aload_n 0, 1) := by decide +kernel
theorem dX4_evidence_1 : decode cX4_evidence 1 = .ok (.getfield 26, 3) := by decide +kernel
theorem dX4_evidence_4 : decode cX4_evidence 4 = .ok (.invokevirtual 80, 3) := by decide +kernel
theorem dX4_evidence_7 : decode cX4_evidence 7 = .ok (.ifCond .eq 13, 3) := by decide +kernel
theorem dX4_evidence_10 : decode cX4_evidence 10 = .ok (.aload_n 0, 1) := by decide +kernel
theorem dX4_evidence_11 : decode cX4_evidence 11 = .ok (.getfield 26, 3) := by decide +kernel
theorem dX4_evidence_14 : decode cX4_evidence 14 = .ok (.invokevirtual 158, 3) := by decide +kernel
theorem dX4_evidence_17 : decode cX4_evidence 17 = .ok (.goto 4, 3) := by decide +kernel
theorem dX4_evidence_20 : decode cX4_evidence 20 = .ok (.dconst 0, 1) := by decide +kernel
theorem dX4_evidence_21 : decode cX4_evidence 21 = .ok (.dreturn, 1) := by decide +kernel
theorem dX4_count_0 : decode cX4_count 0 = .ok (.iload_n 1, 1) := by decide +kernel
theorem dX4_count_1 : decode cX4_count 1 = .ok (.tableswitch 75 0 4 #[35, 43, 51, 59, 67], 35) := by decide +kernel
theorem dX4_count_36 : decode cX4_count 36 = .ok (.aload_n 0, 1) := by decide +kernel
theorem dX4_count_37 : decode cX4_count 37 = .ok (.getfield 26, 3) := by decide +kernel
theorem dX4_count_40 : decode cX4_count 40 = .ok (.getfield 162, 3) := by decide +kernel
theorem dX4_count_43 : decode cX4_count 43 = .ok (.ireturn, 1) := by decide +kernel
theorem dX4_count_44 : decode cX4_count 44 = .ok (.aload_n 0, 1) := by decide +kernel
theorem dX4_count_45 : decode cX4_count 45 = .ok (.getfield 26, 3) := by decide +kernel
theorem dX4_count_48 : decode cX4_count 48 = .ok (.getfield 92, 3) := by decide +kernel
theorem dX4_count_51 : decode cX4_count 51 = .ok (.ireturn, 1) := by decide +kernel
theorem dX4_count_52 : decode cX4_count 52 = .ok (.aload_n 0, 1) := by decide +kernel
theorem dX4_count_53 : decode cX4_count 53 = .ok (.getfield 26, 3) := by decide +kernel
theorem dX4_count_56 : decode cX4_count 56 = .ok (.getfield 117, 3) := by decide +kernel
theorem dX4_count_59 : decode cX4_count 59 = .ok (.ireturn, 1) := by decide +kernel
theorem dX4_count_60 : decode cX4_count 60 = .ok (.aload_n 0, 1) := by decide +kernel
theorem dX4_count_61 : decode cX4_count 61 = .ok (.getfield 19, 3) := by decide +kernel
theorem dX4_count_64 : decode cX4_count 64 = .ok (.getfield 63, 3) := by decide +kernel
theorem dX4_count_67 : decode cX4_count 67 = .ok (.ireturn, 1) := by decide +kernel
theorem dX4_count_68 : decode cX4_count 68 = .ok (.aload_n 0, 1) := by decide +kernel
theorem dX4_count_69 : decode cX4_count 69 = .ok (.getfield 26, 3) := by decide +kernel
theorem dX4_count_72 : decode cX4_count 72 = .ok (.getfield 89, 3) := by decide +kernel
theorem dX4_count_75 : decode cX4_count 75 = .ok (.ireturn, 1) := by decide +kernel
theorem dX4_count_76 : decode cX4_count 76 = .ok (.ldc 38, 2) := by decide +kernel
theorem dX4_count_78 : decode cX4_count 78 = .ok (.ireturn, 1) := by decide +kernel
set_option maxRecDepth 20000 in
theorem ggX4_clear_X3_setAsAtFirst : GoodIn wsX4_clear wsX3_setAsAtFirst := goodIn_r _ [9, 10, 11, 12, 13, 14, 15, 16, 17, 53, 54, 55, 56] (by decide +kernel) (by decide +kernel)
set_option maxRecDepth 20000 in
theorem gX4_clear_X3_setAsAtFirst : GoodIn wsX4_clear (wsV RX4 165 RX3 yX3_setAsAtFirst wsX3_setAsAtFirst) := goodIn_app (goodIn_of _ (by decide +kernel)) ggX4_clear_X3_setAsAtFirst
set_option maxRecDepth 20000 in
theorem ggX4_clear_X0_setAsAtFirst : GoodIn wsX4_clear wsX0_setAsAtFirst := goodIn_r _ [22, 23, 24, 25, 57, 58, 59, 60] (by decide +kernel) (by decide +kernel)
set_option maxRecDepth 20000 in
theorem gX4_clear_X0_setAsAtFirst : GoodIn wsX4_clear (wsV RX4 168 RX0 yX0_setAsAtFirst wsX0_setAsAtFirst) := goodIn_app (goodIn_of _ (by decide +kernel)) ggX4_clear_X0_setAsAtFirst
set_option maxRecDepth 20000 in
theorem ggX4_clear_X2_end : GoodIn wsX4_clear wsX2_end := goodIn_r _ [30, 31, 32, 33, 34, 35, 36, 40, 41, 42, 43, 44, 45, 46, 47, 48, 49, 50, 51, 52] (by decide +kernel) (by decide +kernel)
set_option maxRecDepth 20000 in
theorem gX4_clear_X2_end : GoodIn wsX4_clear (wsV RX4 169 RX2 yX2_end wsX2_end) := goodIn_app (goodIn_of _ (by decide +kernel)) ggX4_clear_X2_end
theorem dX4_clear_0 : decode cX4_clear 0 = .ok (.aload_n 0, 1) := by decide +kernel
theorem dX4_clear_1 : decode cX4_clear 1 = .ok (.getfield 26, 3) := by decide +kernel
theorem dX4_clear_4 : decode cX4_clear 4 = .ok (.getfield 162, 3) := by decide +kernel
theorem dX4_clear_7 : decode cX4_clear 7 = .ok (.istore_n 1, 1) := by decide +kernel
theorem dX4_clear_8 : decode cX4_clear 8 = .ok (.aload_n 0, 1) := by decide +kernel
theorem dX4_clear_9 : decode cX4_clear 9 = .ok (.getfield 10, 3) := by decide +kernel
theorem dX4_clear_12 : decode cX4_clear 12 = .ok (.invokevirtual 165, 3) := by decide +kernel
theorem dX4_clear_15 : decode cX4_clear 15 = .ok (.aload_n 0, 1) := by decide +kernel
theorem dX4_clear_16 : decode cX4_clear 16 = .ok (.getfield 19, 3) := by decide +kernel
theorem dX4_clear_19 : decode cX4_clear 19 = .ok (.invokevirtual 168, 3) := by decide +kernel
theorem dX4_clear_22 : decode cX4_clear 22 = .ok (.aload_n 0, 1) := by decide +kernel
theorem dX4_clear_23 : decode cX4_clear 23 = .ok (.getfield 26, 3) := by decide +kernel
theorem dX4_clear_26 : decode cX4_clear 26 = .ok (.invokevirtual 169, 3) := by decide +kernel
theorem dX4_clear_29 : decode cX4_clear 29 = .ok (.iload_n 1, 1) := by decide +kernel
theorem dX4_clear_30 : decode cX4_clear 30 = .ok (.ireturn, 1) := by decide +kernel
theorem dX4_isState_0 : decode cX4_isState 0 = .ok (.iload_n 0, 1) := by decide +kernel
theorem dX4_isState_1 : decode cX4_isState 1 = .ok (.ifCond .lt 13, 3) := by decide +kernel
theorem dX4_isState_4 : decode cX4_isState 4 = .ok (.iload_n 0, 1) := by decide +kernel
theorem dX4_isState_5 : decode cX4_isState 5 = .ok (.bipush 6, 2) := by decide +kernel
theorem dX4_isState_7 : decode cX4_isState 7 = .ok (.if_icmp .ge 7, 3) := by decide +kernel
theorem dX4_isState_10 : decode cX4_isState 10 = .ok (.iconst 1, 1) := by decide +kernel
theorem dX4_isState_11 : decode cX4_isState 11 = .ok (.goto 4, 3) := by decide +kernel
theorem dX4_isState_14 : decode cX4_isState 14 = .ok (.iconst 0, 1) := by decide +kernel
theorem dX4_isState_15 : decode cX4_isState 15 = .ok (.ireturn, 1) := by decide +kernel
theorem dX4_isSight_0 : decode cX4_isSight 0 = .ok (.iload_n 0, 1) := by decide +kernel
theorem dX4_isSight_1 : decode cX4_isSight 1 = .ok (.ifCond .lt 12, 3) := by decide +kernel
theorem dX4_isSight_4 : decode cX4_isSight 4 = .ok (.iload_n 0, 1) := by decide +kernel
theorem dX4_isSight_5 : decode cX4_isSight 5 = .ok (.iconst 5, 1) := by decide +kernel
theorem dX4_isSight_6 : decode cX4_isSight 6 = .ok (.if_icmp .ge 7, 3) := by decide +kernel
theorem dX4_isSight_9 : decode cX4_isSight 9 = .ok (.iconst 1, 1) := by decide +kernel
theorem dX4_isSight_10 : decode cX4_isSight 10 = .ok (.goto 4, 3) := by decide +kernel
theorem dX4_isSight_13 : decode cX4_isSight 13 = .ok (.iconst 0, 1) := by decide +kernel
theorem dX4_isSight_14 : decode cX4_isSight 14 = .ok (.ireturn, 1) := by decide +kernel
theorem dX4_isName_0 : decode cX4_isName 0 = .ok (.iload_n 0, 1) := by decide +kernel
theorem dX4_isName_1 : decode cX4_isName 1 = .ok (.ifCond .lt 12, 3) := by decide +kernel
theorem dX4_isName_4 : decode cX4_isName 4 = .ok (.iload_n 0, 1) := by decide +kernel
theorem dX4_isName_5 : decode cX4_isName 5 = .ok (.iconst 4, 1) := by decide +kernel
theorem dX4_isName_6 : decode cX4_isName 6 = .ok (.if_icmp .ge 7, 3) := by decide +kernel
theorem dX4_isName_9 : decode cX4_isName 9 = .ok (.iconst 1, 1) := by decide +kernel
theorem dX4_isName_10 : decode cX4_isName 10 = .ok (.goto 4, 3) := by decide +kernel
theorem dX4_isName_13 : decode cX4_isName 13 = .ok (.iconst 0, 1) := by decide +kernel
theorem dX4_isName_14 : decode cX4_isName 14 = .ok (.ireturn, 1) := by decide +kernel
theorem dX4_isWay_0 : decode cX4_isWay 0 = .ok (.iload_n 0, 1) := by decide +kernel
theorem dX4_isWay_1 : decode cX4_isWay 1 = .ok (.ifCond .lt 12, 3) := by decide +kernel
theorem dX4_isWay_4 : decode cX4_isWay 4 = .ok (.iload_n 0, 1) := by decide +kernel
theorem dX4_isWay_5 : decode cX4_isWay 5 = .ok (.iconst 4, 1) := by decide +kernel
theorem dX4_isWay_6 : decode cX4_isWay 6 = .ok (.if_icmp .ge 7, 3) := by decide +kernel
theorem dX4_isWay_9 : decode cX4_isWay 9 = .ok (.iconst 1, 1) := by decide +kernel
theorem dX4_isWay_10 : decode cX4_isWay 10 = .ok (.goto 4, 3) := by decide +kernel
theorem dX4_isWay_13 : decode cX4_isWay 13 = .ok (.iconst 0, 1) := by decide +kernel
theorem dX4_isWay_14 : decode cX4_isWay 14 = .ok (.ireturn, 1) := by decide +kernel
theorem dX4_isEntry_0 : decode cX4_isEntry 0 = .ok (.iload_n 0, 1) := by decide +kernel
theorem dX4_isEntry_1 : decode cX4_isEntry 1 = .ok (.ifCond .lt 13, 3) := by decide +kernel
theorem dX4_isEntry_4 : decode cX4_isEntry 4 = .ok (.iload_n 0, 1) := by decide +kernel
theorem dX4_isEntry_5 : decode cX4_isEntry 5 = .ok (.bipush 9, 2) := by decide +kernel
theorem dX4_isEntry_7 : decode cX4_isEntry 7 = .ok (.if_icmp .gt 7, 3) := by decide +kernel
theorem dX4_isEntry_10 : decode cX4_isEntry 10 = .ok (.iconst 1, 1) := by decide +kernel
theorem dX4_isEntry_11 : decode cX4_isEntry 11 = .ok (.goto 4, 3) := by decide +kernel
theorem dX4_isEntry_14 : decode cX4_isEntry 14 = .ok (.iconst 0, 1) := by decide +kernel
theorem dX4_isEntry_15 : decode cX4_isEntry 15 = .ok (.ireturn, 1) := by decide +kernel
theorem dX4_exchange_0 : decode cX4_exchange 0 = .ok (.aload_n 0, 1) := by decide +kernel
theorem dX4_exchange_1 : decode cX4_exchange 1 = .ok (.iload_n 1, 1) := by decide +kernel
theorem dX4_exchange_2 : decode cX4_exchange 2 = .ok (.iaload, 1) := by decide +kernel
theorem dX4_exchange_3 : decode cX4_exchange 3 = .ok (.istore_n 3, 1) := by decide +kernel
theorem dX4_exchange_4 : decode cX4_exchange 4 = .ok (.aload_n 0, 1) := by decide +kernel
theorem dX4_exchange_5 : decode cX4_exchange 5 = .ok (.iload_n 1, 1) := by decide +kernel
theorem dX4_exchange_6 : decode cX4_exchange 6 = .ok (.iload_n 2, 1) := by decide +kernel
theorem dX4_exchange_7 : decode cX4_exchange 7 = .ok (.iastore, 1) := by decide +kernel
theorem dX4_exchange_8 : decode cX4_exchange 8 = .ok (.iload_n 3, 1) := by decide +kernel
theorem dX4_exchange_9 : decode cX4_exchange 9 = .ok (.ireturn, 1) := by decide +kernel
theorem dX4_sumOf_0 : decode cX4_sumOf 0 = .ok (.lconst 0, 1) := by decide +kernel
theorem dX4_sumOf_1 : decode cX4_sumOf 1 = .ok (.lstore_n 2, 1) := by decide +kernel
theorem dX4_sumOf_2 : decode cX4_sumOf 2 = .ok (.iconst 0, 1) := by decide +kernel
theorem dX4_sumOf_3 : decode cX4_sumOf 3 = .ok (.istore 4, 2) := by decide +kernel
theorem dX4_sumOf_5 : decode cX4_sumOf 5 = .ok (.iload 4, 2) := by decide +kernel
theorem dX4_sumOf_7 : decode cX4_sumOf 7 = .ok (.iload_n 1, 1) := by decide +kernel
theorem dX4_sumOf_8 : decode cX4_sumOf 8 = .ok (.if_icmp .ge 17, 3) := by decide +kernel
theorem dX4_sumOf_11 : decode cX4_sumOf 11 = .ok (.lload_n 2, 1) := by decide +kernel
theorem dX4_sumOf_12 : decode cX4_sumOf 12 = .ok (.aload_n 0, 1) := by decide +kernel
theorem dX4_sumOf_13 : decode cX4_sumOf 13 = .ok (.iload 4, 2) := by decide +kernel
theorem dX4_sumOf_15 : decode cX4_sumOf 15 = .ok (.iaload, 1) := by decide +kernel
theorem dX4_sumOf_16 : decode cX4_sumOf 16 = .ok (.i2l, 1) := by decide +kernel
theorem dX4_sumOf_17 : decode cX4_sumOf 17 = .ok (.ladd, 1) := by decide +kernel
theorem dX4_sumOf_18 : decode cX4_sumOf 18 = .ok (.lstore_n 2, 1) := by decide +kernel
theorem dX4_sumOf_19 : decode cX4_sumOf 19 = .ok (.iinc 4 1, 3) := by decide +kernel
theorem dX4_sumOf_22 : decode cX4_sumOf 22 = .ok (.goto (-17), 3) := by decide +kernel
theorem dX4_sumOf_25 : decode cX4_sumOf 25 = .ok (.lload_n 2, 1) := by decide +kernel
theorem dX4_sumOf_26 : decode cX4_sumOf 26 = .ok (.lreturn, 1) := by decide +kernel
theorem dX4_firstAbove_0 : decode cX4_firstAbove 0 = .ok (.lconst 0, 1) := by decide +kernel
theorem dX4_firstAbove_1 : decode cX4_firstAbove 1 = .ok (.lstore 6, 2) := by decide +kernel
theorem dX4_firstAbove_3 : decode cX4_firstAbove 3 = .ok (.iconst 0, 1) := by decide +kernel
theorem dX4_firstAbove_4 : decode cX4_firstAbove 4 = .ok (.istore 8, 2) := by decide +kernel
theorem dX4_firstAbove_6 : decode cX4_firstAbove 6 = .ok (.iload 8, 2) := by decide +kernel
theorem dX4_firstAbove_8 : decode cX4_firstAbove 8 = .ok (.iload 5, 2) := by decide +kernel
theorem dX4_firstAbove_10 : decode cX4_firstAbove 10 = .ok (.if_icmp .ge 32, 3) := by decide +kernel
theorem dX4_firstAbove_13 : decode cX4_firstAbove 13 = .ok (.lload 6, 2) := by decide +kernel
theorem dX4_firstAbove_15 : decode cX4_firstAbove 15 = .ok (.lload_n 2, 1) := by decide +kernel
theorem dX4_firstAbove_16 : decode cX4_firstAbove 16 = .ok (.aload 4, 2) := by decide +kernel
theorem dX4_firstAbove_18 : decode cX4_firstAbove 18 = .ok (.iload 8, 2) := by decide +kernel
theorem dX4_firstAbove_20 : decode cX4_firstAbove 20 = .ok (.iaload, 1) := by decide +kernel
theorem dX4_firstAbove_21 : decode cX4_firstAbove 21 = .ok (.i2l, 1) := by decide +kernel
theorem dX4_firstAbove_22 : decode cX4_firstAbove 22 = .ok (.lmul, 1) := by decide +kernel
theorem dX4_firstAbove_23 : decode cX4_firstAbove 23 = .ok (.ladd, 1) := by decide +kernel
theorem dX4_firstAbove_24 : decode cX4_firstAbove 24 = .ok (.lstore 6, 2) := by decide +kernel
theorem dX4_firstAbove_26 : decode cX4_firstAbove 26 = .ok (.lload 6, 2) := by decide +kernel
theorem dX4_firstAbove_28 : decode cX4_firstAbove 28 = .ok (.lload_n 0, 1) := by decide +kernel
theorem dX4_firstAbove_29 : decode cX4_firstAbove 29 = .ok (.lcmp, 1) := by decide +kernel
theorem dX4_firstAbove_30 : decode cX4_firstAbove 30 = .ok (.ifCond .le 6, 3) := by decide +kernel
theorem dX4_firstAbove_33 : decode cX4_firstAbove 33 = .ok (.iload 8, 2) := by decide +kernel
theorem dX4_firstAbove_35 : decode cX4_firstAbove 35 = .ok (.ireturn, 1) := by decide +kernel
theorem dX4_firstAbove_36 : decode cX4_firstAbove 36 = .ok (.iinc 8 1, 3) := by decide +kernel
theorem dX4_firstAbove_39 : decode cX4_firstAbove 39 = .ok (.goto (-33), 3) := by decide +kernel
theorem dX4_firstAbove_42 : decode cX4_firstAbove 42 = .ok (.ldc 172, 2) := by decide +kernel
theorem dX4_firstAbove_44 : decode cX4_firstAbove 44 = .ok (.ireturn, 1) := by decide +kernel
theorem dJ7_fill_53178_0 : decode cJ7_fill_53178 0 = .ok (.iconst 0, 1) := by decide +kernel
theorem dJ7_fill_53178_1 : decode cJ7_fill_53178 1 = .ok (.istore_n 2, 1) := by decide +kernel
theorem dJ7_fill_53178_2 : decode cJ7_fill_53178 2 = .ok (.aload_n 0, 1) := by decide +kernel
theorem dJ7_fill_53178_3 : decode cJ7_fill_53178 3 = .ok (.arraylength, 1) := by decide +kernel
theorem dJ7_fill_53178_4 : decode cJ7_fill_53178 4 = .ok (.istore_n 3, 1) := by decide +kernel
theorem dJ7_fill_53178_5 : decode cJ7_fill_53178 5 = .ok (.iload_n 2, 1) := by decide +kernel
theorem dJ7_fill_53178_6 : decode cJ7_fill_53178 6 = .ok (.iload_n 3, 1) := by decide +kernel
theorem dJ7_fill_53178_7 : decode cJ7_fill_53178 7 = .ok (.if_icmp .ge 13, 3) := by decide +kernel
theorem dJ7_fill_53178_10 : decode cJ7_fill_53178 10 = .ok (.aload_n 0, 1) := by decide +kernel
theorem dJ7_fill_53178_11 : decode cJ7_fill_53178 11 = .ok (.iload_n 2, 1) := by decide +kernel
theorem dJ7_fill_53178_12 : decode cJ7_fill_53178 12 = .ok (.iload_n 1, 1) := by decide +kernel
theorem dJ7_fill_53178_13 : decode cJ7_fill_53178 13 = .ok (.iastore, 1) := by decide +kernel
theorem dJ7_fill_53178_14 : decode cJ7_fill_53178 14 = .ok (.iinc 2 1, 3) := by decide +kernel
theorem dJ7_fill_53178_17 : decode cJ7_fill_53178 17 = .ok (.goto (-12), 3) := by decide +kernel
theorem dJ7_fill_53178_20 : decode cJ7_fill_53178 20 = .ok (.return_, 1) := by decide +kernel
end
section
/-! FLAT MEMORY: the cells of one side (the system's, or the reference's) are numbered 0 .. N-1; 'ad' gives a number's address; a memory M says what each holds: ints M.1, longs M.2.1, the double M.2.2.1, the numbers behind references that change M.2.2.2. -/
abbrev fl_M : Type := (Nat → Nat → Int32) × (Nat → Nat → Int64) × (Nat → UInt64) × (Nat → Nat → Nat)
def fl_sI (M : fl_M) (c k : Nat) (v : Int32) : fl_M := (fun a => if a = c then upd (M.1 a) k v else M.1 a, M.2)
def fl_sJ (M : fl_M) (c k : Nat) (v : Int64) : fl_M := (M.1, (fun a => if a = c then vp_updL (M.2.1 a) k v else M.2.1 a), M.2.2)
def fl_sG (M : fl_M) (c : Nat) (v : UInt64) : fl_M := (M.1, M.2.1, (fun a => if a = c then v else M.2.2.1 a), M.2.2.2)
def fl_sR (M : fl_M) (c k v : Nat) : fl_M := (M.1, M.2.1, M.2.2.1, (fun a => if a = c then (fun j => if j = k then v else M.2.2.2 a j) else M.2.2.2 a))
abbrev fl_Cell : Type := fl_M → Nat → va_E
def fl_Loc (cell : fl_Cell) : Prop := ∀ (M M' : fl_M) (j : Nat), M.1 j = M'.1 j → M.2.1 j = M'.2.1 j → M.2.2.1 j = M'.2.2.1 j → M.2.2.2 j = M'.2.2.2 j → cell M j = cell M' j
def fl_pool (cell : fl_Cell) (N : Nat) (ad : Nat → Nat) (M : fl_M) : va_W := (List.range N).map (fun c => (ad c, cell M c))
def fl_inj (N : Nat) (ad : Nat → Nat) : Prop := ∀ i j, i < N → j < N → ad i = ad j → i = j
def fl_A (N : Nat) (ad : Nat → Nat) : Nat → Prop := fun q => ∃ c, c < N ∧ q = ad c
theorem fl_sI_same (M : fl_M) (c k : Nat) (v : Int32) : (fl_sI M c k v).1 c = upd (M.1 c) k v := if_pos rfl
theorem fl_sI_ne (M : fl_M) (c k : Nat) (v : Int32) {a : Nat} (h : a ≠ c) : (fl_sI M c k v).1 a = M.1 a := if_neg h
theorem fl_sJ_same (M : fl_M) (c k : Nat) (v : Int64) : (fl_sJ M c k v).2.1 c = vp_updL (M.2.1 c) k v := if_pos rfl
theorem fl_sJ_ne (M : fl_M) (c k : Nat) (v : Int64) {a : Nat} (h : a ≠ c) : (fl_sJ M c k v).2.1 a = M.2.1 a := if_neg h
theorem fl_sG_same (M : fl_M) (c : Nat) (v : UInt64) : (fl_sG M c v).2.2.1 c = v := if_pos rfl
theorem fl_sG_ne (M : fl_M) (c : Nat) (v : UInt64) {a : Nat} (h : a ≠ c) : (fl_sG M c v).2.2.1 a = M.2.2.1 a := if_neg h
theorem fl_sR_ne (M : fl_M) (c k v : Nat) {a : Nat} (h : a ≠ c) : (fl_sR M c k v).2.2.2 a = M.2.2.2 a := if_neg h
theorem fl_sI_o {cell : fl_Cell} (hl : fl_Loc cell) (M : fl_M) (c k : Nat) (v : Int32) : ∀ j, j ≠ c → cell (fl_sI M c k v) j = cell M j := fun j h => hl _ _ j (fl_sI_ne M c k v h) rfl rfl rfl
theorem fl_sJ_o {cell : fl_Cell} (hl : fl_Loc cell) (M : fl_M) (c k : Nat) (v : Int64) : ∀ j, j ≠ c → cell (fl_sJ M c k v) j = cell M j := fun j h => hl _ _ j rfl (fl_sJ_ne M c k v h) rfl rfl
theorem fl_sG_o {cell : fl_Cell} (hl : fl_Loc cell) (M : fl_M) (c : Nat) (v : UInt64) : ∀ j, j ≠ c → cell (fl_sG M c v) j = cell M j := fun j h => hl _ _ j rfl rfl (fl_sG_ne M c v h) rfl
theorem fl_sR_o {cell : fl_Cell} (hl : fl_Loc cell) (M : fl_M) (c k v : Nat) : ∀ j, j ≠ c → cell (fl_sR M c k v) j = cell M j := fun j h => hl _ _ j rfl rfl rfl (fl_sR_ne M c k v h)
theorem fl_at {cell : fl_Cell} {N : Nat} {ad : Nat → Nat} {M : fl_M} {c : Nat} (h : c < N) {e : va_E} (he : cell M c = e) : (fl_pool cell N ad M)[c]? = some (ad c, e) := by
  subst he
  simp [fl_pool, h]
theorem fl_get {cell : fl_Cell} {N : Nat} {ad : Nat → Nat} {M : fl_M} {k : Nat} {q : Nat × va_E} (h : (fl_pool cell N ad M)[k]? = some q) : k < N ∧ q = (ad k, cell M k) := by
  have hk : k < N := by
    have := (List.getElem?_eq_some_iff.mp h).1
    simpa [fl_pool] using this
  refine ⟨hk, ?_⟩
  have h2 := fl_at (cell := cell) (ad := ad) (M := M) hk rfl
  rw [h] at h2
  exact Option.some.inj h2
theorem fl_setp {cell : fl_Cell} {N : Nat} {ad : Nat → Nat} {M M' : fl_M} {c : Nat} {e : va_E} (hc : cell M' c = e) (ho : ∀ j, j ≠ c → cell M' j = cell M j) : (fl_pool cell N ad M).set c (ad c, e) = fl_pool cell N ad M' := by
  subst hc
  apply List.ext_getElem?
  intro i
  rw [List.getElem?_set]
  by_cases hi : c = i
  · subst hi
    by_cases hl : c < N
    · simp [fl_pool, hl]
    · simp [fl_pool, hl]
  · simp only [hi, if_false]
    by_cases hl : i < N
    · simp [fl_pool, hl, ho i (fun q => hi q.symm)]
    · simp [fl_pool, hl]
theorem fl_D {cell : fl_Cell} {N : Nat} {ad : Nat → Nat} {M : fl_M} (hJ : fl_inj N ad) : va_D (fl_A N ad) (fl_pool cell N ad M) := by
  refine ⟨fun i j p q hp hq he => ?_, fun k q hk => ?_⟩
  · obtain ⟨h1, rfl⟩ := fl_get hp
    obtain ⟨h2, rfl⟩ := fl_get hq
    exact hJ i j h1 h2 he
  · obtain ⟨h1, rfl⟩ := fl_get hk
    exact ⟨k, h1, rfl⟩
/-- the links between nest mates that the methods use, said of a state -/
def fl_N (U : State) : Prop := va_Nw (.methodLinkNest RX0 34 yX4_sumOf RX4) U ∧ va_Nw (.methodLinkNest RX0 43 yX4_firstAbove RX4) U ∧ va_Nw (.methodLinkNest RX1 76 yX4_firstAbove RX4) U ∧ va_Nw (.methodLinkNest RX2 79 yX4_sumOf RX4) U
theorem fl_N.warm {s U : State} (h : fl_N s) (hW : s.WarmedH U.vm) : fl_N U := ⟨va_Nw.warmM hW h.1, va_Nw.warmM hW h.2.1, va_Nw.warmM hW h.2.2.1, va_Nw.warmM hW h.2.2.2⟩
theorem fl_N.same {s U : State} (h : fl_N s) (e : s.vm = U.vm) : fl_N U := ⟨va_Nw.same rfl e h.1, va_Nw.same rfl e h.2.1, va_Nw.same rfl e h.2.2.1, va_Nw.same rfl e h.2.2.2⟩
abbrev fl_tys (cI cJ cII : ClassId) : List (ClassId × FieldType) := [(cI, .int), (cJ, .long), (cII, .array .int)]
def fl_Pc (cell : fl_Cell) (N : Nat) (ad : Nat → Nat) (D : va_G) (tys : List (ClassId × FieldType)) (M : fl_M) (av : List Value) : Array Value → State → Prop := va_Pc av (fun U => va_P D vwCl (fl_pool cell N ad M) U.heap ∧ va_K D vwCl tys U ∧ fl_N U)
abbrev fl_Q (cell : fl_Cell) (N : Nat) (ad : Nat → Nat) (D : va_G) (M : fl_M) (t : State) : Prop := va_P D vwCl (fl_pool cell N ad M) t.heap
theorem fl_blind {cell : fl_Cell} {N : Nat} {ad : Nat → Nat} {D : va_G} {tys : List (ClassId × FieldType)} {M : fl_M} {av : List Value} : FrameBlind (fl_Pc cell N ad D tys M av) := by
  intro a U g mk q
  obtain ⟨q0, qP, qK, qN⟩ := q
  exact ⟨q0, qP, va_K.moved (u := U) (U := U.calling g mk a) (Vm.Alike.refl U.vm) qK, qN.same rfl⟩
theorem fl_pre {cell : fl_Cell} {N : Nat} {ad : Nat → Nat} {D : va_G} {tys : List (ClassId × FieldType)} {M : fl_M} {av : List Value} {s : State} {H : Heap} (hP : va_P D vwCl (fl_pool cell N ad M) H) (hK : va_K D vwCl tys s) (hN : fl_N s) : ∀ U : State, U.heap = H → s.WarmedH U.vm → fl_Pc cell N ad D tys M av av.toArray U :=
  fun U hU hW => ⟨rfl, by rw [hU]; exact hP, va_K.moved hW.alike hK, hN.warm hW⟩
theorem fl_qi {cell : fl_Cell} {N : Nat} {ad : Nat → Nat} {D : va_G} {M : fl_M} {t : State} {H : Heap} (ht : t.heap = H) (hP : va_P D vwCl (fl_pool cell N ad M) H) : fl_Q cell N ad D M t := by
  show va_P D vwCl (fl_pool cell N ad M) t.heap
  rw [ht]
  exact hP
section FLR
variable {p : Program} {l : Launch} {e : Env} {R : Room} {s : State} {m : MethodId} {args : Array Value} {below : List Frame} {meth : Method} {c : Code} {H : Heap} {locs : List Loc} {cells slots : Nat} {Q : State → Prop}
variable {cc : ByteArray} {pc : Nat} {ls : Array Slot} {rest : List Value} {D : va_G} {A : Nat → Prop} {tys : List (ClassId × FieldType)} {H0 : Heap} {cell : fl_Cell} {N : Nat} {ad : Nat → Nat} {M M' : fl_M}
/-- another value on the stack's top, equal to it -/
theorem fl_top {x y : Value} (h : x = y) (k : W p l e R s m args below meth c H locs cells slots Q (F0 m pc ls (y :: rest))) : W p l e R s m args below meth c H locs cells slots Q (F0 m pc ls (x :: rest)) := h ▸ k
theorem fl_ti {x y : Int32} (h : x = y) (k : W p l e R s m args below meth c H locs cells slots Q (F0 m pc ls (.int y :: rest))) : W p l e R s m args below meth c H locs cells slots Q (F0 m pc ls (.int x :: rest)) := h ▸ k
theorem fl_tl {x y : Int64} (h : x = y) (k : W p l e R s m args below meth c H locs cells slots Q (F0 m pc ls (.long y :: rest))) : W p l e R s m args below meth c H locs cells slots Q (F0 m pc ls (.long x :: rest)) := h ▸ k
theorem fl_ild (hexec : p.tables.exec = Jvm.exec) (hb : c.code = cc) (hK : va_K D vwCl tys s) (hP : va_P D vwCl (fl_pool cell N ad M) H) {a n k : Nat} {cA : ClassId} {f : Nat → Int32} (ha : (fl_pool cell N ad M)[a]? = some (ad a, .inl (cA, n, .inl f))) (ht : tys[0]? = some (cA, .int)) {i : Int32} (hi : i = nI k) (hk : k < n) (hn : n < 2 ^ 31) (hdg : decode cc pc = .ok (.iaload, 1))
    (kk : W p l e R s m args below meth c H locs cells slots Q (F0 m (pc + 1) ls (.int (f k) :: rest))) : W p l e R s m args below meth c H locs cells slots Q (F0 m pc ls (.int i :: .ref (ad a) :: rest)) := by
  subst hi
  refine va_iald hexec hb hK hP a 0 ha ht (vp_in_nI hk hn) hdg ?_
  rw [nI_clamp (by omega)]
  exact kk
theorem fl_jld (hexec : p.tables.exec = Jvm.exec) (hb : c.code = cc) (hK : va_K D vwCl tys s) (hP : va_P D vwCl (fl_pool cell N ad M) H) {a n k : Nat} {cA : ClassId} {f : Nat → Int64} (ha : (fl_pool cell N ad M)[a]? = some (ad a, .inl (cA, n, .inr (.inl f)))) (ht : tys[1]? = some (cA, .long)) {i : Int32} (hi : i = nI k) (hk : k < n) (hn : n < 2 ^ 31) (hdg : decode cc pc = .ok (.laload, 1))
    (kk : W p l e R s m args below meth c H locs cells slots Q (F0 m (pc + 1) ls (.long (f k) :: rest))) : W p l e R s m args below meth c H locs cells slots Q (F0 m pc ls (.int i :: .ref (ad a) :: rest)) := by
  subst hi
  refine va_lald hexec hb hK hP a 1 ha ht (vp_in_nI hk hn) hdg ?_
  rw [nI_clamp (by omega)]
  exact kk
theorem fl_ist (hexec : p.tables.exec = Jvm.exec) (hb : c.code = cc) (hK : va_K D vwCl tys s) (hJ : fl_inj N ad) (hP : va_P D vwCl (fl_pool cell N ad M) H) (hS : va_S (fl_A N ad) H0 H locs) (hl : fl_Loc cell) {a n k : Nat} {cA : ClassId} {x : Int32} (ha : (fl_pool cell N ad M)[a]? = some (ad a, .inl (cA, n, .inl (M.1 a)))) (hc : cell (fl_sI M a k x) a = .inl (cA, n, .inl ((fl_sI M a k x).1 a))) (ht : tys[0]? = some (cA, .int)) {i : Int32} (hi : i = nI k) (hk : k < n) (hn : n < 2 ^ 31) (hdg : decode cc pc = .ok (.iastore, 1))
    (kk : ∀ (H1 : Heap) (locs1 : List Loc), va_P D vwCl (fl_pool cell N ad (fl_sI M a k x)) H1 → va_S (fl_A N ad) H0 H1 locs1 → W p l e R s m args below meth c H1 locs1 cells slots Q (F0 m (pc + 1) ls rest)) : W p l e R s m args below meth c H locs cells slots Q (F0 m pc ls (.int x :: .int i :: .ref (ad a) :: rest)) := by
  subst hi
  refine va_iast hexec hb hK hP (fl_D hJ) hS a 0 ha ht (vp_in_nI hk hn) hdg (fun H1 locs1 hP1 _ hS1 => kk H1 locs1 ?_ hS1)
  rw [nI_clamp (show k < 2 ^ 31 by omega)] at hP1
  rw [fl_setp (M' := fl_sI M a k x) (by rw [hc, fl_sI_same]) (fl_sI_o hl M a k x)] at hP1
  exact hP1
theorem fl_jst (hexec : p.tables.exec = Jvm.exec) (hb : c.code = cc) (hK : va_K D vwCl tys s) (hJ : fl_inj N ad) (hP : va_P D vwCl (fl_pool cell N ad M) H) (hS : va_S (fl_A N ad) H0 H locs) (hl : fl_Loc cell) {a n k : Nat} {cA : ClassId} {x : Int64} (ha : (fl_pool cell N ad M)[a]? = some (ad a, .inl (cA, n, .inr (.inl (M.2.1 a))))) (hc : cell (fl_sJ M a k x) a = .inl (cA, n, .inr (.inl ((fl_sJ M a k x).2.1 a)))) (ht : tys[1]? = some (cA, .long)) {i : Int32} (hi : i = nI k) (hk : k < n) (hn : n < 2 ^ 31) (hdg : decode cc pc = .ok (.lastore, 1))
    (kk : ∀ (H1 : Heap) (locs1 : List Loc), va_P D vwCl (fl_pool cell N ad (fl_sJ M a k x)) H1 → va_S (fl_A N ad) H0 H1 locs1 → W p l e R s m args below meth c H1 locs1 cells slots Q (F0 m (pc + 1) ls rest)) : W p l e R s m args below meth c H locs cells slots Q (F0 m pc ls (.long x :: .int i :: .ref (ad a) :: rest)) := by
  subst hi
  refine va_last hexec hb hK hP (fl_D hJ) hS a 1 ha ht (vp_in_nI hk hn) hdg (fun H1 locs1 hP1 _ hS1 => kk H1 locs1 ?_ hS1)
  rw [nI_clamp (show k < 2 ^ 31 by omega)] at hP1
  rw [fl_setp (M' := fl_sJ M a k x) (by rw [hc, fl_sJ_same]) (fl_sJ_o hl M a k x)] at hP1
  exact hP1
/-- a row of rows: its k-th row -/
theorem fl_ald (hexec : p.tables.exec = Jvm.exec) (hb : c.code = cc) (hK : va_K D vwCl tys s) (hP : va_P D vwCl (fl_pool cell N ad M) H) {a n k : Nat} {cA : ClassId} {f : Nat → Nat} (ha : (fl_pool cell N ad M)[a]? = some (ad a, .inl (cA, n, .inr (.inr (.inr (.inr (fun j => some (f j)))))))) (ht : tys[2]? = some (cA, .array .int)) {i : Int32} (hi : i = nI k) (hk : k < n) (hn : n < 2 ^ 31) (hdg : decode cc pc = .ok (.aaload, 1))
    (kk : W p l e R s m args below meth c H locs cells slots Q (F0 m (pc + 1) ls (.ref (f k) :: rest))) : W p l e R s m args below meth c H locs cells slots Q (F0 m pc ls (.int i :: .ref (ad a) :: rest)) := by
  subst hi
  have hin := vp_in_nI hk hn
  have hcl : (nI k).toNatClampNeg = k := nI_clamp (by omega)
  exact W.aald (v := .ref (f k)) (ty := .array .int) hexec hb (hP a _ ha) ((hK.2 2 _ ht).1 n (fun j => va_rf (some (f j)))) rfl (fun q => by cases q) (by show ¬ (nI k < 0 ∨ (arrV _ _ _).slots.size ≤ _); rw [arrV_size]; exact hin) (by show (arrV _ _ _).slots[_]? = _; rw [hcl, arrV_read _ _ hk]; rfl) rfl rfl hdg kk
theorem fl_put (hexec : p.tables.exec = Jvm.exec) (hb : c.code = cc) {own ref C : String} {T : u_T} {Nf ci index : Nat} {Ts : List Cond} (hts : ∀ w ∈ Ts, w.before args s = true) (hin : ∀ w ∈ u_ws C T Nf, w ∈ Ts) (ty0 : Nat → FieldType) (hty : ∀ k, k < Nf → parseFieldDescriptor (T k).2.2.1 = some (ty0 k)) (hnm : ∀ a, a < Nf → ∀ b, b < Nf → a ≠ b → (T a).2.1 ≠ (T b).2.1) (hown : s.vm.findClass own = some m.cls) (hK : va_K D vwCl tys s) (hJ : fl_inj N ad) (hP : va_P D vwCl (fl_pool cell N ad M) H) (hS0 : va_S (fl_A N ad) H0 H locs) (a : Nat) (haN : a < N) {fs : List Value} (M' : fl_M) (he : cell M a = .inr (ci, fs)) (hc : vwCl[ci]? = some (C, T, Nf)) (k : Nat) (hk : k < Nf) (hlink : (Cond.fieldLink own index ref (T k).2.1 (T k).2.2.1).before args s = true) (hsame : ∀ x, s.fieldFound? (T k).1 (T k).2.1 (T k).2.2.1 = some x → s.fieldFound? ref (T k).2.1 (T k).2.2.1 = some x) (hfin : (T k).2.2.2 = false) {ty : FieldType} {v : Value} (hd : parseFieldDescriptor (T k).2.2.1 = some ty) (hn : narrow ty v = v) (hfit : fits ty v = true) (hl : k < fs.length)
    (he' : cell M' a = .inr (ci, fs.set k v)) (ho : ∀ j, j ≠ a → cell M' j = cell M j) (hdg : decode cc pc = .ok (.putfield index, 3)) (kk : ∀ (H1 : Heap) (locs1 : List Loc), va_P D vwCl (fl_pool cell N ad M') H1 → va_S (fl_A N ad) H0 H1 locs1 → W p l e R s m args below meth c H1 locs1 cells slots Q (F0 m (pc + 3) ls rest)) : W p l e R s m args below meth c H locs cells slots Q (F0 m pc ls (v :: .ref (ad a) :: rest)) := by
  refine va_put hexec hb hts hin ty0 hty hnm hown hK hP (fl_D hJ) hS0 a (fl_at haN he) hc k hk hlink hsame hfin hd hn hfit hl hdg (fun H1 locs1 hP1 _ hS1 => kk H1 locs1 ?_ hS1)
  rw [fl_setp he' ho] at hP1
  exact hP1
/-- lcmp and the branch behind it -/
theorem fl_lle (hexec : p.tables.exec = Jvm.exec) (hb : c.code = cc) {x y : Int64} {off : Int} {tgt : Nat} (hd1 : decode cc pc = .ok (.lcmp, 1)) (hd2 : decode cc (pc + 1) = .ok (.ifCond .le off, 3)) (ht : ((pc + 1 : Nat) : Int) + off = (tgt : Int)) (kt : x ≤ y → W p l e R s m args below meth c H locs cells slots Q (F0 m tgt ls rest)) (kf : ¬ x ≤ y → W p l e R s m args below meth c H locs cells slots Q (F0 m (pc + 1 + 3) ls rest)) : W p l e R s m args below meth c H locs cells slots Q (F0 m pc ls (.long y :: .long x :: rest)) :=
  W.lcmp hexec hb hd1 (lv_if_le hexec hb hd2 ht (fun h => kt ((lg_cmp_le x y).mp h)) (fun h => kf (fun q => h ((lg_cmp_le x y).mpr q))))
theorem fl_lgt (hexec : p.tables.exec = Jvm.exec) (hb : c.code = cc) {x y : Int64} {off : Int} {tgt : Nat} (hd1 : decode cc pc = .ok (.lcmp, 1)) (hd2 : decode cc (pc + 1) = .ok (.ifCond .gt off, 3)) (ht : ((pc + 1 : Nat) : Int) + off = (tgt : Int)) (kt : y < x → W p l e R s m args below meth c H locs cells slots Q (F0 m tgt ls rest)) (kf : ¬ y < x → W p l e R s m args below meth c H locs cells slots Q (F0 m (pc + 1 + 3) ls rest)) : W p l e R s m args below meth c H locs cells slots Q (F0 m pc ls (.long y :: .long x :: rest)) :=
  W.lcmp hexec hb hd1 (lv_if_gt hexec hb hd2 ht (fun h => kt ((lg_cmp_gt x y).mp h)) (fun h => kf (fun q => h ((lg_cmp_gt x y).mpr q))))
theorem fl_lge (hexec : p.tables.exec = Jvm.exec) (hb : c.code = cc) {x y : Int64} {off : Int} {tgt : Nat} (hd1 : decode cc pc = .ok (.lcmp, 1)) (hd2 : decode cc (pc + 1) = .ok (.ifCond .ge off, 3)) (ht : ((pc + 1 : Nat) : Int) + off = (tgt : Int)) (kt : y ≤ x → W p l e R s m args below meth c H locs cells slots Q (F0 m tgt ls rest)) (kf : ¬ y ≤ x → W p l e R s m args below meth c H locs cells slots Q (F0 m (pc + 1 + 3) ls rest)) : W p l e R s m args below meth c H locs cells slots Q (F0 m pc ls (.long y :: .long x :: rest)) :=
  W.lcmp hexec hb hd1 (lv_if_ge hexec hb hd2 ht (fun h => kt ((lg_cmp_ge x y).mp h)) (fun h => kf (fun q => h ((lg_cmp_ge x y).mpr q))))
theorem fl_llt (hexec : p.tables.exec = Jvm.exec) (hb : c.code = cc) {x y : Int64} {off : Int} {tgt : Nat} (hd1 : decode cc pc = .ok (.lcmp, 1)) (hd2 : decode cc (pc + 1) = .ok (.ifCond .lt off, 3)) (ht : ((pc + 1 : Nat) : Int) + off = (tgt : Int)) (kt : x < y → W p l e R s m args below meth c H locs cells slots Q (F0 m tgt ls rest)) (kf : ¬ x < y → W p l e R s m args below meth c H locs cells slots Q (F0 m (pc + 1 + 3) ls rest)) : W p l e R s m args below meth c H locs cells slots Q (F0 m pc ls (.long y :: .long x :: rest)) :=
  W.lcmp hexec hb hd1 (lv_if_lt hexec hb hd2 ht (fun h => kt ((lg_cmp_lt x y).mp h)) (fun h => kf (fun q => h ((lg_cmp_lt x y).mpr q))))
theorem fl_leq (hexec : p.tables.exec = Jvm.exec) (hb : c.code = cc) {x y : Int64} {off : Int} {tgt : Nat} (hd1 : decode cc pc = .ok (.lcmp, 1)) (hd2 : decode cc (pc + 1) = .ok (.ifCond .eq off, 3)) (ht : ((pc + 1 : Nat) : Int) + off = (tgt : Int)) (kt : x = y → W p l e R s m args below meth c H locs cells slots Q (F0 m tgt ls rest)) (kf : ¬ x = y → W p l e R s m args below meth c H locs cells slots Q (F0 m (pc + 1 + 3) ls rest)) : W p l e R s m args below meth c H locs cells slots Q (F0 m pc ls (.long y :: .long x :: rest)) :=
  W.lcmp hexec hb hd1 (lv_if_eq hexec hb hd2 ht (fun h => kt ((lg_cmp_eq x y).mp h)) (fun h => kf (fun q => h ((lg_cmp_eq x y).mpr q))))
theorem fl_lne (hexec : p.tables.exec = Jvm.exec) (hb : c.code = cc) {x y : Int64} {off : Int} {tgt : Nat} (hd1 : decode cc pc = .ok (.lcmp, 1)) (hd2 : decode cc (pc + 1) = .ok (.ifCond .ne off, 3)) (ht : ((pc + 1 : Nat) : Int) + off = (tgt : Int)) (kt : ¬ x = y → W p l e R s m args below meth c H locs cells slots Q (F0 m tgt ls rest)) (kf : x = y → W p l e R s m args below meth c H locs cells slots Q (F0 m (pc + 1 + 3) ls rest)) : W p l e R s m args below meth c H locs cells slots Q (F0 m pc ls (.long y :: .long x :: rest)) :=
  W.lcmp hexec hb hd1 (lv_if_ne hexec hb hd2 ht (fun h => kt (fun q => h ((lg_cmp_eq x y).mpr q))) (fun h => kf ((lg_cmp_eq x y).mp h)))
end FLR
/-! THE SYSTEM'S CELLS: 0 the object, 1 tables, 2 starts, 3 moves, 4 sights, 5 names, 6 draws, 7 forced, 8 run, 9 picks, 10 times, 11 rests, 12 origins, 13 and 16 states, 14 and 17 weights, 15 and 18 histories, 19.. moves' rows, 25.. sights' rows, 30.. and 46.. histories' rows. -/
def fc_low (cI cII : ClassId) (ad : Nat → Nat) (i : Nat → Int32) (j : Nat → Int64) (g : UInt64) (r : Nat → Nat) (c : Nat) : va_E := match c with
  | 0 => .inr (6, [.ref (ad 1), .ref (ad 6), .ref (ad 8)])
  | 1 => .inr (5, [.ref (ad 2), .ref (ad 3), .ref (ad 4), .ref (ad 5)])
  | 2 => .inl (cI, 6, .inl i)
  | 3 => .inl (cII, 6, .inr (.inr (.inr (.inr (fun k => some (ad (19 + k)))))))
  | 4 => .inl (cII, 5, .inr (.inr (.inr (.inr (fun k => some (ad (25 + k)))))))
  | 5 => .inl (cI, 6, .inl i)
  | 6 => .inr (2, [.ref (ad 7), .int (i 1), .int (i 2), .long (j 3)])
  | 7 => .inl (cI, 64, .inl i)
  | 8 => .inr (4, [.ref (ad 9), .ref (ad 12), .int (i 2), .int (i 3), .int (i 4), .int (i 5), .double g, .ref (ad (r 7)), .ref (ad (r 8)), .ref (ad (r 9)), .ref (ad (r 10)), .ref (ad (r 11)), .ref (ad (r 12))])
  | 9 => .inr (3, [.ref (ad 10), .ref (ad 11)])
  | 15 => .inl (cII, 16, .inr (.inr (.inr (.inr (fun k => some (ad (30 + k)))))))
  | 18 => .inl (cII, 16, .inr (.inr (.inr (.inr (fun k => some (ad (46 + k)))))))
  | _ => .inl (cI, 16, .inl i)
def fc_cell (cI cII : ClassId) (ad : Nat → Nat) : fl_Cell := fun M c => if c < 19 then fc_low cI cII ad (M.1 c) (M.2.1 c) (M.2.2.1 c) (M.2.2.2 c) c else .inl (cI, (if c < 30 then 6 else 31), .inl (M.1 c))
/-- the length of an int row, by its number; 0: it is none -/
def fc_len (c : Nat) : Nat := if c < 19 then (match c with | 2 => 6 | 5 => 6 | 7 => 64 | 10 => 16 | 11 => 16 | 12 => 16 | 13 => 16 | 14 => 16 | 16 => 16 | 17 => 16 | _ => 0) else if c < 30 then 6 else if c < 62 then 31 else 0
theorem fc_loc (cI cII : ClassId) (ad : Nat → Nat) : fl_Loc (fc_cell cI cII ad) := by
  intro M M' j h1 h2 h3 h4
  unfold fc_cell
  rw [h1, h2, h3, h4]
theorem fc_arr (cI cII : ClassId) (ad : Nat → Nat) (M : fl_M) {c n : Nat} (h : fc_len c = n) (hn : 0 < n) : c < 62 ∧ fc_cell cI cII ad M c = .inl (cI, n, .inl (M.1 c)) := by
  subst h
  by_cases h1 : c < 19
  · refine ⟨by omega, ?_⟩
    unfold fc_cell
    rw [if_pos h1]
    rcases (show c = 0 ∨ c = 1 ∨ c = 2 ∨ c = 3 ∨ c = 4 ∨ c = 5 ∨ c = 6 ∨ c = 7 ∨ c = 8 ∨ c = 9 ∨ c = 10 ∨ c = 11 ∨ c = 12 ∨ c = 13 ∨ c = 14 ∨ c = 15 ∨ c = 16 ∨ c = 17 ∨ c = 18 by omega) with rfl | rfl | rfl | rfl | rfl | rfl | rfl | rfl | rfl | rfl | rfl | rfl | rfl | rfl | rfl | rfl | rfl | rfl | rfl <;> first | rfl | exact absurd hn (by decide)
  · by_cases h2 : c < 30
    · refine ⟨by omega, ?_⟩
      unfold fc_cell
      rw [if_neg h1]
      simp [fc_len, h1, h2]
    · by_cases h3 : c < 62
      · refine ⟨by omega, ?_⟩
        unfold fc_cell
        rw [if_neg h1]
        simp [fc_len, h1, h2, h3]
      · exact absurd hn (by simp [fc_len, h1, h2, h3])
theorem fc_a (cI cII : ClassId) (ad : Nat → Nat) (M : fl_M) {c n : Nat} (h : fc_len c = n) (hn : 0 < n) : (fl_pool (fc_cell cI cII ad) 62 ad M)[c]? = some (ad c, .inl (cI, n, .inl (M.1 c))) := fl_at (fc_arr cI cII ad M h hn).1 (fc_arr cI cII ad M h hn).2
abbrev fcP (cI cII : ClassId) (ad : Nat → Nat) (M : fl_M) : va_W := fl_pool (fc_cell cI cII ad) 62 ad M
abbrev fcPc (D : va_G) (cI cJ cII : ClassId) (ad : Nat → Nat) (M : fl_M) (av : List Value) : Array Value → State → Prop := fl_Pc (fc_cell cI cII ad) 62 ad D (fl_tys cI cJ cII) M av
abbrev fcQ (D : va_G) (cI cII : ClassId) (ad : Nat → Nat) : fl_M → State → Prop := fl_Q (fc_cell cI cII ad) 62 ad D
/-! THE REFERENCE'S CELLS: 0 the object, then its rows in the order of its fields: 1 starts, 2 moves, 3 sights, 4 names, 5 forced, 6 states, 7 weights, 8 histories, 9 froms, 10 by, 11 drawn, 12 times, 13 oldStates, 14 oldHistories. -/
def fm_low (cI cJ : ClassId) (ad : Nat → Nat) (i : Nat → Int32) (j : Nat → Int64) (g : UInt64) (c : Nat) : va_E := match c with
  | 0 => .inr (7, [.int (i 0), .ref (ad 1), .ref (ad 2), .ref (ad 3), .ref (ad 4), .ref (ad 5), .int (i 6), .int (i 7), .long (j 8), .ref (ad 6), .ref (ad 7), .ref (ad 8), .int (i 12), .int (i 13), .int (i 14), .double g, .ref (ad 9), .int (i 17), .ref (ad 10), .ref (ad 11), .ref (ad 12), .ref (ad 13), .ref (ad 14)])
  | 1 => .inl (cI, 6, .inl i)
  | 2 => .inl (cI, 36, .inl i)
  | 3 => .inl (cI, 30, .inl i)
  | 4 => .inl (cI, 6, .inl i)
  | 5 => .inl (cI, 64, .inl i)
  | 7 => .inl (cJ, 16, .inr (.inl j))
  | 8 => .inl (cI, 496, .inl i)
  | 10 => .inl (cJ, 16, .inr (.inl j))
  | 14 => .inl (cI, 496, .inl i)
  | _ => .inl (cI, 16, .inl i)
def fm_cell (cI cJ : ClassId) (ad : Nat → Nat) : fl_Cell := fun M c => fm_low cI cJ ad (M.1 c) (M.2.1 c) (M.2.2.1 c) c
theorem fm_loc (cI cJ : ClassId) (ad : Nat → Nat) : fl_Loc (fm_cell cI cJ ad) := by
  intro M M' j h1 h2 h3 h4
  unfold fm_cell
  rw [h1, h2, h3]
abbrev fmP (cI cJ : ClassId) (ad : Nat → Nat) (M : fl_M) : va_W := fl_pool (fm_cell cI cJ ad) 15 ad M
abbrev fmPc (D : va_G) (cI cJ cII : ClassId) (ad : Nat → Nat) (M : fl_M) (av : List Value) : Array Value → State → Prop := fl_Pc (fm_cell cI cJ ad) 15 ad D (fl_tys cI cJ cII) M av
abbrev fmQ (D : va_G) (cI cJ : ClassId) (ad : Nat → Nat) : fl_M → State → Prop := fl_Q (fm_cell cI cJ ad) 15 ad D
end
section
/-! NUMBERS, and the abstract words of draws that both sides are held against. -/
theorem wb_tb (n : Nat) : (lN n).toBitVec = BitVec.ofNat 64 n := rfl
theorem wb_inj {a b : Int64} (h : a.toBitVec = b.toBitVec) : a = b := Int64.toBitVec_inj.mp h
theorem wb_tn {n : Nat} (h : n < 2 ^ 64) : (lN n).toBitVec.toNat = n := by rw [wb_tb, BitVec.toNat_ofNat, Nat.mod_eq_of_lt h]
theorem wb_self (x : Int64) : x = lN x.toBitVec.toNat := wb_inj (by rw [wb_tb]; simp)
theorem wb_cu : ∀ k, k < 64 → ((nI k).toInt64.toUInt64 &&& Int64.toUInt64 63) = UInt64.ofNat k := by decide +kernel
theorem wb_shr {n k : Nat} (hn : n < 2 ^ 64) (hk : k < 64) : ((lN n).toUInt64 >>> ((nI k).toInt64.toUInt64 &&& Int64.toUInt64 63)).toInt64 = lN (n / 2 ^ k) := by
  rw [wb_cu k hk]
  apply wb_inj
  apply BitVec.eq_of_toNat_eq
  show ((lN n).toUInt64 >>> UInt64.ofNat k).toNat = (BitVec.ofNat 64 _).toNat
  have h1 : (UInt64.ofNat k).toNat = k := by
    show (BitVec.ofNat 64 k).toNat = k
    rw [BitVec.toNat_ofNat, Nat.mod_eq_of_lt (by omega)]
  have h2 : (lN n).toUInt64.toNat = n := wb_tn hn
  rw [UInt64.toNat_shiftRight, h1, h2, Nat.mod_eq_of_lt hk, Nat.shiftRight_eq_div_pow, BitVec.toNat_ofNat, Nat.mod_eq_of_lt (Nat.lt_of_le_of_lt (Nat.div_le_self _ _) hn)]
theorem fl_inc (k : Nat) : nI k + Int32.ofInt 1 = nI (k + 1) := nI_1 k
theorem fl_gt {a b : Int32} (h : ¬ a ≤ b) : b < a := Int32.not_le.mp h
theorem fl_ngt {a b : Int32} (h : a ≤ b) : ¬ b < a := Int32.not_lt.mpr h
theorem fc_len_le (c : Nat) : fc_len c ≤ 64 := by
  unfold fc_len
  split
  · split <;> decide
  · split
    · decide
    · split <;> decide
/-- a whole number of an Int32 that isn't below 0 -/
theorem fl_nat {x : Int32} (h : ¬ x < 0) : x = nI x.toNatClampNeg ∧ x.toNatClampNeg < 2 ^ 31 := by
  obtain ⟨j, h1, h2⟩ := nI_of h
  subst h2
  rw [nI_clamp h1]
  exact ⟨rfl, h1⟩
theorem fl_lt0 {x : Int32} {k : Nat} (hk : k < 2 ^ 31) (h0 : ¬ x < 0) (h : ¬ nI k ≤ x) : x.toNatClampNeg < k ∧ x = nI x.toNatClampNeg := by
  obtain ⟨h1, h2⟩ := fl_nat h0
  refine ⟨?_, h1⟩
  rw [h1] at h
  exact Nat.lt_of_not_le (fun q => h ((nI_leI hk h2).mpr q))
def a_sum (w : Nat → Nat) : Nat → Nat
  | 0 => 0
  | k + 1 => a_sum w k + w k
theorem a_sum_mono (w : Nat → Nat) {i j : Nat} (h : i ≤ j) : a_sum w i ≤ a_sum w j := by
  induction j with
  | zero =>
    have : i = 0 := by omega
    subst this
    exact Nat.le_refl _
  | succ j ih =>
    rcases Nat.lt_or_ge j i with q | q
    · have : i = j + 1 := by omega
      subst this
      exact Nat.le_refl _
    · exact Nat.le_trans (ih q) (Nat.le_add_right _ _)
theorem a_sum_le (w : Nat → Nat) {B : Nat} : ∀ k : Nat, (∀ j, j < k → w j ≤ B) → a_sum w k ≤ k * B
  | 0, _ => by simp [a_sum]
  | k + 1, h => by
    have h1 := a_sum_le w k (fun j hj => h j (by omega))
    have h2 := h k (by omega)
    have : (k + 1) * B = k * B + B := by rw [Nat.add_mul, Nat.one_mul]
    show a_sum w k + w k ≤ _
    omega
theorem a_sum_congr {w v : Nat → Nat} : ∀ k : Nat, (∀ j, j < k → w j = v j) → a_sum w k = a_sum v k
  | 0, _ => rfl
  | k + 1, h => by
    show a_sum w k + w k = a_sum v k + v k
    rw [a_sum_congr k (fun j hj => h j (by omega)), h k (by omega)]
theorem a_sum_mul (w : Nat → Nat) (t : Nat) : ∀ k : Nat, a_sum (fun j => t * w j) k = t * a_sum w k
  | 0 => rfl
  | k + 1 => by
    show a_sum (fun j => t * w j) k + t * w k = t * (a_sum w k + w k)
    rw [a_sum_mul w t k, Nat.mul_add]
/-- the first place at which t times the sum is above b, among the first n -/
def a_first (w : Nat → Nat) (t b : Nat) : Nat → Nat
  | 0 => 0
  | n + 1 => if b < t * a_sum w n then a_first w t b n else n
theorem a_first_eq {w : Nat → Nat} {t b i : Nat} (h1 : ¬ b < t * a_sum w i) (h2 : b < t * a_sum w (i + 1)) : ∀ n, i + 1 ≤ n → a_first w t b n = i := by
  intro n
  induction n with
  | zero => intro h; omega
  | succ n ih =>
    intro h
    show (if b < t * a_sum w n then a_first w t b n else n) = i
    rcases Nat.lt_or_ge i n with q | q
    · have : b < t * a_sum w n := Nat.lt_of_lt_of_le h2 (Nat.mul_le_mul_left t (a_sum_mono w (by omega)))
      rw [if_pos this]
      exact ih (by omega)
    · have : n = i := by omega
      subst this
      rw [if_neg h1]
theorem a_first_lt {w : Nat → Nat} {t b : Nat} : ∀ n, b < t * a_sum w n → a_first w t b n < n := by
  intro n
  induction n with
  | zero =>
    intro h
    simp [a_sum] at h
  | succ n ih =>
    intro h
    show (if b < t * a_sum w n then a_first w t b n else n) < n + 1
    by_cases q : b < t * a_sum w n
    · rw [if_pos q]
      exact Nat.lt_succ_of_lt (ih q)
    · rw [if_neg q]
      exact Nat.lt_succ_self n
theorem a_first_congr {w v : Nat → Nat} {t b : Nat} : ∀ n, (∀ j, j < n → w j = v j) → a_first w t b n = a_first v t b n
  | 0, _ => rfl
  | n + 1, h => by
    show (if b < t * a_sum w n then a_first w t b n else n) = (if b < t * a_sum v n then a_first v t b n else n)
    rw [a_sum_congr n (fun j hj => h j (by omega)), a_first_congr n (fun j hj => h j (by omega))]
/-- the generator -/
def a_x (x : Int64) : Int64 := x * 6364136223846793005 + 1442695040888963407
def a_v (x : Int64) : Nat := x.toBitVec.toNat / 2 ^ 33
theorem a_v_lt (x : Int64) : a_v x < 2 ^ 31 := by
  have := x.toBitVec.isLt
  unfold a_v
  omega
theorem a_v_eq (x : Int64) : (x.toUInt64 >>> ((33 : Int32).toInt64.toUInt64 &&& Int64.toUInt64 63)).toInt64 = lN (a_v x) := by
  have h := wb_shr (n := x.toBitVec.toNat) (k := 33) x.toBitVec.isLt (by decide)
  rw [← wb_self x] at h
  exact h
abbrev a_D : Type := List Nat × Int64
/-- what comes next: the first of the forced ones, else out of the generator -/
def a_next (d : a_D) : Nat × a_D := match d.1 with
  | [] => (a_v (a_x d.2), ([], a_x d.2))
  | v :: q => (v, (q, d.2))
def a_by (w : Nat → Nat) (n : Nat) (d : a_D) : Option Nat × a_D := if a_sum w n = 0 then (none, d) else (some (a_first w 1 ((a_next d).1 % a_sum w n) n), (a_next d).2)
theorem a_by_congr {w v : Nat → Nat} {n : Nat} (h : ∀ j, j < n → w j = v j) (d : a_D) : a_by w n d = a_by v n d := by
  unfold a_by
  rw [a_sum_congr n h, a_first_congr n h]
theorem a_by_lt {w : Nat → Nat} {n : Nat} {d : a_D} {k : Nat} (h : (a_by w n d).1 = some k) : k < n := by
  unfold a_by at h
  split at h
  · cases h
  · rename_i h0
    have h1 : a_first w 1 ((a_next d).1 % a_sum w n) n = k := Option.some.inj h
    rw [← h1]
    exact a_first_lt n (by rw [Nat.one_mul]; exact Nat.mod_lt _ (Nat.pos_of_ne_zero h0))
def a_oI (o : Option Nat) (z : Int32) : Int32 := match o with
  | some k => nI k
  | none => z
def fl_sum (f : Nat → Int32) : Nat → Int64
  | 0 => 0
  | k + 1 => fl_sum f k + (f k).toInt64
theorem fl_sum_nat {f : Nat → Int32} {w : Nat → Nat} : ∀ k : Nat, (∀ j, j < k → f j = nI (w j) ∧ w j < 2 ^ 31) → fl_sum f k = lN (a_sum w k)
  | 0, _ => rfl
  | k + 1, h => by
    show fl_sum f k + (f k).toInt64 = lN (a_sum w k + w k)
    rw [fl_sum_nat k (fun j hj => h j (by omega)), (h k (by omega)).1, nI_l (h k (by omega)).2, lN_add]
/-- two memories hold the same at the places of P -/
def fl_eq (P : Nat → Prop) (M M2 : fl_M) : Prop := ∀ c, P c → M2.1 c = M.1 c ∧ M2.2.1 c = M.2.1 c ∧ M2.2.2.1 c = M.2.2.1 c ∧ M2.2.2.2 c = M.2.2.2 c
theorem fl_eq.rf {P : Nat → Prop} {M : fl_M} : fl_eq P M M := fun _ _ => ⟨rfl, rfl, rfl, rfl⟩
theorem fl_eq.tr {P : Nat → Prop} {M M2 M3 : fl_M} (h1 : fl_eq P M M2) (h2 : fl_eq P M2 M3) : fl_eq P M M3 := fun c hc => ⟨(h2 c hc).1.trans (h1 c hc).1, (h2 c hc).2.1.trans (h1 c hc).2.1, (h2 c hc).2.2.1.trans (h1 c hc).2.2.1, (h2 c hc).2.2.2.trans (h1 c hc).2.2.2⟩
theorem fl_eq.mono {P P2 : Nat → Prop} {M M2 : fl_M} (h : fl_eq P M M2) (hp : ∀ c, P2 c → P c) : fl_eq P2 M M2 := fun c hc => h c (hp c hc)
theorem fl_eq.sI {P : Nat → Prop} {M M2 : fl_M} (h : fl_eq P M M2) {c : Nat} (hc : ¬ P c) (k : Nat) (v : Int32) : fl_eq P M (fl_sI M2 c k v) := fun a ha => by
  have : a ≠ c := fun q => hc (q ▸ ha)
  exact ⟨(fl_sI_ne M2 c k v this).trans (h a ha).1, (h a ha).2.1, (h a ha).2.2.1, (h a ha).2.2.2⟩
theorem fl_eq.sJ {P : Nat → Prop} {M M2 : fl_M} (h : fl_eq P M M2) {c : Nat} (hc : ¬ P c) (k : Nat) (v : Int64) : fl_eq P M (fl_sJ M2 c k v) := fun a ha => by
  have : a ≠ c := fun q => hc (q ▸ ha)
  exact ⟨(h a ha).1, (fl_sJ_ne M2 c k v this).trans (h a ha).2.1, (h a ha).2.2.1, (h a ha).2.2.2⟩
theorem fl_eq.sG {P : Nat → Prop} {M M2 : fl_M} (h : fl_eq P M M2) {c : Nat} (hc : ¬ P c) (v : UInt64) : fl_eq P M (fl_sG M2 c v) := fun a ha => by
  have : a ≠ c := fun q => hc (q ▸ ha)
  exact ⟨(h a ha).1, (h a ha).2.1, (fl_sG_ne M2 c v this).trans (h a ha).2.2.1, (h a ha).2.2.2⟩
theorem fl_eq.sR {P : Nat → Prop} {M M2 : fl_M} (h : fl_eq P M M2) {c : Nat} (hc : ¬ P c) (k v : Nat) : fl_eq P M (fl_sR M2 c k v) := fun a ha => by
  have : a ≠ c := fun q => hc (q ▸ ha)
  exact ⟨(h a ha).1, (h a ha).2.1, (h a ha).2.2.1, (fl_sR_ne M2 c k v this).trans (h a ha).2.2.2⟩
/-- the system's draws: the forced ones in a ring from f on, and x -/
def fc_D (d : a_D) (M : fl_M) : Prop := ∃ f : Nat, f < 64 ∧ M.1 6 1 = nI f ∧ M.1 6 2 = nI d.1.length ∧ d.1.length ≤ 64 ∧ M.2.1 6 3 = d.2 ∧ ∀ j, j < d.1.length → M.1 7 ((f + j) % 64) = nI (d.1.getD j 0) ∧ d.1.getD j 0 < 2 ^ 31
theorem fc_D.eq {P : Nat → Prop} {d : a_D} {M M2 : fl_M} (h : fc_D d M) (he : fl_eq P M M2) (h6 : P 6) (h7 : P 7) : fc_D d M2 := by
  obtain ⟨f, h1, h2, h3, h4, h5, h6'⟩ := h
  have e6 := he 6 h6
  have e7 := he 7 h7
  refine ⟨f, h1, by rw [e6.1]; exact h2, by rw [e6.1]; exact h3, h4, by rw [e6.2.1]; exact h5, fun j hj => by rw [e7.1]; exact h6' j hj⟩
/-- the number of an index below n, if it is one -/
def a_ix (x : Int32) (n : Nat) : Option Nat := if x < 0 then none else if x.toNatClampNeg < n then some x.toNatClampNeg else none
def a_b (o : Option Nat) : Int32 := match o with
  | some _ => 1
  | none => 0
theorem a_ix_some {x : Int32} {n j : Nat} (h : a_ix x n = some j) : j < n ∧ x = nI j ∧ j < 2 ^ 31 := by
  unfold a_ix at h
  split at h
  · cases h
  · rename_i h0
    split at h
    · rename_i h1
      cases h
      exact ⟨h1, (fl_nat h0).1, (fl_nat h0).2⟩
    · cases h
theorem a_ix_nI {n j : Nat} (h : j < n) (hj : j < 2 ^ 31) : a_ix (nI j) n = some j := by
  unfold a_ix
  rw [if_neg (nI_pos hj), nI_clamp hj, if_pos h]
theorem a_ix_neg {x : Int32} {n : Nat} (h : x < 0) : a_ix x n = none := if_pos h
theorem a_ix_in {x : Int32} {n : Nat} (h0 : ¬ x < 0) (h : ¬ nI n ≤ x) (hn : n < 2 ^ 31) : a_ix x n = some x.toNatClampNeg := by
  unfold a_ix
  rw [if_neg h0, if_pos (fl_lt0 hn h0 h).1]
theorem a_ix_out {x : Int32} {n : Nat} (h : nI n ≤ x) (hn : n < 2 ^ 31) : a_ix x n = none := by
  unfold a_ix
  split
  · rfl
  · rename_i h0
    obtain ⟨h1, h2⟩ := fl_nat h0
    rw [h1] at h
    rw [if_neg (Nat.not_lt.mpr ((nI_leI hn h2).mp h))]
theorem a_ix_nI_out {n j : Nat} (h : n ≤ j) (hj : j < 2 ^ 31) : a_ix (nI j) n = none := a_ix_out ((nI_leI (by omega) hj).mpr h) (by omega)
theorem a_ix_neg1 (n : Nat) (z : Int32) (hz : z < 0) : a_ix z n = none := if_pos hz
end
section
theorem fl_fa {x : Int32} {t a w : Nat} (h : x = nI w) (hw : w < 2 ^ 31) : lN (t * a) + lN t * x.toInt64 = lN (t * (a + w)) := by
  rw [h, nI_l hw, lN_mul, lN_add, Nat.mul_add]
theorem fl_rem64 {a : Nat} (h : a < 2 ^ 31) : nI a - nI a / 64 * 64 = nI (a % 64) := pk_rem (d := 64) h (by decide) (by decide)
theorem fl_len0 {n : Nat} (hn : n < 2 ^ 31) (h : nI n ≤ 0) : n = 0 := by
  have := (nI_leI (b := 0) hn (by decide)).mp h
  omega
theorem fl_len1 {n : Nat} (hn : n < 2 ^ 31) (h : ¬ nI n ≤ 0) : 0 < n := Nat.pos_of_ne_zero (fun q => h (by subst q; decide))

set_option maxHeartbeats 4000000 in
set_option maxRecDepth 100000 in
theorem c_X4_isState (l : Launch) {D : va_G} {cI cJ cII : ClassId} {ad : Nat → Nat} (hJ : fl_inj 62 ad) (M : fl_M) (x : Int32) : Met l yX4_isState wsX4_isState ({ frames := 0, cells := 0, slots := 0, locals := 0 } : Room) (fcPc D cI cJ cII ad M [.int x]) (va_Qi (fun r M2 => r = a_b (a_ix x 6) ∧ M2 = M) (fcQ D cI cII ad) (fl_A 62 ad)) 0 0 (fl_A 62 ad) := by
  refine Met.ofW (cc := cX4_isState) (maxL := 1) (ret := (some .boolean)) (by decide) rfl ?_
  intro p e s m args below meth c s₁ B hml hv
  obtain ⟨rfl, hP, hK, hN⟩ := hv
  have hx := B.exec
  have hb := B.bytes
  have hr := B.returns
  have hts := atoms_spec (ws := wsX4_isState) B.pre
  have hown : s.vm.findClass RX4 = some m.cls := findClass_of_methodNamed B.named
  have hlocks := B.notSynchronized
  have hS : va_S (fl_A 62 ad) s.heap s.heap [] := va_S.rf
  have hl := lv_entry ([.int x] : List Value) (n := 1) (Nat.le_of_ble_eq_true rfl)
  rw [lg_entry_eq]
  generalize (lg_sl ([.int x] : List Value) ++ List.replicate (1 - (lg_sl ([.int x] : List Value)).length) Slot.unset).toArray = ls at hl ⊢
  have hl : lv_has ls 1 [(0, .int x)] := hl
  refine lv_iload_n hx hb dX4_isState_0 rfl (lv_at hl 0 rfl) ?_
  refine lv_if_lt (tgt := 14) hx hb dX4_isState_1 (by decide) (fun hc1 => ?_) (fun hc1 => ?_)
  · refine lv_iconst (v := 0) hx hb dX4_isState_14 (by decide) ?_
    exact W.zret (v := 0) (ty := .boolean) hx hb hr rfl (fun t ht hW => ⟨⟨0, M, rfl, ⟨by first | (rw [a_ix_in (n := 6) hc1 hc7 (by decide)]; rfl) | (rw [a_ix_out (n := 6) hc7 (by decide)]; rfl) | (rw [a_ix_neg hc1]; rfl), rfl⟩, fl_qi ht hP⟩, hS.F ht⟩) hS.2.2 dX4_isState_15
  · refine lv_iload_n hx hb dX4_isState_4 rfl (lv_at hl 0 rfl) ?_
    refine lv_bipush (v := 6) hx hb dX4_isState_5 (by decide) ?_
    refine lv_icmp_ge (tgt := 14) hx hb dX4_isState_7 (by decide) (fun hc7 => ?_) (fun hc7 => ?_)
    · refine lv_iconst (v := 0) hx hb dX4_isState_14 (by decide) ?_
      exact W.zret (v := 0) (ty := .boolean) hx hb hr rfl (fun t ht hW => ⟨⟨0, M, rfl, ⟨by first | (rw [a_ix_in (n := 6) hc1 hc7 (by decide)]; rfl) | (rw [a_ix_out (n := 6) hc7 (by decide)]; rfl) | (rw [a_ix_neg hc1]; rfl), rfl⟩, fl_qi ht hP⟩, hS.F ht⟩) hS.2.2 dX4_isState_15
    · refine lv_iconst (v := 1) hx hb dX4_isState_10 (by decide) ?_
      refine lv_goto (tgt := 15) hx hb dX4_isState_11 (by decide) ?_
      exact W.zret (v := 1) (ty := .boolean) hx hb hr rfl (fun t ht hW => ⟨⟨1, M, rfl, ⟨by first | (rw [a_ix_in (n := 6) hc1 hc7 (by decide)]; rfl) | (rw [a_ix_out (n := 6) hc7 (by decide)]; rfl) | (rw [a_ix_neg hc1]; rfl), rfl⟩, fl_qi ht hP⟩, hS.F ht⟩) hS.2.2 dX4_isState_15

set_option maxHeartbeats 4000000 in
set_option maxRecDepth 100000 in
theorem c_X4_isSight (l : Launch) {D : va_G} {cI cJ cII : ClassId} {ad : Nat → Nat} (hJ : fl_inj 62 ad) (M : fl_M) (x : Int32) : Met l yX4_isSight wsX4_isSight ({ frames := 0, cells := 0, slots := 0, locals := 0 } : Room) (fcPc D cI cJ cII ad M [.int x]) (va_Qi (fun r M2 => r = a_b (a_ix x 5) ∧ M2 = M) (fcQ D cI cII ad) (fl_A 62 ad)) 0 0 (fl_A 62 ad) := by
  refine Met.ofW (cc := cX4_isSight) (maxL := 1) (ret := (some .boolean)) (by decide) rfl ?_
  intro p e s m args below meth c s₁ B hml hv
  obtain ⟨rfl, hP, hK, hN⟩ := hv
  have hx := B.exec
  have hb := B.bytes
  have hr := B.returns
  have hts := atoms_spec (ws := wsX4_isSight) B.pre
  have hown : s.vm.findClass RX4 = some m.cls := findClass_of_methodNamed B.named
  have hlocks := B.notSynchronized
  have hS : va_S (fl_A 62 ad) s.heap s.heap [] := va_S.rf
  have hl := lv_entry ([.int x] : List Value) (n := 1) (Nat.le_of_ble_eq_true rfl)
  rw [lg_entry_eq]
  generalize (lg_sl ([.int x] : List Value) ++ List.replicate (1 - (lg_sl ([.int x] : List Value)).length) Slot.unset).toArray = ls at hl ⊢
  have hl : lv_has ls 1 [(0, .int x)] := hl
  refine lv_iload_n hx hb dX4_isSight_0 rfl (lv_at hl 0 rfl) ?_
  refine lv_if_lt (tgt := 13) hx hb dX4_isSight_1 (by decide) (fun hc1 => ?_) (fun hc1 => ?_)
  · refine lv_iconst (v := 0) hx hb dX4_isSight_13 (by decide) ?_
    exact W.zret (v := 0) (ty := .boolean) hx hb hr rfl (fun t ht hW => ⟨⟨0, M, rfl, ⟨by first | (rw [a_ix_in (n := 5) hc1 hc6 (by decide)]; rfl) | (rw [a_ix_out (n := 5) hc6 (by decide)]; rfl) | (rw [a_ix_neg hc1]; rfl), rfl⟩, fl_qi ht hP⟩, hS.F ht⟩) hS.2.2 dX4_isSight_14
  · refine lv_iload_n hx hb dX4_isSight_4 rfl (lv_at hl 0 rfl) ?_
    refine lv_iconst (v := 5) hx hb dX4_isSight_5 (by decide) ?_
    refine lv_icmp_ge (tgt := 13) hx hb dX4_isSight_6 (by decide) (fun hc6 => ?_) (fun hc6 => ?_)
    · refine lv_iconst (v := 0) hx hb dX4_isSight_13 (by decide) ?_
      exact W.zret (v := 0) (ty := .boolean) hx hb hr rfl (fun t ht hW => ⟨⟨0, M, rfl, ⟨by first | (rw [a_ix_in (n := 5) hc1 hc6 (by decide)]; rfl) | (rw [a_ix_out (n := 5) hc6 (by decide)]; rfl) | (rw [a_ix_neg hc1]; rfl), rfl⟩, fl_qi ht hP⟩, hS.F ht⟩) hS.2.2 dX4_isSight_14
    · refine lv_iconst (v := 1) hx hb dX4_isSight_9 (by decide) ?_
      refine lv_goto (tgt := 14) hx hb dX4_isSight_10 (by decide) ?_
      exact W.zret (v := 1) (ty := .boolean) hx hb hr rfl (fun t ht hW => ⟨⟨1, M, rfl, ⟨by first | (rw [a_ix_in (n := 5) hc1 hc6 (by decide)]; rfl) | (rw [a_ix_out (n := 5) hc6 (by decide)]; rfl) | (rw [a_ix_neg hc1]; rfl), rfl⟩, fl_qi ht hP⟩, hS.F ht⟩) hS.2.2 dX4_isSight_14

set_option maxHeartbeats 4000000 in
set_option maxRecDepth 100000 in
theorem c_X4_isName (l : Launch) {D : va_G} {cI cJ cII : ClassId} {ad : Nat → Nat} (hJ : fl_inj 62 ad) (M : fl_M) (x : Int32) : Met l yX4_isName wsX4_isName ({ frames := 0, cells := 0, slots := 0, locals := 0 } : Room) (fcPc D cI cJ cII ad M [.int x]) (va_Qi (fun r M2 => r = a_b (a_ix x 4) ∧ M2 = M) (fcQ D cI cII ad) (fl_A 62 ad)) 0 0 (fl_A 62 ad) := by
  refine Met.ofW (cc := cX4_isName) (maxL := 1) (ret := (some .boolean)) (by decide) rfl ?_
  intro p e s m args below meth c s₁ B hml hv
  obtain ⟨rfl, hP, hK, hN⟩ := hv
  have hx := B.exec
  have hb := B.bytes
  have hr := B.returns
  have hts := atoms_spec (ws := wsX4_isName) B.pre
  have hown : s.vm.findClass RX4 = some m.cls := findClass_of_methodNamed B.named
  have hlocks := B.notSynchronized
  have hS : va_S (fl_A 62 ad) s.heap s.heap [] := va_S.rf
  have hl := lv_entry ([.int x] : List Value) (n := 1) (Nat.le_of_ble_eq_true rfl)
  rw [lg_entry_eq]
  generalize (lg_sl ([.int x] : List Value) ++ List.replicate (1 - (lg_sl ([.int x] : List Value)).length) Slot.unset).toArray = ls at hl ⊢
  have hl : lv_has ls 1 [(0, .int x)] := hl
  refine lv_iload_n hx hb dX4_isName_0 rfl (lv_at hl 0 rfl) ?_
  refine lv_if_lt (tgt := 13) hx hb dX4_isName_1 (by decide) (fun hc1 => ?_) (fun hc1 => ?_)
  · refine lv_iconst (v := 0) hx hb dX4_isName_13 (by decide) ?_
    exact W.zret (v := 0) (ty := .boolean) hx hb hr rfl (fun t ht hW => ⟨⟨0, M, rfl, ⟨by first | (rw [a_ix_in (n := 4) hc1 hc6 (by decide)]; rfl) | (rw [a_ix_out (n := 4) hc6 (by decide)]; rfl) | (rw [a_ix_neg hc1]; rfl), rfl⟩, fl_qi ht hP⟩, hS.F ht⟩) hS.2.2 dX4_isName_14
  · refine lv_iload_n hx hb dX4_isName_4 rfl (lv_at hl 0 rfl) ?_
    refine lv_iconst (v := 4) hx hb dX4_isName_5 (by decide) ?_
    refine lv_icmp_ge (tgt := 13) hx hb dX4_isName_6 (by decide) (fun hc6 => ?_) (fun hc6 => ?_)
    · refine lv_iconst (v := 0) hx hb dX4_isName_13 (by decide) ?_
      exact W.zret (v := 0) (ty := .boolean) hx hb hr rfl (fun t ht hW => ⟨⟨0, M, rfl, ⟨by first | (rw [a_ix_in (n := 4) hc1 hc6 (by decide)]; rfl) | (rw [a_ix_out (n := 4) hc6 (by decide)]; rfl) | (rw [a_ix_neg hc1]; rfl), rfl⟩, fl_qi ht hP⟩, hS.F ht⟩) hS.2.2 dX4_isName_14
    · refine lv_iconst (v := 1) hx hb dX4_isName_9 (by decide) ?_
      refine lv_goto (tgt := 14) hx hb dX4_isName_10 (by decide) ?_
      exact W.zret (v := 1) (ty := .boolean) hx hb hr rfl (fun t ht hW => ⟨⟨1, M, rfl, ⟨by first | (rw [a_ix_in (n := 4) hc1 hc6 (by decide)]; rfl) | (rw [a_ix_out (n := 4) hc6 (by decide)]; rfl) | (rw [a_ix_neg hc1]; rfl), rfl⟩, fl_qi ht hP⟩, hS.F ht⟩) hS.2.2 dX4_isName_14

set_option maxHeartbeats 4000000 in
set_option maxRecDepth 100000 in
theorem c_X4_isWay (l : Launch) {D : va_G} {cI cJ cII : ClassId} {ad : Nat → Nat} (hJ : fl_inj 62 ad) (M : fl_M) (x : Int32) : Met l yX4_isWay wsX4_isWay ({ frames := 0, cells := 0, slots := 0, locals := 0 } : Room) (fcPc D cI cJ cII ad M [.int x]) (va_Qi (fun r M2 => r = a_b (a_ix x 4) ∧ M2 = M) (fcQ D cI cII ad) (fl_A 62 ad)) 0 0 (fl_A 62 ad) := by
  refine Met.ofW (cc := cX4_isWay) (maxL := 1) (ret := (some .boolean)) (by decide) rfl ?_
  intro p e s m args below meth c s₁ B hml hv
  obtain ⟨rfl, hP, hK, hN⟩ := hv
  have hx := B.exec
  have hb := B.bytes
  have hr := B.returns
  have hts := atoms_spec (ws := wsX4_isWay) B.pre
  have hown : s.vm.findClass RX4 = some m.cls := findClass_of_methodNamed B.named
  have hlocks := B.notSynchronized
  have hS : va_S (fl_A 62 ad) s.heap s.heap [] := va_S.rf
  have hl := lv_entry ([.int x] : List Value) (n := 1) (Nat.le_of_ble_eq_true rfl)
  rw [lg_entry_eq]
  generalize (lg_sl ([.int x] : List Value) ++ List.replicate (1 - (lg_sl ([.int x] : List Value)).length) Slot.unset).toArray = ls at hl ⊢
  have hl : lv_has ls 1 [(0, .int x)] := hl
  refine lv_iload_n hx hb dX4_isWay_0 rfl (lv_at hl 0 rfl) ?_
  refine lv_if_lt (tgt := 13) hx hb dX4_isWay_1 (by decide) (fun hc1 => ?_) (fun hc1 => ?_)
  · refine lv_iconst (v := 0) hx hb dX4_isWay_13 (by decide) ?_
    exact W.zret (v := 0) (ty := .boolean) hx hb hr rfl (fun t ht hW => ⟨⟨0, M, rfl, ⟨by first | (rw [a_ix_in (n := 4) hc1 hc6 (by decide)]; rfl) | (rw [a_ix_out (n := 4) hc6 (by decide)]; rfl) | (rw [a_ix_neg hc1]; rfl), rfl⟩, fl_qi ht hP⟩, hS.F ht⟩) hS.2.2 dX4_isWay_14
  · refine lv_iload_n hx hb dX4_isWay_4 rfl (lv_at hl 0 rfl) ?_
    refine lv_iconst (v := 4) hx hb dX4_isWay_5 (by decide) ?_
    refine lv_icmp_ge (tgt := 13) hx hb dX4_isWay_6 (by decide) (fun hc6 => ?_) (fun hc6 => ?_)
    · refine lv_iconst (v := 0) hx hb dX4_isWay_13 (by decide) ?_
      exact W.zret (v := 0) (ty := .boolean) hx hb hr rfl (fun t ht hW => ⟨⟨0, M, rfl, ⟨by first | (rw [a_ix_in (n := 4) hc1 hc6 (by decide)]; rfl) | (rw [a_ix_out (n := 4) hc6 (by decide)]; rfl) | (rw [a_ix_neg hc1]; rfl), rfl⟩, fl_qi ht hP⟩, hS.F ht⟩) hS.2.2 dX4_isWay_14
    · refine lv_iconst (v := 1) hx hb dX4_isWay_9 (by decide) ?_
      refine lv_goto (tgt := 14) hx hb dX4_isWay_10 (by decide) ?_
      exact W.zret (v := 1) (ty := .boolean) hx hb hr rfl (fun t ht hW => ⟨⟨1, M, rfl, ⟨by first | (rw [a_ix_in (n := 4) hc1 hc6 (by decide)]; rfl) | (rw [a_ix_out (n := 4) hc6 (by decide)]; rfl) | (rw [a_ix_neg hc1]; rfl), rfl⟩, fl_qi ht hP⟩, hS.F ht⟩) hS.2.2 dX4_isWay_14

theorem fl_le9_of_lt {x : Int32} (h : 9 < x) : nI 10 ≤ x := by
  have h2 : (9 : Int32).toInt < x.toInt := Int32.lt_iff_toInt_lt.mp h
  exact Int32.le_iff_toInt_le.mpr (by have : (nI 10).toInt = 10 := by decide
                                      have : (9 : Int32).toInt = 9 := by decide
                                      omega)
theorem fl_lt_of_le9 {x : Int32} (h : nI 10 ≤ x) : 9 < x := by
  have h2 : (nI 10).toInt ≤ x.toInt := Int32.le_iff_toInt_le.mp h
  exact Int32.lt_iff_toInt_lt.mpr (by have : (nI 10).toInt = 10 := by decide
                                      have : (9 : Int32).toInt = 9 := by decide
                                      omega)

set_option maxHeartbeats 4000000 in
set_option maxRecDepth 100000 in
theorem c_X4_isEntry (l : Launch) {D : va_G} {cI cJ cII : ClassId} {ad : Nat → Nat} (hJ : fl_inj 62 ad) (M : fl_M) (x : Int32) : Met l yX4_isEntry wsX4_isEntry ({ frames := 0, cells := 0, slots := 0, locals := 0 } : Room) (fcPc D cI cJ cII ad M [.int x]) (va_Qi (fun r M2 => r = a_b (a_ix x 10) ∧ M2 = M) (fcQ D cI cII ad) (fl_A 62 ad)) 0 0 (fl_A 62 ad) := by
  refine Met.ofW (cc := cX4_isEntry) (maxL := 1) (ret := (some .boolean)) (by decide) rfl ?_
  intro p e s m args below meth c s₁ B hml hv
  obtain ⟨rfl, hP, hK, hN⟩ := hv
  have hx := B.exec
  have hb := B.bytes
  have hr := B.returns
  have hts := atoms_spec (ws := wsX4_isEntry) B.pre
  have hown : s.vm.findClass RX4 = some m.cls := findClass_of_methodNamed B.named
  have hlocks := B.notSynchronized
  have hS : va_S (fl_A 62 ad) s.heap s.heap [] := va_S.rf
  have hl := lv_entry ([.int x] : List Value) (n := 1) (Nat.le_of_ble_eq_true rfl)
  rw [lg_entry_eq]
  generalize (lg_sl ([.int x] : List Value) ++ List.replicate (1 - (lg_sl ([.int x] : List Value)).length) Slot.unset).toArray = ls at hl ⊢
  have hl : lv_has ls 1 [(0, .int x)] := hl
  refine lv_iload_n hx hb dX4_isEntry_0 rfl (lv_at hl 0 rfl) ?_
  refine lv_if_lt (tgt := 14) hx hb dX4_isEntry_1 (by decide) (fun hc1 => ?_) (fun hc1 => ?_)
  · refine lv_iconst (v := 0) hx hb dX4_isEntry_14 (by decide) ?_
    exact W.zret (v := 0) (ty := .boolean) hx hb hr rfl (fun t ht hW => ⟨⟨0, M, rfl, ⟨by first | (rw [a_ix_in (n := 10) hc1 (fun q => hc7 (fl_lt_of_le9 q)) (by decide)]; rfl) | (rw [a_ix_out (n := 10) (fl_le9_of_lt hc7) (by decide)]; rfl) | (rw [a_ix_neg hc1]; rfl), rfl⟩, fl_qi ht hP⟩, hS.F ht⟩) hS.2.2 dX4_isEntry_15
  · refine lv_iload_n hx hb dX4_isEntry_4 rfl (lv_at hl 0 rfl) ?_
    refine lv_bipush (v := 9) hx hb dX4_isEntry_5 (by decide) ?_
    refine lv_icmp_gt (tgt := 14) hx hb dX4_isEntry_7 (by decide) (fun hc7 => ?_) (fun hc7 => ?_)
    · refine lv_iconst (v := 0) hx hb dX4_isEntry_14 (by decide) ?_
      exact W.zret (v := 0) (ty := .boolean) hx hb hr rfl (fun t ht hW => ⟨⟨0, M, rfl, ⟨by first | (rw [a_ix_in (n := 10) hc1 (fun q => hc7 (fl_lt_of_le9 q)) (by decide)]; rfl) | (rw [a_ix_out (n := 10) (fl_le9_of_lt hc7) (by decide)]; rfl) | (rw [a_ix_neg hc1]; rfl), rfl⟩, fl_qi ht hP⟩, hS.F ht⟩) hS.2.2 dX4_isEntry_15
    · refine lv_iconst (v := 1) hx hb dX4_isEntry_10 (by decide) ?_
      refine lv_goto (tgt := 15) hx hb dX4_isEntry_11 (by decide) ?_
      exact W.zret (v := 1) (ty := .boolean) hx hb hr rfl (fun t ht hW => ⟨⟨1, M, rfl, ⟨by first | (rw [a_ix_in (n := 10) hc1 (fun q => hc7 (fl_lt_of_le9 q)) (by decide)]; rfl) | (rw [a_ix_out (n := 10) (fl_le9_of_lt hc7) (by decide)]; rfl) | (rw [a_ix_neg hc1]; rfl), rfl⟩, fl_qi ht hP⟩, hS.F ht⟩) hS.2.2 dX4_isEntry_15

set_option maxHeartbeats 4000000 in
set_option maxRecDepth 100000 in
theorem c_X4_exchange (l : Launch) {D : va_G} {cI cJ cII : ClassId} {ad : Nat → Nat} (hJ : fl_inj 62 ad) (M : fl_M) (c0 n k : Nat) (v : Int32) (hc : fc_len c0 = n) (hn : 0 < n) (hk : k < n) : Met l yX4_exchange wsX4_exchange ({ frames := 0, cells := 0, slots := 0, locals := 0 } : Room) (fcPc D cI cJ cII ad M [.ref (ad c0), .int (nI k), .int v]) (va_Qi (fun r M2 => r = M.1 c0 k ∧ M2 = fl_sI M c0 k v) (fcQ D cI cII ad) (fl_A 62 ad)) 0 0 (fl_A 62 ad) := by
  refine Met.ofW (cc := cX4_exchange) (maxL := 4) (ret := (some .int)) (by decide) rfl ?_
  intro p e s m args below meth c s₁ B hml hv
  obtain ⟨rfl, hP, hK, hN⟩ := hv
  have hx := B.exec
  have hb := B.bytes
  have hr := B.returns
  have hts := atoms_spec (ws := wsX4_exchange) B.pre
  have hown : s.vm.findClass RX4 = some m.cls := findClass_of_methodNamed B.named
  have hlocks := B.notSynchronized
  have hS : va_S (fl_A 62 ad) s.heap s.heap [] := va_S.rf
  have hl := lv_entry ([.ref (ad c0), .int (nI k), .int v] : List Value) (n := 4) (Nat.le_of_ble_eq_true rfl)
  rw [lg_entry_eq]
  generalize (lg_sl ([.ref (ad c0), .int (nI k), .int v] : List Value) ++ List.replicate (4 - (lg_sl ([.ref (ad c0), .int (nI k), .int v] : List Value)).length) Slot.unset).toArray = ls at hl ⊢
  have hl : lv_has ls 4 [(0, .ref (ad c0)), (1, .int (nI k)), (2, .int v)] := hl
  have hn3 : n ≤ 64 := hc ▸ fc_len_le c0
  refine lv_aload_n hx hb dX4_exchange_0 rfl (lv_at hl 0 rfl) ?_
  refine lv_iload_n hx hb dX4_exchange_1 rfl (lv_at hl 1 rfl) ?_
  refine fl_ild (k := k) hx hb hK hP (fc_a cI cII ad _ hc hn) rfl rfl (by omega) (by omega) dX4_exchange_2 ?_
  refine lv_istore_n (lv' := [(3, .int (M.1 c0 k)), (0, .ref (ad c0)), (1, .int (nI k)), (2, .int v)]) hx hb dX4_exchange_3 rfl hl (by decide) rfl (fun ls hl => ?_)
  refine lv_aload_n hx hb dX4_exchange_4 rfl (lv_at hl 1 rfl) ?_
  refine lv_iload_n hx hb dX4_exchange_5 rfl (lv_at hl 2 rfl) ?_
  refine lv_iload_n hx hb dX4_exchange_6 rfl (lv_at hl 3 rfl) ?_
  refine fl_ist (k := k) (x := v) hx hb hK hJ hP hS (fc_loc cI cII ad) (fc_a cI cII ad _ hc hn) (fc_arr cI cII ad _ hc hn).2 rfl rfl (by omega) (by omega) dX4_exchange_7 (fun H locs hP hS => ?_)
  refine lv_iload_n hx hb dX4_exchange_8 rfl (lv_at hl 0 rfl) ?_
  exact W.iret (v := M.1 c0 k) hx hb hr (fun t ht hW => ⟨⟨M.1 c0 k, (fl_sI M c0 k v), rfl, ⟨rfl, rfl⟩, fl_qi ht hP⟩, hS.F ht⟩) hS.2.2 dX4_exchange_9

set_option maxHeartbeats 4000000 in
set_option maxRecDepth 100000 in
/-- sumOf: the sum of the first k of a row -/
theorem c_X4_sumOf (l : Launch) {D : va_G} {cI cJ cII : ClassId} {ad : Nat → Nat} (hJ : fl_inj 62 ad) (M : fl_M) (c0 n k : Nat) (hc : fc_len c0 = n) (hn : 0 < n) (hk : k ≤ n) : Met l yX4_sumOf wsX4_sumOf ({ frames := 0, cells := 0, slots := 0, locals := 0 } : Room) (fcPc D cI cJ cII ad M [.ref (ad c0), .int (nI k)]) (va_Ql (fun r M2 => r = fl_sum (M.1 c0) k ∧ M2 = M) (fcQ D cI cII ad) (fl_A 62 ad)) 0 0 (fl_A 62 ad) := by
  refine Met.ofW (cc := cX4_sumOf) (maxL := 5) (ret := (some .long)) (by decide) rfl ?_
  intro p e s m args below meth c s₁ B hml hv
  obtain ⟨rfl, hP, hK, hN⟩ := hv
  have hx := B.exec
  have hb := B.bytes
  have hr := B.returns
  have hts := atoms_spec (ws := wsX4_sumOf) B.pre
  have hown : s.vm.findClass RX4 = some m.cls := findClass_of_methodNamed B.named
  have hlocks := B.notSynchronized
  have hS : va_S (fl_A 62 ad) s.heap s.heap [] := va_S.rf
  have hl := lv_entry ([.ref (ad c0), .int (nI k)] : List Value) (n := 5) (Nat.le_of_ble_eq_true rfl)
  rw [lg_entry_eq]
  generalize (lg_sl ([.ref (ad c0), .int (nI k)] : List Value) ++ List.replicate (5 - (lg_sl ([.ref (ad c0), .int (nI k)] : List Value)).length) Slot.unset).toArray = ls at hl ⊢
  have hl : lv_has ls 5 [(0, .ref (ad c0)), (1, .int (nI k))] := hl
  have hn3 : n ≤ 64 := hc ▸ fc_len_le c0
  refine lv_lconst (v := 0) hx hb dX4_sumOf_0 (by decide) ?_
  refine lv_lstore_n (lv' := [(2, .long 0), (0, .ref (ad c0)), (1, .int (nI k))]) hx hb dX4_sumOf_1 rfl hl (by decide) rfl (fun ls hl => ?_)
  refine lv_iconst (v := 0) hx hb dX4_sumOf_2 (by decide) ?_
  refine lv_istore (lv' := [(4, .int 0), (2, .long 0), (0, .ref (ad c0)), (1, .int (nI k))]) hx hb dX4_sumOf_3 hl (by decide) rfl (fun ls hl => ?_)
  suffices KL5 : ∀ (f : Nat) (i : Nat) (hi : i ≤ k) (hf : k + 1 ≤ i + f), ∀ (H : Heap) (locs : List Loc), va_P D vwCl (fcP cI cII ad M) H → va_S (fl_A 62 ad) s.heap H locs → ∀ (ls : Array Slot), lv_has ls 5 [(0, .ref (ad c0)), (1, .int (nI k)), (2, .long (fl_sum (M.1 c0) i)), (4, .int (nI i))] → W p l e (headSpec wsX4_sumOf ({ frames := 0, cells := 0, slots := 0, locals := 0 } : Room)).room s m ([.ref (ad c0), .int (nI k)] : List Value).toArray below meth c H locs 0 0 (MQ below (va_Ql (fun r M2 => r = fl_sum (M.1 c0) k ∧ M2 = M) (fcQ D cI cII ad) (fl_A 62 ad)) ([.ref (ad c0), .int (nI k)] : List Value).toArray s 0 0 (fl_A 62 ad)) (F0 m 5 ls []) from KL5 (k + 1) 0 (Nat.zero_le k) (by omega) _ _ hP hS ls (lv_sub hl [2, 3, 1, 0] rfl)
  intro f
  induction f with
  | zero =>
    intro i hi hf
    omega
  | succ f ih5 =>
    intro i hi hf H locs hP hS ls hl
    refine lv_iload hx hb dX4_sumOf_5 (lv_at hl 3 rfl) ?_
    refine lv_iload_n hx hb dX4_sumOf_7 rfl (lv_at hl 1 rfl) ?_
    refine lv_icmp_ge (tgt := 25) hx hb dX4_sumOf_8 (by decide) (fun hc8 => ?_) (fun hc8 => ?_)
    · have e8 : i = k := Nat.le_antisymm hi ((nI_leI (by omega) (by omega)).mp hc8)
      refine lv_lload_n hx hb dX4_sumOf_25 rfl (lv_at hl 2 rfl) ?_
      exact W.lret (v := fl_sum (M.1 c0) i) hx hb hr (fun t ht hW => ⟨⟨fl_sum (M.1 c0) i, M, rfl, ⟨by rw [e8], rfl⟩, fl_qi ht hP⟩, hS.F ht⟩) hS.2.2 dX4_sumOf_26
    · have l8 : i < k := Nat.lt_of_not_le (fun q => hc8 ((nI_leI (by omega) (by omega)).mpr q))
      refine lv_lload_n hx hb dX4_sumOf_11 rfl (lv_at hl 2 rfl) ?_
      refine lv_aload_n hx hb dX4_sumOf_12 rfl (lv_at hl 0 rfl) ?_
      refine lv_iload hx hb dX4_sumOf_13 (lv_at hl 3 rfl) ?_
      refine fl_ild (k := i) hx hb hK hP (fc_a cI cII ad _ hc hn) rfl rfl (by omega) (by omega) dX4_sumOf_15 ?_
      refine lv_i2l (v := (M.1 c0 i).toInt64) hx hb dX4_sumOf_16 rfl ?_
      refine lv_ladd hx hb dX4_sumOf_17 ?_
      refine lv_lstore_n (lv' := [(2, .long ((fl_sum (M.1 c0) i) + ((M.1 c0 i).toInt64))), (0, .ref (ad c0)), (1, .int (nI k)), (4, .int (nI i))]) hx hb dX4_sumOf_18 rfl hl (by decide) rfl (fun ls hl => ?_)
      refine lv_iinc (v := nI (i + 1)) (lv' := [(4, .int (nI (i + 1))), (2, .long ((fl_sum (M.1 c0) i) + ((M.1 c0 i).toInt64))), (0, .ref (ad c0)), (1, .int (nI k))]) hx hb dX4_sumOf_19 hl (k := 3) rfl (fl_inc i) (by decide) rfl (fun ls hl => ?_)
      refine lv_goto (tgt := 5) hx hb dX4_sumOf_22 (by decide) ?_
      exact ih5 (i + 1) (by omega) (by omega) _ _ hP hS ls (lv_sub hl [2, 3, 1, 0] rfl)

set_option maxHeartbeats 4000000 in
set_option maxRecDepth 100000 in
/-- firstAbove: the first place at which t times the sum is above b, or LOST -/
theorem c_X4_firstAbove (l : Launch) {D : va_G} {cI cJ cII : ClassId} {ad : Nat → Nat} (hJ : fl_inj 62 ad) (M : fl_M) (c0 n k b t : Nat) (w : Nat → Nat) (hc : fc_len c0 = n) (hn : 0 < n) (hk : k ≤ n) (hw : ∀ j, j < k → M.1 c0 j = nI (w j) ∧ w j < 2 ^ 31) (hb0 : b < 2 ^ 63) (hT : t * a_sum w k < 2 ^ 63) : Met l yX4_firstAbove wsX4_firstAbove ({ frames := 0, cells := 0, slots := 0, locals := 0 } : Room) (fcPc D cI cJ cII ad M [.long (lN b), .long (lN t), .ref (ad c0), .int (nI k)]) (va_Qi (fun r M2 => r = (if b < t * a_sum w k then nI (a_first w t b k) else -1000004) ∧ M2 = M) (fcQ D cI cII ad) (fl_A 62 ad)) 0 0 (fl_A 62 ad) := by
  refine Met.ofW (cc := cX4_firstAbove) (maxL := 9) (ret := (some .int)) (by decide) rfl ?_
  intro p e s m args below meth c s₁ B hml hv
  obtain ⟨rfl, hP, hK, hN⟩ := hv
  have hx := B.exec
  have hb := B.bytes
  have hr := B.returns
  have hts := atoms_spec (ws := wsX4_firstAbove) B.pre
  have hown : s.vm.findClass RX4 = some m.cls := findClass_of_methodNamed B.named
  have hlocks := B.notSynchronized
  have hS : va_S (fl_A 62 ad) s.heap s.heap [] := va_S.rf
  have hl := lv_entry ([.long (lN b), .long (lN t), .ref (ad c0), .int (nI k)] : List Value) (n := 9) (Nat.le_of_ble_eq_true rfl)
  rw [lg_entry_eq]
  generalize (lg_sl ([.long (lN b), .long (lN t), .ref (ad c0), .int (nI k)] : List Value) ++ List.replicate (9 - (lg_sl ([.long (lN b), .long (lN t), .ref (ad c0), .int (nI k)] : List Value)).length) Slot.unset).toArray = ls at hl ⊢
  have hl : lv_has ls 9 [(0, .long (lN b)), (2, .long (lN t)), (4, .ref (ad c0)), (5, .int (nI k))] := hl
  have hn3 : n ≤ 64 := hc ▸ fc_len_le c0
  refine lv_lconst (v := 0) hx hb dX4_firstAbove_0 (by decide) ?_
  refine lv_lstore (lv' := [(6, .long 0), (0, .long (lN b)), (2, .long (lN t)), (4, .ref (ad c0)), (5, .int (nI k))]) hx hb dX4_firstAbove_1 hl (by decide) rfl (fun ls hl => ?_)
  refine lv_iconst (v := 0) hx hb dX4_firstAbove_3 (by decide) ?_
  refine lv_istore (lv' := [(8, .int 0), (6, .long 0), (0, .long (lN b)), (2, .long (lN t)), (4, .ref (ad c0)), (5, .int (nI k))]) hx hb dX4_firstAbove_4 hl (by decide) rfl (fun ls hl => ?_)
  suffices KL6 : ∀ (f : Nat) (i : Nat) (hi : i ≤ k) (hz : ¬ b < t * a_sum w i) (hf : k + 1 ≤ i + f), ∀ (H : Heap) (locs : List Loc), va_P D vwCl (fcP cI cII ad M) H → va_S (fl_A 62 ad) s.heap H locs → ∀ (ls : Array Slot), lv_has ls 9 [(0, .long (lN b)), (2, .long (lN t)), (4, .ref (ad c0)), (5, .int (nI k)), (6, .long (lN (t * a_sum w i))), (8, .int (nI i))] → W p l e (headSpec wsX4_firstAbove ({ frames := 0, cells := 0, slots := 0, locals := 0 } : Room)).room s m ([.long (lN b), .long (lN t), .ref (ad c0), .int (nI k)] : List Value).toArray below meth c H locs 0 0 (MQ below (va_Qi (fun r M2 => r = (if b < t * a_sum w k then nI (a_first w t b k) else -1000004) ∧ M2 = M) (fcQ D cI cII ad) (fl_A 62 ad)) ([.long (lN b), .long (lN t), .ref (ad c0), .int (nI k)] : List Value).toArray s 0 0 (fl_A 62 ad)) (F0 m 6 ls []) from KL6 (k + 1) 0 (Nat.zero_le k) (by simp [a_sum]) (by omega) _ _ hP hS ls (lv_sub hl [2, 3, 4, 5, 1, 0] rfl)
  intro f
  induction f with
  | zero =>
    intro i hi hz hf
    omega
  | succ f ih6 =>
    intro i hi hz hf H locs hP hS ls hl
    refine lv_iload hx hb dX4_firstAbove_6 (lv_at hl 5 rfl) ?_
    refine lv_iload hx hb dX4_firstAbove_8 (lv_at hl 3 rfl) ?_
    refine lv_icmp_ge (tgt := 42) hx hb dX4_firstAbove_10 (by decide) (fun hc10 => ?_) (fun hc10 => ?_)
    · have e10 : i = k := Nat.le_antisymm hi ((nI_leI (by omega) (by omega)).mp hc10)
      refine lv_ldc (v := -1000004) hx hb hown (hts (.constant RX4 172 (-1000004)) (by decide +kernel)) dX4_firstAbove_42 ?_
      exact W.iret (v := (-1000004)) hx hb hr (fun t ht hW => ⟨⟨(-1000004), M, rfl, ⟨by rw [if_neg (e10 ▸ hz)], rfl⟩, fl_qi ht hP⟩, hS.F ht⟩) hS.2.2 dX4_firstAbove_44
    · have l10 : i < k := Nat.lt_of_not_le (fun q => hc10 ((nI_leI (by omega) (by omega)).mpr q))
      refine lv_lload hx hb dX4_firstAbove_13 (lv_at hl 4 rfl) ?_
      refine lv_lload_n hx hb dX4_firstAbove_15 rfl (lv_at hl 1 rfl) ?_
      refine lv_aload hx hb dX4_firstAbove_16 (lv_at hl 2 rfl) ?_
      refine lv_iload hx hb dX4_firstAbove_18 (lv_at hl 5 rfl) ?_
      refine fl_ild (k := i) hx hb hK hP (fc_a cI cII ad _ hc hn) rfl rfl (by omega) (by omega) dX4_firstAbove_20 ?_
      refine lv_i2l (v := (M.1 c0 i).toInt64) hx hb dX4_firstAbove_21 rfl ?_
      refine lv_lmul hx hb dX4_firstAbove_22 ?_
      refine lv_ladd hx hb dX4_firstAbove_23 ?_
      refine fl_tl (y := lN (t * a_sum w (i + 1))) (fl_fa (hw i l10).1 (hw i l10).2) ?_
      refine lv_lstore (lv' := [(6, .long (lN (t * a_sum w (i + 1)))), (0, .long (lN b)), (2, .long (lN t)), (4, .ref (ad c0)), (5, .int (nI k)), (8, .int (nI i))]) hx hb dX4_firstAbove_24 hl (by decide) rfl (fun ls hl => ?_)
      have hm : t * a_sum w (i + 1) ≤ t * a_sum w k := Nat.mul_le_mul_left t (a_sum_mono w (by omega))
      refine lv_lload hx hb dX4_firstAbove_26 (lv_at hl 0 rfl) ?_
      refine lv_lload_n hx hb dX4_firstAbove_28 rfl (lv_at hl 1 rfl) ?_
      refine fl_lle (tgt := 36) hx hb dX4_firstAbove_29 dX4_firstAbove_30 (by decide) (fun hc29 => ?_) (fun hc29 => ?_)
      · have g29 : ¬ b < t * a_sum w (i + 1) := Nat.not_lt.mpr ((pk_lLE (by omega) hb0).mp hc29)
        refine lv_iinc (v := nI (i + 1)) (lv' := [(8, .int (nI (i + 1))), (6, .long (lN (t * a_sum w (i + 1)))), (0, .long (lN b)), (2, .long (lN t)), (4, .ref (ad c0)), (5, .int (nI k))]) hx hb dX4_firstAbove_36 hl (k := 5) rfl (fl_inc i) (by decide) rfl (fun ls hl => ?_)
        refine lv_goto (tgt := 6) hx hb dX4_firstAbove_39 (by decide) ?_
        exact ih6 (i + 1) (by omega) g29 (by omega) _ _ hP hS ls (lv_sub hl [2, 3, 4, 5, 1, 0] rfl)
      · have g29 : b < t * a_sum w (i + 1) := Nat.lt_of_not_le (fun q => hc29 ((pk_lLE (by omega) hb0).mpr q))
        refine lv_iload hx hb dX4_firstAbove_33 (lv_at hl 5 rfl) ?_
        exact W.iret (v := nI i) hx hb hr (fun t ht hW => ⟨⟨nI i, M, rfl, ⟨by rw [if_pos (Nat.lt_of_lt_of_le g29 hm), a_first_eq hz g29 k (by omega)], rfl⟩, fl_qi ht hP⟩, hS.F ht⟩) hS.2.2 dX4_firstAbove_35

/-- a row after its first i places have become v -/
def fl_fill (f : Nat → Int32) (v : Int32) (i : Nat) : Nat → Int32 := fun j => if j < i then v else f j
def fl_fM (M : fl_M) (c : Nat) (v : Int32) (i : Nat) : fl_M := (fun a => if a = c then fl_fill (M.1 a) v i else M.1 a, M.2)
theorem fl_fM_0 (M : fl_M) (c : Nat) (v : Int32) : fl_fM M c v 0 = M := by
  refine Prod.ext (funext fun a => ?_) rfl
  show (if a = c then fl_fill (M.1 a) v 0 else M.1 a) = M.1 a
  split
  · exact funext fun j => if_neg (Nat.not_lt_zero j)
  · rfl
theorem fl_fM_s (M : fl_M) (c : Nat) (v : Int32) (i : Nat) : fl_sI (fl_fM M c v i) c i v = fl_fM M c v (i + 1) := by
  refine Prod.ext (funext fun a => ?_) rfl
  show (if a = c then upd (if a = c then fl_fill (M.1 a) v i else M.1 a) i v else (if a = c then fl_fill (M.1 a) v i else M.1 a)) = (if a = c then fl_fill (M.1 a) v (i + 1) else M.1 a)
  by_cases h : a = c
  · simp only [h, if_true]
    funext j
    show (if j = i then v else if j < i then v else M.1 c j) = (if j < i + 1 then v else M.1 c j)
    by_cases h1 : j = i
    · rw [if_pos h1, if_pos (by omega)]
    · rw [if_neg h1]
      by_cases h2 : j < i
      · rw [if_pos h2, if_pos (by omega)]
      · rw [if_neg h2, if_neg (by omega)]
  · simp only [h, if_false]
theorem fl_fM_same (M : fl_M) (c : Nat) (v : Int32) (i : Nat) {j : Nat} (h : j < i) : (fl_fM M c v i).1 c j = v := by
  show (if c = c then fl_fill (M.1 c) v i else M.1 c) j = v
  rw [if_pos rfl]
  exact if_pos h
theorem fl_fM_eq {P : Nat → Prop} {M M2 : fl_M} (h : fl_eq P M M2) {c : Nat} (hc : ¬ P c) (v : Int32) (i : Nat) : fl_eq P M (fl_fM M2 c v i) := fun a ha => by
  have : a ≠ c := fun q => hc (q ▸ ha)
  exact ⟨(show (if a = c then fl_fill (M2.1 a) v i else M2.1 a) = _ by rw [if_neg this]; exact (h a ha).1), (h a ha).2.1, (h a ha).2.2.1, (h a ha).2.2.2⟩

set_option maxHeartbeats 4000000 in
set_option maxRecDepth 100000 in
/-- Arrays.fill -/
theorem c_J7_fill_53178 (l : Launch) {D : va_G} {cI cJ cII : ClassId} {ad : Nat → Nat} (hJ : fl_inj 62 ad) (M : fl_M) (c0 n : Nat) (v : Int32) (hc : fc_len c0 = n) (hn : 0 < n) : Met l yJ7_fill_53178 wsJ7_fill_53178 ({ frames := 0, cells := 0, slots := 0, locals := 0 } : Room) (fcPc D cI cJ cII ad M [.ref (ad c0), .int v]) (va_Qv (fun M2 => M2 = fl_fM M c0 v n) (fcQ D cI cII ad) (fl_A 62 ad)) 0 0 (fl_A 62 ad) := by
  refine Met.ofW (cc := cJ7_fill_53178) (maxL := 4) (ret := none) (by decide) rfl ?_
  intro p e s m args below meth c s₁ B hml hv
  obtain ⟨rfl, hP, hK, hN⟩ := hv
  have hx := B.exec
  have hb := B.bytes
  have hr := B.returns
  have hts := atoms_spec (ws := wsJ7_fill_53178) B.pre
  have hown : s.vm.findClass RJ7 = some m.cls := findClass_of_methodNamed B.named
  have hlocks := B.notSynchronized
  have hS : va_S (fl_A 62 ad) s.heap s.heap [] := va_S.rf
  have hl := lv_entry ([.ref (ad c0), .int v] : List Value) (n := 4) (Nat.le_of_ble_eq_true rfl)
  rw [lg_entry_eq]
  generalize (lg_sl ([.ref (ad c0), .int v] : List Value) ++ List.replicate (4 - (lg_sl ([.ref (ad c0), .int v] : List Value)).length) Slot.unset).toArray = ls at hl ⊢
  have hl : lv_has ls 4 [(0, .ref (ad c0)), (1, .int v)] := hl
  have hn3 : n ≤ 64 := hc ▸ fc_len_le c0
  refine lv_iconst (v := 0) hx hb dJ7_fill_53178_0 (by decide) ?_
  refine lv_istore_n (lv' := [(2, .int 0), (0, .ref (ad c0)), (1, .int v)]) hx hb dJ7_fill_53178_1 rfl hl (by decide) rfl (fun ls hl => ?_)
  refine lv_aload_n hx hb dJ7_fill_53178_2 rfl (lv_at hl 1 rfl) ?_
  refine va_alen (v := nI n) hx hb hK hP c0 0 (fc_a cI cII ad _ hc hn) rfl rfl dJ7_fill_53178_3 ?_
  refine lv_istore_n (lv' := [(3, .int (nI n)), (2, .int 0), (0, .ref (ad c0)), (1, .int v)]) hx hb dJ7_fill_53178_4 rfl hl (by decide) rfl (fun ls hl => ?_)
  suffices KL5 : ∀ (f : Nat) (i : Nat) (M3 : fl_M) (hi : i ≤ n) (hM : M3 = fl_fM M c0 v i) (hf : n + 1 ≤ i + f), ∀ (H : Heap) (locs : List Loc), va_P D vwCl (fcP cI cII ad M3) H → va_S (fl_A 62 ad) s.heap H locs → ∀ (ls : Array Slot), lv_has ls 4 [(0, .ref (ad c0)), (1, .int v), (2, .int (nI i)), (3, .int (nI n))] → W p l e (headSpec wsJ7_fill_53178 ({ frames := 0, cells := 0, slots := 0, locals := 0 } : Room)).room s m ([.ref (ad c0), .int v] : List Value).toArray below meth c H locs 0 0 (MQ below (va_Qv (fun M2 => M2 = fl_fM M c0 v n) (fcQ D cI cII ad) (fl_A 62 ad)) ([.ref (ad c0), .int v] : List Value).toArray s 0 0 (fl_A 62 ad)) (F0 m 5 ls []) from KL5 (n + 1) 0 M (Nat.zero_le n) ((fl_fM_0 M c0 v).symm) (by omega) _ _ hP hS ls (lv_sub hl [2, 3, 1, 0] rfl)
  intro f
  induction f with
  | zero =>
    intro i M3 hi hM hf
    omega
  | succ f ih5 =>
    intro i M3 hi hM hf H locs hP hS ls hl
    refine lv_iload_n hx hb dJ7_fill_53178_5 rfl (lv_at hl 2 rfl) ?_
    refine lv_iload_n hx hb dJ7_fill_53178_6 rfl (lv_at hl 3 rfl) ?_
    refine lv_icmp_ge (tgt := 20) hx hb dJ7_fill_53178_7 (by decide) (fun hc7 => ?_) (fun hc7 => ?_)
    · have e7 : i = n := Nat.le_antisymm hi ((nI_leI (by omega) (by omega)).mp hc7)
      exact W.vret hx hb hr (fun t ht hW => ⟨⟨M3, rfl, by rw [hM, e7], fl_qi ht hP⟩, hS.F ht⟩) hS.2.2 dJ7_fill_53178_20
    · have l7 : i < n := Nat.lt_of_not_le (fun q => hc7 ((nI_leI (by omega) (by omega)).mpr q))
      refine lv_aload_n hx hb dJ7_fill_53178_10 rfl (lv_at hl 0 rfl) ?_
      refine lv_iload_n hx hb dJ7_fill_53178_11 rfl (lv_at hl 2 rfl) ?_
      refine lv_iload_n hx hb dJ7_fill_53178_12 rfl (lv_at hl 1 rfl) ?_
      refine fl_ist (k := i) (x := v) hx hb hK hJ hP hS (fc_loc cI cII ad) (fc_a cI cII ad _ hc hn) (fc_arr cI cII ad _ hc hn).2 rfl rfl (by omega) (by omega) dJ7_fill_53178_13 (fun H locs hP hS => ?_)
      refine lv_iinc (v := nI (i + 1)) (lv' := [(2, .int (nI (i + 1))), (0, .ref (ad c0)), (1, .int v), (3, .int (nI n))]) hx hb dJ7_fill_53178_14 hl (k := 2) rfl (fl_inc i) (by decide) rfl (fun ls hl => ?_)
      refine lv_goto (tgt := 5) hx hb dJ7_fill_53178_17 (by decide) ?_
      exact ih5 (i + 1) (fl_sI M3 c0 i v) (by omega) (by rw [hM, fl_fM_s]) (by omega) _ _ hP hS ls (lv_sub hl [1, 2, 0, 3] rfl)

set_option maxHeartbeats 4000000 in
set_option maxRecDepth 100000 in
theorem c_X0_setAsAtFirst (l : Launch) {D : va_G} {cI cJ cII : ClassId} {ad : Nat → Nat} (hJ : fl_inj 62 ad) (M : fl_M) : Met l yX0_setAsAtFirst wsX0_setAsAtFirst ({ frames := 0, cells := 0, slots := 0, locals := 0 } : Room) (fcPc D cI cJ cII ad M [.ref (ad 6)]) (va_Qv (fun M2 => fc_D ([], 0) M2 ∧ fl_eq (fun c => c ≠ 6) M M2) (fcQ D cI cII ad) (fl_A 62 ad)) 0 0 (fl_A 62 ad) := by
  refine Met.ofW (cc := cX0_setAsAtFirst) (maxL := 1) (ret := none) (by decide) rfl ?_
  intro p e s m args below meth c s₁ B hml hv
  obtain ⟨rfl, hP, hK, hN⟩ := hv
  have hx := B.exec
  have hb := B.bytes
  have hr := B.returns
  have hts := atoms_spec (ws := wsX0_setAsAtFirst) B.pre
  have hown : s.vm.findClass RX0 = some m.cls := findClass_of_methodNamed B.named
  have hlocks := B.notSynchronized
  have inX0 : ∀ w ∈ u_ws RX0 TX0 4, w ∈ wsX0_setAsAtFirst := by decide +kernel
  have hS : va_S (fl_A 62 ad) s.heap s.heap [] := va_S.rf
  have hl := lv_entry ([.ref (ad 6)] : List Value) (n := 1) (Nat.le_of_ble_eq_true rfl)
  rw [lg_entry_eq]
  generalize (lg_sl ([.ref (ad 6)] : List Value) ++ List.replicate (1 - (lg_sl ([.ref (ad 6)] : List Value)).length) Slot.unset).toArray = ls at hl ⊢
  have hl : lv_has ls 1 [(0, .ref (ad 6))] := hl
  refine lv_aload_n hx hb dX0_setAsAtFirst_0 rfl (lv_at hl 0 rfl) ?_
  refine lv_iconst (v := 0) hx hb dX0_setAsAtFirst_1 (by decide) ?_
  refine fl_put (ci := 2) (ty := .int) (v := .int 0) (C := RX0) (T := TX0) (Nf := 4) hx hb hts inX0 tyX0 tyX0_ok nmX0 hown hK hJ hP hS 6 (by decide) (fl_sI M 6 1 0) rfl rfl 1 (by decide) (hts (.fieldLink RX0 15 "ResampledRows$Draws" "first" "I") (by decide +kernel)) (fun _ h9 => h9) rfl (by decide +kernel) rfl rfl (Nat.le_of_ble_eq_true rfl) rfl (fl_sI_o (fc_loc cI cII ad) _ _ _ _) dX0_setAsAtFirst_2 (fun H locs hP hS => ?_)
  refine lv_aload_n hx hb dX0_setAsAtFirst_5 rfl (lv_at hl 0 rfl) ?_
  refine lv_iconst (v := 0) hx hb dX0_setAsAtFirst_6 (by decide) ?_
  refine fl_put (ci := 2) (ty := .int) (v := .int 0) (C := RX0) (T := TX0) (Nf := 4) hx hb hts inX0 tyX0 tyX0_ok nmX0 hown hK hJ hP hS 6 (by decide) (fl_sI (fl_sI M 6 1 0) 6 2 0) rfl rfl 2 (by decide) (hts (.fieldLink RX0 19 "ResampledRows$Draws" "left" "I") (by decide +kernel)) (fun _ h9 => h9) rfl (by decide +kernel) rfl rfl (Nat.le_of_ble_eq_true rfl) rfl (fl_sI_o (fc_loc cI cII ad) _ _ _ _) dX0_setAsAtFirst_7 (fun H locs hP hS => ?_)
  refine lv_aload_n hx hb dX0_setAsAtFirst_10 rfl (lv_at hl 0 rfl) ?_
  refine lv_lconst (v := 0) hx hb dX0_setAsAtFirst_11 (by decide) ?_
  refine fl_put (ci := 2) (ty := .long) (v := .long 0) (C := RX0) (T := TX0) (Nf := 4) hx hb hts inX0 tyX0 tyX0_ok nmX0 hown hK hJ hP hS 6 (by decide) (fl_sJ (fl_sI (fl_sI M 6 1 0) 6 2 0) 6 3 0) rfl rfl 3 (by decide) (hts (.fieldLink RX0 22 "ResampledRows$Draws" "x" "J") (by decide +kernel)) (fun _ h9 => h9) rfl (by decide +kernel) rfl rfl (Nat.le_of_ble_eq_true rfl) rfl (fl_sJ_o (fc_loc cI cII ad) _ _ _ _) dX0_setAsAtFirst_12 (fun H locs hP hS => ?_)
  exact W.vret hx hb hr (fun t ht hW => ⟨⟨(fl_sJ (fl_sI (fl_sI M 6 1 0) 6 2 0) 6 3 0), rfl, ⟨⟨0, by decide, rfl, rfl, by decide, rfl, fun j hj => absurd hj (Nat.not_lt_zero j)⟩, ((fl_eq.rf.sI (by decide) _ _).sI (by decide) _ _).sJ (by decide) _ _⟩, fl_qi ht hP⟩, hS.F ht⟩) hS.2.2 dX0_setAsAtFirst_15

theorem fc_D_add {d : a_D} {M : fl_M} {f0 k : Nat} (hf0 : f0 < 64) (hk : k < 2 ^ 31) (hl : d.1.length < 64) (h1 : M.1 6 1 = nI f0) (h4 : M.2.1 6 3 = d.2) (h5 : ∀ j, j < d.1.length → M.1 7 ((f0 + j) % 64) = nI (d.1.getD j 0) ∧ d.1.getD j 0 < 2 ^ 31) : fc_D (d.1 ++ [k], d.2) (fl_sI (fl_sI M 7 ((f0 + d.1.length) % 64) (nI k)) 6 2 (nI (d.1.length + 1))) := by
  refine ⟨f0, hf0, h1, ?_, by simp; omega, h4, fun j hj => ?_⟩
  · show nI (d.1.length + 1) = nI (d.1 ++ [k]).length
    simp
  · have hj2 : j < d.1.length + 1 := by simpa using hj
    show upd (M.1 7) ((f0 + d.1.length) % 64) (nI k) ((f0 + j) % 64) = nI ((d.1 ++ [k]).getD j 0) ∧ (d.1 ++ [k]).getD j 0 < 2 ^ 31
    by_cases e : j = d.1.length
    · subst e
      have : (d.1 ++ [k]).getD d.1.length 0 = k := by simp [List.getD]
      rw [this]
      exact ⟨pk_us, hk⟩
    · have hj3 : j < d.1.length := by omega
      have : (d.1 ++ [k]).getD j 0 = d.1.getD j 0 := by simp [List.getD, List.getElem?_append_left hj3]
      rw [this, pk_un (by omega)]
      exact h5 j hj3
theorem fc_D_pop {M : fl_M} {f0 v : Nat} {q : List Nat} {x : Int64} (hf0 : f0 < 64) (hl : (v :: q).length ≤ 64) (h4 : M.2.1 6 3 = x) (h5 : ∀ j, j < (v :: q).length → M.1 7 ((f0 + j) % 64) = nI ((v :: q).getD j 0) ∧ (v :: q).getD j 0 < 2 ^ 31) : fc_D (q, x) (fl_sI (fl_sI M 6 1 (nI ((f0 + 1) % 64))) 6 2 (nI q.length)) := by
  refine ⟨(f0 + 1) % 64, Nat.mod_lt _ (by decide), rfl, rfl, ?_, h4, fun j hj => ?_⟩
  · have : (v :: q).length = q.length + 1 := rfl
    show q.length ≤ 64
    omega
  · have h := h5 (j + 1) (by show j + 1 < q.length + 1; exact Nat.succ_lt_succ hj)
    show M.1 7 (((f0 + 1) % 64 + j) % 64) = nI (q.getD j 0) ∧ q.getD j 0 < 2 ^ 31
    have e : ((f0 + 1) % 64 + j) % 64 = (f0 + (j + 1)) % 64 := by omega
    rw [e]
    have e2 : (v :: q).getD (j + 1) 0 = q.getD j 0 := by simp [List.getD]
    rw [e2] at h
    exact h

set_option maxHeartbeats 4000000 in
set_option maxRecDepth 100000 in
theorem c_X0_addForced (l : Launch) {D : va_G} {cI cJ cII : ClassId} {ad : Nat → Nat} (hJ : fl_inj 62 ad) (M : fl_M) (d : a_D) (k : Nat) (hk : k < 2 ^ 31) (hd : fc_D d M) (hlen : d.1.length < 64) : Met l yX0_addForced wsX0_addForced ({ frames := 0, cells := 0, slots := 0, locals := 0 } : Room) (fcPc D cI cJ cII ad M [.ref (ad 6), .int (nI k)]) (va_Qv (fun M2 => fc_D (d.1 ++ [k], d.2) M2 ∧ fl_eq (fun c => c ≠ 6 ∧ c ≠ 7) M M2) (fcQ D cI cII ad) (fl_A 62 ad)) 0 0 (fl_A 62 ad) := by
  refine Met.ofW (cc := cX0_addForced) (maxL := 2) (ret := none) (by decide) rfl ?_
  intro p e s m args below meth c s₁ B hml hv
  obtain ⟨rfl, hP, hK, hN⟩ := hv
  have hx := B.exec
  have hb := B.bytes
  have hr := B.returns
  have hts := atoms_spec (ws := wsX0_addForced) B.pre
  have hown : s.vm.findClass RX0 = some m.cls := findClass_of_methodNamed B.named
  have hlocks := B.notSynchronized
  have inX0 : ∀ w ∈ u_ws RX0 TX0 4, w ∈ wsX0_addForced := by decide +kernel
  have hS : va_S (fl_A 62 ad) s.heap s.heap [] := va_S.rf
  have hl := lv_entry ([.ref (ad 6), .int (nI k)] : List Value) (n := 2) (Nat.le_of_ble_eq_true rfl)
  rw [lg_entry_eq]
  generalize (lg_sl ([.ref (ad 6), .int (nI k)] : List Value) ++ List.replicate (2 - (lg_sl ([.ref (ad 6), .int (nI k)] : List Value)).length) Slot.unset).toArray = ls at hl ⊢
  have hl : lv_has ls 2 [(0, .ref (ad 6)), (1, .int (nI k))] := hl
  obtain ⟨f0, hf0, h1, h2, h3, h4, h5⟩ := hd
  refine lv_aload_n hx hb dX0_addForced_0 rfl (lv_at hl 0 rfl) ?_
  refine va_get (D := D) (ci := 2) (v := .ref (ad 7)) (C := RX0) (T := TX0) (N := 4) hx hb hts inX0 hown hK hP 6 (fl_at (by decide) rfl) rfl 0 (by decide) (hts (.fieldLink RX0 9 "ResampledRows$Draws" "forced" "[I") (by decide +kernel)) (fun _ h9 => h9) rfl dX0_addForced_1 ?_
  refine lv_aload_n hx hb dX0_addForced_4 rfl (lv_at hl 0 rfl) ?_
  refine va_get (D := D) (ci := 2) (v := .int (M.1 6 1)) (C := RX0) (T := TX0) (N := 4) hx hb hts inX0 hown hK hP 6 (fl_at (by decide) rfl) rfl 1 (by decide) (hts (.fieldLink RX0 15 "ResampledRows$Draws" "first" "I") (by decide +kernel)) (fun _ h9 => h9) rfl dX0_addForced_5 ?_
  refine fl_ti (y := nI f0) h1 ?_
  refine lv_aload_n hx hb dX0_addForced_8 rfl (lv_at hl 0 rfl) ?_
  refine va_get (D := D) (ci := 2) (v := .int (M.1 6 2)) (C := RX0) (T := TX0) (N := 4) hx hb hts inX0 hown hK hP 6 (fl_at (by decide) rfl) rfl 2 (by decide) (hts (.fieldLink RX0 19 "ResampledRows$Draws" "left" "I") (by decide +kernel)) (fun _ h9 => h9) rfl dX0_addForced_9 ?_
  refine fl_ti (y := nI d.1.length) h2 ?_
  refine lv_iadd hx hb dX0_addForced_12 ?_
  refine lv_bipush (v := 64) hx hb dX0_addForced_13 (by decide) ?_
  refine lv_irem hx hb dX0_addForced_15 (by decide) ?_
  refine fl_ti (y := nI ((f0 + d.1.length) % 64)) (by rw [nI_add]; exact fl_rem64 (by omega)) ?_
  refine lv_iload_n hx hb dX0_addForced_16 rfl (lv_at hl 1 rfl) ?_
  refine fl_ist (n := 64) (k := ((f0 + d.1.length) % 64)) (x := nI k) hx hb hK hJ hP hS (fc_loc cI cII ad) (fc_a cI cII ad _ rfl (by decide)) (fc_arr cI cII ad _ rfl (by decide)).2 rfl rfl (Nat.mod_lt _ (by decide)) (by decide) dX0_addForced_17 (fun H locs hP hS => ?_)
  refine lv_aload_n hx hb dX0_addForced_18 rfl (lv_at hl 0 rfl) ?_
  refine lv_dup hx hb dX0_addForced_19 rfl ?_
  refine va_get (D := D) (ci := 2) (v := .int (M.1 6 2)) (C := RX0) (T := TX0) (N := 4) hx hb hts inX0 hown hK hP 6 (fl_at (by decide) rfl) rfl 2 (by decide) (hts (.fieldLink RX0 19 "ResampledRows$Draws" "left" "I") (by decide +kernel)) (fun _ h9 => h9) rfl dX0_addForced_20 ?_
  refine fl_ti (y := nI d.1.length) h2 ?_
  refine lv_iconst (v := 1) hx hb dX0_addForced_23 (by decide) ?_
  refine lv_iadd hx hb dX0_addForced_24 ?_
  refine fl_ti (y := nI (d.1.length + 1)) (nI_1 _) ?_
  refine fl_put (ci := 2) (ty := .int) (v := .int (nI (d.1.length + 1))) (C := RX0) (T := TX0) (Nf := 4) hx hb hts inX0 tyX0 tyX0_ok nmX0 hown hK hJ hP hS 6 (by decide) (fl_sI (fl_sI M 7 ((f0 + d.1.length) % 64) (nI k)) 6 2 (nI (d.1.length + 1))) rfl rfl 2 (by decide) (hts (.fieldLink RX0 19 "ResampledRows$Draws" "left" "I") (by decide +kernel)) (fun _ h9 => h9) rfl (by decide +kernel) rfl rfl (Nat.le_of_ble_eq_true rfl) rfl (fl_sI_o (fc_loc cI cII ad) _ _ _ _) dX0_addForced_25 (fun H locs hP hS => ?_)
  exact W.vret hx hb hr (fun t ht hW => ⟨⟨(fl_sI (fl_sI M 7 ((f0 + d.1.length) % 64) (nI k)) 6 2 (nI (d.1.length + 1))), rfl, ⟨fc_D_add hf0 hk hlen h1 h4 h5, (fl_eq.rf.sI (by decide) _ _).sI (by decide) _ _⟩, fl_qi ht hP⟩, hS.F ht⟩) hS.2.2 dX0_addForced_28

set_option maxHeartbeats 4000000 in
set_option maxRecDepth 100000 in
theorem c_X0_next (l : Launch) {D : va_G} {cI cJ cII : ClassId} {ad : Nat → Nat} (hJ : fl_inj 62 ad) (M : fl_M) (d : a_D) (hd : fc_D d M) : Met l yX0_next wsX0_next ({ frames := 0, cells := 0, slots := 0, locals := 0 } : Room) (fcPc D cI cJ cII ad M [.ref (ad 6)]) (va_Ql (fun r M2 => r = lN (a_next d).1 ∧ (a_next d).1 < 2 ^ 31 ∧ fc_D (a_next d).2 M2 ∧ fl_eq (fun c => c ≠ 6) M M2) (fcQ D cI cII ad) (fl_A 62 ad)) 0 0 (fl_A 62 ad) := by
  refine Met.ofW (cc := cX0_next) (maxL := 2) (ret := (some .long)) (by decide) rfl ?_
  intro p e s m args below meth c s₁ B hml hv
  obtain ⟨rfl, hP, hK, hN⟩ := hv
  have hx := B.exec
  have hb := B.bytes
  have hr := B.returns
  have hts := atoms_spec (ws := wsX0_next) B.pre
  have hown : s.vm.findClass RX0 = some m.cls := findClass_of_methodNamed B.named
  have hlocks := B.notSynchronized
  have inX0 : ∀ w ∈ u_ws RX0 TX0 4, w ∈ wsX0_next := by decide +kernel
  have hS : va_S (fl_A 62 ad) s.heap s.heap [] := va_S.rf
  have hl := lv_entry ([.ref (ad 6)] : List Value) (n := 2) (Nat.le_of_ble_eq_true rfl)
  rw [lg_entry_eq]
  generalize (lg_sl ([.ref (ad 6)] : List Value) ++ List.replicate (2 - (lg_sl ([.ref (ad 6)] : List Value)).length) Slot.unset).toArray = ls at hl ⊢
  have hl : lv_has ls 2 [(0, .ref (ad 6))] := hl
  obtain ⟨q0, x0⟩ := d
  obtain ⟨f0, hf0, h1, h2, h3, h4, h5⟩ := hd
  dsimp only at h2 h3 h4 h5
  refine lv_aload_n hx hb dX0_next_0 rfl (lv_at hl 0 rfl) ?_
  refine va_get (D := D) (ci := 2) (v := .int (M.1 6 2)) (C := RX0) (T := TX0) (N := 4) hx hb hts inX0 hown hK hP 6 (fl_at (by decide) rfl) rfl 2 (by decide) (hts (.fieldLink RX0 19 "ResampledRows$Draws" "left" "I") (by decide +kernel)) (fun _ h9 => h9) rfl dX0_next_1 ?_
  refine fl_ti (y := nI q0.length) h2 ?_
  refine lv_if_le (tgt := 43) hx hb dX0_next_4 (by decide) (fun hc4 => ?_) (fun hc4 => ?_)
  · have hq : q0 = [] := List.eq_nil_of_length_eq_zero (fl_len0 (by omega) hc4)
    subst hq
    refine lv_aload_n hx hb dX0_next_43 rfl (lv_at hl 0 rfl) ?_
    refine lv_aload_n hx hb dX0_next_44 rfl (lv_at hl 0 rfl) ?_
    refine va_get (D := D) (ci := 2) (v := .long (M.2.1 6 3)) (C := RX0) (T := TX0) (N := 4) hx hb hts inX0 hown hK hP 6 (fl_at (by decide) rfl) rfl 3 (by decide) (hts (.fieldLink RX0 22 "ResampledRows$Draws" "x" "J") (by decide +kernel)) (fun _ h9 => h9) rfl dX0_next_45 ?_
    refine lv_ldc2 (v := 6364136223846793005) hx hb hown (hts (.constantLong RX0 30 (6364136223846793005)) (by decide +kernel)) dX0_next_48 ?_
    refine lv_lmul hx hb dX0_next_51 ?_
    refine lv_ldc2 (v := 1442695040888963407) hx hb hown (hts (.constantLong RX0 32 (1442695040888963407)) (by decide +kernel)) dX0_next_52 ?_
    refine lv_ladd hx hb dX0_next_55 ?_
    refine fl_tl (y := a_x x0) (by rw [h4]; rfl) ?_
    refine fl_put (ci := 2) (ty := .long) (v := .long (a_x x0)) (C := RX0) (T := TX0) (Nf := 4) hx hb hts inX0 tyX0 tyX0_ok nmX0 hown hK hJ hP hS 6 (by decide) (fl_sJ M 6 3 (a_x x0)) rfl rfl 3 (by decide) (hts (.fieldLink RX0 22 "ResampledRows$Draws" "x" "J") (by decide +kernel)) (fun _ h9 => h9) rfl (by decide +kernel) rfl rfl (Nat.le_of_ble_eq_true rfl) rfl (fl_sJ_o (fc_loc cI cII ad) _ _ _ _) dX0_next_56 (fun H locs hP hS => ?_)
    refine lv_aload_n hx hb dX0_next_59 rfl (lv_at hl 0 rfl) ?_
    refine va_get (D := D) (ci := 2) (v := .long (a_x x0)) (C := RX0) (T := TX0) (N := 4) hx hb hts inX0 hown hK hP 6 (fl_at (by decide) rfl) rfl 3 (by decide) (hts (.fieldLink RX0 22 "ResampledRows$Draws" "x" "J") (by decide +kernel)) (fun _ h9 => h9) rfl dX0_next_60 ?_
    refine lv_bipush (v := 33) hx hb dX0_next_63 (by decide) ?_
    refine lv_lushr (v := ((a_x x0).toUInt64 >>> ((33 : Int32).toInt64.toUInt64 &&& Int64.toUInt64 63)).toInt64) hx hb dX0_next_65 rfl ?_
    refine fl_tl (y := lN (a_v (a_x x0))) (a_v_eq _) ?_
    exact W.lret (v := lN (a_v (a_x x0))) hx hb hr (fun t ht hW => ⟨⟨lN (a_v (a_x x0)), (fl_sJ M 6 3 (a_x x0)), rfl, ⟨rfl, a_v_lt _, ⟨f0, hf0, h1, h2, Nat.zero_le _, rfl, fun j hj => absurd hj (Nat.not_lt_zero j)⟩, fl_eq.rf.sJ (by decide) _ _⟩, fl_qi ht hP⟩, hS.F ht⟩) hS.2.2 dX0_next_66
  · obtain ⟨v, q, hq⟩ : ∃ v q, q0 = v :: q := by
      cases q0 with
      | nil => exact absurd (show nI 0 ≤ 0 by decide) hc4
      | cons v q => exact ⟨v, q, rfl⟩
    subst hq
    have h50 := h5 0 (Nat.succ_pos _)
    have h51 : M.1 7 f0 = nI v := by
      have := h50.1
      rw [Nat.add_zero, Nat.mod_eq_of_lt hf0] at this
      exact this
    have hv0 : v < 2 ^ 31 := h50.2
    refine lv_aload_n hx hb dX0_next_7 rfl (lv_at hl 0 rfl) ?_
    refine va_get (D := D) (ci := 2) (v := .ref (ad 7)) (C := RX0) (T := TX0) (N := 4) hx hb hts inX0 hown hK hP 6 (fl_at (by decide) rfl) rfl 0 (by decide) (hts (.fieldLink RX0 9 "ResampledRows$Draws" "forced" "[I") (by decide +kernel)) (fun _ h9 => h9) rfl dX0_next_8 ?_
    refine lv_aload_n hx hb dX0_next_11 rfl (lv_at hl 0 rfl) ?_
    refine va_get (D := D) (ci := 2) (v := .int (M.1 6 1)) (C := RX0) (T := TX0) (N := 4) hx hb hts inX0 hown hK hP 6 (fl_at (by decide) rfl) rfl 1 (by decide) (hts (.fieldLink RX0 15 "ResampledRows$Draws" "first" "I") (by decide +kernel)) (fun _ h9 => h9) rfl dX0_next_12 ?_
    refine fl_ti (y := nI f0) h1 ?_
    refine fl_ild (n := 64) (k := f0) hx hb hK hP (fc_a cI cII ad _ rfl (by decide)) rfl rfl (by omega) (by decide) dX0_next_15 ?_
    refine fl_ti (y := nI v) h51 ?_
    refine lv_istore_n (lv' := [(1, .int (nI v)), (0, .ref (ad 6))]) hx hb dX0_next_16 rfl hl (by decide) rfl (fun ls hl => ?_)
    refine lv_aload_n hx hb dX0_next_17 rfl (lv_at hl 1 rfl) ?_
    refine lv_aload_n hx hb dX0_next_18 rfl (lv_at hl 1 rfl) ?_
    refine va_get (D := D) (ci := 2) (v := .int (M.1 6 1)) (C := RX0) (T := TX0) (N := 4) hx hb hts inX0 hown hK hP 6 (fl_at (by decide) rfl) rfl 1 (by decide) (hts (.fieldLink RX0 15 "ResampledRows$Draws" "first" "I") (by decide +kernel)) (fun _ h9 => h9) rfl dX0_next_19 ?_
    refine fl_ti (y := nI f0) h1 ?_
    refine lv_iconst (v := 1) hx hb dX0_next_22 (by decide) ?_
    refine lv_iadd hx hb dX0_next_23 ?_
    refine lv_bipush (v := 64) hx hb dX0_next_24 (by decide) ?_
    refine lv_irem hx hb dX0_next_26 (by decide) ?_
    refine fl_ti (y := nI ((f0 + 1) % 64)) (by rw [nI_1]; exact fl_rem64 (by omega)) ?_
    refine fl_put (ci := 2) (ty := .int) (v := .int (nI ((f0 + 1) % 64))) (C := RX0) (T := TX0) (Nf := 4) hx hb hts inX0 tyX0 tyX0_ok nmX0 hown hK hJ hP hS 6 (by decide) (fl_sI M 6 1 (nI ((f0 + 1) % 64))) rfl rfl 1 (by decide) (hts (.fieldLink RX0 15 "ResampledRows$Draws" "first" "I") (by decide +kernel)) (fun _ h9 => h9) rfl (by decide +kernel) rfl rfl (Nat.le_of_ble_eq_true rfl) rfl (fl_sI_o (fc_loc cI cII ad) _ _ _ _) dX0_next_27 (fun H locs hP hS => ?_)
    refine lv_aload_n hx hb dX0_next_30 rfl (lv_at hl 1 rfl) ?_
    refine lv_dup hx hb dX0_next_31 rfl ?_
    refine va_get (D := D) (ci := 2) (v := .int (M.1 6 2)) (C := RX0) (T := TX0) (N := 4) hx hb hts inX0 hown hK hP 6 (fl_at (by decide) rfl) rfl 2 (by decide) (hts (.fieldLink RX0 19 "ResampledRows$Draws" "left" "I") (by decide +kernel)) (fun _ h9 => h9) rfl dX0_next_32 ?_
    refine fl_ti (y := nI (v :: q).length) h2 ?_
    refine lv_iconst (v := 1) hx hb dX0_next_35 (by decide) ?_
    refine lv_isub hx hb dX0_next_36 ?_
    refine fl_ti (y := nI q.length) (nI_pred _) ?_
    refine fl_put (ci := 2) (ty := .int) (v := .int (nI q.length)) (C := RX0) (T := TX0) (Nf := 4) hx hb hts inX0 tyX0 tyX0_ok nmX0 hown hK hJ hP hS 6 (by decide) (fl_sI (fl_sI M 6 1 (nI ((f0 + 1) % 64))) 6 2 (nI q.length)) rfl rfl 2 (by decide) (hts (.fieldLink RX0 19 "ResampledRows$Draws" "left" "I") (by decide +kernel)) (fun _ h9 => h9) rfl (by decide +kernel) rfl rfl (Nat.le_of_ble_eq_true rfl) rfl (fl_sI_o (fc_loc cI cII ad) _ _ _ _) dX0_next_37 (fun H locs hP hS => ?_)
    refine lv_iload_n hx hb dX0_next_40 rfl (lv_at hl 0 rfl) ?_
    refine lv_i2l (v := (nI v).toInt64) hx hb dX0_next_41 rfl ?_
    refine fl_tl (y := lN v) (nI_l hv0) ?_
    exact W.lret (v := lN v) hx hb hr (fun t ht hW => ⟨⟨lN v, (fl_sI (fl_sI M 6 1 (nI ((f0 + 1) % 64))) 6 2 (nI q.length)), rfl, ⟨rfl, hv0, fc_D_pop hf0 h3 h4 h5, (fl_eq.rf.sI (by decide) _ _).sI (by decide) _ _⟩, fl_qi ht hP⟩, hS.F ht⟩) hS.2.2 dX0_next_42

set_option maxHeartbeats 4000000 in
set_option maxRecDepth 100000 in
theorem c_X0_below (l : Launch) {D : va_G} {cI cJ cII : ClassId} {ad : Nat → Nat} (hJ : fl_inj 62 ad) (M : fl_M) (d : a_D) (k : Nat) (hk0 : 0 < k) (hk : k < 2 ^ 31) (hd : fc_D d M) : Met l yX0_below wsX0_below ({ frames := 1, cells := 0, slots := 0, locals := 21 } : Room) (fcPc D cI cJ cII ad M [.ref (ad 6), .long (lN k)]) (va_Ql (fun r M2 => r = lN ((a_next d).1 % k) ∧ fc_D (a_next d).2 M2 ∧ fl_eq (fun c => c ≠ 6) M M2) (fcQ D cI cII ad) (fl_A 62 ad)) 0 0 (fl_A 62 ad) := by
  refine Met.ofW (cc := cX0_below) (maxL := 3) (ret := (some .long)) (by decide) rfl ?_
  intro p e s m args below meth c s₁ B hml hv
  obtain ⟨rfl, hP, hK, hN⟩ := hv
  have hx := B.exec
  have hb := B.bytes
  have hr := B.returns
  have hts := atoms_spec (ws := wsX0_below) B.pre
  have hown : s.vm.findClass RX0 = some m.cls := findClass_of_methodNamed B.named
  have hlocks := B.notSynchronized
  have hS : va_S (fl_A 62 ad) s.heap s.heap [] := va_S.rf
  have hl := lv_entry ([.ref (ad 6), .long (lN k)] : List Value) (n := 3) (Nat.le_of_ble_eq_true rfl)
  rw [lg_entry_eq]
  generalize (lg_sl ([.ref (ad 6), .long (lN k)] : List Value) ++ List.replicate (3 - (lg_sl ([.ref (ad 6), .long (lN k)] : List Value)).length) Slot.unset).toArray = ls at hl ⊢
  have hl : lv_has ls 3 [(0, .ref (ad 6)), (1, .long (lN k))] := hl
  refine lv_lload_n hx hb dX0_below_0 rfl (lv_at hl 1 rfl) ?_
  refine lv_lconst (v := 0) hx hb dX0_below_1 (by decide) ?_
  refine fl_lle (tgt := 15) hx hb dX0_below_2 dX0_below_3 (by decide) (fun hc2 => ?_) (fun hc2 => ?_)
  · exact absurd ((pk_lLE (b := 0) (by omega) (by decide)).mp hc2) (by omega)
  · refine lv_aload_n hx hb dX0_below_6 rfl (lv_at hl 0 rfl) ?_
    refine va_calll (va_runV (As := []) (rest := []) ⟨hx, hb, hml, hown, hts⟩ (c_X0_next l hJ M d hd) (cwV 0 hts gX0_below_X0_next rfl rfl rfl (by decide +kernel) ⟨Nat.le_of_ble_eq_true rfl, Nat.le_of_ble_eq_true rfl⟩) ⟨fl_blind, va_recv hK hP (ci := 2) (q0 := 6) rfl (fl_at (by decide) rfl), fl_pre hP hK hN⟩ rfl rfl hl.1 rfl (lv_room (Nat.le_of_ble_eq_true rfl)) dX0_below_7 ⟨Nat.le_of_ble_eq_true rfl, Nat.le_of_ble_eq_true rfl⟩) hS (fun _ _ h => h) (fun _ h => h) (fun r7 M7 t H1 locs ht hvm hw hB hz1 hk1 hS => ?_)
    have hP : va_P D vwCl (fcP cI cII ad M7) H1 := by rw [← ht]; exact hB
    clear hB hk1 hz1 hvm ht t
    obtain ⟨rfl, hlt, hd2, he⟩ := hw
    refine lv_lload_n hx hb dX0_below_10 rfl (lv_at hl 1 rfl) ?_
    refine lv_lrem hx hb dX0_below_11 (fun q => absurd ((pk_lEQ (b := 0) (by omega) (by decide)).mp q) (by omega)) ?_
    refine fl_tl (y := lN ((a_next d).1 % k)) (pk_lRem (by omega) hk0 (by omega)) ?_
    refine lv_goto (tgt := 16) hx hb dX0_below_12 (by decide) ?_
    exact W.lret (v := lN ((a_next d).1 % k)) hx hb hr (fun t ht hW => ⟨⟨lN ((a_next d).1 % k), M7, rfl, ⟨rfl, hd2, he⟩, fl_qi ht hP⟩, hS.F ht⟩) hS.2.2 dX0_below_16

set_option maxHeartbeats 4000000 in
set_option maxRecDepth 100000 in
theorem c_X0_byWeights (l : Launch) {D : va_G} {cI cJ cII : ClassId} {ad : Nat → Nat} (hJ : fl_inj 62 ad) (M : fl_M) (d : a_D) (c0 n k : Nat) (w : Nat → Nat) (hc : fc_len c0 = n) (hn : 0 < n) (hk : k ≤ n) (hne : c0 ≠ 6) (hw0 : ∀ j, j < k → M.1 c0 j = nI (w j) ∧ w j < 2 ^ 31) (hT : a_sum w k < 2 ^ 31) (hd : fc_D d M) : Met l yX0_byWeights wsX0_byWeights ({ frames := 2, cells := 0, slots := 0, locals := 43 } : Room) (fcPc D cI cJ cII ad M [.ref (ad 6), .ref (ad c0), .int (nI k)]) (va_Qi (fun r M2 => r = a_oI (a_by w k d).1 (-1000004) ∧ fc_D (a_by w k d).2 M2 ∧ fl_eq (fun c => c ≠ 6) M M2) (fcQ D cI cII ad) (fl_A 62 ad)) 0 0 (fl_A 62 ad) := by
  refine Met.ofW (cc := cX0_byWeights) (maxL := 5) (ret := (some .int)) (by decide) rfl ?_
  intro p e s m args below meth c s₁ B hml hv
  obtain ⟨rfl, hP, hK, hN⟩ := hv
  have hx := B.exec
  have hb := B.bytes
  have hr := B.returns
  have hts := atoms_spec (ws := wsX0_byWeights) B.pre
  have hown : s.vm.findClass RX0 = some m.cls := findClass_of_methodNamed B.named
  have hlocks := B.notSynchronized
  have hS : va_S (fl_A 62 ad) s.heap s.heap [] := va_S.rf
  have hl := lv_entry ([.ref (ad 6), .ref (ad c0), .int (nI k)] : List Value) (n := 5) (Nat.le_of_ble_eq_true rfl)
  rw [lg_entry_eq]
  generalize (lg_sl ([.ref (ad 6), .ref (ad c0), .int (nI k)] : List Value) ++ List.replicate (5 - (lg_sl ([.ref (ad 6), .ref (ad c0), .int (nI k)] : List Value)).length) Slot.unset).toArray = ls at hl ⊢
  have hl : lv_has ls 5 [(0, .ref (ad 6)), (1, .ref (ad c0)), (2, .int (nI k))] := hl
  refine lv_aload_n hx hb dX0_byWeights_0 rfl (lv_at hl 1 rfl) ?_
  refine lv_iload_n hx hb dX0_byWeights_1 rfl (lv_at hl 2 rfl) ?_
  refine va_calll (va_runSN (As := [.ref (ad c0), .int (nI k)]) (rest := []) ⟨hx, hb, hml, hown, hts⟩ (c_X4_sumOf l hJ M c0 n k hc hn hk) ⟨va_cnB 2 hts gX0_byWeights_X4_sumOf_n34 rfl rfl rfl hN.1 (hts (.initialized RX4) (by decide +kernel)) (by decide +kernel) ⟨Nat.le_of_ble_eq_true rfl, Nat.le_of_ble_eq_true rfl⟩, hts (.static yX4_sumOf) (by decide +kernel), trivial⟩ ⟨fl_blind, fl_pre hP hK hN⟩ rfl rfl hl.1 rfl (lv_room (Nat.le_of_ble_eq_true rfl)) dX0_byWeights_2 ⟨Nat.le_of_ble_eq_true rfl, Nat.le_of_ble_eq_true rfl⟩) hS (fun _ _ h => h) (fun _ h => h) (fun r2 M2 t H1 locs ht hvm hw hB hz1 hk1 hS => ?_)
  have hP : va_P D vwCl (fcP cI cII ad M2) H1 := by rw [← ht]; exact hB
  clear hB hk1 hz1 hvm ht t
  obtain ⟨rfl, hE⟩ := hw
  rw [hE] at hP
  refine fl_tl (y := lN (a_sum w k)) (fl_sum_nat k hw0) ?_
  refine lv_lstore_n (lv' := [(3, .long (lN (a_sum w k))), (0, .ref (ad 6)), (1, .ref (ad c0)), (2, .int (nI k))]) hx hb dX0_byWeights_5 rfl hl (by decide) rfl (fun ls hl => ?_)
  refine lv_lload_n hx hb dX0_byWeights_6 rfl (lv_at hl 0 rfl) ?_
  refine lv_lconst (v := 0) hx hb dX0_byWeights_7 (by decide) ?_
  refine fl_lgt (tgt := 15) hx hb dX0_byWeights_8 dX0_byWeights_9 (by decide) (fun hc8 => ?_) (fun hc8 => ?_)
  · have h0 : 0 < a_sum w k := (pk_lLT (a := 0) (by decide) (by omega)).mp hc8
    have hby : a_by w k d = (some (a_first w 1 ((a_next d).1 % a_sum w k) k), (a_next d).2) := if_neg (by omega)
    refine lv_aload_n hx hb dX0_byWeights_15 rfl (lv_at hl 1 rfl) ?_
    refine lv_lload_n hx hb dX0_byWeights_16 rfl (lv_at hl 0 rfl) ?_
    refine va_calll (va_runV (As := [.long (lN (a_sum w k))]) (rest := []) ⟨hx, hb, hml, hown, hts⟩ (c_X0_below l hJ M d (a_sum w k) h0 hT hd) (cwV 1 hts gX0_byWeights_X0_below rfl rfl rfl (by decide +kernel) ⟨Nat.le_of_ble_eq_true rfl, Nat.le_of_ble_eq_true rfl⟩) ⟨fl_blind, va_recv hK hP (ci := 2) (q0 := 6) rfl (fl_at (by decide) rfl), fl_pre hP hK hN⟩ rfl rfl hl.1 rfl (lv_room (Nat.le_of_ble_eq_true rfl)) dX0_byWeights_17 ⟨Nat.le_of_ble_eq_true rfl, Nat.le_of_ble_eq_true rfl⟩) hS (fun _ _ h => h) (fun _ h => h) (fun r17 M17 t H1 locs ht hvm hw hB hz1 hk1 hS => ?_)
    have hP : va_P D vwCl (fcP cI cII ad M17) H1 := by rw [← ht]; exact hB
    clear hB hk1 hz1 hvm ht t
    obtain ⟨rfl, hd2, he⟩ := hw
    have hmod : (a_next d).1 % a_sum w k < a_sum w k := Nat.mod_lt _ h0
    refine lv_lconst (v := 1) hx hb dX0_byWeights_20 (by decide) ?_
    refine lv_aload_n hx hb dX0_byWeights_21 rfl (lv_at hl 2 rfl) ?_
    refine lv_iload_n hx hb dX0_byWeights_22 rfl (lv_at hl 3 rfl) ?_
    refine va_calli (va_runSN (As := [.long (lN ((a_next d).1 % a_sum w k)), .long 1, .ref (ad c0), .int (nI k)]) (rest := []) ⟨hx, hb, hml, hown, hts⟩ (c_X4_firstAbove l hJ M17 c0 n k ((a_next d).1 % a_sum w k) 1 w hc hn hk (fun j hj => by rw [(he c0 hne).1]; exact hw0 j hj) (by omega) (by omega)) ⟨va_cnB 4 hts gX0_byWeights_X4_firstAbove_n43 rfl rfl rfl hN.2.1 (hts (.initialized RX4) (by decide +kernel)) (by decide +kernel) ⟨Nat.le_of_ble_eq_true rfl, Nat.le_of_ble_eq_true rfl⟩, hts (.static yX4_firstAbove) (by decide +kernel), trivial⟩ ⟨fl_blind, fl_pre hP hK hN⟩ rfl rfl hl.1 rfl (lv_room (Nat.le_of_ble_eq_true rfl)) dX0_byWeights_23 ⟨Nat.le_of_ble_eq_true rfl, Nat.le_of_ble_eq_true rfl⟩) hS (fun _ _ h => h) (fun _ h => h) (fun r23 M23 t H1 locs ht hvm hw hB hz1 hk1 hS => ?_)
    have hP : va_P D vwCl (fcP cI cII ad M23) H1 := by rw [← ht]; exact hB
    clear hB hk1 hz1 hvm ht t
    obtain ⟨rfl, hE⟩ := hw
    rw [hE] at hP
    exact W.iret (v := (if (a_next d).1 % a_sum w k < 1 * a_sum w k then nI (a_first w 1 ((a_next d).1 % a_sum w k) k) else -1000004)) hx hb hr (fun t ht hW => ⟨⟨(if (a_next d).1 % a_sum w k < 1 * a_sum w k then nI (a_first w 1 ((a_next d).1 % a_sum w k) k) else -1000004), M17, rfl, ⟨by rw [if_pos (by omega), hby]; rfl, by rw [hby]; exact hd2, he⟩, fl_qi ht hP⟩, hS.F ht⟩) hS.2.2 dX0_byWeights_26
  · have h0 : a_sum w k = 0 := Nat.eq_zero_of_not_pos (fun q => hc8 ((pk_lLT (a := 0) (by decide) (by omega)).mpr q))
    have hby : a_by w k d = (none, d) := if_pos h0
    refine lv_ldc (v := -1000004) hx hb hown (hts (.constant RX0 38 (-1000004)) (by decide +kernel)) dX0_byWeights_12 ?_
    exact W.iret (v := (-1000004)) hx hb hr (fun t ht hW => ⟨⟨(-1000004), M, rfl, ⟨by rw [hby]; rfl, by rw [hby]; exact hd, fl_eq.rf⟩, fl_qi ht hP⟩, hS.F ht⟩) hS.2.2 dX0_byWeights_14
end
section
/-! THE ABSTRACT STATE: tables (starts, moves, sights, names), draws (a_D), run (n, steps, anew, kept, multiplied, states, weights, histories, origins). -/
abbrev a_T : Type := (Nat → Nat) × (Nat → Nat → Nat) × (Nat → Nat → Nat) × (Nat → Nat)
abbrev a_R : Type := Nat × Nat × Nat × Option Nat × UInt64 × (Nat → Nat) × (Nat → Nat) × (Nat → Nat → Nat) × (Nat → Nat)
abbrev r_n (r : a_R) : Nat := r.1
abbrev r_sp (r : a_R) : Nat := r.2.1
abbrev r_an (r : a_R) : Nat := r.2.2.1
abbrev r_kp (r : a_R) : Option Nat := r.2.2.2.1
abbrev r_mu (r : a_R) : UInt64 := r.2.2.2.2.1
abbrev r_st (r : a_R) : Nat → Nat := r.2.2.2.2.2.1
abbrev r_wt (r : a_R) : Nat → Nat := r.2.2.2.2.2.2.1
abbrev r_hi (r : a_R) : Nat → Nat → Nat := r.2.2.2.2.2.2.2.1
abbrev r_og (r : a_R) : Nat → Nat := r.2.2.2.2.2.2.2.2
/-- a row of numbers below B, of which the first n are known -/
def fl_row (f : Nat → Int32) (w : Nat → Nat) (n B : Nat) : Prop := ∀ k, k < n → f k = nI (w k) ∧ w k < B
theorem fl_row.lt {f : Nat → Int32} {w : Nat → Nat} {n B : Nat} (h : fl_row f w n B) {B2 : Nat} (hB : B ≤ B2) : fl_row f w n B2 := fun k hk => ⟨(h k hk).1, Nat.lt_of_lt_of_le (h k hk).2 hB⟩
theorem fl_row.le {f : Nat → Int32} {w : Nat → Nat} {n B : Nat} (h : fl_row f w n B) {n2 : Nat} (hn : n2 ≤ n) : fl_row f w n2 B := fun k hk => h k (Nat.lt_of_lt_of_le hk hn)
theorem fl_row.up {f : Nat → Int32} {w : Nat → Nat} {n B : Nat} (h : fl_row f w n B) {k v : Nat} (hv : v < B) : fl_row (upd f k (nI v)) (fun j => if j = k then v else w j) n B := fun j hj => by
  by_cases e : j = k
  · subst e
    show upd f j (nI v) j = nI (if j = j then v else w j) ∧ (if j = j then v else w j) < B
    rw [pk_us, if_pos rfl]
    exact ⟨rfl, hv⟩
  · show upd f k (nI v) j = nI (if j = k then v else w j) ∧ (if j = k then v else w j) < B
    rw [pk_un e, if_neg e]
    exact h j hj
/-- one place more -/
theorem fl_row.push {f : Nat → Int32} {w : Nat → Nat} {n B : Nat} (h : fl_row f w n B) {v : Nat} (hv : v = w n) (hB : v < B) : fl_row (upd f n (nI v)) w (n + 1) B := fun j hj => by
  by_cases e : j = n
  · subst e
    rw [pk_us]
    exact ⟨by rw [hv], hv ▸ hB⟩
  · rw [pk_un e]
    exact h j (by omega)
def fc_T (t : a_T) (M : fl_M) : Prop := fl_row (M.1 2) t.1 6 10 ∧ (∀ i, i < 6 → fl_row (M.1 (19 + i)) (t.2.1 i) 6 10) ∧ (∀ i, i < 5 → fl_row (M.1 (25 + i)) (t.2.2.1 i) 6 10) ∧ fl_row (M.1 5) t.2.2.2 6 4
theorem fc_T.eq {P : Nat → Prop} {t : a_T} {M M2 : fl_M} (h : fc_T t M) (he : fl_eq P M M2) (hp : ∀ c, c = 2 ∨ c = 5 ∨ (19 ≤ c ∧ c < 30) → P c) : fc_T t M2 := by
  obtain ⟨h1, h2, h3, h4⟩ := h
  refine ⟨?_, fun i hi => ?_, fun i hi => ?_, ?_⟩
  · rw [(he 2 (hp 2 (Or.inl rfl))).1]; exact h1
  · rw [(he (19 + i) (hp _ (Or.inr (Or.inr (by omega))))).1]; exact h2 i hi
  · rw [(he (25 + i) (hp _ (Or.inr (Or.inr (by omega))))).1]; exact h3 i hi
  · rw [(he 5 (hp 5 (Or.inr (Or.inl rfl)))).1]; exact h4
/-- which rows stand behind run's references -/
def fc_sw (r : Nat → Nat) : Prop := ((r 7 = 13 ∧ r 10 = 16) ∨ (r 7 = 16 ∧ r 10 = 13)) ∧ ((r 8 = 14 ∧ r 11 = 17) ∨ (r 8 = 17 ∧ r 11 = 14)) ∧ ((r 9 = 15 ∧ r 12 = 18) ∨ (r 9 = 18 ∧ r 12 = 15))
theorem fc_sw.l7 {r : Nat → Nat} (h : fc_sw r) : fc_len (r 7) = 16 := by rcases h.1 with q | q <;> rw [q.1] <;> rfl
theorem fc_sw.l10 {r : Nat → Nat} (h : fc_sw r) : fc_len (r 10) = 16 := by rcases h.1 with q | q <;> rw [q.2] <;> rfl
theorem fc_sw.l8 {r : Nat → Nat} (h : fc_sw r) : fc_len (r 8) = 16 := by rcases h.2.1 with q | q <;> rw [q.1] <;> rfl
theorem fc_sw.l11 {r : Nat → Nat} (h : fc_sw r) : fc_len (r 11) = 16 := by rcases h.2.1 with q | q <;> rw [q.2] <;> rfl
theorem fc_sw.s1 {r : Nat → Nat} (h : fc_sw r) : (r 7 = 13 ∨ r 7 = 16) ∧ (r 10 = 13 ∨ r 10 = 16) ∧ r 7 ≠ r 10 := by rcases h.1 with q | q <;> omega
theorem fc_sw.s2 {r : Nat → Nat} (h : fc_sw r) : (r 8 = 14 ∨ r 8 = 17) ∧ (r 11 = 14 ∨ r 11 = 17) ∧ r 8 ≠ r 11 := by rcases h.2.1 with q | q <;> omega
theorem fc_sw.s3 {r : Nat → Nat} (h : fc_sw r) : (r 9 = 15 ∨ r 9 = 18) ∧ (r 12 = 15 ∨ r 12 = 18) ∧ r 9 ≠ r 12 := by rcases h.2.2 with q | q <;> omega
def fc_hb (c : Nat) : Nat := if c = 15 then 30 else 46
theorem fc_hb_len {c k : Nat} (hk : k < 16) : fc_len (fc_hb c + k) = 31 := by
  unfold fc_hb
  split
  · unfold fc_len
    rw [if_neg (by omega), if_neg (by omega), if_pos (by omega)]
  · unfold fc_len
    rw [if_neg (by omega), if_neg (by omega), if_pos (by omega)]
theorem fc_row_len {c : Nat} (h1 : 19 ≤ c) (h2 : c < 30) : fc_len c = 6 := by
  unfold fc_len
  rw [if_neg (by omega), if_pos h2]
theorem fc_hat (cI cII : ClassId) (ad : Nat → Nat) (M : fl_M) {c : Nat} (h : c = 15 ∨ c = 18) : (fl_pool (fc_cell cI cII ad) 62 ad M)[c]? = some (ad c, .inl (cII, 16, .inr (.inr (.inr (.inr (fun k => some (ad (fc_hb c + k)))))))) := by
  rcases h with rfl | rfl
  · exact fl_at (by decide) rfl
  · exact fl_at (by decide) rfl
def fc_R (r : a_R) (M : fl_M) : Prop := (r_n r ≤ 16 ∧ M.1 8 2 = nI (r_n r)) ∧ (r_sp r ≤ 30 ∧ M.1 8 3 = nI (r_sp r)) ∧ (r_an r < 2 ^ 30 ∧ M.1 8 4 = nI (r_an r)) ∧ (M.1 8 5 = a_oI (r_kp r) (-1000009) ∧ ∀ k, r_kp r = some k → k < r_n r) ∧ alike64 (M.2.2.1 8) (r_mu r) = true ∧ fc_sw (M.2.2.2 8) ∧ fl_row (M.1 (M.2.2.2 8 7)) (r_st r) (r_n r) 6 ∧ fl_row (M.1 (M.2.2.2 8 8)) (r_wt r) (r_n r) 1000001 ∧ (∀ k, k < r_n r → fl_row (M.1 (fc_hb (M.2.2.2 8 9) + k)) (r_hi r k) (r_sp r + 1) 6) ∧ (r_an r ≠ 0 → fl_row (M.1 12) (r_og r) (r_n r) 16)
theorem fc_R.eq {P : Nat → Prop} {r : a_R} {M M2 : fl_M} (h : fc_R r M) (he : fl_eq P M M2) (hp : ∀ c, (c = 8 ∨ (12 ≤ c ∧ c ≤ 18) ∨ 30 ≤ c) → P c) : fc_R r M2 := by
  obtain ⟨⟨h1, h2⟩, ⟨h3, h4⟩, ⟨h5, h6⟩, ⟨h7, h8⟩, h9, h10, h11, h12, h13, h14⟩ := h
  have e8 := he 8 (hp 8 (Or.inl rfl))
  have e12 := he 12 (hp 12 (Or.inr (Or.inl (by decide))))
  have s1 := h10.s1
  have s2 := h10.s2
  refine ⟨⟨h1, by rw [e8.1]; exact h2⟩, ⟨h3, by rw [e8.1]; exact h4⟩, ⟨h5, by rw [e8.1]; exact h6⟩, ⟨by rw [e8.1]; exact h7, h8⟩, by rw [e8.2.2.1]; exact h9, by rw [e8.2.2.2]; exact h10, ?_, ?_, ?_, ?_⟩
  · rw [e8.2.2.2, (he (M.2.2.2 8 7) (hp _ (Or.inr (Or.inl (by omega))))).1]; exact h11
  · rw [e8.2.2.2, (he (M.2.2.2 8 8) (hp _ (Or.inr (Or.inl (by omega))))).1]; exact h12
  · intro k hk
    have : 30 ≤ fc_hb (M.2.2.2 8 9) + k := by unfold fc_hb; split <;> omega
    rw [e8.2.2.2, (he (fc_hb (M.2.2.2 8 9) + k) (hp _ (Or.inr (Or.inr this)))).1]; exact h13 k hk
  · intro ha
    rw [e12.1]; exact h14 ha
/-- all of the first n -/
def a_all (q : Nat → Bool) : Nat → Bool
  | 0 => true
  | k + 1 => a_all q k && q k
theorem a_all_false {q : Nat → Bool} {i : Nat} (h : q i = false) : ∀ n, i < n → a_all q n = false
  | 0, hn => absurd hn (Nat.not_lt_zero i)
  | n + 1, hn => by
    show (a_all q n && q n) = false
    by_cases e : i = n
    · subst e
      rw [h, Bool.and_false]
    · rw [a_all_false h n (by omega), Bool.false_and]
theorem a_all_true {q : Nat → Bool} : ∀ {n : Nat}, a_all q n = true → ∀ i, i < n → q i = true
  | 0, _, i, hi => absurd hi (Nat.not_lt_zero i)
  | n + 1, h, i, hi => by
    have h2 : (a_all q n && q n) = true := h
    rw [Bool.and_eq_true] at h2
    by_cases e : i = n
    · subst e
      exact h2.2
    · exact a_all_true h2.1 i (by omega)
/-- the first place of k among the first n -/
def a_find (og : Nat → Nat) (k : Nat) : Nat → Option Nat
  | 0 => none
  | n + 1 => match a_find og k n with
    | some i => some i
    | none => if og n = k then some n else none
theorem a_find_none {og : Nat → Nat} {k i : Nat} (h : a_find og k i = none) (hi : og i ≠ k) : a_find og k (i + 1) = none := by
  show (match a_find og k i with | some i => some i | none => if og i = k then some i else none) = none
  rw [h]
  exact if_neg hi
theorem a_find_some {og : Nat → Nat} {k i : Nat} (h : a_find og k i = none) (hi : og i = k) : ∀ n, i + 1 ≤ n → a_find og k n = some i := by
  intro n
  induction n with
  | zero => intro q; omega
  | succ n ih =>
    intro q
    show (match a_find og k n with | some i => some i | none => if og n = k then some n else none) = some i
    rcases Nat.lt_or_ge i n with q2 | q2
    · rw [ih (by omega)]
    · have : n = i := by omega
      subst this
      rw [h]
      exact if_pos hi
theorem a_find_spec {og : Nat → Nat} {k : Nat} : ∀ {n i : Nat}, a_find og k n = some i → i < n ∧ og i = k ∧ a_find og k i = none
  | 0, i, h => nomatch h
  | n + 1, i, h => by
    have h2 : (match a_find og k n with | some i => some i | none => if og n = k then some n else none) = some i := h
    cases hq : a_find og k n with
    | some j =>
      rw [hq] at h2
      have e : j = i := Option.some.inj h2
      subst e
      obtain ⟨a1, a2, a3⟩ := a_find_spec hq
      exact ⟨by omega, a2, a3⟩
    | none =>
      rw [hq] at h2
      by_cases e : og n = k
      · have e2 : n = i := Option.some.inj ((if_pos e).symm.trans h2)
        subst e2
        exact ⟨by omega, e, hq⟩
      · exact absurd ((if_neg e).symm.trans h2) (by intro q; cases q)
theorem a_find_congr {og o2 : Nat → Nat} {k : Nat} : ∀ n, (∀ j, j < n → og j = o2 j) → a_find og k n = a_find o2 k n
  | 0, _ => rfl
  | n + 1, h => by
    show (match a_find og k n with | some i => some i | none => if og n = k then some n else none) = (match a_find o2 k n with | some i => some i | none => if o2 n = k then some n else none)
    rw [a_find_congr n (fun j hj => h j (by omega)), h n (by omega)]
end
section
theorem a_b_pos {o : Option Nat} {j : Nat} (h : o = some j) : a_b o = 1 := by rw [h]; rfl
theorem a_b_neg {o : Option Nat} (h : o = none) : a_b o = 0 := by rw [h]; rfl
theorem fl_oI_ne {o : Option Nat} {k z : Int32} : True := trivial
theorem a_row_sum {f : Nat → Int32} {w : Nat → Nat} {n : Nat} (h : fl_row f w n 1000001) : fl_sum f n = lN (a_sum w n) := fl_sum_nat n (fun j hj => ⟨(h j hj).1, Nat.lt_trans (h j hj).2 (by decide)⟩)
theorem a_row_le {f : Nat → Int32} {w : Nat → Nat} {n B : Nat} (h : fl_row f w n (B + 1)) : a_sum w n ≤ n * B := a_sum_le w n (fun j hj => Nat.le_of_lt_succ (h j hj).2)
theorem fl_sq {x : Int32} {a w : Nat} (h : x = nI w) (hw : w < 2 ^ 31) : lN a + x.toInt64 * x.toInt64 = lN (a + w * w) := by
  rw [h, nI_l hw, lN_mul, lN_add]

set_option maxHeartbeats 4000000 in
set_option maxRecDepth 100000 in
theorem c_X2_isBegun (l : Launch) {D : va_G} {cI cJ cII : ClassId} {ad : Nat → Nat} (hJ : fl_inj 62 ad) (M : fl_M) (n : Nat) (hn : n ≤ 16) (hn1 : M.1 8 2 = nI n) : Met l yX2_isBegun wsX2_isBegun ({ frames := 0, cells := 0, slots := 0, locals := 0 } : Room) (fcPc D cI cJ cII ad M [.ref (ad 8)]) (va_Qi (fun r M2 => r = (if n = 0 then 0 else 1) ∧ M2 = M) (fcQ D cI cII ad) (fl_A 62 ad)) 0 0 (fl_A 62 ad) := by
  refine Met.ofW (cc := cX2_isBegun) (maxL := 1) (ret := (some .boolean)) (by decide) rfl ?_
  intro p e s m args below meth c s₁ B hml hv
  obtain ⟨rfl, hP, hK, hN⟩ := hv
  have hx := B.exec
  have hb := B.bytes
  have hr := B.returns
  have hts := atoms_spec (ws := wsX2_isBegun) B.pre
  have hown : s.vm.findClass RX2 = some m.cls := findClass_of_methodNamed B.named
  have hlocks := B.notSynchronized
  have inX2 : ∀ w ∈ u_ws RX2 TX2 13, w ∈ wsX2_isBegun := by decide +kernel
  have hS : va_S (fl_A 62 ad) s.heap s.heap [] := va_S.rf
  have hl := lv_entry ([.ref (ad 8)] : List Value) (n := 1) (Nat.le_of_ble_eq_true rfl)
  rw [lg_entry_eq]
  generalize (lg_sl ([.ref (ad 8)] : List Value) ++ List.replicate (1 - (lg_sl ([.ref (ad 8)] : List Value)).length) Slot.unset).toArray = ls at hl ⊢
  have hl : lv_has ls 1 [(0, .ref (ad 8))] := hl
  refine lv_aload_n hx hb dX2_isBegun_0 rfl (lv_at hl 0 rfl) ?_
  refine va_get (D := D) (ci := 4) (v := .int (M.1 8 2)) (C := RX2) (T := TX2) (N := 13) hx hb hts inX2 hown hK hP 8 (fl_at (by decide) rfl) rfl 2 (by decide) (hts (.fieldLink RX2 51 "ResampledRows$Run" "n" "I") (by decide +kernel)) (fun _ h9 => h9) rfl dX2_isBegun_1 ?_
  refine fl_ti (y := nI n) hn1 ?_
  refine lv_if_le (tgt := 11) hx hb dX2_isBegun_4 (by decide) (fun hc4 => ?_) (fun hc4 => ?_)
  · have z4 : n = 0 := fl_len0 (by omega) hc4
    refine lv_iconst (v := 0) hx hb dX2_isBegun_11 (by decide) ?_
    exact W.zret (v := 0) (ty := .boolean) hx hb hr rfl (fun t ht hW => ⟨⟨0, M, rfl, ⟨by first | rw [if_pos z4] | rw [if_neg (by omega)], rfl⟩, fl_qi ht hP⟩, hS.F ht⟩) hS.2.2 dX2_isBegun_12
  · have z4 : 0 < n := fl_len1 (by omega) hc4
    refine lv_iconst (v := 1) hx hb dX2_isBegun_7 (by decide) ?_
    refine lv_goto (tgt := 12) hx hb dX2_isBegun_8 (by decide) ?_
    exact W.zret (v := 1) (ty := .boolean) hx hb hr rfl (fun t ht hW => ⟨⟨1, M, rfl, ⟨by first | rw [if_pos z4] | rw [if_neg (by omega)], rfl⟩, fl_qi ht hP⟩, hS.F ht⟩) hS.2.2 dX2_isBegun_12

set_option maxHeartbeats 4000000 in
set_option maxRecDepth 100000 in
theorem c_X2_hasRow (l : Launch) {D : va_G} {cI cJ cII : ClassId} {ad : Nat → Nat} (hJ : fl_inj 62 ad) (M : fl_M) (n : Nat) (x : Int32) (hn : n ≤ 16) (hn1 : M.1 8 2 = nI n) : Met l yX2_hasRow wsX2_hasRow ({ frames := 0, cells := 0, slots := 0, locals := 0 } : Room) (fcPc D cI cJ cII ad M [.ref (ad 8), .int x]) (va_Qi (fun r M2 => r = a_b (a_ix x n) ∧ M2 = M) (fcQ D cI cII ad) (fl_A 62 ad)) 0 0 (fl_A 62 ad) := by
  refine Met.ofW (cc := cX2_hasRow) (maxL := 2) (ret := (some .boolean)) (by decide) rfl ?_
  intro p e s m args below meth c s₁ B hml hv
  obtain ⟨rfl, hP, hK, hN⟩ := hv
  have hx := B.exec
  have hb := B.bytes
  have hr := B.returns
  have hts := atoms_spec (ws := wsX2_hasRow) B.pre
  have hown : s.vm.findClass RX2 = some m.cls := findClass_of_methodNamed B.named
  have hlocks := B.notSynchronized
  have inX2 : ∀ w ∈ u_ws RX2 TX2 13, w ∈ wsX2_hasRow := by decide +kernel
  have hS : va_S (fl_A 62 ad) s.heap s.heap [] := va_S.rf
  have hl := lv_entry ([.ref (ad 8), .int x] : List Value) (n := 2) (Nat.le_of_ble_eq_true rfl)
  rw [lg_entry_eq]
  generalize (lg_sl ([.ref (ad 8), .int x] : List Value) ++ List.replicate (2 - (lg_sl ([.ref (ad 8), .int x] : List Value)).length) Slot.unset).toArray = ls at hl ⊢
  have hl : lv_has ls 2 [(0, .ref (ad 8)), (1, .int x)] := hl
  refine lv_iload_n hx hb dX2_hasRow_0 rfl (lv_at hl 1 rfl) ?_
  refine lv_if_lt (tgt := 16) hx hb dX2_hasRow_1 (by decide) (fun hc1 => ?_) (fun hc1 => ?_)
  · refine lv_iconst (v := 0) hx hb dX2_hasRow_16 (by decide) ?_
    exact W.zret (v := 0) (ty := .boolean) hx hb hr rfl (fun t ht hW => ⟨⟨0, M, rfl, ⟨by first | (rw [a_ix_in (n := n) hc1 hc9 (by omega)]; rfl) | (rw [a_ix_out (n := n) hc9 (by omega)]; rfl) | (rw [a_ix_neg hc1]; rfl), rfl⟩, fl_qi ht hP⟩, hS.F ht⟩) hS.2.2 dX2_hasRow_17
  · refine lv_iload_n hx hb dX2_hasRow_4 rfl (lv_at hl 1 rfl) ?_
    refine lv_aload_n hx hb dX2_hasRow_5 rfl (lv_at hl 0 rfl) ?_
    refine va_get (D := D) (ci := 4) (v := .int (M.1 8 2)) (C := RX2) (T := TX2) (N := 13) hx hb hts inX2 hown hK hP 8 (fl_at (by decide) rfl) rfl 2 (by decide) (hts (.fieldLink RX2 51 "ResampledRows$Run" "n" "I") (by decide +kernel)) (fun _ h9 => h9) rfl dX2_hasRow_6 ?_
    refine fl_ti (y := nI n) hn1 ?_
    refine lv_icmp_ge (tgt := 16) hx hb dX2_hasRow_9 (by decide) (fun hc9 => ?_) (fun hc9 => ?_)
    · refine lv_iconst (v := 0) hx hb dX2_hasRow_16 (by decide) ?_
      exact W.zret (v := 0) (ty := .boolean) hx hb hr rfl (fun t ht hW => ⟨⟨0, M, rfl, ⟨by first | (rw [a_ix_in (n := n) hc1 hc9 (by omega)]; rfl) | (rw [a_ix_out (n := n) hc9 (by omega)]; rfl) | (rw [a_ix_neg hc1]; rfl), rfl⟩, fl_qi ht hP⟩, hS.F ht⟩) hS.2.2 dX2_hasRow_17
    · refine lv_iconst (v := 1) hx hb dX2_hasRow_12 (by decide) ?_
      refine lv_goto (tgt := 17) hx hb dX2_hasRow_13 (by decide) ?_
      exact W.zret (v := 1) (ty := .boolean) hx hb hr rfl (fun t ht hW => ⟨⟨1, M, rfl, ⟨by first | (rw [a_ix_in (n := n) hc1 hc9 (by omega)]; rfl) | (rw [a_ix_out (n := n) hc9 (by omega)]; rfl) | (rw [a_ix_neg hc1]; rfl), rfl⟩, fl_qi ht hP⟩, hS.F ht⟩) hS.2.2 dX2_hasRow_17

set_option maxHeartbeats 4000000 in
set_option maxRecDepth 100000 in
theorem c_X2_places (l : Launch) {D : va_G} {cI cJ cII : ClassId} {ad : Nat → Nat} (hJ : fl_inj 62 ad) (M : fl_M) (sp : Nat) (hs : sp ≤ 30) (hs1 : M.1 8 3 = nI sp) : Met l yX2_places wsX2_places ({ frames := 0, cells := 0, slots := 0, locals := 0 } : Room) (fcPc D cI cJ cII ad M [.ref (ad 8)]) (va_Qi (fun r M2 => r = nI (sp + 1) ∧ M2 = M) (fcQ D cI cII ad) (fl_A 62 ad)) 0 0 (fl_A 62 ad) := by
  refine Met.ofW (cc := cX2_places) (maxL := 1) (ret := (some .int)) (by decide) rfl ?_
  intro p e s m args below meth c s₁ B hml hv
  obtain ⟨rfl, hP, hK, hN⟩ := hv
  have hx := B.exec
  have hb := B.bytes
  have hr := B.returns
  have hts := atoms_spec (ws := wsX2_places) B.pre
  have hown : s.vm.findClass RX2 = some m.cls := findClass_of_methodNamed B.named
  have hlocks := B.notSynchronized
  have inX2 : ∀ w ∈ u_ws RX2 TX2 13, w ∈ wsX2_places := by decide +kernel
  have hS : va_S (fl_A 62 ad) s.heap s.heap [] := va_S.rf
  have hl := lv_entry ([.ref (ad 8)] : List Value) (n := 1) (Nat.le_of_ble_eq_true rfl)
  rw [lg_entry_eq]
  generalize (lg_sl ([.ref (ad 8)] : List Value) ++ List.replicate (1 - (lg_sl ([.ref (ad 8)] : List Value)).length) Slot.unset).toArray = ls at hl ⊢
  have hl : lv_has ls 1 [(0, .ref (ad 8))] := hl
  refine lv_aload_n hx hb dX2_places_0 rfl (lv_at hl 0 rfl) ?_
  refine va_get (D := D) (ci := 4) (v := .int (M.1 8 3)) (C := RX2) (T := TX2) (N := 13) hx hb hts inX2 hown hK hP 8 (fl_at (by decide) rfl) rfl 3 (by decide) (hts (.fieldLink RX2 54 "ResampledRows$Run" "steps" "I") (by decide +kernel)) (fun _ h9 => h9) rfl dX2_places_1 ?_
  refine fl_ti (y := nI sp) hs1 ?_
  refine lv_iconst (v := 1) hx hb dX2_places_4 (by decide) ?_
  refine lv_iadd hx hb dX2_places_5 ?_
  refine fl_ti (y := nI (sp + 1)) (nI_1 sp) ?_
  exact W.iret (v := nI (sp + 1)) hx hb hr (fun t ht hW => ⟨⟨nI (sp + 1), M, rfl, ⟨rfl, rfl⟩, fl_qi ht hP⟩, hS.F ht⟩) hS.2.2 dX2_places_6

set_option maxHeartbeats 4000000 in
set_option maxRecDepth 100000 in
theorem c_X2_hasPlace (l : Launch) {D : va_G} {cI cJ cII : ClassId} {ad : Nat → Nat} (hJ : fl_inj 62 ad) (M : fl_M) (sp : Nat) (x : Int32) (hs : sp ≤ 30) (hs1 : M.1 8 3 = nI sp) : Met l yX2_hasPlace wsX2_hasPlace ({ frames := 1, cells := 0, slots := 0, locals := 20 } : Room) (fcPc D cI cJ cII ad M [.ref (ad 8), .int x]) (va_Qi (fun r M2 => r = a_b (a_ix x (sp + 1)) ∧ M2 = M) (fcQ D cI cII ad) (fl_A 62 ad)) 0 0 (fl_A 62 ad) := by
  refine Met.ofW (cc := cX2_hasPlace) (maxL := 2) (ret := (some .boolean)) (by decide) rfl ?_
  intro p e s m args below meth c s₁ B hml hv
  obtain ⟨rfl, hP, hK, hN⟩ := hv
  have hx := B.exec
  have hb := B.bytes
  have hr := B.returns
  have hts := atoms_spec (ws := wsX2_hasPlace) B.pre
  have hown : s.vm.findClass RX2 = some m.cls := findClass_of_methodNamed B.named
  have hlocks := B.notSynchronized
  have hS : va_S (fl_A 62 ad) s.heap s.heap [] := va_S.rf
  have hl := lv_entry ([.ref (ad 8), .int x] : List Value) (n := 2) (Nat.le_of_ble_eq_true rfl)
  rw [lg_entry_eq]
  generalize (lg_sl ([.ref (ad 8), .int x] : List Value) ++ List.replicate (2 - (lg_sl ([.ref (ad 8), .int x] : List Value)).length) Slot.unset).toArray = ls at hl ⊢
  have hl : lv_has ls 2 [(0, .ref (ad 8)), (1, .int x)] := hl
  refine lv_iload_n hx hb dX2_hasPlace_0 rfl (lv_at hl 1 rfl) ?_
  refine lv_if_lt (tgt := 16) hx hb dX2_hasPlace_1 (by decide) (fun hc1 => ?_) (fun hc1 => ?_)
  · refine lv_iconst (v := 0) hx hb dX2_hasPlace_16 (by decide) ?_
    exact W.zret (v := 0) (ty := .boolean) hx hb hr rfl (fun t ht hW => ⟨⟨0, M, rfl, ⟨by first | (rw [a_ix_in (n := sp + 1) hc1 hc9 (by omega)]; rfl) | (rw [a_ix_out (n := sp + 1) hc9 (by omega)]; rfl) | (rw [a_ix_neg hc1]; rfl), rfl⟩, fl_qi ht hP⟩, hS.F ht⟩) hS.2.2 dX2_hasPlace_17
  · refine lv_iload_n hx hb dX2_hasPlace_4 rfl (lv_at hl 1 rfl) ?_
    refine lv_aload_n hx hb dX2_hasPlace_5 rfl (lv_at hl 0 rfl) ?_
    refine va_calli (va_runV (As := []) (rest := [.int x]) ⟨hx, hb, hml, hown, hts⟩ (c_X2_places l hJ M sp hs hs1) (cwV 0 hts gX2_hasPlace_X2_places rfl rfl rfl (by decide +kernel) ⟨Nat.le_of_ble_eq_true rfl, Nat.le_of_ble_eq_true rfl⟩) ⟨fl_blind, va_recv hK hP (ci := 4) (q0 := 8) rfl (fl_at (by decide) rfl), fl_pre hP hK hN⟩ rfl rfl hl.1 rfl (lv_room (Nat.le_of_ble_eq_true rfl)) dX2_hasPlace_6 ⟨Nat.le_of_ble_eq_true rfl, Nat.le_of_ble_eq_true rfl⟩) hS (fun _ _ h => h) (fun _ h => h) (fun r6 M6 t H1 locs ht hvm hw hB hz1 hk1 hS => ?_)
    have hP : va_P D vwCl (fcP cI cII ad M6) H1 := by rw [← ht]; exact hB
    clear hB hk1 hz1 hvm ht t
    obtain ⟨rfl, hE⟩ := hw
    rw [hE] at hP
    refine lv_icmp_ge (tgt := 16) hx hb dX2_hasPlace_9 (by decide) (fun hc9 => ?_) (fun hc9 => ?_)
    · refine lv_iconst (v := 0) hx hb dX2_hasPlace_16 (by decide) ?_
      exact W.zret (v := 0) (ty := .boolean) hx hb hr rfl (fun t ht hW => ⟨⟨0, M, rfl, ⟨by first | (rw [a_ix_in (n := sp + 1) hc1 hc9 (by omega)]; rfl) | (rw [a_ix_out (n := sp + 1) hc9 (by omega)]; rfl) | (rw [a_ix_neg hc1]; rfl), rfl⟩, fl_qi ht hP⟩, hS.F ht⟩) hS.2.2 dX2_hasPlace_17
    · refine lv_iconst (v := 1) hx hb dX2_hasPlace_12 (by decide) ?_
      refine lv_goto (tgt := 17) hx hb dX2_hasPlace_13 (by decide) ?_
      exact W.zret (v := 1) (ty := .boolean) hx hb hr rfl (fun t ht hW => ⟨⟨1, M, rfl, ⟨by first | (rw [a_ix_in (n := sp + 1) hc1 hc9 (by omega)]; rfl) | (rw [a_ix_out (n := sp + 1) hc9 (by omega)]; rfl) | (rw [a_ix_neg hc1]; rfl), rfl⟩, fl_qi ht hP⟩, hS.F ht⟩) hS.2.2 dX2_hasPlace_17

set_option maxHeartbeats 4000000 in
set_option maxRecDepth 100000 in
theorem c_X2_end (l : Launch) {D : va_G} {cI cJ cII : ClassId} {ad : Nat → Nat} (hJ : fl_inj 62 ad) (M : fl_M) : Met l yX2_end wsX2_end ({ frames := 0, cells := 0, slots := 0, locals := 0 } : Room) (fcPc D cI cJ cII ad M [.ref (ad 8)]) (va_Qv (fun M2 => M2 = fl_sG (fl_sI (fl_sI (fl_sI (fl_sI M 8 2 0) 8 3 0) 8 4 0) 8 5 (-1000009)) 8 FP.dconst1) (fcQ D cI cII ad) (fl_A 62 ad)) 0 0 (fl_A 62 ad) := by
  refine Met.ofW (cc := cX2_end) (maxL := 1) (ret := none) (by decide) rfl ?_
  intro p e s m args below meth c s₁ B hml hv
  obtain ⟨rfl, hP, hK, hN⟩ := hv
  have hx := B.exec
  have hb := B.bytes
  have hr := B.returns
  have hts := atoms_spec (ws := wsX2_end) B.pre
  have hown : s.vm.findClass RX2 = some m.cls := findClass_of_methodNamed B.named
  have hlocks := B.notSynchronized
  have inX2 : ∀ w ∈ u_ws RX2 TX2 13, w ∈ wsX2_end := by decide +kernel
  have hS : va_S (fl_A 62 ad) s.heap s.heap [] := va_S.rf
  have hl := lv_entry ([.ref (ad 8)] : List Value) (n := 1) (Nat.le_of_ble_eq_true rfl)
  rw [lg_entry_eq]
  generalize (lg_sl ([.ref (ad 8)] : List Value) ++ List.replicate (1 - (lg_sl ([.ref (ad 8)] : List Value)).length) Slot.unset).toArray = ls at hl ⊢
  have hl : lv_has ls 1 [(0, .ref (ad 8))] := hl
  refine lv_aload_n hx hb dX2_end_0 rfl (lv_at hl 0 rfl) ?_
  refine lv_iconst (v := 0) hx hb dX2_end_1 (by decide) ?_
  refine fl_put (ci := 4) (ty := .int) (v := .int 0) (C := RX2) (T := TX2) (Nf := 13) hx hb hts inX2 tyX2 tyX2_ok nmX2 hown hK hJ hP hS 8 (by decide) (fl_sI M 8 2 0) rfl rfl 2 (by decide) (hts (.fieldLink RX2 51 "ResampledRows$Run" "n" "I") (by decide +kernel)) (fun _ h9 => h9) rfl (by decide +kernel) rfl rfl (Nat.le_of_ble_eq_true rfl) rfl (fl_sI_o (fc_loc cI cII ad) _ _ _ _) dX2_end_2 (fun H locs hP hS => ?_)
  refine lv_aload_n hx hb dX2_end_5 rfl (lv_at hl 0 rfl) ?_
  refine lv_iconst (v := 0) hx hb dX2_end_6 (by decide) ?_
  refine fl_put (ci := 4) (ty := .int) (v := .int 0) (C := RX2) (T := TX2) (Nf := 13) hx hb hts inX2 tyX2 tyX2_ok nmX2 hown hK hJ hP hS 8 (by decide) (fl_sI (fl_sI M 8 2 0) 8 3 0) rfl rfl 3 (by decide) (hts (.fieldLink RX2 54 "ResampledRows$Run" "steps" "I") (by decide +kernel)) (fun _ h9 => h9) rfl (by decide +kernel) rfl rfl (Nat.le_of_ble_eq_true rfl) rfl (fl_sI_o (fc_loc cI cII ad) _ _ _ _) dX2_end_7 (fun H locs hP hS => ?_)
  refine lv_aload_n hx hb dX2_end_10 rfl (lv_at hl 0 rfl) ?_
  refine lv_iconst (v := 0) hx hb dX2_end_11 (by decide) ?_
  refine fl_put (ci := 4) (ty := .int) (v := .int 0) (C := RX2) (T := TX2) (Nf := 13) hx hb hts inX2 tyX2 tyX2_ok nmX2 hown hK hJ hP hS 8 (by decide) (fl_sI (fl_sI (fl_sI M 8 2 0) 8 3 0) 8 4 0) rfl rfl 4 (by decide) (hts (.fieldLink RX2 61 "ResampledRows$Run" "timesAnew" "I") (by decide +kernel)) (fun _ h9 => h9) rfl (by decide +kernel) rfl rfl (Nat.le_of_ble_eq_true rfl) rfl (fl_sI_o (fc_loc cI cII ad) _ _ _ _) dX2_end_12 (fun H locs hP hS => ?_)
  refine lv_aload_n hx hb dX2_end_15 rfl (lv_at hl 0 rfl) ?_
  refine lv_ldc (v := -1000009) hx hb hown (hts (.constant RX2 22 (-1000009)) (by decide +kernel)) dX2_end_16 ?_
  refine fl_put (ci := 4) (ty := .int) (v := .int (-1000009)) (C := RX2) (T := TX2) (Nf := 13) hx hb hts inX2 tyX2 tyX2_ok nmX2 hown hK hJ hP hS 8 (by decide) (fl_sI (fl_sI (fl_sI (fl_sI M 8 2 0) 8 3 0) 8 4 0) 8 5 (-1000009)) rfl rfl 5 (by decide) (hts (.fieldLink RX2 23 "ResampledRows$Run" "kept" "I") (by decide +kernel)) (fun _ h9 => h9) rfl (by decide +kernel) rfl rfl (Nat.le_of_ble_eq_true rfl) rfl (fl_sI_o (fc_loc cI cII ad) _ _ _ _) dX2_end_18 (fun H locs hP hS => ?_)
  refine lv_aload_n hx hb dX2_end_21 rfl (lv_at hl 0 rfl) ?_
  refine lv_dconst1 hx hb dX2_end_22 ?_
  refine fl_put (ci := 4) (ty := .double) (v := .double FP.dconst1) (C := RX2) (T := TX2) (Nf := 13) hx hb hts inX2 tyX2 tyX2_ok nmX2 hown hK hJ hP hS 8 (by decide) (fl_sG (fl_sI (fl_sI (fl_sI (fl_sI M 8 2 0) 8 3 0) 8 4 0) 8 5 (-1000009)) 8 FP.dconst1) rfl rfl 6 (by decide) (hts (.fieldLink RX2 27 "ResampledRows$Run" "multiplied" "D") (by decide +kernel)) (fun _ h9 => h9) rfl (by decide +kernel) rfl rfl (Nat.le_of_ble_eq_true rfl) rfl (fl_sG_o (fc_loc cI cII ad) _ _ _) dX2_end_23 (fun H locs hP hS => ?_)
  exact W.vret hx hb hr (fun t ht hW => ⟨⟨(fl_sG (fl_sI (fl_sI (fl_sI (fl_sI M 8 2 0) 8 3 0) 8 4 0) 8 5 (-1000009)) 8 FP.dconst1), rfl, rfl, fl_qi ht hP⟩, hS.F ht⟩) hS.2.2 dX2_end_26

set_option maxHeartbeats 4000000 in
set_option maxRecDepth 100000 in
theorem c_X2_standsAt (l : Launch) {D : va_G} {cI cJ cII : ClassId} {ad : Nat → Nat} (hJ : fl_inj 62 ad) (M : fl_M) (n j : Nat) (st nm : Nat → Nat) (hn : n ≤ 16) (hn1 : M.1 8 2 = nI n) (hj : j < 2 ^ 31) (hs7 : fc_len (M.2.2.2 8 7) = 16) (hst : fl_row (M.1 (M.2.2.2 8 7)) st n 6) (hnm : fl_row (M.1 5) nm 6 4) : Met l yX2_standsAt wsX2_standsAt ({ frames := 0, cells := 0, slots := 0, locals := 0 } : Room) (fcPc D cI cJ cII ad M [.ref (ad 8), .int (nI j), .ref (ad 5)]) (va_Qi (fun r M2 => r = (if a_all (fun k => nm (st k) == j) n = true then 1 else 0) ∧ M2 = M) (fcQ D cI cII ad) (fl_A 62 ad)) 0 0 (fl_A 62 ad) := by
  refine Met.ofW (cc := cX2_standsAt) (maxL := 4) (ret := (some .boolean)) (by decide) rfl ?_
  intro p e s m args below meth c s₁ B hml hv
  obtain ⟨rfl, hP, hK, hN⟩ := hv
  have hx := B.exec
  have hb := B.bytes
  have hr := B.returns
  have hts := atoms_spec (ws := wsX2_standsAt) B.pre
  have hown : s.vm.findClass RX2 = some m.cls := findClass_of_methodNamed B.named
  have hlocks := B.notSynchronized
  have inX2 : ∀ w ∈ u_ws RX2 TX2 13, w ∈ wsX2_standsAt := by decide +kernel
  have hS : va_S (fl_A 62 ad) s.heap s.heap [] := va_S.rf
  have hl := lv_entry ([.ref (ad 8), .int (nI j), .ref (ad 5)] : List Value) (n := 4) (Nat.le_of_ble_eq_true rfl)
  rw [lg_entry_eq]
  generalize (lg_sl ([.ref (ad 8), .int (nI j), .ref (ad 5)] : List Value) ++ List.replicate (4 - (lg_sl ([.ref (ad 8), .int (nI j), .ref (ad 5)] : List Value)).length) Slot.unset).toArray = ls at hl ⊢
  have hl : lv_has ls 4 [(0, .ref (ad 8)), (1, .int (nI j)), (2, .ref (ad 5))] := hl
  refine lv_iconst (v := 0) hx hb dX2_standsAt_0 (by decide) ?_
  refine lv_istore_n (lv' := [(3, .int 0), (0, .ref (ad 8)), (1, .int (nI j)), (2, .ref (ad 5))]) hx hb dX2_standsAt_1 rfl hl (by decide) rfl (fun ls hl => ?_)
  suffices KL2 : ∀ (f : Nat) (i : Nat) (hi : i ≤ n) (ha : a_all (fun k => nm (st k) == j) i = true) (hf : n + 1 ≤ i + f), ∀ (H : Heap) (locs : List Loc), va_P D vwCl (fcP cI cII ad M) H → va_S (fl_A 62 ad) s.heap H locs → ∀ (ls : Array Slot), lv_has ls 4 [(0, .ref (ad 8)), (1, .int (nI j)), (2, .ref (ad 5)), (3, .int (nI i))] → W p l e (headSpec wsX2_standsAt ({ frames := 0, cells := 0, slots := 0, locals := 0 } : Room)).room s m ([.ref (ad 8), .int (nI j), .ref (ad 5)] : List Value).toArray below meth c H locs 0 0 (MQ below (va_Qi (fun r M2 => r = (if a_all (fun k => nm (st k) == j) n = true then 1 else 0) ∧ M2 = M) (fcQ D cI cII ad) (fl_A 62 ad)) ([.ref (ad 8), .int (nI j), .ref (ad 5)] : List Value).toArray s 0 0 (fl_A 62 ad)) (F0 m 2 ls []) from KL2 (n + 1) 0 (Nat.zero_le n) rfl (by omega) _ _ hP hS ls (lv_sub hl [1, 2, 3, 0] rfl)
  intro f
  induction f with
  | zero =>
    intro i hi ha hf
    omega
  | succ f ih2 =>
    intro i hi ha hf H locs hP hS ls hl
    refine lv_iload_n hx hb dX2_standsAt_2 rfl (lv_at hl 3 rfl) ?_
    refine lv_aload_n hx hb dX2_standsAt_3 rfl (lv_at hl 0 rfl) ?_
    refine va_get (D := D) (ci := 4) (v := .int (M.1 8 2)) (C := RX2) (T := TX2) (N := 13) hx hb hts inX2 hown hK hP 8 (fl_at (by decide) rfl) rfl 2 (by decide) (hts (.fieldLink RX2 51 "ResampledRows$Run" "n" "I") (by decide +kernel)) (fun _ h9 => h9) rfl dX2_standsAt_4 ?_
    refine fl_ti (y := nI n) hn1 ?_
    refine lv_icmp_ge (tgt := 30) hx hb dX2_standsAt_7 (by decide) (fun hc7 => ?_) (fun hc7 => ?_)
    · have e7 : i = n := Nat.le_antisymm hi ((nI_leI (by omega) (by omega)).mp hc7)
      refine lv_iconst (v := 1) hx hb dX2_standsAt_30 (by decide) ?_
      exact W.zret (v := 1) (ty := .boolean) hx hb hr rfl (fun t ht hW => ⟨⟨1, M, rfl, ⟨by rw [if_pos (e7 ▸ ha)], rfl⟩, fl_qi ht hP⟩, hS.F ht⟩) hS.2.2 dX2_standsAt_31
    · have l7 : i < n := Nat.lt_of_not_le (fun q => hc7 ((nI_leI (by omega) (by omega)).mpr q))
      refine lv_aload_n hx hb dX2_standsAt_10 rfl (lv_at hl 2 rfl) ?_
      refine lv_aload_n hx hb dX2_standsAt_11 rfl (lv_at hl 0 rfl) ?_
      refine va_get (D := D) (ci := 4) (v := .ref (ad (M.2.2.2 8 7))) (C := RX2) (T := TX2) (N := 13) hx hb hts inX2 hown hK hP 8 (fl_at (by decide) rfl) rfl 7 (by decide) (hts (.fieldLink RX2 31 "ResampledRows$Run" "states" "[I") (by decide +kernel)) (fun _ h9 => h9) rfl dX2_standsAt_12 ?_
      refine lv_iload_n hx hb dX2_standsAt_15 rfl (lv_at hl 3 rfl) ?_
      refine fl_ild (n := 16) (k := i) hx hb hK hP (fc_a cI cII ad _ hs7 (by decide)) rfl rfl (by omega) (by decide) dX2_standsAt_16 ?_
      refine fl_ti (y := nI (st i)) ((hst i l7).1) ?_
      refine fl_ild (n := 6) (k := (st i)) hx hb hK hP (fc_a cI cII ad _ rfl (by decide)) rfl rfl ((hst i l7).2) (by decide) dX2_standsAt_17 ?_
      refine fl_ti (y := nI (nm (st i))) ((hnm _ (hst i l7).2).1) ?_
      refine lv_iload_n hx hb dX2_standsAt_18 rfl (lv_at hl 1 rfl) ?_
      refine lv_icmp_eq (tgt := 24) hx hb dX2_standsAt_19 (by decide) (fun hc19 => ?_) (fun hc19 => ?_)
      · have g19 : nm (st i) = j := (nI_eq (by have := (hnm _ (hst i l7).2).2; omega) hj).mp hc19
        refine lv_iinc (v := nI (i + 1)) (lv' := [(3, .int (nI (i + 1))), (0, .ref (ad 8)), (1, .int (nI j)), (2, .ref (ad 5))]) hx hb dX2_standsAt_24 hl (k := 3) rfl (fl_inc i) (by decide) rfl (fun ls hl => ?_)
        refine lv_goto (tgt := 2) hx hb dX2_standsAt_27 (by decide) ?_
        exact ih2 (i + 1) (by omega) (by show (a_all _ i && _) = true; rw [ha, Bool.true_and]; exact beq_iff_eq.mpr g19) (by omega) _ _ hP hS ls (lv_sub hl [1, 2, 3, 0] rfl)
      · have g19 : ¬ nm (st i) = j := fun q => hc19 (by rw [q])
        refine lv_iconst (v := 0) hx hb dX2_standsAt_22 (by decide) ?_
        exact W.zret (v := 0) (ty := .boolean) hx hb hr rfl (fun t ht hW => ⟨⟨0, M, rfl, ⟨by rw [if_neg]; rw [a_all_false (q := fun k => nm (st k) == j) (i := i) (beq_false_of_ne g19) n l7]; decide, rfl⟩, fl_qi ht hP⟩, hS.F ht⟩) hS.2.2 dX2_standsAt_23

set_option maxHeartbeats 4000000 in
set_option maxRecDepth 100000 in
theorem c_X2_total (l : Launch) {D : va_G} {cI cJ cII : ClassId} {ad : Nat → Nat} (hJ : fl_inj 62 ad) (M : fl_M) (n : Nat) (w : Nat → Nat) (hn : n ≤ 16) (hn1 : M.1 8 2 = nI n) (hw8 : fc_len (M.2.2.2 8 8) = 16) (hw : fl_row (M.1 (M.2.2.2 8 8)) w n 1000001) : Met l yX2_total wsX2_total ({ frames := 1, cells := 0, slots := 0, locals := 24 } : Room) (fcPc D cI cJ cII ad M [.ref (ad 8)]) (va_Ql (fun r M2 => r = lN (a_sum w n) ∧ M2 = M) (fcQ D cI cII ad) (fl_A 62 ad)) 0 0 (fl_A 62 ad) := by
  refine Met.ofW (cc := cX2_total) (maxL := 1) (ret := (some .long)) (by decide) rfl ?_
  intro p e s m args below meth c s₁ B hml hv
  obtain ⟨rfl, hP, hK, hN⟩ := hv
  have hx := B.exec
  have hb := B.bytes
  have hr := B.returns
  have hts := atoms_spec (ws := wsX2_total) B.pre
  have hown : s.vm.findClass RX2 = some m.cls := findClass_of_methodNamed B.named
  have hlocks := B.notSynchronized
  have inX2 : ∀ w ∈ u_ws RX2 TX2 13, w ∈ wsX2_total := by decide +kernel
  have hS : va_S (fl_A 62 ad) s.heap s.heap [] := va_S.rf
  have hl := lv_entry ([.ref (ad 8)] : List Value) (n := 1) (Nat.le_of_ble_eq_true rfl)
  rw [lg_entry_eq]
  generalize (lg_sl ([.ref (ad 8)] : List Value) ++ List.replicate (1 - (lg_sl ([.ref (ad 8)] : List Value)).length) Slot.unset).toArray = ls at hl ⊢
  have hl : lv_has ls 1 [(0, .ref (ad 8))] := hl
  have hw0 := hw
  refine lv_aload_n hx hb dX2_total_0 rfl (lv_at hl 0 rfl) ?_
  refine va_get (D := D) (ci := 4) (v := .ref (ad (M.2.2.2 8 8))) (C := RX2) (T := TX2) (N := 13) hx hb hts inX2 hown hK hP 8 (fl_at (by decide) rfl) rfl 8 (by decide) (hts (.fieldLink RX2 34 "ResampledRows$Run" "weights" "[I") (by decide +kernel)) (fun _ h9 => h9) rfl dX2_total_1 ?_
  refine lv_aload_n hx hb dX2_total_4 rfl (lv_at hl 0 rfl) ?_
  refine va_get (D := D) (ci := 4) (v := .int (M.1 8 2)) (C := RX2) (T := TX2) (N := 13) hx hb hts inX2 hown hK hP 8 (fl_at (by decide) rfl) rfl 2 (by decide) (hts (.fieldLink RX2 51 "ResampledRows$Run" "n" "I") (by decide +kernel)) (fun _ h9 => h9) rfl dX2_total_5 ?_
  refine fl_ti (y := nI n) hn1 ?_
  refine va_calll (va_runSN (As := [.ref (ad (M.2.2.2 8 8)), .int (nI n)]) (rest := []) ⟨hx, hb, hml, hown, hts⟩ (c_X4_sumOf l hJ M _ 16 n hw8 (by decide) hn) ⟨va_cnB 2 hts gX2_total_X4_sumOf_n79 rfl rfl rfl hN.2.2.2 (hts (.initialized RX4) (by decide +kernel)) (by decide +kernel) ⟨Nat.le_of_ble_eq_true rfl, Nat.le_of_ble_eq_true rfl⟩, hts (.static yX4_sumOf) (by decide +kernel), trivial⟩ ⟨fl_blind, fl_pre hP hK hN⟩ rfl rfl hl.1 rfl (lv_room (Nat.le_of_ble_eq_true rfl)) dX2_total_8 ⟨Nat.le_of_ble_eq_true rfl, Nat.le_of_ble_eq_true rfl⟩) hS (fun _ _ h => h) (fun _ h => h) (fun r8 M8 t H1 locs ht hvm hw hB hz1 hk1 hS => ?_)
  have hP : va_P D vwCl (fcP cI cII ad M8) H1 := by rw [← ht]; exact hB
  clear hB hk1 hz1 hvm ht t
  obtain ⟨rfl, hE⟩ := hw
  rw [hE] at hP
  refine fl_tl (y := lN (a_sum w n)) (a_row_sum hw0) ?_
  exact W.lret (v := lN (a_sum w n)) hx hb hr (fun t ht hW => ⟨⟨lN (a_sum w n), M, rfl, ⟨rfl, rfl⟩, fl_qi ht hP⟩, hS.F ht⟩) hS.2.2 dX2_total_11

set_option maxHeartbeats 4000000 in
set_option maxRecDepth 100000 in
theorem c_X2_squares (l : Launch) {D : va_G} {cI cJ cII : ClassId} {ad : Nat → Nat} (hJ : fl_inj 62 ad) (M : fl_M) (n : Nat) (w : Nat → Nat) (hn : n ≤ 16) (hn1 : M.1 8 2 = nI n) (hw8 : fc_len (M.2.2.2 8 8) = 16) (hw : fl_row (M.1 (M.2.2.2 8 8)) w n 1000001) : Met l yX2_squares wsX2_squares ({ frames := 0, cells := 0, slots := 0, locals := 0 } : Room) (fcPc D cI cJ cII ad M [.ref (ad 8)]) (va_Ql (fun r M2 => r = lN (a_sum (fun k => w k * w k) n) ∧ M2 = M) (fcQ D cI cII ad) (fl_A 62 ad)) 0 0 (fl_A 62 ad) := by
  refine Met.ofW (cc := cX2_squares) (maxL := 4) (ret := (some .long)) (by decide) rfl ?_
  intro p e s m args below meth c s₁ B hml hv
  obtain ⟨rfl, hP, hK, hN⟩ := hv
  have hx := B.exec
  have hb := B.bytes
  have hr := B.returns
  have hts := atoms_spec (ws := wsX2_squares) B.pre
  have hown : s.vm.findClass RX2 = some m.cls := findClass_of_methodNamed B.named
  have hlocks := B.notSynchronized
  have inX2 : ∀ w ∈ u_ws RX2 TX2 13, w ∈ wsX2_squares := by decide +kernel
  have hS : va_S (fl_A 62 ad) s.heap s.heap [] := va_S.rf
  have hl := lv_entry ([.ref (ad 8)] : List Value) (n := 4) (Nat.le_of_ble_eq_true rfl)
  rw [lg_entry_eq]
  generalize (lg_sl ([.ref (ad 8)] : List Value) ++ List.replicate (4 - (lg_sl ([.ref (ad 8)] : List Value)).length) Slot.unset).toArray = ls at hl ⊢
  have hl : lv_has ls 4 [(0, .ref (ad 8))] := hl
  refine lv_lconst (v := 0) hx hb dX2_squares_0 (by decide) ?_
  refine lv_lstore_n (lv' := [(1, .long 0), (0, .ref (ad 8))]) hx hb dX2_squares_1 rfl hl (by decide) rfl (fun ls hl => ?_)
  refine lv_iconst (v := 0) hx hb dX2_squares_2 (by decide) ?_
  refine lv_istore_n (lv' := [(3, .int 0), (1, .long 0), (0, .ref (ad 8))]) hx hb dX2_squares_3 rfl hl (by decide) rfl (fun ls hl => ?_)
  suffices KL4 : ∀ (f : Nat) (i : Nat) (hi : i ≤ n) (hf : n + 1 ≤ i + f), ∀ (H : Heap) (locs : List Loc), va_P D vwCl (fcP cI cII ad M) H → va_S (fl_A 62 ad) s.heap H locs → ∀ (ls : Array Slot), lv_has ls 4 [(0, .ref (ad 8)), (1, .long (lN (a_sum (fun k => w k * w k) i))), (3, .int (nI i))] → W p l e (headSpec wsX2_squares ({ frames := 0, cells := 0, slots := 0, locals := 0 } : Room)).room s m ([.ref (ad 8)] : List Value).toArray below meth c H locs 0 0 (MQ below (va_Ql (fun r M2 => r = lN (a_sum (fun k => w k * w k) n) ∧ M2 = M) (fcQ D cI cII ad) (fl_A 62 ad)) ([.ref (ad 8)] : List Value).toArray s 0 0 (fl_A 62 ad)) (F0 m 4 ls []) from KL4 (n + 1) 0 (Nat.zero_le n) (by omega) _ _ hP hS ls (lv_sub hl [2, 1, 0] rfl)
  intro f
  induction f with
  | zero =>
    intro i hi hf
    omega
  | succ f ih4 =>
    intro i hi hf H locs hP hS ls hl
    refine lv_iload_n hx hb dX2_squares_4 rfl (lv_at hl 2 rfl) ?_
    refine lv_aload_n hx hb dX2_squares_5 rfl (lv_at hl 0 rfl) ?_
    refine va_get (D := D) (ci := 4) (v := .int (M.1 8 2)) (C := RX2) (T := TX2) (N := 13) hx hb hts inX2 hown hK hP 8 (fl_at (by decide) rfl) rfl 2 (by decide) (hts (.fieldLink RX2 51 "ResampledRows$Run" "n" "I") (by decide +kernel)) (fun _ h9 => h9) rfl dX2_squares_6 ?_
    refine fl_ti (y := nI n) hn1 ?_
    refine lv_icmp_ge (tgt := 36) hx hb dX2_squares_9 (by decide) (fun hc9 => ?_) (fun hc9 => ?_)
    · have e9 : i = n := Nat.le_antisymm hi ((nI_leI (by omega) (by omega)).mp hc9)
      refine lv_lload_n hx hb dX2_squares_36 rfl (lv_at hl 1 rfl) ?_
      exact W.lret (v := lN (a_sum (fun k => w k * w k) i)) hx hb hr (fun t ht hW => ⟨⟨lN (a_sum (fun k => w k * w k) i), M, rfl, ⟨by rw [e9], rfl⟩, fl_qi ht hP⟩, hS.F ht⟩) hS.2.2 dX2_squares_37
    · have l9 : i < n := Nat.lt_of_not_le (fun q => hc9 ((nI_leI (by omega) (by omega)).mpr q))
      refine lv_lload_n hx hb dX2_squares_12 rfl (lv_at hl 1 rfl) ?_
      refine lv_aload_n hx hb dX2_squares_13 rfl (lv_at hl 0 rfl) ?_
      refine va_get (D := D) (ci := 4) (v := .ref (ad (M.2.2.2 8 8))) (C := RX2) (T := TX2) (N := 13) hx hb hts inX2 hown hK hP 8 (fl_at (by decide) rfl) rfl 8 (by decide) (hts (.fieldLink RX2 34 "ResampledRows$Run" "weights" "[I") (by decide +kernel)) (fun _ h9 => h9) rfl dX2_squares_14 ?_
      refine lv_iload_n hx hb dX2_squares_17 rfl (lv_at hl 2 rfl) ?_
      refine fl_ild (n := 16) (k := i) hx hb hK hP (fc_a cI cII ad _ hw8 (by decide)) rfl rfl (by omega) (by decide) dX2_squares_18 ?_
      refine lv_i2l (v := (M.1 (M.2.2.2 8 8) i).toInt64) hx hb dX2_squares_19 rfl ?_
      refine lv_aload_n hx hb dX2_squares_20 rfl (lv_at hl 0 rfl) ?_
      refine va_get (D := D) (ci := 4) (v := .ref (ad (M.2.2.2 8 8))) (C := RX2) (T := TX2) (N := 13) hx hb hts inX2 hown hK hP 8 (fl_at (by decide) rfl) rfl 8 (by decide) (hts (.fieldLink RX2 34 "ResampledRows$Run" "weights" "[I") (by decide +kernel)) (fun _ h9 => h9) rfl dX2_squares_21 ?_
      refine lv_iload_n hx hb dX2_squares_24 rfl (lv_at hl 2 rfl) ?_
      refine fl_ild (n := 16) (k := i) hx hb hK hP (fc_a cI cII ad _ hw8 (by decide)) rfl rfl (by omega) (by decide) dX2_squares_25 ?_
      refine lv_i2l (v := (M.1 (M.2.2.2 8 8) i).toInt64) hx hb dX2_squares_26 rfl ?_
      refine lv_lmul hx hb dX2_squares_27 ?_
      refine lv_ladd hx hb dX2_squares_28 ?_
      refine fl_tl (y := lN (a_sum (fun k => w k * w k) (i + 1))) (fl_sq (hw i l9).1 (by have := (hw i l9).2; omega)) ?_
      refine lv_lstore_n (lv' := [(1, .long (lN (a_sum (fun k => w k * w k) (i + 1)))), (0, .ref (ad 8)), (3, .int (nI i))]) hx hb dX2_squares_29 rfl hl (by decide) rfl (fun ls hl => ?_)
      refine lv_iinc (v := nI (i + 1)) (lv' := [(3, .int (nI (i + 1))), (1, .long (lN (a_sum (fun k => w k * w k) (i + 1)))), (0, .ref (ad 8))]) hx hb dX2_squares_30 hl (k := 2) rfl (fl_inc i) (by decide) rfl (fun ls hl => ?_)
      refine lv_goto (tgt := 4) hx hb dX2_squares_33 (by decide) ?_
      exact ih4 (i + 1) (by omega) (by omega) _ _ hP hS ls (lv_sub hl [2, 1, 0] rfl)

abbrev a_Q (w : Nat → Nat) (n : Nat) : Nat := a_sum (fun k => w k * w k) n
theorem a_Q_le {f : Nat → Int32} {w : Nat → Nat} {n : Nat} (h : fl_row f w n 1000001) (hn : n ≤ 16) : a_Q w n ≤ 16000000000000 ∧ a_sum w n ≤ 16000000 ∧ a_sum w n * a_sum w n ≤ 256000000000000 := by
  have h1 : a_sum w n ≤ n * 1000000 := a_row_le h
  have h2 : a_Q w n ≤ n * 1000000000000 := a_sum_le _ n (fun j hj => by
    have h3 := Nat.le_of_lt_succ (h j hj).2
    exact Nat.mul_le_mul h3 h3)
  have h4 : a_sum w n ≤ 16000000 := by omega
  exact ⟨by omega, h4, Nat.mul_le_mul h4 h4⟩
def a_eff (w : Nat → Nat) (n : Nat) : Nat := if a_Q w n = 0 then 0 else a_sum w n * a_sum w n / a_Q w n

set_option maxHeartbeats 4000000 in
set_option maxRecDepth 100000 in
theorem c_X2_effective (l : Launch) {D : va_G} {cI cJ cII : ClassId} {ad : Nat → Nat} (hJ : fl_inj 62 ad) (M : fl_M) (n : Nat) (w : Nat → Nat) (hn : n ≤ 16) (hn1 : M.1 8 2 = nI n) (hw8 : fc_len (M.2.2.2 8 8) = 16) (hw : fl_row (M.1 (M.2.2.2 8 8)) w n 1000001) : Met l yX2_effective wsX2_effective ({ frames := 2, cells := 0, slots := 0, locals := 44 } : Room) (fcPc D cI cJ cII ad M [.ref (ad 8)]) (va_Ql (fun r M2 => r = lN (a_eff w n) ∧ M2 = M) (fcQ D cI cII ad) (fl_A 62 ad)) 0 0 (fl_A 62 ad) := by
  refine Met.ofW (cc := cX2_effective) (maxL := 3) (ret := (some .long)) (by decide) rfl ?_
  intro p e s m args below meth c s₁ B hml hv
  obtain ⟨rfl, hP, hK, hN⟩ := hv
  have hx := B.exec
  have hb := B.bytes
  have hr := B.returns
  have hts := atoms_spec (ws := wsX2_effective) B.pre
  have hown : s.vm.findClass RX2 = some m.cls := findClass_of_methodNamed B.named
  have hlocks := B.notSynchronized
  have hS : va_S (fl_A 62 ad) s.heap s.heap [] := va_S.rf
  have hl := lv_entry ([.ref (ad 8)] : List Value) (n := 3) (Nat.le_of_ble_eq_true rfl)
  rw [lg_entry_eq]
  generalize (lg_sl ([.ref (ad 8)] : List Value) ++ List.replicate (3 - (lg_sl ([.ref (ad 8)] : List Value)).length) Slot.unset).toArray = ls at hl ⊢
  have hl : lv_has ls 3 [(0, .ref (ad 8))] := hl
  obtain ⟨b1, b2, b3⟩ := a_Q_le hw hn
  have hw0 := hw
  refine lv_aload_n hx hb dX2_effective_0 rfl (lv_at hl 0 rfl) ?_
  refine va_calll (va_runV (As := []) (rest := []) ⟨hx, hb, hml, hown, hts⟩ (c_X2_squares l hJ M n w hn hn1 hw8 hw0) (cwV 0 hts gX2_effective_X2_squares rfl rfl rfl (by decide +kernel) ⟨Nat.le_of_ble_eq_true rfl, Nat.le_of_ble_eq_true rfl⟩) ⟨fl_blind, va_recv hK hP (ci := 4) (q0 := 8) rfl (fl_at (by decide) rfl), fl_pre hP hK hN⟩ rfl rfl hl.1 rfl (lv_room (Nat.le_of_ble_eq_true rfl)) dX2_effective_1 ⟨Nat.le_of_ble_eq_true rfl, Nat.le_of_ble_eq_true rfl⟩) hS (fun _ _ h => h) (fun _ h => h) (fun r1 M1 t H1 locs ht hvm hw hB hz1 hk1 hS => ?_)
  have hP : va_P D vwCl (fcP cI cII ad M1) H1 := by rw [← ht]; exact hB
  clear hB hk1 hz1 hvm ht t
  obtain ⟨rfl, hE⟩ := hw
  rw [hE] at hP
  refine lv_lstore_n (lv' := [(1, .long (lN (a_Q w n))), (0, .ref (ad 8))]) hx hb dX2_effective_4 rfl hl (by decide) rfl (fun ls hl => ?_)
  refine lv_lload_n hx hb dX2_effective_5 rfl (lv_at hl 0 rfl) ?_
  refine lv_lconst (v := 0) hx hb dX2_effective_6 (by decide) ?_
  refine fl_lne (tgt := 15) hx hb dX2_effective_7 dX2_effective_8 (by decide) (fun hc7 => ?_) (fun hc7 => ?_)
  · have g7 : ¬ a_Q w n = 0 := fun q => hc7 (by rw [q]; rfl)
    refine lv_aload_n hx hb dX2_effective_15 rfl (lv_at hl 1 rfl) ?_
    refine va_calll (va_runV (As := []) (rest := []) ⟨hx, hb, hml, hown, hts⟩ (c_X2_total l hJ M n w hn hn1 hw8 hw0) (cwV 0 hts gX2_effective_X2_total rfl rfl rfl (by decide +kernel) ⟨Nat.le_of_ble_eq_true rfl, Nat.le_of_ble_eq_true rfl⟩) ⟨fl_blind, va_recv hK hP (ci := 4) (q0 := 8) rfl (fl_at (by decide) rfl), fl_pre hP hK hN⟩ rfl rfl hl.1 rfl (lv_room (Nat.le_of_ble_eq_true rfl)) dX2_effective_16 ⟨Nat.le_of_ble_eq_true rfl, Nat.le_of_ble_eq_true rfl⟩) hS (fun _ _ h => h) (fun _ h => h) (fun r16 M16 t H1 locs ht hvm hw hB hz1 hk1 hS => ?_)
    have hP : va_P D vwCl (fcP cI cII ad M16) H1 := by rw [← ht]; exact hB
    clear hB hk1 hz1 hvm ht t
    obtain ⟨rfl, hE⟩ := hw
    rw [hE] at hP
    refine lv_aload_n hx hb dX2_effective_19 rfl (lv_at hl 1 rfl) ?_
    refine va_calll (va_runV (As := []) (rest := [.long (lN (a_sum w n))]) ⟨hx, hb, hml, hown, hts⟩ (c_X2_total l hJ M n w hn hn1 hw8 hw0) (cwV 0 hts gX2_effective_X2_total rfl rfl rfl (by decide +kernel) ⟨Nat.le_of_ble_eq_true rfl, Nat.le_of_ble_eq_true rfl⟩) ⟨fl_blind, va_recv hK hP (ci := 4) (q0 := 8) rfl (fl_at (by decide) rfl), fl_pre hP hK hN⟩ rfl rfl hl.1 rfl (lv_room (Nat.le_of_ble_eq_true rfl)) dX2_effective_20 ⟨Nat.le_of_ble_eq_true rfl, Nat.le_of_ble_eq_true rfl⟩) hS (fun _ _ h => h) (fun _ h => h) (fun r20 M20 t H1 locs ht hvm hw hB hz1 hk1 hS => ?_)
    have hP : va_P D vwCl (fcP cI cII ad M20) H1 := by rw [← ht]; exact hB
    clear hB hk1 hz1 hvm ht t
    obtain ⟨rfl, hE⟩ := hw
    rw [hE] at hP
    refine lv_lmul hx hb dX2_effective_23 ?_
    refine lv_lload_n hx hb dX2_effective_24 rfl (lv_at hl 0 rfl) ?_
    refine lv_ldiv hx hb dX2_effective_25 hc7 ?_
    exact W.lret (v := ((lN (a_sum w n)) * (lN (a_sum w n))) / (lN (a_Q w n))) hx hb hr (fun t ht hW => ⟨⟨((lN (a_sum w n)) * (lN (a_sum w n))) / (lN (a_Q w n)), M, rfl, ⟨by unfold a_eff; rw [if_neg g7, lN_mul, pk_lDiv (by omega) (by omega) (by omega)], rfl⟩, fl_qi ht hP⟩, hS.F ht⟩) hS.2.2 dX2_effective_26
  · have g7 : a_Q w n = 0 := (pk_lEQ (b := 0) (by omega) (by decide)).mp hc7
    refine lv_lconst (v := 0) hx hb dX2_effective_11 (by decide) ?_
    refine lv_goto (tgt := 26) hx hb dX2_effective_12 (by decide) ?_
    exact W.lret (v := 0) hx hb hr (fun t ht hW => ⟨⟨0, M, rfl, ⟨by unfold a_eff; rw [if_pos g7]; rfl, rfl⟩, fl_qi ht hP⟩, hS.F ht⟩) hS.2.2 dX2_effective_26

set_option maxHeartbeats 4000000 in
set_option maxRecDepth 100000 in
theorem c_X2_isEffectiveBelow (l : Launch) {D : va_G} {cI cJ cII : ClassId} {ad : Nat → Nat} (hJ : fl_inj 62 ad) (M : fl_M) (n : Nat) (w : Nat → Nat) (hn : n ≤ 16) (hn1 : M.1 8 2 = nI n) (hw8 : fc_len (M.2.2.2 8 8) = 16) (hw : fl_row (M.1 (M.2.2.2 8 8)) w n 1000001) (pt : Nat) (hpt : pt ≤ 100) : Met l yX2_isEffectiveBelow wsX2_isEffectiveBelow ({ frames := 2, cells := 0, slots := 0, locals := 44 } : Room) (fcPc D cI cJ cII ad M [.ref (ad 8), .int (nI pt)]) (va_Qi (fun r M2 => r = (if 100 * a_sum w n * a_sum w n < pt * n * a_Q w n then 1 else 0) ∧ M2 = M) (fcQ D cI cII ad) (fl_A 62 ad)) 0 0 (fl_A 62 ad) := by
  refine Met.ofW (cc := cX2_isEffectiveBelow) (maxL := 2) (ret := (some .boolean)) (by decide) rfl ?_
  intro p e s m args below meth c s₁ B hml hv
  obtain ⟨rfl, hP, hK, hN⟩ := hv
  have hx := B.exec
  have hb := B.bytes
  have hr := B.returns
  have hts := atoms_spec (ws := wsX2_isEffectiveBelow) B.pre
  have hown : s.vm.findClass RX2 = some m.cls := findClass_of_methodNamed B.named
  have hlocks := B.notSynchronized
  have inX2 : ∀ w ∈ u_ws RX2 TX2 13, w ∈ wsX2_isEffectiveBelow := by decide +kernel
  have hS : va_S (fl_A 62 ad) s.heap s.heap [] := va_S.rf
  have hl := lv_entry ([.ref (ad 8), .int (nI pt)] : List Value) (n := 2) (Nat.le_of_ble_eq_true rfl)
  rw [lg_entry_eq]
  generalize (lg_sl ([.ref (ad 8), .int (nI pt)] : List Value) ++ List.replicate (2 - (lg_sl ([.ref (ad 8), .int (nI pt)] : List Value)).length) Slot.unset).toArray = ls at hl ⊢
  have hl : lv_has ls 2 [(0, .ref (ad 8)), (1, .int (nI pt))] := hl
  obtain ⟨b1, b2, b3⟩ := a_Q_le hw hn
  have hw0 := hw
  have b4 : 100 * a_sum w n * a_sum w n ≤ 25600000000000000 := by rw [Nat.mul_assoc]; omega
  have b5 : pt * n ≤ 1600 := Nat.mul_le_mul hpt hn
  have b6 : pt * n * a_Q w n ≤ 1600 * 16000000000000 := Nat.mul_le_mul b5 b1
  refine lv_ldc2 (v := 100) hx hb hown (hts (.constantLong RX2 90 (100)) (by decide +kernel)) dX2_isEffectiveBelow_0 ?_
  refine lv_aload_n hx hb dX2_isEffectiveBelow_3 rfl (lv_at hl 0 rfl) ?_
  refine va_calll (va_runV (As := []) (rest := [.long 100]) ⟨hx, hb, hml, hown, hts⟩ (c_X2_total l hJ M n w hn hn1 hw8 hw0) (cwV 0 hts gX2_isEffectiveBelow_X2_total rfl rfl rfl (by decide +kernel) ⟨Nat.le_of_ble_eq_true rfl, Nat.le_of_ble_eq_true rfl⟩) ⟨fl_blind, va_recv hK hP (ci := 4) (q0 := 8) rfl (fl_at (by decide) rfl), fl_pre hP hK hN⟩ rfl rfl hl.1 rfl (lv_room (Nat.le_of_ble_eq_true rfl)) dX2_isEffectiveBelow_4 ⟨Nat.le_of_ble_eq_true rfl, Nat.le_of_ble_eq_true rfl⟩) hS (fun _ _ h => h) (fun _ h => h) (fun r4 M4 t H1 locs ht hvm hw hB hz1 hk1 hS => ?_)
  have hP : va_P D vwCl (fcP cI cII ad M4) H1 := by rw [← ht]; exact hB
  clear hB hk1 hz1 hvm ht t
  obtain ⟨rfl, hE⟩ := hw
  rw [hE] at hP
  refine lv_lmul hx hb dX2_isEffectiveBelow_7 ?_
  refine fl_tl (y := lN (100 * a_sum w n)) (lN_mul 100 _) ?_
  refine lv_aload_n hx hb dX2_isEffectiveBelow_8 rfl (lv_at hl 0 rfl) ?_
  refine va_calll (va_runV (As := []) (rest := [.long (lN (100 * a_sum w n))]) ⟨hx, hb, hml, hown, hts⟩ (c_X2_total l hJ M n w hn hn1 hw8 hw0) (cwV 0 hts gX2_isEffectiveBelow_X2_total rfl rfl rfl (by decide +kernel) ⟨Nat.le_of_ble_eq_true rfl, Nat.le_of_ble_eq_true rfl⟩) ⟨fl_blind, va_recv hK hP (ci := 4) (q0 := 8) rfl (fl_at (by decide) rfl), fl_pre hP hK hN⟩ rfl rfl hl.1 rfl (lv_room (Nat.le_of_ble_eq_true rfl)) dX2_isEffectiveBelow_9 ⟨Nat.le_of_ble_eq_true rfl, Nat.le_of_ble_eq_true rfl⟩) hS (fun _ _ h => h) (fun _ h => h) (fun r9 M9 t H1 locs ht hvm hw hB hz1 hk1 hS => ?_)
  have hP : va_P D vwCl (fcP cI cII ad M9) H1 := by rw [← ht]; exact hB
  clear hB hk1 hz1 hvm ht t
  obtain ⟨rfl, hE⟩ := hw
  rw [hE] at hP
  refine lv_lmul hx hb dX2_isEffectiveBelow_12 ?_
  refine fl_tl (y := lN (100 * a_sum w n * a_sum w n)) (lN_mul _ _) ?_
  refine lv_iload_n hx hb dX2_isEffectiveBelow_13 rfl (lv_at hl 1 rfl) ?_
  refine lv_aload_n hx hb dX2_isEffectiveBelow_14 rfl (lv_at hl 0 rfl) ?_
  refine va_get (D := D) (ci := 4) (v := .int (M.1 8 2)) (C := RX2) (T := TX2) (N := 13) hx hb hts inX2 hown hK hP 8 (fl_at (by decide) rfl) rfl 2 (by decide) (hts (.fieldLink RX2 51 "ResampledRows$Run" "n" "I") (by decide +kernel)) (fun _ h9 => h9) rfl dX2_isEffectiveBelow_15 ?_
  refine fl_ti (y := nI n) hn1 ?_
  refine lv_imul hx hb dX2_isEffectiveBelow_18 ?_
  refine fl_ti (y := nI (pt * n)) (pk_mul _ _) ?_
  refine lv_i2l (v := (nI (pt * n)).toInt64) hx hb dX2_isEffectiveBelow_19 rfl ?_
  refine fl_tl (y := lN (pt * n)) (nI_l (by omega)) ?_
  refine lv_aload_n hx hb dX2_isEffectiveBelow_20 rfl (lv_at hl 0 rfl) ?_
  refine va_calll (va_runV (As := []) (rest := [.long (lN (pt * n)), .long (lN (100 * a_sum w n * a_sum w n))]) ⟨hx, hb, hml, hown, hts⟩ (c_X2_squares l hJ M n w hn hn1 hw8 hw0) (cwV 0 hts gX2_isEffectiveBelow_X2_squares rfl rfl rfl (by decide +kernel) ⟨Nat.le_of_ble_eq_true rfl, Nat.le_of_ble_eq_true rfl⟩) ⟨fl_blind, va_recv hK hP (ci := 4) (q0 := 8) rfl (fl_at (by decide) rfl), fl_pre hP hK hN⟩ rfl rfl hl.1 rfl (lv_room (Nat.le_of_ble_eq_true rfl)) dX2_isEffectiveBelow_21 ⟨Nat.le_of_ble_eq_true rfl, Nat.le_of_ble_eq_true rfl⟩) hS (fun _ _ h => h) (fun _ h => h) (fun r21 M21 t H1 locs ht hvm hw hB hz1 hk1 hS => ?_)
  have hP : va_P D vwCl (fcP cI cII ad M21) H1 := by rw [← ht]; exact hB
  clear hB hk1 hz1 hvm ht t
  obtain ⟨rfl, hE⟩ := hw
  rw [hE] at hP
  refine lv_lmul hx hb dX2_isEffectiveBelow_24 ?_
  refine fl_tl (y := lN (pt * n * a_Q w n)) (lN_mul _ _) ?_
  refine fl_lge (tgt := 33) hx hb dX2_isEffectiveBelow_25 dX2_isEffectiveBelow_26 (by decide) (fun hc25 => ?_) (fun hc25 => ?_)
  · have g25 : ¬ 100 * a_sum w n * a_sum w n < pt * n * a_Q w n := Nat.not_lt.mpr ((pk_lLE (by omega) (by omega)).mp hc25)
    refine lv_iconst (v := 0) hx hb dX2_isEffectiveBelow_33 (by decide) ?_
    exact W.zret (v := 0) (ty := .boolean) hx hb hr rfl (fun t ht hW => ⟨⟨0, M, rfl, ⟨by first | rw [if_pos g25] | rw [if_neg g25], rfl⟩, fl_qi ht hP⟩, hS.F ht⟩) hS.2.2 dX2_isEffectiveBelow_34
  · have g25 : 100 * a_sum w n * a_sum w n < pt * n * a_Q w n := Nat.lt_of_not_le (fun q => hc25 ((pk_lLE (by omega) (by omega)).mpr q))
    refine lv_iconst (v := 1) hx hb dX2_isEffectiveBelow_29 (by decide) ?_
    refine lv_goto (tgt := 34) hx hb dX2_isEffectiveBelow_30 (by decide) ?_
    exact W.zret (v := 1) (ty := .boolean) hx hb hr rfl (fun t ht hW => ⟨⟨1, M, rfl, ⟨by first | rw [if_pos g25] | rw [if_neg g25], rfl⟩, fl_qi ht hP⟩, hS.F ht⟩) hS.2.2 dX2_isEffectiveBelow_34

set_option maxHeartbeats 4000000 in
set_option maxRecDepth 100000 in
theorem c_X2_takeNextStatesAndWeights (l : Launch) {D : va_G} {cI cJ cII : ClassId} {ad : Nat → Nat} (hJ : fl_inj 62 ad) (M : fl_M) : Met l yX2_takeNextStatesAndWeights wsX2_takeNextStatesAndWeights ({ frames := 0, cells := 0, slots := 0, locals := 0 } : Room) (fcPc D cI cJ cII ad M [.ref (ad 8)]) (va_Qv (fun M2 => M2 = fl_sR (fl_sR (fl_sR (fl_sR M 8 7 (M.2.2.2 8 10)) 8 10 (M.2.2.2 8 7)) 8 8 (M.2.2.2 8 11)) 8 11 (M.2.2.2 8 8)) (fcQ D cI cII ad) (fl_A 62 ad)) 0 0 (fl_A 62 ad) := by
  refine Met.ofW (cc := cX2_takeNextStatesAndWeights) (maxL := 3) (ret := none) (by decide) rfl ?_
  intro p e s m args below meth c s₁ B hml hv
  obtain ⟨rfl, hP, hK, hN⟩ := hv
  have hx := B.exec
  have hb := B.bytes
  have hr := B.returns
  have hts := atoms_spec (ws := wsX2_takeNextStatesAndWeights) B.pre
  have hown : s.vm.findClass RX2 = some m.cls := findClass_of_methodNamed B.named
  have hlocks := B.notSynchronized
  have inX2 : ∀ w ∈ u_ws RX2 TX2 13, w ∈ wsX2_takeNextStatesAndWeights := by decide +kernel
  have hS : va_S (fl_A 62 ad) s.heap s.heap [] := va_S.rf
  have hl := lv_entry ([.ref (ad 8)] : List Value) (n := 3) (Nat.le_of_ble_eq_true rfl)
  rw [lg_entry_eq]
  generalize (lg_sl ([.ref (ad 8)] : List Value) ++ List.replicate (3 - (lg_sl ([.ref (ad 8)] : List Value)).length) Slot.unset).toArray = ls at hl ⊢
  have hl : lv_has ls 3 [(0, .ref (ad 8))] := hl
  refine lv_aload_n hx hb dX2_takeNextStatesAndWeights_0 rfl (lv_at hl 0 rfl) ?_
  refine va_get (D := D) (ci := 4) (v := .ref (ad (M.2.2.2 8 7))) (C := RX2) (T := TX2) (N := 13) hx hb hts inX2 hown hK hP 8 (fl_at (by decide) rfl) rfl 7 (by decide) (hts (.fieldLink RX2 31 "ResampledRows$Run" "states" "[I") (by decide +kernel)) (fun _ h9 => h9) rfl dX2_takeNextStatesAndWeights_1 ?_
  refine lv_astore_n (lv' := [(1, .ref (ad (M.2.2.2 8 7))), (0, .ref (ad 8))]) hx hb dX2_takeNextStatesAndWeights_4 rfl hl (by decide) rfl (fun ls hl => ?_)
  refine lv_aload_n hx hb dX2_takeNextStatesAndWeights_5 rfl (lv_at hl 1 rfl) ?_
  refine lv_aload_n hx hb dX2_takeNextStatesAndWeights_6 rfl (lv_at hl 1 rfl) ?_
  refine va_get (D := D) (ci := 4) (v := .ref (ad (M.2.2.2 8 10))) (C := RX2) (T := TX2) (N := 13) hx hb hts inX2 hown hK hP 8 (fl_at (by decide) rfl) rfl 10 (by decide) (hts (.fieldLink RX2 42 "ResampledRows$Run" "nextStates" "[I") (by decide +kernel)) (fun _ h9 => h9) rfl dX2_takeNextStatesAndWeights_7 ?_
  refine fl_put (ci := 4) (ty := .array .int) (v := .ref (ad (M.2.2.2 8 10))) (C := RX2) (T := TX2) (Nf := 13) hx hb hts inX2 tyX2 tyX2_ok nmX2 hown hK hJ hP hS 8 (by decide) (fl_sR M 8 7 (M.2.2.2 8 10)) rfl rfl 7 (by decide) (hts (.fieldLink RX2 31 "ResampledRows$Run" "states" "[I") (by decide +kernel)) (fun _ h9 => h9) rfl (by decide +kernel) rfl rfl (Nat.le_of_ble_eq_true rfl) rfl (fl_sR_o (fc_loc cI cII ad) _ _ _ _) dX2_takeNextStatesAndWeights_10 (fun H locs hP hS => ?_)
  refine lv_aload_n hx hb dX2_takeNextStatesAndWeights_13 rfl (lv_at hl 1 rfl) ?_
  refine lv_aload_n hx hb dX2_takeNextStatesAndWeights_14 rfl (lv_at hl 0 rfl) ?_
  refine fl_put (ci := 4) (ty := .array .int) (v := .ref (ad (M.2.2.2 8 7))) (C := RX2) (T := TX2) (Nf := 13) hx hb hts inX2 tyX2 tyX2_ok nmX2 hown hK hJ hP hS 8 (by decide) (fl_sR (fl_sR M 8 7 (M.2.2.2 8 10)) 8 10 (M.2.2.2 8 7)) rfl rfl 10 (by decide) (hts (.fieldLink RX2 42 "ResampledRows$Run" "nextStates" "[I") (by decide +kernel)) (fun _ h9 => h9) rfl (by decide +kernel) rfl rfl (Nat.le_of_ble_eq_true rfl) rfl (fl_sR_o (fc_loc cI cII ad) _ _ _ _) dX2_takeNextStatesAndWeights_15 (fun H locs hP hS => ?_)
  refine lv_aload_n hx hb dX2_takeNextStatesAndWeights_18 rfl (lv_at hl 1 rfl) ?_
  refine va_get (D := D) (ci := 4) (v := .ref (ad (M.2.2.2 8 8))) (C := RX2) (T := TX2) (N := 13) hx hb hts inX2 hown hK hP 8 (fl_at (by decide) rfl) rfl 8 (by decide) (hts (.fieldLink RX2 34 "ResampledRows$Run" "weights" "[I") (by decide +kernel)) (fun _ h9 => h9) rfl dX2_takeNextStatesAndWeights_19 ?_
  refine lv_astore_n (lv' := [(2, .ref (ad (M.2.2.2 8 8))), (1, .ref (ad (M.2.2.2 8 7))), (0, .ref (ad 8))]) hx hb dX2_takeNextStatesAndWeights_22 rfl hl (by decide) rfl (fun ls hl => ?_)
  refine lv_aload_n hx hb dX2_takeNextStatesAndWeights_23 rfl (lv_at hl 2 rfl) ?_
  refine lv_aload_n hx hb dX2_takeNextStatesAndWeights_24 rfl (lv_at hl 2 rfl) ?_
  refine va_get (D := D) (ci := 4) (v := .ref (ad (M.2.2.2 8 11))) (C := RX2) (T := TX2) (N := 13) hx hb hts inX2 hown hK hP 8 (fl_at (by decide) rfl) rfl 11 (by decide) (hts (.fieldLink RX2 45 "ResampledRows$Run" "nextWeights" "[I") (by decide +kernel)) (fun _ h9 => h9) rfl dX2_takeNextStatesAndWeights_25 ?_
  refine fl_put (ci := 4) (ty := .array .int) (v := .ref (ad (M.2.2.2 8 11))) (C := RX2) (T := TX2) (Nf := 13) hx hb hts inX2 tyX2 tyX2_ok nmX2 hown hK hJ hP hS 8 (by decide) (fl_sR (fl_sR (fl_sR M 8 7 (M.2.2.2 8 10)) 8 10 (M.2.2.2 8 7)) 8 8 (M.2.2.2 8 11)) rfl rfl 8 (by decide) (hts (.fieldLink RX2 34 "ResampledRows$Run" "weights" "[I") (by decide +kernel)) (fun _ h9 => h9) rfl (by decide +kernel) rfl rfl (Nat.le_of_ble_eq_true rfl) rfl (fl_sR_o (fc_loc cI cII ad) _ _ _ _) dX2_takeNextStatesAndWeights_28 (fun H locs hP hS => ?_)
  refine lv_aload_n hx hb dX2_takeNextStatesAndWeights_31 rfl (lv_at hl 2 rfl) ?_
  refine lv_aload_n hx hb dX2_takeNextStatesAndWeights_32 rfl (lv_at hl 0 rfl) ?_
  refine fl_put (ci := 4) (ty := .array .int) (v := .ref (ad (M.2.2.2 8 8))) (C := RX2) (T := TX2) (Nf := 13) hx hb hts inX2 tyX2 tyX2_ok nmX2 hown hK hJ hP hS 8 (by decide) (fl_sR (fl_sR (fl_sR (fl_sR M 8 7 (M.2.2.2 8 10)) 8 10 (M.2.2.2 8 7)) 8 8 (M.2.2.2 8 11)) 8 11 (M.2.2.2 8 8)) rfl rfl 11 (by decide) (hts (.fieldLink RX2 45 "ResampledRows$Run" "nextWeights" "[I") (by decide +kernel)) (fun _ h9 => h9) rfl (by decide +kernel) rfl rfl (Nat.le_of_ble_eq_true rfl) rfl (fl_sR_o (fc_loc cI cII ad) _ _ _ _) dX2_takeNextStatesAndWeights_33 (fun H locs hP hS => ?_)
  exact W.vret hx hb hr (fun t ht hW => ⟨⟨(fl_sR (fl_sR (fl_sR (fl_sR M 8 7 (M.2.2.2 8 10)) 8 10 (M.2.2.2 8 7)) 8 8 (M.2.2.2 8 11)) 8 11 (M.2.2.2 8 8)), rfl, rfl, fl_qi ht hP⟩, hS.F ht⟩) hS.2.2 dX2_takeNextStatesAndWeights_36

set_option maxHeartbeats 4000000 in
set_option maxRecDepth 100000 in
theorem c_X2_firstThatWas (l : Launch) {D : va_G} {cI cJ cII : ClassId} {ad : Nat → Nat} (hJ : fl_inj 62 ad) (M : fl_M) (n k : Nat) (og : Nat → Nat) (hn : n ≤ 16) (hn1 : M.1 8 2 = nI n) (hk : k < 2 ^ 31) (hog : fl_row (M.1 12) og n 16) : Met l yX2_firstThatWas wsX2_firstThatWas ({ frames := 0, cells := 0, slots := 0, locals := 0 } : Room) (fcPc D cI cJ cII ad M [.ref (ad 8), .int (nI k)]) (va_Qi (fun r M2 => r = a_oI (a_find og k n) (-1000009) ∧ M2 = M) (fcQ D cI cII ad) (fl_A 62 ad)) 0 0 (fl_A 62 ad) := by
  refine Met.ofW (cc := cX2_firstThatWas) (maxL := 3) (ret := (some .int)) (by decide) rfl ?_
  intro p e s m args below meth c s₁ B hml hv
  obtain ⟨rfl, hP, hK, hN⟩ := hv
  have hx := B.exec
  have hb := B.bytes
  have hr := B.returns
  have hts := atoms_spec (ws := wsX2_firstThatWas) B.pre
  have hown : s.vm.findClass RX2 = some m.cls := findClass_of_methodNamed B.named
  have hlocks := B.notSynchronized
  have inX2 : ∀ w ∈ u_ws RX2 TX2 13, w ∈ wsX2_firstThatWas := by decide +kernel
  have hS : va_S (fl_A 62 ad) s.heap s.heap [] := va_S.rf
  have hl := lv_entry ([.ref (ad 8), .int (nI k)] : List Value) (n := 3) (Nat.le_of_ble_eq_true rfl)
  rw [lg_entry_eq]
  generalize (lg_sl ([.ref (ad 8), .int (nI k)] : List Value) ++ List.replicate (3 - (lg_sl ([.ref (ad 8), .int (nI k)] : List Value)).length) Slot.unset).toArray = ls at hl ⊢
  have hl : lv_has ls 3 [(0, .ref (ad 8)), (1, .int (nI k))] := hl
  refine lv_iconst (v := 0) hx hb dX2_firstThatWas_0 (by decide) ?_
  refine lv_istore_n (lv' := [(2, .int 0), (0, .ref (ad 8)), (1, .int (nI k))]) hx hb dX2_firstThatWas_1 rfl hl (by decide) rfl (fun ls hl => ?_)
  suffices KL2 : ∀ (f : Nat) (i : Nat) (hi : i ≤ n) (ha : a_find og k i = none) (hf : n + 1 ≤ i + f), ∀ (H : Heap) (locs : List Loc), va_P D vwCl (fcP cI cII ad M) H → va_S (fl_A 62 ad) s.heap H locs → ∀ (ls : Array Slot), lv_has ls 3 [(0, .ref (ad 8)), (1, .int (nI k)), (2, .int (nI i))] → W p l e (headSpec wsX2_firstThatWas ({ frames := 0, cells := 0, slots := 0, locals := 0 } : Room)).room s m ([.ref (ad 8), .int (nI k)] : List Value).toArray below meth c H locs 0 0 (MQ below (va_Qi (fun r M2 => r = a_oI (a_find og k n) (-1000009) ∧ M2 = M) (fcQ D cI cII ad) (fl_A 62 ad)) ([.ref (ad 8), .int (nI k)] : List Value).toArray s 0 0 (fl_A 62 ad)) (F0 m 2 ls []) from KL2 (n + 1) 0 (Nat.zero_le n) rfl (by omega) _ _ hP hS ls (lv_sub hl [1, 2, 0] rfl)
  intro f
  induction f with
  | zero =>
    intro i hi ha hf
    omega
  | succ f ih2 =>
    intro i hi ha hf H locs hP hS ls hl
    refine lv_iload_n hx hb dX2_firstThatWas_2 rfl (lv_at hl 2 rfl) ?_
    refine lv_aload_n hx hb dX2_firstThatWas_3 rfl (lv_at hl 0 rfl) ?_
    refine va_get (D := D) (ci := 4) (v := .int (M.1 8 2)) (C := RX2) (T := TX2) (N := 13) hx hb hts inX2 hown hK hP 8 (fl_at (by decide) rfl) rfl 2 (by decide) (hts (.fieldLink RX2 51 "ResampledRows$Run" "n" "I") (by decide +kernel)) (fun _ h9 => h9) rfl dX2_firstThatWas_4 ?_
    refine fl_ti (y := nI n) hn1 ?_
    refine lv_icmp_ge (tgt := 28) hx hb dX2_firstThatWas_7 (by decide) (fun hc7 => ?_) (fun hc7 => ?_)
    · have e7 : i = n := Nat.le_antisymm hi ((nI_leI (by omega) (by omega)).mp hc7)
      refine lv_ldc (v := -1000009) hx hb hown (hts (.constant RX2 22 (-1000009)) (by decide +kernel)) dX2_firstThatWas_28 ?_
      exact W.iret (v := (-1000009)) hx hb hr (fun t ht hW => ⟨⟨(-1000009), M, rfl, ⟨by rw [← e7, ha]; rfl, rfl⟩, fl_qi ht hP⟩, hS.F ht⟩) hS.2.2 dX2_firstThatWas_30
    · have l7 : i < n := Nat.lt_of_not_le (fun q => hc7 ((nI_leI (by omega) (by omega)).mpr q))
      refine lv_aload_n hx hb dX2_firstThatWas_10 rfl (lv_at hl 0 rfl) ?_
      refine va_get (D := D) (ci := 4) (v := .ref (ad 12)) (C := RX2) (T := TX2) (N := 13) hx hb hts inX2 hown hK hP 8 (fl_at (by decide) rfl) rfl 1 (by decide) (hts (.fieldLink RX2 18 "ResampledRows$Run" "origins" "[I") (by decide +kernel)) (fun _ h9 => h9) rfl dX2_firstThatWas_11 ?_
      refine lv_iload_n hx hb dX2_firstThatWas_14 rfl (lv_at hl 2 rfl) ?_
      refine fl_ild (n := 16) (k := i) hx hb hK hP (fc_a cI cII ad _ rfl (by decide)) rfl rfl (by omega) (by decide) dX2_firstThatWas_15 ?_
      refine fl_ti (y := nI (og i)) ((hog i l7).1) ?_
      refine lv_iload_n hx hb dX2_firstThatWas_16 rfl (lv_at hl 1 rfl) ?_
      refine lv_icmp_ne (tgt := 22) hx hb dX2_firstThatWas_17 (by decide) (fun hc17 => ?_) (fun hc17 => ?_)
      · have g17 : og i ≠ k := fun q => hc17 (by rw [q])
        refine lv_iinc (v := nI (i + 1)) (lv' := [(2, .int (nI (i + 1))), (0, .ref (ad 8)), (1, .int (nI k))]) hx hb dX2_firstThatWas_22 hl (k := 2) rfl (fl_inc i) (by decide) rfl (fun ls hl => ?_)
        refine lv_goto (tgt := 2) hx hb dX2_firstThatWas_25 (by decide) ?_
        exact ih2 (i + 1) (by omega) (a_find_none ha g17) (by omega) _ _ hP hS ls (lv_sub hl [1, 2, 0] rfl)
      · have g17 : og i = k := (nI_eq (by have := (hog i l7).2; omega) hk).mp hc17
        refine lv_iload_n hx hb dX2_firstThatWas_20 rfl (lv_at hl 2 rfl) ?_
        exact W.iret (v := nI i) hx hb hr (fun t ht hW => ⟨⟨nI i, M, rfl, ⟨by rw [a_find_some ha g17 n (by omega)]; rfl, rfl⟩, fl_qi ht hP⟩, hS.F ht⟩) hS.2.2 dX2_firstThatWas_21
end
section
/-! ROWS DRAWN ONE AFTER THE OTHER: the draws behind i rows, and the state of row k. -/
def a_dl (W : Nat → Nat → Nat) (d : a_D) : Nat → a_D
  | 0 => d
  | r + 1 => (a_by (W r) 6 (a_dl W d r)).2
def a_st (W : Nat → Nat → Nat) (d : a_D) (k : Nat) : Nat := ((a_by (W k) 6 (a_dl W d k)).1).getD 0
theorem a_by_some {w : Nat → Nat} {n : Nat} {d : a_D} (h : a_sum w n ≠ 0) : (a_by w n d).1 = some ((a_by w n d).1.getD 0) := by
  unfold a_by
  rw [if_neg h]
  rfl
theorem a_by_none {w : Nat → Nat} {n : Nat} {d : a_D} (h : a_sum w n = 0) : a_by w n d = (none, d) := if_pos h
theorem a_st_lt {W : Nat → Nat → Nat} {d : a_D} {k : Nat} (h : a_sum (W k) 6 ≠ 0) : a_st W d k < 6 := a_by_lt (a_by_some h)
theorem a_dl_congr {W V : Nat → Nat → Nat} {d : a_D} : ∀ i, (∀ k, k < i → ∀ j, j < 6 → W k j = V k j) → a_dl W d i = a_dl V d i
  | 0, _ => rfl
  | i + 1, h => by
    show (a_by (W i) 6 (a_dl W d i)).2 = (a_by (V i) 6 (a_dl V d i)).2
    rw [a_dl_congr i (fun k hk => h k (by omega)), a_by_congr (h i (by omega))]
def a_r0 : a_R := (0, 0, 0, none, FP.dconst1, fun _ => 0, fun _ => 0, fun _ _ => 0, fun _ => 0)
def a_rB (n : Nat) (st : Nat → Nat) : a_R := (n, 0, 0, none, FP.dconst1, st, fun _ => 1, fun k _ => st k, fun _ => 0)
/-- the cells that a step or a beginning leaves alone -/
def fc_PB (c : Nat) : Prop := c < 6 ∨ c = 7 ∨ (9 ≤ c ∧ c ≤ 12) ∨ (19 ≤ c ∧ c < 30)
def fc_BG (M : fl_M) (d : a_D) (ss : Nat → Nat) (i : Nat) (M3 : fl_M) : Prop :=
  fc_D (a_dl (fun _ => ss) d i) M3 ∧ (M3.1 8 2 = 0 ∧ M3.1 8 3 = 0 ∧ M3.1 8 4 = 0 ∧ M3.1 8 5 = -1000009 ∧ M3.2.2.1 8 = FP.dconst1) ∧ M3.2.2.2 8 = M.2.2.2 8 ∧ fl_row (M3.1 (M.2.2.2 8 7)) (a_st (fun _ => ss) d) i 6 ∧ fl_row (M3.1 (M.2.2.2 8 8)) (fun _ => 1) i 1000001 ∧ (∀ k, k < i → M3.1 (fc_hb (M.2.2.2 8 9) + k) 0 = nI (a_st (fun _ => ss) d k)) ∧ fl_eq fc_PB M M3
theorem fc_hb_in (c k : Nat) (hk : k < 16) : 30 ≤ fc_hb c + k ∧ fc_hb c + k < 62 := by
  unfold fc_hb
  split <;> omega
theorem fc_hb_or (c : Nat) : fc_hb c = 30 ∨ fc_hb c = 46 := by
  unfold fc_hb
  split
  · exact Or.inl rfl
  · exact Or.inr rfl
theorem fc_BG_s {M M3 M4 : fl_M} {d : a_D} {ss : Nat → Nat} {i v : Nat} (hsw : fc_sw (M.2.2.2 8)) (hi : i < 16) (h : fc_BG M d ss i M3) (h0 : a_sum ss 6 ≠ 0) (hv : v = a_st (fun _ => ss) d i) (hD : fc_D (a_by ss 6 (a_dl (fun _ => ss) d i)).2 M4) (he : fl_eq (fun c => c ≠ 6) M3 M4) :
    fc_BG M d ss (i + 1) (fl_sI (fl_sI (fl_sI M4 (M.2.2.2 8 7) i (nI v)) (M.2.2.2 8 8) i 1) (fc_hb (M.2.2.2 8 9) + i) 0 (nI v)) := by
  obtain ⟨-, ⟨g2, g3, g4, g5, g6⟩, g7, g8, g9, g10, g11⟩ := h
  have s1 := hsw.s1
  have s2 := hsw.s2
  have hb := fc_hb_in (M.2.2.2 8 9) i hi
  have e8 := he 8 (by decide)
  have keep : ∀ c, c ≠ M.2.2.2 8 7 → c ≠ M.2.2.2 8 8 → c ≠ fc_hb (M.2.2.2 8 9) + i → (fl_sI (fl_sI (fl_sI M4 (M.2.2.2 8 7) i (nI v)) (M.2.2.2 8 8) i 1) (fc_hb (M.2.2.2 8 9) + i) 0 (nI v)).1 c = M4.1 c := fun c a1 a2 a3 => by
    rw [fl_sI_ne _ _ _ _ a3, fl_sI_ne _ _ _ _ a2, fl_sI_ne _ _ _ _ a1]
  have hvl : v < 6 := by rw [hv]; exact a_st_lt h0
  refine ⟨?_, ⟨?_, ?_, ?_, ?_, ?_⟩, ?_, ?_, ?_, ?_, ?_⟩
  · refine fc_D.eq (P := fun c => c = 6 ∨ c = 7) hD (fun c hc => ⟨keep c (by omega) (by omega) (by omega), rfl, rfl, rfl⟩) (Or.inl rfl) (Or.inr rfl)
  · rw [keep 8 (by omega) (by omega) (by omega), e8.1]; exact g2
  · rw [keep 8 (by omega) (by omega) (by omega), e8.1]; exact g3
  · rw [keep 8 (by omega) (by omega) (by omega), e8.1]; exact g4
  · rw [keep 8 (by omega) (by omega) (by omega), e8.1]; exact g5
  · exact e8.2.2.1.trans g6
  · exact e8.2.2.2.trans g7
  · rw [fl_sI_ne _ _ _ _ (by omega), fl_sI_ne _ _ _ _ (by omega), fl_sI_same, (he (M.2.2.2 8 7) (by omega)).1]
    exact g8.push hv hvl
  · rw [fl_sI_ne _ _ _ _ (by omega), fl_sI_same, fl_sI_ne _ _ _ _ (by omega), (he (M.2.2.2 8 8) (by omega)).1]
    exact fl_row.push (v := 1) g9 rfl (by decide)
  · intro k hk
    by_cases e : k = i
    · subst e
      rw [fl_sI_same, pk_us, hv]
    · have hk2 := fc_hb_in (M.2.2.2 8 9) k (by omega)
      rw [keep _ (by omega) (by omega) (by omega), (he _ (by omega)).1]
      exact g10 k (by omega)
  · refine fl_eq.sI (fl_eq.sI (fl_eq.sI (g11.tr (he.mono (fun c hc => ?_))) ?_ _ _) ?_ _ _) ?_ _ _
    · unfold fc_PB at hc; omega
    · unfold fc_PB; omega
    · unfold fc_PB; omega
    · unfold fc_PB; omega
theorem fc_BG_0 {M : fl_M} {d : a_D} {ss : Nat → Nat} (hd : fc_D d M) : fc_BG M d ss 0 (fl_sG (fl_sI (fl_sI (fl_sI (fl_sI M 8 2 0) 8 3 0) 8 4 0) 8 5 (-1000009)) 8 FP.dconst1) := by
  refine ⟨?_, ⟨rfl, rfl, rfl, rfl, rfl⟩, rfl, fun k hk => absurd hk (Nat.not_lt_zero k), fun k hk => absurd hk (Nat.not_lt_zero k), fun k hk => absurd hk (Nat.not_lt_zero k), ?_⟩
  · exact fc_D.eq (P := fun c => c = 6 ∨ c = 7) hd (((((fl_eq.rf.sI (by decide) _ _).sI (by decide) _ _).sI (by decide) _ _).sI (by decide) _ _).sG (by decide) _) (Or.inl rfl) (Or.inr rfl)
  · refine ((((fl_eq.rf.sI ?_ _ _).sI ?_ _ _).sI ?_ _ _).sI ?_ _ _).sG ?_ _ <;> unfold fc_PB <;> omega
/-- the run as it is begun -/
theorem fc_BG_R {M M3 : fl_M} {d : a_D} {ss : Nat → Nat} {n : Nat} (hn : n ≤ 16) (hsw : fc_sw (M.2.2.2 8)) (h0 : a_sum ss 6 ≠ 0) (h : fc_BG M d ss n M3) : fc_R (a_rB n (a_st (fun _ => ss) d)) (fl_sI M3 8 2 (nI n)) := by
  obtain ⟨-, ⟨g2, g3, g4, g5, g6⟩, g7, g8, g9, g10, g11⟩ := h
  have s1 := hsw.s1
  have s2 := hsw.s2
  have eR : (fl_sI M3 8 2 (nI n)).2.2.2 8 = M.2.2.2 8 := g7
  refine ⟨⟨hn, rfl⟩, ⟨Nat.zero_le 30, ?_⟩, ⟨(show (0 : Nat) < 2 ^ 30 by decide), ?_⟩, ⟨?_, fun k hk => nomatch hk⟩, ?_, ?_, ?_, ?_, ?_, fun hk => absurd rfl hk⟩
  · exact g3
  · exact g4
  · exact g5
  · show alike64 (M3.2.2.1 8) FP.dconst1 = true
    rw [g6]
    exact alike64_refl _
  · rw [eR]; exact hsw
  · rw [eR, fl_sI_ne _ _ _ _ (by omega)]; exact g8
  · rw [eR, fl_sI_ne _ _ _ _ (by omega)]; exact g9
  · intro k hk
    have hb := fc_hb_in (M.2.2.2 8 9) k (by have : k < n := hk; omega)
    rw [eR, fl_sI_ne _ _ _ _ (by omega)]
    intro j hj
    have e : j = 0 := by
      have : j < 0 + 1 := hj
      omega
    subst e
    exact ⟨g10 k hk, a_st_lt (W := fun _ => ss) (d := d) (k := k) h0⟩
theorem fc_BG_L {M M3 : fl_M} {d : a_D} {ss : Nat → Nat} {i : Nat} (hsw : fc_sw (M.2.2.2 8)) (h : fc_BG M d ss i M3) : fc_R a_r0 M3 := by
  obtain ⟨-, ⟨g2, g3, g4, g5, g6⟩, g7, -, -, -, -⟩ := h
  refine ⟨⟨by decide, g2⟩, ⟨by decide, g3⟩, ⟨by decide, g4⟩, ⟨g5, fun k hk => nomatch hk⟩, ?_, by rw [g7]; exact hsw, fun k hk => absurd hk (Nat.not_lt_zero k), fun k hk => absurd hk (Nat.not_lt_zero k), fun k hk => absurd hk (Nat.not_lt_zero k), fun hk => absurd rfl hk⟩
  show alike64 (M3.2.2.1 8) FP.dconst1 = true
  rw [g6]
  exact alike64_refl _
/-! A STEP -/
def a_go (mv : Nat → Nat → Nat) (sg : Nat → Nat) (d : a_D) (r : a_R) : Int32 × a_D × a_R := match a_find (fun i => a_sum (mv (r_st r i)) 6) 0 (r_n r) with
  | some i => (-1000004, a_dl (fun k => mv (r_st r k)) d i, r)
  | none => if a_all (fun k => decide (r_wt r k * sg (a_st (fun k => mv (r_st r k)) d k) ≤ 1000000)) (r_n r) = true then (nI (r_sp r + 1), a_dl (fun k => mv (r_st r k)) d (r_n r), (r_n r, r_sp r + 1, r_an r, r_kp r, r_mu r, a_st (fun k => mv (r_st r k)) d, (fun k => r_wt r k * sg (a_st (fun k => mv (r_st r k)) d k)), (fun k i => if i = r_sp r + 1 then a_st (fun k => mv (r_st r k)) d k else r_hi r k i), r_og r)) else (-1000005, a_dl (fun k => mv (r_st r k)) d (r_n r), r)
theorem a_find_some0 {og : Nat → Nat} {k n i : Nat} (h : a_find og k i = none) (hi : og i = k) (hn : i < n) : a_find og k n = some i := a_find_some h hi n hn
theorem a_find_ne {og : Nat → Nat} {k : Nat} : ∀ {n : Nat}, a_find og k n = none → ∀ i, i < n → og i ≠ k
  | 0, _, i, hi => absurd hi (Nat.not_lt_zero i)
  | n + 1, h, i, hi => by
    intro q
    rcases hq : a_find og k i with _ | j
    · exact absurd (a_find_some hq q (n + 1) hi) (by rw [h]; intro z; cases z)
    · obtain ⟨a1, a2, a3⟩ := a_find_spec hq
      exact absurd (a_find_some a3 a2 (n + 1) (by omega)) (by rw [h]; intro z; cases z)
/-- the run's own cells stay when only the scratch rows and the draws change -/
theorem fc_R.scratch {r : a_R} {M M2 : fl_M} (h : fc_R r M) (he : fl_eq (fun c => c ≠ 6 ∧ c ≠ M.2.2.2 8 10 ∧ c ≠ M.2.2.2 8 11) M M2) : fc_R r M2 := by
  obtain ⟨⟨h1, h2⟩, ⟨h3, h4⟩, ⟨h5, h6⟩, ⟨h7, h8⟩, h9, h10, h11, h12, h13, h14⟩ := h
  have s1 := h10.s1
  have s2 := h10.s2
  have e8 := he 8 (by omega)
  refine ⟨⟨h1, by rw [e8.1]; exact h2⟩, ⟨h3, by rw [e8.1]; exact h4⟩, ⟨h5, by rw [e8.1]; exact h6⟩, ⟨by rw [e8.1]; exact h7, h8⟩, by rw [e8.2.2.1]; exact h9, by rw [e8.2.2.2]; exact h10, ?_, ?_, ?_, ?_⟩
  · rw [e8.2.2.2, (he (M.2.2.2 8 7) (by omega)).1]; exact h11
  · rw [e8.2.2.2, (he (M.2.2.2 8 8) (by omega)).1]; exact h12
  · intro k hk
    have hb := fc_hb_in (M.2.2.2 8 9) k (by omega)
    rw [e8.2.2.2, (he (fc_hb (M.2.2.2 8 9) + k) (by omega)).1]; exact h13 k hk
  · intro ha
    rw [(he 12 (by omega)).1]; exact h14 ha
/-- the memory after the exchange of rows and the count of steps -/
abbrev fc_swp (M : fl_M) : fl_M := fl_sR (fl_sR (fl_sR (fl_sR M 8 7 (M.2.2.2 8 10)) 8 10 (M.2.2.2 8 7)) 8 8 (M.2.2.2 8 11)) 8 11 (M.2.2.2 8 8)
theorem fc_swp_sw {M : fl_M} (h : fc_sw (M.2.2.2 8)) : fc_sw ((fc_swp M).2.2.2 8) := by
  have e7 : (fc_swp M).2.2.2 8 7 = M.2.2.2 8 10 := rfl
  have e10 : (fc_swp M).2.2.2 8 10 = M.2.2.2 8 7 := rfl
  have e8 : (fc_swp M).2.2.2 8 8 = M.2.2.2 8 11 := rfl
  have e11 : (fc_swp M).2.2.2 8 11 = M.2.2.2 8 8 := rfl
  have e9 : (fc_swp M).2.2.2 8 9 = M.2.2.2 8 9 := rfl
  have e12 : (fc_swp M).2.2.2 8 12 = M.2.2.2 8 12 := rfl
  unfold fc_sw at h ⊢
  rw [e7, e8, e9, e10, e11, e12]
  omega
theorem fc_step_R {r : a_R} {M M4 M5 : fl_M} {st wt : Nat → Nat} (h : fc_R r M) (hsp : r_sp r < 30)
    (he4 : fl_eq (fun c => c ≠ 6 ∧ c ≠ M.2.2.2 8 10 ∧ c ≠ M.2.2.2 8 11) M M4) (hst : fl_row (M4.1 (M.2.2.2 8 10)) st (r_n r) 6) (hwt : fl_row (M4.1 (M.2.2.2 8 11)) wt (r_n r) 1000001)
    (he5 : fl_eq (fun c => c < 30) (fl_sI (fc_swp M4) 8 3 (nI (r_sp r + 1))) M5) (hh : ∀ k, k < r_n r → M5.1 (fc_hb (M.2.2.2 8 9) + k) (r_sp r + 1) = nI (st k)) (ho : ∀ k, k < 16 → ∀ j, j ≠ r_sp r + 1 → M5.1 (fc_hb (M.2.2.2 8 9) + k) j = M4.1 (fc_hb (M.2.2.2 8 9) + k) j) :
    fc_R (r_n r, r_sp r + 1, r_an r, r_kp r, r_mu r, st, wt, (fun k i => if i = r_sp r + 1 then st k else r_hi r k i), r_og r) M5 := by
  obtain ⟨⟨h1, h2⟩, ⟨h3, h4⟩, ⟨h5, h6⟩, ⟨h7, h8⟩, h9, h10, h11, h12, h13, h14⟩ := h
  have s1 := h10.s1
  have s2 := h10.s2
  have e8 := he4 8 (by omega)
  have k8 := he5 8 (by omega)
  have eR : M4.2.2.2 8 = M.2.2.2 8 := e8.2.2.2
  have hsw4 : fc_sw (M4.2.2.2 8) := by rw [eR]; exact h10
  have q7 : M5.2.2.2 8 7 = M.2.2.2 8 10 := by rw [k8.2.2.2]; show M4.2.2.2 8 10 = _; rw [eR]
  have q8 : M5.2.2.2 8 8 = M.2.2.2 8 11 := by rw [k8.2.2.2]; show M4.2.2.2 8 11 = _; rw [eR]
  have q9 : M5.2.2.2 8 9 = M.2.2.2 8 9 := by rw [k8.2.2.2]; show M4.2.2.2 8 9 = _; rw [eR]
  refine ⟨⟨h1, ?_⟩, ⟨(show r_sp r + 1 ≤ 30 by omega), ?_⟩, ⟨h5, ?_⟩, ⟨?_, h8⟩, ?_, ?_, ?_, ?_, ?_, ?_⟩
  · rw [k8.1]; show M4.1 8 2 = _; rw [e8.1]; exact h2
  · rw [k8.1]; rfl
  · rw [k8.1]; show M4.1 8 4 = _; rw [e8.1]; exact h6
  · rw [k8.1]; show M4.1 8 5 = _; rw [e8.1]; exact h7
  · rw [k8.2.2.1]; show alike64 (M4.2.2.1 8) _ = true; rw [e8.2.2.1]; exact h9
  · rw [k8.2.2.2]; exact fc_swp_sw hsw4
  · rw [q7, (he5 (M.2.2.2 8 10) (by omega)).1, fl_sI_ne _ _ _ _ (by omega)]; exact hst
  · rw [q8, (he5 (M.2.2.2 8 11) (by omega)).1, fl_sI_ne _ _ _ _ (by omega)]; exact hwt
  · intro k hk
    have hk' : k < r_n r := hk
    rw [q9]
    intro j hj
    have hb := fc_hb_in (M.2.2.2 8 9) k (by omega)
    show M5.1 (fc_hb (M.2.2.2 8 9) + k) j = nI (if j = r_sp r + 1 then st k else r_hi r k j) ∧ (if j = r_sp r + 1 then st k else r_hi r k j) < 6
    by_cases e : j = r_sp r + 1
    · subst e
      rw [if_pos rfl]
      exact ⟨hh k hk', (hst k hk').2⟩
    · rw [if_neg e, ho k (by omega) j e, (he4 _ (by omega)).1]
      have hj2 : j < r_sp r + 1 + 1 := hj
      exact h13 k hk' j (by omega)
  · intro ha
    rw [(he5 12 (by omega)).1, fl_sI_ne _ _ _ _ (by decide)]
    show fl_row (M4.1 12) _ _ _
    rw [(he4 12 (by omega)).1]
    exact h14 ha
end
section
theorem fl_rdI (M : fl_M) (c k : Nat) (v : Int32) : (fl_sI M c k v).1 c k = v := by rw [fl_sI_same, pk_us]
theorem fl_rdJ (M : fl_M) (c k : Nat) (v : Int64) : (fl_sJ M c k v).2.1 c k = v := by rw [fl_sJ_same, pk_uLs]
theorem nI_nneg {v : Nat} (h : v < 2 ^ 31) {z : Int32} (hz : z < 0) : ¬ nI v = z := fun q => nI_pos h (q ▸ hz)
theorem a_oI_st {W : Nat → Nat → Nat} {d : a_D} {k : Nat} {z : Int32} (h : a_sum (W k) 6 ≠ 0) : a_oI (a_by (W k) 6 (a_dl W d k)).1 z = nI (a_st W d k) := by
  rw [a_by_some h]
  rfl
theorem a_oI_none {w : Nat → Nat} {n : Nat} {d : a_D} {z : Int32} (h : a_sum w n = 0) : a_oI (a_by w n d).1 z = z := by
  rw [a_by_none h]
  rfl

theorem fc_hh {M : fl_M} {b k3 sp : Nat} {st : Nat → Nat} (hh : ∀ k, k < k3 → M.1 (b + k) sp = nI (st k)) : ∀ k, k < k3 + 1 → (fl_sI M (b + k3) sp (nI (st k3))).1 (b + k) sp = nI (st k) := fun k hk => by
  by_cases e : k = k3
  · subst e
    rw [fl_sI_same, pk_us]
  · rw [fl_sI_ne _ _ _ _ (by omega)]
    exact hh k (by omega)
theorem fc_ho {M M4 : fl_M} {b k3 sp : Nat} {v : Int32} (ho : ∀ k, k < 16 → ∀ z, z ≠ sp → M.1 (b + k) z = M4.1 (b + k) z) : ∀ k, k < 16 → ∀ z, z ≠ sp → (fl_sI M (b + k3) sp v).1 (b + k) z = M4.1 (b + k) z := fun k hk z hz => by
  by_cases e : k = k3
  · subst e
    rw [fl_sI_same, pk_un hz]
    exact ho k hk z hz
  · rw [fl_sI_ne _ _ _ _ (by omega)]
    exact ho k hk z hz

set_option maxHeartbeats 4000000 in
set_option maxRecDepth 100000 in
theorem c_X2_beginWith (l : Launch) {D : va_G} {cI cJ cII : ClassId} {ad : Nat → Nat} (hJ : fl_inj 62 ad) (M : fl_M) (d : a_D) (n : Nat) (ss : Nat → Nat) (hn0 : 0 < n) (hn : n ≤ 16) (hd : fc_D d M) (hss : fl_row (M.1 2) ss 6 10) (hsw : fc_sw (M.2.2.2 8)) : Met l yX2_beginWith wsX2_beginWith ({ frames := 3, cells := 0, slots := 0, locals := 67 } : Room) (fcPc D cI cJ cII ad M [.ref (ad 8), .int (nI n), .ref (ad 2), .ref (ad 6)]) (va_Qi (fun r M2 => (a_sum ss 6 = 0 ∧ r = -1000004 ∧ fc_D d M2 ∧ fc_R a_r0 M2 ∧ fl_eq fc_PB M M2) ∨ (a_sum ss 6 ≠ 0 ∧ r = nI n ∧ fc_D (a_dl (fun _ => ss) d n) M2 ∧ fc_R (a_rB n (a_st (fun _ => ss) d)) M2 ∧ fl_eq fc_PB M M2)) (fcQ D cI cII ad) (fl_A 62 ad)) 0 0 (fl_A 62 ad) := by
  refine Met.ofW (cc := cX2_beginWith) (maxL := 6) (ret := (some .int)) (by decide) rfl ?_
  intro p e s m args below meth c s₁ B hml hv
  obtain ⟨rfl, hP, hK, hN⟩ := hv
  have hx := B.exec
  have hb := B.bytes
  have hr := B.returns
  have hts := atoms_spec (ws := wsX2_beginWith) B.pre
  have hown : s.vm.findClass RX2 = some m.cls := findClass_of_methodNamed B.named
  have hlocks := B.notSynchronized
  have inX2 : ∀ w ∈ u_ws RX2 TX2 13, w ∈ wsX2_beginWith := by decide +kernel
  have hS : va_S (fl_A 62 ad) s.heap s.heap [] := va_S.rf
  have hl := lv_entry ([.ref (ad 8), .int (nI n), .ref (ad 2), .ref (ad 6)] : List Value) (n := 6) (Nat.le_of_ble_eq_true rfl)
  rw [lg_entry_eq]
  generalize (lg_sl ([.ref (ad 8), .int (nI n), .ref (ad 2), .ref (ad 6)] : List Value) ++ List.replicate (6 - (lg_sl ([.ref (ad 8), .int (nI n), .ref (ad 2), .ref (ad 6)] : List Value)).length) Slot.unset).toArray = ls at hl ⊢
  have hl : lv_has ls 6 [(0, .ref (ad 8)), (1, .int (nI n)), (2, .ref (ad 2)), (3, .ref (ad 6))] := hl
  have s1 := hsw.s1
  have s2 := hsw.s2
  refine lv_aload_n hx hb dX2_beginWith_0 rfl (lv_at hl 0 rfl) ?_
  refine va_callv (va_runV (As := []) (rest := []) ⟨hx, hb, hml, hown, hts⟩ (c_X2_end l hJ M) (cwV 0 hts gX2_beginWith_X2_end rfl rfl rfl (by decide +kernel) ⟨Nat.le_of_ble_eq_true rfl, Nat.le_of_ble_eq_true rfl⟩) ⟨fl_blind, va_recv hK hP (ci := 4) (q0 := 8) rfl (fl_at (by decide) rfl), fl_pre hP hK hN⟩ rfl rfl hl.1 rfl (lv_room (Nat.le_of_ble_eq_true rfl)) dX2_beginWith_1 ⟨Nat.le_of_ble_eq_true rfl, Nat.le_of_ble_eq_true rfl⟩) hS (fun _ _ h => h) (fun _ h => h) (fun M1 t H1 locs ht hvm hw hB hz1 hk1 hS => ?_)
  have hP : va_P D vwCl (fcP cI cII ad M1) H1 := by rw [← ht]; exact hB
  clear hB hk1 hz1 hvm ht t
  rw [hw] at hP
  refine lv_iconst (v := 0) hx hb dX2_beginWith_4 (by decide) ?_
  refine lv_istore (lv' := [(4, .int 0), (0, .ref (ad 8)), (1, .int (nI n)), (2, .ref (ad 2)), (3, .ref (ad 6))]) hx hb dX2_beginWith_5 hl (by decide) rfl (fun ls hl => ?_)
  suffices KL7 : ∀ (f : Nat) (i : Nat) (M3 : fl_M) (hi : i ≤ n) (hB : fc_BG M d ss i M3) (hz : i = 0 ∨ a_sum ss 6 ≠ 0) (hf : n + 1 ≤ i + f), ∀ (H : Heap) (locs : List Loc), va_P D vwCl (fcP cI cII ad M3) H → va_S (fl_A 62 ad) s.heap H locs → ∀ (ls : Array Slot), lv_has ls 6 [(0, .ref (ad 8)), (1, .int (nI n)), (2, .ref (ad 2)), (3, .ref (ad 6)), (4, .int (nI i))] → W p l e (headSpec wsX2_beginWith ({ frames := 3, cells := 0, slots := 0, locals := 67 } : Room)).room s m ([.ref (ad 8), .int (nI n), .ref (ad 2), .ref (ad 6)] : List Value).toArray below meth c H locs 0 0 (MQ below (va_Qi (fun r M2 => (a_sum ss 6 = 0 ∧ r = -1000004 ∧ fc_D d M2 ∧ fc_R a_r0 M2 ∧ fl_eq fc_PB M M2) ∨ (a_sum ss 6 ≠ 0 ∧ r = nI n ∧ fc_D (a_dl (fun _ => ss) d n) M2 ∧ fc_R (a_rB n (a_st (fun _ => ss) d)) M2 ∧ fl_eq fc_PB M M2)) (fcQ D cI cII ad) (fl_A 62 ad)) ([.ref (ad 8), .int (nI n), .ref (ad 2), .ref (ad 6)] : List Value).toArray s 0 0 (fl_A 62 ad)) (F0 m 7 ls []) from KL7 (n + 1) 0 _ (Nat.zero_le n) (fc_BG_0 hd) (Or.inl rfl) (by omega) _ _ hP hS ls (lv_sub hl [1, 2, 3, 4, 0] rfl)
  intro f
  induction f with
  | zero =>
    intro i M3 hi hB hz hf
    omega
  | succ f ih7 =>
    intro i M3 hi hB hz hf H locs hP hS ls hl
    refine lv_iload hx hb dX2_beginWith_7 (lv_at hl 4 rfl) ?_
    refine lv_iload_n hx hb dX2_beginWith_9 rfl (lv_at hl 1 rfl) ?_
    refine lv_icmp_ge (tgt := 66) hx hb dX2_beginWith_10 (by decide) (fun hc10 => ?_) (fun hc10 => ?_)
    · have e10 : i = n := Nat.le_antisymm hi ((nI_leI (by omega) (by omega)).mp hc10)
      have h0 : a_sum ss 6 ≠ 0 := hz.resolve_left (by omega)
      have hBn : fc_BG M d ss n M3 := e10 ▸ hB
      refine lv_aload_n hx hb dX2_beginWith_66 rfl (lv_at hl 0 rfl) ?_
      refine lv_iload_n hx hb dX2_beginWith_67 rfl (lv_at hl 1 rfl) ?_
      refine fl_put (ci := 4) (ty := .int) (v := .int (nI n)) (C := RX2) (T := TX2) (Nf := 13) hx hb hts inX2 tyX2 tyX2_ok nmX2 hown hK hJ hP hS 8 (by decide) (fl_sI M3 8 2 (nI n)) rfl rfl 2 (by decide) (hts (.fieldLink RX2 51 "ResampledRows$Run" "n" "I") (by decide +kernel)) (fun _ h9 => h9) rfl (by decide +kernel) rfl rfl (Nat.le_of_ble_eq_true rfl) rfl (fl_sI_o (fc_loc cI cII ad) _ _ _ _) dX2_beginWith_68 (fun H locs hP hS => ?_)
      refine lv_iload_n hx hb dX2_beginWith_71 rfl (lv_at hl 1 rfl) ?_
      exact W.iret (v := nI n) hx hb hr (fun t ht hW => ⟨⟨nI n, (fl_sI M3 8 2 (nI n)), rfl, Or.inr ⟨h0, rfl, hBn.1.eq (P := fun c => c = 6 ∨ c = 7) (fl_eq.rf.sI (by decide) _ _) (Or.inl rfl) (Or.inr rfl), fc_BG_R hn hsw h0 hBn, hBn.2.2.2.2.2.2.sI (by unfold fc_PB; omega) _ _⟩, fl_qi ht hP⟩, hS.F ht⟩) hS.2.2 dX2_beginWith_72
    · have l10 : i < n := Nat.lt_of_not_le (fun q => hc10 ((nI_leI (by omega) (by omega)).mpr q))
      have hrow : ∀ k, k < 6 → M3.1 2 k = nI (ss k) ∧ ss k < 2 ^ 31 := fun k hk => by
        rw [(hB.2.2.2.2.2.2 2 (by unfold fc_PB; omega)).1]
        exact ⟨(hss k hk).1, by have := (hss k hk).2; omega⟩
      have hT : a_sum ss 6 < 2 ^ 31 := by have := a_row_le (B := 9) hss; omega
      refine lv_aload_n hx hb dX2_beginWith_13 rfl (lv_at hl 3 rfl) ?_
      refine lv_aload_n hx hb dX2_beginWith_14 rfl (lv_at hl 2 rfl) ?_
      refine lv_bipush (v := 6) hx hb dX2_beginWith_15 (by decide) ?_
      refine fl_ti (y := nI 6) rfl ?_
      refine va_calli (va_runV (As := [.ref (ad 2), .int (nI 6)]) (rest := []) ⟨hx, hb, hml, hown, hts⟩ (c_X0_byWeights l hJ M3 (a_dl (fun _ => ss) d i) 2 6 6 ss rfl (by decide) (by decide) (by decide) hrow hT hB.1) (cwV 2 hts gX2_beginWith_X0_byWeights rfl rfl rfl (by decide +kernel) ⟨Nat.le_of_ble_eq_true rfl, Nat.le_of_ble_eq_true rfl⟩) ⟨fl_blind, va_recv hK hP (ci := 2) (q0 := 6) rfl (fl_at (by decide) rfl), fl_pre hP hK hN⟩ rfl rfl hl.1 rfl (lv_room (Nat.le_of_ble_eq_true rfl)) dX2_beginWith_17 ⟨Nat.le_of_ble_eq_true rfl, Nat.le_of_ble_eq_true rfl⟩) hS (fun _ _ h => h) (fun _ h => h) (fun r17 M17 t H1 locs ht hvm hw hB hz1 hk1 hS => ?_)
      have hP : va_P D vwCl (fcP cI cII ad M17) H1 := by rw [← ht]; exact hB
      clear hB hk1 hz1 hvm ht t
      obtain ⟨rfl, hD4, he4⟩ := hw
      by_cases h0 : a_sum ss 6 = 0
      · have i0 : i = 0 := hz.resolve_right (fun q => q h0)
        refine fl_ti (y := -1000004) (a_oI_none h0) ?_
        refine lv_istore (lv' := [(5, .int (-1000004)), (0, .ref (ad 8)), (1, .int (nI n)), (2, .ref (ad 2)), (3, .ref (ad 6)), (4, .int (nI i))]) hx hb dX2_beginWith_20 hl (by decide) rfl (fun ls hl => ?_)
        refine lv_iload hx hb dX2_beginWith_22 (lv_at hl 0 rfl) ?_
        refine lv_ldc (v := -1000004) hx hb hown (hts (.constant RX2 73 (-1000004)) (by decide +kernel)) dX2_beginWith_24 ?_
        refine lv_icmp_ne (tgt := 32) hx hb dX2_beginWith_26 (by decide) (fun hc26 => ?_) (fun hc26 => ?_)
        · exact absurd rfl hc26
        · refine lv_ldc (v := -1000004) hx hb hown (hts (.constant RX2 73 (-1000004)) (by decide +kernel)) dX2_beginWith_29 ?_
          exact W.iret (v := (-1000004)) hx hb hr (fun t ht hW => ⟨⟨(-1000004), M17, rfl, Or.inl ⟨h0, rfl, by rw [a_by_none h0, i0] at hD4; exact hD4, (fc_BG_L hsw hB).eq he4 (fun c hc => by omega), hB.2.2.2.2.2.2.tr (he4.mono (fun c hc => by unfold fc_PB at hc; omega))⟩, fl_qi ht hP⟩, hS.F ht⟩) hS.2.2 dX2_beginWith_31
      · obtain ⟨v, hv⟩ : ∃ v, v = a_st (fun _ => ss) d i := ⟨_, rfl⟩
        have hv6 : v < 6 := by rw [hv]; exact a_st_lt (W := fun _ => ss) h0
        refine fl_ti (y := nI v) (by rw [hv]; exact a_oI_st (W := fun _ => ss) h0) ?_
        have hR17 : M17.2.2.2 8 = M.2.2.2 8 := (he4 8 (by decide)).2.2.2.trans hB.2.2.1
        refine lv_istore (lv' := [(5, .int (nI v)), (0, .ref (ad 8)), (1, .int (nI n)), (2, .ref (ad 2)), (3, .ref (ad 6)), (4, .int (nI i))]) hx hb dX2_beginWith_20 hl (by decide) rfl (fun ls hl => ?_)
        refine lv_iload hx hb dX2_beginWith_22 (lv_at hl 0 rfl) ?_
        refine lv_ldc (v := -1000004) hx hb hown (hts (.constant RX2 73 (-1000004)) (by decide +kernel)) dX2_beginWith_24 ?_
        refine lv_icmp_ne (tgt := 32) hx hb dX2_beginWith_26 (by decide) (fun hc26 => ?_) (fun hc26 => ?_)
        · refine lv_aload_n hx hb dX2_beginWith_32 rfl (lv_at hl 1 rfl) ?_
          refine va_get (D := D) (ci := 4) (v := .ref (ad (M17.2.2.2 8 7))) (C := RX2) (T := TX2) (N := 13) hx hb hts inX2 hown hK hP 8 (fl_at (by decide) rfl) rfl 7 (by decide) (hts (.fieldLink RX2 31 "ResampledRows$Run" "states" "[I") (by decide +kernel)) (fun _ h9 => h9) rfl dX2_beginWith_33 ?_
          refine fl_top (y := .ref (ad (M.2.2.2 8 7))) (by rw [hR17]) ?_
          refine lv_iload hx hb dX2_beginWith_36 (lv_at hl 5 rfl) ?_
          refine lv_iload hx hb dX2_beginWith_38 (lv_at hl 0 rfl) ?_
          refine fl_ist (n := 16) (k := i) (x := nI v) hx hb hK hJ hP hS (fc_loc cI cII ad) (fc_a cI cII ad _ hsw.l7 (by decide)) (fc_arr cI cII ad _ hsw.l7 (by decide)).2 rfl rfl (by omega) (by decide) dX2_beginWith_40 (fun H locs hP hS => ?_)
          refine lv_aload_n hx hb dX2_beginWith_41 rfl (lv_at hl 1 rfl) ?_
          refine va_get (D := D) (ci := 4) (v := .ref (ad (M17.2.2.2 8 8))) (C := RX2) (T := TX2) (N := 13) hx hb hts inX2 hown hK hP 8 (fl_at (by decide) rfl) rfl 8 (by decide) (hts (.fieldLink RX2 34 "ResampledRows$Run" "weights" "[I") (by decide +kernel)) (fun _ h9 => h9) rfl dX2_beginWith_42 ?_
          refine fl_top (y := .ref (ad (M.2.2.2 8 8))) (by rw [hR17]) ?_
          refine lv_iload hx hb dX2_beginWith_45 (lv_at hl 5 rfl) ?_
          refine lv_iconst (v := 1) hx hb dX2_beginWith_47 (by decide) ?_
          refine fl_ist (n := 16) (k := i) (x := 1) hx hb hK hJ hP hS (fc_loc cI cII ad) (fc_a cI cII ad _ hsw.l8 (by decide)) (fc_arr cI cII ad _ hsw.l8 (by decide)).2 rfl rfl (by omega) (by decide) dX2_beginWith_48 (fun H locs hP hS => ?_)
          refine lv_aload_n hx hb dX2_beginWith_49 rfl (lv_at hl 1 rfl) ?_
          refine va_get (D := D) (ci := 4) (v := .ref (ad (M17.2.2.2 8 9))) (C := RX2) (T := TX2) (N := 13) hx hb hts inX2 hown hK hP 8 (fl_at (by decide) rfl) rfl 9 (by decide) (hts (.fieldLink RX2 39 "ResampledRows$Run" "histories" "[[I") (by decide +kernel)) (fun _ h9 => h9) rfl dX2_beginWith_50 ?_
          refine fl_top (y := .ref (ad (M.2.2.2 8 9))) (by rw [hR17]) ?_
          refine lv_iload hx hb dX2_beginWith_53 (lv_at hl 5 rfl) ?_
          refine fl_ald (k := i) (f := fun j => ad (fc_hb (M.2.2.2 8 9) + j)) hx hb hK hP (fc_hat cI cII ad _ hsw.s3.1) rfl rfl (by omega) (by decide) dX2_beginWith_55 ?_
          refine lv_iconst (v := 0) hx hb dX2_beginWith_56 (by decide) ?_
          refine lv_iload hx hb dX2_beginWith_57 (lv_at hl 0 rfl) ?_
          refine fl_ist (n := 31) (k := 0) (x := nI v) hx hb hK hJ hP hS (fc_loc cI cII ad) (fc_a cI cII ad _ (fc_hb_len (by omega)) (by decide)) (fc_arr cI cII ad _ (fc_hb_len (by omega)) (by decide)).2 rfl rfl (by omega) (by decide) dX2_beginWith_59 (fun H locs hP hS => ?_)
          refine lv_iinc (v := nI (i + 1)) (lv' := [(4, .int (nI (i + 1))), (5, .int (nI v)), (0, .ref (ad 8)), (1, .int (nI n)), (2, .ref (ad 2)), (3, .ref (ad 6))]) hx hb dX2_beginWith_60 hl (k := 5) rfl (fl_inc i) (by decide) rfl (fun ls hl => ?_)
          refine lv_goto (tgt := 7) hx hb dX2_beginWith_63 (by decide) ?_
          exact ih7 (i + 1) (fl_sI (fl_sI (fl_sI M17 (M.2.2.2 8 7) i (nI v)) (M.2.2.2 8 8) i 1) (fc_hb (M.2.2.2 8 9) + i) 0 (nI v)) (by omega) (fc_BG_s hsw (by omega) hB h0 hv hD4 he4) (Or.inr h0) (by omega) _ _ hP hS ls (lv_sub hl [2, 3, 4, 5, 0] rfl)
        · exact absurd hc26 (nI_nneg (by omega) (by decide))

set_option maxHeartbeats 4000000 in
set_option maxRecDepth 100000 in
theorem c_X2_goOn (l : Launch) {D : va_G} {cI cJ cII : ClassId} {ad : Nat → Nat} (hJ : fl_inj 62 ad) (M : fl_M) (d : a_D) (r : a_R) (mv : Nat → Nat → Nat) (sg : Nat → Nat) (j : Nat) (hj : j < 5) (hr0 : fc_R r M) (hsp : r_sp r < 30) (hd : fc_D d M) (hmv : ∀ i, i < 6 → fl_row (M.1 (19 + i)) (mv i) 6 10) (hsg : fl_row (M.1 (25 + j)) sg 6 10) : Met l yX2_goOn wsX2_goOn ({ frames := 3, cells := 0, slots := 0, locals := 67 } : Room) (fcPc D cI cJ cII ad M [.ref (ad 8), .ref (ad 3), .ref (ad (25 + j)), .ref (ad 6)]) (va_Qi (fun r2 M2 => r2 = (a_go mv sg d r).1 ∧ fc_D (a_go mv sg d r).2.1 M2 ∧ fc_R (a_go mv sg d r).2.2 M2 ∧ fl_eq fc_PB M M2) (fcQ D cI cII ad) (fl_A 62 ad)) 0 0 (fl_A 62 ad) := by
  refine Met.ofW (cc := cX2_goOn) (maxL := 6) (ret := (some .int)) (by decide) rfl ?_
  intro p e s m args below meth c s₁ B hml hv
  obtain ⟨rfl, hP, hK, hN⟩ := hv
  have hx := B.exec
  have hb := B.bytes
  have hr := B.returns
  have hts := atoms_spec (ws := wsX2_goOn) B.pre
  have hown : s.vm.findClass RX2 = some m.cls := findClass_of_methodNamed B.named
  have hlocks := B.notSynchronized
  have inX2 : ∀ w ∈ u_ws RX2 TX2 13, w ∈ wsX2_goOn := by decide +kernel
  have hS : va_S (fl_A 62 ad) s.heap s.heap [] := va_S.rf
  have hl := lv_entry ([.ref (ad 8), .ref (ad 3), .ref (ad (25 + j)), .ref (ad 6)] : List Value) (n := 6) (Nat.le_of_ble_eq_true rfl)
  rw [lg_entry_eq]
  generalize (lg_sl ([.ref (ad 8), .ref (ad 3), .ref (ad (25 + j)), .ref (ad 6)] : List Value) ++ List.replicate (6 - (lg_sl ([.ref (ad 8), .ref (ad 3), .ref (ad (25 + j)), .ref (ad 6)] : List Value)).length) Slot.unset).toArray = ls at hl ⊢
  have hl : lv_has ls 6 [(0, .ref (ad 8)), (1, .ref (ad 3)), (2, .ref (ad (25 + j))), (3, .ref (ad 6))] := hl
  obtain ⟨⟨h1, h2⟩, ⟨h3, h4⟩, -, -, -, h10, h11, h12, -, -⟩ := id hr0
  have s1 := h10.s1
  have s2 := h10.s2
  refine lv_iconst (v := 0) hx hb dX2_goOn_0 (by decide) ?_
  refine lv_istore (lv' := [(4, .int 0), (0, .ref (ad 8)), (1, .ref (ad 3)), (2, .ref (ad (25 + j))), (3, .ref (ad 6))]) hx hb dX2_goOn_1 hl (by decide) rfl (fun ls hl => ?_)
  suffices KL3 : ∀ (f : Nat) (i : Nat) (M3 : fl_M) (hi : i ≤ r_n r) (hD : fc_D (a_dl (fun k => mv (r_st r k)) d i) M3) (hrow : fl_row (M3.1 (M.2.2.2 8 10)) (a_st (fun k => mv (r_st r k)) d) i 6) (hnf : a_find (fun i => a_sum (mv (r_st r i)) 6) 0 i = none) (he : fl_eq (fun c => c ≠ 6 ∧ c ≠ M.2.2.2 8 10) M M3) (hf : r_n r + 1 ≤ i + f), ∀ (H : Heap) (locs : List Loc), va_P D vwCl (fcP cI cII ad M3) H → va_S (fl_A 62 ad) s.heap H locs → ∀ (ls : Array Slot), lv_has ls 6 [(0, .ref (ad 8)), (1, .ref (ad 3)), (2, .ref (ad (25 + j))), (3, .ref (ad 6)), (4, .int (nI i))] → W p l e (headSpec wsX2_goOn ({ frames := 3, cells := 0, slots := 0, locals := 67 } : Room)).room s m ([.ref (ad 8), .ref (ad 3), .ref (ad (25 + j)), .ref (ad 6)] : List Value).toArray below meth c H locs 0 0 (MQ below (va_Qi (fun r2 M2 => r2 = (a_go mv sg d r).1 ∧ fc_D (a_go mv sg d r).2.1 M2 ∧ fc_R (a_go mv sg d r).2.2 M2 ∧ fl_eq fc_PB M M2) (fcQ D cI cII ad) (fl_A 62 ad)) ([.ref (ad 8), .ref (ad 3), .ref (ad (25 + j)), .ref (ad 6)] : List Value).toArray s 0 0 (fl_A 62 ad)) (F0 m 3 ls []) from KL3 (r_n r + 1) 0 M (Nat.zero_le _) hd (fun k hk => absurd hk (Nat.not_lt_zero k)) rfl fl_eq.rf (by omega) _ _ hP hS ls (lv_sub hl [1, 2, 3, 4, 0] rfl)
  intro f
  induction f with
  | zero =>
    intro i M3 hi hD hrow hnf he hf
    omega
  | succ f ih3 =>
    intro i M3 hi hD hrow hnf he hf H locs hP hS ls hl
    have hn3 : M3.1 8 2 = nI (r_n r) := by rw [(he 8 (by omega)).1]; exact h2
    have hR3 : M3.2.2.2 8 = M.2.2.2 8 := (he 8 (by omega)).2.2.2
    refine lv_iload hx hb dX2_goOn_3 (lv_at hl 4 rfl) ?_
    refine lv_aload_n hx hb dX2_goOn_5 rfl (lv_at hl 0 rfl) ?_
    refine va_get (D := D) (ci := 4) (v := .int (M3.1 8 2)) (C := RX2) (T := TX2) (N := 13) hx hb hts inX2 hown hK hP 8 (fl_at (by decide) rfl) rfl 2 (by decide) (hts (.fieldLink RX2 51 "ResampledRows$Run" "n" "I") (by decide +kernel)) (fun _ h9 => h9) rfl dX2_goOn_6 ?_
    refine fl_ti (y := nI (r_n r)) hn3 ?_
    refine lv_icmp_ge (tgt := 54) hx hb dX2_goOn_9 (by decide) (fun hc9 => ?_) (fun hc9 => ?_)
    · have e9 : i = r_n r := Nat.le_antisymm hi ((nI_leI (by omega) (by omega)).mp hc9)
      have hrowN : fl_row (M3.1 (M.2.2.2 8 10)) (a_st (fun k => mv (r_st r k)) d) (r_n r) 6 := e9 ▸ hrow
      have hnfN : a_find (fun i => a_sum (mv (r_st r i)) 6) 0 (r_n r) = none := e9 ▸ hnf
      have hDN : fc_D (a_dl (fun k => mv (r_st r k)) d (r_n r)) M3 := e9 ▸ hD
      refine lv_iconst (v := 0) hx hb dX2_goOn_54 (by decide) ?_
      refine lv_istore (lv' := [(4, .int 0), (0, .ref (ad 8)), (1, .ref (ad 3)), (2, .ref (ad (25 + j))), (3, .ref (ad 6))]) hx hb dX2_goOn_55 hl (by decide) rfl (fun ls hl => ?_)
      suffices KL57 : ∀ (f : Nat) (k2 : Nat) (M4 : fl_M) (hi2 : k2 ≤ r_n r) (hrow2 : fl_row (M4.1 (M.2.2.2 8 11)) (fun k => r_wt r k * sg (a_st (fun k => mv (r_st r k)) d k)) k2 1000001) (hall : a_all (fun k => decide (r_wt r k * sg (a_st (fun k => mv (r_st r k)) d k) ≤ 1000000)) k2 = true) (he2 : fl_eq (fun c => c ≠ M.2.2.2 8 11) M3 M4) (hf2 : r_n r + 1 ≤ k2 + f), ∀ (H : Heap) (locs : List Loc), va_P D vwCl (fcP cI cII ad M4) H → va_S (fl_A 62 ad) s.heap H locs → ∀ (ls : Array Slot), lv_has ls 6 [(0, .ref (ad 8)), (1, .ref (ad 3)), (2, .ref (ad (25 + j))), (3, .ref (ad 6)), (4, .int (nI k2))] → W p l e (headSpec wsX2_goOn ({ frames := 3, cells := 0, slots := 0, locals := 67 } : Room)).room s m ([.ref (ad 8), .ref (ad 3), .ref (ad (25 + j)), .ref (ad 6)] : List Value).toArray below meth c H locs 0 0 (MQ below (va_Qi (fun r2 M2 => r2 = (a_go mv sg d r).1 ∧ fc_D (a_go mv sg d r).2.1 M2 ∧ fc_R (a_go mv sg d r).2.2 M2 ∧ fl_eq fc_PB M M2) (fcQ D cI cII ad) (fl_A 62 ad)) ([.ref (ad 8), .ref (ad 3), .ref (ad (25 + j)), .ref (ad 6)] : List Value).toArray s 0 0 (fl_A 62 ad)) (F0 m 57 ls []) from KL57 (r_n r + 1) 0 M3 (Nat.zero_le _) (fun k hk => absurd hk (Nat.not_lt_zero k)) rfl fl_eq.rf (by omega) _ _ hP hS ls (lv_sub hl [1, 2, 3, 4, 0] rfl)
      intro f
      induction f with
      | zero =>
        intro k2 M4 hi2 hrow2 hall he2 hf2
        omega
      | succ f ih57 =>
        intro k2 M4 hi2 hrow2 hall he2 hf2 H locs hP hS ls hl
        have hn4 : M4.1 8 2 = nI (r_n r) := by rw [(he2 8 (by omega)).1]; exact hn3
        have hR4 : M4.2.2.2 8 = M.2.2.2 8 := (he2 8 (by omega)).2.2.2.trans hR3
        refine lv_iload hx hb dX2_goOn_57 (lv_at hl 4 rfl) ?_
        refine lv_aload_n hx hb dX2_goOn_59 rfl (lv_at hl 0 rfl) ?_
        refine va_get (D := D) (ci := 4) (v := .int (M4.1 8 2)) (C := RX2) (T := TX2) (N := 13) hx hb hts inX2 hown hK hP 8 (fl_at (by decide) rfl) rfl 2 (by decide) (hts (.fieldLink RX2 51 "ResampledRows$Run" "n" "I") (by decide +kernel)) (fun _ h9 => h9) rfl dX2_goOn_60 ?_
        refine fl_ti (y := nI (r_n r)) hn4 ?_
        refine lv_icmp_ge (tgt := 111) hx hb dX2_goOn_63 (by decide) (fun hc63 => ?_) (fun hc63 => ?_)
        · have e63 : k2 = r_n r := Nat.le_antisymm hi2 ((nI_leI (by omega) (by omega)).mp hc63)
          have hallN : a_all (fun k => decide (r_wt r k * sg (a_st (fun k => mv (r_st r k)) d k) ≤ 1000000)) (r_n r) = true := e63 ▸ hall
          have hrow2N : fl_row (M4.1 (M.2.2.2 8 11)) (fun k => r_wt r k * sg (a_st (fun k => mv (r_st r k)) d k)) (r_n r) 1000001 := e63 ▸ hrow2
          have hs4 : (fc_swp M4).1 8 3 = nI (r_sp r) := by show M4.1 8 3 = _; rw [(he2 8 (by omega)).1, (he 8 (by omega)).1]; exact h4
          refine lv_aload_n hx hb dX2_goOn_111 rfl (lv_at hl 0 rfl) ?_
          refine va_callv (va_runV (As := []) (rest := []) ⟨hx, hb, hml, hown, hts⟩ (c_X2_takeNextStatesAndWeights l hJ M4) (cwV 0 hts gX2_goOn_X2_takeNextStatesAndWeights rfl rfl rfl (by decide +kernel) ⟨Nat.le_of_ble_eq_true rfl, Nat.le_of_ble_eq_true rfl⟩) ⟨fl_blind, va_recv hK hP (ci := 4) (q0 := 8) rfl (fl_at (by decide) rfl), fl_pre hP hK hN⟩ rfl rfl hl.1 rfl (lv_room (Nat.le_of_ble_eq_true rfl)) dX2_goOn_112 ⟨Nat.le_of_ble_eq_true rfl, Nat.le_of_ble_eq_true rfl⟩) hS (fun _ _ h => h) (fun _ h => h) (fun M112 t H1 locs ht hvm hw hB hz1 hk1 hS => ?_)
          have hP : va_P D vwCl (fcP cI cII ad M112) H1 := by rw [← ht]; exact hB
          clear hB hk1 hz1 hvm ht t
          rw [hw] at hP
          refine lv_aload_n hx hb dX2_goOn_115 rfl (lv_at hl 0 rfl) ?_
          refine lv_dup hx hb dX2_goOn_116 rfl ?_
          refine va_get (D := D) (ci := 4) (v := .int ((fc_swp M4).1 8 3)) (C := RX2) (T := TX2) (N := 13) hx hb hts inX2 hown hK hP 8 (fl_at (by decide) rfl) rfl 3 (by decide) (hts (.fieldLink RX2 54 "ResampledRows$Run" "steps" "I") (by decide +kernel)) (fun _ h9 => h9) rfl dX2_goOn_117 ?_
          refine fl_ti (y := nI (r_sp r)) hs4 ?_
          refine lv_iconst (v := 1) hx hb dX2_goOn_120 (by decide) ?_
          refine lv_iadd hx hb dX2_goOn_121 ?_
          refine fl_ti (y := nI (r_sp r + 1)) (nI_1 _) ?_
          refine fl_put (ci := 4) (ty := .int) (v := .int (nI (r_sp r + 1))) (C := RX2) (T := TX2) (Nf := 13) hx hb hts inX2 tyX2 tyX2_ok nmX2 hown hK hJ hP hS 8 (by decide) (fl_sI (fc_swp M4) 8 3 (nI (r_sp r + 1))) rfl rfl 3 (by decide) (hts (.fieldLink RX2 54 "ResampledRows$Run" "steps" "I") (by decide +kernel)) (fun _ h9 => h9) rfl (by decide +kernel) rfl rfl (Nat.le_of_ble_eq_true rfl) rfl (fl_sI_o (fc_loc cI cII ad) _ _ _ _) dX2_goOn_122 (fun H locs hP hS => ?_)
          refine lv_iconst (v := 0) hx hb dX2_goOn_125 (by decide) ?_
          refine lv_istore (lv' := [(4, .int 0), (0, .ref (ad 8)), (1, .ref (ad 3)), (2, .ref (ad (25 + j))), (3, .ref (ad 6))]) hx hb dX2_goOn_126 hl (by decide) rfl (fun ls hl => ?_)
          suffices KL128 : ∀ (f : Nat) (k3 : Nat) (M5 : fl_M) (hi3 : k3 ≤ r_n r) (he5 : fl_eq (fun c => c < 30) (fl_sI (fc_swp M4) 8 3 (nI (r_sp r + 1))) M5) (hh : ∀ k, k < k3 → M5.1 (fc_hb (M.2.2.2 8 9) + k) (r_sp r + 1) = nI (a_st (fun k => mv (r_st r k)) d k)) (ho : ∀ k, k < 16 → ∀ z, z ≠ r_sp r + 1 → M5.1 (fc_hb (M.2.2.2 8 9) + k) z = M4.1 (fc_hb (M.2.2.2 8 9) + k) z) (hf3 : r_n r + 1 ≤ k3 + f), ∀ (H : Heap) (locs : List Loc), va_P D vwCl (fcP cI cII ad M5) H → va_S (fl_A 62 ad) s.heap H locs → ∀ (ls : Array Slot), lv_has ls 6 [(0, .ref (ad 8)), (1, .ref (ad 3)), (2, .ref (ad (25 + j))), (3, .ref (ad 6)), (4, .int (nI k3))] → W p l e (headSpec wsX2_goOn ({ frames := 3, cells := 0, slots := 0, locals := 67 } : Room)).room s m ([.ref (ad 8), .ref (ad 3), .ref (ad (25 + j)), .ref (ad 6)] : List Value).toArray below meth c H locs 0 0 (MQ below (va_Qi (fun r2 M2 => r2 = (a_go mv sg d r).1 ∧ fc_D (a_go mv sg d r).2.1 M2 ∧ fc_R (a_go mv sg d r).2.2 M2 ∧ fl_eq fc_PB M M2) (fcQ D cI cII ad) (fl_A 62 ad)) ([.ref (ad 8), .ref (ad 3), .ref (ad (25 + j)), .ref (ad 6)] : List Value).toArray s 0 0 (fl_A 62 ad)) (F0 m 128 ls []) from KL128 (r_n r + 1) 0 _ (Nat.zero_le _) fl_eq.rf (fun k hk => absurd hk (Nat.not_lt_zero k)) (fun k hk z hz => by have := fc_hb_in (M.2.2.2 8 9) k hk; rw [fl_sI_ne _ _ _ _ (by omega)]; rfl) (by omega) _ _ hP hS ls (lv_sub hl [1, 2, 3, 4, 0] rfl)
          intro f
          induction f with
          | zero =>
            intro k3 M5 hi3 he5 hh ho hf3
            omega
          | succ f ih128 =>
            intro k3 M5 hi3 he5 hh ho hf3 H locs hP hS ls hl
            have hn5 : M5.1 8 2 = nI (r_n r) := by rw [(he5 8 (by omega)).1]; exact hn4
            have hs5 : M5.1 8 3 = nI (r_sp r + 1) := by rw [(he5 8 (by omega)).1]; rfl
            have q9 : M5.2.2.2 8 9 = M.2.2.2 8 9 := by rw [(he5 8 (by omega)).2.2.2]; show M4.2.2.2 8 9 = _; rw [hR4]
            have q7 : M5.2.2.2 8 7 = M.2.2.2 8 10 := by rw [(he5 8 (by omega)).2.2.2]; show M4.2.2.2 8 10 = _; rw [hR4]
            have hst5 : M5.1 (M.2.2.2 8 10) = M3.1 (M.2.2.2 8 10) := by rw [(he5 (M.2.2.2 8 10) (by omega)).1, fl_sI_ne _ _ _ _ (by omega)]; exact (he2 (M.2.2.2 8 10) (by omega)).1
            refine lv_iload hx hb dX2_goOn_128 (lv_at hl 4 rfl) ?_
            refine lv_aload_n hx hb dX2_goOn_130 rfl (lv_at hl 0 rfl) ?_
            refine va_get (D := D) (ci := 4) (v := .int (M5.1 8 2)) (C := RX2) (T := TX2) (N := 13) hx hb hts inX2 hown hK hP 8 (fl_at (by decide) rfl) rfl 2 (by decide) (hts (.fieldLink RX2 51 "ResampledRows$Run" "n" "I") (by decide +kernel)) (fun _ h9 => h9) rfl dX2_goOn_131 ?_
            refine fl_ti (y := nI (r_n r)) hn5 ?_
            refine lv_icmp_ge (tgt := 162) hx hb dX2_goOn_134 (by decide) (fun hc134 => ?_) (fun hc134 => ?_)
            · have e134 : k3 = r_n r := Nat.le_antisymm hi3 ((nI_leI (by omega) (by omega)).mp hc134)
              have hgo : a_go mv sg d r = (nI (r_sp r + 1), a_dl (fun k => mv (r_st r k)) d (r_n r), (r_n r, r_sp r + 1, r_an r, r_kp r, r_mu r, a_st (fun k => mv (r_st r k)) d, (fun k => r_wt r k * sg (a_st (fun k => mv (r_st r k)) d k)), (fun k i => if i = r_sp r + 1 then a_st (fun k => mv (r_st r k)) d k else r_hi r k i), r_og r)) := by
                unfold a_go
                rw [hnfN]
                exact if_pos hallN
              have he45 : fl_eq (fun c => c ≠ 6 ∧ c ≠ M.2.2.2 8 10 ∧ c ≠ M.2.2.2 8 11) M M4 := (he.mono (fun c hc => ⟨hc.1, hc.2.1⟩)).tr (he2.mono (fun c hc => hc.2.2))
              have he6 : fl_eq (fun c => c < 30 ∧ c ≠ 8) M4 M5 := fl_eq.tr (M2 := fl_sI (fc_swp M4) 8 3 (nI (r_sp r + 1))) (((((fl_eq.rf.sR (by omega) _ _).sR (by omega) _ _).sR (by omega) _ _).sR (by omega) _ _).sI (by omega) _ _) (he5.mono (fun c hc => hc.1))
              refine lv_aload_n hx hb dX2_goOn_162 rfl (lv_at hl 0 rfl) ?_
              refine va_get (D := D) (ci := 4) (v := .int (M5.1 8 3)) (C := RX2) (T := TX2) (N := 13) hx hb hts inX2 hown hK hP 8 (fl_at (by decide) rfl) rfl 3 (by decide) (hts (.fieldLink RX2 54 "ResampledRows$Run" "steps" "I") (by decide +kernel)) (fun _ h9 => h9) rfl dX2_goOn_163 ?_
              refine fl_ti (y := nI (r_sp r + 1)) hs5 ?_
              exact W.iret (v := nI (r_sp r + 1)) hx hb hr (fun t ht hW => ⟨⟨nI (r_sp r + 1), M5, rfl, ⟨by rw [hgo], by rw [hgo]; exact hDN.eq (P := fun c => c = 6 ∨ c = 7) ((he2.mono (fun c hc => by omega)).tr (he6.mono (fun c hc => by omega))) (Or.inl rfl) (Or.inr rfl), by rw [hgo]; exact fc_step_R hr0 hsp he45 (by rw [(he2 (M.2.2.2 8 10) (by omega)).1]; exact hrowN) hrow2N he5 (e134 ▸ hh) ho, (he45.mono (fun c hc => by unfold fc_PB at hc; omega)).tr (he6.mono (fun c hc => by unfold fc_PB at hc; omega))⟩, fl_qi ht hP⟩, hS.F ht⟩) hS.2.2 dX2_goOn_166
            · have l134 : k3 < r_n r := Nat.lt_of_not_le (fun q => hc134 ((nI_leI (by omega) (by omega)).mpr q))
              have hbk := fc_hb_in (M.2.2.2 8 9) k3 (by omega)
              refine lv_aload_n hx hb dX2_goOn_137 rfl (lv_at hl 0 rfl) ?_
              refine va_get (D := D) (ci := 4) (v := .ref (ad (M5.2.2.2 8 9))) (C := RX2) (T := TX2) (N := 13) hx hb hts inX2 hown hK hP 8 (fl_at (by decide) rfl) rfl 9 (by decide) (hts (.fieldLink RX2 39 "ResampledRows$Run" "histories" "[[I") (by decide +kernel)) (fun _ h9 => h9) rfl dX2_goOn_138 ?_
              refine fl_top (y := .ref (ad (M.2.2.2 8 9))) (by rw [q9]) ?_
              refine lv_iload hx hb dX2_goOn_141 (lv_at hl 4 rfl) ?_
              refine fl_ald (k := k3) (f := fun j => ad (fc_hb (M.2.2.2 8 9) + j)) hx hb hK hP (fc_hat cI cII ad _ h10.s3.1) rfl rfl (by omega) (by decide) dX2_goOn_143 ?_
              refine lv_aload_n hx hb dX2_goOn_144 rfl (lv_at hl 0 rfl) ?_
              refine va_get (D := D) (ci := 4) (v := .int (M5.1 8 3)) (C := RX2) (T := TX2) (N := 13) hx hb hts inX2 hown hK hP 8 (fl_at (by decide) rfl) rfl 3 (by decide) (hts (.fieldLink RX2 54 "ResampledRows$Run" "steps" "I") (by decide +kernel)) (fun _ h9 => h9) rfl dX2_goOn_145 ?_
              refine fl_ti (y := nI (r_sp r + 1)) hs5 ?_
              refine lv_aload_n hx hb dX2_goOn_148 rfl (lv_at hl 0 rfl) ?_
              refine va_get (D := D) (ci := 4) (v := .ref (ad (M5.2.2.2 8 7))) (C := RX2) (T := TX2) (N := 13) hx hb hts inX2 hown hK hP 8 (fl_at (by decide) rfl) rfl 7 (by decide) (hts (.fieldLink RX2 31 "ResampledRows$Run" "states" "[I") (by decide +kernel)) (fun _ h9 => h9) rfl dX2_goOn_149 ?_
              refine fl_top (y := .ref (ad (M.2.2.2 8 10))) (by rw [q7]) ?_
              refine lv_iload hx hb dX2_goOn_152 (lv_at hl 4 rfl) ?_
              refine fl_ild (n := 16) (k := k3) hx hb hK hP (fc_a cI cII ad _ h10.l10 (by decide)) rfl rfl (by omega) (by decide) dX2_goOn_154 ?_
              refine fl_ti (y := nI (a_st (fun k => mv (r_st r k)) d k3)) (by rw [hst5]; exact (hrowN k3 l134).1) ?_
              refine fl_ist (n := 31) (k := (r_sp r + 1)) (x := nI (a_st (fun k => mv (r_st r k)) d k3)) hx hb hK hJ hP hS (fc_loc cI cII ad) (fc_a cI cII ad _ (fc_hb_len (by omega)) (by decide)) (fc_arr cI cII ad _ (fc_hb_len (by omega)) (by decide)).2 rfl rfl (by omega) (by decide) dX2_goOn_155 (fun H locs hP hS => ?_)
              refine lv_iinc (v := nI (k3 + 1)) (lv' := [(4, .int (nI (k3 + 1))), (0, .ref (ad 8)), (1, .ref (ad 3)), (2, .ref (ad (25 + j))), (3, .ref (ad 6))]) hx hb dX2_goOn_156 hl (k := 4) rfl (fl_inc k3) (by decide) rfl (fun ls hl => ?_)
              refine lv_goto (tgt := 128) hx hb dX2_goOn_159 (by decide) ?_
              exact ih128 (k3 + 1) (fl_sI M5 (fc_hb (M.2.2.2 8 9) + k3) (r_sp r + 1) (nI (a_st (fun k => mv (r_st r k)) d k3))) (by omega) (he5.sI (by omega) _ _) (fun k hk => fc_hh hh k hk) (fun k hk z hz => fc_ho ho k hk z hz) (by omega) _ _ hP hS ls (lv_sub hl [1, 2, 3, 4, 0] rfl)
        · have l63 : k2 < r_n r := Nat.lt_of_not_le (fun q => hc63 ((nI_leI (by omega) (by omega)).mpr q))
          have ha6 : a_st (fun k => mv (r_st r k)) d k2 < 6 := (hrowN k2 l63).2
          have hpr : r_wt r k2 * sg (a_st (fun k => mv (r_st r k)) d k2) ≤ 1000000 * 9 := Nat.mul_le_mul (Nat.le_of_lt_succ (h12 k2 l63).2) (Nat.le_of_lt_succ (hsg _ ha6).2)
          refine lv_aload_n hx hb dX2_goOn_66 rfl (lv_at hl 0 rfl) ?_
          refine va_get (D := D) (ci := 4) (v := .ref (ad (M4.2.2.2 8 11))) (C := RX2) (T := TX2) (N := 13) hx hb hts inX2 hown hK hP 8 (fl_at (by decide) rfl) rfl 11 (by decide) (hts (.fieldLink RX2 45 "ResampledRows$Run" "nextWeights" "[I") (by decide +kernel)) (fun _ h9 => h9) rfl dX2_goOn_67 ?_
          refine fl_top (y := .ref (ad (M.2.2.2 8 11))) (by rw [hR4]) ?_
          refine lv_iload hx hb dX2_goOn_70 (lv_at hl 4 rfl) ?_
          refine lv_aload_n hx hb dX2_goOn_72 rfl (lv_at hl 0 rfl) ?_
          refine va_get (D := D) (ci := 4) (v := .ref (ad (M4.2.2.2 8 8))) (C := RX2) (T := TX2) (N := 13) hx hb hts inX2 hown hK hP 8 (fl_at (by decide) rfl) rfl 8 (by decide) (hts (.fieldLink RX2 34 "ResampledRows$Run" "weights" "[I") (by decide +kernel)) (fun _ h9 => h9) rfl dX2_goOn_73 ?_
          refine fl_top (y := .ref (ad (M.2.2.2 8 8))) (by rw [hR4]) ?_
          refine lv_iload hx hb dX2_goOn_76 (lv_at hl 4 rfl) ?_
          refine fl_ild (n := 16) (k := k2) hx hb hK hP (fc_a cI cII ad _ h10.l8 (by decide)) rfl rfl (by omega) (by decide) dX2_goOn_78 ?_
          refine fl_ti (y := nI (r_wt r k2)) (by rw [(he2 (M.2.2.2 8 8) (by omega)).1, (he (M.2.2.2 8 8) (by omega)).1]; exact (h12 k2 l63).1) ?_
          refine lv_aload_n hx hb dX2_goOn_79 rfl (lv_at hl 2 rfl) ?_
          refine lv_aload_n hx hb dX2_goOn_80 rfl (lv_at hl 0 rfl) ?_
          refine va_get (D := D) (ci := 4) (v := .ref (ad (M4.2.2.2 8 10))) (C := RX2) (T := TX2) (N := 13) hx hb hts inX2 hown hK hP 8 (fl_at (by decide) rfl) rfl 10 (by decide) (hts (.fieldLink RX2 42 "ResampledRows$Run" "nextStates" "[I") (by decide +kernel)) (fun _ h9 => h9) rfl dX2_goOn_81 ?_
          refine fl_top (y := .ref (ad (M.2.2.2 8 10))) (by rw [hR4]) ?_
          refine lv_iload hx hb dX2_goOn_84 (lv_at hl 4 rfl) ?_
          refine fl_ild (n := 16) (k := k2) hx hb hK hP (fc_a cI cII ad _ h10.l10 (by decide)) rfl rfl (by omega) (by decide) dX2_goOn_86 ?_
          refine fl_ti (y := nI (a_st (fun k => mv (r_st r k)) d k2)) (by rw [(he2 (M.2.2.2 8 10) (by omega)).1]; exact (hrowN k2 l63).1) ?_
          refine fl_ild (n := 6) (k := (a_st (fun k => mv (r_st r k)) d k2)) hx hb hK hP (fc_a cI cII ad _ (fc_row_len (by omega) (by omega)) (by decide)) rfl rfl ha6 (by decide) dX2_goOn_87 ?_
          refine fl_ti (y := nI (sg (a_st (fun k => mv (r_st r k)) d k2))) (by rw [(he2 (25 + j) (by omega)).1, (he (25 + j) (by omega)).1]; exact (hsg _ ha6).1) ?_
          refine lv_imul hx hb dX2_goOn_88 ?_
          refine fl_ti (y := nI (r_wt r k2 * sg (a_st (fun k => mv (r_st r k)) d k2))) (pk_mul _ _) ?_
          refine fl_ist (n := 16) (k := k2) (x := nI (r_wt r k2 * sg (a_st (fun k => mv (r_st r k)) d k2))) hx hb hK hJ hP hS (fc_loc cI cII ad) (fc_a cI cII ad _ h10.l11 (by decide)) (fc_arr cI cII ad _ h10.l11 (by decide)).2 rfl rfl (by omega) (by decide) dX2_goOn_89 (fun H locs hP hS => ?_)
          refine lv_aload_n hx hb dX2_goOn_90 rfl (lv_at hl 0 rfl) ?_
          refine va_get (D := D) (ci := 4) (v := .ref (ad (M4.2.2.2 8 11))) (C := RX2) (T := TX2) (N := 13) hx hb hts inX2 hown hK hP 8 (fl_at (by decide) rfl) rfl 11 (by decide) (hts (.fieldLink RX2 45 "ResampledRows$Run" "nextWeights" "[I") (by decide +kernel)) (fun _ h9 => h9) rfl dX2_goOn_91 ?_
          refine fl_top (y := .ref (ad (M.2.2.2 8 11))) (by rw [hR4]) ?_
          refine lv_iload hx hb dX2_goOn_94 (lv_at hl 4 rfl) ?_
          refine fl_ild (n := 16) (k := k2) hx hb hK hP (fc_a cI cII ad _ h10.l11 (by decide)) rfl rfl (by omega) (by decide) dX2_goOn_96 ?_
          refine fl_ti (y := nI (r_wt r k2 * sg (a_st (fun k => mv (r_st r k)) d k2))) (fl_rdI _ _ _ _) ?_
          refine lv_ldc (v := 1000000) hx hb hown (hts (.constant RX2 74 (1000000)) (by decide +kernel)) dX2_goOn_97 ?_
          refine lv_icmp_le (tgt := 105) hx hb dX2_goOn_99 (by decide) (fun hc99 => ?_) (fun hc99 => ?_)
          · have g99 : r_wt r k2 * sg (a_st (fun k => mv (r_st r k)) d k2) ≤ 1000000 := (nI_leI (b := 1000000) (by omega) (by decide)).mp hc99
            refine lv_iinc (v := nI (k2 + 1)) (lv' := [(4, .int (nI (k2 + 1))), (0, .ref (ad 8)), (1, .ref (ad 3)), (2, .ref (ad (25 + j))), (3, .ref (ad 6))]) hx hb dX2_goOn_105 hl (k := 4) rfl (fl_inc k2) (by decide) rfl (fun ls hl => ?_)
            refine lv_goto (tgt := 57) hx hb dX2_goOn_108 (by decide) ?_
            exact ih57 (k2 + 1) (fl_sI M4 (M.2.2.2 8 11) k2 (nI (r_wt r k2 * sg (a_st (fun k => mv (r_st r k)) d k2)))) (by omega) (by rw [fl_sI_same]; exact hrow2.push rfl (by omega)) (by show (a_all _ k2 && _) = true; rw [hall, Bool.true_and]; exact decide_eq_true g99) (he2.sI (fun q => q rfl) _ _) (by omega) _ _ hP hS ls (lv_sub hl [1, 2, 3, 4, 0] rfl)
          · have g99 : ¬ r_wt r k2 * sg (a_st (fun k => mv (r_st r k)) d k2) ≤ 1000000 := fun q => hc99 ((nI_leI (b := 1000000) (by omega) (by decide)).mpr q)
            have hgo : a_go mv sg d r = (-1000005, a_dl (fun k => mv (r_st r k)) d (r_n r), r) := by
              unfold a_go
              rw [hnfN]
              exact if_neg (by rw [a_all_false (i := k2) (decide_eq_false g99) (r_n r) l63]; decide)
            refine lv_ldc (v := -1000005) hx hb hown (hts (.constant RX2 75 (-1000005)) (by decide +kernel)) dX2_goOn_102 ?_
            exact W.iret (v := (-1000005)) hx hb hr (fun t ht hW => ⟨⟨(-1000005), (fl_sI M4 (M.2.2.2 8 11) k2 (nI (r_wt r k2 * sg (a_st (fun k => mv (r_st r k)) d k2)))), rfl, ⟨by rw [hgo], by rw [hgo]; exact hDN.eq (P := fun c => c = 6 ∨ c = 7) ((he2.mono (fun c hc => by omega)).sI (by omega) _ _) (Or.inl rfl) (Or.inr rfl), by rw [hgo]; exact hr0.scratch (((he.mono (fun c hc => ⟨hc.1, hc.2.1⟩)).tr (he2.mono (fun c hc => hc.2.2))).sI (fun q => q.2.2 rfl) _ _), ((he.mono (fun c hc => by unfold fc_PB at hc; omega)).tr (he2.mono (fun c hc => by unfold fc_PB at hc; omega))).sI (by unfold fc_PB; omega) _ _⟩, fl_qi ht hP⟩, hS.F ht⟩) hS.2.2 dX2_goOn_104
    · have l9 : i < r_n r := Nat.lt_of_not_le (fun q => hc9 ((nI_leI (by omega) (by omega)).mpr q))
      have hsi : r_st r i < 6 := (h11 i l9).2
      refine lv_aload_n hx hb dX2_goOn_12 rfl (lv_at hl 3 rfl) ?_
      refine lv_aload_n hx hb dX2_goOn_13 rfl (lv_at hl 1 rfl) ?_
      refine lv_aload_n hx hb dX2_goOn_14 rfl (lv_at hl 0 rfl) ?_
      refine va_get (D := D) (ci := 4) (v := .ref (ad (M3.2.2.2 8 7))) (C := RX2) (T := TX2) (N := 13) hx hb hts inX2 hown hK hP 8 (fl_at (by decide) rfl) rfl 7 (by decide) (hts (.fieldLink RX2 31 "ResampledRows$Run" "states" "[I") (by decide +kernel)) (fun _ h9 => h9) rfl dX2_goOn_15 ?_
      refine fl_top (y := .ref (ad (M.2.2.2 8 7))) (by rw [hR3]) ?_
      refine lv_iload hx hb dX2_goOn_18 (lv_at hl 4 rfl) ?_
      refine fl_ild (n := 16) (k := i) hx hb hK hP (fc_a cI cII ad _ h10.l7 (by decide)) rfl rfl (by omega) (by decide) dX2_goOn_20 ?_
      refine fl_ti (y := nI (r_st r i)) (by rw [(he (M.2.2.2 8 7) (by omega)).1]; exact (h11 i l9).1) ?_
      refine fl_ald (k := (r_st r i)) (f := fun j => ad (19 + j)) hx hb hK hP (fl_at (by decide) rfl) rfl rfl hsi (by decide) dX2_goOn_21 ?_
      refine lv_bipush (v := 6) hx hb dX2_goOn_22 (by decide) ?_
      have hrw : ∀ k, k < 6 → M3.1 (19 + r_st r i) k = nI (mv (r_st r i) k) ∧ mv (r_st r i) k < 2 ^ 31 := fun k hk => by
        rw [(he (19 + r_st r i) (by omega)).1]
        exact ⟨(hmv _ hsi k hk).1, by have := (hmv _ hsi k hk).2; omega⟩
      have hT : a_sum (mv (r_st r i)) 6 < 2 ^ 31 := by have := a_row_le (B := 9) (hmv _ hsi); omega
      refine fl_ti (y := nI 6) rfl ?_
      refine va_calli (va_runV (As := [.ref (ad (19 + (r_st r i))), .int (nI 6)]) (rest := []) ⟨hx, hb, hml, hown, hts⟩ (c_X0_byWeights l hJ M3 (a_dl (fun k => mv (r_st r k)) d i) (19 + r_st r i) 6 6 (mv (r_st r i)) (fc_row_len (by omega) (by omega)) (by decide) (by decide) (by omega) hrw hT hD) (cwV 2 hts gX2_goOn_X0_byWeights rfl rfl rfl (by decide +kernel) ⟨Nat.le_of_ble_eq_true rfl, Nat.le_of_ble_eq_true rfl⟩) ⟨fl_blind, va_recv hK hP (ci := 2) (q0 := 6) rfl (fl_at (by decide) rfl), fl_pre hP hK hN⟩ rfl rfl hl.1 rfl (lv_room (Nat.le_of_ble_eq_true rfl)) dX2_goOn_24 ⟨Nat.le_of_ble_eq_true rfl, Nat.le_of_ble_eq_true rfl⟩) hS (fun _ _ h => h) (fun _ h => h) (fun r24 M24 t H1 locs ht hvm hw hB hz1 hk1 hS => ?_)
      have hP : va_P D vwCl (fcP cI cII ad M24) H1 := by rw [← ht]; exact hB
      clear hB hk1 hz1 hvm ht t
      obtain ⟨rfl, hD4, he4⟩ := hw
      by_cases h0 : a_sum (mv (r_st r i)) 6 = 0
      · have hgo : a_go mv sg d r = (-1000004, a_dl (fun k => mv (r_st r k)) d i, r) := by unfold a_go; rw [a_find_some0 hnf h0 l9]
        refine fl_ti (y := -1000004) (a_oI_none h0) ?_
        refine lv_istore (lv' := [(5, .int (-1000004)), (0, .ref (ad 8)), (1, .ref (ad 3)), (2, .ref (ad (25 + j))), (3, .ref (ad 6)), (4, .int (nI i))]) hx hb dX2_goOn_27 hl (by decide) rfl (fun ls hl => ?_)
        refine lv_iload hx hb dX2_goOn_29 (lv_at hl 0 rfl) ?_
        refine lv_ldc (v := -1000004) hx hb hown (hts (.constant RX2 73 (-1000004)) (by decide +kernel)) dX2_goOn_31 ?_
        refine lv_icmp_ne (tgt := 39) hx hb dX2_goOn_33 (by decide) (fun hc33 => ?_) (fun hc33 => ?_)
        · exact absurd rfl hc33
        · refine lv_ldc (v := -1000004) hx hb hown (hts (.constant RX2 73 (-1000004)) (by decide +kernel)) dX2_goOn_36 ?_
          exact W.iret (v := (-1000004)) hx hb hr (fun t ht hW => ⟨⟨(-1000004), M24, rfl, ⟨by rw [hgo], by rw [hgo]; rw [a_by_none h0] at hD4; exact hD4, by rw [hgo]; exact hr0.scratch ((he.mono (fun c hc => ⟨hc.1, hc.2.1⟩)).tr (he4.mono (fun c hc => hc.1))), (he.mono (fun c hc => by unfold fc_PB at hc; omega)).tr (he4.mono (fun c hc => by unfold fc_PB at hc; omega))⟩, fl_qi ht hP⟩, hS.F ht⟩) hS.2.2 dX2_goOn_38
      · obtain ⟨v, hv⟩ : ∃ v, v = a_st (fun k => mv (r_st r k)) d i := ⟨_, rfl⟩
        have hv6 : v < 6 := by rw [hv]; exact a_st_lt (W := (fun k => mv (r_st r k))) h0
        refine fl_ti (y := nI v) (by rw [hv]; exact a_oI_st (W := (fun k => mv (r_st r k))) h0) ?_
        have hR24 : M24.2.2.2 8 = M.2.2.2 8 := (he4 8 (by decide)).2.2.2.trans hR3
        refine lv_istore (lv' := [(5, .int (nI v)), (0, .ref (ad 8)), (1, .ref (ad 3)), (2, .ref (ad (25 + j))), (3, .ref (ad 6)), (4, .int (nI i))]) hx hb dX2_goOn_27 hl (by decide) rfl (fun ls hl => ?_)
        refine lv_iload hx hb dX2_goOn_29 (lv_at hl 0 rfl) ?_
        refine lv_ldc (v := -1000004) hx hb hown (hts (.constant RX2 73 (-1000004)) (by decide +kernel)) dX2_goOn_31 ?_
        refine lv_icmp_ne (tgt := 39) hx hb dX2_goOn_33 (by decide) (fun hc33 => ?_) (fun hc33 => ?_)
        · refine lv_aload_n hx hb dX2_goOn_39 rfl (lv_at hl 1 rfl) ?_
          refine va_get (D := D) (ci := 4) (v := .ref (ad (M24.2.2.2 8 10))) (C := RX2) (T := TX2) (N := 13) hx hb hts inX2 hown hK hP 8 (fl_at (by decide) rfl) rfl 10 (by decide) (hts (.fieldLink RX2 42 "ResampledRows$Run" "nextStates" "[I") (by decide +kernel)) (fun _ h9 => h9) rfl dX2_goOn_40 ?_
          refine fl_top (y := .ref (ad (M.2.2.2 8 10))) (by rw [hR24]) ?_
          refine lv_iload hx hb dX2_goOn_43 (lv_at hl 5 rfl) ?_
          refine lv_iload hx hb dX2_goOn_45 (lv_at hl 0 rfl) ?_
          refine fl_ist (n := 16) (k := i) (x := nI v) hx hb hK hJ hP hS (fc_loc cI cII ad) (fc_a cI cII ad _ h10.l10 (by decide)) (fc_arr cI cII ad _ h10.l10 (by decide)).2 rfl rfl (by omega) (by decide) dX2_goOn_47 (fun H locs hP hS => ?_)
          refine lv_iinc (v := nI (i + 1)) (lv' := [(4, .int (nI (i + 1))), (5, .int (nI v)), (0, .ref (ad 8)), (1, .ref (ad 3)), (2, .ref (ad (25 + j))), (3, .ref (ad 6))]) hx hb dX2_goOn_48 hl (k := 5) rfl (fl_inc i) (by decide) rfl (fun ls hl => ?_)
          refine lv_goto (tgt := 3) hx hb dX2_goOn_51 (by decide) ?_
          exact ih3 (i + 1) (fl_sI M24 (M.2.2.2 8 10) i (nI v)) (by omega) (fc_D.eq (P := fun c => c = 6 ∨ c = 7) hD4 (fl_eq.rf.sI (by omega) _ _) (Or.inl rfl) (Or.inr rfl)) (by rw [fl_sI_same, (he4 _ (by omega)).1]; exact hrow.push hv hv6) (a_find_none hnf h0) ((he.tr (he4.mono (fun c hc => hc.1))).sI (fun q => q.2 rfl) _ _) (by omega) _ _ hP hS ls (lv_sub hl [2, 3, 4, 5, 0] rfl)
        · exact absurd hc33 (nI_nneg (by omega) (by decide))
end
section
/-! PICKS: how often each row is picked. -/
def a_bump (t : Nat → Nat) (r : Nat) : Nat → Nat := fun j => if j = r then t j + 1 else t j
def a_dec (t : Nat → Nat) (r : Nat) : Nat → Nat := fun j => if j = r then t j - 1 else t j
theorem a_sum_bump {t : Nat → Nat} {r : Nat} : ∀ n, a_sum (a_bump t r) n = a_sum t n + (if r < n then 1 else 0)
  | 0 => by simp [a_sum]
  | n + 1 => by
    show a_sum (a_bump t r) n + (if n = r then t n + 1 else t n) = a_sum t n + t n + (if r < n + 1 then 1 else 0)
    rw [a_sum_bump n]
    by_cases h : n = r
    · subst h
      rw [if_neg (Nat.lt_irrefl n), if_pos rfl, if_pos (Nat.lt_succ_self n)]
      omega
    · rw [if_neg h]
      by_cases h2 : r < n
      · rw [if_pos h2, if_pos (by omega)]
        omega
      · rw [if_neg h2, if_neg (by omega)]
        omega
theorem a_sum_dec {t : Nat → Nat} {r : Nat} (hr : 0 < t r) : ∀ n, a_sum (a_dec t r) n + (if r < n then 1 else 0) = a_sum t n
  | 0 => by simp [a_sum]
  | n + 1 => by
    have ih := a_sum_dec hr n
    show a_sum (a_dec t r) n + (if n = r then t n - 1 else t n) + (if r < n + 1 then 1 else 0) = a_sum t n + t n
    by_cases h : n = r
    · subst h
      rw [if_neg (Nat.lt_irrefl n)] at ih
      rw [if_pos rfl, if_pos (Nat.lt_succ_self n)]
      omega
    · rw [if_neg h]
      by_cases h2 : r < n
      · rw [if_pos h2] at ih
        rw [if_pos (by omega)]
        omega
      · rw [if_neg h2] at ih
        rw [if_neg (by omega)]
        omega
theorem a_sum_ge (t : Nat → Nat) {j n : Nat} (h : j < n) : t j ≤ a_sum t n := by
  have h1 : a_sum t (j + 1) ≤ a_sum t n := a_sum_mono t h
  have h2 : a_sum t (j + 1) = a_sum t j + t j := rfl
  omega
def a_pick (f : Nat → a_D → Nat × a_D) : Nat → Nat → (Nat → Nat) × a_D → (Nat → Nat) × a_D
  | 0, _, s => s
  | c + 1, k, s => a_pick f c (k + 1) (a_bump s.1 (f k s.2).1, (f k s.2).2)
theorem a_pick_s {f : Nat → a_D → Nat × a_D} {n k : Nat} (h : k < n) (s : (Nat → Nat) × a_D) : a_pick f (n - k) k s = a_pick f (n - (k + 1)) (k + 1) (a_bump s.1 (f k s.2).1, (f k s.2).2) := by
  have : n - k = (n - (k + 1)) + 1 := by omega
  rw [this]
  rfl
theorem a_pick_sum {f : Nat → a_D → Nat × a_D} {n : Nat} : ∀ (c k : Nat) (s : (Nat → Nat) × a_D), (∀ i d, k ≤ i → i < k + c → (f i d).1 < n) → a_sum (a_pick f c k s).1 n = a_sum s.1 n + c
  | 0, _, _, _ => rfl
  | c + 1, k, s, h => by
    show a_sum (a_pick f c (k + 1) _).1 n = _
    rw [a_pick_sum c (k + 1) _ (fun i d h1 h2 => h i d (by omega) (by omega))]
    show a_sum (a_bump s.1 (f k s.2).1) n + c = _
    rw [a_sum_bump, if_pos (h k s.2 (Nat.le_refl k) (by omega))]
    omega
def a_f0 (w : Nat → Nat) (n : Nat) : Nat → a_D → Nat × a_D := fun _ d => ((a_by w n d).1.getD 0, (a_by w n d).2)
def a_f1 (w : Nat → Nat) (n : Nat) : Nat → a_D → Nat × a_D := fun k d => (a_first w n (k * a_sum w n + (a_next d).1 % a_sum w n) n, (a_next d).2)
def a_f2 (w : Nat → Nat) (n b : Nat) : Nat → a_D → Nat × a_D := fun k d => (a_first w n (k * a_sum w n + b) n, d)
theorem a_f0_lt {w : Nat → Nat} {n : Nat} (h : 0 < a_sum w n) (k : Nat) (d : a_D) : (a_f0 w n k d).1 < n := a_by_lt (a_by_some (by omega))
theorem a_kT {n k T b : Nat} (hk : k < n) (hb : b < T) : k * T + b < n * T := by
  have : (k + 1) * T ≤ n * T := Nat.mul_le_mul_right T hk
  rw [Nat.add_mul, Nat.one_mul] at this
  omega
theorem a_f1_lt {w : Nat → Nat} {n : Nat} (h : 0 < a_sum w n) {k : Nat} (hk : k < n) (d : a_D) : (a_f1 w n k d).1 < n := a_first_lt n (a_kT hk (Nat.mod_lt _ h))
theorem a_f2_lt {w : Nat → Nat} {n b : Nat} (hb : b < a_sum w n) {k : Nat} (hk : k < n) (d : a_D) : (a_f2 w n b k d).1 < n := a_first_lt n (a_kT hk hb)
def a_k0 (kp : Option Nat) : Nat := match kp with
  | none => 0
  | some _ => 1
def a_t0 (kp : Option Nat) : Nat → Nat := match kp with
  | none => fun _ => 0
  | some k => a_bump (fun _ => 0) k
def a_parts (w : Nat → Nat) (n : Nat) : Nat → Nat := fun r => n * w r / a_sum w n
def a_rests (w : Nat → Nat) (n : Nat) : Nat → Nat := fun r => n * w r % a_sum w n
theorem a_sum_zero : ∀ n, a_sum (fun _ => 0) n = 0
  | 0 => rfl
  | n + 1 => by show a_sum (fun _ => 0) n + 0 = 0; rw [a_sum_zero n]
theorem a_sum_add (u v : Nat → Nat) : ∀ k, a_sum (fun j => u j + v j) k = a_sum u k + a_sum v k
  | 0 => rfl
  | k + 1 => by
    show a_sum (fun j => u j + v j) k + (u k + v k) = a_sum u k + u k + (a_sum v k + v k)
    rw [a_sum_add u v k]
    omega
theorem a_parts_eq (w : Nat → Nat) (n : Nat) : a_sum w n * a_sum (a_parts w n) n + a_sum (a_rests w n) n = n * a_sum w n := by
  rw [← a_sum_mul (a_parts w n), ← a_sum_add, ← a_sum_mul w n]
  refine a_sum_congr n (fun j _ => ?_)
  show a_sum w n * (n * w j / a_sum w n) + n * w j % a_sum w n = n * w j
  exact Nat.div_add_mod _ _
theorem a_parts_le {w : Nat → Nat} {n : Nat} (h : 0 < a_sum w n) : a_sum (a_parts w n) n ≤ n := by
  have h1 := a_parts_eq w n
  have h2 : a_sum w n * a_sum (a_parts w n) n ≤ a_sum w n * n := by rw [Nat.mul_comm (a_sum w n) n]; omega
  exact Nat.le_of_mul_le_mul_left h2 h
theorem a_rests_pos {w : Nat → Nat} {n : Nat} (h : 0 < a_sum w n) (hl : a_sum (a_parts w n) n < n) : 0 < a_sum (a_rests w n) n := by
  have h1 := a_parts_eq w n
  have h2 : a_sum w n * (a_sum (a_parts w n) n + 1) ≤ a_sum w n * n := Nat.mul_le_mul_left _ hl
  rw [Nat.mul_add, Nat.mul_one, Nat.mul_comm (a_sum w n) n] at h2
  omega
/-- the greatest row below n that is picked -/
def a_last (t : Nat → Nat) : Nat → Nat
  | 0 => 0
  | n + 1 => if 0 < t n then n else a_last t n
theorem a_last_spec {t : Nat → Nat} : ∀ n, 0 < a_sum t n → a_last t n < n ∧ 0 < t (a_last t n)
  | 0, h => absurd h (Nat.lt_irrefl 0)
  | n + 1, h => by
    show (if 0 < t n then n else a_last t n) < n + 1 ∧ 0 < t (if 0 < t n then n else a_last t n)
    by_cases q : 0 < t n
    · rw [if_pos q]
      exact ⟨Nat.lt_succ_self n, q⟩
    · rw [if_neg q]
      have h2 : 0 < a_sum t n + t n := h
      have h3 : 0 < a_sum t n := by omega
      obtain ⟨a1, a2⟩ := a_last_spec n h3
      exact ⟨by omega, a2⟩
def a_putin (kp : Option Nat) (n : Nat) (t : Nat → Nat) : Nat → Nat := match kp with
  | none => t
  | some k => if t k = 0 then a_bump (a_dec t (a_last t n)) k else t
theorem a_putin_sum {kp : Option Nat} {n : Nat} {t : Nat → Nat} (hk : ∀ k, kp = some k → k < n) (h : 0 < a_sum t n) : a_sum (a_putin kp n t) n = a_sum t n := by
  unfold a_putin
  cases kp with
  | none => rfl
  | some k =>
    dsimp only
    split
    · obtain ⟨a1, a2⟩ := a_last_spec n h
      have h1 := a_sum_dec (t := t) a2 n
      rw [if_pos a1] at h1
      rw [a_sum_bump, if_pos (hk k rfl)]
      exact h1
    · rfl
def a_picks (way : Nat) (kp : Option Nat) (n : Nat) (w : Nat → Nat) (d : a_D) : (Nat → Nat) × a_D :=
  if way = 0 then a_pick (a_f0 w n) (n - a_k0 kp) (a_k0 kp) (a_t0 kp, d)
  else if way = 1 then a_pick (a_f1 w n) (n - a_k0 kp) (a_k0 kp) (a_t0 kp, d)
  else if way = 2 then a_pick (a_f2 w n ((a_next d).1 % a_sum w n)) (n - a_k0 kp) (a_k0 kp) (a_t0 kp, (a_next d).2)
  else (a_putin kp n (a_pick (a_f0 (a_rests w n) n) (n - a_sum (a_parts w n) n) 0 (a_parts w n, d)).1, (a_pick (a_f0 (a_rests w n) n) (n - a_sum (a_parts w n) n) 0 (a_parts w n, d)).2)
theorem a_t0_sum {kp : Option Nat} {n : Nat} (hk : ∀ k, kp = some k → k < n) : a_sum (a_t0 kp) n = a_k0 kp := by
  cases kp with
  | none => exact a_sum_zero n
  | some k =>
    show a_sum (a_bump (fun _ => 0) k) n = 1
    rw [a_sum_bump, a_sum_zero, if_pos (hk k rfl)]
theorem a_k0_le {kp : Option Nat} {n : Nat} (hk : ∀ k, kp = some k → k < n) : a_k0 kp ≤ n := by
  cases kp with
  | none => exact Nat.zero_le n
  | some k => exact Nat.succ_le_of_lt (Nat.lt_of_le_of_lt (Nat.zero_le k) (hk k rfl))
theorem a_parts_sum {w : Nat → Nat} {n : Nat} {d : a_D} (h : 0 < a_sum w n) : a_sum (a_pick (a_f0 (a_rests w n) n) (n - a_sum (a_parts w n) n) 0 (a_parts w n, d)).1 n = n := by
  rcases Nat.lt_or_ge (a_sum (a_parts w n) n) n with q | q
  · rw [a_pick_sum _ _ _ (fun i d _ _ => a_f0_lt (a_rests_pos h q) i d)]
    have := a_parts_le h
    show a_sum (a_parts w n) n + _ = n
    omega
  · have := a_parts_le h
    have e : n - a_sum (a_parts w n) n = 0 := by omega
    rw [e]
    show a_sum (a_parts w n) n = n
    omega
theorem a_picks_sum {way : Nat} {kp : Option Nat} {n : Nat} {w : Nat → Nat} {d : a_D} (hn : 0 < n) (hk : ∀ k, kp = some k → k < n) (h : 0 < a_sum w n) : a_sum (a_picks way kp n w d).1 n = n := by
  have h1 := a_t0_sum hk
  have h2 := a_k0_le hk
  unfold a_picks
  split
  · rw [a_pick_sum _ _ _ (fun i d _ _ => a_f0_lt h i d)]
    show a_sum (a_t0 kp) n + _ = n
    omega
  · split
    · rw [a_pick_sum _ _ _ (fun i d _ q => a_f1_lt h (by omega) d)]
      show a_sum (a_t0 kp) n + _ = n
      omega
    · split
      · rw [a_pick_sum _ _ _ (fun i d _ q => a_f2_lt (Nat.mod_lt _ h) (by omega) d)]
        show a_sum (a_t0 kp) n + _ = n
        omega
      · show a_sum (a_putin kp n _) n = n
        rw [a_putin_sum hk (by rw [a_parts_sum h]; exact hn), a_parts_sum h]
/-- the picked rows in the order of their numbers -/
def a_ord (t : Nat → Nat) (n : Nat) : Nat → Nat := fun x => a_first t 1 x n
theorem a_ord_lt {t : Nat → Nat} {n : Nat} (h : a_sum t n = n) {x : Nat} (hx : x < n) : a_ord t n x < n := a_first_lt n (by omega)
theorem a_ord_eq {t : Nat → Nat} {n i x : Nat} (h1 : a_sum t i ≤ x) (h2 : x < a_sum t (i + 1)) (hi : i < n) : a_ord t n x = i := a_first_eq (by omega) (by omega) n hi
def a_unl (t : Nat → Nat) (n : Nat) : Nat := a_sum (fun r => if 0 < t r then 1 else 0) n
theorem a_unl_le (t : Nat → Nat) (n : Nat) : a_unl t n ≤ n := by
  have := a_sum_le (fun r => if 0 < t r then 1 else 0) (B := 1) n (fun j _ => by split <;> omega)
  unfold a_unl
  omega
theorem fl_row.bump {f : Nat → Int32} {t : Nat → Nat} {n B : Nat} (h : fl_row f t n B) {r : Nat} (hr : r < n) : fl_row (upd f r (f r + 1)) (a_bump t r) n (B + 1) := fun j hj => by
  show upd f r (f r + 1) j = nI (if j = r then t j + 1 else t j) ∧ (if j = r then t j + 1 else t j) < B + 1
  by_cases e : j = r
  · subst e
    rw [pk_us, if_pos rfl, (h j hj).1, nI_1]
    exact ⟨rfl, Nat.succ_lt_succ (h j hj).2⟩
  · rw [pk_un e, if_neg e]
    exact ⟨(h j hj).1, Nat.lt_succ_of_lt (h j hj).2⟩
theorem fl_row.dec {f : Nat → Int32} {t : Nat → Nat} {n B : Nat} (h : fl_row f t n B) {r : Nat} (hr : r < n) (h0 : 0 < t r) : fl_row (upd f r (f r - 1)) (a_dec t r) n B := fun j hj => by
  show upd f r (f r - 1) j = nI (if j = r then t j - 1 else t j) ∧ (if j = r then t j - 1 else t j) < B
  by_cases e : j = r
  · subst e
    have h1 := h j hj
    obtain ⟨q, hq⟩ : ∃ q, t j = q + 1 := ⟨t j - 1, by omega⟩
    rw [pk_us, if_pos rfl, h1.1, hq, nI_pred]
    exact ⟨rfl, by omega⟩
  · rw [pk_un e, if_neg e]
    exact h j hj
/-- what the picking methods need of the run -/
def fc_W (n : Nat) (kp : Option Nat) (w : Nat → Nat) (M : fl_M) : Prop := (0 < n ∧ n ≤ 16 ∧ M.1 8 2 = nI n) ∧ (M.1 8 5 = a_oI kp (-1000009) ∧ ∀ k, kp = some k → k < n) ∧ (M.2.2.2 8 8 = 14 ∨ M.2.2.2 8 8 = 17) ∧ fl_row (M.1 (M.2.2.2 8 8)) w n 1000001
def fc_PP (c : Nat) : Prop := c ≠ 6 ∧ c ≠ 10 ∧ c ≠ 11
theorem fc_W.eq {n : Nat} {kp : Option Nat} {w : Nat → Nat} {M M2 : fl_M} (h : fc_W n kp w M) (he : fl_eq fc_PP M M2) : fc_W n kp w M2 := by
  obtain ⟨⟨h1, h2, h3⟩, ⟨h4, h5⟩, h6, h7⟩ := h
  have e8 := he 8 (by unfold fc_PP; omega)
  refine ⟨⟨h1, h2, by rw [e8.1]; exact h3⟩, ⟨by rw [e8.1]; exact h4, h5⟩, by rw [e8.2.2.2]; exact h6, ?_⟩
  rw [e8.2.2.2, (he (M.2.2.2 8 8) (by unfold fc_PP; omega)).1]
  exact h7
theorem fc_W.l8 {n : Nat} {kp : Option Nat} {w : Nat → Nat} {M : fl_M} (h : fc_W n kp w M) : fc_len (M.2.2.2 8 8) = 16 := by
  rcases h.2.2.1 with q | q <;> rw [q] <;> rfl
theorem a_oI_ne {o : Option Nat} {z : Int32} (h : ¬ a_oI o z = z) : ∃ k, o = some k := by
  cases o with
  | none => exact absurd rfl h
  | some k => exact ⟨k, rfl⟩
theorem a_oI_eq {o : Option Nat} {z : Int32} {n : Nat} (hz : z < 0) (hk : ∀ k, o = some k → k < n) (hn : n ≤ 16) (h : a_oI o z = z) : o = none := by
  cases o with
  | none => rfl
  | some k => exact absurd h (nI_nneg (by have := hk k rfl; omega) hz)
end
section
theorem fl_row.cast {f g : Nat → Int32} {t : Nat → Nat} {n B : Nat} (h : fl_row f t n B) (e : g = f) : fl_row g t n B := by rw [e]; exact h
theorem a_k0_none : nI (a_k0 none) = 0 := rfl

set_option maxHeartbeats 4000000 in
set_option maxRecDepth 100000 in
theorem c_X1_add (l : Launch) {D : va_G} {cI cJ cII : ClassId} {ad : Nat → Nat} (hJ : fl_inj 62 ad) (M : fl_M) (r : Nat) (hr : r < 16) : Met l yX1_add wsX1_add ({ frames := 0, cells := 0, slots := 0, locals := 0 } : Room) (fcPc D cI cJ cII ad M [.ref (ad 9), .int (nI r)]) (va_Qv (fun M2 => M2 = fl_sI M 10 r (M.1 10 r + 1)) (fcQ D cI cII ad) (fl_A 62 ad)) 0 0 (fl_A 62 ad) := by
  refine Met.ofW (cc := cX1_add) (maxL := 2) (ret := none) (by decide) rfl ?_
  intro p e s m args below meth c s₁ B hml hv
  obtain ⟨rfl, hP, hK, hN⟩ := hv
  have hx := B.exec
  have hb := B.bytes
  have hrr := hr
  have hr := B.returns
  have hts := atoms_spec (ws := wsX1_add) B.pre
  have hown : s.vm.findClass RX1 = some m.cls := findClass_of_methodNamed B.named
  have hlocks := B.notSynchronized
  have inX1 : ∀ w ∈ u_ws RX1 TX1 2, w ∈ wsX1_add := by decide +kernel
  have hS : va_S (fl_A 62 ad) s.heap s.heap [] := va_S.rf
  have hl := lv_entry ([.ref (ad 9), .int (nI r)] : List Value) (n := 2) (Nat.le_of_ble_eq_true rfl)
  rw [lg_entry_eq]
  generalize (lg_sl ([.ref (ad 9), .int (nI r)] : List Value) ++ List.replicate (2 - (lg_sl ([.ref (ad 9), .int (nI r)] : List Value)).length) Slot.unset).toArray = ls at hl ⊢
  have hl : lv_has ls 2 [(0, .ref (ad 9)), (1, .int (nI r))] := hl
  have hr0 := hrr
  refine lv_iload_n hx hb dX1_add_0 rfl (lv_at hl 1 rfl) ?_
  refine lv_if_lt (tgt := 20) hx hb dX1_add_1 (by decide) (fun hc1 => ?_) (fun hc1 => ?_)
  · exact absurd hc1 (nI_pos (by omega))
  · refine lv_iload_n hx hb dX1_add_4 rfl (lv_at hl 1 rfl) ?_
    refine lv_bipush (v := 16) hx hb dX1_add_5 (by decide) ?_
    refine lv_icmp_ge (tgt := 20) hx hb dX1_add_7 (by decide) (fun hc7 => ?_) (fun hc7 => ?_)
    · exact absurd ((nI_leI (a := 16) (by decide) (by omega)).mp hc7) (by omega)
    · refine lv_aload_n hx hb dX1_add_10 rfl (lv_at hl 0 rfl) ?_
      refine va_get (D := D) (ci := 3) (v := .ref (ad 10)) (C := RX1) (T := TX1) (N := 2) hx hb hts inX1 hown hK hP 9 (fl_at (by decide) rfl) rfl 0 (by decide) (hts (.fieldLink RX1 9 "ResampledRows$Picks" "times" "[I") (by decide +kernel)) (fun _ h9 => h9) rfl dX1_add_11 ?_
      refine lv_iload_n hx hb dX1_add_14 rfl (lv_at hl 1 rfl) ?_
      refine lv_dup2_11 hx hb dX1_add_15 rfl rfl ?_
      refine fl_ild (n := 16) (k := r) hx hb hK hP (fc_a cI cII ad _ rfl (by decide)) rfl rfl (by omega) (by decide) dX1_add_16 ?_
      refine lv_iconst (v := 1) hx hb dX1_add_17 (by decide) ?_
      refine lv_iadd hx hb dX1_add_18 ?_
      refine fl_ist (n := 16) (k := r) (x := (M.1 10 r) + 1) hx hb hK hJ hP hS (fc_loc cI cII ad) (fc_a cI cII ad _ rfl (by decide)) (fc_arr cI cII ad _ rfl (by decide)).2 rfl rfl (by omega) (by decide) dX1_add_19 (fun H locs hP hS => ?_)
      exact W.vret hx hb hr (fun t ht hW => ⟨⟨(fl_sI M 10 r ((M.1 10 r) + 1)), rfl, rfl, fl_qi ht hP⟩, hS.F ht⟩) hS.2.2 dX1_add_20

set_option maxHeartbeats 4000000 in
set_option maxRecDepth 100000 in
theorem c_X1_firstPickBehindKept (l : Launch) {D : va_G} {cI cJ cII : ClassId} {ad : Nat → Nat} (hJ : fl_inj 62 ad) (M : fl_M) (n : Nat) (kp : Option Nat) (w : Nat → Nat) (hW : fc_W n kp w M) (h10 : fl_row (M.1 10) (fun _ => 0) n 1) : Met l yX1_firstPickBehindKept wsX1_firstPickBehindKept ({ frames := 1, cells := 0, slots := 0, locals := 21 } : Room) (fcPc D cI cJ cII ad M [.ref (ad 9), .ref (ad 8)]) (va_Qi (fun r M2 => r = nI (a_k0 kp) ∧ fl_row (M2.1 10) (a_t0 kp) n (a_k0 kp + 1) ∧ fl_eq (fun c => c ≠ 10) M M2) (fcQ D cI cII ad) (fl_A 62 ad)) 0 0 (fl_A 62 ad) := by
  refine Met.ofW (cc := cX1_firstPickBehindKept) (maxL := 2) (ret := (some .int)) (by decide) rfl ?_
  intro p e s m args below meth c s₁ B hml hv
  obtain ⟨rfl, hP, hK, hN⟩ := hv
  have hx := B.exec
  have hb := B.bytes
  have hr := B.returns
  have hts := atoms_spec (ws := wsX1_firstPickBehindKept) B.pre
  have hown : s.vm.findClass RX1 = some m.cls := findClass_of_methodNamed B.named
  have hlocks := B.notSynchronized
  have inX2 : ∀ w ∈ u_ws RX2 TX2 13, w ∈ wsX1_firstPickBehindKept := by decide +kernel
  have hS : va_S (fl_A 62 ad) s.heap s.heap [] := va_S.rf
  have hl := lv_entry ([.ref (ad 9), .ref (ad 8)] : List Value) (n := 2) (Nat.le_of_ble_eq_true rfl)
  rw [lg_entry_eq]
  generalize (lg_sl ([.ref (ad 9), .ref (ad 8)] : List Value) ++ List.replicate (2 - (lg_sl ([.ref (ad 9), .ref (ad 8)] : List Value)).length) Slot.unset).toArray = ls at hl ⊢
  have hl : lv_has ls 2 [(0, .ref (ad 9)), (1, .ref (ad 8))] := hl
  obtain ⟨⟨hn0, hn, hn1⟩, ⟨hkp, hkl⟩, hw8, hww⟩ := id hW
  refine lv_aload_n hx hb dX1_firstPickBehindKept_0 rfl (lv_at hl 1 rfl) ?_
  refine va_get (D := D) (ci := 4) (v := .int (M.1 8 5)) (C := RX2) (T := TX2) (N := 13) hx hb hts inX2 hown hK hP 8 (fl_at (by decide) rfl) rfl 5 (by decide) (hts (.fieldLink RX1 37 "ResampledRows$Run" "kept" "I") (by decide +kernel)) (fun _ h9 => h9) rfl dX1_firstPickBehindKept_1 ?_
  refine fl_ti (y := a_oI kp (-1000009)) hkp ?_
  refine lv_ldc (v := -1000009) hx hb hown (hts (.constant RX1 50 (-1000009)) (by decide +kernel)) dX1_firstPickBehindKept_4 ?_
  refine lv_icmp_ne (tgt := 11) hx hb dX1_firstPickBehindKept_6 (by decide) (fun hc6 => ?_) (fun hc6 => ?_)
  · obtain ⟨k, hk⟩ := a_oI_ne hc6
    have hkn := hkl k hk
    refine lv_aload_n hx hb dX1_firstPickBehindKept_11 rfl (lv_at hl 0 rfl) ?_
    refine lv_aload_n hx hb dX1_firstPickBehindKept_12 rfl (lv_at hl 1 rfl) ?_
    refine va_get (D := D) (ci := 4) (v := .int (M.1 8 5)) (C := RX2) (T := TX2) (N := 13) hx hb hts inX2 hown hK hP 8 (fl_at (by decide) rfl) rfl 5 (by decide) (hts (.fieldLink RX1 37 "ResampledRows$Run" "kept" "I") (by decide +kernel)) (fun _ h9 => h9) rfl dX1_firstPickBehindKept_13 ?_
    refine fl_ti (y := a_oI kp (-1000009)) hkp ?_
    refine fl_ti (y := nI k) (by rw [hk]; rfl) ?_
    refine va_callv (va_runV (As := [.int (nI k)]) (rest := []) ⟨hx, hb, hml, hown, hts⟩ (c_X1_add l hJ M k (by omega)) (cwV 1 hts gX1_firstPickBehindKept_X1_add rfl rfl rfl (by decide +kernel) ⟨Nat.le_of_ble_eq_true rfl, Nat.le_of_ble_eq_true rfl⟩) ⟨fl_blind, va_recv hK hP (ci := 3) (q0 := 9) rfl (fl_at (by decide) rfl), fl_pre hP hK hN⟩ rfl rfl hl.1 rfl (lv_room (Nat.le_of_ble_eq_true rfl)) dX1_firstPickBehindKept_16 ⟨Nat.le_of_ble_eq_true rfl, Nat.le_of_ble_eq_true rfl⟩) hS (fun _ _ h => h) (fun _ h => h) (fun M16 t H1 locs ht hvm hw hB hz1 hk1 hS => ?_)
    have hP : va_P D vwCl (fcP cI cII ad M16) H1 := by rw [← ht]; exact hB
    clear hB hk1 hz1 hvm ht t
    rw [hw] at hP
    refine lv_iconst (v := 1) hx hb dX1_firstPickBehindKept_19 (by decide) ?_
    exact W.iret (v := 1) hx hb hr (fun t ht hW => ⟨⟨1, (fl_sI M 10 k (M.1 10 k + 1)), rfl, by subst hk; exact ⟨rfl, by rw [fl_sI_same]; exact h10.bump hkn, fl_eq.rf.sI (fun q => q rfl) _ _⟩, fl_qi ht hP⟩, hS.F ht⟩) hS.2.2 dX1_firstPickBehindKept_20
  · have hk := a_oI_eq (by decide) hkl hn hc6
    refine lv_iconst (v := 0) hx hb dX1_firstPickBehindKept_9 (by decide) ?_
    exact W.iret (v := 0) hx hb hr (fun t ht hW => ⟨⟨0, M, rfl, by subst hk; exact ⟨rfl, h10, fl_eq.rf⟩, fl_qi ht hP⟩, hS.F ht⟩) hS.2.2 dX1_firstPickBehindKept_10

set_option maxHeartbeats 4000000 in
set_option maxRecDepth 100000 in
theorem c_X1_pickEachByWeights (l : Launch) {D : va_G} {cI cJ cII : ClassId} {ad : Nat → Nat} (hJ : fl_inj 62 ad) (M : fl_M) (n : Nat) (kp : Option Nat) (w : Nat → Nat) (hW : fc_W n kp w M) (d : a_D) (hd : fc_D d M) (hT0 : 0 < a_sum w n) (h10 : fl_row (M.1 10) (fun _ => 0) n 1) : Met l yX1_pickEachByWeights wsX1_pickEachByWeights ({ frames := 3, cells := 0, slots := 0, locals := 67 } : Room) (fcPc D cI cJ cII ad M [.ref (ad 9), .ref (ad 8), .ref (ad 6)]) (va_Qv (fun M2 => fl_row (M2.1 10) (a_pick (a_f0 w n) (n - a_k0 kp) (a_k0 kp) (a_t0 kp, d)).1 n 64 ∧ fc_D (a_pick (a_f0 w n) (n - a_k0 kp) (a_k0 kp) (a_t0 kp, d)).2 M2 ∧ fl_eq fc_PP M M2) (fcQ D cI cII ad) (fl_A 62 ad)) 0 0 (fl_A 62 ad) := by
  refine Met.ofW (cc := cX1_pickEachByWeights) (maxL := 4) (ret := none) (by decide) rfl ?_
  intro p e s m args below meth c s₁ B hml hv
  obtain ⟨rfl, hP, hK, hN⟩ := hv
  have hx := B.exec
  have hb := B.bytes
  have hr := B.returns
  have hts := atoms_spec (ws := wsX1_pickEachByWeights) B.pre
  have hown : s.vm.findClass RX1 = some m.cls := findClass_of_methodNamed B.named
  have hlocks := B.notSynchronized
  have inX2 : ∀ w ∈ u_ws RX2 TX2 13, w ∈ wsX1_pickEachByWeights := by decide +kernel
  have hS : va_S (fl_A 62 ad) s.heap s.heap [] := va_S.rf
  have hl := lv_entry ([.ref (ad 9), .ref (ad 8), .ref (ad 6)] : List Value) (n := 4) (Nat.le_of_ble_eq_true rfl)
  rw [lg_entry_eq]
  generalize (lg_sl ([.ref (ad 9), .ref (ad 8), .ref (ad 6)] : List Value) ++ List.replicate (4 - (lg_sl ([.ref (ad 9), .ref (ad 8), .ref (ad 6)] : List Value)).length) Slot.unset).toArray = ls at hl ⊢
  have hl : lv_has ls 4 [(0, .ref (ad 9)), (1, .ref (ad 8)), (2, .ref (ad 6))] := hl
  obtain ⟨⟨hn0, hn, hn1⟩, ⟨hkp, hkl⟩, hw8, hww⟩ := id hW
  refine lv_aload_n hx hb dX1_pickEachByWeights_0 rfl (lv_at hl 0 rfl) ?_
  refine lv_aload_n hx hb dX1_pickEachByWeights_1 rfl (lv_at hl 1 rfl) ?_
  refine va_calli (va_runV (As := [.ref (ad 8)]) (rest := []) ⟨hx, hb, hml, hown, hts⟩ (c_X1_firstPickBehindKept l hJ M n kp w hW h10) (cwV 1 hts gX1_pickEachByWeights_X1_firstPickBehindKept rfl rfl rfl (by decide +kernel) ⟨Nat.le_of_ble_eq_true rfl, Nat.le_of_ble_eq_true rfl⟩) ⟨fl_blind, va_recv hK hP (ci := 3) (q0 := 9) rfl (fl_at (by decide) rfl), fl_pre hP hK hN⟩ rfl rfl hl.1 rfl (lv_room (Nat.le_of_ble_eq_true rfl)) dX1_pickEachByWeights_2 ⟨Nat.le_of_ble_eq_true rfl, Nat.le_of_ble_eq_true rfl⟩) hS (fun _ _ h => h) (fun _ h => h) (fun r2 M2 t H1 locs ht hvm hw hB hz1 hk1 hS => ?_)
  have hP : va_P D vwCl (fcP cI cII ad M2) H1 := by rw [← ht]; exact hB
  clear hB hk1 hz1 hvm ht t
  obtain ⟨rfl, hrow0, he1⟩ := hw
  have hD0 : fc_D d M2 := hd.eq he1 (by decide) (by decide)
  have he0 : fl_eq fc_PP M M2 := he1.mono (fun c hc => hc.2.1)
  refine lv_istore_n (lv' := [(3, .int (nI (a_k0 kp))), (0, .ref (ad 9)), (1, .ref (ad 8)), (2, .ref (ad 6))]) hx hb dX1_pickEachByWeights_5 rfl hl (by decide) rfl (fun ls hl => ?_)
  suffices KL6 : ∀ (f : Nat) (k : Nat) (M3 : fl_M) (q : (Nat → Nat) × a_D) (hk : k ≤ n) (hrow : fl_row (M3.1 10) q.1 n (k + 1)) (hD : fc_D q.2 M3) (hinv : a_pick (a_f0 w n) (n - k) k q = a_pick (a_f0 w n) (n - a_k0 kp) (a_k0 kp) (a_t0 kp, d)) (he : fl_eq fc_PP M M3) (hf : n + 1 ≤ k + f), ∀ (H : Heap) (locs : List Loc), va_P D vwCl (fcP cI cII ad M3) H → va_S (fl_A 62 ad) s.heap H locs → ∀ (ls : Array Slot), lv_has ls 4 [(0, .ref (ad 9)), (1, .ref (ad 8)), (2, .ref (ad 6)), (3, .int (nI k))] → W p l e (headSpec wsX1_pickEachByWeights ({ frames := 3, cells := 0, slots := 0, locals := 67 } : Room)).room s m ([.ref (ad 9), .ref (ad 8), .ref (ad 6)] : List Value).toArray below meth c H locs 0 0 (MQ below (va_Qv (fun M2 => fl_row (M2.1 10) (a_pick (a_f0 w n) (n - a_k0 kp) (a_k0 kp) (a_t0 kp, d)).1 n 64 ∧ fc_D (a_pick (a_f0 w n) (n - a_k0 kp) (a_k0 kp) (a_t0 kp, d)).2 M2 ∧ fl_eq fc_PP M M2) (fcQ D cI cII ad) (fl_A 62 ad)) ([.ref (ad 9), .ref (ad 8), .ref (ad 6)] : List Value).toArray s 0 0 (fl_A 62 ad)) (F0 m 6 ls []) from KL6 (n + 1) (a_k0 kp) _ (a_t0 kp, d) (a_k0_le hkl) hrow0 hD0 rfl he0 (by have := a_k0_le hkl; omega) _ _ hP hS ls (lv_sub hl [1, 2, 3, 0] rfl)
  intro f
  induction f with
  | zero =>
    intro k M3 q hk hrow hD hinv he hf
    omega
  | succ f ih6 =>
    intro k M3 q hk hrow hD hinv he hf H locs hP hS ls hl
    have hW3 := hW.eq he
    obtain ⟨⟨-, -, hn3⟩, -, hw83, hww3⟩ := id hW3
    refine lv_iload_n hx hb dX1_pickEachByWeights_6 rfl (lv_at hl 3 rfl) ?_
    refine lv_aload_n hx hb dX1_pickEachByWeights_7 rfl (lv_at hl 1 rfl) ?_
    refine va_get (D := D) (ci := 4) (v := .int (M3.1 8 2)) (C := RX2) (T := TX2) (N := 13) hx hb hts inX2 hown hK hP 8 (fl_at (by decide) rfl) rfl 2 (by decide) (hts (.fieldLink RX1 43 "ResampledRows$Run" "n" "I") (by decide +kernel)) (fun _ h9 => h9) rfl dX1_pickEachByWeights_8 ?_
    refine fl_ti (y := nI n) hn3 ?_
    refine lv_icmp_ge (tgt := 36) hx hb dX1_pickEachByWeights_11 (by decide) (fun hc11 => ?_) (fun hc11 => ?_)
    · have e11 : k = n := Nat.le_antisymm hk ((nI_leI (by omega) (by omega)).mp hc11)
      have hfin : q = a_pick (a_f0 w n) (n - a_k0 kp) (a_k0 kp) (a_t0 kp, d) := by rw [← hinv, e11, Nat.sub_self]; rfl
      exact W.vret hx hb hr (fun t ht hW => ⟨⟨M3, rfl, ⟨by rw [← hfin]; exact hrow.lt (by omega), by rw [← hfin]; exact hD, he⟩, fl_qi ht hP⟩, hS.F ht⟩) hS.2.2 dX1_pickEachByWeights_36
    · have l11 : k < n := Nat.lt_of_not_le (fun q => hc11 ((nI_leI (by omega) (by omega)).mpr q))
      have lK := l11
      refine lv_aload_n hx hb dX1_pickEachByWeights_14 rfl (lv_at hl 0 rfl) ?_
      refine lv_aload_n hx hb dX1_pickEachByWeights_15 rfl (lv_at hl 2 rfl) ?_
      refine lv_aload_n hx hb dX1_pickEachByWeights_16 rfl (lv_at hl 1 rfl) ?_
      refine va_get (D := D) (ci := 4) (v := .ref (ad (M3.2.2.2 8 8))) (C := RX2) (T := TX2) (N := 13) hx hb hts inX2 hown hK hP 8 (fl_at (by decide) rfl) rfl 8 (by decide) (hts (.fieldLink RX1 59 "ResampledRows$Run" "weights" "[I") (by decide +kernel)) (fun _ h9 => h9) rfl dX1_pickEachByWeights_17 ?_
      refine lv_aload_n hx hb dX1_pickEachByWeights_20 rfl (lv_at hl 1 rfl) ?_
      refine va_get (D := D) (ci := 4) (v := .int (M3.1 8 2)) (C := RX2) (T := TX2) (N := 13) hx hb hts inX2 hown hK hP 8 (fl_at (by decide) rfl) rfl 2 (by decide) (hts (.fieldLink RX1 43 "ResampledRows$Run" "n" "I") (by decide +kernel)) (fun _ h9 => h9) rfl dX1_pickEachByWeights_21 ?_
      refine fl_ti (y := nI n) hn3 ?_
      refine va_calli (va_runV (As := [.ref (ad (M3.2.2.2 8 8)), .int (nI n)]) (rest := [.ref (ad 9)]) ⟨hx, hb, hml, hown, hts⟩ (c_X0_byWeights l hJ M3 q.2 _ 16 n w hW3.l8 (by decide) hn (by omega) (fun j hj => ⟨(hww3 j hj).1, by have := (hww3 j hj).2; omega⟩) (by have := a_row_le (B := 1000000) hww3; omega) hD) (cwV 2 hts gX1_pickEachByWeights_X0_byWeights rfl rfl rfl (by decide +kernel) ⟨Nat.le_of_ble_eq_true rfl, Nat.le_of_ble_eq_true rfl⟩) ⟨fl_blind, va_recv hK hP (ci := 2) (q0 := 6) rfl (fl_at (by decide) rfl), fl_pre hP hK hN⟩ rfl rfl hl.1 rfl (lv_room (Nat.le_of_ble_eq_true rfl)) dX1_pickEachByWeights_24 ⟨Nat.le_of_ble_eq_true rfl, Nat.le_of_ble_eq_true rfl⟩) hS (fun _ _ h => h) (fun _ h => h) (fun r24 M24 t H1 locs ht hvm hw hB hz1 hk1 hS => ?_)
      have hP : va_P D vwCl (fcP cI cII ad M24) H1 := by rw [← ht]; exact hB
      clear hB hk1 hz1 hvm ht t
      obtain ⟨rfl, hDb, heb⟩ := hw
      obtain ⟨x, hx0⟩ : ∃ x, x = (a_f0 w n k q.2).1 := ⟨_, rfl⟩
      have hxn : x < n := by rw [hx0]; exact a_f0_lt hT0 k q.2
      refine fl_ti (y := nI x) (by rw [hx0, a_by_some (by omega)]; rfl) ?_
      refine va_callv (va_runV (As := [.int (nI x)]) (rest := []) ⟨hx, hb, hml, hown, hts⟩ (c_X1_add l hJ M24 x (by omega)) (cwV 1 hts gX1_pickEachByWeights_X1_add rfl rfl rfl (by decide +kernel) ⟨Nat.le_of_ble_eq_true rfl, Nat.le_of_ble_eq_true rfl⟩) ⟨fl_blind, va_recv hK hP (ci := 3) (q0 := 9) rfl (fl_at (by decide) rfl), fl_pre hP hK hN⟩ rfl rfl hl.1 rfl (lv_room (Nat.le_of_ble_eq_true rfl)) dX1_pickEachByWeights_27 ⟨Nat.le_of_ble_eq_true rfl, Nat.le_of_ble_eq_true rfl⟩) hS (fun _ _ h => h) (fun _ h => h) (fun M27 t H1 locs ht hvm hw hB hz1 hk1 hS => ?_)
      have hP : va_P D vwCl (fcP cI cII ad M27) H1 := by rw [← ht]; exact hB
      clear hB hk1 hz1 hvm ht t
      rw [hw] at hP
      have hrow4 : fl_row ((fl_sI M24 10 x (M24.1 10 x + 1)).1 10) (a_bump q.1 (a_f0 w n k q.2).1) n (k + 1 + 1) := by
        rw [fl_sI_same, ← hx0]
        exact (hrow.cast (heb 10 (by decide)).1).bump hxn
      have hD4 : fc_D (a_f0 w n k q.2).2 (fl_sI M24 10 x (M24.1 10 x + 1)) := hDb.eq (P := fun c => c = 6 ∨ c = 7) (fl_eq.rf.sI (by decide) _ _) (Or.inl rfl) (Or.inr rfl)
      have he4 : fl_eq fc_PP M (fl_sI M24 10 x (M24.1 10 x + 1)) := (he.tr (heb.mono (fun c hc => hc.1))).sI (fun q => q.2.1 rfl) _ _
      refine lv_iinc (v := nI (k + 1)) (lv' := [(3, .int (nI (k + 1))), (0, .ref (ad 9)), (1, .ref (ad 8)), (2, .ref (ad 6))]) hx hb dX1_pickEachByWeights_30 hl (k := 3) rfl (fl_inc k) (by decide) rfl (fun ls hl => ?_)
      refine lv_goto (tgt := 6) hx hb dX1_pickEachByWeights_33 (by decide) ?_
      exact ih6 (k + 1) (fl_sI M24 10 x (M24.1 10 x + 1)) (a_bump q.1 ((a_f0 w n) k q.2).1, ((a_f0 w n) k q.2).2) (by omega) hrow4 hD4 (by rw [← hinv, a_pick_s lK]) he4 (by omega) _ _ hP hS ls (lv_sub hl [1, 2, 3, 0] rfl)

set_option maxHeartbeats 4000000 in
set_option maxRecDepth 100000 in
theorem c_X1_pickWithDrawsOfTheirOwn (l : Launch) {D : va_G} {cI cJ cII : ClassId} {ad : Nat → Nat} (hJ : fl_inj 62 ad) (M : fl_M) (n : Nat) (kp : Option Nat) (w : Nat → Nat) (hW : fc_W n kp w M) (d : a_D) (hd : fc_D d M) (hT0 : 0 < a_sum w n) (h10 : fl_row (M.1 10) (fun _ => 0) n 1) : Met l yX1_pickWithDrawsOfTheirOwn wsX1_pickWithDrawsOfTheirOwn ({ frames := 2, cells := 0, slots := 0, locals := 44 } : Room) (fcPc D cI cJ cII ad M [.ref (ad 9), .ref (ad 8), .ref (ad 6)]) (va_Qv (fun M2 => fl_row (M2.1 10) (a_pick (a_f1 w n) (n - a_k0 kp) (a_k0 kp) (a_t0 kp, d)).1 n 64 ∧ fc_D (a_pick (a_f1 w n) (n - a_k0 kp) (a_k0 kp) (a_t0 kp, d)).2 M2 ∧ fl_eq fc_PP M M2) (fcQ D cI cII ad) (fl_A 62 ad)) 0 0 (fl_A 62 ad) := by
  refine Met.ofW (cc := cX1_pickWithDrawsOfTheirOwn) (maxL := 6) (ret := none) (by decide) rfl ?_
  intro p e s m args below meth c s₁ B hml hv
  obtain ⟨rfl, hP, hK, hN⟩ := hv
  have hx := B.exec
  have hb := B.bytes
  have hr := B.returns
  have hts := atoms_spec (ws := wsX1_pickWithDrawsOfTheirOwn) B.pre
  have hown : s.vm.findClass RX1 = some m.cls := findClass_of_methodNamed B.named
  have hlocks := B.notSynchronized
  have inX2 : ∀ w ∈ u_ws RX2 TX2 13, w ∈ wsX1_pickWithDrawsOfTheirOwn := by decide +kernel
  have hS : va_S (fl_A 62 ad) s.heap s.heap [] := va_S.rf
  have hl := lv_entry ([.ref (ad 9), .ref (ad 8), .ref (ad 6)] : List Value) (n := 6) (Nat.le_of_ble_eq_true rfl)
  rw [lg_entry_eq]
  generalize (lg_sl ([.ref (ad 9), .ref (ad 8), .ref (ad 6)] : List Value) ++ List.replicate (6 - (lg_sl ([.ref (ad 9), .ref (ad 8), .ref (ad 6)] : List Value)).length) Slot.unset).toArray = ls at hl ⊢
  have hl : lv_has ls 6 [(0, .ref (ad 9)), (1, .ref (ad 8)), (2, .ref (ad 6))] := hl
  obtain ⟨⟨hn0, hn, hn1⟩, ⟨hkp, hkl⟩, hw8, hww⟩ := id hW
  have hTl : a_sum w n ≤ 16000000 := by have := a_row_le (B := 1000000) hww; omega
  refine lv_aload_n hx hb dX1_pickWithDrawsOfTheirOwn_0 rfl (lv_at hl 1 rfl) ?_
  refine va_calll (va_runV (As := []) (rest := []) ⟨hx, hb, hml, hown, hts⟩ (c_X2_total l hJ M n w hn hn1 hW.l8 hww) (cwV 0 hts gX1_pickWithDrawsOfTheirOwn_X2_total rfl rfl rfl (by decide +kernel) ⟨Nat.le_of_ble_eq_true rfl, Nat.le_of_ble_eq_true rfl⟩) ⟨fl_blind, va_recv hK hP (ci := 4) (q0 := 8) rfl (fl_at (by decide) rfl), fl_pre hP hK hN⟩ rfl rfl hl.1 rfl (lv_room (Nat.le_of_ble_eq_true rfl)) dX1_pickWithDrawsOfTheirOwn_1 ⟨Nat.le_of_ble_eq_true rfl, Nat.le_of_ble_eq_true rfl⟩) hS (fun _ _ h => h) (fun _ h => h) (fun r1 M1 t H1 locs ht hvm hw hB hz1 hk1 hS => ?_)
  have hP : va_P D vwCl (fcP cI cII ad M1) H1 := by rw [← ht]; exact hB
  clear hB hk1 hz1 hvm ht t
  obtain ⟨rfl, hE⟩ := hw
  rw [hE] at hP
  refine lv_lstore_n (lv' := [(3, .long (lN (a_sum w n))), (0, .ref (ad 9)), (1, .ref (ad 8)), (2, .ref (ad 6))]) hx hb dX1_pickWithDrawsOfTheirOwn_4 rfl hl (by decide) rfl (fun ls hl => ?_)
  refine lv_aload_n hx hb dX1_pickWithDrawsOfTheirOwn_5 rfl (lv_at hl 1 rfl) ?_
  refine lv_aload_n hx hb dX1_pickWithDrawsOfTheirOwn_6 rfl (lv_at hl 2 rfl) ?_
  refine va_calli (va_runV (As := [.ref (ad 8)]) (rest := []) ⟨hx, hb, hml, hown, hts⟩ (c_X1_firstPickBehindKept l hJ M n kp w hW h10) (cwV 1 hts gX1_pickWithDrawsOfTheirOwn_X1_firstPickBehindKept rfl rfl rfl (by decide +kernel) ⟨Nat.le_of_ble_eq_true rfl, Nat.le_of_ble_eq_true rfl⟩) ⟨fl_blind, va_recv hK hP (ci := 3) (q0 := 9) rfl (fl_at (by decide) rfl), fl_pre hP hK hN⟩ rfl rfl hl.1 rfl (lv_room (Nat.le_of_ble_eq_true rfl)) dX1_pickWithDrawsOfTheirOwn_7 ⟨Nat.le_of_ble_eq_true rfl, Nat.le_of_ble_eq_true rfl⟩) hS (fun _ _ h => h) (fun _ h => h) (fun r7 M7 t H1 locs ht hvm hw hB hz1 hk1 hS => ?_)
  have hP : va_P D vwCl (fcP cI cII ad M7) H1 := by rw [← ht]; exact hB
  clear hB hk1 hz1 hvm ht t
  obtain ⟨rfl, hrow0, he1⟩ := hw
  have hD0 : fc_D d M7 := hd.eq he1 (by decide) (by decide)
  have he0 : fl_eq fc_PP M M7 := he1.mono (fun c hc => hc.2.1)
  refine lv_istore (lv' := [(5, .int (nI (a_k0 kp))), (3, .long (lN (a_sum w n))), (0, .ref (ad 9)), (1, .ref (ad 8)), (2, .ref (ad 6))]) hx hb dX1_pickWithDrawsOfTheirOwn_10 hl (by decide) rfl (fun ls hl => ?_)
  suffices KL12 : ∀ (f : Nat) (k : Nat) (M3 : fl_M) (q : (Nat → Nat) × a_D) (hk : k ≤ n) (hrow : fl_row (M3.1 10) q.1 n (k + 1)) (hD : fc_D q.2 M3) (hinv : a_pick (a_f1 w n) (n - k) k q = a_pick (a_f1 w n) (n - a_k0 kp) (a_k0 kp) (a_t0 kp, d)) (he : fl_eq fc_PP M M3) (hf : n + 1 ≤ k + f), ∀ (H : Heap) (locs : List Loc), va_P D vwCl (fcP cI cII ad M3) H → va_S (fl_A 62 ad) s.heap H locs → ∀ (ls : Array Slot), lv_has ls 6 [(0, .ref (ad 9)), (1, .ref (ad 8)), (2, .ref (ad 6)), (3, .long (lN (a_sum w n))), (5, .int (nI k))] → W p l e (headSpec wsX1_pickWithDrawsOfTheirOwn ({ frames := 2, cells := 0, slots := 0, locals := 44 } : Room)).room s m ([.ref (ad 9), .ref (ad 8), .ref (ad 6)] : List Value).toArray below meth c H locs 0 0 (MQ below (va_Qv (fun M2 => fl_row (M2.1 10) (a_pick (a_f1 w n) (n - a_k0 kp) (a_k0 kp) (a_t0 kp, d)).1 n 64 ∧ fc_D (a_pick (a_f1 w n) (n - a_k0 kp) (a_k0 kp) (a_t0 kp, d)).2 M2 ∧ fl_eq fc_PP M M2) (fcQ D cI cII ad) (fl_A 62 ad)) ([.ref (ad 9), .ref (ad 8), .ref (ad 6)] : List Value).toArray s 0 0 (fl_A 62 ad)) (F0 m 12 ls []) from KL12 (n + 1) (a_k0 kp) _ (a_t0 kp, d) (a_k0_le hkl) hrow0 hD0 rfl he0 (by have := a_k0_le hkl; omega) _ _ hP hS ls (lv_sub hl [2, 3, 4, 1, 0] rfl)
  intro f
  induction f with
  | zero =>
    intro k M3 q hk hrow hD hinv he hf
    omega
  | succ f ih12 =>
    intro k M3 q hk hrow hD hinv he hf H locs hP hS ls hl
    have hW3 := hW.eq he
    obtain ⟨⟨-, -, hn3⟩, -, hw83, hww3⟩ := id hW3
    refine lv_iload hx hb dX1_pickWithDrawsOfTheirOwn_12 (lv_at hl 4 rfl) ?_
    refine lv_aload_n hx hb dX1_pickWithDrawsOfTheirOwn_14 rfl (lv_at hl 1 rfl) ?_
    refine va_get (D := D) (ci := 4) (v := .int (M3.1 8 2)) (C := RX2) (T := TX2) (N := 13) hx hb hts inX2 hown hK hP 8 (fl_at (by decide) rfl) rfl 2 (by decide) (hts (.fieldLink RX1 43 "ResampledRows$Run" "n" "I") (by decide +kernel)) (fun _ h9 => h9) rfl dX1_pickWithDrawsOfTheirOwn_15 ?_
    refine fl_ti (y := nI n) hn3 ?_
    refine lv_icmp_ge (tgt := 58) hx hb dX1_pickWithDrawsOfTheirOwn_18 (by decide) (fun hc18 => ?_) (fun hc18 => ?_)
    · have e18 : k = n := Nat.le_antisymm hk ((nI_leI (by omega) (by omega)).mp hc18)
      have hfin : q = a_pick (a_f1 w n) (n - a_k0 kp) (a_k0 kp) (a_t0 kp, d) := by rw [← hinv, e18, Nat.sub_self]; rfl
      exact W.vret hx hb hr (fun t ht hW => ⟨⟨M3, rfl, ⟨by rw [← hfin]; exact hrow.lt (by omega), by rw [← hfin]; exact hD, he⟩, fl_qi ht hP⟩, hS.F ht⟩) hS.2.2 dX1_pickWithDrawsOfTheirOwn_58
    · have l18 : k < n := Nat.lt_of_not_le (fun q => hc18 ((nI_leI (by omega) (by omega)).mpr q))
      have lK := l18
      refine lv_aload_n hx hb dX1_pickWithDrawsOfTheirOwn_21 rfl (lv_at hl 0 rfl) ?_
      refine lv_iload hx hb dX1_pickWithDrawsOfTheirOwn_22 (lv_at hl 4 rfl) ?_
      refine lv_i2l (v := (nI k).toInt64) hx hb dX1_pickWithDrawsOfTheirOwn_24 rfl ?_
      refine fl_tl (y := lN k) (nI_l (by omega)) ?_
      refine lv_lload_n hx hb dX1_pickWithDrawsOfTheirOwn_25 rfl (lv_at hl 3 rfl) ?_
      refine lv_lmul hx hb dX1_pickWithDrawsOfTheirOwn_26 ?_
      refine fl_tl (y := lN (k * a_sum w n)) (lN_mul _ _) ?_
      refine lv_aload_n hx hb dX1_pickWithDrawsOfTheirOwn_27 rfl (lv_at hl 2 rfl) ?_
      refine lv_lload_n hx hb dX1_pickWithDrawsOfTheirOwn_28 rfl (lv_at hl 3 rfl) ?_
      refine va_calll (va_runV (As := [.long (lN (a_sum w n))]) (rest := [.long (lN (k * a_sum w n)), .ref (ad 9)]) ⟨hx, hb, hml, hown, hts⟩ (c_X0_below l hJ M3 q.2 (a_sum w n) hT0 (by omega) hD) (cwV 1 hts gX1_pickWithDrawsOfTheirOwn_X0_below rfl rfl rfl (by decide +kernel) ⟨Nat.le_of_ble_eq_true rfl, Nat.le_of_ble_eq_true rfl⟩) ⟨fl_blind, va_recv hK hP (ci := 2) (q0 := 6) rfl (fl_at (by decide) rfl), fl_pre hP hK hN⟩ rfl rfl hl.1 rfl (lv_room (Nat.le_of_ble_eq_true rfl)) dX1_pickWithDrawsOfTheirOwn_29 ⟨Nat.le_of_ble_eq_true rfl, Nat.le_of_ble_eq_true rfl⟩) hS (fun _ _ h => h) (fun _ h => h) (fun r29 M29 t H1 locs ht hvm hw hB hz1 hk1 hS => ?_)
      have hP : va_P D vwCl (fcP cI cII ad M29) H1 := by rw [← ht]; exact hB
      clear hB hk1 hz1 hvm ht t
      obtain ⟨rfl, hDb, heb⟩ := hw
      obtain ⟨b, hb0⟩ : ∃ b, b = (a_next q.2).1 % a_sum w n := ⟨_, rfl⟩
      have hDR : b < a_sum w n := by rw [hb0]; exact Nat.mod_lt _ hT0
      have hb1 : k * a_sum w n +  b < n * a_sum w n := a_kT lK hDR
      have hb2 : n * a_sum w n ≤ 16 * 16000000 := Nat.mul_le_mul hn (by have := a_row_le (B := 1000000) hww; omega)
      have hW29 := hW.eq (he.tr (heb.mono (fun c hc => hc.1)))
      obtain ⟨⟨-, -, hn29⟩, -, hw829, hww29⟩ := id hW29
      refine fl_tl (y := lN b) (by rw [hb0]) ?_
      obtain ⟨x, hx0⟩ : ∃ x, x = (a_f1 w n k q.2).1 := ⟨_, rfl⟩
      have hxe : x = a_first w n (k * a_sum w n + b) n := by rw [hx0, hb0]; rfl
      have hxn : x < n := by rw [hx0]; exact a_f1_lt hT0 lK q.2
      refine lv_ladd hx hb dX1_pickWithDrawsOfTheirOwn_32 ?_
      refine fl_tl (y := lN (k * a_sum w n + b)) (lN_add _ _) ?_
      refine lv_aload_n hx hb dX1_pickWithDrawsOfTheirOwn_33 rfl (lv_at hl 1 rfl) ?_
      refine va_get (D := D) (ci := 4) (v := .int (M29.1 8 2)) (C := RX2) (T := TX2) (N := 13) hx hb hts inX2 hown hK hP 8 (fl_at (by decide) rfl) rfl 2 (by decide) (hts (.fieldLink RX1 43 "ResampledRows$Run" "n" "I") (by decide +kernel)) (fun _ h9 => h9) rfl dX1_pickWithDrawsOfTheirOwn_34 ?_
      refine fl_ti (y := nI n) hn29 ?_
      refine lv_i2l (v := (nI n).toInt64) hx hb dX1_pickWithDrawsOfTheirOwn_37 rfl ?_
      refine fl_tl (y := lN n) (nI_l (by omega)) ?_
      refine lv_aload_n hx hb dX1_pickWithDrawsOfTheirOwn_38 rfl (lv_at hl 1 rfl) ?_
      refine va_get (D := D) (ci := 4) (v := .ref (ad (M29.2.2.2 8 8))) (C := RX2) (T := TX2) (N := 13) hx hb hts inX2 hown hK hP 8 (fl_at (by decide) rfl) rfl 8 (by decide) (hts (.fieldLink RX1 59 "ResampledRows$Run" "weights" "[I") (by decide +kernel)) (fun _ h9 => h9) rfl dX1_pickWithDrawsOfTheirOwn_39 ?_
      refine lv_aload_n hx hb dX1_pickWithDrawsOfTheirOwn_42 rfl (lv_at hl 1 rfl) ?_
      refine va_get (D := D) (ci := 4) (v := .int (M29.1 8 2)) (C := RX2) (T := TX2) (N := 13) hx hb hts inX2 hown hK hP 8 (fl_at (by decide) rfl) rfl 2 (by decide) (hts (.fieldLink RX1 43 "ResampledRows$Run" "n" "I") (by decide +kernel)) (fun _ h9 => h9) rfl dX1_pickWithDrawsOfTheirOwn_43 ?_
      refine fl_ti (y := nI n) hn29 ?_
      refine va_calli (va_runSN (As := [.long (lN (k * a_sum w n + b)), .long (lN n), .ref (ad (M29.2.2.2 8 8)), .int (nI n)]) (rest := [.ref (ad 9)]) ⟨hx, hb, hml, hown, hts⟩ (c_X4_firstAbove l hJ M29 _ 16 n (k * a_sum w n + b) n w hW29.l8 (by decide) hn (fun j hj => ⟨(hww29 j hj).1, by have := (hww29 j hj).2; omega⟩) (by omega) (by omega)) ⟨va_cnB 4 hts gX1_pickWithDrawsOfTheirOwn_X4_firstAbove_n76 rfl rfl rfl hN.2.2.1 (hts (.initialized RX4) (by decide +kernel)) (by decide +kernel) ⟨Nat.le_of_ble_eq_true rfl, Nat.le_of_ble_eq_true rfl⟩, hts (.static yX4_firstAbove) (by decide +kernel), trivial⟩ ⟨fl_blind, fl_pre hP hK hN⟩ rfl rfl hl.1 rfl (lv_room (Nat.le_of_ble_eq_true rfl)) dX1_pickWithDrawsOfTheirOwn_46 ⟨Nat.le_of_ble_eq_true rfl, Nat.le_of_ble_eq_true rfl⟩) hS (fun _ _ h => h) (fun _ h => h) (fun r46 M46 t H1 locs ht hvm hw hB hz1 hk1 hS => ?_)
      have hP : va_P D vwCl (fcP cI cII ad M46) H1 := by rw [← ht]; exact hB
      clear hB hk1 hz1 hvm ht t
      obtain ⟨rfl, hE⟩ := hw
      rw [hE] at hP
      refine fl_ti (y := nI x) (by rw [if_pos hb1, hxe]) ?_
      refine va_callv (va_runV (As := [.int (nI x)]) (rest := []) ⟨hx, hb, hml, hown, hts⟩ (c_X1_add l hJ M29 x (by omega)) (cwV 1 hts gX1_pickWithDrawsOfTheirOwn_X1_add rfl rfl rfl (by decide +kernel) ⟨Nat.le_of_ble_eq_true rfl, Nat.le_of_ble_eq_true rfl⟩) ⟨fl_blind, va_recv hK hP (ci := 3) (q0 := 9) rfl (fl_at (by decide) rfl), fl_pre hP hK hN⟩ rfl rfl hl.1 rfl (lv_room (Nat.le_of_ble_eq_true rfl)) dX1_pickWithDrawsOfTheirOwn_49 ⟨Nat.le_of_ble_eq_true rfl, Nat.le_of_ble_eq_true rfl⟩) hS (fun _ _ h => h) (fun _ h => h) (fun M49 t H1 locs ht hvm hw hB hz1 hk1 hS => ?_)
      have hP : va_P D vwCl (fcP cI cII ad M49) H1 := by rw [← ht]; exact hB
      clear hB hk1 hz1 hvm ht t
      rw [hw] at hP
      have hrow4 : fl_row ((fl_sI M29 10 x (M29.1 10 x + 1)).1 10) (a_bump q.1 (a_f1 w n k q.2).1) n (k + 1 + 1) := by
        rw [fl_sI_same, ← hx0]
        exact (hrow.cast (heb 10 (by decide)).1).bump hxn
      have hD4 : fc_D (a_f1 w n k q.2).2 (fl_sI M29 10 x (M29.1 10 x + 1)) := hDb.eq (P := fun c => c = 6 ∨ c = 7) (fl_eq.rf.sI (by decide) _ _) (Or.inl rfl) (Or.inr rfl)
      have he4 : fl_eq fc_PP M (fl_sI M29 10 x (M29.1 10 x + 1)) := (he.tr (heb.mono (fun c hc => hc.1))).sI (fun q => q.2.1 rfl) _ _
      refine lv_iinc (v := nI (k + 1)) (lv' := [(5, .int (nI (k + 1))), (0, .ref (ad 9)), (1, .ref (ad 8)), (2, .ref (ad 6)), (3, .long (lN (a_sum w n)))]) hx hb dX1_pickWithDrawsOfTheirOwn_52 hl (k := 4) rfl (fl_inc k) (by decide) rfl (fun ls hl => ?_)
      refine lv_goto (tgt := 12) hx hb dX1_pickWithDrawsOfTheirOwn_55 (by decide) ?_
      exact ih12 (k + 1) (fl_sI M29 10 x (M29.1 10 x + 1)) (a_bump q.1 ((a_f1 w n) k q.2).1, ((a_f1 w n) k q.2).2) (by omega) hrow4 hD4 (by rw [← hinv, a_pick_s lK]) he4 (by omega) _ _ hP hS ls (lv_sub hl [1, 2, 3, 4, 0] rfl)

set_option maxHeartbeats 4000000 in
set_option maxRecDepth 100000 in
theorem c_X1_pickWithOneDraw (l : Launch) {D : va_G} {cI cJ cII : ClassId} {ad : Nat → Nat} (hJ : fl_inj 62 ad) (M : fl_M) (n : Nat) (kp : Option Nat) (w : Nat → Nat) (hW : fc_W n kp w M) (d : a_D) (hd : fc_D d M) (hT0 : 0 < a_sum w n) (h10 : fl_row (M.1 10) (fun _ => 0) n 1) : Met l yX1_pickWithOneDraw wsX1_pickWithOneDraw ({ frames := 2, cells := 0, slots := 0, locals := 44 } : Room) (fcPc D cI cJ cII ad M [.ref (ad 9), .ref (ad 8), .ref (ad 6)]) (va_Qv (fun M2 => fl_row (M2.1 10) (a_pick (a_f2 w n ((a_next d).1 % a_sum w n)) (n - a_k0 kp) (a_k0 kp) (a_t0 kp, (a_next d).2)).1 n 64 ∧ fc_D (a_pick (a_f2 w n ((a_next d).1 % a_sum w n)) (n - a_k0 kp) (a_k0 kp) (a_t0 kp, (a_next d).2)).2 M2 ∧ fl_eq fc_PP M M2) (fcQ D cI cII ad) (fl_A 62 ad)) 0 0 (fl_A 62 ad) := by
  refine Met.ofW (cc := cX1_pickWithOneDraw) (maxL := 8) (ret := none) (by decide) rfl ?_
  intro p e s m args below meth c s₁ B hml hv
  obtain ⟨rfl, hP, hK, hN⟩ := hv
  have hx := B.exec
  have hb := B.bytes
  have hr := B.returns
  have hts := atoms_spec (ws := wsX1_pickWithOneDraw) B.pre
  have hown : s.vm.findClass RX1 = some m.cls := findClass_of_methodNamed B.named
  have hlocks := B.notSynchronized
  have inX2 : ∀ w ∈ u_ws RX2 TX2 13, w ∈ wsX1_pickWithOneDraw := by decide +kernel
  have hS : va_S (fl_A 62 ad) s.heap s.heap [] := va_S.rf
  have hl := lv_entry ([.ref (ad 9), .ref (ad 8), .ref (ad 6)] : List Value) (n := 8) (Nat.le_of_ble_eq_true rfl)
  rw [lg_entry_eq]
  generalize (lg_sl ([.ref (ad 9), .ref (ad 8), .ref (ad 6)] : List Value) ++ List.replicate (8 - (lg_sl ([.ref (ad 9), .ref (ad 8), .ref (ad 6)] : List Value)).length) Slot.unset).toArray = ls at hl ⊢
  have hl : lv_has ls 8 [(0, .ref (ad 9)), (1, .ref (ad 8)), (2, .ref (ad 6))] := hl
  obtain ⟨⟨hn0, hn, hn1⟩, ⟨hkp, hkl⟩, hw8, hww⟩ := id hW
  have hTl : a_sum w n ≤ 16000000 := by have := a_row_le (B := 1000000) hww; omega
  refine lv_aload_n hx hb dX1_pickWithOneDraw_0 rfl (lv_at hl 1 rfl) ?_
  refine va_calll (va_runV (As := []) (rest := []) ⟨hx, hb, hml, hown, hts⟩ (c_X2_total l hJ M n w hn hn1 hW.l8 hww) (cwV 0 hts gX1_pickWithOneDraw_X2_total rfl rfl rfl (by decide +kernel) ⟨Nat.le_of_ble_eq_true rfl, Nat.le_of_ble_eq_true rfl⟩) ⟨fl_blind, va_recv hK hP (ci := 4) (q0 := 8) rfl (fl_at (by decide) rfl), fl_pre hP hK hN⟩ rfl rfl hl.1 rfl (lv_room (Nat.le_of_ble_eq_true rfl)) dX1_pickWithOneDraw_1 ⟨Nat.le_of_ble_eq_true rfl, Nat.le_of_ble_eq_true rfl⟩) hS (fun _ _ h => h) (fun _ h => h) (fun r1 M1 t H1 locs ht hvm hw hB hz1 hk1 hS => ?_)
  have hP : va_P D vwCl (fcP cI cII ad M1) H1 := by rw [← ht]; exact hB
  clear hB hk1 hz1 hvm ht t
  obtain ⟨rfl, hE⟩ := hw
  rw [hE] at hP
  refine lv_lstore_n (lv' := [(3, .long (lN (a_sum w n))), (0, .ref (ad 9)), (1, .ref (ad 8)), (2, .ref (ad 6))]) hx hb dX1_pickWithOneDraw_4 rfl hl (by decide) rfl (fun ls hl => ?_)
  refine lv_aload_n hx hb dX1_pickWithOneDraw_5 rfl (lv_at hl 3 rfl) ?_
  refine lv_lload_n hx hb dX1_pickWithOneDraw_6 rfl (lv_at hl 0 rfl) ?_
  refine va_calll (va_runV (As := [.long (lN (a_sum w n))]) (rest := []) ⟨hx, hb, hml, hown, hts⟩ (c_X0_below l hJ M d (a_sum w n) hT0 (by omega) hd) (cwV 1 hts gX1_pickWithOneDraw_X0_below rfl rfl rfl (by decide +kernel) ⟨Nat.le_of_ble_eq_true rfl, Nat.le_of_ble_eq_true rfl⟩) ⟨fl_blind, va_recv hK hP (ci := 2) (q0 := 6) rfl (fl_at (by decide) rfl), fl_pre hP hK hN⟩ rfl rfl hl.1 rfl (lv_room (Nat.le_of_ble_eq_true rfl)) dX1_pickWithOneDraw_7 ⟨Nat.le_of_ble_eq_true rfl, Nat.le_of_ble_eq_true rfl⟩) hS (fun _ _ h => h) (fun _ h => h) (fun r7 M7 t H1 locs ht hvm hw hB hz1 hk1 hS => ?_)
  have hP : va_P D vwCl (fcP cI cII ad M7) H1 := by rw [← ht]; exact hB
  clear hB hk1 hz1 hvm ht t
  obtain ⟨rfl, hDb, heb⟩ := hw
  obtain ⟨b, hb0⟩ : ∃ b, b = (a_next d).1 % a_sum w n := ⟨_, rfl⟩
  have hDR : b < a_sum w n := by rw [hb0]; exact Nat.mod_lt _ hT0
  have hW7 := hW.eq (heb.mono (fun c hc => hc.1))
  refine fl_tl (y := lN b) (by rw [hb0]) ?_
  refine lv_lstore (lv' := [(5, .long (lN b)), (3, .long (lN (a_sum w n))), (0, .ref (ad 9)), (1, .ref (ad 8)), (2, .ref (ad 6))]) hx hb dX1_pickWithOneDraw_10 hl (by decide) rfl (fun ls hl => ?_)
  refine lv_aload_n hx hb dX1_pickWithOneDraw_12 rfl (lv_at hl 2 rfl) ?_
  refine lv_aload_n hx hb dX1_pickWithOneDraw_13 rfl (lv_at hl 3 rfl) ?_
  refine va_calli (va_runV (As := [.ref (ad 8)]) (rest := []) ⟨hx, hb, hml, hown, hts⟩ (c_X1_firstPickBehindKept l hJ M7 n kp w hW7 (h10.cast (heb 10 (by decide)).1)) (cwV 1 hts gX1_pickWithOneDraw_X1_firstPickBehindKept rfl rfl rfl (by decide +kernel) ⟨Nat.le_of_ble_eq_true rfl, Nat.le_of_ble_eq_true rfl⟩) ⟨fl_blind, va_recv hK hP (ci := 3) (q0 := 9) rfl (fl_at (by decide) rfl), fl_pre hP hK hN⟩ rfl rfl hl.1 rfl (lv_room (Nat.le_of_ble_eq_true rfl)) dX1_pickWithOneDraw_14 ⟨Nat.le_of_ble_eq_true rfl, Nat.le_of_ble_eq_true rfl⟩) hS (fun _ _ h => h) (fun _ h => h) (fun r14 M14 t H1 locs ht hvm hw hB hz1 hk1 hS => ?_)
  have hP : va_P D vwCl (fcP cI cII ad M14) H1 := by rw [← ht]; exact hB
  clear hB hk1 hz1 hvm ht t
  obtain ⟨rfl, hrow0, he1⟩ := hw
  have hD0 : fc_D (a_next d).2 M14 := hDb.eq he1 (by decide) (by decide)
  have he0 : fl_eq fc_PP M M14 := (heb.mono (fun c hc => hc.1)).tr (he1.mono (fun c hc => hc.2.1))
  refine lv_istore (lv' := [(7, .int (nI (a_k0 kp))), (5, .long (lN b)), (3, .long (lN (a_sum w n))), (0, .ref (ad 9)), (1, .ref (ad 8)), (2, .ref (ad 6))]) hx hb dX1_pickWithOneDraw_17 hl (by decide) rfl (fun ls hl => ?_)
  suffices KL19 : ∀ (f : Nat) (k : Nat) (M3 : fl_M) (q : (Nat → Nat) × a_D) (hk : k ≤ n) (hrow : fl_row (M3.1 10) q.1 n (k + 1)) (hD : fc_D q.2 M3) (hinv : a_pick (a_f2 w n b) (n - k) k q = a_pick (a_f2 w n b) (n - a_k0 kp) (a_k0 kp) (a_t0 kp, (a_next d).2)) (he : fl_eq fc_PP M M3) (hf : n + 1 ≤ k + f), ∀ (H : Heap) (locs : List Loc), va_P D vwCl (fcP cI cII ad M3) H → va_S (fl_A 62 ad) s.heap H locs → ∀ (ls : Array Slot), lv_has ls 8 [(0, .ref (ad 9)), (1, .ref (ad 8)), (2, .ref (ad 6)), (3, .long (lN (a_sum w n))), (5, .long (lN b)), (7, .int (nI k))] → W p l e (headSpec wsX1_pickWithOneDraw ({ frames := 2, cells := 0, slots := 0, locals := 44 } : Room)).room s m ([.ref (ad 9), .ref (ad 8), .ref (ad 6)] : List Value).toArray below meth c H locs 0 0 (MQ below (va_Qv (fun M2 => fl_row (M2.1 10) (a_pick (a_f2 w n ((a_next d).1 % a_sum w n)) (n - a_k0 kp) (a_k0 kp) (a_t0 kp, (a_next d).2)).1 n 64 ∧ fc_D (a_pick (a_f2 w n ((a_next d).1 % a_sum w n)) (n - a_k0 kp) (a_k0 kp) (a_t0 kp, (a_next d).2)).2 M2 ∧ fl_eq fc_PP M M2) (fcQ D cI cII ad) (fl_A 62 ad)) ([.ref (ad 9), .ref (ad 8), .ref (ad 6)] : List Value).toArray s 0 0 (fl_A 62 ad)) (F0 m 19 ls []) from KL19 (n + 1) (a_k0 kp) _ (a_t0 kp, (a_next d).2) (a_k0_le hkl) hrow0 hD0 rfl he0 (by have := a_k0_le hkl; omega) _ _ hP hS ls (lv_sub hl [3, 4, 5, 2, 1, 0] rfl)
  intro f
  induction f with
  | zero =>
    intro k M3 q hk hrow hD hinv he hf
    omega
  | succ f ih19 =>
    intro k M3 q hk hrow hD hinv he hf H locs hP hS ls hl
    have hW3 := hW.eq he
    obtain ⟨⟨-, -, hn3⟩, -, hw83, hww3⟩ := id hW3
    refine lv_iload hx hb dX1_pickWithOneDraw_19 (lv_at hl 5 rfl) ?_
    refine lv_aload_n hx hb dX1_pickWithOneDraw_21 rfl (lv_at hl 1 rfl) ?_
    refine va_get (D := D) (ci := 4) (v := .int (M3.1 8 2)) (C := RX2) (T := TX2) (N := 13) hx hb hts inX2 hown hK hP 8 (fl_at (by decide) rfl) rfl 2 (by decide) (hts (.fieldLink RX1 43 "ResampledRows$Run" "n" "I") (by decide +kernel)) (fun _ h9 => h9) rfl dX1_pickWithOneDraw_22 ?_
    refine fl_ti (y := nI n) hn3 ?_
    refine lv_icmp_ge (tgt := 62) hx hb dX1_pickWithOneDraw_25 (by decide) (fun hc25 => ?_) (fun hc25 => ?_)
    · have e25 : k = n := Nat.le_antisymm hk ((nI_leI (by omega) (by omega)).mp hc25)
      have hfin : q = a_pick (a_f2 w n ((a_next d).1 % a_sum w n)) (n - a_k0 kp) (a_k0 kp) (a_t0 kp, (a_next d).2) := by rw [← hb0, ← hinv, e25, Nat.sub_self]; rfl
      exact W.vret hx hb hr (fun t ht hW => ⟨⟨M3, rfl, ⟨by rw [← hfin]; exact hrow.lt (by omega), by rw [← hfin]; exact hD, he⟩, fl_qi ht hP⟩, hS.F ht⟩) hS.2.2 dX1_pickWithOneDraw_62
    · have l25 : k < n := Nat.lt_of_not_le (fun q => hc25 ((nI_leI (by omega) (by omega)).mpr q))
      have lK := l25
      have hb1 : k * a_sum w n +  b < n * a_sum w n := a_kT lK hDR
      have hb2 : n * a_sum w n ≤ 16 * 16000000 := Nat.mul_le_mul hn (by have := a_row_le (B := 1000000) hww; omega)
      obtain ⟨x, hx0⟩ : ∃ x, x = (a_f2 w n b k q.2).1 := ⟨_, rfl⟩
      have hxe : x = a_first w n (k * a_sum w n + b) n := hx0
      have hxn : x < n := by rw [hx0]; exact a_f2_lt hDR lK q.2
      refine lv_aload_n hx hb dX1_pickWithOneDraw_28 rfl (lv_at hl 0 rfl) ?_
      refine lv_iload hx hb dX1_pickWithOneDraw_29 (lv_at hl 5 rfl) ?_
      refine lv_i2l (v := (nI k).toInt64) hx hb dX1_pickWithOneDraw_31 rfl ?_
      refine fl_tl (y := lN k) (nI_l (by omega)) ?_
      refine lv_lload_n hx hb dX1_pickWithOneDraw_32 rfl (lv_at hl 3 rfl) ?_
      refine lv_lmul hx hb dX1_pickWithOneDraw_33 ?_
      refine fl_tl (y := lN (k * a_sum w n)) (lN_mul _ _) ?_
      refine lv_lload hx hb dX1_pickWithOneDraw_34 (lv_at hl 4 rfl) ?_
      refine lv_ladd hx hb dX1_pickWithOneDraw_36 ?_
      refine fl_tl (y := lN (k * a_sum w n + b)) (lN_add _ _) ?_
      refine lv_aload_n hx hb dX1_pickWithOneDraw_37 rfl (lv_at hl 1 rfl) ?_
      refine va_get (D := D) (ci := 4) (v := .int (M3.1 8 2)) (C := RX2) (T := TX2) (N := 13) hx hb hts inX2 hown hK hP 8 (fl_at (by decide) rfl) rfl 2 (by decide) (hts (.fieldLink RX1 43 "ResampledRows$Run" "n" "I") (by decide +kernel)) (fun _ h9 => h9) rfl dX1_pickWithOneDraw_38 ?_
      refine fl_ti (y := nI n) hn3 ?_
      refine lv_i2l (v := (nI n).toInt64) hx hb dX1_pickWithOneDraw_41 rfl ?_
      refine fl_tl (y := lN n) (nI_l (by omega)) ?_
      refine lv_aload_n hx hb dX1_pickWithOneDraw_42 rfl (lv_at hl 1 rfl) ?_
      refine va_get (D := D) (ci := 4) (v := .ref (ad (M3.2.2.2 8 8))) (C := RX2) (T := TX2) (N := 13) hx hb hts inX2 hown hK hP 8 (fl_at (by decide) rfl) rfl 8 (by decide) (hts (.fieldLink RX1 59 "ResampledRows$Run" "weights" "[I") (by decide +kernel)) (fun _ h9 => h9) rfl dX1_pickWithOneDraw_43 ?_
      refine lv_aload_n hx hb dX1_pickWithOneDraw_46 rfl (lv_at hl 1 rfl) ?_
      refine va_get (D := D) (ci := 4) (v := .int (M3.1 8 2)) (C := RX2) (T := TX2) (N := 13) hx hb hts inX2 hown hK hP 8 (fl_at (by decide) rfl) rfl 2 (by decide) (hts (.fieldLink RX1 43 "ResampledRows$Run" "n" "I") (by decide +kernel)) (fun _ h9 => h9) rfl dX1_pickWithOneDraw_47 ?_
      refine fl_ti (y := nI n) hn3 ?_
      refine va_calli (va_runSN (As := [.long (lN (k * a_sum w n + b)), .long (lN n), .ref (ad (M3.2.2.2 8 8)), .int (nI n)]) (rest := [.ref (ad 9)]) ⟨hx, hb, hml, hown, hts⟩ (c_X4_firstAbove l hJ M3 _ 16 n (k * a_sum w n + b) n w hW3.l8 (by decide) hn (fun j hj => ⟨(hww3 j hj).1, by have := (hww3 j hj).2; omega⟩) (by omega) (by omega)) ⟨va_cnB 4 hts gX1_pickWithOneDraw_X4_firstAbove_n76 rfl rfl rfl hN.2.2.1 (hts (.initialized RX4) (by decide +kernel)) (by decide +kernel) ⟨Nat.le_of_ble_eq_true rfl, Nat.le_of_ble_eq_true rfl⟩, hts (.static yX4_firstAbove) (by decide +kernel), trivial⟩ ⟨fl_blind, fl_pre hP hK hN⟩ rfl rfl hl.1 rfl (lv_room (Nat.le_of_ble_eq_true rfl)) dX1_pickWithOneDraw_50 ⟨Nat.le_of_ble_eq_true rfl, Nat.le_of_ble_eq_true rfl⟩) hS (fun _ _ h => h) (fun _ h => h) (fun r50 M50 t H1 locs ht hvm hw hB hz1 hk1 hS => ?_)
      have hP : va_P D vwCl (fcP cI cII ad M50) H1 := by rw [← ht]; exact hB
      clear hB hk1 hz1 hvm ht t
      obtain ⟨rfl, hE⟩ := hw
      rw [hE] at hP
      refine fl_ti (y := nI x) (by rw [if_pos hb1, hxe]) ?_
      refine va_callv (va_runV (As := [.int (nI x)]) (rest := []) ⟨hx, hb, hml, hown, hts⟩ (c_X1_add l hJ M3 x (by omega)) (cwV 1 hts gX1_pickWithOneDraw_X1_add rfl rfl rfl (by decide +kernel) ⟨Nat.le_of_ble_eq_true rfl, Nat.le_of_ble_eq_true rfl⟩) ⟨fl_blind, va_recv hK hP (ci := 3) (q0 := 9) rfl (fl_at (by decide) rfl), fl_pre hP hK hN⟩ rfl rfl hl.1 rfl (lv_room (Nat.le_of_ble_eq_true rfl)) dX1_pickWithOneDraw_53 ⟨Nat.le_of_ble_eq_true rfl, Nat.le_of_ble_eq_true rfl⟩) hS (fun _ _ h => h) (fun _ h => h) (fun M53 t H1 locs ht hvm hw hB hz1 hk1 hS => ?_)
      have hP : va_P D vwCl (fcP cI cII ad M53) H1 := by rw [← ht]; exact hB
      clear hB hk1 hz1 hvm ht t
      rw [hw] at hP
      have hrow4 : fl_row ((fl_sI M3 10 x (M3.1 10 x + 1)).1 10) (a_bump q.1 (a_f2 w n b k q.2).1) n (k + 1 + 1) := by
        rw [fl_sI_same, ← hx0]
        exact hrow.bump hxn
      have hD4 : fc_D (a_f2 w n b k q.2).2 (fl_sI M3 10 x (M3.1 10 x + 1)) := hD.eq (P := fun c => c = 6 ∨ c = 7) (fl_eq.rf.sI (by decide) _ _) (Or.inl rfl) (Or.inr rfl)
      have he4 : fl_eq fc_PP M (fl_sI M3 10 x (M3.1 10 x + 1)) := he.sI (fun q => q.2.1 rfl) _ _
      refine lv_iinc (v := nI (k + 1)) (lv' := [(7, .int (nI (k + 1))), (0, .ref (ad 9)), (1, .ref (ad 8)), (2, .ref (ad 6)), (3, .long (lN (a_sum w n))), (5, .long (lN b))]) hx hb dX1_pickWithOneDraw_56 hl (k := 5) rfl (fl_inc k) (by decide) rfl (fun ls hl => ?_)
      refine lv_goto (tgt := 19) hx hb dX1_pickWithOneDraw_59 (by decide) ?_
      exact ih19 (k + 1) (fl_sI M3 10 x (M3.1 10 x + 1)) (a_bump q.1 ((a_f2 w n b) k q.2).1, ((a_f2 w n b) k q.2).2) (by omega) hrow4 hD4 (by rw [← hinv, a_pick_s lK]) he4 (by omega) _ _ hP hS ls (lv_sub hl [1, 2, 3, 4, 5, 0] rfl)
end
section
theorem a_parts_lt {w : Nat → Nat} {n i : Nat} (hi : i < n) : a_parts w n i ≤ n := by
  refine Nat.div_le_of_le_mul ?_
  rw [Nat.mul_comm (a_sum w n)]
  exact Nat.mul_le_mul_left n (a_sum_ge w hi)
theorem fl_pred {n : Nat} (h : 0 < n) : nI n - 1 = nI (n - 1) := by
  obtain ⟨q, rfl⟩ : ∃ q, n = q + 1 := ⟨n - 1, by omega⟩
  exact nI_pred q
theorem fl_dec {n : Nat} (h : 0 < n) : nI n + Int32.ofInt (-1) = nI (n - 1) := by
  obtain ⟨q, rfl⟩ : ∃ q, n = q + 1 := ⟨n - 1, by omega⟩
  exact pk_m1 q
theorem a_putin_none {n : Nat} {t : Nat → Nat} {kp : Option Nat} (h : kp = none) : a_putin kp n t = t := by subst h; rfl
theorem a_putin_pos {n k : Nat} {t : Nat → Nat} {kp : Option Nat} (h : kp = some k) (h0 : 0 < t k) : a_putin kp n t = t := by
  subst h
  exact if_neg (by omega)
theorem a_putin_zero {n k : Nat} {t : Nat → Nat} {kp : Option Nat} (h : kp = some k) (h0 : t k = 0) : a_putin kp n t = a_bump (a_dec t (a_last t n)) k := by
  subst h
  exact if_pos h0
theorem a_oI_lt {o : Option Nat} {z : Int32} {n : Nat} (hk : ∀ k, o = some k → k < n) (hn : n ≤ 16) (h : a_oI o z < 0) : o = none := by
  cases o with
  | none => rfl
  | some k => exact absurd h (nI_pos (by have := hk k rfl; omega))
theorem a_oI_nlt {o : Option Nat} {z : Int32} (hz : z < 0) (h : ¬ a_oI o z < 0) : ∃ k, o = some k := by
  cases o with
  | none => exact absurd hz h
  | some k => exact ⟨k, rfl⟩

theorem fc_ordp {f : Nat → Int32} {g : Nat → Nat} {k v : Nat} (h : ∀ x, x < k → f x = nI (g x)) (hv : g k = v) : ∀ x, x < k + 1 → upd f k (nI v) x = nI (g x) := fun x hx => by
  by_cases e : x = k
  · subst e
    rw [pk_us, hv]
  · rw [pk_un e]
    exact h x (by omega)
theorem fl_lvr {ls : Array Slot} {nL : Nat} {i : Nat} {v v2 : Value} {q : List (Nat × Value)} (e : v = v2) (h : lv_has ls nL ((i, v) :: q)) : lv_has ls nL ((i, v2) :: q) := e ▸ h

set_option maxHeartbeats 4000000 in
set_option maxRecDepth 100000 in
theorem c_X1_pickByPartsAndRests (l : Launch) {D : va_G} {cI cJ cII : ClassId} {ad : Nat → Nat} (hJ : fl_inj 62 ad) (M : fl_M) (n : Nat) (kp : Option Nat) (w : Nat → Nat) (hW : fc_W n kp w M) (d : a_D) (hd : fc_D d M) (hT0 : 0 < a_sum w n) : Met l yX1_pickByPartsAndRests wsX1_pickByPartsAndRests ({ frames := 3, cells := 0, slots := 0, locals := 67 } : Room) (fcPc D cI cJ cII ad M [.ref (ad 9), .ref (ad 8), .ref (ad 6)]) (va_Qv (fun M2 => fl_row (M2.1 10) (a_pick (a_f0 (a_rests w n) n) (n - a_sum (a_parts w n) n) 0 (a_parts w n, d)).1 n 64 ∧ fc_D (a_pick (a_f0 (a_rests w n) n) (n - a_sum (a_parts w n) n) 0 (a_parts w n, d)).2 M2 ∧ fl_eq fc_PP M M2) (fcQ D cI cII ad) (fl_A 62 ad)) 0 0 (fl_A 62 ad) := by
  refine Met.ofW (cc := cX1_pickByPartsAndRests) (maxL := 9) (ret := none) (by decide) rfl ?_
  intro p e s m args below meth c s₁ B hml hv
  obtain ⟨rfl, hP, hK, hN⟩ := hv
  have hx := B.exec
  have hb := B.bytes
  have hr := B.returns
  have hts := atoms_spec (ws := wsX1_pickByPartsAndRests) B.pre
  have hown : s.vm.findClass RX1 = some m.cls := findClass_of_methodNamed B.named
  have hlocks := B.notSynchronized
  have inX1 : ∀ w ∈ u_ws RX1 TX1 2, w ∈ wsX1_pickByPartsAndRests := by decide +kernel
  have inX2 : ∀ w ∈ u_ws RX2 TX2 13, w ∈ wsX1_pickByPartsAndRests := by decide +kernel
  have hS : va_S (fl_A 62 ad) s.heap s.heap [] := va_S.rf
  have hl := lv_entry ([.ref (ad 9), .ref (ad 8), .ref (ad 6)] : List Value) (n := 9) (Nat.le_of_ble_eq_true rfl)
  rw [lg_entry_eq]
  generalize (lg_sl ([.ref (ad 9), .ref (ad 8), .ref (ad 6)] : List Value) ++ List.replicate (9 - (lg_sl ([.ref (ad 9), .ref (ad 8), .ref (ad 6)] : List Value)).length) Slot.unset).toArray = ls at hl ⊢
  have hl : lv_has ls 9 [(0, .ref (ad 9)), (1, .ref (ad 8)), (2, .ref (ad 6))] := hl
  obtain ⟨⟨hn0, hn, hn1⟩, ⟨hkp, hkl⟩, hw8, hww⟩ := id hW
  have hTl : a_sum w n ≤ 16000000 := by have := a_row_le (B := 1000000) hww; omega
  have hpl := a_parts_le hT0
  refine lv_aload_n hx hb dX1_pickByPartsAndRests_0 rfl (lv_at hl 1 rfl) ?_
  refine va_calll (va_runV (As := []) (rest := []) ⟨hx, hb, hml, hown, hts⟩ (c_X2_total l hJ M n w hn hn1 hW.l8 hww) (cwV 0 hts gX1_pickByPartsAndRests_X2_total rfl rfl rfl (by decide +kernel) ⟨Nat.le_of_ble_eq_true rfl, Nat.le_of_ble_eq_true rfl⟩) ⟨fl_blind, va_recv hK hP (ci := 4) (q0 := 8) rfl (fl_at (by decide) rfl), fl_pre hP hK hN⟩ rfl rfl hl.1 rfl (lv_room (Nat.le_of_ble_eq_true rfl)) dX1_pickByPartsAndRests_1 ⟨Nat.le_of_ble_eq_true rfl, Nat.le_of_ble_eq_true rfl⟩) hS (fun _ _ h => h) (fun _ h => h) (fun r1 M1 t H1 locs ht hvm hw hB hz1 hk1 hS => ?_)
  have hP : va_P D vwCl (fcP cI cII ad M1) H1 := by rw [← ht]; exact hB
  clear hB hk1 hz1 hvm ht t
  obtain ⟨rfl, hE⟩ := hw
  rw [hE] at hP
  refine lv_lstore_n (lv' := [(3, .long (lN (a_sum w n))), (0, .ref (ad 9)), (1, .ref (ad 8)), (2, .ref (ad 6))]) hx hb dX1_pickByPartsAndRests_4 rfl hl (by decide) rfl (fun ls hl => ?_)
  refine lv_lload_n hx hb dX1_pickByPartsAndRests_5 rfl (lv_at hl 0 rfl) ?_
  refine lv_lconst (v := 0) hx hb dX1_pickByPartsAndRests_6 (by decide) ?_
  refine fl_lgt (tgt := 12) hx hb dX1_pickByPartsAndRests_7 dX1_pickByPartsAndRests_8 (by decide) (fun hc7 => ?_) (fun hc7 => ?_)
  · refine lv_aload_n hx hb dX1_pickByPartsAndRests_12 rfl (lv_at hl 2 rfl) ?_
    refine va_get (D := D) (ci := 4) (v := .int (M.1 8 2)) (C := RX2) (T := TX2) (N := 13) hx hb hts inX2 hown hK hP 8 (fl_at (by decide) rfl) rfl 2 (by decide) (hts (.fieldLink RX1 43 "ResampledRows$Run" "n" "I") (by decide +kernel)) (fun _ h9 => h9) rfl dX1_pickByPartsAndRests_13 ?_
    refine fl_ti (y := nI n) hn1 ?_
    refine lv_istore (lv' := [(5, .int (nI n)), (3, .long (lN (a_sum w n))), (0, .ref (ad 9)), (1, .ref (ad 8)), (2, .ref (ad 6))]) hx hb dX1_pickByPartsAndRests_16 hl (by decide) rfl (fun ls hl => ?_)
    refine lv_iconst (v := 0) hx hb dX1_pickByPartsAndRests_18 (by decide) ?_
    refine lv_istore (lv' := [(6, .int 0), (5, .int (nI n)), (3, .long (lN (a_sum w n))), (0, .ref (ad 9)), (1, .ref (ad 8)), (2, .ref (ad 6))]) hx hb dX1_pickByPartsAndRests_19 hl (by decide) rfl (fun ls hl => ?_)
    suffices KL21 : ∀ (f : Nat) (i : Nat) (M3 : fl_M) (hi : i ≤ n) (hr1 : fl_row (M3.1 10) (a_parts w n) i 17) (hr2 : fl_row (M3.1 11) (a_rests w n) i 16000001) (he : fl_eq (fun c => c ≠ 10 ∧ c ≠ 11) M M3) (hf : n + 1 ≤ i + f), ∀ (H : Heap) (locs : List Loc), va_P D vwCl (fcP cI cII ad M3) H → va_S (fl_A 62 ad) s.heap H locs → ∀ (ls : Array Slot), lv_has ls 9 [(0, .ref (ad 9)), (1, .ref (ad 8)), (2, .ref (ad 6)), (3, .long (lN (a_sum w n))), (5, .int (nI (n - a_sum (a_parts w n) i))), (6, .int (nI i))] → W p l e (headSpec wsX1_pickByPartsAndRests ({ frames := 3, cells := 0, slots := 0, locals := 67 } : Room)).room s m ([.ref (ad 9), .ref (ad 8), .ref (ad 6)] : List Value).toArray below meth c H locs 0 0 (MQ below (va_Qv (fun M2 => fl_row (M2.1 10) (a_pick (a_f0 (a_rests w n) n) (n - a_sum (a_parts w n) n) 0 (a_parts w n, d)).1 n 64 ∧ fc_D (a_pick (a_f0 (a_rests w n) n) (n - a_sum (a_parts w n) n) 0 (a_parts w n, d)).2 M2 ∧ fl_eq fc_PP M M2) (fcQ D cI cII ad) (fl_A 62 ad)) ([.ref (ad 9), .ref (ad 8), .ref (ad 6)] : List Value).toArray s 0 0 (fl_A 62 ad)) (F0 m 21 ls []) from KL21 (n + 1) 0 M (Nat.zero_le n) (fun k hk => absurd hk (Nat.not_lt_zero k)) (fun k hk => absurd hk (Nat.not_lt_zero k)) fl_eq.rf (by omega) _ _ hP hS ls (lv_sub hl [3, 4, 5, 2, 1, 0] rfl)
    intro f
    induction f with
    | zero =>
      intro i M3 hi hr1 hr2 he hf
      omega
    | succ f ih21 =>
      intro i M3 hi hr1 hr2 he hf H locs hP hS ls hl
      have hW3 := hW.eq (he.mono (fun c hc => ⟨hc.2.1, hc.2.2⟩))
      obtain ⟨⟨-, -, hn3⟩, -, hw83, hww3⟩ := id hW3
      refine lv_iload hx hb dX1_pickByPartsAndRests_21 (lv_at hl 5 rfl) ?_
      refine lv_aload_n hx hb dX1_pickByPartsAndRests_23 rfl (lv_at hl 1 rfl) ?_
      refine va_get (D := D) (ci := 4) (v := .int (M3.1 8 2)) (C := RX2) (T := TX2) (N := 13) hx hb hts inX2 hown hK hP 8 (fl_at (by decide) rfl) rfl 2 (by decide) (hts (.fieldLink RX1 43 "ResampledRows$Run" "n" "I") (by decide +kernel)) (fun _ h9 => h9) rfl dX1_pickByPartsAndRests_24 ?_
      refine fl_ti (y := nI n) hn3 ?_
      refine lv_icmp_ge (tgt := 88) hx hb dX1_pickByPartsAndRests_27 (by decide) (fun hc27 => ?_) (fun hc27 => ?_)
      · have e27 : i = n := Nat.le_antisymm hi ((nI_leI (by omega) (by omega)).mp hc27)
        have hr1N : fl_row (M3.1 10) (a_parts w n) n 17 := e27 ▸ hr1
        have hr2N : fl_row (M3.1 11) (a_rests w n) n 16000001 := e27 ▸ hr2
        have hd3 : fc_D d M3 := hd.eq he (by decide) (by decide)
        refine lv_iconst (v := 0) hx hb dX1_pickByPartsAndRests_88 (by decide) ?_
        refine lv_istore (lv' := [(6, .int 0), (0, .ref (ad 9)), (1, .ref (ad 8)), (2, .ref (ad 6)), (3, .long (lN (a_sum w n))), (5, .int (nI (n - a_sum (a_parts w n) i)))]) hx hb dX1_pickByPartsAndRests_89 hl (by decide) rfl (fun ls hl => ?_)
        suffices KL91 : ∀ (f : Nat) (k : Nat) (M4 : fl_M) (q : (Nat → Nat) × a_D) (hk : k ≤ n - a_sum (a_parts w n) i) (hrow : fl_row (M4.1 10) q.1 n (17 + k)) (hD : fc_D q.2 M4) (hinv : a_pick (a_f0 (a_rests w n) n) (n - a_sum (a_parts w n) i - k) k q = a_pick (a_f0 (a_rests w n) n) (n - a_sum (a_parts w n) i) 0 (a_parts w n, d)) (he2 : fl_eq (fun c => c ≠ 6 ∧ c ≠ 10) M3 M4) (hf2 : n - a_sum (a_parts w n) i + 1 ≤ k + f), ∀ (H : Heap) (locs : List Loc), va_P D vwCl (fcP cI cII ad M4) H → va_S (fl_A 62 ad) s.heap H locs → ∀ (ls : Array Slot), lv_has ls 9 [(0, .ref (ad 9)), (1, .ref (ad 8)), (2, .ref (ad 6)), (3, .long (lN (a_sum w n))), (5, .int (nI (n - a_sum (a_parts w n) i))), (6, .int (nI k))] → W p l e (headSpec wsX1_pickByPartsAndRests ({ frames := 3, cells := 0, slots := 0, locals := 67 } : Room)).room s m ([.ref (ad 9), .ref (ad 8), .ref (ad 6)] : List Value).toArray below meth c H locs 0 0 (MQ below (va_Qv (fun M2 => fl_row (M2.1 10) (a_pick (a_f0 (a_rests w n) n) (n - a_sum (a_parts w n) n) 0 (a_parts w n, d)).1 n 64 ∧ fc_D (a_pick (a_f0 (a_rests w n) n) (n - a_sum (a_parts w n) n) 0 (a_parts w n, d)).2 M2 ∧ fl_eq fc_PP M M2) (fcQ D cI cII ad) (fl_A 62 ad)) ([.ref (ad 9), .ref (ad 8), .ref (ad 6)] : List Value).toArray s 0 0 (fl_A 62 ad)) (F0 m 91 ls []) from KL91 (n - a_sum (a_parts w n) i + 1) 0 M3 (a_parts w n, d) (Nat.zero_le _) hr1N hd3 rfl fl_eq.rf (by omega) _ _ hP hS ls (lv_sub hl [1, 2, 3, 4, 5, 0] rfl)
        intro f
        induction f with
        | zero =>
          intro k M4 q hk hrow hD hinv he2 hf2
          omega
        | succ f ih91 =>
          intro k M4 q hk hrow hD hinv he2 hf2 H locs hP hS ls hl
          have hn4 : M4.1 8 2 = nI n := by rw [(he2 8 (by decide)).1]; exact hn3
          refine lv_iload hx hb dX1_pickByPartsAndRests_91 (lv_at hl 5 rfl) ?_
          refine lv_iload hx hb dX1_pickByPartsAndRests_93 (lv_at hl 4 rfl) ?_
          refine lv_icmp_ge (tgt := 120) hx hb dX1_pickByPartsAndRests_95 (by decide) (fun hc95 => ?_) (fun hc95 => ?_)
          · have e95 : k = n - a_sum (a_parts w n) i := Nat.le_antisymm hk ((nI_leI (by omega) (by omega)).mp hc95)
            have hfin : q = a_pick (a_f0 (a_rests w n) n) (n - a_sum (a_parts w n) n) 0 (a_parts w n, d) := by
              have h7 := hinv
              rw [e95, Nat.sub_self, e27] at h7
              exact h7
            exact W.vret hx hb hr (fun t ht hW => ⟨⟨M4, rfl, ⟨by rw [← hfin]; exact hrow.lt (by omega), by rw [← hfin]; exact hD, (he.mono (fun c hc => ⟨hc.2.1, hc.2.2⟩)).tr (he2.mono (fun c hc => ⟨hc.1, hc.2.1⟩))⟩, fl_qi ht hP⟩, hS.F ht⟩) hS.2.2 dX1_pickByPartsAndRests_120
          · have l95 : k < n - a_sum (a_parts w n) i := Nat.lt_of_not_le (fun q => hc95 ((nI_leI (by omega) (by omega)).mpr q))
            have hrp : 0 < a_sum (a_rests w n) n := a_rests_pos hT0 (by rw [e27] at l95; omega)
            refine lv_aload_n hx hb dX1_pickByPartsAndRests_98 rfl (lv_at hl 0 rfl) ?_
            refine lv_aload_n hx hb dX1_pickByPartsAndRests_99 rfl (lv_at hl 2 rfl) ?_
            refine lv_aload_n hx hb dX1_pickByPartsAndRests_100 rfl (lv_at hl 0 rfl) ?_
            refine va_get (D := D) (ci := 3) (v := .ref (ad 11)) (C := RX1) (T := TX1) (N := 2) hx hb hts inX1 hown hK hP 9 (fl_at (by decide) rfl) rfl 1 (by decide) (hts (.fieldLink RX1 15 "ResampledRows$Picks" "rests" "[I") (by decide +kernel)) (fun _ h9 => h9) rfl dX1_pickByPartsAndRests_101 ?_
            refine lv_aload_n hx hb dX1_pickByPartsAndRests_104 rfl (lv_at hl 1 rfl) ?_
            refine va_get (D := D) (ci := 4) (v := .int (M4.1 8 2)) (C := RX2) (T := TX2) (N := 13) hx hb hts inX2 hown hK hP 8 (fl_at (by decide) rfl) rfl 2 (by decide) (hts (.fieldLink RX1 43 "ResampledRows$Run" "n" "I") (by decide +kernel)) (fun _ h9 => h9) rfl dX1_pickByPartsAndRests_105 ?_
            refine fl_ti (y := nI n) hn4 ?_
            refine va_calli (va_runV (As := [.ref (ad 11), .int (nI n)]) (rest := [.ref (ad 9)]) ⟨hx, hb, hml, hown, hts⟩ (c_X0_byWeights l hJ M4 q.2 11 16 n (a_rests w n) rfl (by decide) hn (by decide) (fun j hj => by rw [(he2 11 (by decide)).1]; exact ⟨(hr2N j hj).1, by have := (hr2N j hj).2; omega⟩) (by have := a_row_le (B := 16000000) hr2N; omega) hD) (cwV 2 hts gX1_pickByPartsAndRests_X0_byWeights rfl rfl rfl (by decide +kernel) ⟨Nat.le_of_ble_eq_true rfl, Nat.le_of_ble_eq_true rfl⟩) ⟨fl_blind, va_recv hK hP (ci := 2) (q0 := 6) rfl (fl_at (by decide) rfl), fl_pre hP hK hN⟩ rfl rfl hl.1 rfl (lv_room (Nat.le_of_ble_eq_true rfl)) dX1_pickByPartsAndRests_108 ⟨Nat.le_of_ble_eq_true rfl, Nat.le_of_ble_eq_true rfl⟩) hS (fun _ _ h => h) (fun _ h => h) (fun r108 M108 t H1 locs ht hvm hw hB hz1 hk1 hS => ?_)
            have hP : va_P D vwCl (fcP cI cII ad M108) H1 := by rw [← ht]; exact hB
            clear hB hk1 hz1 hvm ht t
            obtain ⟨rfl, hDb, heb⟩ := hw
            obtain ⟨x, hx0⟩ : ∃ x, x = ((a_f0 (a_rests w n) n) k q.2).1 := ⟨_, rfl⟩
            have hxn : x < n := by rw [hx0]; exact a_f0_lt hrp k q.2
            refine fl_ti (y := nI x) (by rw [hx0, a_by_some (by omega)]; rfl) ?_
            refine va_callv (va_runV (As := [.int (nI x)]) (rest := []) ⟨hx, hb, hml, hown, hts⟩ (c_X1_add l hJ M108 x (by omega)) (cwV 1 hts gX1_pickByPartsAndRests_X1_add rfl rfl rfl (by decide +kernel) ⟨Nat.le_of_ble_eq_true rfl, Nat.le_of_ble_eq_true rfl⟩) ⟨fl_blind, va_recv hK hP (ci := 3) (q0 := 9) rfl (fl_at (by decide) rfl), fl_pre hP hK hN⟩ rfl rfl hl.1 rfl (lv_room (Nat.le_of_ble_eq_true rfl)) dX1_pickByPartsAndRests_111 ⟨Nat.le_of_ble_eq_true rfl, Nat.le_of_ble_eq_true rfl⟩) hS (fun _ _ h => h) (fun _ h => h) (fun M111 t H1 locs ht hvm hw hB hz1 hk1 hS => ?_)
            have hP : va_P D vwCl (fcP cI cII ad M111) H1 := by rw [← ht]; exact hB
            clear hB hk1 hz1 hvm ht t
            rw [hw] at hP
            have hrow4 : fl_row ((fl_sI M108 10 x (M108.1 10 x + 1)).1 10) (a_bump q.1 ((a_f0 (a_rests w n) n) k q.2).1) n (17 + (k + 1)) := by
              rw [fl_sI_same, ← hx0]
              exact (hrow.cast (heb 10 (by decide)).1).bump hxn
            have hD4 : fc_D ((a_f0 (a_rests w n) n) k q.2).2 (fl_sI M108 10 x (M108.1 10 x + 1)) := hDb.eq (P := fun c => c = 6 ∨ c = 7) (fl_eq.rf.sI (by decide) _ _) (Or.inl rfl) (Or.inr rfl)
            have he4 : fl_eq (fun c => c ≠ 6 ∧ c ≠ 10) M3 (fl_sI M108 10 x (M108.1 10 x + 1)) := (he2.tr (heb.mono (fun c hc => hc.1))).sI (fun z => z.2 rfl) _ _
            refine lv_iinc (v := nI (k + 1)) (lv' := [(6, .int (nI (k + 1))), (0, .ref (ad 9)), (1, .ref (ad 8)), (2, .ref (ad 6)), (3, .long (lN (a_sum w n))), (5, .int (nI (n - a_sum (a_parts w n) i)))]) hx hb dX1_pickByPartsAndRests_114 hl (k := 5) rfl (fl_inc k) (by decide) rfl (fun ls hl => ?_)
            refine lv_goto (tgt := 91) hx hb dX1_pickByPartsAndRests_117 (by decide) ?_
            exact ih91 (k + 1) (fl_sI M108 10 x (M108.1 10 x + 1)) (a_bump q.1 ((a_f0 (a_rests w n) n) k q.2).1, ((a_f0 (a_rests w n) n) k q.2).2) (by omega) hrow4 hD4 (by rw [← hinv, a_pick_s l95]) he4 (by omega) _ _ hP hS ls (lv_sub hl [1, 2, 3, 4, 5, 0] rfl)
      · have l27 : i < n := Nat.lt_of_not_le (fun q => hc27 ((nI_leI (by omega) (by omega)).mpr q))
        have hwi := (hww i l27).2
        have hnw : n * w i ≤ 16 * 1000000 := Nat.mul_le_mul hn (by omega)
        have hps : a_sum (a_parts w n) (i + 1) ≤ a_sum (a_parts w n) n := a_sum_mono _ l27
        have hpe : a_sum (a_parts w n) (i + 1) = a_sum (a_parts w n) i + a_parts w n i := rfl
        refine lv_aload_n hx hb dX1_pickByPartsAndRests_30 rfl (lv_at hl 1 rfl) ?_
        refine va_get (D := D) (ci := 4) (v := .int (M3.1 8 2)) (C := RX2) (T := TX2) (N := 13) hx hb hts inX2 hown hK hP 8 (fl_at (by decide) rfl) rfl 2 (by decide) (hts (.fieldLink RX1 43 "ResampledRows$Run" "n" "I") (by decide +kernel)) (fun _ h9 => h9) rfl dX1_pickByPartsAndRests_31 ?_
        refine fl_ti (y := nI n) hn3 ?_
        refine lv_i2l (v := (nI n).toInt64) hx hb dX1_pickByPartsAndRests_34 rfl ?_
        refine fl_tl (y := lN n) (nI_l (by omega)) ?_
        refine lv_aload_n hx hb dX1_pickByPartsAndRests_35 rfl (lv_at hl 1 rfl) ?_
        refine va_get (D := D) (ci := 4) (v := .ref (ad (M3.2.2.2 8 8))) (C := RX2) (T := TX2) (N := 13) hx hb hts inX2 hown hK hP 8 (fl_at (by decide) rfl) rfl 8 (by decide) (hts (.fieldLink RX1 59 "ResampledRows$Run" "weights" "[I") (by decide +kernel)) (fun _ h9 => h9) rfl dX1_pickByPartsAndRests_36 ?_
        refine lv_iload hx hb dX1_pickByPartsAndRests_39 (lv_at hl 5 rfl) ?_
        refine fl_ild (n := 16) (k := i) hx hb hK hP (fc_a cI cII ad _ hW3.l8 (by decide)) rfl rfl (by omega) (by decide) dX1_pickByPartsAndRests_41 ?_
        refine fl_ti (y := nI (w i)) ((hww3 i l27).1) ?_
        refine lv_i2l (v := (nI (w i)).toInt64) hx hb dX1_pickByPartsAndRests_42 rfl ?_
        refine fl_tl (y := lN (w i)) (nI_l (by omega)) ?_
        refine lv_lmul hx hb dX1_pickByPartsAndRests_43 ?_
        refine fl_tl (y := lN (n * w i)) (lN_mul _ _) ?_
        refine lv_lstore (lv' := [(7, .long (lN (n * w i))), (0, .ref (ad 9)), (1, .ref (ad 8)), (2, .ref (ad 6)), (3, .long (lN (a_sum w n))), (5, .int (nI (n - a_sum (a_parts w n) i))), (6, .int (nI i))]) hx hb dX1_pickByPartsAndRests_44 hl (by decide) rfl (fun ls hl => ?_)
        refine lv_aload_n hx hb dX1_pickByPartsAndRests_46 rfl (lv_at hl 1 rfl) ?_
        refine va_get (D := D) (ci := 3) (v := .ref (ad 10)) (C := RX1) (T := TX1) (N := 2) hx hb hts inX1 hown hK hP 9 (fl_at (by decide) rfl) rfl 0 (by decide) (hts (.fieldLink RX1 9 "ResampledRows$Picks" "times" "[I") (by decide +kernel)) (fun _ h9 => h9) rfl dX1_pickByPartsAndRests_47 ?_
        refine lv_iload hx hb dX1_pickByPartsAndRests_50 (lv_at hl 6 rfl) ?_
        refine lv_lload hx hb dX1_pickByPartsAndRests_52 (lv_at hl 0 rfl) ?_
        refine lv_lload_n hx hb dX1_pickByPartsAndRests_54 rfl (lv_at hl 4 rfl) ?_
        refine lv_ldiv hx hb dX1_pickByPartsAndRests_55 (fun z => absurd ((pk_lEQ (b := 0) (by omega) (by decide)).mp z) (by omega)) ?_
        refine fl_tl (y := lN (n * w i / a_sum w n)) (pk_lDiv (by omega) hT0 (by omega)) ?_
        refine lv_l2i (v := (lN (n * w i / a_sum w n)).toInt32) hx hb dX1_pickByPartsAndRests_56 rfl ?_
        refine fl_ti (y := nI (a_parts w n i)) (lN_i _) ?_
        refine fl_ist (n := 16) (k := i) (x := nI (a_parts w n i)) hx hb hK hJ hP hS (fc_loc cI cII ad) (fc_a cI cII ad _ rfl (by decide)) (fc_arr cI cII ad _ rfl (by decide)).2 rfl rfl (by omega) (by decide) dX1_pickByPartsAndRests_57 (fun H locs hP hS => ?_)
        refine lv_aload_n hx hb dX1_pickByPartsAndRests_58 rfl (lv_at hl 1 rfl) ?_
        refine va_get (D := D) (ci := 3) (v := .ref (ad 11)) (C := RX1) (T := TX1) (N := 2) hx hb hts inX1 hown hK hP 9 (fl_at (by decide) rfl) rfl 1 (by decide) (hts (.fieldLink RX1 15 "ResampledRows$Picks" "rests" "[I") (by decide +kernel)) (fun _ h9 => h9) rfl dX1_pickByPartsAndRests_59 ?_
        refine lv_iload hx hb dX1_pickByPartsAndRests_62 (lv_at hl 6 rfl) ?_
        refine lv_lload hx hb dX1_pickByPartsAndRests_64 (lv_at hl 0 rfl) ?_
        refine lv_lload_n hx hb dX1_pickByPartsAndRests_66 rfl (lv_at hl 4 rfl) ?_
        refine lv_lrem hx hb dX1_pickByPartsAndRests_67 (fun z => absurd ((pk_lEQ (b := 0) (by omega) (by decide)).mp z) (by omega)) ?_
        refine fl_tl (y := lN (n * w i % a_sum w n)) (pk_lRem (by omega) hT0 (by omega)) ?_
        refine lv_l2i (v := (lN (n * w i % a_sum w n)).toInt32) hx hb dX1_pickByPartsAndRests_68 rfl ?_
        refine fl_ti (y := nI (a_rests w n i)) (lN_i _) ?_
        refine fl_ist (n := 16) (k := i) (x := nI (a_rests w n i)) hx hb hK hJ hP hS (fc_loc cI cII ad) (fc_a cI cII ad _ rfl (by decide)) (fc_arr cI cII ad _ rfl (by decide)).2 rfl rfl (by omega) (by decide) dX1_pickByPartsAndRests_69 (fun H locs hP hS => ?_)
        refine lv_iload hx hb dX1_pickByPartsAndRests_70 (lv_at hl 5 rfl) ?_
        refine lv_aload_n hx hb dX1_pickByPartsAndRests_72 rfl (lv_at hl 1 rfl) ?_
        refine va_get (D := D) (ci := 3) (v := .ref (ad 10)) (C := RX1) (T := TX1) (N := 2) hx hb hts inX1 hown hK hP 9 (fl_at (by decide) rfl) rfl 0 (by decide) (hts (.fieldLink RX1 9 "ResampledRows$Picks" "times" "[I") (by decide +kernel)) (fun _ h9 => h9) rfl dX1_pickByPartsAndRests_73 ?_
        refine lv_iload hx hb dX1_pickByPartsAndRests_76 (lv_at hl 6 rfl) ?_
        refine fl_ild (n := 16) (k := i) hx hb hK hP (fc_a cI cII ad _ rfl (by decide)) rfl rfl (by omega) (by decide) dX1_pickByPartsAndRests_78 ?_
        refine fl_ti (y := nI (a_parts w n i)) (fl_rdI M3 10 i (nI (a_parts w n i))) ?_
        refine lv_isub hx hb dX1_pickByPartsAndRests_79 ?_
        refine fl_ti (y := nI (n - a_sum (a_parts w n) (i + 1))) (by rw [pk_sub (by omega), Nat.sub_sub]; rfl) ?_
        refine lv_istore (lv' := [(5, .int (nI (n - a_sum (a_parts w n) (i + 1)))), (7, .long (lN (n * w i))), (0, .ref (ad 9)), (1, .ref (ad 8)), (2, .ref (ad 6)), (3, .long (lN (a_sum w n))), (6, .int (nI i))]) hx hb dX1_pickByPartsAndRests_80 hl (by decide) rfl (fun ls hl => ?_)
        refine lv_iinc (v := nI (i + 1)) (lv' := [(6, .int (nI (i + 1))), (5, .int (nI (n - a_sum (a_parts w n) (i + 1)))), (7, .long (lN (n * w i))), (0, .ref (ad 9)), (1, .ref (ad 8)), (2, .ref (ad 6)), (3, .long (lN (a_sum w n)))]) hx hb dX1_pickByPartsAndRests_82 hl (k := 6) rfl (fl_inc i) (by decide) rfl (fun ls hl => ?_)
        refine lv_goto (tgt := 21) hx hb dX1_pickByPartsAndRests_85 (by decide) ?_
        exact ih21 (i + 1) (fl_sI (fl_sI M3 10 i (nI (a_parts w n i))) 11 i (nI (a_rests w n i))) (by omega) (hr1.push rfl (by have := a_parts_lt (w := w) l27; omega)) (hr2.push rfl (by have := Nat.mod_lt (n * w i) hT0; show n * w i % a_sum w n < 16000001; omega)) ((he.sI (fun z => z.1 rfl) _ _).sI (fun z => z.2 rfl) _ _) (by omega) _ _ hP hS ls (lv_sub hl [3, 4, 5, 6, 1, 0] rfl)
  · exact absurd ((pk_lLT (a := 0) (by decide) (by omega)).mpr hT0) hc7

set_option maxHeartbeats 4000000 in
set_option maxRecDepth 100000 in
theorem c_X1_putIn (l : Launch) {D : va_G} {cI cJ cII : ClassId} {ad : Nat → Nat} (hJ : fl_inj 62 ad) (M : fl_M) (n : Nat) (kp : Option Nat) (t0 : Nat → Nat) (hn0 : 0 < n) (hn : n ≤ 16) (hkl : ∀ k, kp = some k → k < n) (h10 : fl_row (M.1 10) t0 n 64) (hpos : 0 < a_sum t0 n) : Met l yX1_putIn wsX1_putIn ({ frames := 0, cells := 0, slots := 0, locals := 0 } : Room) (fcPc D cI cJ cII ad M [.ref (ad 9), .int (a_oI kp (-1000009)), .int (nI n)]) (va_Qv (fun M2 => fl_row (M2.1 10) (a_putin kp n t0) n 65 ∧ fl_eq (fun c => c ≠ 10) M M2) (fcQ D cI cII ad) (fl_A 62 ad)) 0 0 (fl_A 62 ad) := by
  refine Met.ofW (cc := cX1_putIn) (maxL := 4) (ret := none) (by decide) rfl ?_
  intro p e s m args below meth c s₁ B hml hv
  obtain ⟨rfl, hP, hK, hN⟩ := hv
  have hx := B.exec
  have hb := B.bytes
  have hr := B.returns
  have hts := atoms_spec (ws := wsX1_putIn) B.pre
  have hown : s.vm.findClass RX1 = some m.cls := findClass_of_methodNamed B.named
  have hlocks := B.notSynchronized
  have inX1 : ∀ w ∈ u_ws RX1 TX1 2, w ∈ wsX1_putIn := by decide +kernel
  have hS : va_S (fl_A 62 ad) s.heap s.heap [] := va_S.rf
  have hl := lv_entry ([.ref (ad 9), .int (a_oI kp (-1000009)), .int (nI n)] : List Value) (n := 4) (Nat.le_of_ble_eq_true rfl)
  rw [lg_entry_eq]
  generalize (lg_sl ([.ref (ad 9), .int (a_oI kp (-1000009)), .int (nI n)] : List Value) ++ List.replicate (4 - (lg_sl ([.ref (ad 9), .int (a_oI kp (-1000009)), .int (nI n)] : List Value)).length) Slot.unset).toArray = ls at hl ⊢
  have hl : lv_has ls 4 [(0, .ref (ad 9)), (1, .int (a_oI kp (-1000009))), (2, .int (nI n))] := hl
  refine lv_iload_n hx hb dX1_putIn_0 rfl (lv_at hl 1 rfl) ?_
  refine lv_if_lt (tgt := 18) hx hb dX1_putIn_1 (by decide) (fun hc1 => ?_) (fun hc1 => ?_)
  · have hres : a_putin kp n t0 = t0 := a_putin_none (a_oI_lt hkl hn hc1)
    exact W.vret hx hb hr (fun t ht hW => ⟨⟨M, rfl, ⟨by rw [hres]; exact h10.lt (by decide), fl_eq.rf⟩, fl_qi ht hP⟩, hS.F ht⟩) hS.2.2 dX1_putIn_18
  · obtain ⟨k, hk⟩ := a_oI_nlt (by decide) hc1
    have hkn := hkl k hk
    refine lv_iload_n hx hb dX1_putIn_4 rfl (lv_at hl 1 rfl) ?_
    refine fl_ti (y := nI k) (by rw [hk]; rfl) ?_
    refine lv_iload_n hx hb dX1_putIn_5 rfl (lv_at hl 2 rfl) ?_
    refine lv_icmp_ge (tgt := 18) hx hb dX1_putIn_6 (by decide) (fun hc6 => ?_) (fun hc6 => ?_)
    · exact absurd ((nI_leI (by omega) (by omega)).mp hc6) (by omega)
    · refine lv_aload_n hx hb dX1_putIn_9 rfl (lv_at hl 0 rfl) ?_
      refine va_get (D := D) (ci := 3) (v := .ref (ad 10)) (C := RX1) (T := TX1) (N := 2) hx hb hts inX1 hown hK hP 9 (fl_at (by decide) rfl) rfl 0 (by decide) (hts (.fieldLink RX1 9 "ResampledRows$Picks" "times" "[I") (by decide +kernel)) (fun _ h9 => h9) rfl dX1_putIn_10 ?_
      refine lv_iload_n hx hb dX1_putIn_13 rfl (lv_at hl 1 rfl) ?_
      refine fl_ti (y := nI k) (by rw [hk]; rfl) ?_
      refine fl_ild (n := 16) (k := k) hx hb hK hP (fc_a cI cII ad _ rfl (by decide)) rfl rfl (by omega) (by decide) dX1_putIn_14 ?_
      refine fl_ti (y := nI (t0 k)) ((h10 k hkn).1) ?_
      refine lv_if_le (tgt := 19) hx hb dX1_putIn_15 (by decide) (fun hc15 => ?_) (fun hc15 => ?_)
      · have z15 : t0 k = 0 := fl_len0 (by have := (h10 k hkn).2; omega) hc15
        refine lv_iload_n hx hb dX1_putIn_19 rfl (lv_at hl 2 rfl) ?_
        refine lv_iconst (v := 1) hx hb dX1_putIn_20 (by decide) ?_
        refine lv_isub hx hb dX1_putIn_21 ?_
        refine fl_ti (y := nI (n - 1)) (fl_pred hn0) ?_
        refine lv_istore_n (lv' := [(3, .int (nI (n - 1))), (0, .ref (ad 9)), (1, .int (a_oI kp (-1000009))), (2, .int (nI n))]) hx hb dX1_putIn_22 rfl hl (by decide) rfl (fun ls hl => ?_)
        suffices KL23 : ∀ (f : Nat) (q : Nat) (hq : q < n) (hlast : a_last t0 n = a_last t0 (q + 1)) (hsum : 0 < a_sum t0 (q + 1)) (hf : q + 1 ≤ f), ∀ (H : Heap) (locs : List Loc), va_P D vwCl (fcP cI cII ad M) H → va_S (fl_A 62 ad) s.heap H locs → ∀ (ls : Array Slot), lv_has ls 4 [(0, .ref (ad 9)), (1, .int (a_oI kp (-1000009))), (2, .int (nI n)), (3, .int (nI q))] → W p l e (headSpec wsX1_putIn ({ frames := 0, cells := 0, slots := 0, locals := 0 } : Room)).room s m ([.ref (ad 9), .int (a_oI kp (-1000009)), .int (nI n)] : List Value).toArray below meth c H locs 0 0 (MQ below (va_Qv (fun M2 => fl_row (M2.1 10) (a_putin kp n t0) n 65 ∧ fl_eq (fun c => c ≠ 10) M M2) (fcQ D cI cII ad) (fl_A 62 ad)) ([.ref (ad 9), .int (a_oI kp (-1000009)), .int (nI n)] : List Value).toArray s 0 0 (fl_A 62 ad)) (F0 m 23 ls []) from KL23 n (n - 1) (by omega) (by rw [Nat.sub_add_cancel hn0]) (by rw [Nat.sub_add_cancel hn0]; exact hpos) (by omega) _ _ hP hS ls (lv_sub hl [1, 2, 3, 0] rfl)
        intro f
        induction f with
        | zero =>
          intro q hq hlast hsum hf
          omega
        | succ f ih23 =>
          intro q hq hlast hsum hf H locs hP hS ls hl
          refine lv_iload_n hx hb dX1_putIn_23 rfl (lv_at hl 3 rfl) ?_
          refine lv_if_lt (tgt := 63) hx hb dX1_putIn_24 (by decide) (fun hc24 => ?_) (fun hc24 => ?_)
          · exact absurd hc24 (nI_pos (by omega))
          · refine lv_aload_n hx hb dX1_putIn_27 rfl (lv_at hl 0 rfl) ?_
            refine va_get (D := D) (ci := 3) (v := .ref (ad 10)) (C := RX1) (T := TX1) (N := 2) hx hb hts inX1 hown hK hP 9 (fl_at (by decide) rfl) rfl 0 (by decide) (hts (.fieldLink RX1 9 "ResampledRows$Picks" "times" "[I") (by decide +kernel)) (fun _ h9 => h9) rfl dX1_putIn_28 ?_
            refine lv_iload_n hx hb dX1_putIn_31 rfl (lv_at hl 3 rfl) ?_
            refine fl_ild (n := 16) (k := q) hx hb hK hP (fc_a cI cII ad _ rfl (by decide)) rfl rfl (by omega) (by decide) dX1_putIn_32 ?_
            refine fl_ti (y := nI (t0 q)) ((h10 q hq).1) ?_
            refine lv_if_le (tgt := 57) hx hb dX1_putIn_33 (by decide) (fun hc33 => ?_) (fun hc33 => ?_)
            · have z33 : t0 q = 0 := fl_len0 (by have := (h10 q hq).2; omega) hc33
              have hse : a_sum t0 (q + 1) = a_sum t0 q + t0 q := rfl
              have hsq : 0 < a_sum t0 q := by omega
              have hq0 : 0 < q := Nat.pos_of_ne_zero (fun z => by subst z; exact absurd hsq (Nat.lt_irrefl 0))
              refine lv_iinc (v := nI (q - 1)) (lv' := [(3, .int (nI (q - 1))), (0, .ref (ad 9)), (1, .int (a_oI kp (-1000009))), (2, .int (nI n))]) hx hb dX1_putIn_57 hl (k := 3) rfl (fl_dec hq0) (by decide) rfl (fun ls hl => ?_)
              refine lv_goto (tgt := 23) hx hb dX1_putIn_60 (by decide) ?_
              exact ih23 (q - 1) (by omega) (by rw [hlast, Nat.sub_add_cancel hq0]; exact if_neg (by omega)) (by rw [Nat.sub_add_cancel hq0]; exact hsq) (by omega) _ _ hP hS ls (lv_sub hl [1, 2, 3, 0] rfl)
            · have g33 : 0 < t0 q := fl_len1 (by have := (h10 q hq).2; omega) hc33
              have hla : a_last t0 n = q := by rw [hlast]; exact if_pos g33
              refine lv_aload_n hx hb dX1_putIn_36 rfl (lv_at hl 0 rfl) ?_
              refine va_get (D := D) (ci := 3) (v := .ref (ad 10)) (C := RX1) (T := TX1) (N := 2) hx hb hts inX1 hown hK hP 9 (fl_at (by decide) rfl) rfl 0 (by decide) (hts (.fieldLink RX1 9 "ResampledRows$Picks" "times" "[I") (by decide +kernel)) (fun _ h9 => h9) rfl dX1_putIn_37 ?_
              refine lv_iload_n hx hb dX1_putIn_40 rfl (lv_at hl 3 rfl) ?_
              refine lv_dup2_11 hx hb dX1_putIn_41 rfl rfl ?_
              refine fl_ild (n := 16) (k := q) hx hb hK hP (fc_a cI cII ad _ rfl (by decide)) rfl rfl (by omega) (by decide) dX1_putIn_42 ?_
              refine lv_iconst (v := 1) hx hb dX1_putIn_43 (by decide) ?_
              refine lv_isub hx hb dX1_putIn_44 ?_
              refine fl_ist (n := 16) (k := q) (x := (M.1 10 q) - 1) hx hb hK hJ hP hS (fc_loc cI cII ad) (fc_a cI cII ad _ rfl (by decide)) (fc_arr cI cII ad _ rfl (by decide)).2 rfl rfl (by omega) (by decide) dX1_putIn_45 (fun H locs hP hS => ?_)
              refine lv_aload_n hx hb dX1_putIn_46 rfl (lv_at hl 0 rfl) ?_
              refine va_get (D := D) (ci := 3) (v := .ref (ad 10)) (C := RX1) (T := TX1) (N := 2) hx hb hts inX1 hown hK hP 9 (fl_at (by decide) rfl) rfl 0 (by decide) (hts (.fieldLink RX1 9 "ResampledRows$Picks" "times" "[I") (by decide +kernel)) (fun _ h9 => h9) rfl dX1_putIn_47 ?_
              refine lv_iload_n hx hb dX1_putIn_50 rfl (lv_at hl 1 rfl) ?_
              refine fl_ti (y := nI k) (by rw [hk]; rfl) ?_
              refine lv_dup2_11 hx hb dX1_putIn_51 rfl rfl ?_
              refine fl_ild (n := 16) (k := k) hx hb hK hP (fc_a cI cII ad _ rfl (by decide)) rfl rfl (by omega) (by decide) dX1_putIn_52 ?_
              refine lv_iconst (v := 1) hx hb dX1_putIn_53 (by decide) ?_
              refine lv_iadd hx hb dX1_putIn_54 ?_
              refine fl_ist (n := 16) (k := k) (x := ((fl_sI M 10 q ((M.1 10 q) - 1)).1 10 k) + 1) hx hb hK hJ hP hS (fc_loc cI cII ad) (fc_a cI cII ad _ rfl (by decide)) (fc_arr cI cII ad _ rfl (by decide)).2 rfl rfl (by omega) (by decide) dX1_putIn_55 (fun H locs hP hS => ?_)
              exact W.vret hx hb hr (fun t ht hW => ⟨⟨(fl_sI (fl_sI M 10 q ((M.1 10 q) - 1)) 10 k (((fl_sI M 10 q ((M.1 10 q) - 1)).1 10 k) + 1)), rfl, ⟨by rw [a_putin_zero hk z15, hla]; exact (h10.dec hq g33).bump hkn, (fl_eq.rf.sI (fun z => z rfl) _ _).sI (fun z => z rfl) _ _⟩, fl_qi ht hP⟩, hS.F ht⟩) hS.2.2 dX1_putIn_56
      · have hres : a_putin kp n t0 = t0 := a_putin_pos hk (fl_len1 (by have := (h10 k hkn).2; omega) hc15)
        exact W.vret hx hb hr (fun t ht hW => ⟨⟨M, rfl, ⟨by rw [hres]; exact h10.lt (by decide), fl_eq.rf⟩, fl_qi ht hP⟩, hS.F ht⟩) hS.2.2 dX1_putIn_18

set_option maxHeartbeats 4000000 in
set_option maxRecDepth 100000 in
theorem c_X1_putInOrder (l : Launch) {D : va_G} {cI cJ cII : ClassId} {ad : Nat → Nat} (hJ : fl_inj 62 ad) (M : fl_M) (n : Nat) (t0 : Nat → Nat) (hn : n ≤ 16) (h10 : fl_row (M.1 10) t0 n 65) (hs : a_sum t0 n = n) : Met l yX1_putInOrder wsX1_putInOrder ({ frames := 0, cells := 0, slots := 0, locals := 0 } : Room) (fcPc D cI cJ cII ad M [.ref (ad 9), .ref (ad 12), .int (nI n)]) (va_Qv (fun M2 => fl_row (M2.1 12) (a_ord t0 n) n 16 ∧ fl_eq (fun c => c ≠ 12) M M2) (fcQ D cI cII ad) (fl_A 62 ad)) 0 0 (fl_A 62 ad) := by
  refine Met.ofW (cc := cX1_putInOrder) (maxL := 6) (ret := none) (by decide) rfl ?_
  intro p e s m args below meth c s₁ B hml hv
  obtain ⟨rfl, hP, hK, hN⟩ := hv
  have hx := B.exec
  have hb := B.bytes
  have hr := B.returns
  have hts := atoms_spec (ws := wsX1_putInOrder) B.pre
  have hown : s.vm.findClass RX1 = some m.cls := findClass_of_methodNamed B.named
  have hlocks := B.notSynchronized
  have inX1 : ∀ w ∈ u_ws RX1 TX1 2, w ∈ wsX1_putInOrder := by decide +kernel
  have hS : va_S (fl_A 62 ad) s.heap s.heap [] := va_S.rf
  have hl := lv_entry ([.ref (ad 9), .ref (ad 12), .int (nI n)] : List Value) (n := 6) (Nat.le_of_ble_eq_true rfl)
  rw [lg_entry_eq]
  generalize (lg_sl ([.ref (ad 9), .ref (ad 12), .int (nI n)] : List Value) ++ List.replicate (6 - (lg_sl ([.ref (ad 9), .ref (ad 12), .int (nI n)] : List Value)).length) Slot.unset).toArray = ls at hl ⊢
  have hl : lv_has ls 6 [(0, .ref (ad 9)), (1, .ref (ad 12)), (2, .int (nI n))] := hl
  refine lv_iconst (v := 0) hx hb dX1_putInOrder_0 (by decide) ?_
  refine lv_istore_n (lv' := [(3, .int 0), (0, .ref (ad 9)), (1, .ref (ad 12)), (2, .int (nI n))]) hx hb dX1_putInOrder_1 rfl hl (by decide) rfl (fun ls hl => ?_)
  refine lv_iconst (v := 0) hx hb dX1_putInOrder_2 (by decide) ?_
  refine lv_istore (lv' := [(4, .int 0), (3, .int 0), (0, .ref (ad 9)), (1, .ref (ad 12)), (2, .int (nI n))]) hx hb dX1_putInOrder_3 hl (by decide) rfl (fun ls hl => ?_)
  suffices KL5 : ∀ (f : Nat) (i : Nat) (M3 : fl_M) (hi : i ≤ n) (ho : ∀ x, x < a_sum t0 i → M3.1 12 x = nI (a_ord t0 n x)) (he : fl_eq (fun c => c ≠ 12) M M3) (hf : n + 1 ≤ i + f), ∀ (H : Heap) (locs : List Loc), va_P D vwCl (fcP cI cII ad M3) H → va_S (fl_A 62 ad) s.heap H locs → ∀ (ls : Array Slot), lv_has ls 6 [(0, .ref (ad 9)), (1, .ref (ad 12)), (2, .int (nI n)), (3, .int (nI (a_sum t0 i))), (4, .int (nI i))] → W p l e (headSpec wsX1_putInOrder ({ frames := 0, cells := 0, slots := 0, locals := 0 } : Room)).room s m ([.ref (ad 9), .ref (ad 12), .int (nI n)] : List Value).toArray below meth c H locs 0 0 (MQ below (va_Qv (fun M2 => fl_row (M2.1 12) (a_ord t0 n) n 16 ∧ fl_eq (fun c => c ≠ 12) M M2) (fcQ D cI cII ad) (fl_A 62 ad)) ([.ref (ad 9), .ref (ad 12), .int (nI n)] : List Value).toArray s 0 0 (fl_A 62 ad)) (F0 m 5 ls []) from KL5 (n + 1) 0 M (Nat.zero_le n) (fun x hx => absurd hx (Nat.not_lt_zero x)) fl_eq.rf (by omega) _ _ hP hS ls (lv_sub hl [2, 3, 4, 1, 0] rfl)
  intro f
  induction f with
  | zero =>
    intro i M3 hi ho he hf
    omega
  | succ f ih5 =>
    intro i M3 hi ho he hf H locs hP hS ls hl
    refine lv_iload hx hb dX1_putInOrder_5 (lv_at hl 4 rfl) ?_
    refine lv_iload_n hx hb dX1_putInOrder_7 rfl (lv_at hl 2 rfl) ?_
    refine lv_icmp_ge (tgt := 51) hx hb dX1_putInOrder_8 (by decide) (fun hc8 => ?_) (fun hc8 => ?_)
    · have e8 : i = n := Nat.le_antisymm hi ((nI_leI (by omega) (by omega)).mp hc8)
      exact W.vret hx hb hr (fun t ht hW => ⟨⟨M3, rfl, ⟨fun k hk => ⟨by rw [e8, hs] at ho; exact ho k hk, by have := a_ord_lt hs hk; omega⟩, he⟩, fl_qi ht hP⟩, hS.F ht⟩) hS.2.2 dX1_putInOrder_51
    · have l8 : i < n := Nat.lt_of_not_le (fun q => hc8 ((nI_leI (by omega) (by omega)).mpr q))
      have hsm : a_sum t0 (i + 1) ≤ a_sum t0 n := a_sum_mono _ l8
      have hse : a_sum t0 (i + 1) = a_sum t0 i + t0 i := rfl
      refine lv_iconst (v := 0) hx hb dX1_putInOrder_11 (by decide) ?_
      refine lv_istore (lv' := [(5, .int 0), (0, .ref (ad 9)), (1, .ref (ad 12)), (2, .int (nI n)), (3, .int (nI (a_sum t0 i))), (4, .int (nI i))]) hx hb dX1_putInOrder_12 hl (by decide) rfl (fun ls hl => ?_)
      suffices KL14 : ∀ (f : Nat) (j : Nat) (M4 : fl_M) (hj : j ≤ t0 i) (ho2 : ∀ x, x < a_sum t0 i + j → M4.1 12 x = nI (a_ord t0 n x)) (he2 : fl_eq (fun c => c ≠ 12) M M4) (hf2 : t0 i + 1 ≤ j + f), ∀ (H : Heap) (locs : List Loc), va_P D vwCl (fcP cI cII ad M4) H → va_S (fl_A 62 ad) s.heap H locs → ∀ (ls : Array Slot), lv_has ls 6 [(0, .ref (ad 9)), (1, .ref (ad 12)), (2, .int (nI n)), (3, .int (nI (a_sum t0 i + j))), (4, .int (nI i)), (5, .int (nI j))] → W p l e (headSpec wsX1_putInOrder ({ frames := 0, cells := 0, slots := 0, locals := 0 } : Room)).room s m ([.ref (ad 9), .ref (ad 12), .int (nI n)] : List Value).toArray below meth c H locs 0 0 (MQ below (va_Qv (fun M2 => fl_row (M2.1 12) (a_ord t0 n) n 16 ∧ fl_eq (fun c => c ≠ 12) M M2) (fcQ D cI cII ad) (fl_A 62 ad)) ([.ref (ad 9), .ref (ad 12), .int (nI n)] : List Value).toArray s 0 0 (fl_A 62 ad)) (F0 m 14 ls []) from KL14 (t0 i + 1) 0 M3 (Nat.zero_le _) ho he (by omega) _ _ hP hS ls (lv_sub hl [1, 2, 3, 4, 5, 0] rfl)
      intro f
      induction f with
      | zero =>
        intro j M4 hj ho2 he2 hf2
        omega
      | succ f ih14 =>
        intro j M4 hj ho2 he2 hf2 H locs hP hS ls hl
        refine lv_iload hx hb dX1_putInOrder_14 (lv_at hl 5 rfl) ?_
        refine lv_aload_n hx hb dX1_putInOrder_16 rfl (lv_at hl 0 rfl) ?_
        refine va_get (D := D) (ci := 3) (v := .ref (ad 10)) (C := RX1) (T := TX1) (N := 2) hx hb hts inX1 hown hK hP 9 (fl_at (by decide) rfl) rfl 0 (by decide) (hts (.fieldLink RX1 9 "ResampledRows$Picks" "times" "[I") (by decide +kernel)) (fun _ h9 => h9) rfl dX1_putInOrder_17 ?_
        refine lv_iload hx hb dX1_putInOrder_20 (lv_at hl 4 rfl) ?_
        refine fl_ild (n := 16) (k := i) hx hb hK hP (fc_a cI cII ad _ rfl (by decide)) rfl rfl (by omega) (by decide) dX1_putInOrder_22 ?_
        have ht65 := (h10 i l8).2
        refine fl_ti (y := nI (t0 i)) (by rw [(he2 10 (by decide)).1]; exact (h10 i l8).1) ?_
        refine lv_icmp_ge (tgt := 45) hx hb dX1_putInOrder_23 (by decide) (fun hc23 => ?_) (fun hc23 => ?_)
        · have e23 : j = t0 i := Nat.le_antisymm hj ((nI_leI (by omega) (by omega)).mp hc23)
          have hl : lv_has ls 6 [(0, .ref (ad 9)), (1, .ref (ad 12)), (2, .int (nI n)), (3, .int (nI (a_sum t0 (i + 1)))), (4, .int (nI i))] := by
            have h7 : lv_has ls 6 [(0, .ref (ad 9)), (1, .ref (ad 12)), (2, .int (nI n)), (3, .int (nI (a_sum t0 i + j))), (4, .int (nI i))] := lv_sub hl [0, 1, 2, 3, 4] rfl
            rw [e23] at h7
            exact h7
          refine lv_iinc (v := nI (i + 1)) (lv' := [(4, .int (nI (i + 1))), (0, .ref (ad 9)), (1, .ref (ad 12)), (2, .int (nI n)), (3, .int (nI (a_sum t0 (i + 1))))]) hx hb dX1_putInOrder_45 hl (k := 4) rfl (fl_inc i) (by decide) rfl (fun ls hl => ?_)
          refine lv_goto (tgt := 5) hx hb dX1_putInOrder_48 (by decide) ?_
          exact ih5 (i + 1) M4 (by omega) (by rw [e23] at ho2; exact ho2) he2 (by omega) _ _ hP hS ls (lv_sub hl [1, 2, 3, 4, 0] rfl)
        · have l23 : j < t0 i := Nat.lt_of_not_le (fun q => hc23 ((nI_leI (by omega) (by omega)).mpr q))
          refine lv_iload_n hx hb dX1_putInOrder_26 rfl (lv_at hl 3 rfl) ?_
          refine lv_iload_n hx hb dX1_putInOrder_27 rfl (lv_at hl 2 rfl) ?_
          refine lv_icmp_ge (tgt := 45) hx hb dX1_putInOrder_28 (by decide) (fun hc28 => ?_) (fun hc28 => ?_)
          · exact absurd ((nI_leI (by omega) (by omega)).mp hc28) (by omega)
          · refine lv_aload_n hx hb dX1_putInOrder_31 rfl (lv_at hl 1 rfl) ?_
            refine lv_iload_n hx hb dX1_putInOrder_32 rfl (lv_at hl 3 rfl) ?_
            refine lv_iload hx hb dX1_putInOrder_33 (lv_at hl 4 rfl) ?_
            refine fl_ist (n := 16) (k := (a_sum t0 i + j)) (x := nI i) hx hb hK hJ hP hS (fc_loc cI cII ad) (fc_a cI cII ad _ rfl (by decide)) (fc_arr cI cII ad _ rfl (by decide)).2 rfl rfl (by omega) (by decide) dX1_putInOrder_35 (fun H locs hP hS => ?_)
            refine lv_iinc (v := nI ((a_sum t0 i + j) + 1)) (lv' := [(3, .int (nI ((a_sum t0 i + j) + 1))), (0, .ref (ad 9)), (1, .ref (ad 12)), (2, .int (nI n)), (4, .int (nI i)), (5, .int (nI j))]) hx hb dX1_putInOrder_36 hl (k := 3) rfl (fl_inc (a_sum t0 i + j)) (by decide) rfl (fun ls hl => ?_)
            refine lv_iinc (v := nI (j + 1)) (lv' := [(5, .int (nI (j + 1))), (3, .int (nI ((a_sum t0 i + j) + 1))), (0, .ref (ad 9)), (1, .ref (ad 12)), (2, .int (nI n)), (4, .int (nI i))]) hx hb dX1_putInOrder_39 hl (k := 5) rfl (fl_inc j) (by decide) rfl (fun ls hl => ?_)
            refine lv_goto (tgt := 14) hx hb dX1_putInOrder_42 (by decide) ?_
            exact ih14 (j + 1) (fl_sI M4 12 (a_sum t0 i + j) (nI i)) (by omega) (fun x hx => by rw [fl_sI_same]; exact fc_ordp ho2 (a_ord_eq (by omega) (by omega) l8) x hx) (he2.sI (fun z => z rfl) _ _) (by omega) _ _ hP hS ls (lv_sub hl [2, 3, 4, 1, 5, 0] rfl)

set_option maxHeartbeats 4000000 in
set_option maxRecDepth 100000 in
theorem c_X1_unlike (l : Launch) {D : va_G} {cI cJ cII : ClassId} {ad : Nat → Nat} (hJ : fl_inj 62 ad) (M : fl_M) (n : Nat) (t0 : Nat → Nat) (hn : n ≤ 16) (h10 : fl_row (M.1 10) t0 n 65) : Met l yX1_unlike wsX1_unlike ({ frames := 0, cells := 0, slots := 0, locals := 0 } : Room) (fcPc D cI cJ cII ad M [.ref (ad 9), .int (nI n)]) (va_Qi (fun r M2 => r = nI (a_unl t0 n) ∧ M2 = M) (fcQ D cI cII ad) (fl_A 62 ad)) 0 0 (fl_A 62 ad) := by
  refine Met.ofW (cc := cX1_unlike) (maxL := 4) (ret := (some .int)) (by decide) rfl ?_
  intro p e s m args below meth c s₁ B hml hv
  obtain ⟨rfl, hP, hK, hN⟩ := hv
  have hx := B.exec
  have hb := B.bytes
  have hr := B.returns
  have hts := atoms_spec (ws := wsX1_unlike) B.pre
  have hown : s.vm.findClass RX1 = some m.cls := findClass_of_methodNamed B.named
  have hlocks := B.notSynchronized
  have inX1 : ∀ w ∈ u_ws RX1 TX1 2, w ∈ wsX1_unlike := by decide +kernel
  have hS : va_S (fl_A 62 ad) s.heap s.heap [] := va_S.rf
  have hl := lv_entry ([.ref (ad 9), .int (nI n)] : List Value) (n := 4) (Nat.le_of_ble_eq_true rfl)
  rw [lg_entry_eq]
  generalize (lg_sl ([.ref (ad 9), .int (nI n)] : List Value) ++ List.replicate (4 - (lg_sl ([.ref (ad 9), .int (nI n)] : List Value)).length) Slot.unset).toArray = ls at hl ⊢
  have hl : lv_has ls 4 [(0, .ref (ad 9)), (1, .int (nI n))] := hl
  refine lv_iconst (v := 0) hx hb dX1_unlike_0 (by decide) ?_
  refine lv_istore_n (lv' := [(2, .int 0), (0, .ref (ad 9)), (1, .int (nI n))]) hx hb dX1_unlike_1 rfl hl (by decide) rfl (fun ls hl => ?_)
  refine lv_iconst (v := 0) hx hb dX1_unlike_2 (by decide) ?_
  refine lv_istore_n (lv' := [(3, .int 0), (2, .int 0), (0, .ref (ad 9)), (1, .int (nI n))]) hx hb dX1_unlike_3 rfl hl (by decide) rfl (fun ls hl => ?_)
  suffices KL4 : ∀ (f : Nat) (i : Nat) (u : Nat) (hi : i ≤ n) (hu : u = a_unl t0 i) (hf : n + 1 ≤ i + f), ∀ (H : Heap) (locs : List Loc), va_P D vwCl (fcP cI cII ad M) H → va_S (fl_A 62 ad) s.heap H locs → ∀ (ls : Array Slot), lv_has ls 4 [(0, .ref (ad 9)), (1, .int (nI n)), (2, .int (nI u)), (3, .int (nI i))] → W p l e (headSpec wsX1_unlike ({ frames := 0, cells := 0, slots := 0, locals := 0 } : Room)).room s m ([.ref (ad 9), .int (nI n)] : List Value).toArray below meth c H locs 0 0 (MQ below (va_Qi (fun r M2 => r = nI (a_unl t0 n) ∧ M2 = M) (fcQ D cI cII ad) (fl_A 62 ad)) ([.ref (ad 9), .int (nI n)] : List Value).toArray s 0 0 (fl_A 62 ad)) (F0 m 4 ls []) from KL4 (n + 1) 0 0 (Nat.zero_le n) rfl (by omega) _ _ hP hS ls (lv_sub hl [2, 3, 1, 0] rfl)
  intro f
  induction f with
  | zero =>
    intro i u hi hu hf
    omega
  | succ f ih4 =>
    intro i u hi hu hf H locs hP hS ls hl
    refine lv_iload_n hx hb dX1_unlike_4 rfl (lv_at hl 3 rfl) ?_
    refine lv_iload_n hx hb dX1_unlike_5 rfl (lv_at hl 1 rfl) ?_
    refine lv_icmp_ge (tgt := 27) hx hb dX1_unlike_6 (by decide) (fun hc6 => ?_) (fun hc6 => ?_)
    · have e6 : i = n := Nat.le_antisymm hi ((nI_leI (by omega) (by omega)).mp hc6)
      refine lv_iload_n hx hb dX1_unlike_27 rfl (lv_at hl 2 rfl) ?_
      exact W.iret (v := nI u) hx hb hr (fun t ht hW => ⟨⟨nI u, M, rfl, ⟨by rw [hu, e6], rfl⟩, fl_qi ht hP⟩, hS.F ht⟩) hS.2.2 dX1_unlike_28
    · have l6 : i < n := Nat.lt_of_not_le (fun q => hc6 ((nI_leI (by omega) (by omega)).mpr q))
      refine lv_aload_n hx hb dX1_unlike_9 rfl (lv_at hl 0 rfl) ?_
      refine va_get (D := D) (ci := 3) (v := .ref (ad 10)) (C := RX1) (T := TX1) (N := 2) hx hb hts inX1 hown hK hP 9 (fl_at (by decide) rfl) rfl 0 (by decide) (hts (.fieldLink RX1 9 "ResampledRows$Picks" "times" "[I") (by decide +kernel)) (fun _ h9 => h9) rfl dX1_unlike_10 ?_
      refine lv_iload_n hx hb dX1_unlike_13 rfl (lv_at hl 3 rfl) ?_
      refine fl_ild (n := 16) (k := i) hx hb hK hP (fc_a cI cII ad _ rfl (by decide)) rfl rfl (by omega) (by decide) dX1_unlike_14 ?_
      refine fl_ti (y := nI (t0 i)) ((h10 i l6).1) ?_
      refine lv_if_le (tgt := 21) hx hb dX1_unlike_15 (by decide) (fun hc15 => ?_) (fun hc15 => ?_)
      · have g15 : t0 i = 0 := fl_len0 (by have := (h10 i l6).2; omega) hc15
        refine lv_iinc (v := nI (i + 1)) (lv' := [(3, .int (nI (i + 1))), (0, .ref (ad 9)), (1, .int (nI n)), (2, .int (nI u))]) hx hb dX1_unlike_21 hl (k := 3) rfl (fl_inc i) (by decide) rfl (fun ls hl => ?_)
        refine lv_goto (tgt := 4) hx hb dX1_unlike_24 (by decide) ?_
        exact ih4 (i + 1) u (by omega) (by rw [hu]; show a_unl t0 i = a_unl t0 i + (if 0 < t0 i then 1 else 0); rw [if_neg (by omega)]; rfl) (by omega) _ _ hP hS ls (lv_sub hl [1, 2, 3, 0] rfl)
      · have g15 : 0 < t0 i := fl_len1 (by have := (h10 i l6).2; omega) hc15
        refine lv_iinc (v := nI (u + 1)) (lv' := [(2, .int (nI (u + 1))), (0, .ref (ad 9)), (1, .int (nI n)), (3, .int (nI i))]) hx hb dX1_unlike_18 hl (k := 2) rfl (fl_inc u) (by decide) rfl (fun ls hl => ?_)
        refine lv_iinc (v := nI (i + 1)) (lv' := [(3, .int (nI (i + 1))), (2, .int (nI (u + 1))), (0, .ref (ad 9)), (1, .int (nI n))]) hx hb dX1_unlike_21 hl (k := 3) rfl (fl_inc i) (by decide) rfl (fun ls hl => ?_)
        refine lv_goto (tgt := 4) hx hb dX1_unlike_24 (by decide) ?_
        exact ih4 (i + 1) (u + 1) (by omega) (by rw [hu]; show a_unl t0 i + 1 = a_unl t0 i + (if 0 < t0 i then 1 else 0); rw [if_pos g15]) (by omega) _ _ hP hS ls (lv_sub hl [2, 3, 1, 0] rfl)
end
section
/-! DOUBLES: alike is kept by a product -/
theorem fp_nan (a : UInt64) : isNaN64 a = true ↔ FP.Core.val64 a = .nan := by
  have h := FP.Core.ne_nan a
  rw [isNaN64_iff, show (0x7fffffffffffffff : Nat) = 2 ^ 63 - 1 from rfl, Nat.and_two_pow_sub_one_eq_mod]
  constructor
  · intro q
    exact Classical.byContradiction (fun z => absurd (h.mp z) (by omega))
  · intro q
    exact Nat.lt_of_not_le (fun z => absurd q (h.mpr z))
theorem al_iff {a b : UInt64} : alike64 a b = true ↔ a = b ∨ (isNaN64 a = true ∧ isNaN64 b = true) := by
  unfold alike64
  rw [Bool.or_eq_true, Bool.and_eq_true, decide_eq_true_iff]
theorem al_symm {a b : UInt64} (h : alike64 a b = true) : alike64 b a = true := by
  rw [al_iff] at h ⊢
  rcases h with h | h
  · exact Or.inl h.symm
  · exact Or.inr ⟨h.2, h.1⟩
theorem al_trans {a b c : UInt64} (h : alike64 a b = true) (h2 : alike64 b c = true) : alike64 a c = true := by
  rw [al_iff] at h h2 ⊢
  rcases h with h | h
  · rw [h]; exact h2
  · rcases h2 with h2 | h2
    · rw [← h2]; exact Or.inr h
    · exact Or.inr ⟨h.1, h2.2⟩
theorem al_mul {m mu x y : UInt64} (h1 : alike64 m mu = true) (h2 : alike64 x y = true) : alike64 (FP.dmul m x) (FP.dmul mu y) = true := by
  rw [al_iff] at h1 h2
  have nn : ∀ {a b : UInt64}, (isNaN64 a = true ∨ isNaN64 b = true) → isNaN64 (FP.dmul a b) = true := fun h => (fp_nan _).mpr (FP.Core.dmul_nan (h.elim (fun q => Or.inl ((fp_nan _).mp q)) (fun q => Or.inr ((fp_nan _).mp q))))
  rcases h1 with h1 | h1
  · rcases h2 with h2 | h2
    · rw [h1, h2]; exact alike64_refl _
    · exact al_iff.mpr (Or.inr ⟨nn (Or.inr h2.1), nn (Or.inr h2.2)⟩)
  · exact al_iff.mpr (Or.inr ⟨nn (Or.inl h1.1), nn (Or.inl h1.2)⟩)
/-- what the evidence is times -/
def a_ev (mu : UInt64) (w : Nat → Nat) (n : Nat) : UInt64 := FP.dmul mu (FP.ddiv (FP.l2d (lN (a_sum w n))) (FP.i2d (nI n)))
/-! A ROW COPIED OVER ANOTHER -/
def fl_cpM (M : fl_M) (a b k : Nat) : fl_M := (fun x => if x = b then va_cpy (M.1 a) (M.1 b) 0 0 k else M.1 x, M.2)
theorem fl_cpM_same (M : fl_M) (a b k : Nat) : (fl_cpM M a b k).1 b = va_cpy (M.1 a) (M.1 b) 0 0 k := if_pos rfl
theorem fl_cpM_ne (M : fl_M) (a b k : Nat) {x : Nat} (h : x ≠ b) : (fl_cpM M a b k).1 x = M.1 x := if_neg h
theorem fl_eq.cp {P : Nat → Prop} {M M2 : fl_M} (h : fl_eq P M M2) (a : Nat) {b : Nat} (hc : ¬ P b) (k : Nat) : fl_eq P M (fl_cpM M2 a b k) := fun x hx => by
  have : x ≠ b := fun q => hc (q ▸ hx)
  exact ⟨(fl_cpM_ne M2 a b k this).trans (h x hx).1, (h x hx).2.1, (h x hx).2.2.1, (h x hx).2.2.2⟩
section FLC
variable {p : Program} {l : Launch} {e : Env} {R : Room} {s : State} {m : MethodId} {args : Array Value} {below : List Frame} {meth : Method} {c : Code} {H : Heap} {locs : List Loc} {cells slots : Nat} {Q : State → Prop}
variable {cc : ByteArray} {pc : Nat} {ls : Array Slot} {rest : List Value} {D : va_G} {H0 : Heap} {ad : Nat → Nat} {M : fl_M} {cI cJ cII : ClassId}
theorem fc_copy (hexec : p.tables.exec = Jvm.exec) (hb : c.code = cc) (hml : c.maxLocals = ls.size) {own : String} {index : Nat} (hown : s.vm.findClass own = some m.cls) (hlink : (Cond.methodLink own index arraycopyName).before args s = true) (hnat : (Cond.native arraycopyName).before args s = true) (hstat : (Cond.static arraycopyName).before args s = true) (hini : (Cond.initialized "java/lang/System").before args s = true)
    (hK : va_K D vwCl (fl_tys cI cJ cII) s) (hJ : fl_inj 62 ad) (hP : va_P D vwCl (fcP cI cII ad M) H) (hS : va_S (fl_A 62 ad) H0 H locs) {a b k n1 n2 : Nat} (ha : fc_len a = n1) (hbb : fc_len b = n2) (h1 : k ≤ n1) (h2 : k ≤ n2) (hk0 : 0 < k) (hk : k < 2 ^ 31)
    (hframes : 1 ≤ R.frames) (hlocals : (rest.map fun v => v.category).sum + (nativeFrameWords "java/lang/System" "arraycopy" 5 + 11) ≤ R.locals) (hdg : decode cc pc = .ok (.invokestatic index, 3))
    (kk : ∀ (H1 : Heap) (locs1 : List Loc), va_P D vwCl (fcP cI cII ad (fl_cpM M a b k)) H1 → va_S (fl_A 62 ad) H0 H1 locs1 → W p l e R s m args below meth c H1 locs1 cells slots Q (F0 m (pc + 3) ls rest)) : W p l e R s m args below meth c H locs cells slots Q (F0 m pc ls (.int (nI k) :: .int 0 :: .ref (ad b) :: .int 0 :: .ref (ad a) :: rest)) := by
  have e0 : (0 : Int32).toNatClampNeg = 0 := rfl
  have ek : (nI k).toNatClampNeg = k := nI_clamp hk
  refine va_copyi hexec hb hml hown hlink hnat hstat hini hK hP (fl_D hJ) hS a b 0 0 (fc_a cI cII ad M ha (by omega)) (fc_a cI cII ad M hbb (by omega)) rfl rfl rfl (by decide) (by decide) (nI_pos hk) (by rw [e0, ek]; omega) (by rw [e0, ek]; omega) (fun i _ => rfl) hframes hlocals hdg (fun H1 locs1 hP1 _ hS1 => kk H1 locs1 ?_ hS1)
  rw [e0, ek] at hP1
  rw [fl_setp (M' := fl_cpM M a b k)] at hP1
  · exact hP1
  · rw [(fc_arr cI cII ad (fl_cpM M a b k) hbb (by omega)).2, fl_cpM_same]
  · intro j hj
    exact fc_loc cI cII ad _ _ j (fl_cpM_ne M a b k hj) rfl rfl rfl
end FLC
theorem fc_hb_two {a b : Nat} (ha : a = 15 ∨ a = 18) (hb : b = 15 ∨ b = 18) (h : a ≠ b) : (fc_hb a = 30 ∧ fc_hb b = 46) ∨ (fc_hb a = 46 ∧ fc_hb b = 30) := by
  rcases ha with rfl | rfl <;> rcases hb with rfl | rfl
  · exact absurd rfl h
  · exact Or.inl ⟨rfl, rfl⟩
  · exact Or.inr ⟨rfl, rfl⟩
  · exact absurd rfl h
/-- the cells that a drawing anew leaves alone, but for the draws -/
def fc_PA (c : Nat) : Prop := c < 8 ∨ (9 ≤ c ∧ c ≤ 12) ∨ (19 ≤ c ∧ c < 30)
/-- what becoming the picked rows changes, so far -/
def fc_PX (M : fl_M) (c : Nat) : Prop := c ≠ M.2.2.2 8 10 ∧ c ≠ M.2.2.2 8 11 ∧ ¬ (fc_hb (M.2.2.2 8 12) ≤ c ∧ c < fc_hb (M.2.2.2 8 12) + 16)
def fc_BP (M : fl_M) (sp : Nat) (st og : Nat → Nat) (hi : Nat → Nat → Nat) (i : Nat) (M3 : fl_M) : Prop := fl_row (M3.1 (M.2.2.2 8 10)) (fun k => st (og k)) i 6 ∧ fl_row (M3.1 (M.2.2.2 8 11)) (fun _ => 1) i 1000001 ∧ (∀ k, k < i → fl_row (M3.1 (fc_hb (M.2.2.2 8 12) + k)) (hi (og k)) (sp + 1) 6) ∧ fl_eq (fc_PX M) M M3
theorem fc_BP_s {M M3 : fl_M} {sp n i : Nat} {st og : Nat → Nat} {hi : Nat → Nat → Nat} (hsw : fc_sw (M.2.2.2 8)) (hn : n ≤ 16) (hin : i < n) (hol : ∀ k, k < n → og k < n) (hst : fl_row (M.1 (M.2.2.2 8 7)) st n 6) (hhi : ∀ k, k < n → fl_row (M.1 (fc_hb (M.2.2.2 8 9) + k)) (hi k) (sp + 1) 6) (h : fc_BP M sp st og hi i M3) :
    fc_BP M sp st og hi (i + 1) (fl_cpM (fl_sI (fl_sI M3 (M.2.2.2 8 10) i (nI (st (og i)))) (M.2.2.2 8 11) i 1) (fc_hb (M.2.2.2 8 9) + og i) (fc_hb (M.2.2.2 8 12) + i) (sp + 1)) := by
  obtain ⟨g1, g2, g3, g4⟩ := h
  have s1 := hsw.s1
  have s2 := hsw.s2
  have s3 := hsw.s3
  have hb := fc_hb_two s3.1 s3.2.1 s3.2.2
  have ho := hol i hin
  refine ⟨?_, ?_, ?_, ?_⟩
  · rw [fl_cpM_ne _ _ _ _ (by omega), fl_sI_ne _ _ _ _ (by omega), fl_sI_same]
    exact g1.push rfl (hst _ ho).2
  · rw [fl_cpM_ne _ _ _ _ (by omega), fl_sI_same, fl_sI_ne _ _ _ _ (by omega)]
    exact fl_row.push (v := 1) g2 rfl (by decide)
  · intro k hk
    by_cases e : k = i
    · subst e
      rw [fl_cpM_same]
      intro j hj
      rw [sb_cpy0 hj, fl_sI_ne _ _ _ _ (by omega), fl_sI_ne _ _ _ _ (by omega), (g4 (fc_hb (M.2.2.2 8 9) + og k) (by unfold fc_PX; omega)).1]
      exact hhi _ ho j hj
    · rw [fl_cpM_ne _ _ _ _ (by omega), fl_sI_ne _ _ _ _ (by omega), fl_sI_ne _ _ _ _ (by omega)]
      exact g3 k (by omega)
  · refine ((g4.sI ?_ _ _).sI ?_ _ _).cp _ ?_ _
    · exact fun q => q.1 rfl
    · exact fun q => q.2.1 rfl
    · unfold fc_PX
      omega
/-- the memory after all rows have been exchanged -/
abbrev fc_swq (M : fl_M) : fl_M := fl_sR (fl_sR (fc_swp M) 8 9 ((fc_swp M).2.2.2 8 12)) 8 12 ((fc_swp M).2.2.2 8 9)
theorem fc_BP_R {r : a_R} {M M3 : fl_M} {og : Nat → Nat} (h : fc_R r M) (hB : fc_BP M (r_sp r) (r_st r) og (r_hi r) (r_n r) M3) (hog : fl_row (M.1 12) og (r_n r) 16) (han : r_an r + 1 < 2 ^ 30) (kp : Option Nat) (hkp : ∀ k, kp = some k → k < r_n r) (z : Int32) (hz : z = a_oI kp (-1000009)) (M4 : fl_M) (hM4 : M4 = fl_sI (fl_sI (fc_swq M3) 8 5 z) 8 4 (nI (r_an r + 1)) ∨ (M4 = fl_sI (fc_swq M3) 8 4 (nI (r_an r + 1)) ∧ M.1 8 5 = z)) :
    fc_R (r_n r, r_sp r, r_an r + 1, kp, r_mu r, (fun k => r_st r (og k)), (fun _ => 1), (fun k => r_hi r (og k)), og) M4 := by
  obtain ⟨⟨h1, h2⟩, ⟨h3, h4⟩, ⟨h5, h6⟩, ⟨h7, h8⟩, h9, h10, h11, h12, h13, h14⟩ := h
  obtain ⟨g1, g2, g3, g4⟩ := hB
  have s1 := h10.s1
  have s2 := h10.s2
  have s3 := h10.s3
  have hb := fc_hb_two s3.1 s3.2.1 s3.2.2
  have e8 := g4 8 (by unfold fc_PX; omega)
  have eR : M3.2.2.2 8 = M.2.2.2 8 := e8.2.2.2
  have keep : ∀ c, c ≠ 8 → M4.1 c = M3.1 c := fun c hc => by
    rcases hM4 with q | q
    · rw [q, fl_sI_ne _ _ _ _ hc, fl_sI_ne _ _ _ _ hc]; rfl
    · rw [q.1, fl_sI_ne _ _ _ _ hc]; rfl
  have q2 : M4.1 8 2 = nI (r_n r) := by
    rcases hM4 with q | q
    · rw [q]; show M3.1 8 2 = _; rw [e8.1]; exact h2
    · rw [q.1]; show M3.1 8 2 = _; rw [e8.1]; exact h2
  have q3 : M4.1 8 3 = nI (r_sp r) := by
    rcases hM4 with q | q
    · rw [q]; show M3.1 8 3 = _; rw [e8.1]; exact h4
    · rw [q.1]; show M3.1 8 3 = _; rw [e8.1]; exact h4
  have q4 : M4.1 8 4 = nI (r_an r + 1) := by
    rcases hM4 with q | q
    · rw [q]; rfl
    · rw [q.1]; rfl
  have q5 : M4.1 8 5 = z := by
    rcases hM4 with q | q
    · rw [q]; rfl
    · rw [q.1]; show M3.1 8 5 = _; rw [e8.1]; exact q.2
  have q6 : M4.2.2.1 8 = M.2.2.1 8 := by
    rcases hM4 with q | q
    · rw [q]; exact e8.2.2.1
    · rw [q.1]; exact e8.2.2.1
  have qR : M4.2.2.2 8 = (fc_swq M3).2.2.2 8 := by
    rcases hM4 with q | q
    · rw [q]; rfl
    · rw [q.1]; rfl
  have w7 : M4.2.2.2 8 7 = M.2.2.2 8 10 := by rw [qR]; show M3.2.2.2 8 10 = _; rw [eR]
  have w8 : M4.2.2.2 8 8 = M.2.2.2 8 11 := by rw [qR]; show M3.2.2.2 8 11 = _; rw [eR]
  have w9 : M4.2.2.2 8 9 = M.2.2.2 8 12 := by rw [qR]; show M3.2.2.2 8 12 = _; rw [eR]
  have w10 : M4.2.2.2 8 10 = M.2.2.2 8 7 := by rw [qR]; show M3.2.2.2 8 7 = _; rw [eR]
  have w11 : M4.2.2.2 8 11 = M.2.2.2 8 8 := by rw [qR]; show M3.2.2.2 8 8 = _; rw [eR]
  have w12 : M4.2.2.2 8 12 = M.2.2.2 8 9 := by rw [qR]; show M3.2.2.2 8 9 = _; rw [eR]
  refine ⟨⟨h1, q2⟩, ⟨h3, q3⟩, ⟨han, q4⟩, ⟨by rw [q5]; exact hz, hkp⟩, by rw [q6]; exact h9, ?_, ?_, ?_, ?_, ?_⟩
  · unfold fc_sw at h10 ⊢
    rw [w7, w8, w9, w10, w11, w12]
    omega
  · rw [w7, keep _ (by omega)]; exact g1
  · rw [w8, keep _ (by omega)]; exact g2
  · intro k hk
    have hk' : k < r_n r := hk
    rw [w9, keep _ (by omega)]; exact g3 k hk'
  · intro _
    rw [keep 12 (by decide), (g4 12 (by unfold fc_PX; omega)).1]; exact hog
theorem fc_R.mu {r : a_R} {M : fl_M} (h : fc_R r M) {x mu : UInt64} (hx : alike64 x mu = true) : fc_R (r_n r, r_sp r, r_an r, r_kp r, mu, r_st r, r_wt r, r_hi r, r_og r) (fl_sG M 8 x) := by
  obtain ⟨h1, h3, h5, h7, h9, h10, h11, h12, h13, h14⟩ := h
  exact ⟨h1, h3, h5, h7, hx, h10, h11, h12, h13, h14⟩
theorem fc_R.og {r : a_R} {M M2 : fl_M} (h : fc_R r M) (he : fl_eq (fun c => c ≠ 12) M M2) {og : Nat → Nat} (ho : fl_row (M2.1 12) og (r_n r) 16) : fc_R (r_n r, r_sp r, r_an r, r_kp r, r_mu r, r_st r, r_wt r, r_hi r, og) M2 := by
  obtain ⟨⟨h1, h2⟩, ⟨h3, h4⟩, ⟨h5, h6⟩, ⟨h7, h8⟩, h9, h10, h11, h12, h13, h14⟩ := h
  have s1 := h10.s1
  have s2 := h10.s2
  have e8 := he 8 (by decide)
  refine ⟨⟨h1, by rw [e8.1]; exact h2⟩, ⟨h3, by rw [e8.1]; exact h4⟩, ⟨h5, by rw [e8.1]; exact h6⟩, ⟨by rw [e8.1]; exact h7, h8⟩, by rw [e8.2.2.1]; exact h9, by rw [e8.2.2.2]; exact h10, ?_, ?_, ?_, fun _ => ho⟩
  · rw [e8.2.2.2, (he (M.2.2.2 8 7) (by omega)).1]; exact h11
  · rw [e8.2.2.2, (he (M.2.2.2 8 8) (by omega)).1]; exact h12
  · intro k hk
    have hb := fc_hb_in (M.2.2.2 8 9) k (Nat.lt_of_lt_of_le hk h1)
    rw [e8.2.2.2, (he (fc_hb (M.2.2.2 8 9) + k) (by omega)).1]; exact h13 k hk
theorem fc_R.W {r : a_R} {M : fl_M} (h : fc_R r M) (hn : 0 < r_n r) : fc_W (r_n r) (r_kp r) (r_wt r) M := ⟨⟨hn, h.1.1, h.1.2⟩, h.2.2.2.1, h.2.2.2.2.2.1.s2.1, h.2.2.2.2.2.2.2.1⟩
def a_kp (kp : Option Nat) (og : Nat → Nat) (n : Nat) : Option Nat := match kp with
  | none => none
  | some k => a_find og k n
def a_rA (r : a_R) (t : Nat → Nat) : a_R := (r_n r, r_sp r, r_an r + 1, a_kp (r_kp r) (a_ord t (r_n r)) (r_n r), a_ev (r_mu r) (r_wt r) (r_n r), (fun k => r_st r (a_ord t (r_n r) k)), (fun _ => 1), (fun k => r_hi r (a_ord t (r_n r) k)), a_ord t (r_n r))
/-- drawn anew by a way -/
def a_anew (way : Nat) (d : a_D) (r : a_R) : Int32 × a_D × a_R := if a_sum (r_wt r) (r_n r) = 0 then (-1000004, d, r) else (nI (a_unl (a_picks way (r_kp r) (r_n r) (r_wt r) d).1 (r_n r)), (a_picks way (r_kp r) (r_n r) (r_wt r) d).2, a_rA r (a_picks way (r_kp r) (r_n r) (r_wt r) d).1)
def fc_PC (c : Nat) : Prop := c < 6 ∨ c = 7 ∨ c = 9 ∨ (19 ≤ c ∧ c < 30)
end
section
set_option maxHeartbeats 4000000 in
set_option maxRecDepth 100000 in
theorem c_X1_pick (l : Launch) {D : va_G} {cI cJ cII : ClassId} {ad : Nat → Nat} (hJ : fl_inj 62 ad) (M : fl_M) (n : Nat) (kp : Option Nat) (w : Nat → Nat) (hW : fc_W n kp w M) (wy : Nat) (hwy : wy < 4) (d : a_D) (hd : fc_D d M) (hT0 : 0 < a_sum w n) : Met l yX1_pick wsX1_pick ({ frames := 4, cells := 0, slots := 0, locals := 95 } : Room) (fcPc D cI cJ cII ad M [.ref (ad 9), .int (nI wy), .ref (ad 8), .ref (ad 6)]) (va_Qv (fun M2 => fl_row (M2.1 10) (a_picks wy kp n w d).1 n 65 ∧ fc_D (a_picks wy kp n w d).2 M2 ∧ fl_eq fc_PP M M2) (fcQ D cI cII ad) (fl_A 62 ad)) 0 0 (fl_A 62 ad) := by
  refine Met.ofW (cc := cX1_pick) (maxL := 4) (ret := none) (by decide) rfl ?_
  intro p e s m args below meth c s₁ B hml hv
  obtain ⟨rfl, hP, hK, hN⟩ := hv
  have hx := B.exec
  have hb := B.bytes
  have hr := B.returns
  have hts := atoms_spec (ws := wsX1_pick) B.pre
  have hown : s.vm.findClass RX1 = some m.cls := findClass_of_methodNamed B.named
  have hlocks := B.notSynchronized
  have inX1 : ∀ w ∈ u_ws RX1 TX1 2, w ∈ wsX1_pick := by decide +kernel
  have inX2 : ∀ w ∈ u_ws RX2 TX2 13, w ∈ wsX1_pick := by decide +kernel
  have hS : va_S (fl_A 62 ad) s.heap s.heap [] := va_S.rf
  have hl := lv_entry ([.ref (ad 9), .int (nI wy), .ref (ad 8), .ref (ad 6)] : List Value) (n := 4) (Nat.le_of_ble_eq_true rfl)
  rw [lg_entry_eq]
  generalize (lg_sl ([.ref (ad 9), .int (nI wy), .ref (ad 8), .ref (ad 6)] : List Value) ++ List.replicate (4 - (lg_sl ([.ref (ad 9), .int (nI wy), .ref (ad 8), .ref (ad 6)] : List Value)).length) Slot.unset).toArray = ls at hl ⊢
  have hl : lv_has ls 4 [(0, .ref (ad 9)), (1, .int (nI wy)), (2, .ref (ad 8)), (3, .ref (ad 6))] := hl
  obtain ⟨⟨hn0, hn, hn1⟩, ⟨hkp, hkl⟩, hw8, hww⟩ := id hW
  refine lv_aload_n hx hb dX1_pick_0 rfl (lv_at hl 0 rfl) ?_
  refine va_get (D := D) (ci := 3) (v := .ref (ad 10)) (C := RX1) (T := TX1) (N := 2) hx hb hts inX1 hown hK hP 9 (fl_at (by decide) rfl) rfl 0 (by decide) (hts (.fieldLink RX1 9 "ResampledRows$Picks" "times" "[I") (by decide +kernel)) (fun _ h9 => h9) rfl dX1_pick_1 ?_
  refine lv_iconst (v := 0) hx hb dX1_pick_4 (by decide) ?_
  refine va_callv (va_runS (As := [.ref (ad 10), .int 0]) (rest := []) ⟨hx, hb, hml, hown, hts⟩ (c_J7_fill_53178 l hJ M 10 16 0 rfl (by decide)) (va_cwS 2 hts gX1_pick_J7_fill_53178 rfl rfl rfl (by decide +kernel) ⟨Nat.le_of_ble_eq_true rfl, Nat.le_of_ble_eq_true rfl⟩) ⟨fl_blind, fl_pre hP hK hN⟩ rfl rfl hl.1 rfl (lv_room (Nat.le_of_ble_eq_true rfl)) dX1_pick_5 ⟨Nat.le_of_ble_eq_true rfl, Nat.le_of_ble_eq_true rfl⟩) hS (fun _ _ h => h) (fun _ h => h) (fun M5 t H1 locs ht hvm hw hB hz1 hk1 hS => ?_)
  have hP : va_P D vwCl (fcP cI cII ad M5) H1 := by rw [← ht]; exact hB
  clear hB hk1 hz1 hvm ht t
  rw [hw] at hP
  have he5 : fl_eq fc_PP M (fl_fM M 10 0 16) := fl_fM_eq fl_eq.rf (fun z => z.2.1 rfl) _ _
  have hW5 := hW.eq he5
  have hd5 : fc_D d (fl_fM M 10 0 16) := hd.eq (P := fun c => c = 6 ∨ c = 7) (fl_fM_eq fl_eq.rf (by decide) _ _) (Or.inl rfl) (Or.inr rfl)
  have h10 : fl_row ((fl_fM M 10 0 16).1 10) (fun _ => 0) n 1 := fun k hk => ⟨fl_fM_same M 10 0 16 (by omega), Nat.zero_lt_one⟩
  refine lv_iload_n hx hb dX1_pick_8 rfl (lv_at hl 1 rfl) ?_
  rcases (show wy = 0 ∨ wy = 1 ∨ wy = 2 ∨ wy = 3 by omega) with h0 | h1 | h2 | h3
  · have hpk : a_picks wy kp n w d = a_pick (a_f0 w n) (n - a_k0 kp) (a_k0 kp) (a_t0 kp, d) := by rw [h0]; rfl
    refine lv_tableIn (off := 27) (tgt := 36) hx hb dX1_pick_9 (by rw [h0]; decide) (by rw [h0]; decide) (by rw [h0]; decide) (by decide) ?_
    refine lv_aload_n hx hb dX1_pick_36 rfl (lv_at hl 0 rfl) ?_
    refine lv_aload_n hx hb dX1_pick_37 rfl (lv_at hl 2 rfl) ?_
    refine lv_aload_n hx hb dX1_pick_38 rfl (lv_at hl 3 rfl) ?_
    refine va_callv (va_runV (As := [.ref (ad 8), .ref (ad 6)]) (rest := []) ⟨hx, hb, hml, hown, hts⟩ (c_X1_pickEachByWeights l hJ (fl_fM M 10 0 16) n kp w hW5 d hd5 hT0 h10) (cwV 2 hts gX1_pick_X1_pickEachByWeights rfl rfl rfl (by decide +kernel) ⟨Nat.le_of_ble_eq_true rfl, Nat.le_of_ble_eq_true rfl⟩) ⟨fl_blind, va_recv hK hP (ci := 3) (q0 := 9) rfl (fl_at (by decide) rfl), fl_pre hP hK hN⟩ rfl rfl hl.1 rfl (lv_room (Nat.le_of_ble_eq_true rfl)) dX1_pick_39 ⟨Nat.le_of_ble_eq_true rfl, Nat.le_of_ble_eq_true rfl⟩) hS (fun _ _ h => h) (fun _ h => h) (fun M39 t H1 locs ht hvm hw hB hz1 hk1 hS => ?_)
    have hP : va_P D vwCl (fcP cI cII ad M39) H1 := by rw [← ht]; exact hB
    clear hB hk1 hz1 hvm ht t
    obtain ⟨hr9, hD9, he9⟩ := hw
    refine lv_goto (tgt := 81) hx hb dX1_pick_42 (by decide) ?_
    exact W.vret hx hb hr (fun t ht hW => ⟨⟨M39, rfl, ⟨by rw [hpk]; exact hr9.lt (by decide), by rw [hpk]; exact hD9, he5.tr he9⟩, fl_qi ht hP⟩, hS.F ht⟩) hS.2.2 dX1_pick_81
  · have hpk : a_picks wy kp n w d = a_pick (a_f1 w n) (n - a_k0 kp) (a_k0 kp) (a_t0 kp, d) := by rw [h1]; rfl
    refine lv_tableIn (off := 36) (tgt := 45) hx hb dX1_pick_9 (by rw [h1]; decide) (by rw [h1]; decide) (by rw [h1]; decide) (by decide) ?_
    refine lv_aload_n hx hb dX1_pick_45 rfl (lv_at hl 0 rfl) ?_
    refine lv_aload_n hx hb dX1_pick_46 rfl (lv_at hl 2 rfl) ?_
    refine lv_aload_n hx hb dX1_pick_47 rfl (lv_at hl 3 rfl) ?_
    refine va_callv (va_runV (As := [.ref (ad 8), .ref (ad 6)]) (rest := []) ⟨hx, hb, hml, hown, hts⟩ (c_X1_pickWithDrawsOfTheirOwn l hJ (fl_fM M 10 0 16) n kp w hW5 d hd5 hT0 h10) (cwV 2 hts gX1_pick_X1_pickWithDrawsOfTheirOwn rfl rfl rfl (by decide +kernel) ⟨Nat.le_of_ble_eq_true rfl, Nat.le_of_ble_eq_true rfl⟩) ⟨fl_blind, va_recv hK hP (ci := 3) (q0 := 9) rfl (fl_at (by decide) rfl), fl_pre hP hK hN⟩ rfl rfl hl.1 rfl (lv_room (Nat.le_of_ble_eq_true rfl)) dX1_pick_48 ⟨Nat.le_of_ble_eq_true rfl, Nat.le_of_ble_eq_true rfl⟩) hS (fun _ _ h => h) (fun _ h => h) (fun M48 t H1 locs ht hvm hw hB hz1 hk1 hS => ?_)
    have hP : va_P D vwCl (fcP cI cII ad M48) H1 := by rw [← ht]; exact hB
    clear hB hk1 hz1 hvm ht t
    obtain ⟨hr9, hD9, he9⟩ := hw
    refine lv_goto (tgt := 81) hx hb dX1_pick_51 (by decide) ?_
    exact W.vret hx hb hr (fun t ht hW => ⟨⟨M48, rfl, ⟨by rw [hpk]; exact hr9.lt (by decide), by rw [hpk]; exact hD9, he5.tr he9⟩, fl_qi ht hP⟩, hS.F ht⟩) hS.2.2 dX1_pick_81
  · have hpk : a_picks wy kp n w d = a_pick (a_f2 w n ((a_next d).1 % a_sum w n)) (n - a_k0 kp) (a_k0 kp) (a_t0 kp, (a_next d).2) := by rw [h2]; rfl
    refine lv_tableIn (off := 45) (tgt := 54) hx hb dX1_pick_9 (by rw [h2]; decide) (by rw [h2]; decide) (by rw [h2]; decide) (by decide) ?_
    refine lv_aload_n hx hb dX1_pick_54 rfl (lv_at hl 0 rfl) ?_
    refine lv_aload_n hx hb dX1_pick_55 rfl (lv_at hl 2 rfl) ?_
    refine lv_aload_n hx hb dX1_pick_56 rfl (lv_at hl 3 rfl) ?_
    refine va_callv (va_runV (As := [.ref (ad 8), .ref (ad 6)]) (rest := []) ⟨hx, hb, hml, hown, hts⟩ (c_X1_pickWithOneDraw l hJ (fl_fM M 10 0 16) n kp w hW5 d hd5 hT0 h10) (cwV 2 hts gX1_pick_X1_pickWithOneDraw rfl rfl rfl (by decide +kernel) ⟨Nat.le_of_ble_eq_true rfl, Nat.le_of_ble_eq_true rfl⟩) ⟨fl_blind, va_recv hK hP (ci := 3) (q0 := 9) rfl (fl_at (by decide) rfl), fl_pre hP hK hN⟩ rfl rfl hl.1 rfl (lv_room (Nat.le_of_ble_eq_true rfl)) dX1_pick_57 ⟨Nat.le_of_ble_eq_true rfl, Nat.le_of_ble_eq_true rfl⟩) hS (fun _ _ h => h) (fun _ h => h) (fun M57 t H1 locs ht hvm hw hB hz1 hk1 hS => ?_)
    have hP : va_P D vwCl (fcP cI cII ad M57) H1 := by rw [← ht]; exact hB
    clear hB hk1 hz1 hvm ht t
    obtain ⟨hr9, hD9, he9⟩ := hw
    refine lv_goto (tgt := 81) hx hb dX1_pick_60 (by decide) ?_
    exact W.vret hx hb hr (fun t ht hW => ⟨⟨M57, rfl, ⟨by rw [hpk]; exact hr9.lt (by decide), by rw [hpk]; exact hD9, he5.tr he9⟩, fl_qi ht hP⟩, hS.F ht⟩) hS.2.2 dX1_pick_81
  · have hpk : a_picks wy kp n w d = (a_putin kp n (a_pick (a_f0 (a_rests w n) n) (n - a_sum (a_parts w n) n) 0 (a_parts w n, d)).1, (a_pick (a_f0 (a_rests w n) n) (n - a_sum (a_parts w n) n) 0 (a_parts w n, d)).2) := by rw [h3]; rfl
    refine lv_tableOut (tgt := 63) hx hb dX1_pick_9 (Or.inr (by rw [h3]; decide)) (by decide) ?_
    refine lv_aload_n hx hb dX1_pick_63 rfl (lv_at hl 0 rfl) ?_
    refine lv_aload_n hx hb dX1_pick_64 rfl (lv_at hl 2 rfl) ?_
    refine lv_aload_n hx hb dX1_pick_65 rfl (lv_at hl 3 rfl) ?_
    refine va_callv (va_runV (As := [.ref (ad 8), .ref (ad 6)]) (rest := []) ⟨hx, hb, hml, hown, hts⟩ (c_X1_pickByPartsAndRests l hJ (fl_fM M 10 0 16) n kp w hW5 d hd5 hT0) (cwV 2 hts gX1_pick_X1_pickByPartsAndRests rfl rfl rfl (by decide +kernel) ⟨Nat.le_of_ble_eq_true rfl, Nat.le_of_ble_eq_true rfl⟩) ⟨fl_blind, va_recv hK hP (ci := 3) (q0 := 9) rfl (fl_at (by decide) rfl), fl_pre hP hK hN⟩ rfl rfl hl.1 rfl (lv_room (Nat.le_of_ble_eq_true rfl)) dX1_pick_66 ⟨Nat.le_of_ble_eq_true rfl, Nat.le_of_ble_eq_true rfl⟩) hS (fun _ _ h => h) (fun _ h => h) (fun M66 t H1 locs ht hvm hw hB hz1 hk1 hS => ?_)
    have hP : va_P D vwCl (fcP cI cII ad M66) H1 := by rw [← ht]; exact hB
    clear hB hk1 hz1 hvm ht t
    obtain ⟨hr9, hD9, he9⟩ := hw
    have hW66 := hW5.eq he9
    have hk66 := hW66.2.1.1
    have hn66 := hW66.1.2.2
    refine lv_aload_n hx hb dX1_pick_69 rfl (lv_at hl 0 rfl) ?_
    refine lv_aload_n hx hb dX1_pick_70 rfl (lv_at hl 2 rfl) ?_
    refine va_get (D := D) (ci := 4) (v := .int (M66.1 8 5)) (C := RX2) (T := TX2) (N := 13) hx hb hts inX2 hown hK hP 8 (fl_at (by decide) rfl) rfl 5 (by decide) (hts (.fieldLink RX1 37 "ResampledRows$Run" "kept" "I") (by decide +kernel)) (fun _ h9 => h9) rfl dX1_pick_71 ?_
    refine fl_ti (y := a_oI kp (-1000009)) hk66 ?_
    refine lv_aload_n hx hb dX1_pick_74 rfl (lv_at hl 2 rfl) ?_
    refine va_get (D := D) (ci := 4) (v := .int (M66.1 8 2)) (C := RX2) (T := TX2) (N := 13) hx hb hts inX2 hown hK hP 8 (fl_at (by decide) rfl) rfl 2 (by decide) (hts (.fieldLink RX1 43 "ResampledRows$Run" "n" "I") (by decide +kernel)) (fun _ h9 => h9) rfl dX1_pick_75 ?_
    refine fl_ti (y := nI n) hn66 ?_
    refine va_callv (va_runV (As := [.int (a_oI kp (-1000009)), .int (nI n)]) (rest := []) ⟨hx, hb, hml, hown, hts⟩ (c_X1_putIn l hJ M66 n kp _ hn0 hn hkl hr9 (by rw [a_parts_sum hT0]; exact hn0)) (cwV 2 hts gX1_pick_X1_putIn rfl rfl rfl (by decide +kernel) ⟨Nat.le_of_ble_eq_true rfl, Nat.le_of_ble_eq_true rfl⟩) ⟨fl_blind, va_recv hK hP (ci := 3) (q0 := 9) rfl (fl_at (by decide) rfl), fl_pre hP hK hN⟩ rfl rfl hl.1 rfl (lv_room (Nat.le_of_ble_eq_true rfl)) dX1_pick_78 ⟨Nat.le_of_ble_eq_true rfl, Nat.le_of_ble_eq_true rfl⟩) hS (fun _ _ h => h) (fun _ h => h) (fun M78 t H1 locs ht hvm hw hB hz1 hk1 hS => ?_)
    have hP : va_P D vwCl (fcP cI cII ad M78) H1 := by rw [← ht]; exact hB
    clear hB hk1 hz1 hvm ht t
    obtain ⟨hr7, he7⟩ := hw
    exact W.vret hx hb hr (fun t ht hW => ⟨⟨M78, rfl, ⟨by rw [hpk]; exact hr7, by rw [hpk]; exact hD9.eq he7 (by decide) (by decide), (he5.tr he9).tr (he7.mono (fun c hc => hc.2.1))⟩, fl_qi ht hP⟩, hS.F ht⟩) hS.2.2 dX1_pick_81

set_option maxHeartbeats 4000000 in
set_option maxRecDepth 100000 in
theorem c_X2_becomePicked (l : Launch) {D : va_G} {cI cJ cII : ClassId} {ad : Nat → Nat} (hJ : fl_inj 62 ad) (M : fl_M) (r : a_R) (og : Nat → Nat) (hr0 : fc_R r M) (hog : fl_row (M.1 12) og (r_n r) 16) (hol : ∀ k, k < r_n r → og k < r_n r) : Met l yX2_becomePicked wsX2_becomePicked ({ frames := 1, cells := 0, slots := 0, locals := 64 } : Room) (fcPc D cI cJ cII ad M [.ref (ad 8)]) (va_Qv (fun M2 => ∃ M3, fc_BP M (r_sp r) (r_st r) og (r_hi r) (r_n r) M3 ∧ M2 = fc_swq M3) (fcQ D cI cII ad) (fl_A 62 ad)) 0 0 (fl_A 62 ad) := by
  refine Met.ofW (cc := cX2_becomePicked) (maxL := 3) (ret := none) (by decide) rfl ?_
  intro p e s m args below meth c s₁ B hml hv
  obtain ⟨rfl, hP, hK, hN⟩ := hv
  have hx := B.exec
  have hb := B.bytes
  have hr := B.returns
  have hts := atoms_spec (ws := wsX2_becomePicked) B.pre
  have hown : s.vm.findClass RX2 = some m.cls := findClass_of_methodNamed B.named
  have hlocks := B.notSynchronized
  have inX2 : ∀ w ∈ u_ws RX2 TX2 13, w ∈ wsX2_becomePicked := by decide +kernel
  have hS : va_S (fl_A 62 ad) s.heap s.heap [] := va_S.rf
  have hl := lv_entry ([.ref (ad 8)] : List Value) (n := 3) (Nat.le_of_ble_eq_true rfl)
  rw [lg_entry_eq]
  generalize (lg_sl ([.ref (ad 8)] : List Value) ++ List.replicate (3 - (lg_sl ([.ref (ad 8)] : List Value)).length) Slot.unset).toArray = ls at hl ⊢
  have hl : lv_has ls 3 [(0, .ref (ad 8))] := hl
  obtain ⟨⟨h1, h2⟩, ⟨h3, h4⟩, -, -, -, h10, h11, h12, h13, -⟩ := id hr0
  have s1 := h10.s1
  have s2 := h10.s2
  have s3 := h10.s3
  refine lv_iconst (v := 0) hx hb dX2_becomePicked_0 (by decide) ?_
  refine lv_istore_n (lv' := [(1, .int 0), (0, .ref (ad 8))]) hx hb dX2_becomePicked_1 rfl hl (by decide) rfl (fun ls hl => ?_)
  suffices KL2 : ∀ (f : Nat) (i : Nat) (M3 : fl_M) (hi : i ≤ r_n r) (hB : fc_BP M (r_sp r) (r_st r) og (r_hi r) i M3) (hf : r_n r + 1 ≤ i + f), ∀ (H : Heap) (locs : List Loc), va_P D vwCl (fcP cI cII ad M3) H → va_S (fl_A 62 ad) s.heap H locs → ∀ (ls : Array Slot), lv_has ls 3 [(0, .ref (ad 8)), (1, .int (nI i))] → W p l e (headSpec wsX2_becomePicked ({ frames := 1, cells := 0, slots := 0, locals := 64 } : Room)).room s m ([.ref (ad 8)] : List Value).toArray below meth c H locs 0 0 (MQ below (va_Qv (fun M2 => ∃ M3, fc_BP M (r_sp r) (r_st r) og (r_hi r) (r_n r) M3 ∧ M2 = fc_swq M3) (fcQ D cI cII ad) (fl_A 62 ad)) ([.ref (ad 8)] : List Value).toArray s 0 0 (fl_A 62 ad)) (F0 m 2 ls []) from KL2 (r_n r + 1) 0 M (Nat.zero_le _) (⟨fun k hk => absurd hk (Nat.not_lt_zero k), fun k hk => absurd hk (Nat.not_lt_zero k), fun k hk => absurd hk (Nat.not_lt_zero k), fl_eq.rf⟩) (by omega) _ _ hP hS ls (lv_sub hl [1, 0] rfl)
  intro f
  induction f with
  | zero =>
    intro i M3 hi hB hf
    omega
  | succ f ih2 =>
    intro i M3 hi hB hf H locs hP hS ls hl
    have hb3 := fc_hb_two s3.1 s3.2.1 s3.2.2
    have e8 := hB.2.2.2 8 (by unfold fc_PX; omega)
    have hn3 : M3.1 8 2 = nI (r_n r) := by rw [e8.1]; exact h2
    have hR3 : M3.2.2.2 8 = M.2.2.2 8 := e8.2.2.2
    refine lv_iload_n hx hb dX2_becomePicked_2 rfl (lv_at hl 1 rfl) ?_
    refine lv_aload_n hx hb dX2_becomePicked_3 rfl (lv_at hl 0 rfl) ?_
    refine va_get (D := D) (ci := 4) (v := .int (M3.1 8 2)) (C := RX2) (T := TX2) (N := 13) hx hb hts inX2 hown hK hP 8 (fl_at (by decide) rfl) rfl 2 (by decide) (hts (.fieldLink RX2 51 "ResampledRows$Run" "n" "I") (by decide +kernel)) (fun _ h9 => h9) rfl dX2_becomePicked_4 ?_
    refine fl_ti (y := nI (r_n r)) hn3 ?_
    refine lv_icmp_ge (tgt := 63) hx hb dX2_becomePicked_7 (by decide) (fun hc7 => ?_) (fun hc7 => ?_)
    · have e7 : i = r_n r := Nat.le_antisymm hi ((nI_leI (by omega) (by omega)).mp hc7)
      have hBn : fc_BP M (r_sp r) (r_st r) og (r_hi r) (r_n r) M3 := e7 ▸ hB
      refine lv_aload_n hx hb dX2_becomePicked_63 rfl (lv_at hl 0 rfl) ?_
      refine va_callv (va_runV (As := []) (rest := []) ⟨hx, hb, hml, hown, hts⟩ (c_X2_takeNextStatesAndWeights l hJ M3) (cwV 0 hts gX2_becomePicked_X2_takeNextStatesAndWeights rfl rfl rfl (by decide +kernel) ⟨Nat.le_of_ble_eq_true rfl, Nat.le_of_ble_eq_true rfl⟩) ⟨fl_blind, va_recv hK hP (ci := 4) (q0 := 8) rfl (fl_at (by decide) rfl), fl_pre hP hK hN⟩ rfl rfl hl.1 rfl (lv_room (Nat.le_of_ble_eq_true rfl)) dX2_becomePicked_64 ⟨Nat.le_of_ble_eq_true rfl, Nat.le_of_ble_eq_true rfl⟩) hS (fun _ _ h => h) (fun _ h => h) (fun M64 t H1 locs ht hvm hw hB hz1 hk1 hS => ?_)
      have hP : va_P D vwCl (fcP cI cII ad M64) H1 := by rw [← ht]; exact hB
      clear hB hk1 hz1 hvm ht t
      rw [hw] at hP
      refine lv_aload_n hx hb dX2_becomePicked_67 rfl (lv_at hl 0 rfl) ?_
      refine va_get (D := D) (ci := 4) (v := .ref (ad ((fc_swp M3).2.2.2 8 9))) (C := RX2) (T := TX2) (N := 13) hx hb hts inX2 hown hK hP 8 (fl_at (by decide) rfl) rfl 9 (by decide) (hts (.fieldLink RX2 39 "ResampledRows$Run" "histories" "[[I") (by decide +kernel)) (fun _ h9 => h9) rfl dX2_becomePicked_68 ?_
      refine lv_astore_n (lv' := [(1, .ref (ad ((fc_swp M3).2.2.2 8 9))), (0, .ref (ad 8))]) hx hb dX2_becomePicked_71 rfl hl (by decide) rfl (fun ls hl => ?_)
      refine lv_aload_n hx hb dX2_becomePicked_72 rfl (lv_at hl 1 rfl) ?_
      refine lv_aload_n hx hb dX2_becomePicked_73 rfl (lv_at hl 1 rfl) ?_
      refine va_get (D := D) (ci := 4) (v := .ref (ad ((fc_swp M3).2.2.2 8 12))) (C := RX2) (T := TX2) (N := 13) hx hb hts inX2 hown hK hP 8 (fl_at (by decide) rfl) rfl 12 (by decide) (hts (.fieldLink RX2 48 "ResampledRows$Run" "nextHistories" "[[I") (by decide +kernel)) (fun _ h9 => h9) rfl dX2_becomePicked_74 ?_
      refine fl_put (ci := 4) (ty := .array (.array .int)) (v := .ref (ad ((fc_swp M3).2.2.2 8 12))) (C := RX2) (T := TX2) (Nf := 13) hx hb hts inX2 tyX2 tyX2_ok nmX2 hown hK hJ hP hS 8 (by decide) (fl_sR (fc_swp M3) 8 9 ((fc_swp M3).2.2.2 8 12)) rfl rfl 9 (by decide) (hts (.fieldLink RX2 39 "ResampledRows$Run" "histories" "[[I") (by decide +kernel)) (fun _ h9 => h9) rfl (by decide +kernel) rfl rfl (Nat.le_of_ble_eq_true rfl) rfl (fl_sR_o (fc_loc cI cII ad) _ _ _ _) dX2_becomePicked_77 (fun H locs hP hS => ?_)
      refine lv_aload_n hx hb dX2_becomePicked_80 rfl (lv_at hl 1 rfl) ?_
      refine lv_aload_n hx hb dX2_becomePicked_81 rfl (lv_at hl 0 rfl) ?_
      refine fl_put (ci := 4) (ty := .array (.array .int)) (v := .ref (ad ((fc_swp M3).2.2.2 8 9))) (C := RX2) (T := TX2) (Nf := 13) hx hb hts inX2 tyX2 tyX2_ok nmX2 hown hK hJ hP hS 8 (by decide) (fl_sR (fl_sR (fc_swp M3) 8 9 ((fc_swp M3).2.2.2 8 12)) 8 12 ((fc_swp M3).2.2.2 8 9)) rfl rfl 12 (by decide) (hts (.fieldLink RX2 48 "ResampledRows$Run" "nextHistories" "[[I") (by decide +kernel)) (fun _ h9 => h9) rfl (by decide +kernel) rfl rfl (Nat.le_of_ble_eq_true rfl) rfl (fl_sR_o (fc_loc cI cII ad) _ _ _ _) dX2_becomePicked_82 (fun H locs hP hS => ?_)
      exact W.vret hx hb hr (fun t ht hW => ⟨⟨(fl_sR (fl_sR (fc_swp M3) 8 9 ((fc_swp M3).2.2.2 8 12)) 8 12 ((fc_swp M3).2.2.2 8 9)), rfl, ⟨M3, hBn, rfl⟩, fl_qi ht hP⟩, hS.F ht⟩) hS.2.2 dX2_becomePicked_85
    · have l7 : i < r_n r := Nat.lt_of_not_le (fun q => hc7 ((nI_leI (by omega) (by omega)).mpr q))
      have ho := hol i l7
      refine lv_aload_n hx hb dX2_becomePicked_10 rfl (lv_at hl 0 rfl) ?_
      refine va_get (D := D) (ci := 4) (v := .ref (ad 12)) (C := RX2) (T := TX2) (N := 13) hx hb hts inX2 hown hK hP 8 (fl_at (by decide) rfl) rfl 1 (by decide) (hts (.fieldLink RX2 18 "ResampledRows$Run" "origins" "[I") (by decide +kernel)) (fun _ h9 => h9) rfl dX2_becomePicked_11 ?_
      refine lv_iload_n hx hb dX2_becomePicked_14 rfl (lv_at hl 1 rfl) ?_
      refine fl_ild (n := 16) (k := i) hx hb hK hP (fc_a cI cII ad _ rfl (by decide)) rfl rfl (by omega) (by decide) dX2_becomePicked_15 ?_
      refine fl_ti (y := nI (og i)) (by rw [(hB.2.2.2 12 (by unfold fc_PX; omega)).1]; exact (hog i l7).1) ?_
      refine lv_istore_n (lv' := [(2, .int (nI (og i))), (0, .ref (ad 8)), (1, .int (nI i))]) hx hb dX2_becomePicked_16 rfl hl (by decide) rfl (fun ls hl => ?_)
      refine lv_aload_n hx hb dX2_becomePicked_17 rfl (lv_at hl 1 rfl) ?_
      refine va_get (D := D) (ci := 4) (v := .ref (ad (M3.2.2.2 8 10))) (C := RX2) (T := TX2) (N := 13) hx hb hts inX2 hown hK hP 8 (fl_at (by decide) rfl) rfl 10 (by decide) (hts (.fieldLink RX2 42 "ResampledRows$Run" "nextStates" "[I") (by decide +kernel)) (fun _ h9 => h9) rfl dX2_becomePicked_18 ?_
      refine fl_top (y := .ref (ad (M.2.2.2 8 10))) (by rw [hR3]) ?_
      refine lv_iload_n hx hb dX2_becomePicked_21 rfl (lv_at hl 2 rfl) ?_
      refine lv_aload_n hx hb dX2_becomePicked_22 rfl (lv_at hl 1 rfl) ?_
      refine va_get (D := D) (ci := 4) (v := .ref (ad (M3.2.2.2 8 7))) (C := RX2) (T := TX2) (N := 13) hx hb hts inX2 hown hK hP 8 (fl_at (by decide) rfl) rfl 7 (by decide) (hts (.fieldLink RX2 31 "ResampledRows$Run" "states" "[I") (by decide +kernel)) (fun _ h9 => h9) rfl dX2_becomePicked_23 ?_
      refine fl_top (y := .ref (ad (M.2.2.2 8 7))) (by rw [hR3]) ?_
      refine lv_iload_n hx hb dX2_becomePicked_26 rfl (lv_at hl 0 rfl) ?_
      refine fl_ild (n := 16) (k := (og i)) hx hb hK hP (fc_a cI cII ad _ h10.l7 (by decide)) rfl rfl (by omega) (by decide) dX2_becomePicked_27 ?_
      refine fl_ti (y := nI (r_st r (og i))) (by rw [(hB.2.2.2 (M.2.2.2 8 7) (by unfold fc_PX; omega)).1]; exact (h11 _ ho).1) ?_
      refine fl_ist (n := 16) (k := i) (x := nI (r_st r (og i))) hx hb hK hJ hP hS (fc_loc cI cII ad) (fc_a cI cII ad _ h10.l10 (by decide)) (fc_arr cI cII ad _ h10.l10 (by decide)).2 rfl rfl (by omega) (by decide) dX2_becomePicked_28 (fun H locs hP hS => ?_)
      refine lv_aload_n hx hb dX2_becomePicked_29 rfl (lv_at hl 1 rfl) ?_
      refine va_get (D := D) (ci := 4) (v := .ref (ad (M3.2.2.2 8 11))) (C := RX2) (T := TX2) (N := 13) hx hb hts inX2 hown hK hP 8 (fl_at (by decide) rfl) rfl 11 (by decide) (hts (.fieldLink RX2 45 "ResampledRows$Run" "nextWeights" "[I") (by decide +kernel)) (fun _ h9 => h9) rfl dX2_becomePicked_30 ?_
      refine fl_top (y := .ref (ad (M.2.2.2 8 11))) (by rw [hR3]) ?_
      refine lv_iload_n hx hb dX2_becomePicked_33 rfl (lv_at hl 2 rfl) ?_
      refine lv_iconst (v := 1) hx hb dX2_becomePicked_34 (by decide) ?_
      refine fl_ist (n := 16) (k := i) (x := 1) hx hb hK hJ hP hS (fc_loc cI cII ad) (fc_a cI cII ad _ h10.l11 (by decide)) (fc_arr cI cII ad _ h10.l11 (by decide)).2 rfl rfl (by omega) (by decide) dX2_becomePicked_35 (fun H locs hP hS => ?_)
      refine lv_aload_n hx hb dX2_becomePicked_36 rfl (lv_at hl 1 rfl) ?_
      refine va_get (D := D) (ci := 4) (v := .ref (ad (M3.2.2.2 8 9))) (C := RX2) (T := TX2) (N := 13) hx hb hts inX2 hown hK hP 8 (fl_at (by decide) rfl) rfl 9 (by decide) (hts (.fieldLink RX2 39 "ResampledRows$Run" "histories" "[[I") (by decide +kernel)) (fun _ h9 => h9) rfl dX2_becomePicked_37 ?_
      refine fl_top (y := .ref (ad (M.2.2.2 8 9))) (by rw [hR3]) ?_
      refine lv_iload_n hx hb dX2_becomePicked_40 rfl (lv_at hl 0 rfl) ?_
      refine fl_ald (k := (og i)) (f := fun j => ad (fc_hb (M.2.2.2 8 9) + j)) hx hb hK hP (fc_hat cI cII ad _ s3.1) rfl rfl (by omega) (by decide) dX2_becomePicked_41 ?_
      refine lv_iconst (v := 0) hx hb dX2_becomePicked_42 (by decide) ?_
      refine lv_aload_n hx hb dX2_becomePicked_43 rfl (lv_at hl 1 rfl) ?_
      refine va_get (D := D) (ci := 4) (v := .ref (ad (M3.2.2.2 8 12))) (C := RX2) (T := TX2) (N := 13) hx hb hts inX2 hown hK hP 8 (fl_at (by decide) rfl) rfl 12 (by decide) (hts (.fieldLink RX2 48 "ResampledRows$Run" "nextHistories" "[[I") (by decide +kernel)) (fun _ h9 => h9) rfl dX2_becomePicked_44 ?_
      refine fl_top (y := .ref (ad (M.2.2.2 8 12))) (by rw [hR3]) ?_
      refine lv_iload_n hx hb dX2_becomePicked_47 rfl (lv_at hl 2 rfl) ?_
      refine fl_ald (k := i) (f := fun j => ad (fc_hb (M.2.2.2 8 12) + j)) hx hb hK hP (fc_hat cI cII ad _ s3.2.1) rfl rfl (by omega) (by decide) dX2_becomePicked_48 ?_
      refine lv_iconst (v := 0) hx hb dX2_becomePicked_49 (by decide) ?_
      refine lv_aload_n hx hb dX2_becomePicked_50 rfl (lv_at hl 1 rfl) ?_
      refine va_calli (va_runV (As := []) (rest := [.int 0, .ref (ad (fc_hb (M.2.2.2 8 12) + i)), .int 0, .ref (ad (fc_hb (M.2.2.2 8 9) + (og i)))]) ⟨hx, hb, hml, hown, hts⟩ (c_X2_places l hJ (fl_sI (fl_sI M3 (M.2.2.2 8 10) i (nI (r_st r (og i)))) (M.2.2.2 8 11) i 1) (r_sp r) h3 (by rw [fl_sI_ne _ _ _ _ (by omega), fl_sI_ne _ _ _ _ (by omega), e8.1]; exact h4)) (cwV 0 hts gX2_becomePicked_X2_places rfl rfl rfl (by decide +kernel) ⟨Nat.le_of_ble_eq_true rfl, Nat.le_of_ble_eq_true rfl⟩) ⟨fl_blind, va_recv hK hP (ci := 4) (q0 := 8) rfl (fl_at (by decide) rfl), fl_pre hP hK hN⟩ rfl rfl hl.1 rfl (lv_room (Nat.le_of_ble_eq_true rfl)) dX2_becomePicked_51 ⟨Nat.le_of_ble_eq_true rfl, Nat.le_of_ble_eq_true rfl⟩) hS (fun _ _ h => h) (fun _ h => h) (fun r51 M51 t H1 locs ht hvm hw hB hz1 hk1 hS => ?_)
      have hP : va_P D vwCl (fcP cI cII ad M51) H1 := by rw [← ht]; exact hB
      clear hB hk1 hz1 hvm ht t
      obtain ⟨rfl, hE⟩ := hw
      rw [hE] at hP
      refine fc_copy (a := fc_hb (M.2.2.2 8 9) + (og i)) (b := fc_hb (M.2.2.2 8 12) + i) (k := (r_sp r + 1)) hx hb (hml.trans hl.1.symm) hown (hts (.methodLink RX2 114 arraycopyName) (by decide +kernel)) (hts (.native arraycopyName) (by decide +kernel)) (hts (.static arraycopyName) (by decide +kernel)) (hts (.initialized "java/lang/System") (by decide +kernel)) hK hJ hP hS (fc_hb_len (by omega)) (fc_hb_len (by omega)) (by omega) (by omega) (by omega) (by omega) (Nat.le_of_ble_eq_true rfl) (Nat.le_of_ble_eq_true rfl) dX2_becomePicked_54 (fun H locs hP hS => ?_)
      refine lv_iinc (v := nI (i + 1)) (lv' := [(1, .int (nI (i + 1))), (2, .int (nI (og i))), (0, .ref (ad 8))]) hx hb dX2_becomePicked_57 hl (k := 2) rfl (fl_inc i) (by decide) rfl (fun ls hl => ?_)
      refine lv_goto (tgt := 2) hx hb dX2_becomePicked_60 (by decide) ?_
      exact ih2 (i + 1) (fl_cpM (fl_sI (fl_sI M3 (M.2.2.2 8 10) i (nI (r_st r (og i)))) (M.2.2.2 8 11) i 1) (fc_hb (M.2.2.2 8 9) + (og i)) (fc_hb (M.2.2.2 8 12) + i) (r_sp r + 1)) (by omega) (fc_BP_s h10 h1 l7 hol h11 h13 hB) (by omega) _ _ hP hS ls (lv_sub hl [2, 0] rfl)

set_option maxHeartbeats 4000000 in
set_option maxRecDepth 100000 in
theorem c_X2_evidenceSoFar (l : Launch) {D : va_G} {cI cJ cII : ClassId} {ad : Nat → Nat} (hJ : fl_inj 62 ad) (M : fl_M) (n : Nat) (w : Nat → Nat) (hn : n ≤ 16) (hn1 : M.1 8 2 = nI n) (hw8 : fc_len (M.2.2.2 8 8) = 16) (hw : fl_row (M.1 (M.2.2.2 8 8)) w n 1000001) (mu : UInt64) (hmu : alike64 (M.2.2.1 8) mu = true) : MetD lw_cs l yX2_evidenceSoFar wsX2_evidenceSoFar ({ frames := 2, cells := 0, slots := 0, locals := 44 } : Room) (fcPc D cI cJ cII ad M [.ref (ad 8)]) (va_Qd (fun r M2 => alike64 r (a_ev mu w n) = true ∧ M2 = M) (fcQ D cI cII ad) (fl_A 62 ad)) 0 0 (fl_A 62 ad) := by
  refine MetD.ofW (cc := cX2_evidenceSoFar) (maxL := 1) (ret := (some .double)) (by decide) rfl ?_
  intro p e s m args below meth c s₁ B hml hv hd0
  obtain ⟨rfl, hP, hK, hN⟩ := hv
  have hx := B.exec
  have hb := B.bytes
  have hr := B.returns
  have hts0 := atoms_spec (ws := wsX2_evidenceSoFar) B.pre
  have hts := dr_words hts0 s.drawn
  have hown : s.vm.findClass RX2 = some m.cls := findClass_of_methodNamed B.named
  have hlocks := B.notSynchronized
  have inX2 : ∀ w ∈ u_ws RX2 TX2 13, w ∈ wsX2_evidenceSoFar := by decide +kernel
  have hS : va_S (fl_A 62 ad) s.heap s.heap [] := va_S.rf
  have hl := lv_entry ([.ref (ad 8)] : List Value) (n := 1) (Nat.le_of_ble_eq_true rfl)
  rw [lg_entry_eq]
  generalize (lg_sl ([.ref (ad 8)] : List Value) ++ List.replicate (1 - (lg_sl ([.ref (ad 8)] : List Value)).length) Slot.unset).toArray = ls at hl ⊢
  have hl : lv_has ls 1 [(0, .ref (ad 8))] := hl
  have hd0 := hd0
  have hw0 := hw
  refine lv_aload_n hx hb dX2_evidenceSoFar_0 rfl (lv_at hl 0 rfl) ?_
  refine va_get (D := D) (ci := 4) (v := .double (M.2.2.1 8)) (C := RX2) (T := TX2) (N := 13) hx hb hts inX2 hown hK hP 8 (fl_at (by decide) rfl) rfl 6 (by decide) (hts (.fieldLink RX2 27 "ResampledRows$Run" "multiplied" "D") (by decide +kernel)) (fun _ h9 => h9) rfl dX2_evidenceSoFar_1 ?_
  refine lv_aload_n hx hb dX2_evidenceSoFar_4 rfl (lv_at hl 0 rfl) ?_
  refine va_calll (va_runV (As := []) (rest := [.double (M.2.2.1 8)]) ⟨hx, hb, hml, hown, hts⟩ (c_X2_total l hJ M n w hn hn1 hw8 hw0) (cwV 0 hts gX2_evidenceSoFar_X2_total rfl rfl rfl (by decide +kernel) ⟨Nat.le_of_ble_eq_true rfl, Nat.le_of_ble_eq_true rfl⟩) ⟨fl_blind, va_recv hK hP (ci := 4) (q0 := 8) rfl (fl_at (by decide) rfl), fl_pre hP hK hN⟩ rfl rfl hl.1 rfl (lv_room (Nat.le_of_ble_eq_true rfl)) dX2_evidenceSoFar_5 ⟨Nat.le_of_ble_eq_true rfl, Nat.le_of_ble_eq_true rfl⟩) hS (fun _ _ h => h) (fun _ h => h) (fun r5 M5 t H1 locs ht hvm hw hB hz1 hk1 hS => ?_)
  have hP : va_P D vwCl (fcP cI cII ad M5) H1 := by rw [← ht]; exact hB
  clear hB hk1 hz1 hvm ht t
  obtain ⟨rfl, hE⟩ := hw
  rw [hE] at hP
  refine lv_l2d hx hb dX2_evidenceSoFar_8 ?_
  refine lv_aload_n hx hb dX2_evidenceSoFar_9 rfl (lv_at hl 0 rfl) ?_
  refine va_get (D := D) (ci := 4) (v := .int (M.1 8 2)) (C := RX2) (T := TX2) (N := 13) hx hb hts inX2 hown hK hP 8 (fl_at (by decide) rfl) rfl 2 (by decide) (hts (.fieldLink RX2 51 "ResampledRows$Run" "n" "I") (by decide +kernel)) (fun _ h9 => h9) rfl dX2_evidenceSoFar_10 ?_
  refine fl_ti (y := nI n) hn1 ?_
  refine lv_i2d hx hb dX2_evidenceSoFar_13 ?_
  refine lv_ddiv_any hd0 lw_bits hx hb dX2_evidenceSoFar_14 (fun x1 d1 ha1 hd1 => ?_)
  have hd0 := hd1
  have hts := dr_words hts0 d1
  refine lv_dmul_any hd0 lw_bits hx hb dX2_evidenceSoFar_15 (fun x2 d2 ha2 hd2 => ?_)
  have hd0 := hd2
  have hts := dr_words hts0 d2
  refine W.endD hd0 ?_
  exact W.dret (v := x2) hx hb hr (fun t ht hW => ⟨⟨x2, M, rfl, ⟨al_trans ha2 (al_mul hmu ha1), rfl⟩, fl_qi ht hP⟩, hS.F ht⟩) hS.2.2 dX2_evidenceSoFar_16

set_option maxHeartbeats 4000000 in
set_option maxRecDepth 100000 in
theorem c_X2_drawAnew (l : Launch) {D : va_G} {cI cJ cII : ClassId} {ad : Nat → Nat} (hJ : fl_inj 62 ad) (M : fl_M) (d : a_D) (r : a_R) (wy : Nat) (hwy : wy < 4) (hr0 : fc_R r M) (hn0 : 0 < r_n r) (han : r_an r + 1 < 2 ^ 30) (hd : fc_D d M) : MetD lw_cs l yX2_drawAnew wsX2_drawAnew ({ frames := 5, cells := 0, slots := 0, locals := 118 } : Room) (fcPc D cI cJ cII ad M [.ref (ad 8), .int (nI wy), .ref (ad 6)]) (va_Qi (fun r2 M2 => r2 = (a_anew wy d r).1 ∧ fc_D (a_anew wy d r).2.1 M2 ∧ fc_R (a_anew wy d r).2.2 M2 ∧ fl_eq fc_PC M M2) (fcQ D cI cII ad) (fl_A 62 ad)) 0 0 (fl_A 62 ad) := by
  refine MetD.ofW (cc := cX2_drawAnew) (maxL := 3) (ret := (some .int)) (by decide) rfl ?_
  intro p e s m args below meth c s₁ B hml hv hd0
  obtain ⟨rfl, hP, hK, hN⟩ := hv
  have hx := B.exec
  have hb := B.bytes
  have hr := B.returns
  have hts0 := atoms_spec (ws := wsX2_drawAnew) B.pre
  have hts := dr_words hts0 s.drawn
  have hown : s.vm.findClass RX2 = some m.cls := findClass_of_methodNamed B.named
  have hlocks := B.notSynchronized
  have inX2 : ∀ w ∈ u_ws RX2 TX2 13, w ∈ wsX2_drawAnew := by decide +kernel
  have hS : va_S (fl_A 62 ad) s.heap s.heap [] := va_S.rf
  have hl := lv_entry ([.ref (ad 8), .int (nI wy), .ref (ad 6)] : List Value) (n := 3) (Nat.le_of_ble_eq_true rfl)
  rw [lg_entry_eq]
  generalize (lg_sl ([.ref (ad 8), .int (nI wy), .ref (ad 6)] : List Value) ++ List.replicate (3 - (lg_sl ([.ref (ad 8), .int (nI wy), .ref (ad 6)] : List Value)).length) Slot.unset).toArray = ls at hl ⊢
  have hl : lv_has ls 3 [(0, .ref (ad 8)), (1, .int (nI wy)), (2, .ref (ad 6))] := hl
  have hd0 := hd0
  obtain ⟨⟨h1, h2⟩, ⟨h3, h4⟩, ⟨h5, h6⟩, ⟨h7, h8⟩, h9, h10, h11, h12, h13, h14⟩ := id hr0
  have s1 := h10.s1
  have s2 := h10.s2
  have s3 := h10.s3
  have hb3 := fc_hb_two s3.1 s3.2.1 s3.2.2
  have hTl := (a_Q_le h12 h1).2.1
  refine lv_aload_n hx hb dX2_drawAnew_0 rfl (lv_at hl 0 rfl) ?_
  refine va_calll (va_runV (As := []) (rest := []) ⟨hx, hb, hml, hown, hts⟩ (c_X2_total l hJ M (r_n r) (r_wt r) h1 h2 h10.l8 h12) (cwV 0 hts gX2_drawAnew_X2_total rfl rfl rfl (by decide +kernel) ⟨Nat.le_of_ble_eq_true rfl, Nat.le_of_ble_eq_true rfl⟩) ⟨fl_blind, va_recv hK hP (ci := 4) (q0 := 8) rfl (fl_at (by decide) rfl), fl_pre hP hK hN⟩ rfl rfl hl.1 rfl (lv_room (Nat.le_of_ble_eq_true rfl)) dX2_drawAnew_1 ⟨Nat.le_of_ble_eq_true rfl, Nat.le_of_ble_eq_true rfl⟩) hS (fun _ _ h => h) (fun _ h => h) (fun r1 M1 t H1 locs ht hvm hw hB hz1 hk1 hS => ?_)
  have hP : va_P D vwCl (fcP cI cII ad M1) H1 := by rw [← ht]; exact hB
  clear hB hk1 hz1 hvm ht t
  obtain ⟨rfl, hE⟩ := hw
  rw [hE] at hP
  refine lv_lconst (v := 0) hx hb dX2_drawAnew_4 (by decide) ?_
  refine fl_lne (tgt := 12) hx hb dX2_drawAnew_5 dX2_drawAnew_6 (by decide) (fun hc5 => ?_) (fun hc5 => ?_)
  · have hT0 : 0 < a_sum (r_wt r) (r_n r) := Nat.pos_of_ne_zero (fun z => hc5 (by rw [z]; rfl))
    have hgo : a_anew wy d r = (nI (a_unl (a_picks wy (r_kp r) (r_n r) (r_wt r) d).1 (r_n r)), (a_picks wy (r_kp r) (r_n r) (r_wt r) d).2, a_rA r (a_picks wy (r_kp r) (r_n r) (r_wt r) d).1) := if_neg (by omega)
    have hsum : a_sum (a_picks wy (r_kp r) (r_n r) (r_wt r) d).1 (r_n r) = r_n r := a_picks_sum hn0 h8 hT0
    refine lv_aload_n hx hb dX2_drawAnew_12 rfl (lv_at hl 0 rfl) ?_
    refine lv_aload_n hx hb dX2_drawAnew_13 rfl (lv_at hl 0 rfl) ?_
    refine va_calldD hd0 (va_runV_D (As := []) (rest := [.ref (ad 8)]) ⟨hx, hb, hml, hown, hts⟩ (c_X2_evidenceSoFar l hJ M (r_n r) (r_wt r) h1 h2 h10.l8 h12 (r_mu r) h9) (cwV 0 hts gX2_drawAnew_X2_evidenceSoFar rfl rfl rfl (by decide +kernel) ⟨Nat.le_of_ble_eq_true rfl, Nat.le_of_ble_eq_true rfl⟩) ⟨fl_blind, va_recv hK hP (ci := 4) (q0 := 8) rfl (fl_at (by decide) rfl), fl_pre hP hK hN⟩ rfl rfl hl.1 rfl (lv_room (Nat.le_of_ble_eq_true rfl)) dX2_drawAnew_14 ⟨Nat.le_of_ble_eq_true rfl, Nat.le_of_ble_eq_true rfl⟩) hS (fun _ _ h => h) (fun _ h => h) (fun r14 M14 t H1 locs ht hvm hw hB hz1 hk1 hS d14 hd14 => ?_)
    have hP : va_P D vwCl (fcP cI cII ad M14) H1 := by rw [← ht]; exact hB
    clear hB hk1 hz1 hvm ht t
    have hd0 := hd14
    have hts := dr_words hts0 d14
    obtain ⟨hal, hE⟩ := hw
    rw [hE] at hP
    refine fl_put (ci := 4) (ty := .double) (v := .double r14) (C := RX2) (T := TX2) (Nf := 13) hx hb hts inX2 tyX2 tyX2_ok nmX2 hown hK hJ hP hS 8 (by decide) (fl_sG M 8 r14) rfl rfl 6 (by decide) (hts (.fieldLink RX2 27 "ResampledRows$Run" "multiplied" "D") (by decide +kernel)) (fun _ h9 => h9) rfl (by decide +kernel) rfl rfl (Nat.le_of_ble_eq_true rfl) rfl (fl_sG_o (fc_loc cI cII ad) _ _ _) dX2_drawAnew_17 (fun H locs hP hS => ?_)
    have hr1 : fc_R (r_n r, r_sp r, r_an r, r_kp r, a_ev (r_mu r) (r_wt r) (r_n r), r_st r, r_wt r, r_hi r, r_og r) (fl_sG M 8 r14) := hr0.mu hal
    have hd1 : fc_D d (fl_sG M 8 r14) := hd.eq (P := fun c => c = 6 ∨ c = 7) (fl_eq.rf.sG (by decide) _) (Or.inl rfl) (Or.inr rfl)
    refine lv_aload_n hx hb dX2_drawAnew_20 rfl (lv_at hl 0 rfl) ?_
    refine va_get (D := D) (ci := 4) (v := .ref (ad 9)) (C := RX2) (T := TX2) (N := 13) hx hb hts inX2 hown hK hP 8 (fl_at (by decide) rfl) rfl 0 (by decide) (hts (.fieldLink RX2 12 "ResampledRows$Run" "picks" "LResampledRows$Picks;") (by decide +kernel)) (fun _ h9 => h9) rfl dX2_drawAnew_21 ?_
    refine lv_iload_n hx hb dX2_drawAnew_24 rfl (lv_at hl 1 rfl) ?_
    refine lv_aload_n hx hb dX2_drawAnew_25 rfl (lv_at hl 0 rfl) ?_
    refine lv_aload_n hx hb dX2_drawAnew_26 rfl (lv_at hl 2 rfl) ?_
    refine va_callv (va_runV (As := [.int (nI wy), .ref (ad 8), .ref (ad 6)]) (rest := []) ⟨hx, hb, hml, hown, hts⟩ (c_X1_pick l hJ (fl_sG M 8 r14) (r_n r) (r_kp r) (r_wt r) (hr1.W hn0) wy hwy d hd1 hT0) (cwV 3 hts gX2_drawAnew_X1_pick rfl rfl rfl (by decide +kernel) ⟨Nat.le_of_ble_eq_true rfl, Nat.le_of_ble_eq_true rfl⟩) ⟨fl_blind, va_recv hK hP (ci := 3) (q0 := 9) rfl (fl_at (by decide) rfl), fl_pre hP hK hN⟩ rfl rfl hl.1 rfl (lv_room (Nat.le_of_ble_eq_true rfl)) dX2_drawAnew_27 ⟨Nat.le_of_ble_eq_true rfl, Nat.le_of_ble_eq_true rfl⟩) hS (fun _ _ h => h) (fun _ h => h) (fun M27 t H1 locs ht hvm hw hB hz1 hk1 hS => ?_)
    have hP : va_P D vwCl (fcP cI cII ad M27) H1 := by rw [← ht]; exact hB
    clear hB hk1 hz1 hvm ht t
    obtain ⟨hrow, hD2, he2⟩ := hw
    have hr2 := hr1.eq he2 (fun c hc => by unfold fc_PP; omega)
    have hn27 : M27.1 8 2 = nI (r_n r) := hr2.1.2
    refine lv_aload_n hx hb dX2_drawAnew_30 rfl (lv_at hl 0 rfl) ?_
    refine va_get (D := D) (ci := 4) (v := .ref (ad 9)) (C := RX2) (T := TX2) (N := 13) hx hb hts inX2 hown hK hP 8 (fl_at (by decide) rfl) rfl 0 (by decide) (hts (.fieldLink RX2 12 "ResampledRows$Run" "picks" "LResampledRows$Picks;") (by decide +kernel)) (fun _ h9 => h9) rfl dX2_drawAnew_31 ?_
    refine lv_aload_n hx hb dX2_drawAnew_34 rfl (lv_at hl 0 rfl) ?_
    refine va_get (D := D) (ci := 4) (v := .ref (ad 12)) (C := RX2) (T := TX2) (N := 13) hx hb hts inX2 hown hK hP 8 (fl_at (by decide) rfl) rfl 1 (by decide) (hts (.fieldLink RX2 18 "ResampledRows$Run" "origins" "[I") (by decide +kernel)) (fun _ h9 => h9) rfl dX2_drawAnew_35 ?_
    refine lv_aload_n hx hb dX2_drawAnew_38 rfl (lv_at hl 0 rfl) ?_
    refine va_get (D := D) (ci := 4) (v := .int (M27.1 8 2)) (C := RX2) (T := TX2) (N := 13) hx hb hts inX2 hown hK hP 8 (fl_at (by decide) rfl) rfl 2 (by decide) (hts (.fieldLink RX2 51 "ResampledRows$Run" "n" "I") (by decide +kernel)) (fun _ h9 => h9) rfl dX2_drawAnew_39 ?_
    refine fl_ti (y := nI (r_n r)) hn27 ?_
    refine va_callv (va_runV (As := [.ref (ad 12), .int (nI (r_n r))]) (rest := []) ⟨hx, hb, hml, hown, hts⟩ (c_X1_putInOrder l hJ M27 (r_n r) (a_picks wy (r_kp r) (r_n r) (r_wt r) d).1 h1 hrow hsum) (cwV 2 hts gX2_drawAnew_X1_putInOrder rfl rfl rfl (by decide +kernel) ⟨Nat.le_of_ble_eq_true rfl, Nat.le_of_ble_eq_true rfl⟩) ⟨fl_blind, va_recv hK hP (ci := 3) (q0 := 9) rfl (fl_at (by decide) rfl), fl_pre hP hK hN⟩ rfl rfl hl.1 rfl (lv_room (Nat.le_of_ble_eq_true rfl)) dX2_drawAnew_42 ⟨Nat.le_of_ble_eq_true rfl, Nat.le_of_ble_eq_true rfl⟩) hS (fun _ _ h => h) (fun _ h => h) (fun M42 t H1 locs ht hvm hw hB hz1 hk1 hS => ?_)
    have hP : va_P D vwCl (fcP cI cII ad M42) H1 := by rw [← ht]; exact hB
    clear hB hk1 hz1 hvm ht t
    obtain ⟨hog, he3⟩ := hw
    have hr3 := hr2.og he3 hog
    refine lv_aload_n hx hb dX2_drawAnew_45 rfl (lv_at hl 0 rfl) ?_
    refine va_callv (va_runV (As := []) (rest := []) ⟨hx, hb, hml, hown, hts⟩ (c_X2_becomePicked l hJ M42 _ (a_ord (a_picks wy (r_kp r) (r_n r) (r_wt r) d).1 (r_n r)) hr3 hog (fun k hk => a_ord_lt hsum hk)) (cwV 0 hts gX2_drawAnew_X2_becomePicked rfl rfl rfl (by decide +kernel) ⟨Nat.le_of_ble_eq_true rfl, Nat.le_of_ble_eq_true rfl⟩) ⟨fl_blind, va_recv hK hP (ci := 4) (q0 := 8) rfl (fl_at (by decide) rfl), fl_pre hP hK hN⟩ rfl rfl hl.1 rfl (lv_room (Nat.le_of_ble_eq_true rfl)) dX2_drawAnew_46 ⟨Nat.le_of_ble_eq_true rfl, Nat.le_of_ble_eq_true rfl⟩) hS (fun _ _ h => h) (fun _ h => h) (fun M46 t H1 locs ht hvm hw hB hz1 hk1 hS => ?_)
    have hP : va_P D vwCl (fcP cI cII ad M46) H1 := by rw [← ht]; exact hB
    clear hB hk1 hz1 hvm ht t
    obtain ⟨M3, hB, hE⟩ := hw
    rw [hE] at hP
    have t1 := hr3.2.2.2.2.2.1.s1
    have t2 := hr3.2.2.2.2.2.1.s2
    have t3 := hr3.2.2.2.2.2.1.s3
    have tb := fc_hb_two t3.1 t3.2.1 t3.2.2
    have k8 := hB.2.2.2 8 (by unfold fc_PX; omega)
    have hk3 : (fc_swq M3).1 8 5 = a_oI (r_kp r) (-1000009) := by show M3.1 8 5 = _; rw [k8.1]; exact hr3.2.2.2.1.1
    have hn3 : (fc_swq M3).1 8 2 = nI (r_n r) := by show M3.1 8 2 = _; rw [k8.1]; exact hr3.1.2
    have ha3 : (fc_swq M3).1 8 4 = nI (r_an r) := by show M3.1 8 4 = _; rw [k8.1]; exact hr3.2.2.1.2
    have hog3 : fl_row ((fc_swq M3).1 12) (a_ord (a_picks wy (r_kp r) (r_n r) (r_wt r) d).1 (r_n r)) (r_n r) 16 := by show fl_row (M3.1 12) _ _ _; rw [(hB.2.2.2 12 (by unfold fc_PX; omega)).1]; exact hog
    have ht3 : fl_row ((fc_swq M3).1 10) (a_picks wy (r_kp r) (r_n r) (r_wt r) d).1 (r_n r) 65 := by show fl_row (M3.1 10) _ _ _; rw [(hB.2.2.2 10 (by unfold fc_PX; omega)).1, (he3 10 (by decide)).1]; exact hrow
    have hD3 : fc_D (a_picks wy (r_kp r) (r_n r) (r_wt r) d).2 M3 := (hD2.eq he3 (by decide) (by decide)).eq hB.2.2.2 (by unfold fc_PX; omega) (by unfold fc_PX; omega)
    have hq3 : fl_eq (fun c => c ≠ 8) M3 (fc_swq M3) := (((((fl_eq.rf.sR (fun z => z rfl) _ _).sR (fun z => z rfl) _ _).sR (fun z => z rfl) _ _).sR (fun z => z rfl) _ _).sR (fun z => z rfl) _ _).sR (fun z => z rfl) _ _
    have hE0 : fl_eq fc_PC M M3 := (((fl_eq.rf.sG (by unfold fc_PC; omega) _).tr (he2.mono (fun c hc => by unfold fc_PC at hc; unfold fc_PP; omega))).tr (he3.mono (fun c hc => by unfold fc_PC at hc; omega))).tr (hB.2.2.2.mono (fun c hc => by unfold fc_PC at hc; unfold fc_PX; omega))
    refine lv_aload_n hx hb dX2_drawAnew_49 rfl (lv_at hl 0 rfl) ?_
    refine va_get (D := D) (ci := 4) (v := .int ((fc_swq M3).1 8 5)) (C := RX2) (T := TX2) (N := 13) hx hb hts inX2 hown hK hP 8 (fl_at (by decide) rfl) rfl 5 (by decide) (hts (.fieldLink RX2 23 "ResampledRows$Run" "kept" "I") (by decide +kernel)) (fun _ h9 => h9) rfl dX2_drawAnew_50 ?_
    refine fl_ti (y := a_oI (r_kp r) (-1000009)) hk3 ?_
    refine lv_ldc (v := -1000009) hx hb hown (hts (.constant RX2 22 (-1000009)) (by decide +kernel)) dX2_drawAnew_53 ?_
    refine lv_icmp_eq (tgt := 70) hx hb dX2_drawAnew_55 (by decide) (fun hc55 => ?_) (fun hc55 => ?_)
    · have hkn := a_oI_eq (by decide) h8 h1 hc55
      refine lv_aload_n hx hb dX2_drawAnew_70 rfl (lv_at hl 0 rfl) ?_
      refine lv_dup hx hb dX2_drawAnew_71 rfl ?_
      refine va_get (D := D) (ci := 4) (v := .int ((fc_swq M3).1 8 4)) (C := RX2) (T := TX2) (N := 13) hx hb hts inX2 hown hK hP 8 (fl_at (by decide) rfl) rfl 4 (by decide) (hts (.fieldLink RX2 61 "ResampledRows$Run" "timesAnew" "I") (by decide +kernel)) (fun _ h9 => h9) rfl dX2_drawAnew_72 ?_
      refine fl_ti (y := nI (r_an r)) ha3 ?_
      refine lv_iconst (v := 1) hx hb dX2_drawAnew_75 (by decide) ?_
      refine lv_iadd hx hb dX2_drawAnew_76 ?_
      refine fl_ti (y := nI (r_an r + 1)) (nI_1 _) ?_
      refine fl_put (ci := 4) (ty := .int) (v := .int (nI (r_an r + 1))) (C := RX2) (T := TX2) (Nf := 13) hx hb hts inX2 tyX2 tyX2_ok nmX2 hown hK hJ hP hS 8 (by decide) (fl_sI (fc_swq M3) 8 4 (nI (r_an r + 1))) rfl rfl 4 (by decide) (hts (.fieldLink RX2 61 "ResampledRows$Run" "timesAnew" "I") (by decide +kernel)) (fun _ h9 => h9) rfl (by decide +kernel) rfl rfl (Nat.le_of_ble_eq_true rfl) rfl (fl_sI_o (fc_loc cI cII ad) _ _ _ _) dX2_drawAnew_77 (fun H locs hP hS => ?_)
      refine lv_aload_n hx hb dX2_drawAnew_80 rfl (lv_at hl 0 rfl) ?_
      refine va_get (D := D) (ci := 4) (v := .ref (ad 9)) (C := RX2) (T := TX2) (N := 13) hx hb hts inX2 hown hK hP 8 (fl_at (by decide) rfl) rfl 0 (by decide) (hts (.fieldLink RX2 12 "ResampledRows$Run" "picks" "LResampledRows$Picks;") (by decide +kernel)) (fun _ h9 => h9) rfl dX2_drawAnew_81 ?_
      refine lv_aload_n hx hb dX2_drawAnew_84 rfl (lv_at hl 0 rfl) ?_
      refine va_get (D := D) (ci := 4) (v := .int ((fc_swq M3).1 8 2)) (C := RX2) (T := TX2) (N := 13) hx hb hts inX2 hown hK hP 8 (fl_at (by decide) rfl) rfl 2 (by decide) (hts (.fieldLink RX2 51 "ResampledRows$Run" "n" "I") (by decide +kernel)) (fun _ h9 => h9) rfl dX2_drawAnew_85 ?_
      refine fl_ti (y := nI (r_n r)) hn3 ?_
      refine va_calli (va_runV (As := [.int (nI (r_n r))]) (rest := []) ⟨hx, hb, hml, hown, hts⟩ (c_X1_unlike l hJ (fl_sI (fc_swq M3) 8 4 (nI (r_an r + 1))) (r_n r) (a_picks wy (r_kp r) (r_n r) (r_wt r) d).1 h1 ht3) (cwV 1 hts gX2_drawAnew_X1_unlike rfl rfl rfl (by decide +kernel) ⟨Nat.le_of_ble_eq_true rfl, Nat.le_of_ble_eq_true rfl⟩) ⟨fl_blind, va_recv hK hP (ci := 3) (q0 := 9) rfl (fl_at (by decide) rfl), fl_pre hP hK hN⟩ rfl rfl hl.1 rfl (lv_room (Nat.le_of_ble_eq_true rfl)) dX2_drawAnew_88 ⟨Nat.le_of_ble_eq_true rfl, Nat.le_of_ble_eq_true rfl⟩) hS (fun _ _ h => h) (fun _ h => h) (fun r88 M88 t H1 locs ht hvm hw hB hz1 hk1 hS => ?_)
      have hP : va_P D vwCl (fcP cI cII ad M88) H1 := by rw [← ht]; exact hB
      clear hB hk1 hz1 hvm ht t
      obtain ⟨rfl, hE⟩ := hw
      rw [hE] at hP
      refine W.endD hd0 ?_
      exact W.iret (v := nI (a_unl (a_picks wy (r_kp r) (r_n r) (r_wt r) d).1 (r_n r))) hx hb hr (fun t ht hW => ⟨⟨nI (a_unl (a_picks wy (r_kp r) (r_n r) (r_wt r) d).1 (r_n r)), (fl_sI (fc_swq M3) 8 4 (nI (r_an r + 1))), rfl, ⟨by rw [hgo], by rw [hgo]; exact (hD3.eq (P := fun c => c = 6 ∨ c = 7) (hq3.mono (by omega)) (Or.inl rfl) (Or.inr rfl)).eq (P := fun c => c = 6 ∨ c = 7) (fl_eq.rf.sI (by decide) _ _) (Or.inl rfl) (Or.inr rfl), by rw [hgo]; exact fc_BP_R hr3 hB hog han _ (fun k hk => by rw [hkn] at hk; cases hk) _ rfl _ (Or.inr ⟨rfl, by rw [hkn]; exact hr3.2.2.2.1.1.trans (by rw [hkn]; rfl)⟩), (hE0.tr (hq3.mono (fun c hc => by unfold fc_PC at hc; omega))).sI (by unfold fc_PC; omega) _ _⟩, fl_qi ht hP⟩, hS.F ht⟩) hS.2.2 dX2_drawAnew_91
    · obtain ⟨k, hks⟩ := a_oI_ne hc55
      have hkl := h8 k hks
      refine lv_aload_n hx hb dX2_drawAnew_58 rfl (lv_at hl 0 rfl) ?_
      refine lv_aload_n hx hb dX2_drawAnew_59 rfl (lv_at hl 0 rfl) ?_
      refine lv_aload_n hx hb dX2_drawAnew_60 rfl (lv_at hl 0 rfl) ?_
      refine va_get (D := D) (ci := 4) (v := .int ((fc_swq M3).1 8 5)) (C := RX2) (T := TX2) (N := 13) hx hb hts inX2 hown hK hP 8 (fl_at (by decide) rfl) rfl 5 (by decide) (hts (.fieldLink RX2 23 "ResampledRows$Run" "kept" "I") (by decide +kernel)) (fun _ h9 => h9) rfl dX2_drawAnew_61 ?_
      refine fl_ti (y := a_oI (r_kp r) (-1000009)) hk3 ?_
      refine fl_ti (y := nI k) (by rw [hks]; rfl) ?_
      refine va_calli (va_runV (As := [.int (nI k)]) (rest := [.ref (ad 8)]) ⟨hx, hb, hml, hown, hts⟩ (c_X2_firstThatWas l hJ (fc_swq M3) (r_n r) k (a_ord (a_picks wy (r_kp r) (r_n r) (r_wt r) d).1 (r_n r)) h1 hn3 (by omega) hog3) (cwV 1 hts gX2_drawAnew_X2_firstThatWas rfl rfl rfl (by decide +kernel) ⟨Nat.le_of_ble_eq_true rfl, Nat.le_of_ble_eq_true rfl⟩) ⟨fl_blind, va_recv hK hP (ci := 4) (q0 := 8) rfl (fl_at (by decide) rfl), fl_pre hP hK hN⟩ rfl rfl hl.1 rfl (lv_room (Nat.le_of_ble_eq_true rfl)) dX2_drawAnew_64 ⟨Nat.le_of_ble_eq_true rfl, Nat.le_of_ble_eq_true rfl⟩) hS (fun _ _ h => h) (fun _ h => h) (fun r64 M64 t H1 locs ht hvm hw hB hz1 hk1 hS => ?_)
      have hP : va_P D vwCl (fcP cI cII ad M64) H1 := by rw [← ht]; exact hB
      clear hB hk1 hz1 hvm ht t
      obtain ⟨rfl, hE⟩ := hw
      rw [hE] at hP
      refine fl_put (ci := 4) (ty := .int) (v := .int (a_oI (a_find (a_ord (a_picks wy (r_kp r) (r_n r) (r_wt r) d).1 (r_n r)) k (r_n r)) (-1000009))) (C := RX2) (T := TX2) (Nf := 13) hx hb hts inX2 tyX2 tyX2_ok nmX2 hown hK hJ hP hS 8 (by decide) (fl_sI (fc_swq M3) 8 5 (a_oI (a_find (a_ord (a_picks wy (r_kp r) (r_n r) (r_wt r) d).1 (r_n r)) k (r_n r)) (-1000009))) rfl rfl 5 (by decide) (hts (.fieldLink RX2 23 "ResampledRows$Run" "kept" "I") (by decide +kernel)) (fun _ h9 => h9) rfl (by decide +kernel) rfl rfl (Nat.le_of_ble_eq_true rfl) rfl (fl_sI_o (fc_loc cI cII ad) _ _ _ _) dX2_drawAnew_67 (fun H locs hP hS => ?_)
      refine lv_aload_n hx hb dX2_drawAnew_70 rfl (lv_at hl 0 rfl) ?_
      refine lv_dup hx hb dX2_drawAnew_71 rfl ?_
      refine va_get (D := D) (ci := 4) (v := .int ((fc_swq M3).1 8 4)) (C := RX2) (T := TX2) (N := 13) hx hb hts inX2 hown hK hP 8 (fl_at (by decide) rfl) rfl 4 (by decide) (hts (.fieldLink RX2 61 "ResampledRows$Run" "timesAnew" "I") (by decide +kernel)) (fun _ h9 => h9) rfl dX2_drawAnew_72 ?_
      refine fl_ti (y := nI (r_an r)) ha3 ?_
      refine lv_iconst (v := 1) hx hb dX2_drawAnew_75 (by decide) ?_
      refine lv_iadd hx hb dX2_drawAnew_76 ?_
      refine fl_ti (y := nI (r_an r + 1)) (nI_1 _) ?_
      refine fl_put (ci := 4) (ty := .int) (v := .int (nI (r_an r + 1))) (C := RX2) (T := TX2) (Nf := 13) hx hb hts inX2 tyX2 tyX2_ok nmX2 hown hK hJ hP hS 8 (by decide) (fl_sI (fl_sI (fc_swq M3) 8 5 (a_oI (a_find (a_ord (a_picks wy (r_kp r) (r_n r) (r_wt r) d).1 (r_n r)) k (r_n r)) (-1000009))) 8 4 (nI (r_an r + 1))) rfl rfl 4 (by decide) (hts (.fieldLink RX2 61 "ResampledRows$Run" "timesAnew" "I") (by decide +kernel)) (fun _ h9 => h9) rfl (by decide +kernel) rfl rfl (Nat.le_of_ble_eq_true rfl) rfl (fl_sI_o (fc_loc cI cII ad) _ _ _ _) dX2_drawAnew_77 (fun H locs hP hS => ?_)
      refine lv_aload_n hx hb dX2_drawAnew_80 rfl (lv_at hl 0 rfl) ?_
      refine va_get (D := D) (ci := 4) (v := .ref (ad 9)) (C := RX2) (T := TX2) (N := 13) hx hb hts inX2 hown hK hP 8 (fl_at (by decide) rfl) rfl 0 (by decide) (hts (.fieldLink RX2 12 "ResampledRows$Run" "picks" "LResampledRows$Picks;") (by decide +kernel)) (fun _ h9 => h9) rfl dX2_drawAnew_81 ?_
      refine lv_aload_n hx hb dX2_drawAnew_84 rfl (lv_at hl 0 rfl) ?_
      refine va_get (D := D) (ci := 4) (v := .int ((fc_swq M3).1 8 2)) (C := RX2) (T := TX2) (N := 13) hx hb hts inX2 hown hK hP 8 (fl_at (by decide) rfl) rfl 2 (by decide) (hts (.fieldLink RX2 51 "ResampledRows$Run" "n" "I") (by decide +kernel)) (fun _ h9 => h9) rfl dX2_drawAnew_85 ?_
      refine fl_ti (y := nI (r_n r)) hn3 ?_
      refine va_calli (va_runV (As := [.int (nI (r_n r))]) (rest := []) ⟨hx, hb, hml, hown, hts⟩ (c_X1_unlike l hJ (fl_sI (fl_sI (fc_swq M3) 8 5 (a_oI (a_find (a_ord (a_picks wy (r_kp r) (r_n r) (r_wt r) d).1 (r_n r)) k (r_n r)) (-1000009))) 8 4 (nI (r_an r + 1))) (r_n r) (a_picks wy (r_kp r) (r_n r) (r_wt r) d).1 h1 ht3) (cwV 1 hts gX2_drawAnew_X1_unlike rfl rfl rfl (by decide +kernel) ⟨Nat.le_of_ble_eq_true rfl, Nat.le_of_ble_eq_true rfl⟩) ⟨fl_blind, va_recv hK hP (ci := 3) (q0 := 9) rfl (fl_at (by decide) rfl), fl_pre hP hK hN⟩ rfl rfl hl.1 rfl (lv_room (Nat.le_of_ble_eq_true rfl)) dX2_drawAnew_88 ⟨Nat.le_of_ble_eq_true rfl, Nat.le_of_ble_eq_true rfl⟩) hS (fun _ _ h => h) (fun _ h => h) (fun r88 M88 t H1 locs ht hvm hw hB hz1 hk1 hS => ?_)
      have hP : va_P D vwCl (fcP cI cII ad M88) H1 := by rw [← ht]; exact hB
      clear hB hk1 hz1 hvm ht t
      obtain ⟨rfl, hE⟩ := hw
      rw [hE] at hP
      refine W.endD hd0 ?_
      exact W.iret (v := nI (a_unl (a_picks wy (r_kp r) (r_n r) (r_wt r) d).1 (r_n r))) hx hb hr (fun t ht hW => ⟨⟨nI (a_unl (a_picks wy (r_kp r) (r_n r) (r_wt r) d).1 (r_n r)), (fl_sI (fl_sI (fc_swq M3) 8 5 (a_oI (a_find (a_ord (a_picks wy (r_kp r) (r_n r) (r_wt r) d).1 (r_n r)) k (r_n r)) (-1000009))) 8 4 (nI (r_an r + 1))), rfl, ⟨by rw [hgo], by rw [hgo]; exact (hD3.eq (P := fun c => c = 6 ∨ c = 7) (hq3.mono (by omega)) (Or.inl rfl) (Or.inr rfl)).eq (P := fun c => c = 6 ∨ c = 7) ((fl_eq.rf.sI (by decide) _ _).sI (by decide) _ _) (Or.inl rfl) (Or.inr rfl), by rw [hgo]; exact fc_BP_R hr3 hB hog han _ (fun k2 hk2 => by rw [hks] at hk2; exact (a_find_spec hk2).1) _ (by rw [hks]; rfl) _ (Or.inl rfl), ((hE0.tr (hq3.mono (fun c hc => by unfold fc_PC at hc; omega))).sI (by unfold fc_PC; omega) _ _).sI (by unfold fc_PC; omega) _ _⟩, fl_qi ht hP⟩, hS.F ht⟩) hS.2.2 dX2_drawAnew_91
  · have hT0 : a_sum (r_wt r) (r_n r) = 0 := (pk_lEQ (b := 0) (by omega) (by decide)).mp hc5
    have hgo : a_anew wy d r = (-1000004, d, r) := if_pos hT0
    refine lv_ldc (v := -1000004) hx hb hown (hts (.constant RX2 73 (-1000004)) (by decide +kernel)) dX2_drawAnew_9 ?_
    refine W.endD hd0 ?_
    exact W.iret (v := (-1000004)) hx hb hr (fun t ht hW => ⟨⟨(-1000004), M, rfl, ⟨by rw [hgo], by rw [hgo]; exact hd, by rw [hgo]; exact hr0, fl_eq.rf⟩, fl_qi ht hP⟩, hS.F ht⟩) hS.2.2 dX2_drawAnew_11
end
