/-! A CALL OF A STATIC METHOD WITH AN EXCEPTION TABLE OF ITS OWN -/
section LHS
variable {p : Program} {l : Launch} {e : Env} {R : Room} {s : State} {m : MethodId} {args : Array Value} {below : List Frame} {meth : Method} {c : Code} {H : Heap} {locs : List Loc} {cells slots : Nat} {y : MethodName} {bytes cc : ByteArray} {maxL nL mc ms index : Nat} {ret : Option FieldType} {hh : List (Nat × Nat × Nat × Nat)} {ws ws' : List Cond} {rm : Room} {Pc : Array Value → State → Prop} {Qc : Array Value → State → Outcome → State → Prop} {free : Addr → Prop} {Ts : List Cond} {own : String} {As rest : List Value} {g : JFrame}
theorem lh_runSW (S : CallFix p m c cc nL s args Ts own) (hM : Met l y ws rm Pc Qc mc ms free) (hT : GoodIn Ts (va_wsS own index y ws)) (hw : ws = Cond.codeWith y bytes maxL ret hh :: ws') (hrc : rm.cells = mc) (hrs : rm.slots = ms)
    (hd : y.cls ≠ "java/lang/invoke/MethodHandle" ∧ y.cls ≠ "java/lang/invoke/VarHandle" ∧ (parseMethodDescriptor y.desc).map (fun d => d.parameters.length) = some As.length) (hR : rm.frames + 1 ≤ R.frames ∧ 8 + (maxL + 11) + rm.locals ≤ R.locals) (hp : PreS s H Pc As)
    (hg : g.method = m) (hsize : g.locals.size = nL) (hstack : g.stack = As.reverse ++ rest) (hW : 2 * g.monitorRoom + (rest.map fun v => v.category).sum ≤ 8) (hdg : decode cc g.pc = .ok (.invokestatic index, 3)) (hf : cells + mc ≤ R.cells ∧ slots + ms ≤ R.slots) :
    va_Run p l e R s m args below meth c H locs cells slots mc ms g rest (Qc As.toArray) (free) := by
  obtain ⟨hx, hb, hml, ho, ht⟩ := S
  have ok : ∀ w ∈ va_wsS own index y ws, w.before args s = true := fun w h => ht w (hT w h).1
  have hG : GoodIn Ts ws := fun w h => hT w (by unfold va_wsS; exact List.mem_append_right _ h)
  have hc : Cond.codeWith y bytes maxL ret hh ∈ ws := by rw [hw]; exact List.mem_cons_self
  have hlink : (Cond.methodLink own index y).before args s = true := ok _ (by simp [va_wsS])
  have hstat : (Cond.static y).before args s = true := ok _ (by simp [va_wsS])
  have hini : (Cond.initialized y.cls).before args s = true := ok _ (by simp [va_wsS])
  have hK : Back l R p e below s args y 3 8 (PreOf R mc ms Pc) (PostOf Qc mc ms free) := va_backW (hh := hh) (bytes := bytes) (maxL := maxL) (ret := ret) hM hp.1 hrc hrs hR.1 hR.2 (pay_in ht hG) hc (fun a' U hW => word_at hW (Or.inl (by first | rfl | simp [Cond.onTables, Cond.keeps, Cond.steady])) hini)
  intro T hT0 X
  obtain ⟨mk, methM, cM, hnamed, hmethM, -, -, -, -, -, -, hsigM⟩ := Cond.codeWith_spec (ht _ (hG _ hc).1)
  have hstatic : methM.isStatic = true := Cond.static_spec hnamed hmethM hstat
  obtain ⟨kP, hkP, -⟩ := className_of_methodNamed hnamed
  have hinitP : kP.init = .initialized := Cond.initialized_spec (findClass_of_methodNamed hnamed) hkP hini
  have hlen : As.length = methM.sig.parameters.length := by
    have h2 := hd.2.2
    rw [hsigM] at h2
    exact (Option.some.inj h2).symm
  obtain ⟨vm₁, X₁, hstep₁⟩ := X.invokestatic hx ho hlink hnamed hmethM hstatic hkP hinitP ⟨hd.1, hd.2.1⟩ (g := g) hg (argsL := As) (rest := rest) hlen hstack (by rw [hb]; exact hdg)
  obtain ⟨v, ⟨U', l2, c2, s2⟩, X', ⟨g', mk2, t, L, e1, e2, hq, h1, hL, h2, h3⟩, hsteps⟩ := hK m meth c ⟨T.setVm vm₁, locs, cells, slots⟩ { g with stack := rest } (.invokestatic index) mk As.toArray X₁ hg (hsize.trans hml.symm) (by rw [hb]; exact hdg) hW (X₁.named hnamed) ⟨hf.1, hf.2, hp.2 (T.setVm vm₁) hT0 X₁.warmed⟩
  dsimp only [Pt.U, Pt.locs, Pt.cells, Pt.slots] at X' e1 e2 h1 h2 h3 hsteps
  subst h1; subst h2; subst h3
  exact ⟨v, (T.setVm vm₁).calling g' mk2 As.toArray, t, U', L, hT0, X', hL, e1, e2, hq, fun target h => hstep₁ _ fun acts => by rw [doInvoke_state]; exact hsteps.trans h⟩
end LHS
/-- what the law's history is given -/
theorem lh_pre {D : va_G} {cI cJ cII : ClassId} {ad am : Nat → Nat} {o : Nat} {fo : Nat → Int64} {Mc Mm : fl_M} {sa : Nat} {av : List Value} {s0 s : State} {H : Heap} {locs : List Loc} (hC : lm_C s0.heap.size ad am o) (hP : lm_P D cI cJ cII ad am o fo Mc Mm H) (hK : va_K D vwCl (fl_tys cI cJ cII) s) (hN : fl_N s) (hTh : hw_T sa s) (hZ : hw_Z (fun q : Nat => s0.heap.size ≤ q) s s0.heap) (hS : va_S (fun q : Nat => s0.heap.size ≤ q) s0.heap H locs) : ∀ U : State, U.heap = H → s.WarmedH U.vm → lh_Pc D cI cJ cII ad o fo Mc sa av av.toArray U :=
  fun U hU hW => ⟨⟨rfl, by rw [hU]; exact lh_cons hP.2.2 hP.1, va_K.moved hW.alike hK, hN.warm hW⟩, hTh.warm hW, by rw [hU]; exact ((hZ.kept hS.2.1).narrow (fun a h => hC.h h)).moved hW.alike⟩
theorem lm_ho {N0 : Nat} {ad am : Nat → Nat} {o : Nat} (hC : lm_C N0 ad am o) : ¬ fl_A 62 ad o := fun ⟨i, hi, e⟩ => hC.2.2.2.2.2.2.1 i hi e.symm
/-- the law's memory at its beginning -/
theorem lm_start {D : va_G} {cI cJ cII : ClassId} {ad am : Nat → Nat} {o N0 : Nat} {fo : Nat → Int64} {Mc Mm : fl_M} {H : Heap} (hJc : fl_inj 62 ad) (hJm : fl_inj 15 am) (hP : va_P D vwCl ((fcP cI cII ad Mc ++ fmP cI cJ am Mm) ++ lm_o cJ o fo) H) (hD : va_D (fun q : Nat => N0 ≤ q) ((fcP cI cII ad Mc ++ fmP cI cJ am Mm) ++ lm_o cJ o fo)) : lm_C N0 ad am o ∧ lm_P D cI cJ cII ad am o fo Mc Mm H := by
  have n1 : (fcP cI cII ad Mc).length = 62 := by simp [fl_pool]
  have n2 : (fmP cI cJ am Mm).length = 15 := by simp [fl_pool]
  have n3 : (fcP cI cII ad Mc ++ fmP cI cJ am Mm).length = 77 := by rw [List.length_append, n1, n2]
  have g1 : ∀ (k : Nat) (q : Nat × va_E), (fcP cI cII ad Mc)[k]? = some q → ((fcP cI cII ad Mc ++ fmP cI cJ am Mm) ++ lm_o cJ o fo)[k]? = some q := fun k q h => by
    have hk : k < 62 := (fl_get h).1
    rw [List.getElem?_append_left (by omega), List.getElem?_append_left (by omega)]
    exact h
  have g2 : ∀ (k : Nat) (q : Nat × va_E), (fmP cI cJ am Mm)[k]? = some q → ((fcP cI cII ad Mc ++ fmP cI cJ am Mm) ++ lm_o cJ o fo)[62 + k]? = some q := fun k q h => by
    have hk : k < 15 := (fl_get h).1
    rw [List.getElem?_append_left (by omega), List.getElem?_append_right (by omega), n1, Nat.add_sub_cancel_left]
    exact h
  have g3 : ∀ (k : Nat) (q : Nat × va_E), (lm_o cJ o fo)[k]? = some q → ((fcP cI cII ad Mc ++ fmP cI cJ am Mm) ++ lm_o cJ o fo)[77 + k]? = some q := fun k q h => by
    rw [List.getElem?_append_right (by omega), n3, Nat.add_sub_cancel_left]
    exact h
  have e1 : ∀ c, c < 62 → ((fcP cI cII ad Mc ++ fmP cI cJ am Mm) ++ lm_o cJ o fo)[c]? = some (ad c, fc_cell cI cII ad Mc c) := fun c hc => g1 c _ (fl_at hc rfl)
  have e2 : ∀ c, c < 15 → ((fcP cI cII ad Mc ++ fmP cI cJ am Mm) ++ lm_o cJ o fo)[62 + c]? = some (am c, fm_cell cI cJ am Mm c) := fun c hc => g2 c _ (fl_at hc rfl)
  have e3 : ((fcP cI cII ad Mc ++ fmP cI cJ am Mm) ++ lm_o cJ o fo)[77 + 0]? = some (o, .inl (cJ, 1, .inr (.inl fo))) := g3 0 _ rfl
  refine ⟨⟨hJc, hJm, fun c hc => hD.2 _ _ (e1 c hc), fun c hc => hD.2 _ _ (e2 c hc), hD.2 _ _ e3, fun i j hi hj h => ?_, fun i hi h => ?_, fun j hj h => ?_⟩, fun k q h => hP _ q (g1 k q h), fun k q h => hP _ q (g2 k q h), fun k q h => hP _ q (g3 k q h)⟩
  · have := hD.1 _ _ _ _ (e1 i hi) (e2 j hj) h
    omega
  · have := hD.1 _ _ _ _ (e1 i hi) e3 h
    omega
  · have := hD.1 _ _ _ _ (e2 j hj) e3 h
    omega
