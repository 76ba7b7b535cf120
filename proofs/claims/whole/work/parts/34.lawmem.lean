/-! THE LAW'S MEMORY: the class's cells, the reference's, the out row, apart from each other, all made after the start -/
def lm_C (N0 : Nat) (ad am : Nat → Nat) (o : Nat) : Prop := fl_inj 62 ad ∧ fl_inj 15 am ∧ (∀ c, c < 62 → N0 ≤ ad c) ∧ (∀ c, c < 15 → N0 ≤ am c) ∧ N0 ≤ o ∧ (∀ i j, i < 62 → j < 15 → ad i ≠ am j) ∧ (∀ i, i < 62 → ad i ≠ o) ∧ (∀ j, j < 15 → am j ≠ o)
abbrev lm_o (cJ : ClassId) (o : Nat) (fo : Nat → Int64) : va_W := [(o, .inl (cJ, 1, .inr (.inl fo)))]
def lm_P (D : va_G) (cI cJ cII : ClassId) (ad am : Nat → Nat) (o : Nat) (fo : Nat → Int64) (Mc Mm : fl_M) (H : Heap) : Prop := va_P D vwCl (fcP cI cII ad Mc) H ∧ va_P D vwCl (fmP cI cJ am Mm) H ∧ va_P D vwCl (lm_o cJ o fo) H
theorem lm_keptp {D : va_G} {cell : fl_Cell} {N : Nat} {ad : Nat → Nat} {M : fl_M} {H H1 : Heap} {A : Nat → Prop} (hP : va_P D vwCl (fl_pool cell N ad M) H) (hA : ∀ c, c < N → ¬ A (ad c)) (hk : ∀ q : Nat, q < H.size → ¬ A q → H1[q]? = H[q]?) : va_P D vwCl (fl_pool cell N ad M) H1 := hP.kept (fun k q hq => by
  obtain ⟨h1, h2⟩ := fl_get hq
  exact hk q.1 (hP k q hq).lt (by rw [h2]; exact hA k h1))
theorem lm_kepto {D : va_G} {cJ : ClassId} {o : Nat} {fo : Nat → Int64} {H H1 : Heap} {A : Nat → Prop} (hP : va_P D vwCl (lm_o cJ o fo) H) (hA : ¬ A o) (hk : ∀ q : Nat, q < H.size → ¬ A q → H1[q]? = H[q]?) : va_P D vwCl (lm_o cJ o fo) H1 := hP.kept (fun k q hq => by
  have h1 : k < 1 := (List.getElem?_eq_some_iff.mp hq).1
  rw [show k = 0 by omega] at hq
  have e := Option.some.inj hq
  exact hk q.1 (hP 0 q hq).lt (by rw [← e]; exact hA))
section LM
variable {D : va_G} {cI cJ cII : ClassId} {ad am : Nat → Nat} {o N0 : Nat} {fo : Nat → Int64} {Mc Mm : fl_M} {H H1 : Heap}
/-- after a call of the class -/
theorem lm_P.c (hC : lm_C N0 ad am o) (h : lm_P D cI cJ cII ad am o fo Mc Mm H) {M2 : fl_M} (h2 : va_P D vwCl (fcP cI cII ad M2) H1) (hk : ∀ q : Nat, q < H.size → ¬ fl_A 62 ad q → H1[q]? = H[q]?) : lm_P D cI cJ cII ad am o fo M2 Mm H1 := by
  obtain ⟨c1, c2, c3, c4, c5, c6, c7, c8⟩ := hC
  exact ⟨h2, lm_keptp h.2.1 (fun c hc ⟨i, hi, e⟩ => c6 i c hi hc e.symm) hk, lm_kepto h.2.2 (fun ⟨i, hi, e⟩ => c7 i hi e.symm) hk⟩
/-- after a call of the reference -/
theorem lm_P.m (hC : lm_C N0 ad am o) (h : lm_P D cI cJ cII ad am o fo Mc Mm H) {M2 : fl_M} (h2 : va_P D vwCl (fmP cI cJ am M2) H1) (hk : ∀ q : Nat, q < H.size → ¬ fl_A 15 am q → H1[q]? = H[q]?) : lm_P D cI cJ cII ad am o fo Mc M2 H1 := by
  obtain ⟨c1, c2, c3, c4, c5, c6, c7, c8⟩ := hC
  exact ⟨lm_keptp h.1 (fun c hc ⟨i, hi, e⟩ => c6 c i hc hi e) hk, h2, lm_kepto h.2.2 (fun ⟨i, hi, e⟩ => c8 i hi e.symm) hk⟩
/-- after the law's history -/
theorem lm_P.h (hC : lm_C N0 ad am o) (h : lm_P D cI cJ cII ad am o fo Mc Mm H) {f2 : Nat → Int64} {M2 : fl_M} (h2 : va_P D vwCl (lh_pool cI cJ cII ad o f2 M2) H1) (hk : ∀ q : Nat, q < H.size → ¬ lh_A o ad q → H1[q]? = H[q]?) : lm_P D cI cJ cII ad am o f2 M2 Mm H1 := by
  obtain ⟨c1, c2, c3, c4, c5, c6, c7, c8⟩ := hC
  refine ⟨lh_tail h2, lm_keptp h.2.1 (fun c hc ha => ha.elim (fun e => c8 c hc e) (fun ⟨i, hi, e⟩ => c6 i c hi hc e.symm)) hk, fun k q hq => ?_⟩
  have h1 : k < 1 := (List.getElem?_eq_some_iff.mp hq).1
  rw [show k = 0 by omega] at hq
  exact h2 0 q hq
theorem lm_C.c (hC : lm_C N0 ad am o) {q : Nat} (h : fl_A 62 ad q) : N0 ≤ q := by
  obtain ⟨c, hc, rfl⟩ := h
  exact hC.2.2.1 c hc
theorem lm_C.m (hC : lm_C N0 ad am o) {q : Nat} (h : fl_A 15 am q) : N0 ≤ q := by
  obtain ⟨c, hc, rfl⟩ := h
  exact hC.2.2.2.1 c hc
theorem lm_C.h (hC : lm_C N0 ad am o) {q : Nat} (h : lh_A o ad q) : N0 ≤ q := h.elim (fun e => e ▸ hC.2.2.2.2.1) (fun h => hC.c h)
end LM
