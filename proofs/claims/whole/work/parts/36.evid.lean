/-- two answers of evidence that are alike: the law's comparison finds no fault -/
theorem ev_cmp {x y v : UInt64} (hx : alike64 x v = true) (hy : alike64 y v = true) : Op.cmpValue (FP.dcmp x y) CmpOp.l = 0 ∨ (¬ Op.cmpValue (FP.dcmp x x) CmpOp.l = 0 ∧ ¬ Op.cmpValue (FP.dcmp y y) CmpOp.l = 0) := by
  rcases al_iff.mp (al_trans hx (al_symm hy)) with e | ⟨h1, h2⟩
  · subst e
    by_cases hn : FP.Core.val64 x = .nan
    · right
      rw [show FP.dcmp x x = none from (FP.Core.dcmp_none x x).mpr (Or.inl hn)]
      exact ⟨by decide, by decide⟩
    · left
      rw [show FP.dcmp x x = some .eq from FP.Core.dcmp_self hn]
      decide
  · right
    rw [show FP.dcmp x x = none from (FP.Core.dcmp_none x x).mpr (Or.inl ((fp_nan x).mp h1)), show FP.dcmp y y = none from (FP.Core.dcmp_none y y).mpr (Or.inl ((fp_nan y).mp h2))]
    exact ⟨by decide, by decide⟩
