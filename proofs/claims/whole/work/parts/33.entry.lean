theorem lw_K {s : State} {b : Nat} (hts : ∀ w ∈ lw_tbl, w.before #[Value.ref b] s = true) : ∃ (D : va_G) (cI cJ cII : ClassId), va_K D vwCl (fl_tys cI cJ cII) s := by
  obtain ⟨c0, iS0, hKn0⟩ := u_known (C := RJ0) (T := TJ0) (N := 2) (n := 4) hts inJ0 (hts (.instantiable RJ0 4) (by decide +kernel))
  obtain ⟨c1, iS1, hKn1⟩ := u_known (C := RJx00060) (T := TJx00060) (N := 6) (n := 6) hts inJx00060 (hts (.instantiable RJx00060 6) (by decide +kernel))
  obtain ⟨c2, iS2, hKn2⟩ := u_known (C := RX0) (T := TX0) (N := 4) (n := 4) hts inX0 (hts (.instantiable RX0 4) (by decide +kernel))
  obtain ⟨c3, iS3, hKn3⟩ := u_known (C := RX1) (T := TX1) (N := 2) (n := 2) hts inX1 (hts (.instantiable RX1 2) (by decide +kernel))
  obtain ⟨c4, iS4, hKn4⟩ := u_known (C := RX2) (T := TX2) (N := 13) (n := 13) hts inX2 (hts (.instantiable RX2 13) (by decide +kernel))
  obtain ⟨c5, iS5, hKn5⟩ := u_known (C := RX3) (T := TX3) (N := 4) (n := 4) hts inX3 (hts (.instantiable RX3 4) (by decide +kernel))
  obtain ⟨c6, iS6, hKn6⟩ := u_known (C := RX4) (T := TX4) (N := 3) (n := 3) hts inX4 (hts (.instantiable RX4 3) (by decide +kernel))
  obtain ⟨c7, iS7, hKn7⟩ := u_known (C := RX5) (T := TX5) (N := 23) (n := 23) hts inX5 (hts (.instantiable RX5 23) (by decide +kernel))
  obtain ⟨cI, kI, oI, f1, f2, f3⟩ := Cond.arrayClass_spec (hts (.arrayClass .int) (by decide +kernel))
  obtain ⟨cJ, kJ, oJ, g1, g2, g3⟩ := Cond.arrayClass_spec (hts (.arrayClass .long) (by decide +kernel))
  obtain ⟨oII, cII, kII, h1, h2, h3, h4⟩ := Cond.arrayOver_specA (hts (.arrayOver (.array .int)) (by decide +kernel))
  refine ⟨(fun k => [c0, c1, c2, c3, c4, c5, c6, c7].getD k c0, fun k => [iS0, iS1, iS2, iS3, iS4, iS5, iS6, iS7].getD k iS0), cI, cJ, cII, fun k q hq => ?_, fun k q hq => ?_⟩
  · match k, hq with
    | 0, hq => cases hq; exact hKn0
    | 1, hq => cases hq; exact hKn1
    | 2, hq => cases hq; exact hKn2
    | 3, hq => cases hq; exact hKn3
    | 4, hq => cases hq; exact hKn4
    | 5, hq => cases hq; exact hKn5
    | 6, hq => cases hq; exact hKn6
    | 7, hq => cases hq; exact hKn7
    | k + 8, hq => simp [vwCl] at hq
  · match k, hq with
    | 0, hq => cases hq; exact ⟨fun n z => ⟨fun k h => (by cases h), kI, f2, oI, f3⟩, f1⟩
    | 1, hq => cases hq; exact ⟨fun n z => ⟨fun k h => (by cases h), kJ, g2, oJ, g3⟩, g1⟩
    | 2, hq => cases hq; exact ⟨fun n z => ⟨fun k h => (by cases h), kII, h2, oII, h3⟩, h4⟩
    | k + 3, hq => simp [fl_tys] at hq
theorem lw_N {s : State} {b : Nat} (hts : ∀ w ∈ lw_tbl, w.before #[Value.ref b] s = true) : ci_N s := by
  have hn : ∀ w ∈ lw_tbl, w.onTables = true → va_Nw w s := fun w h1 h2 => va_tabs h2 rfl (hts w h1)
  exact ⟨⟨hn _ (by decide +kernel) rfl, hn _ (by decide +kernel) rfl, hn _ (by decide +kernel) rfl, hn _ (by decide +kernel) rfl⟩, hts (.arrayOver (.array .int)) (by decide +kernel), hn _ (by decide +kernel) rfl, hn _ (by decide +kernel) rfl, hn _ (by decide +kernel) rfl⟩
theorem lw_hT {s : State} {b : Nat} (hts : ∀ w ∈ lw_tbl, w.before #[Value.ref b] s = true) (hgv : (Jvm.Cond.and given_1 narrow_1).before #[Value.ref b] s = true) : (∃ sa, hw_T sa s) ∧ hw_Z (fun q : Nat => s.heap.size ≤ q) s s.heap := by
  have hn : ∀ w ∈ lw_tbl, w.onTables = true → va_Nw w s := fun w h1 h2 => va_tabs h2 rfl (hts w h1)
  have hs := flat_of_before _ hgv
  have hnA : ∀ a : Nat, a < s.heap.size → ¬ (s.heap.size ≤ a) := fun a h => Nat.not_le.mpr h
  refine ⟨?_, vx_Zqof (hts (.laysStatic Bundle.tN "UNASSIGNED_STACK" Bundle.steD) (by decide +kernel)) (hts (.initialized Bundle.tN) (by decide +kernel)) (hs _ (by decide +kernel)) hnA, vx_Zqof (hts (.laysStatic Bundle.tN "SUPPRESSED_SENTINEL" Bundle.listD) (by decide +kernel)) (hts (.initialized Bundle.tN) (by decide +kernel)) (hs _ (by decide +kernel)) hnA⟩
  have hE : ∃ sa, (Term.string RX4 142).eval #[Value.ref b] s none [] s = some (.ref sa) := by
    obtain ⟨a, c, cell, k, q1, -⟩ := Cond.exactly_spec (hs (.exactly (.string RX4 142) "java/lang/String") (by decide +kernel))
    exact ⟨a, q1⟩
  obtain ⟨sa, hE⟩ := hE
  exact ⟨sa, fun w hw => hn w ((show ∀ w ∈ hw_L, w ∈ lw_tbl by decide +kernel) w hw) (hw_onT w hw), vk_R.of (hts (.stringRef RX4 142 "there is no such place") (by decide +kernel)) hE⟩
